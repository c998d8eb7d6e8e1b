/-! the model's reader of THE HOUSE: tool, keeps, wet, clog (wip/zab2/c/geng16.py) -/
set_option maxRecDepth 100000 in
theorem zfo252_0 : zfetch 252 0 = some (.aload_n 0, 1, (0, 0, 0), 0, 0) := by decide +kernel
set_option maxRecDepth 100000 in
theorem zfo252_1 : zfetch 252 1 = some (.invokevirtual 136, 3, (0, 245, 0), 0, 1771) := by decide +kernel
set_option maxRecDepth 100000 in
theorem zfo252_4 : zfetch 252 4 = some (.istore_n 1, 1, (0, 0, 0), 0, 0) := by decide +kernel
set_option maxRecDepth 100000 in
theorem zfo252_5 : zfetch 252 5 = some (.iload_n 1, 1, (0, 0, 0), 0, 0) := by decide +kernel
set_option maxRecDepth 100000 in
theorem zfo252_6 : zfetch 252 6 = some (.ifCond .ge 7, 3, (13, 0, 0), 0, 0) := by decide +kernel
set_option maxRecDepth 100000 in
theorem zfo252_9 : zfetch 252 9 = some (.iconst (-1), 1, (0, 0, 0), (-1), 0) := by decide +kernel
set_option maxRecDepth 100000 in
theorem zfo252_10 : zfetch 252 10 = some (.goto 10, 3, (20, 0, 0), 0, 0) := by decide +kernel
set_option maxRecDepth 100000 in
theorem zfo252_20 : zfetch 252 20 = some (.istore_n 2, 1, (0, 0, 0), 0, 0) := by decide +kernel
set_option maxRecDepth 100000 in
theorem zfo252_21 : zfetch 252 21 = some (.iload_n 2, 1, (0, 0, 0), 0, 0) := by decide +kernel
set_option maxRecDepth 100000 in
theorem zfo252_22 : zfetch 252 22 = some (.ifCond .lt 14, 3, (36, 0, 0), 0, 0) := by decide +kernel
set_option maxRecDepth 100000 in
theorem zfo252_36 : zfetch 252 36 = some (.iload_n 2, 1, (0, 0, 0), 0, 0) := by decide +kernel
set_option maxRecDepth 100000 in
theorem zfo252_37 : zfetch 252 37 = some (.ifCond .lt 7, 3, (44, 0, 0), 0, 0) := by decide +kernel
set_option maxRecDepth 100000 in
theorem zfo252_44 : zfetch 252 44 = some (.iconst 0, 1, (0, 0, 0), 0, 0) := by decide +kernel
set_option maxRecDepth 100000 in
theorem zfo252_45 : zfetch 252 45 = some (.ireturn, 1, (0, 0, 0), 0, 0) := by decide +kernel
set_option maxRecDepth 100000 in
theorem zfo252_13 : zfetch 252 13 = some (.aload_n 0, 1, (0, 0, 0), 0, 0) := by decide +kernel
set_option maxRecDepth 100000 in
theorem zfo252_14 : zfetch 252 14 = some (.iconst 0, 1, (0, 0, 0), 0, 0) := by decide +kernel
set_option maxRecDepth 100000 in
theorem zfo252_15 : zfetch 252 15 = some (.bipush 100, 2, (0, 0, 0), 100, 0) := by decide +kernel
set_option maxRecDepth 100000 in
theorem zfo252_17 : zfetch 252 17 = some (.invokevirtual 130, 3, (0, 241, 0), 0, 1755) := by decide +kernel
set_option maxRecDepth 100000 in
theorem zfo252_25 : zfetch 252 25 = some (.aload_n 0, 1, (0, 0, 0), 0, 0) := by decide +kernel
set_option maxRecDepth 100000 in
theorem zfo252_26 : zfetch 252 26 = some (.getfield 13, 3, (12, 1, 0), 0, 1618) := by decide +kernel
set_option maxRecDepth 100000 in
theorem zfo252_29 : zfetch 252 29 = some (.iload_n 1, 1, (0, 0, 0), 0, 0) := by decide +kernel
set_option maxRecDepth 100000 in
theorem zfo252_30 : zfetch 252 30 = some (.iconst 2, 1, (0, 0, 0), 2, 0) := by decide +kernel
set_option maxRecDepth 100000 in
theorem zfo252_31 : zfetch 252 31 = some (.invokestatic 52, 3, (0, 218, 0), 0, 1763) := by decide +kernel
set_option maxRecDepth 100000 in
theorem zfo252_34 : zfetch 252 34 = some (.iload_n 2, 1, (0, 0, 0), 0, 0) := by decide +kernel
set_option maxRecDepth 100000 in
theorem zfo252_35 : zfetch 252 35 = some (.iastore, 1, (0, 0, 0), 0, 0) := by decide +kernel
set_option maxRecDepth 100000 in
theorem zfo252_40 : zfetch 252 40 = some (.iconst 1, 1, (0, 0, 0), 1, 0) := by decide +kernel
set_option maxRecDepth 100000 in
theorem zfo252_41 : zfetch 252 41 = some (.goto 4, 3, (45, 0, 0), 0, 0) := by decide +kernel
set_option maxRecDepth 100000 in
theorem zfo253_0 : zfetch 253 0 = some (.aload_n 0, 1, (0, 0, 0), 0, 0) := by decide +kernel
set_option maxRecDepth 100000 in
theorem zfo253_1 : zfetch 253 1 = some (.invokevirtual 146, 3, (0, 246, 0), 0, 1804) := by decide +kernel
set_option maxRecDepth 100000 in
theorem zfo253_4 : zfetch 253 4 = some (.istore_n 3, 1, (0, 0, 0), 0, 0) := by decide +kernel
set_option maxRecDepth 100000 in
theorem zfo253_5 : zfetch 253 5 = some (.iload_n 3, 1, (0, 0, 0), 0, 0) := by decide +kernel
set_option maxRecDepth 100000 in
theorem zfo253_6 : zfetch 253 6 = some (.ifCond .ge 7, 3, (13, 0, 0), 0, 0) := by decide +kernel
set_option maxRecDepth 100000 in
theorem zfo253_9 : zfetch 253 9 = some (.iconst (-1), 1, (0, 0, 0), (-1), 0) := by decide +kernel
set_option maxRecDepth 100000 in
theorem zfo253_10 : zfetch 253 10 = some (.goto 9, 3, (19, 0, 0), 0, 0) := by decide +kernel
set_option maxRecDepth 100000 in
theorem zfo253_19 : zfetch 253 19 = some (.istore 4, 2, (0, 0, 0), 0, 0) := by decide +kernel
set_option maxRecDepth 100000 in
theorem zfo253_21 : zfetch 253 21 = some (.iload 4, 2, (0, 0, 0), 0, 0) := by decide +kernel
set_option maxRecDepth 100000 in
theorem zfo253_23 : zfetch 253 23 = some (.ifCond .lt 11, 3, (34, 0, 0), 0, 0) := by decide +kernel
set_option maxRecDepth 100000 in
theorem zfo253_34 : zfetch 253 34 = some (.iload 4, 2, (0, 0, 0), 0, 0) := by decide +kernel
set_option maxRecDepth 100000 in
theorem zfo253_36 : zfetch 253 36 = some (.ifCond .lt 7, 3, (43, 0, 0), 0, 0) := by decide +kernel
set_option maxRecDepth 100000 in
theorem zfo253_43 : zfetch 253 43 = some (.iconst 0, 1, (0, 0, 0), 0, 0) := by decide +kernel
set_option maxRecDepth 100000 in
theorem zfo253_44 : zfetch 253 44 = some (.ireturn, 1, (0, 0, 0), 0, 0) := by decide +kernel
set_option maxRecDepth 100000 in
theorem zfo253_13 : zfetch 253 13 = some (.aload_n 0, 1, (0, 0, 0), 0, 0) := by decide +kernel
set_option maxRecDepth 100000 in
theorem zfo253_14 : zfetch 253 14 = some (.iconst 0, 1, (0, 0, 0), 0, 0) := by decide +kernel
set_option maxRecDepth 100000 in
theorem zfo253_15 : zfetch 253 15 = some (.iload_n 2, 1, (0, 0, 0), 0, 0) := by decide +kernel
set_option maxRecDepth 100000 in
theorem zfo253_16 : zfetch 253 16 = some (.invokevirtual 130, 3, (0, 241, 0), 0, 1755) := by decide +kernel
set_option maxRecDepth 100000 in
theorem zfo253_26 : zfetch 253 26 = some (.aload_n 0, 1, (0, 0, 0), 0, 0) := by decide +kernel
set_option maxRecDepth 100000 in
theorem zfo253_27 : zfetch 253 27 = some (.iload_n 3, 1, (0, 0, 0), 0, 0) := by decide +kernel
set_option maxRecDepth 100000 in
theorem zfo253_28 : zfetch 253 28 = some (.iload_n 1, 1, (0, 0, 0), 0, 0) := by decide +kernel
set_option maxRecDepth 100000 in
theorem zfo253_29 : zfetch 253 29 = some (.iload 4, 2, (0, 0, 0), 0, 0) := by decide +kernel
set_option maxRecDepth 100000 in
theorem zfo253_31 : zfetch 253 31 = some (.invokevirtual 139, 3, (0, 222, 0), 0, 1784) := by decide +kernel
set_option maxRecDepth 100000 in
theorem zfo253_39 : zfetch 253 39 = some (.iconst 1, 1, (0, 0, 0), 1, 0) := by decide +kernel
set_option maxRecDepth 100000 in
theorem zfo253_40 : zfetch 253 40 = some (.goto 4, 3, (44, 0, 0), 0, 0) := by decide +kernel
set_option maxRecDepth 100000 in
theorem zno218 : zat zmi 218 = some (2, 2, 1, 12, 1, 0) := rfl
set_option maxRecDepth 100000 in
theorem zno222 : zat zmi 222 = some (4, 4, 0, 12, 0, 0) := rfl
set_option maxRecDepth 100000 in
theorem zno241 : zat zmi 241 = some (3, 3, 0, 12, 1, 0) := rfl
set_option maxRecDepth 100000 in
theorem zno245 : zat zmi 245 = some (1, 1, 0, 12, 1, 0) := rfl
set_option maxRecDepth 100000 in
theorem zno246 : zat zmi 246 = some (1, 1, 0, 12, 1, 0) := rfl
set_option maxRecDepth 100000 in
theorem tl_0 {E : zE} {n d : Nat} {h h1 : zH} {u1 u2 : Option Value} {a : Int32} (ha : a.toInt < 0) (a84 : zat h.1 84 = some (.inr (.inl (12, [none, some (some 85), some (some 86), some (some 87), some (some 88), some (some 89), none, none, some (some 90), none, none, none, none, none, none, some (some 91), none, some (some 92), some (some 93)])))) (e1 : zex E (n + 12) d 245 0 [some (.ref 84)] [] h = some (.inl (some (.int a)), h1)) : zex E (n + 14) (d + 1) 252 0 [some (.ref 84), u1, u2] [] h = some (.inl (some (.int 0)), h1) :=
  ((yAn zfo252_0 rfl rfl) : zex E (n + 14) (d + 1) 252 0 [some (.ref 84), u1, u2] [] h = zex E (n + 13) (d + 1) 252 1 [some (.ref 84), u1, u2] [.ref 84] h).trans (((zcvg (h := h) (as := []) (r := []) zfo252_1 zno245 rfl a84 rfl e1) : zex E (n + 13) (d + 1) 252 1 [some (.ref 84), u1, u2] [.ref 84] h = zex E (n + 12) (d + 1) 252 4 [some (.ref 84), u1, u2] [.int a] h1).trans (((ySn zfo252_4) : zex E (n + 12) (d + 1) 252 4 [some (.ref 84), u1, u2] [.int a] h1 = zex E (n + 11) (d + 1) 252 5 [some (.ref 84), some (.int a), u2] [] h1).trans (((yIn zfo252_5 rfl) : zex E (n + 11) (d + 1) 252 5 [some (.ref 84), some (.int a), u2] [] h1 = zex E (n + 10) (d + 1) 252 6 [some (.ref 84), some (.int a), u2] [.int a] h1).trans (((zjgF zfo252_6 ha) : zex E (n + 10) (d + 1) 252 6 [some (.ref 84), some (.int a), u2] [.int a] h1 = zex E (n + 9) (d + 1) 252 9 [some (.ref 84), some (.int a), u2] [] h1).trans (((yCi zfo252_9) : zex E (n + 9) (d + 1) 252 9 [some (.ref 84), some (.int a), u2] [] h1 = zex E (n + 8) (d + 1) 252 10 [some (.ref 84), some (.int a), u2] [.int (-1)] h1).trans (((yGo zfo252_10) : zex E (n + 8) (d + 1) 252 10 [some (.ref 84), some (.int a), u2] [.int (-1)] h1 = zex E (n + 7) (d + 1) 252 20 [some (.ref 84), some (.int a), u2] [.int (-1)] h1).trans (((ySn zfo252_20) : zex E (n + 7) (d + 1) 252 20 [some (.ref 84), some (.int a), u2] [.int (-1)] h1 = zex E (n + 6) (d + 1) 252 21 [some (.ref 84), some (.int a), some (.int (-1))] [] h1).trans (((yIn zfo252_21 rfl) : zex E (n + 6) (d + 1) 252 21 [some (.ref 84), some (.int a), some (.int (-1))] [] h1 = zex E (n + 5) (d + 1) 252 22 [some (.ref 84), some (.int a), some (.int (-1))] [.int (-1)] h1).trans (((zjlT zfo252_22 (by decide)) : zex E (n + 5) (d + 1) 252 22 [some (.ref 84), some (.int a), some (.int (-1))] [.int (-1)] h1 = zex E (n + 4) (d + 1) 252 36 [some (.ref 84), some (.int a), some (.int (-1))] [] h1).trans (((yIn zfo252_36 rfl) : zex E (n + 4) (d + 1) 252 36 [some (.ref 84), some (.int a), some (.int (-1))] [] h1 = zex E (n + 3) (d + 1) 252 37 [some (.ref 84), some (.int a), some (.int (-1))] [.int (-1)] h1).trans (((zjlT zfo252_37 (by decide)) : zex E (n + 3) (d + 1) 252 37 [some (.ref 84), some (.int a), some (.int (-1))] [.int (-1)] h1 = zex E (n + 2) (d + 1) 252 44 [some (.ref 84), some (.int a), some (.int (-1))] [] h1).trans (((yCi zfo252_44) : zex E (n + 2) (d + 1) 252 44 [some (.ref 84), some (.int a), some (.int (-1))] [] h1 = zex E (n + 1) (d + 1) 252 45 [some (.ref 84), some (.int a), some (.int (-1))] [.int 0] h1).trans (((yRet2 zfo252_45 rfl (Or.inl rfl)) : zex E (n + 1) (d + 1) 252 45 [some (.ref 84), some (.int a), some (.int (-1))] [.int 0] h1 = some (.inl (some (.int 0)), h1)))))))))))))))
set_option maxRecDepth 100000 in
theorem tl_1 {E : zE} {n d : Nat} {h h1 h2 : zH} {u1 u2 : Option Value} {a y : Int32} (ha : 0 ≤ a.toInt) (hy : y.toInt < 0) (a84 : zat h.1 84 = some (.inr (.inl (12, [none, some (some 85), some (some 86), some (some 87), some (some 88), some (some 89), none, none, some (some 90), none, none, none, none, none, none, some (some 91), none, some (some 92), some (some 93)])))) (a84_h1 : zat h1.1 84 = some (.inr (.inl (12, [none, some (some 85), some (some 86), some (some 87), some (some 88), some (some 89), none, none, some (some 90), none, none, none, none, none, none, some (some 91), none, some (some 92), some (some 93)])))) (e1 : zex E (n + 14) d 245 0 [some (.ref 84)] [] h = some (.inl (some (.int a)), h1)) (e2 : zex E (n + 7) d 241 0 [some (.ref 84), some (.int 0), some (.int 100)] [] h1 = some (.inl (some (.int y)), h2)) : zex E (n + 16) (d + 1) 252 0 [some (.ref 84), u1, u2] [] h = some (.inl (some (.int 0)), h2) :=
  ((yAn zfo252_0 rfl rfl) : zex E (n + 16) (d + 1) 252 0 [some (.ref 84), u1, u2] [] h = zex E (n + 15) (d + 1) 252 1 [some (.ref 84), u1, u2] [.ref 84] h).trans (((zcvg (h := h) (as := []) (r := []) zfo252_1 zno245 rfl a84 rfl e1) : zex E (n + 15) (d + 1) 252 1 [some (.ref 84), u1, u2] [.ref 84] h = zex E (n + 14) (d + 1) 252 4 [some (.ref 84), u1, u2] [.int a] h1).trans (((ySn zfo252_4) : zex E (n + 14) (d + 1) 252 4 [some (.ref 84), u1, u2] [.int a] h1 = zex E (n + 13) (d + 1) 252 5 [some (.ref 84), some (.int a), u2] [] h1).trans (((yIn zfo252_5 rfl) : zex E (n + 13) (d + 1) 252 5 [some (.ref 84), some (.int a), u2] [] h1 = zex E (n + 12) (d + 1) 252 6 [some (.ref 84), some (.int a), u2] [.int a] h1).trans (((zjgT zfo252_6 ha) : zex E (n + 12) (d + 1) 252 6 [some (.ref 84), some (.int a), u2] [.int a] h1 = zex E (n + 11) (d + 1) 252 13 [some (.ref 84), some (.int a), u2] [] h1).trans (((yAn zfo252_13 rfl rfl) : zex E (n + 11) (d + 1) 252 13 [some (.ref 84), some (.int a), u2] [] h1 = zex E (n + 10) (d + 1) 252 14 [some (.ref 84), some (.int a), u2] [.ref 84] h1).trans (((yCi zfo252_14) : zex E (n + 10) (d + 1) 252 14 [some (.ref 84), some (.int a), u2] [.ref 84] h1 = zex E (n + 9) (d + 1) 252 15 [some (.ref 84), some (.int a), u2] [.int 0, .ref 84] h1).trans (((yCb zfo252_15) : zex E (n + 9) (d + 1) 252 15 [some (.ref 84), some (.int a), u2] [.int 0, .ref 84] h1 = zex E (n + 8) (d + 1) 252 17 [some (.ref 84), some (.int a), u2] [.int 100, .int 0, .ref 84] h1).trans (((zcvg (h := h1) (as := [.int 0, .int 100]) (r := []) zfo252_17 zno241 rfl a84_h1 rfl e2) : zex E (n + 8) (d + 1) 252 17 [some (.ref 84), some (.int a), u2] [.int 100, .int 0, .ref 84] h1 = zex E (n + 7) (d + 1) 252 20 [some (.ref 84), some (.int a), u2] [.int y] h2).trans (((ySn zfo252_20) : zex E (n + 7) (d + 1) 252 20 [some (.ref 84), some (.int a), u2] [.int y] h2 = zex E (n + 6) (d + 1) 252 21 [some (.ref 84), some (.int a), some (.int y)] [] h2).trans (((yIn zfo252_21 rfl) : zex E (n + 6) (d + 1) 252 21 [some (.ref 84), some (.int a), some (.int y)] [] h2 = zex E (n + 5) (d + 1) 252 22 [some (.ref 84), some (.int a), some (.int y)] [.int y] h2).trans (((zjlT zfo252_22 hy) : zex E (n + 5) (d + 1) 252 22 [some (.ref 84), some (.int a), some (.int y)] [.int y] h2 = zex E (n + 4) (d + 1) 252 36 [some (.ref 84), some (.int a), some (.int y)] [] h2).trans (((yIn zfo252_36 rfl) : zex E (n + 4) (d + 1) 252 36 [some (.ref 84), some (.int a), some (.int y)] [] h2 = zex E (n + 3) (d + 1) 252 37 [some (.ref 84), some (.int a), some (.int y)] [.int y] h2).trans (((zjlT zfo252_37 hy) : zex E (n + 3) (d + 1) 252 37 [some (.ref 84), some (.int a), some (.int y)] [.int y] h2 = zex E (n + 2) (d + 1) 252 44 [some (.ref 84), some (.int a), some (.int y)] [] h2).trans (((yCi zfo252_44) : zex E (n + 2) (d + 1) 252 44 [some (.ref 84), some (.int a), some (.int y)] [] h2 = zex E (n + 1) (d + 1) 252 45 [some (.ref 84), some (.int a), some (.int y)] [.int 0] h2).trans (((yRet2 zfo252_45 rfl (Or.inl rfl)) : zex E (n + 1) (d + 1) 252 45 [some (.ref 84), some (.int a), some (.int y)] [.int 0] h2 = some (.inl (some (.int 0)), h2)))))))))))))))))
set_option maxRecDepth 100000 in
theorem tl_2 {E : zE} {n d : Nat} {h h1 h2 : zH} {u1 u2 : Option Value} {a y k : Int32} {K : Nat} (ha : 0 ≤ a.toInt) (hy : 0 ≤ y.toInt) (hk : k.toInt = (K : Int)) (hK : K < 2475) (a84 : zat h.1 84 = some (.inr (.inl (12, [none, some (some 85), some (some 86), some (some 87), some (some 88), some (some 89), none, none, some (some 90), none, none, none, none, none, none, some (some 91), none, some (some 92), some (some 93)])))) (a84_h1 : zat h1.1 84 = some (.inr (.inl (12, [none, some (some 85), some (some 86), some (some 87), some (some 88), some (some 89), none, none, some (some 90), none, none, none, none, none, none, some (some 91), none, some (some 92), some (some 93)])))) (a84_h2 : zat h2.1 84 = some (.inr (.inl (12, [none, some (some 85), some (some 86), some (some 87), some (some 88), some (some 89), none, none, some (some 90), none, none, none, none, none, none, some (some 91), none, some (some 92), some (some 93)])))) (a85_h2 : zat h2.1 85 = some (.inl (0, 2475, []))) (e1 : zex E (n + 22) d 245 0 [some (.ref 84)] [] h = some (.inl (some (.int a)), h1)) (e2 : zex E (n + 15) d 241 0 [some (.ref 84), some (.int 0), some (.int 100)] [] h1 = some (.inl (some (.int y)), h2)) (e3 : zex E (n + 7) d 218 0 [some (.int a), some (.int 2)] [] h2 = some (.inl (some (.int k)), h2)) : zex E (n + 24) (d + 1) 252 0 [some (.ref 84), u1, u2] [] h = some (.inl (some (.int 1)), (zsetI h2 85 (upd (h2.2.1 85) K y))) :=
  ((yAn zfo252_0 rfl rfl) : zex E (n + 24) (d + 1) 252 0 [some (.ref 84), u1, u2] [] h = zex E (n + 23) (d + 1) 252 1 [some (.ref 84), u1, u2] [.ref 84] h).trans (((zcvg (h := h) (as := []) (r := []) zfo252_1 zno245 rfl a84 rfl e1) : zex E (n + 23) (d + 1) 252 1 [some (.ref 84), u1, u2] [.ref 84] h = zex E (n + 22) (d + 1) 252 4 [some (.ref 84), u1, u2] [.int a] h1).trans (((ySn zfo252_4) : zex E (n + 22) (d + 1) 252 4 [some (.ref 84), u1, u2] [.int a] h1 = zex E (n + 21) (d + 1) 252 5 [some (.ref 84), some (.int a), u2] [] h1).trans (((yIn zfo252_5 rfl) : zex E (n + 21) (d + 1) 252 5 [some (.ref 84), some (.int a), u2] [] h1 = zex E (n + 20) (d + 1) 252 6 [some (.ref 84), some (.int a), u2] [.int a] h1).trans (((zjgT zfo252_6 ha) : zex E (n + 20) (d + 1) 252 6 [some (.ref 84), some (.int a), u2] [.int a] h1 = zex E (n + 19) (d + 1) 252 13 [some (.ref 84), some (.int a), u2] [] h1).trans (((yAn zfo252_13 rfl rfl) : zex E (n + 19) (d + 1) 252 13 [some (.ref 84), some (.int a), u2] [] h1 = zex E (n + 18) (d + 1) 252 14 [some (.ref 84), some (.int a), u2] [.ref 84] h1).trans (((yCi zfo252_14) : zex E (n + 18) (d + 1) 252 14 [some (.ref 84), some (.int a), u2] [.ref 84] h1 = zex E (n + 17) (d + 1) 252 15 [some (.ref 84), some (.int a), u2] [.int 0, .ref 84] h1).trans (((yCb zfo252_15) : zex E (n + 17) (d + 1) 252 15 [some (.ref 84), some (.int a), u2] [.int 0, .ref 84] h1 = zex E (n + 16) (d + 1) 252 17 [some (.ref 84), some (.int a), u2] [.int 100, .int 0, .ref 84] h1).trans (((zcvg (h := h1) (as := [.int 0, .int 100]) (r := []) zfo252_17 zno241 rfl a84_h1 rfl e2) : zex E (n + 16) (d + 1) 252 17 [some (.ref 84), some (.int a), u2] [.int 100, .int 0, .ref 84] h1 = zex E (n + 15) (d + 1) 252 20 [some (.ref 84), some (.int a), u2] [.int y] h2).trans (((ySn zfo252_20) : zex E (n + 15) (d + 1) 252 20 [some (.ref 84), some (.int a), u2] [.int y] h2 = zex E (n + 14) (d + 1) 252 21 [some (.ref 84), some (.int a), some (.int y)] [] h2).trans (((yIn zfo252_21 rfl) : zex E (n + 14) (d + 1) 252 21 [some (.ref 84), some (.int a), some (.int y)] [] h2 = zex E (n + 13) (d + 1) 252 22 [some (.ref 84), some (.int a), some (.int y)] [.int y] h2).trans (((zjlF zfo252_22 hy) : zex E (n + 13) (d + 1) 252 22 [some (.ref 84), some (.int a), some (.int y)] [.int y] h2 = zex E (n + 12) (d + 1) 252 25 [some (.ref 84), some (.int a), some (.int y)] [] h2).trans (((yAn zfo252_25 rfl rfl) : zex E (n + 12) (d + 1) 252 25 [some (.ref 84), some (.int a), some (.int y)] [] h2 = zex E (n + 11) (d + 1) 252 26 [some (.ref 84), some (.int a), some (.int y)] [.ref 84] h2).trans (((zgx zfo252_26 a84_h2 rfl) : zex E (n + 11) (d + 1) 252 26 [some (.ref 84), some (.int a), some (.int y)] [.ref 84] h2 = zex E (n + 10) (d + 1) 252 29 [some (.ref 84), some (.int a), some (.int y)] [.ref 85] h2).trans (((yIn zfo252_29 rfl) : zex E (n + 10) (d + 1) 252 29 [some (.ref 84), some (.int a), some (.int y)] [.ref 85] h2 = zex E (n + 9) (d + 1) 252 30 [some (.ref 84), some (.int a), some (.int y)] [.int a, .ref 85] h2).trans (((yCi zfo252_30) : zex E (n + 9) (d + 1) 252 30 [some (.ref 84), some (.int a), some (.int y)] [.int a, .ref 85] h2 = zex E (n + 8) (d + 1) 252 31 [some (.ref 84), some (.int a), some (.int y)] [.int 2, .int a, .ref 85] h2).trans (((zcvs (as := [.int a, .int 2]) (r := [.ref 85]) zfo252_31 zno218 rfl rfl e3) : zex E (n + 8) (d + 1) 252 31 [some (.ref 84), some (.int a), some (.int y)] [.int 2, .int a, .ref 85] h2 = zex E (n + 7) (d + 1) 252 34 [some (.ref 84), some (.int a), some (.int y)] [.int k, .ref 85] h2).trans (((yIn zfo252_34 rfl) : zex E (n + 7) (d + 1) 252 34 [some (.ref 84), some (.int a), some (.int y)] [.int k, .ref 85] h2 = zex E (n + 6) (d + 1) 252 35 [some (.ref 84), some (.int a), some (.int y)] [.int y, .int k, .ref 85] h2).trans (((zsk zfo252_35 a85_h2 hk hK) : zex E (n + 6) (d + 1) 252 35 [some (.ref 84), some (.int a), some (.int y)] [.int y, .int k, .ref 85] h2 = zex E (n + 5) (d + 1) 252 36 [some (.ref 84), some (.int a), some (.int y)] [] (zsetI h2 85 (upd (h2.2.1 85) K y))).trans (((yIn zfo252_36 rfl) : zex E (n + 5) (d + 1) 252 36 [some (.ref 84), some (.int a), some (.int y)] [] (zsetI h2 85 (upd (h2.2.1 85) K y)) = zex E (n + 4) (d + 1) 252 37 [some (.ref 84), some (.int a), some (.int y)] [.int y] (zsetI h2 85 (upd (h2.2.1 85) K y))).trans (((zjlF zfo252_37 hy) : zex E (n + 4) (d + 1) 252 37 [some (.ref 84), some (.int a), some (.int y)] [.int y] (zsetI h2 85 (upd (h2.2.1 85) K y)) = zex E (n + 3) (d + 1) 252 40 [some (.ref 84), some (.int a), some (.int y)] [] (zsetI h2 85 (upd (h2.2.1 85) K y))).trans (((yCi zfo252_40) : zex E (n + 3) (d + 1) 252 40 [some (.ref 84), some (.int a), some (.int y)] [] (zsetI h2 85 (upd (h2.2.1 85) K y)) = zex E (n + 2) (d + 1) 252 41 [some (.ref 84), some (.int a), some (.int y)] [.int 1] (zsetI h2 85 (upd (h2.2.1 85) K y))).trans (((yGo zfo252_41) : zex E (n + 2) (d + 1) 252 41 [some (.ref 84), some (.int a), some (.int y)] [.int 1] (zsetI h2 85 (upd (h2.2.1 85) K y)) = zex E (n + 1) (d + 1) 252 45 [some (.ref 84), some (.int a), some (.int y)] [.int 1] (zsetI h2 85 (upd (h2.2.1 85) K y))).trans (((yRet2 zfo252_45 rfl (Or.inr rfl)) : zex E (n + 1) (d + 1) 252 45 [some (.ref 84), some (.int a), some (.int y)] [.int 1] (zsetI h2 85 (upd (h2.2.1 85) K y)) = some (.inl (some (.int 1)), (zsetI h2 85 (upd (h2.2.1 85) K y)))))))))))))))))))))))))))
set_option maxRecDepth 100000 in
theorem kw_0 {E : zE} {n d : Nat} {h h1 : zH} {u3 u4 : Option Value} {j m : Int32} {a : Int32} (ha : a.toInt < 0) (a84 : zat h.1 84 = some (.inr (.inl (12, [none, some (some 85), some (some 86), some (some 87), some (some 88), some (some 89), none, none, some (some 90), none, none, none, none, none, none, some (some 91), none, some (some 92), some (some 93)])))) (e1 : zex E (n + 12) d 246 0 [some (.ref 84)] [] h = some (.inl (some (.int a)), h1)) : zex E (n + 14) (d + 1) 253 0 [some (.ref 84), some (.int j), some (.int m), u3, u4] [] h = some (.inl (some (.int 0)), h1) :=
  ((yAn zfo253_0 rfl rfl) : zex E (n + 14) (d + 1) 253 0 [some (.ref 84), some (.int j), some (.int m), u3, u4] [] h = zex E (n + 13) (d + 1) 253 1 [some (.ref 84), some (.int j), some (.int m), u3, u4] [.ref 84] h).trans (((zcvg (h := h) (as := []) (r := []) zfo253_1 zno246 rfl a84 rfl e1) : zex E (n + 13) (d + 1) 253 1 [some (.ref 84), some (.int j), some (.int m), u3, u4] [.ref 84] h = zex E (n + 12) (d + 1) 253 4 [some (.ref 84), some (.int j), some (.int m), u3, u4] [.int a] h1).trans (((ySn zfo253_4) : zex E (n + 12) (d + 1) 253 4 [some (.ref 84), some (.int j), some (.int m), u3, u4] [.int a] h1 = zex E (n + 11) (d + 1) 253 5 [some (.ref 84), some (.int j), some (.int m), some (.int a), u4] [] h1).trans (((yIn zfo253_5 rfl) : zex E (n + 11) (d + 1) 253 5 [some (.ref 84), some (.int j), some (.int m), some (.int a), u4] [] h1 = zex E (n + 10) (d + 1) 253 6 [some (.ref 84), some (.int j), some (.int m), some (.int a), u4] [.int a] h1).trans (((zjgF zfo253_6 ha) : zex E (n + 10) (d + 1) 253 6 [some (.ref 84), some (.int j), some (.int m), some (.int a), u4] [.int a] h1 = zex E (n + 9) (d + 1) 253 9 [some (.ref 84), some (.int j), some (.int m), some (.int a), u4] [] h1).trans (((yCi zfo253_9) : zex E (n + 9) (d + 1) 253 9 [some (.ref 84), some (.int j), some (.int m), some (.int a), u4] [] h1 = zex E (n + 8) (d + 1) 253 10 [some (.ref 84), some (.int j), some (.int m), some (.int a), u4] [.int (-1)] h1).trans (((yGo zfo253_10) : zex E (n + 8) (d + 1) 253 10 [some (.ref 84), some (.int j), some (.int m), some (.int a), u4] [.int (-1)] h1 = zex E (n + 7) (d + 1) 253 19 [some (.ref 84), some (.int j), some (.int m), some (.int a), u4] [.int (-1)] h1).trans (((yS zfo253_19) : zex E (n + 7) (d + 1) 253 19 [some (.ref 84), some (.int j), some (.int m), some (.int a), u4] [.int (-1)] h1 = zex E (n + 6) (d + 1) 253 21 [some (.ref 84), some (.int j), some (.int m), some (.int a), some (.int (-1))] [] h1).trans (((yI zfo253_21 rfl) : zex E (n + 6) (d + 1) 253 21 [some (.ref 84), some (.int j), some (.int m), some (.int a), some (.int (-1))] [] h1 = zex E (n + 5) (d + 1) 253 23 [some (.ref 84), some (.int j), some (.int m), some (.int a), some (.int (-1))] [.int (-1)] h1).trans (((zjlT zfo253_23 (by decide)) : zex E (n + 5) (d + 1) 253 23 [some (.ref 84), some (.int j), some (.int m), some (.int a), some (.int (-1))] [.int (-1)] h1 = zex E (n + 4) (d + 1) 253 34 [some (.ref 84), some (.int j), some (.int m), some (.int a), some (.int (-1))] [] h1).trans (((yI zfo253_34 rfl) : zex E (n + 4) (d + 1) 253 34 [some (.ref 84), some (.int j), some (.int m), some (.int a), some (.int (-1))] [] h1 = zex E (n + 3) (d + 1) 253 36 [some (.ref 84), some (.int j), some (.int m), some (.int a), some (.int (-1))] [.int (-1)] h1).trans (((zjlT zfo253_36 (by decide)) : zex E (n + 3) (d + 1) 253 36 [some (.ref 84), some (.int j), some (.int m), some (.int a), some (.int (-1))] [.int (-1)] h1 = zex E (n + 2) (d + 1) 253 43 [some (.ref 84), some (.int j), some (.int m), some (.int a), some (.int (-1))] [] h1).trans (((yCi zfo253_43) : zex E (n + 2) (d + 1) 253 43 [some (.ref 84), some (.int j), some (.int m), some (.int a), some (.int (-1))] [] h1 = zex E (n + 1) (d + 1) 253 44 [some (.ref 84), some (.int j), some (.int m), some (.int a), some (.int (-1))] [.int 0] h1).trans (((yRet2 zfo253_44 rfl (Or.inl rfl)) : zex E (n + 1) (d + 1) 253 44 [some (.ref 84), some (.int j), some (.int m), some (.int a), some (.int (-1))] [.int 0] h1 = some (.inl (some (.int 0)), h1)))))))))))))))
set_option maxRecDepth 100000 in
theorem kw_1 {E : zE} {n d : Nat} {h h1 h2 : zH} {u3 u4 : Option Value} {j m : Int32} {a y : Int32} (ha : 0 ≤ a.toInt) (hy : y.toInt < 0) (a84 : zat h.1 84 = some (.inr (.inl (12, [none, some (some 85), some (some 86), some (some 87), some (some 88), some (some 89), none, none, some (some 90), none, none, none, none, none, none, some (some 91), none, some (some 92), some (some 93)])))) (a84_h1 : zat h1.1 84 = some (.inr (.inl (12, [none, some (some 85), some (some 86), some (some 87), some (some 88), some (some 89), none, none, some (some 90), none, none, none, none, none, none, some (some 91), none, some (some 92), some (some 93)])))) (e1 : zex E (n + 14) d 246 0 [some (.ref 84)] [] h = some (.inl (some (.int a)), h1)) (e2 : zex E (n + 7) d 241 0 [some (.ref 84), some (.int 0), some (.int m)] [] h1 = some (.inl (some (.int y)), h2)) : zex E (n + 16) (d + 1) 253 0 [some (.ref 84), some (.int j), some (.int m), u3, u4] [] h = some (.inl (some (.int 0)), h2) :=
  ((yAn zfo253_0 rfl rfl) : zex E (n + 16) (d + 1) 253 0 [some (.ref 84), some (.int j), some (.int m), u3, u4] [] h = zex E (n + 15) (d + 1) 253 1 [some (.ref 84), some (.int j), some (.int m), u3, u4] [.ref 84] h).trans (((zcvg (h := h) (as := []) (r := []) zfo253_1 zno246 rfl a84 rfl e1) : zex E (n + 15) (d + 1) 253 1 [some (.ref 84), some (.int j), some (.int m), u3, u4] [.ref 84] h = zex E (n + 14) (d + 1) 253 4 [some (.ref 84), some (.int j), some (.int m), u3, u4] [.int a] h1).trans (((ySn zfo253_4) : zex E (n + 14) (d + 1) 253 4 [some (.ref 84), some (.int j), some (.int m), u3, u4] [.int a] h1 = zex E (n + 13) (d + 1) 253 5 [some (.ref 84), some (.int j), some (.int m), some (.int a), u4] [] h1).trans (((yIn zfo253_5 rfl) : zex E (n + 13) (d + 1) 253 5 [some (.ref 84), some (.int j), some (.int m), some (.int a), u4] [] h1 = zex E (n + 12) (d + 1) 253 6 [some (.ref 84), some (.int j), some (.int m), some (.int a), u4] [.int a] h1).trans (((zjgT zfo253_6 ha) : zex E (n + 12) (d + 1) 253 6 [some (.ref 84), some (.int j), some (.int m), some (.int a), u4] [.int a] h1 = zex E (n + 11) (d + 1) 253 13 [some (.ref 84), some (.int j), some (.int m), some (.int a), u4] [] h1).trans (((yAn zfo253_13 rfl rfl) : zex E (n + 11) (d + 1) 253 13 [some (.ref 84), some (.int j), some (.int m), some (.int a), u4] [] h1 = zex E (n + 10) (d + 1) 253 14 [some (.ref 84), some (.int j), some (.int m), some (.int a), u4] [.ref 84] h1).trans (((yCi zfo253_14) : zex E (n + 10) (d + 1) 253 14 [some (.ref 84), some (.int j), some (.int m), some (.int a), u4] [.ref 84] h1 = zex E (n + 9) (d + 1) 253 15 [some (.ref 84), some (.int j), some (.int m), some (.int a), u4] [.int 0, .ref 84] h1).trans (((yIn zfo253_15 rfl) : zex E (n + 9) (d + 1) 253 15 [some (.ref 84), some (.int j), some (.int m), some (.int a), u4] [.int 0, .ref 84] h1 = zex E (n + 8) (d + 1) 253 16 [some (.ref 84), some (.int j), some (.int m), some (.int a), u4] [.int m, .int 0, .ref 84] h1).trans (((zcvg (h := h1) (as := [.int 0, .int m]) (r := []) zfo253_16 zno241 rfl a84_h1 rfl e2) : zex E (n + 8) (d + 1) 253 16 [some (.ref 84), some (.int j), some (.int m), some (.int a), u4] [.int m, .int 0, .ref 84] h1 = zex E (n + 7) (d + 1) 253 19 [some (.ref 84), some (.int j), some (.int m), some (.int a), u4] [.int y] h2).trans (((yS zfo253_19) : zex E (n + 7) (d + 1) 253 19 [some (.ref 84), some (.int j), some (.int m), some (.int a), u4] [.int y] h2 = zex E (n + 6) (d + 1) 253 21 [some (.ref 84), some (.int j), some (.int m), some (.int a), some (.int y)] [] h2).trans (((yI zfo253_21 rfl) : zex E (n + 6) (d + 1) 253 21 [some (.ref 84), some (.int j), some (.int m), some (.int a), some (.int y)] [] h2 = zex E (n + 5) (d + 1) 253 23 [some (.ref 84), some (.int j), some (.int m), some (.int a), some (.int y)] [.int y] h2).trans (((zjlT zfo253_23 hy) : zex E (n + 5) (d + 1) 253 23 [some (.ref 84), some (.int j), some (.int m), some (.int a), some (.int y)] [.int y] h2 = zex E (n + 4) (d + 1) 253 34 [some (.ref 84), some (.int j), some (.int m), some (.int a), some (.int y)] [] h2).trans (((yI zfo253_34 rfl) : zex E (n + 4) (d + 1) 253 34 [some (.ref 84), some (.int j), some (.int m), some (.int a), some (.int y)] [] h2 = zex E (n + 3) (d + 1) 253 36 [some (.ref 84), some (.int j), some (.int m), some (.int a), some (.int y)] [.int y] h2).trans (((zjlT zfo253_36 hy) : zex E (n + 3) (d + 1) 253 36 [some (.ref 84), some (.int j), some (.int m), some (.int a), some (.int y)] [.int y] h2 = zex E (n + 2) (d + 1) 253 43 [some (.ref 84), some (.int j), some (.int m), some (.int a), some (.int y)] [] h2).trans (((yCi zfo253_43) : zex E (n + 2) (d + 1) 253 43 [some (.ref 84), some (.int j), some (.int m), some (.int a), some (.int y)] [] h2 = zex E (n + 1) (d + 1) 253 44 [some (.ref 84), some (.int j), some (.int m), some (.int a), some (.int y)] [.int 0] h2).trans (((yRet2 zfo253_44 rfl (Or.inl rfl)) : zex E (n + 1) (d + 1) 253 44 [some (.ref 84), some (.int j), some (.int m), some (.int a), some (.int y)] [.int 0] h2 = some (.inl (some (.int 0)), h2)))))))))))))))))
set_option maxRecDepth 100000 in
theorem kw_2 {E : zE} {n d : Nat} {h h1 h2 h3 : zH} {u3 u4 : Option Value} {j m : Int32} {a y : Int32} (ha : 0 ≤ a.toInt) (hy : 0 ≤ y.toInt) (a84 : zat h.1 84 = some (.inr (.inl (12, [none, some (some 85), some (some 86), some (some 87), some (some 88), some (some 89), none, none, some (some 90), none, none, none, none, none, none, some (some 91), none, some (some 92), some (some 93)])))) (a84_h1 : zat h1.1 84 = some (.inr (.inl (12, [none, some (some 85), some (some 86), some (some 87), some (some 88), some (some 89), none, none, some (some 90), none, none, none, none, none, none, some (some 91), none, some (some 92), some (some 93)])))) (a84_h2 : zat h2.1 84 = some (.inr (.inl (12, [none, some (some 85), some (some 86), some (some 87), some (some 88), some (some 89), none, none, some (some 90), none, none, none, none, none, none, some (some 91), none, some (some 92), some (some 93)])))) (e1 : zex E (n + 20) d 246 0 [some (.ref 84)] [] h = some (.inl (some (.int a)), h1)) (e2 : zex E (n + 13) d 241 0 [some (.ref 84), some (.int 0), some (.int m)] [] h1 = some (.inl (some (.int y)), h2)) (e3 : zex E (n + 5) d 222 0 [some (.ref 84), some (.int a), some (.int j), some (.int y)] [] h2 = some (.inl none, h3)) : zex E (n + 22) (d + 1) 253 0 [some (.ref 84), some (.int j), some (.int m), u3, u4] [] h = some (.inl (some (.int 1)), h3) :=
  ((yAn zfo253_0 rfl rfl) : zex E (n + 22) (d + 1) 253 0 [some (.ref 84), some (.int j), some (.int m), u3, u4] [] h = zex E (n + 21) (d + 1) 253 1 [some (.ref 84), some (.int j), some (.int m), u3, u4] [.ref 84] h).trans (((zcvg (h := h) (as := []) (r := []) zfo253_1 zno246 rfl a84 rfl e1) : zex E (n + 21) (d + 1) 253 1 [some (.ref 84), some (.int j), some (.int m), u3, u4] [.ref 84] h = zex E (n + 20) (d + 1) 253 4 [some (.ref 84), some (.int j), some (.int m), u3, u4] [.int a] h1).trans (((ySn zfo253_4) : zex E (n + 20) (d + 1) 253 4 [some (.ref 84), some (.int j), some (.int m), u3, u4] [.int a] h1 = zex E (n + 19) (d + 1) 253 5 [some (.ref 84), some (.int j), some (.int m), some (.int a), u4] [] h1).trans (((yIn zfo253_5 rfl) : zex E (n + 19) (d + 1) 253 5 [some (.ref 84), some (.int j), some (.int m), some (.int a), u4] [] h1 = zex E (n + 18) (d + 1) 253 6 [some (.ref 84), some (.int j), some (.int m), some (.int a), u4] [.int a] h1).trans (((zjgT zfo253_6 ha) : zex E (n + 18) (d + 1) 253 6 [some (.ref 84), some (.int j), some (.int m), some (.int a), u4] [.int a] h1 = zex E (n + 17) (d + 1) 253 13 [some (.ref 84), some (.int j), some (.int m), some (.int a), u4] [] h1).trans (((yAn zfo253_13 rfl rfl) : zex E (n + 17) (d + 1) 253 13 [some (.ref 84), some (.int j), some (.int m), some (.int a), u4] [] h1 = zex E (n + 16) (d + 1) 253 14 [some (.ref 84), some (.int j), some (.int m), some (.int a), u4] [.ref 84] h1).trans (((yCi zfo253_14) : zex E (n + 16) (d + 1) 253 14 [some (.ref 84), some (.int j), some (.int m), some (.int a), u4] [.ref 84] h1 = zex E (n + 15) (d + 1) 253 15 [some (.ref 84), some (.int j), some (.int m), some (.int a), u4] [.int 0, .ref 84] h1).trans (((yIn zfo253_15 rfl) : zex E (n + 15) (d + 1) 253 15 [some (.ref 84), some (.int j), some (.int m), some (.int a), u4] [.int 0, .ref 84] h1 = zex E (n + 14) (d + 1) 253 16 [some (.ref 84), some (.int j), some (.int m), some (.int a), u4] [.int m, .int 0, .ref 84] h1).trans (((zcvg (h := h1) (as := [.int 0, .int m]) (r := []) zfo253_16 zno241 rfl a84_h1 rfl e2) : zex E (n + 14) (d + 1) 253 16 [some (.ref 84), some (.int j), some (.int m), some (.int a), u4] [.int m, .int 0, .ref 84] h1 = zex E (n + 13) (d + 1) 253 19 [some (.ref 84), some (.int j), some (.int m), some (.int a), u4] [.int y] h2).trans (((yS zfo253_19) : zex E (n + 13) (d + 1) 253 19 [some (.ref 84), some (.int j), some (.int m), some (.int a), u4] [.int y] h2 = zex E (n + 12) (d + 1) 253 21 [some (.ref 84), some (.int j), some (.int m), some (.int a), some (.int y)] [] h2).trans (((yI zfo253_21 rfl) : zex E (n + 12) (d + 1) 253 21 [some (.ref 84), some (.int j), some (.int m), some (.int a), some (.int y)] [] h2 = zex E (n + 11) (d + 1) 253 23 [some (.ref 84), some (.int j), some (.int m), some (.int a), some (.int y)] [.int y] h2).trans (((zjlF zfo253_23 hy) : zex E (n + 11) (d + 1) 253 23 [some (.ref 84), some (.int j), some (.int m), some (.int a), some (.int y)] [.int y] h2 = zex E (n + 10) (d + 1) 253 26 [some (.ref 84), some (.int j), some (.int m), some (.int a), some (.int y)] [] h2).trans (((yAn zfo253_26 rfl rfl) : zex E (n + 10) (d + 1) 253 26 [some (.ref 84), some (.int j), some (.int m), some (.int a), some (.int y)] [] h2 = zex E (n + 9) (d + 1) 253 27 [some (.ref 84), some (.int j), some (.int m), some (.int a), some (.int y)] [.ref 84] h2).trans (((yIn zfo253_27 rfl) : zex E (n + 9) (d + 1) 253 27 [some (.ref 84), some (.int j), some (.int m), some (.int a), some (.int y)] [.ref 84] h2 = zex E (n + 8) (d + 1) 253 28 [some (.ref 84), some (.int j), some (.int m), some (.int a), some (.int y)] [.int a, .ref 84] h2).trans (((yIn zfo253_28 rfl) : zex E (n + 8) (d + 1) 253 28 [some (.ref 84), some (.int j), some (.int m), some (.int a), some (.int y)] [.int a, .ref 84] h2 = zex E (n + 7) (d + 1) 253 29 [some (.ref 84), some (.int j), some (.int m), some (.int a), some (.int y)] [.int j, .int a, .ref 84] h2).trans (((yI zfo253_29 rfl) : zex E (n + 7) (d + 1) 253 29 [some (.ref 84), some (.int j), some (.int m), some (.int a), some (.int y)] [.int j, .int a, .ref 84] h2 = zex E (n + 6) (d + 1) 253 31 [some (.ref 84), some (.int j), some (.int m), some (.int a), some (.int y)] [.int y, .int j, .int a, .ref 84] h2).trans (((zcvg (h := h2) (as := [.int a, .int j, .int y]) (r := []) zfo253_31 zno222 rfl a84_h2 rfl e3) : zex E (n + 6) (d + 1) 253 31 [some (.ref 84), some (.int j), some (.int m), some (.int a), some (.int y)] [.int y, .int j, .int a, .ref 84] h2 = zex E (n + 5) (d + 1) 253 34 [some (.ref 84), some (.int j), some (.int m), some (.int a), some (.int y)] [] h3).trans (((yI zfo253_34 rfl) : zex E (n + 5) (d + 1) 253 34 [some (.ref 84), some (.int j), some (.int m), some (.int a), some (.int y)] [] h3 = zex E (n + 4) (d + 1) 253 36 [some (.ref 84), some (.int j), some (.int m), some (.int a), some (.int y)] [.int y] h3).trans (((zjlF zfo253_36 hy) : zex E (n + 4) (d + 1) 253 36 [some (.ref 84), some (.int j), some (.int m), some (.int a), some (.int y)] [.int y] h3 = zex E (n + 3) (d + 1) 253 39 [some (.ref 84), some (.int j), some (.int m), some (.int a), some (.int y)] [] h3).trans (((yCi zfo253_39) : zex E (n + 3) (d + 1) 253 39 [some (.ref 84), some (.int j), some (.int m), some (.int a), some (.int y)] [] h3 = zex E (n + 2) (d + 1) 253 40 [some (.ref 84), some (.int j), some (.int m), some (.int a), some (.int y)] [.int 1] h3).trans (((yGo zfo253_40) : zex E (n + 2) (d + 1) 253 40 [some (.ref 84), some (.int j), some (.int m), some (.int a), some (.int y)] [.int 1] h3 = zex E (n + 1) (d + 1) 253 44 [some (.ref 84), some (.int j), some (.int m), some (.int a), some (.int y)] [.int 1] h3).trans (((yRet2 zfo253_44 rfl (Or.inr rfl)) : zex E (n + 1) (d + 1) 253 44 [some (.ref 84), some (.int j), some (.int m), some (.int a), some (.int y)] [.int 1] h3 = some (.inl (some (.int 1)), h3)))))))))))))))))))))))

set_option maxRecDepth 100000 in
theorem int99999 : (99999 : Int32).toInt = 99999 := by decide
set_option maxRecDepth 100000 in
theorem room_i {r j : Int32} {a b : Nat} (hr : r.toInt = (a : Int)) (ha : a < 12) (hj : j.toInt = (b : Int)) (hb : b < 11) : (13 + 11 * r + j).toInt = ((13 + 11 * a + b : Nat) : Int) := by
  rw [i32_nat hr, i32_nat hj]
  have : ∀ a, a < 12 → ∀ b, b < 11 → (13 + 11 * Int32.ofNat a + Int32.ofNat b).toInt = ((13 + 11 * a + b : Nat) : Int) := by decide +kernel
  exact this a ha b hb
set_option maxRecDepth 100000 in
theorem pers_i {r j : Int32} {a b : Nat} (hr : r.toInt = (a : Int)) (ha : a < 8) (hj : j.toInt = (b : Int)) (hb : b < 24) : (185 + 24 * r + j).toInt = ((185 + 24 * a + b : Nat) : Int) := by
  rw [i32_nat hr, i32_nat hj]
  have : ∀ a, a < 8 → ∀ b, b < 24 → (185 + 24 * Int32.ofNat a + Int32.ofNat b).toInt = ((185 + 24 * a + b : Nat) : Int) := by decide +kernel
  exact this a ha b hb
set_option maxRecDepth 100000 in
theorem RN_part {h h2 : zH} {σ : hSt} {a : Nat} {v b : Int} {y : Int32} (q : QS h h2) (ha : a < 12) (hv : v.toNat = a) (hy : y.toInt = b) (n : RN h σ) : RN (zsetI h2 85 (upd (h2.2.1 85) (13 + 11 * a + 2) y)) (σ.1, sdl σ, ssl σ, swk σ, upf (spt σ) v b, spl σ, skp σ, swt σ) := by
  refine ⟨fun hc r hr => ?_, fun p hp => ⟨fun hc => ?_, fun hc hs => ?_, fun hc => ?_⟩⟩
  · show _ = if r = v.toNat then b else spt σ r
    by_cases hra : r = a
    · rw [if_pos (by omega), zs_at, show 15 + 11 * r = 13 + 11 * a + 2 by omega, upd_e]; exact hy
    · rw [if_neg (by omega), zs_at, upd_n (by omega), q _ (Or.inl ⟨r, hr, rfl⟩)]; exact n.1 hc r hr
  · rw [zs_at, upd_n (by omega), q _ (Or.inr ⟨p, hp, Or.inl rfl⟩)]; exact (n.2 p hp).1 hc
  · rw [zs_at, upd_n (by omega), q _ (Or.inr ⟨p, hp, Or.inr (Or.inl rfl)⟩)]; exact (n.2 p hp).2.1 hc hs
  · rw [zs_at, upd_n (by omega), q _ (Or.inr ⟨p, hp, Or.inr (Or.inr rfl)⟩)]; exact (n.2 p hp).2.2 hc
set_option maxRecDepth 100000 in
theorem RN_kw {h h2 : zH} {σ σ' : hSt} {a b : Nat} {v w : Int} {y : Int32} (q : QS h h2) (ha : a < 8) (hv : v.toNat = a) (hy : y.toInt = w) (hb : 1 ≤ b ∧ b ≤ 2) (s0 : sP σ' = sP σ) (s1 : spt σ' = spt σ) (s2 : spl σ' = spl σ) (s3 : b = 1 → skp σ' = upf (skp σ) v w ∧ swt σ' = swt σ) (s4 : b = 2 → swt σ' = upf (swt σ) v w ∧ skp σ' = skp σ) (n : RN h σ) : RN (zsetI h2 85 (upd (h2.2.1 85) (185 + 24 * a + b) y)) σ' := by
  refine ⟨fun hc r hr => ?_, fun p hp => ⟨fun hc => ?_, fun hc hs => ?_, fun hc => ?_⟩⟩
  · rw [s1, zs_at, upd_n (by omega), q _ (Or.inl ⟨r, hr, rfl⟩)]; exact n.1 hc r hr
  · rw [s2, zs_at, upd_n (by omega), q _ (Or.inr ⟨p, hp, Or.inl rfl⟩)]; exact (n.2 p hp).1 hc
  · by_cases h1 : b = 1
    · rw [(s3 h1).1]
      show _ = if p = v.toNat then w else skp σ p
      by_cases hpa : p = a
      · rw [if_pos (by omega), zs_at, show 186 + 24 * p = 185 + 24 * a + b by omega, upd_e]; exact hy
      · rw [if_neg (by omega), zs_at, upd_n (by omega), q _ (Or.inr ⟨p, hp, Or.inr (Or.inl rfl)⟩)]; exact (n.2 p hp).2.1 hc (s0 ▸ hs)
    · rw [(s4 (by omega)).2, zs_at, upd_n (by omega), q _ (Or.inr ⟨p, hp, Or.inr (Or.inl rfl)⟩)]; exact (n.2 p hp).2.1 hc (s0 ▸ hs)
  · by_cases h1 : b = 1
    · rw [(s3 h1).2, zs_at, upd_n (by omega), q _ (Or.inr ⟨p, hp, Or.inr (Or.inr rfl)⟩)]; exact (n.2 p hp).2.2 hc
    · rw [(s4 (by omega)).1]
      show _ = if p = v.toNat then w else swt σ p
      by_cases hpa : p = a
      · rw [if_pos (by omega), zs_at, show 187 + 24 * p = 185 + 24 * a + b by omega, upd_e]; exact hy
      · rw [if_neg (by omega), zs_at, upd_n (by omega), q _ (Or.inr ⟨p, hp, Or.inr (Or.inr rfl)⟩)]; exact (n.2 p hp).2.2 hc
section ML
variable {E : zE} {B F : Nat} {h0 h : zH} {L p s : Nat} {σ : hSt}
set_option maxRecDepth 100000 in
theorem toolM (hE : E.1 < 2147483648) (hsm : bSO E ctb B (60, smT)) (hF : 1000000 ≤ F) (hL : L ≤ 400) (ht : YT h0 L h p s) (hk : sk isBl (tp90 h0) L p = nxt (tp90 h0) L s) (hR : RM h σ) (hW : WF σ) {u1 u2 : Option Value} :
    ∀ d f, 65 ≤ d → B + F * 1000 ≤ f → lnM h σ h0 L (toolq (tp90 h0) L σ s) (zex E f d 252 0 [some (.ref 84), u1, u2] [] h) := by
  intro d f hd hf
  obtain ⟨d', hd'⟩ : ∃ d', d = d' + 1 := ⟨d - 1, by omega⟩
  obtain ⟨n, hn⟩ : ∃ n, f = n + 100 := ⟨f - 100, by omega⟩
  subst hd' hn
  obtain ⟨w1, w2, w3, w4, w5, w6⟩ := id hW
  have a84 := b84_ha ht.1
  have a85 := b85_ha ht.1
  obtain ⟨⟨r1, r2, r3⟩, r4⟩ := id hR
  unfold toolq twoq
  have st1 := fun f hf => y_room hE hsm hF hL ht r1 w1 d' f (by omega) hf
  rw [hk] at st1
  cases hn1 : nmq (tp90 h0) L (nxt (tp90 h0) L s) 0 ((sR σ : Int) - 1) with
  | none =>
    rw [hn1] at st1
    obtain ⟨y, h1, p1, e1, k1, t1, n1⟩ := st1 (n + 98) (by omega)
    have n1 : y.toInt = -1 := n1
    exact ⟨h1, p1, tl_0 (n := n + 86) (d := d') (by omega) a84 e1, t1⟩
  | some v1 =>
    rw [hn1] at st1
    have b1 := nmq_b hn1
    dsimp only
    have st2 := fun (h1 : zH) (p1 : Nat) (t1 : YT h0 L h1 p1 (nxt (tp90 h0) L s)) f hf => y_numc hE hsm hF hL t1 (x1 := 0) (x2 := 100) zi0 int100 (by decide) d' f (by omega) hf
    cases hn2 : nmq (tp90 h0) L (nxt (tp90 h0) L (nxt (tp90 h0) L s)) 0 100 with
    | none =>
      obtain ⟨y, h1, p1, e1, k1, t1, n1, n2⟩ := st1 (n + 98) (by omega)
      obtain ⟨y2, h2, p2, e2, k2, t2, n3⟩ := st2 h1 p1 t1 (n + 91) (by omega)
      rw [n2, show sk isBl (tp90 h0) L (kE (tp90 h0) L (nxt (tp90 h0) L s)) = nxt (tp90 h0) L (nxt (tp90 h0) L s) from rfl] at t2 n3
      rw [hn2] at n3
      have n3 : y2.toInt = -1 := n3
      exact ⟨h2, p2, tl_1 (n := n + 84) (d := d') (by omega) (by omega) a84 (b84_ha t1.1) e1 e2, t2⟩
    | some v2 =>
      have b2 := nmq_b hn2
      obtain ⟨y, h1, p1, e1, k1, t1, n1, n2⟩ := st1 (n + 98) (by omega)
      obtain ⟨y2, h2, p2, e2, k2, t2, n3⟩ := st2 h1 p1 t1 (n + 91) (by omega)
      rw [n2, show sk isBl (tp90 h0) L (kE (tp90 h0) L (nxt (tp90 h0) L s)) = nxt (tp90 h0) L (nxt (tp90 h0) L s) from rfl] at t2 n3
      rw [hn2] at n3
      obtain ⟨n3, n4⟩ := n3
      have hR2 := RM_w hR hW (RW_t k1 k2)
      have ja := room_i (r := y) (j := 2) (a := v1.toNat) (b := 2) (by omega) (by omega) int2 (by decide)
      have e3 := mh_ri (E := E) (n := n + 75) (d := d') (r := y) (j := 2) (h := h2)
      have bd := (bd_room v1.toNat (by omega)).2.2.1
      rw [show 15 + 11 * v1.toNat = 13 + 11 * v1.toNat + 2 by omega] at bd
      exact ⟨_, p2, _, tl_2 (n := n + 76) (d := d') (K := 13 + 11 * v1.toNat + 2) (by omega) (by omega) ja (by omega) a84 (b84_ha t1.1) (b84_ha t2.1) (b85_ha t2.1) e1 e2 e3, YT_85 t2 (by omega) (by rw [bd]; exact ⟨by show (0 : Int) ≤ _; omega, by show _ ≤ (100 : Int); omega⟩) (blam_o (blam_h t2.1) (by omega) (fun p _ => by omega)), by rw [n4]; rfl, RM_n hR2 hW (by omega) (by omega) (fun p _ => by omega), fun hN _ => RN_part (QS_w (RW_t k1 k2)) (by omega) rfl n3 hN⟩
set_option maxRecDepth 100000 in
theorem kwM (hE : E.1 < 2147483648) (hsm : bSO E ctb B (60, smT)) (hF : 1000000 ≤ F) (hL : L ≤ 400) (ht : YT h0 L h p s) (hk : sk isBl (tp90 h0) L p = nxt (tp90 h0) L s) (hR : RM h σ) (hW : WF σ) {j9 m9 : Int32} {b : Nat} {mo : Int} (hj : j9.toInt = (b : Int)) (hm : m9.toInt = mo) (hb : 1 ≤ b ∧ b ≤ 2) (hbd : ∀ q, q < 8 → biv 85 (185 + 24 * q + b) = (0, mo)) {r : (hSt × Nat) ⊕ Nat} (hr1 : ∀ w, twoq (tp90 h0) L (nxt (tp90 h0) L s) ((sP σ : Int) - 1) mo = .inr w → r = .inr w) (hr2 : ∀ a c e, twoq (tp90 h0) L (nxt (tp90 h0) L s) ((sP σ : Int) - 1) mo = .inl (a, c, e) → ∃ σ', r = .inl (σ', e) ∧ σ'.1 = σ.1 ∧ (sdl σ' = sdl σ ∧ ssl σ' = ssl σ ∧ swk σ' = swk σ) ∧ spt σ' = spt σ ∧ spl σ' = spl σ ∧ (b = 1 → skp σ' = upf (skp σ) a c ∧ swt σ' = swt σ) ∧ (b = 2 → swt σ' = upf (swt σ) a c ∧ skp σ' = skp σ)) {u3 u4 : Option Value} :
    ∀ d f, 65 ≤ d → B + F * 1000 ≤ f → lnM h σ h0 L r (zex E f d 253 0 [some (.ref 84), some (.int j9), some (.int m9), u3, u4] [] h) := by
  intro d f hd hf
  obtain ⟨d', hd'⟩ : ∃ d', d = d' + 1 := ⟨d - 1, by omega⟩
  obtain ⟨n, hn⟩ : ∃ n, f = n + 100 := ⟨f - 100, by omega⟩
  subst hd' hn
  obtain ⟨w1, w2, w3, w4, w5, w6⟩ := id hW
  have a84 := b84_ha ht.1
  have a85 := b85_ha ht.1
  obtain ⟨⟨r1, r2, r3⟩, r4⟩ := id hR
  unfold twoq at hr1 hr2
  have st1 := fun f hf => y_pers hE hsm hF hL ht r3 w3 d' f (by omega) hf
  rw [hk] at st1
  cases hn1 : nmq (tp90 h0) L (nxt (tp90 h0) L s) 0 ((sP σ : Int) - 1) with
  | none =>
    rw [hn1] at st1 hr1
    obtain ⟨y, h1, p1, e1, k1, t1, n1⟩ := st1 (n + 98) (by omega)
    have n1 : y.toInt = -1 := n1
    rw [hr1 _ rfl]
    exact ⟨h1, p1, kw_0 (n := n + 86) (d := d') (by omega) a84 e1, t1⟩
  | some v1 =>
    rw [hn1] at st1 hr1 hr2
    dsimp only at hr1 hr2
    have b1 := nmq_b hn1
    have st2 := fun (h1 : zH) (p1 : Nat) (t1 : YT h0 L h1 p1 (nxt (tp90 h0) L s)) f hf => y_numc hE hsm hF hL t1 (x1 := 0) (x2 := m9) zi0 hm (by decide) d' f (by omega) hf
    cases hn2 : nmq (tp90 h0) L (nxt (tp90 h0) L (nxt (tp90 h0) L s)) 0 mo with
    | none =>
      rw [hn2] at hr1
      obtain ⟨y, h1, p1, e1, k1, t1, n1, n2⟩ := st1 (n + 98) (by omega)
      obtain ⟨y2, h2, p2, e2, k2, t2, n3⟩ := st2 h1 p1 t1 (n + 91) (by omega)
      rw [n2, show sk isBl (tp90 h0) L (kE (tp90 h0) L (nxt (tp90 h0) L s)) = nxt (tp90 h0) L (nxt (tp90 h0) L s) from rfl] at t2 n3
      rw [hn2] at n3
      have n3 : y2.toInt = -1 := n3
      rw [hr1 _ rfl]
      exact ⟨h2, p2, kw_1 (n := n + 84) (d := d') (by omega) (by omega) a84 (b84_ha t1.1) e1 e2, t2⟩
    | some v2 =>
      rw [hn2] at hr2
      have b2 := nmq_b hn2
      obtain ⟨σ', z1, z2, z3, z4, z5, z6, z7⟩ := hr2 _ _ _ rfl
      obtain ⟨y, h1, p1, e1, k1, t1, n1, n2⟩ := st1 (n + 98) (by omega)
      obtain ⟨y2, h2, p2, e2, k2, t2, n3⟩ := st2 h1 p1 t1 (n + 91) (by omega)
      rw [n2, show sk isBl (tp90 h0) L (kE (tp90 h0) L (nxt (tp90 h0) L s)) = nxt (tp90 h0) L (nxt (tp90 h0) L s) from rfl] at t2 n3
      rw [hn2] at n3
      obtain ⟨n3, n4⟩ := n3
      have hR2 := RM_w hR hW (RW_t k1 k2)
      have ja := pers_i (r := y) (j := j9) (a := v1.toNat) (b := b) (by omega) (by omega) hj (by omega)
      obtain ⟨d'', hd''⟩ : ∃ d'', d' = d'' + 1 := ⟨d' - 1, by omega⟩
      have e3 := mh_put (E := E) (n := n + 75) (d := d'') (p := y) (j := j9) (y := y2) (h := h2) ja (by omega) (b84_ha t2.1) (b85_ha t2.1) (mh_pi (E := E) (n := n + 70) (d := d''))
      rw [← hd''] at e3
      rw [z1]
      have hR3 : RM (zsetI h2 85 (upd (h2.2.1 85) (185 + 24 * v1.toNat + b) y2)) σ := RM_n hR2 hW (by omega) (by omega) (fun p _ => by omega)
      refine ⟨_, p2, _, kw_2 (n := n + 78) (d := d') (by omega) (by omega) a84 (b84_ha t1.1) (b84_ha t2.1) e1 e2 e3, YT_85 t2 (by omega) (by rw [hbd _ (by omega)]; exact ⟨by show (0 : Int) ≤ _; omega, by show _ ≤ mo; omega⟩) (blam_o (blam_h t2.1) (by omega) (fun p _ => by omega)), by rw [n4]; rfl, ?_, fun hN _ => RN_kw (QS_w (RW_t k1 k2)) (by omega) rfl n3 hb (by unfold sP; rw [z2]) z4 z5 z6 z7 hN⟩
      obtain ⟨⟨x1, x2, x3⟩, x4, x5⟩ := hR3
      refine ⟨⟨by rw [x1]; unfold sR; rw [z2], by rw [x2]; unfold sD; rw [z2], by rw [x3]; unfold sP; rw [z2]⟩, fun i q hi => x4 i q (by rw [← z3.1]; exact hi), fun q hq => by rw [z3.2.1, z3.2.2]; exact x5 q (by unfold sP at hq ⊢; rw [← z2]; exact hq)⟩
end ML
