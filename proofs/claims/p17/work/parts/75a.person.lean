/-! the model's reader of THE HOUSE: a person, exactly (wip/zab2/c/geng22.py) -/
set_option maxRecDepth 100000 in
theorem zfv234_0 : zfetch 234 0 = some (.aload_n 0, 1, (0, 0, 0), 0, 0) := by decide +kernel
set_option maxRecDepth 100000 in
theorem zfv234_1 : zfetch 234 1 = some (.getfield 84, 3, (12, 10, 0), 0, 1627) := by decide +kernel
set_option maxRecDepth 100000 in
theorem zfv234_4 : zfetch 234 4 = some (.aload_n 0, 1, (0, 0, 0), 0, 0) := by decide +kernel
set_option maxRecDepth 100000 in
theorem zfv234_5 : zfetch 234 5 = some (.getfield 87, 3, (12, 11, 0), 0, 1628) := by decide +kernel
set_option maxRecDepth 100000 in
theorem zfv234_8 : zfetch 234 8 = some (.if_icmp .ge 33, 3, (41, 0, 0), 0, 0) := by decide +kernel
set_option maxRecDepth 100000 in
theorem zfv234_41 : zfetch 234 41 = some (.iconst 0, 1, (0, 0, 0), 0, 0) := by decide +kernel
set_option maxRecDepth 100000 in
theorem zfv234_42 : zfetch 234 42 = some (.ireturn, 1, (0, 0, 0), 0, 0) := by decide +kernel
set_option maxRecDepth 100000 in
theorem zfv234_11 : zfetch 234 11 = some (.aload_n 0, 1, (0, 0, 0), 0, 0) := by decide +kernel
set_option maxRecDepth 100000 in
theorem zfv234_12 : zfetch 234 12 = some (.getfield 29, 3, (12, 8, 0), 0, 1625) := by decide +kernel
set_option maxRecDepth 100000 in
theorem zfv234_15 : zfetch 234 15 = some (.aload_n 0, 1, (0, 0, 0), 0, 0) := by decide +kernel
set_option maxRecDepth 100000 in
theorem zfv234_16 : zfetch 234 16 = some (.getfield 84, 3, (12, 10, 0), 0, 1627) := by decide +kernel
set_option maxRecDepth 100000 in
theorem zfv234_19 : zfetch 234 19 = some (.baload, 1, (0, 0, 0), 0, 0) := by decide +kernel
set_option maxRecDepth 100000 in
theorem zfv234_20 : zfetch 234 20 = some (.iload_n 1, 1, (0, 0, 0), 0, 0) := by decide +kernel
set_option maxRecDepth 100000 in
theorem zfv234_21 : zfetch 234 21 = some (.if_icmp .lt 20, 3, (41, 0, 0), 0, 0) := by decide +kernel
set_option maxRecDepth 100000 in
theorem zfv234_24 : zfetch 234 24 = some (.aload_n 0, 1, (0, 0, 0), 0, 0) := by decide +kernel
set_option maxRecDepth 100000 in
theorem zfv234_25 : zfetch 234 25 = some (.getfield 29, 3, (12, 8, 0), 0, 1625) := by decide +kernel
set_option maxRecDepth 100000 in
theorem zfv234_28 : zfetch 234 28 = some (.aload_n 0, 1, (0, 0, 0), 0, 0) := by decide +kernel
set_option maxRecDepth 100000 in
theorem zfv234_29 : zfetch 234 29 = some (.getfield 84, 3, (12, 10, 0), 0, 1627) := by decide +kernel
set_option maxRecDepth 100000 in
theorem zfv234_32 : zfetch 234 32 = some (.baload, 1, (0, 0, 0), 0, 0) := by decide +kernel
set_option maxRecDepth 100000 in
theorem zfv234_33 : zfetch 234 33 = some (.iload_n 2, 1, (0, 0, 0), 0, 0) := by decide +kernel
set_option maxRecDepth 100000 in
theorem zfv234_34 : zfetch 234 34 = some (.if_icmp .gt 7, 3, (41, 0, 0), 0, 0) := by decide +kernel
set_option maxRecDepth 100000 in
theorem zfv234_37 : zfetch 234 37 = some (.iconst 1, 1, (0, 0, 0), 1, 0) := by decide +kernel
set_option maxRecDepth 100000 in
theorem zfv234_38 : zfetch 234 38 = some (.goto 4, 3, (42, 0, 0), 0, 0) := by decide +kernel
set_option maxRecDepth 100000 in
theorem at_0 {E : zE} {n d : Nat} {h : zH} {a b : Int32} (hl : (h.2.1 84 11).toInt ≤ (h.2.1 84 10).toInt) (a84 : zat h.1 84 = some (.inr (.inl (12, [none, some (some 85), some (some 86), some (some 87), some (some 88), some (some 89), none, none, some (some 90), none, none, none, none, none, none, some (some 91), none, some (some 92), some (some 93)]))))  : zex E (n + 7) d 234 0 [some (.ref 84), some (.int a), some (.int b)] [] h = some (.inl (some (.int 0)), h) :=
  ((yAn zfv234_0 rfl rfl) : zex E (n + 7) d 234 0 [some (.ref 84), some (.int a), some (.int b)] [] h = zex E (n + 6) d 234 1 [some (.ref 84), some (.int a), some (.int b)] [.ref 84] h).trans (((zgi zfv234_1 a84 rfl) : zex E (n + 6) d 234 1 [some (.ref 84), some (.int a), some (.int b)] [.ref 84] h = zex E (n + 5) d 234 4 [some (.ref 84), some (.int a), some (.int b)] [.int (h.2.1 84 10)] h).trans (((yAn zfv234_4 rfl rfl) : zex E (n + 5) d 234 4 [some (.ref 84), some (.int a), some (.int b)] [.int (h.2.1 84 10)] h = zex E (n + 4) d 234 5 [some (.ref 84), some (.int a), some (.int b)] [.ref 84, .int (h.2.1 84 10)] h).trans (((zgi zfv234_5 a84 rfl) : zex E (n + 4) d 234 5 [some (.ref 84), some (.int a), some (.int b)] [.ref 84, .int (h.2.1 84 10)] h = zex E (n + 3) d 234 8 [some (.ref 84), some (.int a), some (.int b)] [.int (h.2.1 84 11), .int (h.2.1 84 10)] h).trans (((zkgT zfv234_8 hl) : zex E (n + 3) d 234 8 [some (.ref 84), some (.int a), some (.int b)] [.int (h.2.1 84 11), .int (h.2.1 84 10)] h = zex E (n + 2) d 234 41 [some (.ref 84), some (.int a), some (.int b)] [] h).trans (((yCi zfv234_41) : zex E (n + 2) d 234 41 [some (.ref 84), some (.int a), some (.int b)] [] h = zex E (n + 1) d 234 42 [some (.ref 84), some (.int a), some (.int b)] [.int 0] h).trans (((yRet2 zfv234_42 rfl (Or.inl rfl)) : zex E (n + 1) d 234 42 [some (.ref 84), some (.int a), some (.int b)] [.int 0] h = some (.inl (some (.int 0)), h))))))))
set_option maxRecDepth 100000 in
theorem at_1 {E : zE} {n d : Nat} {h : zH} {a b : Int32} {x : Int32} {p : Nat} (hp : (h.2.1 84 10).toInt = (p : Int)) (hp4 : p < 400) (hx : h.2.1 90 p = x) (hl : (h.2.1 84 10).toInt < (h.2.1 84 11).toInt) (hc : x.toInt < a.toInt) (a84 : zat h.1 84 = some (.inr (.inl (12, [none, some (some 85), some (some 86), some (some 87), some (some 88), some (some 89), none, none, some (some 90), none, none, none, none, none, none, some (some 91), none, some (some 92), some (some 93)])))) (a90 : zat h.1 90 = some (.inl (1, 400, [])))  : zex E (n + 14) d 234 0 [some (.ref 84), some (.int a), some (.int b)] [] h = some (.inl (some (.int 0)), h) :=
  ((yAn zfv234_0 rfl rfl) : zex E (n + 14) d 234 0 [some (.ref 84), some (.int a), some (.int b)] [] h = zex E (n + 13) d 234 1 [some (.ref 84), some (.int a), some (.int b)] [.ref 84] h).trans (((zgi zfv234_1 a84 rfl) : zex E (n + 13) d 234 1 [some (.ref 84), some (.int a), some (.int b)] [.ref 84] h = zex E (n + 12) d 234 4 [some (.ref 84), some (.int a), some (.int b)] [.int (h.2.1 84 10)] h).trans (((yAn zfv234_4 rfl rfl) : zex E (n + 12) d 234 4 [some (.ref 84), some (.int a), some (.int b)] [.int (h.2.1 84 10)] h = zex E (n + 11) d 234 5 [some (.ref 84), some (.int a), some (.int b)] [.ref 84, .int (h.2.1 84 10)] h).trans (((zgi zfv234_5 a84 rfl) : zex E (n + 11) d 234 5 [some (.ref 84), some (.int a), some (.int b)] [.ref 84, .int (h.2.1 84 10)] h = zex E (n + 10) d 234 8 [some (.ref 84), some (.int a), some (.int b)] [.int (h.2.1 84 11), .int (h.2.1 84 10)] h).trans (((zkgF zfv234_8 hl) : zex E (n + 10) d 234 8 [some (.ref 84), some (.int a), some (.int b)] [.int (h.2.1 84 11), .int (h.2.1 84 10)] h = zex E (n + 9) d 234 11 [some (.ref 84), some (.int a), some (.int b)] [] h).trans (((yAn zfv234_11 rfl rfl) : zex E (n + 9) d 234 11 [some (.ref 84), some (.int a), some (.int b)] [] h = zex E (n + 8) d 234 12 [some (.ref 84), some (.int a), some (.int b)] [.ref 84] h).trans (((zgx zfv234_12 a84 rfl) : zex E (n + 8) d 234 12 [some (.ref 84), some (.int a), some (.int b)] [.ref 84] h = zex E (n + 7) d 234 15 [some (.ref 84), some (.int a), some (.int b)] [.ref 90] h).trans (((yAn zfv234_15 rfl rfl) : zex E (n + 7) d 234 15 [some (.ref 84), some (.int a), some (.int b)] [.ref 90] h = zex E (n + 6) d 234 16 [some (.ref 84), some (.int a), some (.int b)] [.ref 84, .ref 90] h).trans (((zgi zfv234_16 a84 rfl) : zex E (n + 6) d 234 16 [some (.ref 84), some (.int a), some (.int b)] [.ref 84, .ref 90] h = zex E (n + 5) d 234 19 [some (.ref 84), some (.int a), some (.int b)] [.int (h.2.1 84 10), .ref 90] h).trans (((zlb zfv234_19 a90 hp hp4 hx) : zex E (n + 5) d 234 19 [some (.ref 84), some (.int a), some (.int b)] [.int (h.2.1 84 10), .ref 90] h = zex E (n + 4) d 234 20 [some (.ref 84), some (.int a), some (.int b)] [.int x] h).trans (((yIn zfv234_20 rfl) : zex E (n + 4) d 234 20 [some (.ref 84), some (.int a), some (.int b)] [.int x] h = zex E (n + 3) d 234 21 [some (.ref 84), some (.int a), some (.int b)] [.int a, .int x] h).trans (((zklT zfv234_21 hc) : zex E (n + 3) d 234 21 [some (.ref 84), some (.int a), some (.int b)] [.int a, .int x] h = zex E (n + 2) d 234 41 [some (.ref 84), some (.int a), some (.int b)] [] h).trans (((yCi zfv234_41) : zex E (n + 2) d 234 41 [some (.ref 84), some (.int a), some (.int b)] [] h = zex E (n + 1) d 234 42 [some (.ref 84), some (.int a), some (.int b)] [.int 0] h).trans (((yRet2 zfv234_42 rfl (Or.inl rfl)) : zex E (n + 1) d 234 42 [some (.ref 84), some (.int a), some (.int b)] [.int 0] h = some (.inl (some (.int 0)), h)))))))))))))))
set_option maxRecDepth 100000 in
theorem at_2 {E : zE} {n d : Nat} {h : zH} {a b : Int32} {x : Int32} {p : Nat} (hp : (h.2.1 84 10).toInt = (p : Int)) (hp4 : p < 400) (hx : h.2.1 90 p = x) (hl : (h.2.1 84 10).toInt < (h.2.1 84 11).toInt) (hc : a.toInt ≤ x.toInt) (he : b.toInt < x.toInt) (a84 : zat h.1 84 = some (.inr (.inl (12, [none, some (some 85), some (some 86), some (some 87), some (some 88), some (some 89), none, none, some (some 90), none, none, none, none, none, none, some (some 91), none, some (some 92), some (some 93)])))) (a90 : zat h.1 90 = some (.inl (1, 400, [])))  : zex E (n + 21) d 234 0 [some (.ref 84), some (.int a), some (.int b)] [] h = some (.inl (some (.int 0)), h) :=
  ((yAn zfv234_0 rfl rfl) : zex E (n + 21) d 234 0 [some (.ref 84), some (.int a), some (.int b)] [] h = zex E (n + 20) d 234 1 [some (.ref 84), some (.int a), some (.int b)] [.ref 84] h).trans (((zgi zfv234_1 a84 rfl) : zex E (n + 20) d 234 1 [some (.ref 84), some (.int a), some (.int b)] [.ref 84] h = zex E (n + 19) d 234 4 [some (.ref 84), some (.int a), some (.int b)] [.int (h.2.1 84 10)] h).trans (((yAn zfv234_4 rfl rfl) : zex E (n + 19) d 234 4 [some (.ref 84), some (.int a), some (.int b)] [.int (h.2.1 84 10)] h = zex E (n + 18) d 234 5 [some (.ref 84), some (.int a), some (.int b)] [.ref 84, .int (h.2.1 84 10)] h).trans (((zgi zfv234_5 a84 rfl) : zex E (n + 18) d 234 5 [some (.ref 84), some (.int a), some (.int b)] [.ref 84, .int (h.2.1 84 10)] h = zex E (n + 17) d 234 8 [some (.ref 84), some (.int a), some (.int b)] [.int (h.2.1 84 11), .int (h.2.1 84 10)] h).trans (((zkgF zfv234_8 hl) : zex E (n + 17) d 234 8 [some (.ref 84), some (.int a), some (.int b)] [.int (h.2.1 84 11), .int (h.2.1 84 10)] h = zex E (n + 16) d 234 11 [some (.ref 84), some (.int a), some (.int b)] [] h).trans (((yAn zfv234_11 rfl rfl) : zex E (n + 16) d 234 11 [some (.ref 84), some (.int a), some (.int b)] [] h = zex E (n + 15) d 234 12 [some (.ref 84), some (.int a), some (.int b)] [.ref 84] h).trans (((zgx zfv234_12 a84 rfl) : zex E (n + 15) d 234 12 [some (.ref 84), some (.int a), some (.int b)] [.ref 84] h = zex E (n + 14) d 234 15 [some (.ref 84), some (.int a), some (.int b)] [.ref 90] h).trans (((yAn zfv234_15 rfl rfl) : zex E (n + 14) d 234 15 [some (.ref 84), some (.int a), some (.int b)] [.ref 90] h = zex E (n + 13) d 234 16 [some (.ref 84), some (.int a), some (.int b)] [.ref 84, .ref 90] h).trans (((zgi zfv234_16 a84 rfl) : zex E (n + 13) d 234 16 [some (.ref 84), some (.int a), some (.int b)] [.ref 84, .ref 90] h = zex E (n + 12) d 234 19 [some (.ref 84), some (.int a), some (.int b)] [.int (h.2.1 84 10), .ref 90] h).trans (((zlb zfv234_19 a90 hp hp4 hx) : zex E (n + 12) d 234 19 [some (.ref 84), some (.int a), some (.int b)] [.int (h.2.1 84 10), .ref 90] h = zex E (n + 11) d 234 20 [some (.ref 84), some (.int a), some (.int b)] [.int x] h).trans (((yIn zfv234_20 rfl) : zex E (n + 11) d 234 20 [some (.ref 84), some (.int a), some (.int b)] [.int x] h = zex E (n + 10) d 234 21 [some (.ref 84), some (.int a), some (.int b)] [.int a, .int x] h).trans (((zklF zfv234_21 hc) : zex E (n + 10) d 234 21 [some (.ref 84), some (.int a), some (.int b)] [.int a, .int x] h = zex E (n + 9) d 234 24 [some (.ref 84), some (.int a), some (.int b)] [] h).trans (((yAn zfv234_24 rfl rfl) : zex E (n + 9) d 234 24 [some (.ref 84), some (.int a), some (.int b)] [] h = zex E (n + 8) d 234 25 [some (.ref 84), some (.int a), some (.int b)] [.ref 84] h).trans (((zgx zfv234_25 a84 rfl) : zex E (n + 8) d 234 25 [some (.ref 84), some (.int a), some (.int b)] [.ref 84] h = zex E (n + 7) d 234 28 [some (.ref 84), some (.int a), some (.int b)] [.ref 90] h).trans (((yAn zfv234_28 rfl rfl) : zex E (n + 7) d 234 28 [some (.ref 84), some (.int a), some (.int b)] [.ref 90] h = zex E (n + 6) d 234 29 [some (.ref 84), some (.int a), some (.int b)] [.ref 84, .ref 90] h).trans (((zgi zfv234_29 a84 rfl) : zex E (n + 6) d 234 29 [some (.ref 84), some (.int a), some (.int b)] [.ref 84, .ref 90] h = zex E (n + 5) d 234 32 [some (.ref 84), some (.int a), some (.int b)] [.int (h.2.1 84 10), .ref 90] h).trans (((zlb zfv234_32 a90 hp hp4 hx) : zex E (n + 5) d 234 32 [some (.ref 84), some (.int a), some (.int b)] [.int (h.2.1 84 10), .ref 90] h = zex E (n + 4) d 234 33 [some (.ref 84), some (.int a), some (.int b)] [.int x] h).trans (((yIn zfv234_33 rfl) : zex E (n + 4) d 234 33 [some (.ref 84), some (.int a), some (.int b)] [.int x] h = zex E (n + 3) d 234 34 [some (.ref 84), some (.int a), some (.int b)] [.int b, .int x] h).trans (((zkhT zfv234_34 he) : zex E (n + 3) d 234 34 [some (.ref 84), some (.int a), some (.int b)] [.int b, .int x] h = zex E (n + 2) d 234 41 [some (.ref 84), some (.int a), some (.int b)] [] h).trans (((yCi zfv234_41) : zex E (n + 2) d 234 41 [some (.ref 84), some (.int a), some (.int b)] [] h = zex E (n + 1) d 234 42 [some (.ref 84), some (.int a), some (.int b)] [.int 0] h).trans (((yRet2 zfv234_42 rfl (Or.inl rfl)) : zex E (n + 1) d 234 42 [some (.ref 84), some (.int a), some (.int b)] [.int 0] h = some (.inl (some (.int 0)), h))))))))))))))))))))))
set_option maxRecDepth 100000 in
theorem at_3 {E : zE} {n d : Nat} {h : zH} {a b : Int32} {x : Int32} {p : Nat} (hp : (h.2.1 84 10).toInt = (p : Int)) (hp4 : p < 400) (hx : h.2.1 90 p = x) (hl : (h.2.1 84 10).toInt < (h.2.1 84 11).toInt) (hc : a.toInt ≤ x.toInt) (he : x.toInt ≤ b.toInt) (a84 : zat h.1 84 = some (.inr (.inl (12, [none, some (some 85), some (some 86), some (some 87), some (some 88), some (some 89), none, none, some (some 90), none, none, none, none, none, none, some (some 91), none, some (some 92), some (some 93)])))) (a90 : zat h.1 90 = some (.inl (1, 400, [])))  : zex E (n + 22) d 234 0 [some (.ref 84), some (.int a), some (.int b)] [] h = some (.inl (some (.int 1)), h) :=
  ((yAn zfv234_0 rfl rfl) : zex E (n + 22) d 234 0 [some (.ref 84), some (.int a), some (.int b)] [] h = zex E (n + 21) d 234 1 [some (.ref 84), some (.int a), some (.int b)] [.ref 84] h).trans (((zgi zfv234_1 a84 rfl) : zex E (n + 21) d 234 1 [some (.ref 84), some (.int a), some (.int b)] [.ref 84] h = zex E (n + 20) d 234 4 [some (.ref 84), some (.int a), some (.int b)] [.int (h.2.1 84 10)] h).trans (((yAn zfv234_4 rfl rfl) : zex E (n + 20) d 234 4 [some (.ref 84), some (.int a), some (.int b)] [.int (h.2.1 84 10)] h = zex E (n + 19) d 234 5 [some (.ref 84), some (.int a), some (.int b)] [.ref 84, .int (h.2.1 84 10)] h).trans (((zgi zfv234_5 a84 rfl) : zex E (n + 19) d 234 5 [some (.ref 84), some (.int a), some (.int b)] [.ref 84, .int (h.2.1 84 10)] h = zex E (n + 18) d 234 8 [some (.ref 84), some (.int a), some (.int b)] [.int (h.2.1 84 11), .int (h.2.1 84 10)] h).trans (((zkgF zfv234_8 hl) : zex E (n + 18) d 234 8 [some (.ref 84), some (.int a), some (.int b)] [.int (h.2.1 84 11), .int (h.2.1 84 10)] h = zex E (n + 17) d 234 11 [some (.ref 84), some (.int a), some (.int b)] [] h).trans (((yAn zfv234_11 rfl rfl) : zex E (n + 17) d 234 11 [some (.ref 84), some (.int a), some (.int b)] [] h = zex E (n + 16) d 234 12 [some (.ref 84), some (.int a), some (.int b)] [.ref 84] h).trans (((zgx zfv234_12 a84 rfl) : zex E (n + 16) d 234 12 [some (.ref 84), some (.int a), some (.int b)] [.ref 84] h = zex E (n + 15) d 234 15 [some (.ref 84), some (.int a), some (.int b)] [.ref 90] h).trans (((yAn zfv234_15 rfl rfl) : zex E (n + 15) d 234 15 [some (.ref 84), some (.int a), some (.int b)] [.ref 90] h = zex E (n + 14) d 234 16 [some (.ref 84), some (.int a), some (.int b)] [.ref 84, .ref 90] h).trans (((zgi zfv234_16 a84 rfl) : zex E (n + 14) d 234 16 [some (.ref 84), some (.int a), some (.int b)] [.ref 84, .ref 90] h = zex E (n + 13) d 234 19 [some (.ref 84), some (.int a), some (.int b)] [.int (h.2.1 84 10), .ref 90] h).trans (((zlb zfv234_19 a90 hp hp4 hx) : zex E (n + 13) d 234 19 [some (.ref 84), some (.int a), some (.int b)] [.int (h.2.1 84 10), .ref 90] h = zex E (n + 12) d 234 20 [some (.ref 84), some (.int a), some (.int b)] [.int x] h).trans (((yIn zfv234_20 rfl) : zex E (n + 12) d 234 20 [some (.ref 84), some (.int a), some (.int b)] [.int x] h = zex E (n + 11) d 234 21 [some (.ref 84), some (.int a), some (.int b)] [.int a, .int x] h).trans (((zklF zfv234_21 hc) : zex E (n + 11) d 234 21 [some (.ref 84), some (.int a), some (.int b)] [.int a, .int x] h = zex E (n + 10) d 234 24 [some (.ref 84), some (.int a), some (.int b)] [] h).trans (((yAn zfv234_24 rfl rfl) : zex E (n + 10) d 234 24 [some (.ref 84), some (.int a), some (.int b)] [] h = zex E (n + 9) d 234 25 [some (.ref 84), some (.int a), some (.int b)] [.ref 84] h).trans (((zgx zfv234_25 a84 rfl) : zex E (n + 9) d 234 25 [some (.ref 84), some (.int a), some (.int b)] [.ref 84] h = zex E (n + 8) d 234 28 [some (.ref 84), some (.int a), some (.int b)] [.ref 90] h).trans (((yAn zfv234_28 rfl rfl) : zex E (n + 8) d 234 28 [some (.ref 84), some (.int a), some (.int b)] [.ref 90] h = zex E (n + 7) d 234 29 [some (.ref 84), some (.int a), some (.int b)] [.ref 84, .ref 90] h).trans (((zgi zfv234_29 a84 rfl) : zex E (n + 7) d 234 29 [some (.ref 84), some (.int a), some (.int b)] [.ref 84, .ref 90] h = zex E (n + 6) d 234 32 [some (.ref 84), some (.int a), some (.int b)] [.int (h.2.1 84 10), .ref 90] h).trans (((zlb zfv234_32 a90 hp hp4 hx) : zex E (n + 6) d 234 32 [some (.ref 84), some (.int a), some (.int b)] [.int (h.2.1 84 10), .ref 90] h = zex E (n + 5) d 234 33 [some (.ref 84), some (.int a), some (.int b)] [.int x] h).trans (((yIn zfv234_33 rfl) : zex E (n + 5) d 234 33 [some (.ref 84), some (.int a), some (.int b)] [.int x] h = zex E (n + 4) d 234 34 [some (.ref 84), some (.int a), some (.int b)] [.int b, .int x] h).trans (((zkhF zfv234_34 he) : zex E (n + 4) d 234 34 [some (.ref 84), some (.int a), some (.int b)] [.int b, .int x] h = zex E (n + 3) d 234 37 [some (.ref 84), some (.int a), some (.int b)] [] h).trans (((yCi zfv234_37) : zex E (n + 3) d 234 37 [some (.ref 84), some (.int a), some (.int b)] [] h = zex E (n + 2) d 234 38 [some (.ref 84), some (.int a), some (.int b)] [.int 1] h).trans (((yGo zfv234_38) : zex E (n + 2) d 234 38 [some (.ref 84), some (.int a), some (.int b)] [.int 1] h = zex E (n + 1) d 234 42 [some (.ref 84), some (.int a), some (.int b)] [.int 1] h).trans (((yRet2 zfv234_42 rfl (Or.inr rfl)) : zex E (n + 1) d 234 42 [some (.ref 84), some (.int a), some (.int b)] [.int 1] h = some (.inl (some (.int 1)), h)))))))))))))))))))))))
set_option maxRecDepth 100000 in
theorem kK_1d {T : Nat → Int} {L s : Nat} : kK T L s = 1 ↔ (s < L ∧ 48 ≤ T s ∧ T s ≤ 57) := by
  unfold kK
  by_cases h1 : L ≤ s
  · rw [if_pos h1]
    constructor
    · intro z; exact absurd z (by decide)
    · intro z; omega
  · rw [if_neg h1]
    by_cases h2 : isDg (T s) = true
    · rw [if_pos h2]
      exact ⟨fun _ => ⟨by omega, isDg_s.mp h2⟩, fun _ => rfl⟩
    · rw [if_neg h2]
      have h3 : ¬ (s < L ∧ 48 ≤ T s ∧ T s ≤ 57) := fun z => h2 (isDg_s.mpr z.2)
      constructor
      · intro z
        by_cases h4 : isLt (T s) = true
        · rw [if_pos h4] at z; exact absurd z (by decide)
        · rw [if_neg h4] at z; exact absurd z (by decide)
      · intro z; exact absurd z h3
set_option maxRecDepth 100000 in
theorem bd_p0 : ∀ q, q < 8 → ∀ j, j < 24 → (biv 85 (185 + 24 * q + j)).1 ≤ 0 ∧ 0 ≤ (biv 85 (185 + 24 * q + j)).2 := by decide +kernel
set_option maxRecDepth 100000 in
theorem wY8412 : Nat.testBit wY (bun 84 12) = true := by decide +kernel
def pσ (σ : hSt) (n : Nat) (w : Nat → Nat) : hSt := ((sR σ, sD σ, sP σ + 1), sdl σ, (fun p => if p = sP σ then n else ssl σ p), (fun p => if p = sP σ then w else swk σ p), spt σ, spl σ, (fun p => if p = sP σ then 100 else skp σ p), swt σ)
set_option maxRecDepth 100000 in
theorem pσ_WF {σ : hSt} {n : Nat} {w : Nat → Nat} (hW : WF σ) (hp : sP σ < 8) (hn : n ≤ 12) : WF (pσ σ n w) := by
  obtain ⟨w1, w2, w3, w4, w5, w6⟩ := hW
  refine ⟨w1, w2, hp, w4, w5, fun p h => ?_⟩
  have h : p < sP σ + 1 := h
  show (if p = sP σ then n else ssl σ p) ≤ 12
  by_cases e : p = sP σ
  · rw [if_pos e]; exact hn
  · rw [if_neg e]; exact w6 p (by omega)
def hbM (h : zH) (h0 : zH) (L : Nat) (σ : hSt) (r : (Nat × (Nat → Nat) × Nat) ⊕ Nat) (o : Option zR) : Prop := match r with
  | .inr w => ∃ h' p, o = some (.inl (some (.int 0)), h') ∧ YT h0 L h' p w
  | .inl (n, w, e) => ∃ h' p b, o = some (.inl (some (.int 1)), h') ∧ YT h0 L h' p b ∧ sk isBl (tp90 h0) L p = e ∧ RM h' (pσ σ n w) ∧ n ≤ 12 ∧ QS h h'
set_option maxRecDepth 100000 in
theorem hbM_e {h h0 : zH} {L : Nat} {σ : hSt} {r : (Nat × (Nat → Nat) × Nat) ⊕ Nat} {o o' : Option zR} (e : o = o') (k : hbM h h0 L σ r o') : hbM h h0 L σ r o := by rw [e]; exact k
set_option maxRecDepth 100000 in
theorem hbM_q {h h1 h0 : zH} {L : Nat} {σ : hSt} {r : (Nat × (Nat → Nat) × Nat) ⊕ Nat} {o : Option zR} (q : QS h h1) (k : hbM h1 h0 L σ r o) : hbM h h0 L σ r o := by
  cases r with
  | inr w => exact k
  | inl x =>
    obtain ⟨n, w, e⟩ := x
    obtain ⟨h', p, b, k1, k2, k3, k4, k5, k6⟩ := k
    exact ⟨h', p, b, k1, k2, k3, k4, k5, QS_t q k6⟩
section MP
variable {E : zE} {B F : Nat} {h0 h : zH} {L p b : Nat} {σ : hSt}
set_option maxRecDepth 100000 in
theorem y_at (ht : YT h0 L h p b) (hL : L ≤ 400) {a9 b9 : Int32} {lo hi : Int} (ha : a9.toInt = lo) (hb : b9.toInt = hi) : ∀ d f, 60 ≤ f → zex E f d 234 0 [some (.ref 84), some (.int a9), some (.int b9)] [] h = some (.inl (some (.int (if p < L ∧ lo ≤ tp90 h0 p ∧ tp90 h0 p ≤ hi then 1 else 0))), h) := by
  intro d f hf
  obtain ⟨n, hn⟩ : ∃ n, f = n + 60 := ⟨f - 60, by omega⟩
  subst hn
  obtain ⟨hr, ⟨t1, t2, t3⟩, hp, hb9⟩ := ht
  have hT : tp90 h p = tp90 h0 p := by rw [wY_90 hr]
  have hT : (h.2.1 90 p).toInt = tp90 h0 p := hT
  have a84 := b84_ha hr
  have a90 := hr.2.2.1 90 _ cs90 (by intro z; cases z)
  by_cases c1 : p < L
  · by_cases c2 : lo ≤ tp90 h0 p
    · by_cases c3 : tp90 h0 p ≤ hi
      · rw [if_pos ⟨c1, c2, c3⟩]
        exact at_3 (n := n + 38) (d := d) t2 (by omega) rfl (by omega) (by omega) (by omega) a84 a90
      · rw [if_neg (fun z => c3 z.2.2)]
        exact at_2 (n := n + 39) (d := d) t2 (by omega) rfl (by omega) (by omega) (by omega) a84 a90
    · rw [if_neg (fun z => c2 z.2.1)]
      exact at_1 (n := n + 46) (d := d) t2 (by omega) rfl (by omega) (by omega) a84 a90
  · rw [if_neg (fun z => c1 z.1)]
    exact at_0 (n := n + 53) (d := d) (by omega) a84
set_option maxRecDepth 100000 in
theorem y_put {W : Nat} {ga gb : Nat} {g0 : zH} (hr : bRQ ctb W g0 ga gb h) {p9 j9 y : Int32} {a j : Nat} (hp : p9.toInt = (a : Int)) (ha : a < 8) (hj : j9.toInt = (j : Int)) (hj2 : j < 24) : ∀ d f, 1 ≤ d → 60 ≤ f → zex E f d 222 0 [some (.ref 84), some (.int p9), some (.int j9), some (.int y)] [] h = some (.inl none, zsetI h 85 (upd (h.2.1 85) (185 + 24 * a + j) y)) := by
  intro d f hd hf
  obtain ⟨n, hn⟩ : ∃ n, f = n + 13 := ⟨f - 13, by omega⟩
  obtain ⟨d', hd'⟩ : ∃ d', d = d' + 1 := ⟨d - 1, by omega⟩
  subst hn hd'
  exact mh_put (n := n + 5) (d := d') (pers_i hp ha hj hj2) (by omega) (b84_ha hr) (b85_ha hr) (mh_pi (n := n) (d := d'))
set_option maxRecDepth 100000 in
theorem y_get {W : Nat} {ga gb : Nat} {g0 : zH} (hr : bRQ ctb W g0 ga gb h) {p9 j9 : Int32} {a j : Nat} (hp : p9.toInt = (a : Int)) (ha : a < 8) (hj : j9.toInt = (j : Int)) (hj2 : j < 24) : ∀ d f, 1 ≤ d → 60 ≤ f → zex E f d 221 0 [some (.ref 84), some (.int p9), some (.int j9)] [] h = some (.inl (some (.int (h.2.1 85 (185 + 24 * a + j)))), h) := by
  intro d f hd hf
  obtain ⟨n, hn⟩ : ∃ n, f = n + 13 := ⟨f - 13, by omega⟩
  obtain ⟨d', hd'⟩ : ∃ d', d = d' + 1 := ⟨d - 1, by omega⟩
  subst hn hd'
  exact mh_get (n := n + 6) (d := d') (pers_i hp ha hj hj2) (by omega) rfl (b84_ha hr) (b85_ha hr) (mh_pi (n := n) (d := d'))
set_option maxRecDepth 100000 in
theorem y_near {W : Nat} {ga gb : Nat} {g0 : zH} (hr : bRQ ctb W g0 ga gb h) (hR : RM h σ) (hW : WF σ) {a9 b9 : Int32} {a b : Nat} (ha : a9.toInt = (a : Int)) (hb : b9.toInt = (b : Int)) : ∀ d f, 2200 ≤ f → zex E f d 230 0 [some (.ref 84), some (.int a9), some (.int b9), none, none, none, none] [] h = some (.inl (some (.int (if dor (sdl σ) a b = true then 1 else 0))), h) := by
  intro d f hf
  obtain ⟨n, hn⟩ : ∃ n, f = n + 4 := ⟨f - 4, by omega⟩
  subst hn
  have w2 := hW.2.1
  rw [mn_0 (n := n) (d := d)]
  exact y_nearL hr hR hW ha hb (sD σ) 0 0 0 none none (by omega) rfl rfl d n (by omega)
set_option maxRecDepth 100000 in
theorem xi3 : (3 : Int32).toInt = ((3 : Nat) : Int) := by decide
set_option maxRecDepth 100000 in
theorem xi4 : (4 : Int32).toInt = 4 := by decide
set_option maxRecDepth 100000 in
theorem xi24 : (24 : Int32).toInt = 24 := by decide
set_option maxRecDepth 100000 in
theorem xi48 : (48 : Int32).toInt = 48 := by decide
set_option maxRecDepth 100000 in
theorem xi57 : (57 : Int32).toInt = 57 := by decide
set_option maxRecDepth 100000 in
theorem xi100 : (100 : Int32).toInt = 100 := by decide
set_option maxRecDepth 100000 in
theorem YT_12 {b' : Nat} {y : Int32} (ht : YT h0 L h p b) (hL : L ≤ 400) (hb : b' ≤ L) (hy : y.toInt = (b' : Int)) : YT h0 L (zsetI h 84 (upd (h.2.1 84) 12 y)) p b' := by
  obtain ⟨hr, ⟨t1, t2, t3⟩, hp, hb9, hx⟩ := ht
  exact ⟨bRQ_set hr wY8412 (by rw [biv8412]; exact ⟨by show (0 : Int) ≤ _; omega, by show _ ≤ (400 : Int); omega⟩) rfl rfl (by decide) (by decide), ⟨by rw [zs_at, upd_n (by decide)]; exact t1, by rw [zs_at, upd_n (by decide)]; exact t2, by rw [zs_at, upd_e]; exact hy⟩, hp, hb, XT_84 (by decide) (by decide) hx⟩
set_option maxRecDepth 100000 in
theorem y_zero {P : Nat} (hsP : sP σ = P) (hP : P < 8) (hW : WF σ) {p9 : Int32} (hp9 : p9.toInt = (P : Int)) {u3 u4 : Option Value} : ∀ (k j : Nat) (j9 : Int32) (h : zH), k + j = 24 → j9.toInt = (j : Int) → YT h0 L h p b → RM h σ → ∀ n d, 1 ≤ d → ∃ h' j', zex E (n + 60 + 10 * k) (d + 1) 249 15 [some (.ref 84), some (.int p9), some (.int j9), u3, u4] [] h = zex E (n + 60) (d + 1) 249 15 [some (.ref 84), some (.int p9), some (.int j'), u3, u4] [] h' ∧ j'.toInt = 24 ∧ YT h0 L h' p b ∧ RM h' σ ∧ (∀ K, (K < 185 + 24 * P + j ∨ 209 + 24 * P ≤ K) → h'.2.1 85 K = h.2.1 85 K) ∧ ∀ i, j ≤ i → i < 24 → h'.2.1 85 (185 + 24 * P + i) = 0 := by
  intro k
  induction k with
  | zero => intro j j9 h hk hj ht hR n d hd; exact ⟨h, j9, rfl, by omega, ht, hR, fun _ _ => rfl, fun i h1 h2 => by omega⟩
  | succ k IH =>
    intro j j9 h hk hj ht hR n d hd
    obtain ⟨w1, w2, w3, w4, w5, w6⟩ := id hW
    obtain ⟨⟨r1, r2, r3⟩, r4⟩ := id hR
    obtain ⟨b1, b2⟩ := bd_p0 P hP j (by omega)
    have t1 := YT_85 (y := 0) ht (jn := 185 + 24 * P + j) (by omega) ⟨b1, b2⟩ (blam_o (blam_h ht.1) (by omega) (fun p hp => by rw [r3, hsP] at hp; omega))
    have R1 := RM_n (y := 0) (K := 185 + 24 * P + j) hR hW (by omega) (by omega) (fun p hp => by omega)
    obtain ⟨h', j', e2, q1, q2, q3, q4, q5⟩ := IH (j + 1) (j9 + 1) _ (by omega) (by rw [i32_add (by rw [hj, int1]; omega) (by rw [hj, int1]; omega), hj, int1]; omega) t1 R1 n d hd
    refine ⟨h', j', ?_, q1, q2, q3, fun K hK => (q4 K (by omega)).trans (by rw [zs_at, upd_n (by omega)]), fun i h1 h2 => ?_⟩
    rotate_left
    · by_cases hij : i = j
      · rw [hij, q4 _ (by omega), zs_at, upd_e]
      · exact q5 i (by omega) h2
    have e1 := y_put (E := E) ht.1 (p9 := p9) (j9 := j9) (y := 0) hp9 hP hj (by omega) d (n + 60 + 10 * k + 2) hd (by omega)
    rw [show n + 60 + 10 * (k + 1) = n + 60 + 10 * k + 10 by omega]
    exact (mpx_2 (n := n + 60 + 10 * k) (d := d) (by rw [hj, xi24]; omega) (b84_ha ht.1) e1).trans e2
set_option maxRecDepth 100000 in
theorem y_hend (hE : E.1 < 2147483648) (hsm : bSO E ctb B (60, smT)) (hF : 1000000 ≤ F) (hL : L ≤ 400) {P : Nat} (hsP : sP σ = P) (hP : P < 8) (hW : WF σ) {p9 : Int32} (hp9 : p9.toInt = (P : Int)) {h3 : zH} {k s p3 b3 : Nat} {v fi : Nat} {W' : Nat → Nat} {n9 b9 y : Int32} (hk : k < 12) (hn9 : n9.toInt = ((k + 1 : Nat) : Int)) (t3 : YT h0 L h3 p3 b3) (R3 : RM h3 σ) (ws : ∀ i, i < k + 1 → (h3.2.1 85 (189 + 24 * P + i)).toInt = (W' i : Int)) (wk : W' k = v) (w0 : W' 0 = fi) (hs : s ≤ L) (hb9 : b9.toInt = (s : Int)) {e : Nat} (he : sk isBl (tp90 h0) L p3 = e) :
    ∀ d f, 66 ≤ d → 2600 ≤ f → hbM h3 h0 L σ (if lead (sdl σ) v fi = true then .inl (k + 1, W', e) else .inr s) (zex E f d 249 134 [some (.ref 84), some (.int p9), some (.int n9), some (.int b9), some (.int y)] [] h3) := by
  intro d f hd hf
  obtain ⟨d', hd'⟩ : ∃ d', d = d' + 1 := ⟨d - 1, by omega⟩
  obtain ⟨n, hn⟩ : ∃ n, f = n + 2500 := ⟨f - 2500, by omega⟩
  subst hd' hn
  obtain ⟨w1, w2, w3, w4, w5, w6⟩ := id hW
  have a84 := b84_ha t3.1
  have e1 := fun f hf => y_put (E := E) t3.1 (p9 := p9) (j9 := 3) (y := n9) hp9 hP xi3 (by decide) d' f (by omega) hf
  have bl := (bd_pers P hP).2.2.2.1
  rw [show 188 + 24 * P = 185 + 24 * P + 3 by omega] at bl
  have t4 := YT_85 (y := n9) t3 (jn := 185 + 24 * P + 3) (by omega) (by rw [bl]; exact ⟨by show (0 : Int) ≤ _; omega, by show _ ≤ (12 : Int); omega⟩) (blam_o (blam_h t3.1) (by omega) (fun p hp => by rw [R3.1.2.2, hsP] at hp; omega))
  have R4 := RM_n (y := n9) (K := 185 + 24 * P + 3) R3 hW (by omega) (by omega) (fun p hp => by omega)
  have v4 : (zsetI h3 85 (upd (h3.2.1 85) (185 + 24 * P + 3) n9)).2.1 85 (185 + 24 * P + 3) = n9 := by rw [zs_at, upd_e]
  have o4 : ∀ K, K ≠ 185 + 24 * P + 3 → (zsetI h3 85 (upd (h3.2.1 85) (185 + 24 * P + 3) n9)).2.1 85 K = h3.2.1 85 K := fun K hK => by rw [zs_at, upd_n hK]
  obtain ⟨h4, hh4⟩ : ∃ h4, h4 = zsetI h3 85 (upd (h3.2.1 85) (185 + 24 * P + 3) n9) := ⟨_, rfl⟩
  rw [← hh4] at t4 R4 v4 o4 e1
  have hq3 : (h4.2.1 85 2).toInt = (P : Int) := by rw [R4.1.2.2, hsP]
  have hq4 : (h4.2.1 85 2 + 1).toInt = ((P + 1 : Nat) : Int) := by rw [i32_add (by rw [hq3, int1]; omega) (by rw [hq3, int1]; omega), hq3, int1]; omega
  have bm : blam (upd (h4.2.1 85) 2 (h4.2.1 85 2 + 1)) := by
    intro q hq
    rw [upd_e, hq4] at hq
    rw [upd_n (by omega)]
    by_cases hqP : q = P
    · rw [hqP, show 188 + 24 * P = 185 + 24 * P + 3 by omega, v4, hn9]; omega
    · exact blam_h t4.1 q (by rw [hq3]; omega)
  have t5 := YT_85 (y := h4.2.1 85 2 + 1) t4 (jn := 2) (by decide) (by rw [bd_79.2.2.2.2, hq4]; exact ⟨by show (0 : Int) ≤ _; omega, by show _ ≤ (8 : Int); omega⟩) bm
  have R5 : RM (zsetI h4 85 (upd (h4.2.1 85) 2 (h4.2.1 85 2 + 1))) (pσ σ (k + 1) W') := by
    obtain ⟨⟨r1, r2, r3⟩, r4, r5⟩ := R4
    refine ⟨⟨by rw [zs_at, upd_n (by decide)]; exact r1, by rw [zs_at, upd_n (by decide)]; exact r2, by rw [zs_at, upd_e, hq4, ← hsP]; rfl⟩, fun i q hi => ?_, fun q hq => ?_⟩
    · rw [zs_at, zs_at, upd_n (by omega), upd_n (by omega)]
      exact r4 i q hi
    · have hq : q < sP σ + 1 := hq
      show ((zsetI h4 85 (upd (h4.2.1 85) 2 (h4.2.1 85 2 + 1))).2.1 85 (188 + 24 * q)).toInt = (((if q = sP σ then k + 1 else ssl σ q) : Nat) : Int) ∧ ∀ i, i < (if q = sP σ then k + 1 else ssl σ q) → ((zsetI h4 85 (upd (h4.2.1 85) 2 (h4.2.1 85 2 + 1))).2.1 85 (189 + 24 * q + i)).toInt = (((if q = sP σ then W' else swk σ q) i : Nat) : Int)
      by_cases hqs : q = sP σ
      · rw [if_pos hqs, if_pos hqs, hqs, hsP]
        refine ⟨by rw [zs_at, upd_n (by omega), show 188 + 24 * P = 185 + 24 * P + 3 by omega, v4, hn9], fun i hi => ?_⟩
        rw [zs_at, upd_n (by omega), o4 _ (by omega)]
        exact ws i hi
      · rw [if_neg hqs, if_neg hqs]
        have z5 := r5 q (by omega)
        refine ⟨by rw [zs_at, upd_n (by omega)]; exact z5.1, fun i hi => ?_⟩
        rw [zs_at, upd_n (by omega)]
        exact z5.2 i hi
  have W5 : WF (pσ σ (k + 1) W') := pσ_WF hW (by omega) (by omega)
  have o5 : ∀ K, K ≠ 2 → (zsetI h4 85 (upd (h4.2.1 85) 2 (h4.2.1 85 2 + 1))).2.1 85 K = h4.2.1 85 K := fun K hK => by rw [zs_at, upd_n hK]
  have a84_4 := b84_ha t4.1
  have a85_4 := b85_ha t4.1
  have jk : ((4 + n9) - 1).toInt = ((4 + k : Nat) : Int) := by
    have x1 : (4 + n9).toInt = 4 + n9.toInt := by rw [i32_add (by rw [xi4, hn9]; omega) (by rw [xi4, hn9]; omega), xi4]
    rw [i32_sub (by rw [x1, int1, hn9]; omega) (by rw [x1, int1, hn9]; omega), x1, int1, hn9]; omega
  obtain ⟨h5, hh5⟩ : ∃ h5, h5 = zsetI h4 85 (upd (h4.2.1 85) 2 (h4.2.1 85 2 + 1)) := ⟨_, rfl⟩
  have cC := fun {n d : Nat} {q1 q2 : Int32} hf e1 e2 e3 => mpx_c (E := E) (n := n) (d := d) (h := h3) (h1 := h4) (p := p9) (n9 := n9) (b9 := b9) (v := y) (q := h4.2.1 85 2) (e := q1) (f := q2) rfl hf a84 a84_4 a85_4 e1 e2 e3
  have cD := fun {n d : Nat} {q1 q2 : Int32} hf e1 e2 e3 e4 e5 => mpx_d (E := E) (n := n) (d := d) (h := h3) (h1 := h4) (p := p9) (n9 := n9) (b9 := b9) (v := y) (q := h4.2.1 85 2) (e := q1) (f := q2) rfl hf a84 a84_4 a85_4 e1 e2 e3 e4 e5
  have cE := fun {n d : Nat} {q1 q2 : Int32} hf e1 e2 e3 e4 e5 => mpx_e (E := E) (n := n) (d := d) (h := h3) (h1 := h4) (p := p9) (n9 := n9) (b9 := b9) (v := y) (q := h4.2.1 85 2) (e := q1) (f := q2) rfl hf a84 a84_4 a85_4 e1 e2 e3 e4 e5
  rw [← hh5] at t5 R5 o5 cC cD cE
  have Q5 : QS h3 h5 := fun K hK => by
    have hq3 : K ≠ 2 ∧ K ≠ 185 + 24 * P + 3 := by
      rcases hK with ⟨r, r1, r2⟩ | ⟨p, p1, z | z | z⟩ <;> omega
    rw [o5 K hq3.1, o4 K hq3.2]
  have ge := fun f hf => y_get (E := E) t5.1 (p9 := p9) (j9 := (4 + n9) - 1) hp9 hP jk (by omega) d' f (by omega) hf
  have gf := fun f hf => y_get (E := E) t5.1 (p9 := p9) (j9 := 4) hp9 hP (j := 4) xi4 (by decide) d' f (by omega) hf
  have ve : (h5.2.1 85 (185 + 24 * P + (4 + k))).toInt = (v : Int) := by
    rw [o5 _ (by omega), o4 _ (by omega), show 185 + 24 * P + (4 + k) = 189 + 24 * P + k by omega, ws k (by omega), wk]
  have vf : (h5.2.1 85 (185 + 24 * P + 4)).toInt = (fi : Int) := by
    rw [o5 _ (by omega), o4 _ (by omega), show 185 + 24 * P + 4 = 189 + 24 * P + 0 by omega, ws 0 (by omega), w0]
  by_cases hvf : v = fi
  · rw [if_pos (show lead (sdl σ) v fi = true by unfold lead; rw [hvf, Nat.beq_refl]; rfl)]
    exact ⟨h5, p3, b3, cC (n := n + 2470) (d := d') (by rw [ve, vf, hvf]) (e1 (n + 2495) (by omega)) (ge (n + 2479) (by omega)) (gf (n + 2473) (by omega)), t5, he, R5, by omega, Q5⟩
  · have nr := fun f hf => y_near (E := E) t5.1 R5 W5 ve vf d' f hf
    have hl : lead (sdl σ) v fi = dor (sdl σ) v fi := by unfold lead; rw [nbq hvf, Bool.false_or]
    rw [hl]
    have nr : ∀ f, 2200 ≤ f → zex E f d' 230 0 [some (.ref 84), some (.int (h5.2.1 85 (185 + 24 * P + (4 + k)))), some (.int (h5.2.1 85 (185 + 24 * P + 4))), none, none, none, none] [] h5 = some (.inl (some (.int (if dor (sdl σ) v fi = true then 1 else 0))), h5) := nr
    by_cases hdo : dor (sdl σ) v fi = true
    · rw [if_pos hdo] at nr ⊢
      exact ⟨h5, p3, b3, cD (n := n + 2462) (d := d') (by rw [ve, vf]; omega) (e1 (n + 2495) (by omega)) (ge (n + 2479) (by omega)) (gf (n + 2473) (by omega)) (gf (n + 2466) (by omega)) (nr (n + 2465) (by omega)), t5, he, R5, by omega, Q5⟩
    · rw [if_neg hdo] at nr ⊢
      exact ⟨_, p3, cE (n := n + 2459) (d := d') (by rw [ve, vf]; omega) (e1 (n + 2495) (by omega)) (ge (n + 2479) (by omega)) (gf (n + 2473) (by omega)) (gf (n + 2466) (by omega)) (nr (n + 2465) (by omega)), YT_12 t5 hL hs hb9⟩
set_option maxRecDepth 100000 in
theorem y_habit (hE : E.1 < 2147483648) (hsm : bSO E ctb B (60, smT)) (hF : 1000000 ≤ F) (hL : L ≤ 400) {P : Nat} (hsP : sP σ = P) (hP : P < 8) (hW : WF σ) {p9 : Int32} (hp9 : p9.toInt = (P : Int)) {G : Nat} (hG : F * 500 ≤ G) :
    ∀ (m k fi la : Nat) (w : Nat → Nat) (s : Nat) (h : zH) (p b : Nat) (n9 : Int32) (u3 u4 : Option Value), k + (m + 1) = 13 → n9.toInt = (k : Int) → YT h0 L h p b → RM h σ → sk isBl (tp90 h0) L p = s → (∀ i, i < k → (h.2.1 85 (189 + 24 * P + i)).toInt = (w i : Int)) → (k ≠ 0 → w (k - 1) = la ∧ w 0 = fi) →
    ∀ d f, 67 ≤ d → B + G * (m + 1) ≤ f → hbM h h0 L σ (hbq (tp90 h0) L (sR σ) (sdl σ) (m + 1) k fi la w s) (zex E f d 249 44 [some (.ref 84), some (.int p9), some (.int n9), u3, u4] [] h) := by
  intro m
  induction m with
  | zero =>
    intro k fi la w s h p b n9 u3 u4 hk hn9 ht hR hs hw hkl d f hd hf
    obtain ⟨d', hd'⟩ : ∃ d', d = d' + 1 := ⟨d - 1, by omega⟩
    obtain ⟨n, hn⟩ : ∃ n, f = n + 400 := ⟨f - 400, by omega⟩
    subst hd' hn
    have a84 := b84_ha ht.1
    have st1 := fun f hf => y_room hE hsm hF hL ht hR.1.1 hW.1 d' f (by omega) hf
    rw [hs] at st1
    unfold hbq
    rw [if_pos (show 12 ≤ k by omega)]
    cases hn1 : nmq (tp90 h0) L s 0 ((sR σ : Int) - 1) with
    | none =>
      rw [hn1] at st1
      obtain ⟨y, h1, p1, e1, k1, t1, n1⟩ := st1 (n + 398) (by omega)
      have n1 : y.toInt = -1 := n1
      exact ⟨h1, p1, mpx_4 (n := n + 390) (d := d') (by omega) a84 (b84_ha t1.1) e1, t1⟩
    | some v =>
      rw [hn1] at st1
      have b1 := nmq_b hn1
      obtain ⟨y, h1, p1, e1, k1, t1, n1, n2⟩ := st1 (n + 398) (by omega)
      exact ⟨h1, p1, mpx_5 (n := n + 387) (d := d') (by omega) (by rw [hn9, int12]; omega) a84 (b84_ha t1.1) e1, t1⟩
  | succ m IH =>
    intro k fi la w s h p b n9 u3 u4 hk hn9 ht hR hs hw hkl d f hd hf
    have hGm : G * (m + 1 + 1) = G * (m + 1) + G := Nat.mul_succ _ _
    obtain ⟨d', hd'⟩ : ∃ d', d = d' + 1 := ⟨d - 1, by omega⟩
    obtain ⟨n, hn⟩ : ∃ n, f = n + 3000 := ⟨f - 3000, by omega⟩
    subst hd' hn
    obtain ⟨w1, w2, w3, w4, w5, w6⟩ := id hW
    have a84 := b84_ha ht.1
    have st1 := fun f hf => y_room hE hsm hF hL ht hR.1.1 hW.1 d' f (by omega) hf
    rw [hs] at st1
    unfold hbq
    rw [if_neg (show ¬ 12 ≤ k by omega)]
    cases hn1 : nmq (tp90 h0) L s 0 ((sR σ : Int) - 1) with
    | none =>
      rw [hn1] at st1
      obtain ⟨y, h1, p1, e1, k1, t1, n1⟩ := st1 (n + 2998) (by omega)
      have n1 : y.toInt = -1 := n1
      exact ⟨h1, p1, mpx_4 (n := n + 2990) (d := d') (by omega) a84 (b84_ha t1.1) e1, t1⟩
    | some v =>
      rw [hn1] at st1
      have b1 := nmq_b hn1
      dsimp only
      obtain ⟨fi', hfi'⟩ : ∃ x, x = (if k = 0 then v.toNat else fi) := ⟨_, rfl⟩
      obtain ⟨W', hW'⟩ : ∃ x : Nat → Nat, x = (fun i => if i = k then v.toNat else w i) := ⟨_, rfl⟩
      rw [← hfi', ← hW']
      have wk : W' k = v.toNat := by rw [hW']; exact if_pos rfl
      have wi : ∀ i, i ≠ k → W' i = w i := fun i hi => by rw [hW']; exact if_neg hi
      have w0 : W' 0 = fi' := by
        by_cases hk0 : k = 0
        · rw [hfi', if_pos hk0, ← hk0, wk]
        · rw [hfi', if_neg hk0, wi 0 (by omega)]; exact (hkl hk0).2
      have cont : ∀ (h1 : zH) (p1 : Nat) (y : Int32), RW h h1 → YT h0 L h1 p1 s → y.toInt = v → p1 = kE (tp90 h0) L s → ∀ fm, B + G * (m + 1) + F * 450 ≤ fm → hbM h1 h0 L σ (if kK (tp90 h0) L (nxt (tp90 h0) L s) = 1 then hbq (tp90 h0) L (sR σ) (sdl σ) (m + 1) (k + 1) fi' v.toNat W' (nxt (tp90 h0) L s) else if lead (sdl σ) v.toNat fi' = true then .inl (k + 1, W', nxt (tp90 h0) L s) else .inr s) (zex E fm (d' + 1) 249 106 [some (.ref 84), some (.int p9), some (.int n9), some (.int (h1.2.1 84 12)), some (.int y)] [] h1) := by
        intro h1 p1 y k1 t1 n1 n2 fm hfm
        obtain ⟨q, hq⟩ : ∃ q, fm = q + 3000 := ⟨fm - 3000, by omega⟩
        subst hq
        have R1 := RM_w hR hW k1
        have j4 : (4 + n9).toInt = ((4 + k : Nat) : Int) := by rw [i32_add (by rw [xi4, hn9]; omega) (by rw [xi4, hn9]; omega), xi4, hn9]; omega
        have bd := (bd_pers P hP).2.2.2.2.1 k (by omega)
        rw [show 189 + k + 24 * P = 185 + 24 * P + (4 + k) by omega] at bd
        have t2 := YT_85 (y := y) t1 (jn := 185 + 24 * P + (4 + k)) (by omega) (by rw [bd]; exact ⟨by show (0 : Int) ≤ _; omega, by show _ ≤ (11 : Int); omega⟩) (blam_o (blam_h t1.1) (by omega) (fun p _ => by omega))
        have R2 := RM_n (y := y) (K := 185 + 24 * P + (4 + k)) R1 hW (by omega) (by omega) (fun p hp => by omega)
        have e1 := fun f hf => y_put (E := E) t1.1 (p9 := p9) (j9 := 4 + n9) (y := y) hp9 hP j4 (by omega) d' f (by omega) hf
        have v2 : (zsetI h1 85 (upd (h1.2.1 85) (185 + 24 * P + (4 + k)) y)).2.1 85 (185 + 24 * P + (4 + k)) = y := by rw [zs_at, upd_e]
        have o2 : ∀ K, K ≠ 185 + 24 * P + (4 + k) → (zsetI h1 85 (upd (h1.2.1 85) (185 + 24 * P + (4 + k)) y)).2.1 85 K = h1.2.1 85 K := fun K hK => by rw [zs_at, upd_n hK]
        obtain ⟨h2, hh2⟩ : ∃ h2, h2 = zsetI h1 85 (upd (h1.2.1 85) (185 + 24 * P + (4 + k)) y) := ⟨_, rfl⟩
        rw [← hh2] at t2 R2 e1 v2 o2
        have Q2 : QS h1 h2 := fun K hK => o2 K (by rcases hK with ⟨r, r1, r2⟩ | ⟨p, p1, z | z | z⟩ <;> omega)
        obtain ⟨h3, e2, k3, t3⟩ := y_blanks hE hsm hF hL t2 d' (q + 2990) (by omega) (by omega)
        rw [n2, show sk isBl (tp90 h0) L (kE (tp90 h0) L s) = nxt (tp90 h0) L s from rfl] at t3
        have e3 := y_at (E := E) t3 hL (a9 := 48) (b9 := 57) xi48 xi57 d' (q + 2986) (by omega)
        have R3 := RM_w R2 hW k3
        have ws : ∀ i, i < k + 1 → (h3.2.1 85 (189 + 24 * P + i)).toInt = (W' i : Int) := by
          intro i hi
          rw [k3 _ (by omega)]
          by_cases hik : i = k
          · rw [hik, wk, show 189 + 24 * P + k = 185 + 24 * P + (4 + k) by omega, v2]; omega
          · rw [wi i hik, o2 _ (by omega), k1 _ (by omega)]; exact hw i (by omega)
        have hn1' : (n9 + 1).toInt = ((k + 1 : Nat) : Int) := by rw [i32_add (by rw [hn9, int1]; omega) (by rw [hn9, int1]; omega), hn9, int1]; omega
        by_cases hd9 : kK (tp90 h0) L (nxt (tp90 h0) L s) = 1
        · rw [if_pos hd9]
          rw [if_pos (kK_1d.mp hd9)] at e3
          refine hbM_e (mpx_a (n := q + 2985) (d := d') (b84_ha t1.1) (b84_ha t2.1) (b84_ha t3.1) (e1 (q + 2993) (by omega)) e2 e3) ?_
          exact hbM_q (QS_t Q2 (QS_w k3)) <| IH (k + 1) fi' v.toNat W' (nxt (tp90 h0) L s) h3 (nxt (tp90 h0) L s) (nxt (tp90 h0) L s) (n9 + 1) _ _ (by omega) hn1' t3 R3 nxt_c ws (fun _ => ⟨wk, w0⟩) (d' + 1) (q + 2985) (by omega) (by omega)
        · rw [if_neg hd9]
          rw [if_neg (fun z => hd9 (kK_1d.mpr z))] at e3
          refine hbM_e (mpx_b (n := q + 2985) (d := d') (b84_ha t1.1) (b84_ha t2.1) (b84_ha t3.1) (e1 (q + 2993) (by omega)) e2 e3) ?_
          exact hbM_q (QS_t Q2 (QS_w k3)) <| y_hend hE hsm hF hL hsP hP hW hp9 (by omega) hn1' t3 R3 ws wk w0 t1.2.2.2.1 t1.2.1.2.2 nxt_c (d' + 1) (q + 2985) (by omega) (by omega)
      by_cases hk0 : k = 0
      · rw [if_neg (show ¬ (k ≠ 0 ∧ lead (sdl σ) la v.toNat = false) from fun z => z.1 hk0)]
        obtain ⟨y, h1, p1, e1, k1, t1, n1, n2⟩ := st1 (n + 2998) (by omega)
        refine hbM_e (mpx_6 (n := n + 2987) (d := d') (by omega) (by rw [hn9, int12]; omega) (by omega) a84 (b84_ha t1.1) e1) ?_
        exact hbM_q (QS_w k1) <| cont h1 p1 y k1 t1 n1 n2 (n + 2987) (by omega)
      · have hlaw := (hkl hk0).1
        have jk : ((4 + n9) - 1).toInt = ((3 + k : Nat) : Int) := by
          have x1 : (4 + n9).toInt = 4 + n9.toInt := by rw [i32_add (by rw [xi4, hn9]; omega) (by rw [xi4, hn9]; omega), xi4]
          rw [i32_sub (by rw [x1, int1, hn9]; omega) (by rw [x1, int1, hn9]; omega), x1, int1, hn9]; omega
        have gt := fun (h1 : zH) (p1 : Nat) (t1 : YT h0 L h1 p1 s) f hf => y_get (E := E) t1.1 (p9 := p9) (j9 := (4 + n9) - 1) hp9 hP jk (by omega) d' f (by omega) hf
        have vl : ∀ (h1 : zH), RW h h1 → (h1.2.1 85 (185 + 24 * P + (3 + k))).toInt = (la : Int) := fun h1 k1 => by
          rw [k1 _ (by omega), show 185 + 24 * P + (3 + k) = 189 + 24 * P + (k - 1) by omega, hw (k - 1) (by omega), hlaw]
        by_cases hl : lead (sdl σ) la v.toNat = false
        · rw [if_pos ⟨hk0, hl⟩]
          unfold lead at hl
          rw [Bool.or_eq_false_iff] at hl
          have hne : la ≠ v.toNat := fun z => by rw [z, Nat.beq_refl] at hl; exact absurd hl.1 (by decide)
          obtain ⟨y, h1, p1, e1, k1, t1, n1, n2⟩ := st1 (n + 2998) (by omega)
          have nr := y_near (E := E) t1.1 (RM_w hR hW k1) hW (vl h1 k1) (b9 := y) (b := v.toNat) (by omega) d' (n + 2966) (by omega)
          rw [hl.2, if_neg (by decide)] at nr
          exact ⟨h1, p1, mpx_9 (n := n + 2963) (d := d') (by omega) (by rw [hn9, int12]; omega) (by omega) (by rw [vl h1 k1]; omega) a84 (b84_ha t1.1) e1 (gt h1 p1 t1 (n + 2978) (by omega)) (gt h1 p1 t1 (n + 2968) (by omega)) nr, t1⟩
        · rw [if_neg (show ¬ (k ≠ 0 ∧ lead (sdl σ) la v.toNat = false) from fun z => hl z.2)]
          by_cases hlv : la = v.toNat
          · obtain ⟨y, h1, p1, e1, k1, t1, n1, n2⟩ := st1 (n + 2998) (by omega)
            refine hbM_e (mpx_7 (n := n + 2977) (d := d') (by omega) (by rw [hn9, int12]; omega) (by omega) (by rw [vl h1 k1]; omega) a84 (b84_ha t1.1) e1 (gt h1 p1 t1 (n + 2978) (by omega))) ?_
            exact hbM_q (QS_w k1) <| cont h1 p1 y k1 t1 n1 n2 (n + 2977) (by omega)
          · have hdo : dor (sdl σ) la v.toNat = true := by
              have hl := eq_true_of_ne_false hl
              unfold lead at hl
              rw [nbq hlv, Bool.false_or] at hl
              exact hl
            obtain ⟨y, h1, p1, e1, k1, t1, n1, n2⟩ := st1 (n + 2998) (by omega)
            have nr := y_near (E := E) t1.1 (RM_w hR hW k1) hW (vl h1 k1) (b9 := y) (b := v.toNat) (by omega) d' (n + 2966) (by omega)
            rw [if_pos hdo] at nr
            refine hbM_e (mpx_8 (n := n + 2965) (d := d') (by omega) (by rw [hn9, int12]; omega) (by omega) (by rw [vl h1 k1]; omega) a84 (b84_ha t1.1) e1 (gt h1 p1 t1 (n + 2978) (by omega)) (gt h1 p1 t1 (n + 2968) (by omega)) nr) ?_
            exact hbM_q (QS_w k1) <| cont h1 p1 y k1 t1 n1 n2 (n + 2965) (by omega)
set_option maxRecDepth 100000 in
theorem RN_new {h h1 : zH} {σ : hSt} {P n : Nat} {w : Nat → Nat} (hsP : sP σ = P) (hP : P < 8) (z1 : ∀ K, (K < 185 + 24 * P + 0 ∨ 209 + 24 * P ≤ K) → h1.2.1 85 K = h.2.1 85 K) (z2 : ∀ i, 0 ≤ i → i < 24 → h1.2.1 85 (185 + 24 * P + i) = 0) (hZ : WZ σ) (hN : RN h σ) : RN (zsetI h1 85 (upd (h1.2.1 85) (185 + 24 * P + 1) 100)) (pσ σ n w) := by
  refine ⟨fun hc r hr => ?_, fun p hp => ⟨fun hc => ?_, fun hc hs => ?_, fun hc => ?_⟩⟩
  · show _ = spt σ r
    rw [zs_at, upd_n (by omega), z1 _ (by omega)]; exact hN.1 hc r hr
  · show _ = spl σ p
    by_cases hpP : p = P
    · rw [(hZ.2.1 p (by omega) hp).1 hc, hpP, zs_at, upd_n (by omega), show 185 + 24 * P = 185 + 24 * P + 0 by omega, z2 0 (by omega) (by omega)]; rfl
    · rw [zs_at, upd_n (by omega), z1 _ (by omega)]; exact (hN.2 p hp).1 hc
  · have hs : p < sP σ + 1 := hs
    show _ = (if p = sP σ then 100 else skp σ p)
    by_cases hpP : p = P
    · rw [if_pos (by omega), hpP, zs_at, show 186 + 24 * P = 185 + 24 * P + 1 by omega, upd_e]; decide
    · rw [if_neg (by omega), zs_at, upd_n (by omega), z1 _ (by omega)]; exact (hN.2 p hp).2.1 hc (by omega)
  · show _ = swt σ p
    by_cases hpP : p = P
    · rw [(hZ.2.1 p (by omega) hp).2 hc, hpP, zs_at, upd_n (by omega), show 187 + 24 * P = 185 + 24 * P + 2 by omega, z2 2 (by omega) (by omega)]; rfl
    · rw [zs_at, upd_n (by omega), z1 _ (by omega)]; exact (hN.2 p hp).2.2 hc
set_option maxRecDepth 100000 in
theorem personM' (hE : E.1 < 2147483648) (hsm : bSO E ctb B (60, smT)) (hF : 1000000 ≤ F) (hL : L ≤ 400) {s : Nat} (ht : YT h0 L h p s) (hk : sk isBl (tp90 h0) L p = nxt (tp90 h0) L s) (hR : RM h σ) (hW : WF σ) :
    ∀ d f, 68 ≤ d → B + F * 9000 ≤ f → (if 8 ≤ sP σ then ∃ h' p, zex E f d 249 0 [some (.ref 84), none, none, none, none] [] h = some (.inl (some (.int 0)), h') ∧ YT h0 L h' p s else ∃ h2, (RN h σ → WZ σ → RN h2 (pσ σ 0 (fun _ => 0))) ∧ hbM h2 h0 L σ (hbq (tp90 h0) L (sR σ) (sdl σ) 13 0 0 0 (fun _ => 0) (nxt (tp90 h0) L s)) (zex E f d 249 0 [some (.ref 84), none, none, none, none] [] h)) := by
  intro d f hd hf
  obtain ⟨d', hd'⟩ : ∃ d', d = d' + 1 := ⟨d - 1, by omega⟩
  obtain ⟨n, hn⟩ : ∃ n, f = n + 60 + 10 * 24 + 8 := ⟨f - 8 - 300, by omega⟩
  subst hd' hn
  obtain ⟨w1, w2, w3, w4, w5, w6⟩ := id hW
  have a84 := b84_ha ht.1
  have a85 := b85_ha ht.1
  obtain ⟨⟨r1, r2, r3⟩, r4⟩ := id hR
  by_cases h8 : 8 ≤ sP σ
  · rw [if_pos h8]
    exact ⟨h, p, mpx_0 (n := n + 300) (d := d') (x := h.2.1 85 2) (by rw [r3, int8]; omega) a84 (mh_people (n := n + 301) rfl a84 a85), ht⟩
  · rw [if_neg h8]
    obtain ⟨P, hsP⟩ : ∃ P, sP σ = P := ⟨_, rfl⟩
    have hp9 : (h.2.1 85 2).toInt = (P : Int) := by rw [r3, hsP]
    obtain ⟨h1, j1, e1, q1, t1, R1, z1, z2⟩ := y_zero (E := E) hsP (by omega) hW hp9 (u3 := none) (u4 := none) 24 0 0 h rfl rfl ht hR n d' (by omega)
    have e2 := fun f hf => y_put (E := E) t1.1 (p9 := h.2.1 85 2) (j9 := 1) (y := 100) hp9 (by omega) (j := 1) int1 (by decide) d' f (by omega) hf
    have bk := (bd_pers P (by omega)).2.1
    rw [show 186 + 24 * P = 185 + 24 * P + 1 by omega] at bk
    have t2 := YT_85 (y := 100) t1 (jn := 185 + 24 * P + 1) (by omega) (by rw [bk, xi100]; exact ⟨by decide, by decide⟩) (blam_o (blam_h t1.1) (by omega) (fun p hp => by rw [R1.1.2.2, hsP] at hp; omega))
    have R2 := RM_n (y := 100) (K := 185 + 24 * P + 1) R1 hW (by omega) (by omega) (fun p hp => by omega)
    refine ⟨zsetI h1 85 (upd (h1.2.1 85) (185 + 24 * P + 1) 100), fun hN hZ => RN_new hsP (by omega) z1 z2 hZ hN, ?_⟩
    refine hbM_e (mpx_1 (n := n + 60 + 10 * 24) (d := d') (x := h.2.1 85 2) (by rw [r3, int8]; omega) a84 (mh_people (n := n + 301) rfl a84 a85)) ?_
    refine hbM_e e1 ?_
    refine hbM_e (mpx_3 (n := n + 50) (d := d') (by rw [q1, xi24]; omega) (b84_ha t1.1) (e2 (n + 52) (by omega))) ?_
    exact y_habit hE hsm hF hL hsP (by omega) hW hp9 (Nat.le_refl (F * 500)) 12 0 0 0 (fun _ => 0) (nxt (tp90 h0) L s) _ p s 0 none none rfl rfl t2 R2 hk (fun i hi => absurd hi (by omega)) (fun z => absurd rfl z) (d' + 1) (n + 50) (by omega) (by omega)
set_option maxRecDepth 100000 in
theorem personM (hE : E.1 < 2147483648) (hsm : bSO E ctb B (60, smT)) (hF : 1000000 ≤ F) (hL : L ≤ 400) {s : Nat} (ht : YT h0 L h p s) (hk : sk isBl (tp90 h0) L p = nxt (tp90 h0) L s) (hR : RM h σ) (hW : WF σ) :
    ∀ d f, 68 ≤ d → B + F * 9000 ≤ f → lnM h σ h0 L (perq (tp90 h0) L σ s) (zex E f d 249 0 [some (.ref 84), none, none, none, none] [] h) := by
  intro d f hd hf
  have key := personM' hE hsm hF hL ht hk hR hW d f hd hf
  unfold perq
  by_cases h8 : 8 ≤ sP σ
  · rw [if_pos h8] at key ⊢
    exact key
  · rw [if_neg h8] at key ⊢
    obtain ⟨h2, kN, key⟩ := key
    cases hb : hbq (tp90 h0) L (sR σ) (sdl σ) 13 0 0 0 (fun _ => 0) (nxt (tp90 h0) L s) with
    | inr w => rw [hb] at key; exact key
    | inl q =>
      obtain ⟨n9, w, e⟩ := q
      rw [hb] at key
      obtain ⟨h', p', b', k1, k2, k3, k4, _, k6⟩ := key
      exact ⟨h', p', b', k1, k2, k3, k4, fun hN hZ => RN_q k6 rfl rfl (kN hN hZ)⟩
end MP
