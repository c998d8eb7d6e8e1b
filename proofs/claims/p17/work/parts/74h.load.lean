/-! the model's reader of THE HOUSE: load (wip/zab2/c/geng19.py) -/
set_option maxRecDepth 100000 in
theorem yMin {E : zE} {n d mi pc ln w9 a2 a3 i : Nat} {z : Int32} {ls : zLs} {r : List Value} {h : zH} {x y : Int32} (hf : zfetch mi pc = some (.invokestatic i, ln, (2, a2, a3), z, w9)) (hr : Nat.ble (zsum r) 8 = true) : zex E (n + 1) d mi pc ls (.int y :: .int x :: r) h = zex E n d mi (pc + ln) ls (.int (if y < x then y else x) :: r) h := by
  refine (zx1 hf).trans ?_
  show cond (Nat.ble (zsum r) 8) (zex E n d mi (pc + ln) ls (.int (if y < x then y else x) :: r) h) none = _
  rw [hr]
  rfl
set_option maxRecDepth 100000 in
theorem zft224_0 : zfetch 224 0 = some (.iconst 0, 1, (0, 0, 0), 0, 0) := by decide +kernel
set_option maxRecDepth 100000 in
theorem zft224_1 : zfetch 224 1 = some (.istore_n 2, 1, (0, 0, 0), 0, 0) := by decide +kernel
set_option maxRecDepth 100000 in
theorem zft224_2 : zfetch 224 2 = some (.iconst 0, 1, (0, 0, 0), 0, 0) := by decide +kernel
set_option maxRecDepth 100000 in
theorem zft224_3 : zfetch 224 3 = some (.istore_n 3, 1, (0, 0, 0), 0, 0) := by decide +kernel
set_option maxRecDepth 100000 in
theorem zft224_4 : zfetch 224 4 = some (.iload_n 3, 1, (0, 0, 0), 0, 0) := by decide +kernel
set_option maxRecDepth 100000 in
theorem zft224_5 : zfetch 224 5 = some (.bipush 8, 2, (0, 0, 0), 8, 0) := by decide +kernel
set_option maxRecDepth 100000 in
theorem zft224_7 : zfetch 224 7 = some (.if_icmp .ge 20, 3, (27, 0, 0), 0, 0) := by decide +kernel
set_option maxRecDepth 100000 in
theorem zft224_10 : zfetch 224 10 = some (.iload_n 2, 1, (0, 0, 0), 0, 0) := by decide +kernel
set_option maxRecDepth 100000 in
theorem zft224_11 : zfetch 224 11 = some (.aload_n 0, 1, (0, 0, 0), 0, 0) := by decide +kernel
set_option maxRecDepth 100000 in
theorem zft224_12 : zfetch 224 12 = some (.getfield 13, 3, (12, 1, 0), 0, 1618) := by decide +kernel
set_option maxRecDepth 100000 in
theorem zft224_15 : zfetch 224 15 = some (.iload_n 1, 1, (0, 0, 0), 0, 0) := by decide +kernel
set_option maxRecDepth 100000 in
theorem zft224_16 : zfetch 224 16 = some (.iload_n 3, 1, (0, 0, 0), 0, 0) := by decide +kernel
set_option maxRecDepth 100000 in
theorem zft224_17 : zfetch 224 17 = some (.iadd, 1, (0, 0, 0), 0, 0) := by decide +kernel
set_option maxRecDepth 100000 in
theorem zft224_18 : zfetch 224 18 = some (.iaload, 1, (0, 0, 0), 0, 0) := by decide +kernel
set_option maxRecDepth 100000 in
theorem zft224_19 : zfetch 224 19 = some (.iadd, 1, (0, 0, 0), 0, 0) := by decide +kernel
set_option maxRecDepth 100000 in
theorem zft224_20 : zfetch 224 20 = some (.istore_n 2, 1, (0, 0, 0), 0, 0) := by decide +kernel
set_option maxRecDepth 100000 in
theorem zft224_21 : zfetch 224 21 = some (.iinc 3 1, 3, (0, 0, 0), 1, 0) := by decide +kernel
set_option maxRecDepth 100000 in
theorem zft224_24 : zfetch 224 24 = some (.goto (-20), 3, (4, 0, 0), 0, 0) := by decide +kernel
set_option maxRecDepth 100000 in
theorem zft224_27 : zfetch 224 27 = some (.iload_n 2, 1, (0, 0, 0), 0, 0) := by decide +kernel
set_option maxRecDepth 100000 in
theorem zft224_28 : zfetch 224 28 = some (.ireturn, 1, (0, 0, 0), 0, 0) := by decide +kernel
set_option maxRecDepth 100000 in
theorem zft226_0 : zfetch 226 0 = some (.aload_n 0, 1, (0, 0, 0), 0, 0) := by decide +kernel
set_option maxRecDepth 100000 in
theorem zft226_1 : zfetch 226 1 = some (.iload_n 1, 1, (0, 0, 0), 0, 0) := by decide +kernel
set_option maxRecDepth 100000 in
theorem zft226_2 : zfetch 226 2 = some (.bipush 16, 2, (0, 0, 0), 16, 0) := by decide +kernel
set_option maxRecDepth 100000 in
theorem zft226_4 : zfetch 226 4 = some (.invokestatic 56, 3, (0, 219, 0), 0, 1788) := by decide +kernel
set_option maxRecDepth 100000 in
theorem zft226_7 : zfetch 226 7 = some (.invokevirtual 62, 3, (0, 224, 0), 0, 1812) := by decide +kernel
set_option maxRecDepth 100000 in
theorem zft226_10 : zfetch 226 10 = some (.ireturn, 1, (0, 0, 0), 0, 0) := by decide +kernel
set_option maxRecDepth 100000 in
theorem zft250_0 : zfetch 250 0 = some (.aload_n 0, 1, (0, 0, 0), 0, 0) := by decide +kernel
set_option maxRecDepth 100000 in
theorem zft250_1 : zfetch 250 1 = some (.invokevirtual 146, 3, (0, 246, 0), 0, 1804) := by decide +kernel
set_option maxRecDepth 100000 in
theorem zft250_4 : zfetch 250 4 = some (.istore_n 1, 1, (0, 0, 0), 0, 0) := by decide +kernel
set_option maxRecDepth 100000 in
theorem zft250_5 : zfetch 250 5 = some (.iload_n 1, 1, (0, 0, 0), 0, 0) := by decide +kernel
set_option maxRecDepth 100000 in
theorem zft250_6 : zfetch 250 6 = some (.ifCond .ge 7, 3, (13, 0, 0), 0, 0) := by decide +kernel
set_option maxRecDepth 100000 in
theorem zft250_9 : zfetch 250 9 = some (.iconst (-1), 1, (0, 0, 0), (-1), 0) := by decide +kernel
set_option maxRecDepth 100000 in
theorem zft250_10 : zfetch 250 10 = some (.goto 11, 3, (21, 0, 0), 0, 0) := by decide +kernel
set_option maxRecDepth 100000 in
theorem zft250_21 : zfetch 250 21 = some (.istore_n 2, 1, (0, 0, 0), 0, 0) := by decide +kernel
set_option maxRecDepth 100000 in
theorem zft250_22 : zfetch 250 22 = some (.iload_n 2, 1, (0, 0, 0), 0, 0) := by decide +kernel
set_option maxRecDepth 100000 in
theorem zft250_23 : zfetch 250 23 = some (.ifCond .ge 5, 3, (28, 0, 0), 0, 0) := by decide +kernel
set_option maxRecDepth 100000 in
theorem zft250_26 : zfetch 250 26 = some (.iconst 0, 1, (0, 0, 0), 0, 0) := by decide +kernel
set_option maxRecDepth 100000 in
theorem zft250_27 : zfetch 250 27 = some (.ireturn, 1, (0, 0, 0), 0, 0) := by decide +kernel
set_option maxRecDepth 100000 in
theorem zft250_13 : zfetch 250 13 = some (.aload_n 0, 1, (0, 0, 0), 0, 0) := by decide +kernel
set_option maxRecDepth 100000 in
theorem zft250_14 : zfetch 250 14 = some (.iconst 0, 1, (0, 0, 0), 0, 0) := by decide +kernel
set_option maxRecDepth 100000 in
theorem zft250_15 : zfetch 250 15 = some (.sipush 9999, 3, (0, 0, 0), 9999, 0) := by decide +kernel
set_option maxRecDepth 100000 in
theorem zft250_18 : zfetch 250 18 = some (.invokevirtual 130, 3, (0, 241, 0), 0, 1755) := by decide +kernel
set_option maxRecDepth 100000 in
theorem zft250_28 : zfetch 250 28 = some (.iload_n 2, 1, (0, 0, 0), 0, 0) := by decide +kernel
set_option maxRecDepth 100000 in
theorem zft250_29 : zfetch 250 29 = some (.sipush 9999, 3, (0, 0, 0), 9999, 0) := by decide +kernel
set_option maxRecDepth 100000 in
theorem zft250_32 : zfetch 250 32 = some (.aload_n 0, 1, (0, 0, 0), 0, 0) := by decide +kernel
set_option maxRecDepth 100000 in
theorem zft250_33 : zfetch 250 33 = some (.iload_n 1, 1, (0, 0, 0), 0, 0) := by decide +kernel
set_option maxRecDepth 100000 in
theorem zft250_34 : zfetch 250 34 = some (.invokevirtual 149, 3, (0, 226, 0), 0, 1808) := by decide +kernel
set_option maxRecDepth 100000 in
theorem zft250_37 : zfetch 250 37 = some (.isub, 1, (0, 0, 0), 0, 0) := by decide +kernel
set_option maxRecDepth 100000 in
theorem zft250_38 : zfetch 250 38 = some (.invokestatic 152, 3, (2, 0, 0), 0, 1816) := by decide +kernel
set_option maxRecDepth 100000 in
theorem zft250_41 : zfetch 250 41 = some (.istore_n 3, 1, (0, 0, 0), 0, 0) := by decide +kernel
set_option maxRecDepth 100000 in
theorem zft250_42 : zfetch 250 42 = some (.aload_n 0, 1, (0, 0, 0), 0, 0) := by decide +kernel
set_option maxRecDepth 100000 in
theorem zft250_43 : zfetch 250 43 = some (.iload_n 1, 1, (0, 0, 0), 0, 0) := by decide +kernel
set_option maxRecDepth 100000 in
theorem zft250_44 : zfetch 250 44 = some (.bipush 16, 2, (0, 0, 0), 16, 0) := by decide +kernel
set_option maxRecDepth 100000 in
theorem zft250_46 : zfetch 250 46 = some (.iload_n 1, 1, (0, 0, 0), 0, 0) := by decide +kernel
set_option maxRecDepth 100000 in
theorem zft250_47 : zfetch 250 47 = some (.iadd, 1, (0, 0, 0), 0, 0) := by decide +kernel
set_option maxRecDepth 100000 in
theorem zft250_48 : zfetch 250 48 = some (.aload_n 0, 1, (0, 0, 0), 0, 0) := by decide +kernel
set_option maxRecDepth 100000 in
theorem zft250_49 : zfetch 250 49 = some (.iload_n 1, 1, (0, 0, 0), 0, 0) := by decide +kernel
set_option maxRecDepth 100000 in
theorem zft250_50 : zfetch 250 50 = some (.bipush 16, 2, (0, 0, 0), 16, 0) := by decide +kernel
set_option maxRecDepth 100000 in
theorem zft250_52 : zfetch 250 52 = some (.iload_n 1, 1, (0, 0, 0), 0, 0) := by decide +kernel
set_option maxRecDepth 100000 in
theorem zft250_53 : zfetch 250 53 = some (.iadd, 1, (0, 0, 0), 0, 0) := by decide +kernel
set_option maxRecDepth 100000 in
theorem zft250_54 : zfetch 250 54 = some (.invokevirtual 59, 3, (0, 221, 0), 0, 1791) := by decide +kernel
set_option maxRecDepth 100000 in
theorem zft250_57 : zfetch 250 57 = some (.iload_n 3, 1, (0, 0, 0), 0, 0) := by decide +kernel
set_option maxRecDepth 100000 in
theorem zft250_58 : zfetch 250 58 = some (.iadd, 1, (0, 0, 0), 0, 0) := by decide +kernel
set_option maxRecDepth 100000 in
theorem zft250_59 : zfetch 250 59 = some (.invokevirtual 139, 3, (0, 222, 0), 0, 1784) := by decide +kernel
set_option maxRecDepth 100000 in
theorem zft250_62 : zfetch 250 62 = some (.aload_n 0, 1, (0, 0, 0), 0, 0) := by decide +kernel
set_option maxRecDepth 100000 in
theorem zft250_63 : zfetch 250 63 = some (.getfield 13, 3, (12, 1, 0), 0, 1618) := by decide +kernel
set_option maxRecDepth 100000 in
theorem zft250_66 : zfetch 250 66 = some (.bipush 7, 2, (0, 0, 0), 7, 0) := by decide +kernel
set_option maxRecDepth 100000 in
theorem zft250_68 : zfetch 250 68 = some (.dup2, 1, (0, 0, 0), 0, 0) := by decide +kernel
set_option maxRecDepth 100000 in
theorem zft250_69 : zfetch 250 69 = some (.iaload, 1, (0, 0, 0), 0, 0) := by decide +kernel
set_option maxRecDepth 100000 in
theorem zft250_70 : zfetch 250 70 = some (.iload_n 3, 1, (0, 0, 0), 0, 0) := by decide +kernel
set_option maxRecDepth 100000 in
theorem zft250_71 : zfetch 250 71 = some (.iadd, 1, (0, 0, 0), 0, 0) := by decide +kernel
set_option maxRecDepth 100000 in
theorem zft250_72 : zfetch 250 72 = some (.iastore, 1, (0, 0, 0), 0, 0) := by decide +kernel
set_option maxRecDepth 100000 in
theorem zft250_73 : zfetch 250 73 = some (.iconst 1, 1, (0, 0, 0), 1, 0) := by decide +kernel
set_option maxRecDepth 100000 in
theorem zft250_74 : zfetch 250 74 = some (.ireturn, 1, (0, 0, 0), 0, 0) := by decide +kernel
set_option maxRecDepth 100000 in
theorem znt219 : zat zmi 219 = some (2, 2, 1, 12, 1, 0) := rfl
set_option maxRecDepth 100000 in
theorem znt221 : zat zmi 221 = some (3, 3, 0, 12, 1, 0) := rfl
set_option maxRecDepth 100000 in
theorem znt222 : zat zmi 222 = some (4, 4, 0, 12, 0, 0) := rfl
set_option maxRecDepth 100000 in
theorem znt224 : zat zmi 224 = some (2, 4, 0, 12, 1, 0) := rfl
set_option maxRecDepth 100000 in
theorem znt226 : zat zmi 226 = some (2, 2, 0, 12, 1, 0) := rfl
set_option maxRecDepth 100000 in
theorem znt241 : zat zmi 241 = some (3, 3, 0, 12, 1, 0) := rfl
set_option maxRecDepth 100000 in
theorem znt246 : zat zmi 246 = some (1, 1, 0, 12, 1, 0) := rfl
set_option maxRecDepth 100000 in
theorem sm_0 {E : zE} {n d : Nat} {h : zH} {u2 u3 : Option Value} {k : Int32}    : zex E (n + 4) d 224 0 [some (.ref 84), some (.int k), u2, u3] [] h = zex E n d 224 4 [some (.ref 84), some (.int k), some (.int 0), some (.int 0)] [] h :=
  ((yCi zft224_0) : zex E (n + 4) d 224 0 [some (.ref 84), some (.int k), u2, u3] [] h = zex E (n + 3) d 224 1 [some (.ref 84), some (.int k), u2, u3] [.int 0] h).trans (((ySn zft224_1) : zex E (n + 3) d 224 1 [some (.ref 84), some (.int k), u2, u3] [.int 0] h = zex E (n + 2) d 224 2 [some (.ref 84), some (.int k), some (.int 0), u3] [] h).trans (((yCi zft224_2) : zex E (n + 2) d 224 2 [some (.ref 84), some (.int k), some (.int 0), u3] [] h = zex E (n + 1) d 224 3 [some (.ref 84), some (.int k), some (.int 0), u3] [.int 0] h).trans (((ySn zft224_3) : zex E (n + 1) d 224 3 [some (.ref 84), some (.int k), some (.int 0), u3] [.int 0] h = zex E n d 224 4 [some (.ref 84), some (.int k), some (.int 0), some (.int 0)] [] h))))
set_option maxRecDepth 100000 in
theorem sm_1 {E : zE} {n d : Nat} {h : zH} {k v i : Int32} {x : Int32} {K : Nat} (hi : i.toInt < (8 : Int32).toInt) (hk : (k + i).toInt = (K : Int)) (hK : K < 2475) (hx : h.2.1 85 K = x) (a84 : zat h.1 84 = some (.inr (.inl (12, [none, some (some 85), some (some 86), some (some 87), some (some 88), some (some 89), none, none, some (some 90), none, none, none, none, none, none, some (some 91), none, some (some 92), some (some 93)])))) (a85 : zat h.1 85 = some (.inl (0, 2475, [])))  : zex E (n + 14) d 224 4 [some (.ref 84), some (.int k), some (.int v), some (.int i)] [] h = zex E n d 224 4 [some (.ref 84), some (.int k), some (.int (v + x)), some (.int (i + 1))] [] h :=
  ((yIn zft224_4 rfl) : zex E (n + 14) d 224 4 [some (.ref 84), some (.int k), some (.int v), some (.int i)] [] h = zex E (n + 13) d 224 5 [some (.ref 84), some (.int k), some (.int v), some (.int i)] [.int i] h).trans (((yCb zft224_5) : zex E (n + 13) d 224 5 [some (.ref 84), some (.int k), some (.int v), some (.int i)] [.int i] h = zex E (n + 12) d 224 7 [some (.ref 84), some (.int k), some (.int v), some (.int i)] [.int 8, .int i] h).trans (((zkgF zft224_7 hi) : zex E (n + 12) d 224 7 [some (.ref 84), some (.int k), some (.int v), some (.int i)] [.int 8, .int i] h = zex E (n + 11) d 224 10 [some (.ref 84), some (.int k), some (.int v), some (.int i)] [] h).trans (((yIn zft224_10 rfl) : zex E (n + 11) d 224 10 [some (.ref 84), some (.int k), some (.int v), some (.int i)] [] h = zex E (n + 10) d 224 11 [some (.ref 84), some (.int k), some (.int v), some (.int i)] [.int v] h).trans (((yAn zft224_11 rfl rfl) : zex E (n + 10) d 224 11 [some (.ref 84), some (.int k), some (.int v), some (.int i)] [.int v] h = zex E (n + 9) d 224 12 [some (.ref 84), some (.int k), some (.int v), some (.int i)] [.ref 84, .int v] h).trans (((zgx zft224_12 a84 rfl) : zex E (n + 9) d 224 12 [some (.ref 84), some (.int k), some (.int v), some (.int i)] [.ref 84, .int v] h = zex E (n + 8) d 224 15 [some (.ref 84), some (.int k), some (.int v), some (.int i)] [.ref 85, .int v] h).trans (((yIn zft224_15 rfl) : zex E (n + 8) d 224 15 [some (.ref 84), some (.int k), some (.int v), some (.int i)] [.ref 85, .int v] h = zex E (n + 7) d 224 16 [some (.ref 84), some (.int k), some (.int v), some (.int i)] [.int k, .ref 85, .int v] h).trans (((yIn zft224_16 rfl) : zex E (n + 7) d 224 16 [some (.ref 84), some (.int k), some (.int v), some (.int i)] [.int k, .ref 85, .int v] h = zex E (n + 6) d 224 17 [some (.ref 84), some (.int k), some (.int v), some (.int i)] [.int i, .int k, .ref 85, .int v] h).trans (((yAdd zft224_17) : zex E (n + 6) d 224 17 [some (.ref 84), some (.int k), some (.int v), some (.int i)] [.int i, .int k, .ref 85, .int v] h = zex E (n + 5) d 224 18 [some (.ref 84), some (.int k), some (.int v), some (.int i)] [.int (k + i), .ref 85, .int v] h).trans (((zlk zft224_18 a85 hk hK hx) : zex E (n + 5) d 224 18 [some (.ref 84), some (.int k), some (.int v), some (.int i)] [.int (k + i), .ref 85, .int v] h = zex E (n + 4) d 224 19 [some (.ref 84), some (.int k), some (.int v), some (.int i)] [.int x, .int v] h).trans (((yAdd zft224_19) : zex E (n + 4) d 224 19 [some (.ref 84), some (.int k), some (.int v), some (.int i)] [.int x, .int v] h = zex E (n + 3) d 224 20 [some (.ref 84), some (.int k), some (.int v), some (.int i)] [.int (v + x)] h).trans (((ySn zft224_20) : zex E (n + 3) d 224 20 [some (.ref 84), some (.int k), some (.int v), some (.int i)] [.int (v + x)] h = zex E (n + 2) d 224 21 [some (.ref 84), some (.int k), some (.int (v + x)), some (.int i)] [] h).trans (((yInc zft224_21 rfl) : zex E (n + 2) d 224 21 [some (.ref 84), some (.int k), some (.int (v + x)), some (.int i)] [] h = zex E (n + 1) d 224 24 [some (.ref 84), some (.int k), some (.int (v + x)), some (.int (i + 1))] [] h).trans (((yGo zft224_24) : zex E (n + 1) d 224 24 [some (.ref 84), some (.int k), some (.int (v + x)), some (.int (i + 1))] [] h = zex E n d 224 4 [some (.ref 84), some (.int k), some (.int (v + x)), some (.int (i + 1))] [] h))))))))))))))
set_option maxRecDepth 100000 in
theorem sm_2 {E : zE} {n d : Nat} {h : zH} {k v i : Int32} (hi : (8 : Int32).toInt ≤ i.toInt)   : zex E (n + 5) d 224 4 [some (.ref 84), some (.int k), some (.int v), some (.int i)] [] h = some (.inl (some (.int v)), h) :=
  ((yIn zft224_4 rfl) : zex E (n + 5) d 224 4 [some (.ref 84), some (.int k), some (.int v), some (.int i)] [] h = zex E (n + 4) d 224 5 [some (.ref 84), some (.int k), some (.int v), some (.int i)] [.int i] h).trans (((yCb zft224_5) : zex E (n + 4) d 224 5 [some (.ref 84), some (.int k), some (.int v), some (.int i)] [.int i] h = zex E (n + 3) d 224 7 [some (.ref 84), some (.int k), some (.int v), some (.int i)] [.int 8, .int i] h).trans (((zkgT zft224_7 hi) : zex E (n + 3) d 224 7 [some (.ref 84), some (.int k), some (.int v), some (.int i)] [.int 8, .int i] h = zex E (n + 2) d 224 27 [some (.ref 84), some (.int k), some (.int v), some (.int i)] [] h).trans (((yIn zft224_27 rfl) : zex E (n + 2) d 224 27 [some (.ref 84), some (.int k), some (.int v), some (.int i)] [] h = zex E (n + 1) d 224 28 [some (.ref 84), some (.int k), some (.int v), some (.int i)] [.int v] h).trans (((yRet1 zft224_28 rfl) : zex E (n + 1) d 224 28 [some (.ref 84), some (.int k), some (.int v), some (.int i)] [.int v] h = some (.inl (some (.int v)), h))))))
set_option maxRecDepth 100000 in
theorem sm_3 {E : zE} {n d : Nat} {h : zH} {p k v : Int32}  (a84 : zat h.1 84 = some (.inr (.inl (12, [none, some (some 85), some (some 86), some (some 87), some (some 88), some (some 89), none, none, some (some 90), none, none, none, none, none, none, some (some 91), none, some (some 92), some (some 93)])))) (e1 : zex E (n + 2) d 219 0 [some (.int p), some (.int 16)] [] h = some (.inl (some (.int k)), h)) (e2 : zex E (n + 1) d 224 0 [some (.ref 84), some (.int k), none, none] [] h = some (.inl (some (.int v)), h)) : zex E (n + 6) (d + 1) 226 0 [some (.ref 84), some (.int p)] [] h = some (.inl (some (.int v)), h) :=
  ((yAn zft226_0 rfl rfl) : zex E (n + 6) (d + 1) 226 0 [some (.ref 84), some (.int p)] [] h = zex E (n + 5) (d + 1) 226 1 [some (.ref 84), some (.int p)] [.ref 84] h).trans (((yIn zft226_1 rfl) : zex E (n + 5) (d + 1) 226 1 [some (.ref 84), some (.int p)] [.ref 84] h = zex E (n + 4) (d + 1) 226 2 [some (.ref 84), some (.int p)] [.int p, .ref 84] h).trans (((yCb zft226_2) : zex E (n + 4) (d + 1) 226 2 [some (.ref 84), some (.int p)] [.int p, .ref 84] h = zex E (n + 3) (d + 1) 226 4 [some (.ref 84), some (.int p)] [.int 16, .int p, .ref 84] h).trans (((zcvs (as := [.int p, .int 16]) (r := [.ref 84]) zft226_4 znt219 rfl rfl e1) : zex E (n + 3) (d + 1) 226 4 [some (.ref 84), some (.int p)] [.int 16, .int p, .ref 84] h = zex E (n + 2) (d + 1) 226 7 [some (.ref 84), some (.int p)] [.int k, .ref 84] h).trans (((zcvg (h := h) (as := [.int k]) (r := []) zft226_7 znt224 rfl a84 rfl e2) : zex E (n + 2) (d + 1) 226 7 [some (.ref 84), some (.int p)] [.int k, .ref 84] h = zex E (n + 1) (d + 1) 226 10 [some (.ref 84), some (.int p)] [.int v] h).trans (((yRet1 zft226_10 rfl) : zex E (n + 1) (d + 1) 226 10 [some (.ref 84), some (.int p)] [.int v] h = some (.inl (some (.int v)), h)))))))
set_option maxRecDepth 100000 in
theorem ld_0 {E : zE} {n d : Nat} {h h1 : zH} {u1 u2 u3 : Option Value} {a : Int32} (ha : a.toInt < 0) (a84 : zat h.1 84 = some (.inr (.inl (12, [none, some (some 85), some (some 86), some (some 87), some (some 88), some (some 89), none, none, some (some 90), none, none, none, none, none, none, some (some 91), none, some (some 92), some (some 93)])))) (e1 : zex E (n + 10) d 246 0 [some (.ref 84)] [] h = some (.inl (some (.int a)), h1)) : zex E (n + 12) (d + 1) 250 0 [some (.ref 84), u1, u2, u3] [] h = some (.inl (some (.int 0)), h1) :=
  ((yAn zft250_0 rfl rfl) : zex E (n + 12) (d + 1) 250 0 [some (.ref 84), u1, u2, u3] [] h = zex E (n + 11) (d + 1) 250 1 [some (.ref 84), u1, u2, u3] [.ref 84] h).trans (((zcvg (h := h) (as := []) (r := []) zft250_1 znt246 rfl a84 rfl e1) : zex E (n + 11) (d + 1) 250 1 [some (.ref 84), u1, u2, u3] [.ref 84] h = zex E (n + 10) (d + 1) 250 4 [some (.ref 84), u1, u2, u3] [.int a] h1).trans (((ySn zft250_4) : zex E (n + 10) (d + 1) 250 4 [some (.ref 84), u1, u2, u3] [.int a] h1 = zex E (n + 9) (d + 1) 250 5 [some (.ref 84), some (.int a), u2, u3] [] h1).trans (((yIn zft250_5 rfl) : zex E (n + 9) (d + 1) 250 5 [some (.ref 84), some (.int a), u2, u3] [] h1 = zex E (n + 8) (d + 1) 250 6 [some (.ref 84), some (.int a), u2, u3] [.int a] h1).trans (((zjgF zft250_6 ha) : zex E (n + 8) (d + 1) 250 6 [some (.ref 84), some (.int a), u2, u3] [.int a] h1 = zex E (n + 7) (d + 1) 250 9 [some (.ref 84), some (.int a), u2, u3] [] h1).trans (((yCi zft250_9) : zex E (n + 7) (d + 1) 250 9 [some (.ref 84), some (.int a), u2, u3] [] h1 = zex E (n + 6) (d + 1) 250 10 [some (.ref 84), some (.int a), u2, u3] [.int (-1)] h1).trans (((yGo zft250_10) : zex E (n + 6) (d + 1) 250 10 [some (.ref 84), some (.int a), u2, u3] [.int (-1)] h1 = zex E (n + 5) (d + 1) 250 21 [some (.ref 84), some (.int a), u2, u3] [.int (-1)] h1).trans (((ySn zft250_21) : zex E (n + 5) (d + 1) 250 21 [some (.ref 84), some (.int a), u2, u3] [.int (-1)] h1 = zex E (n + 4) (d + 1) 250 22 [some (.ref 84), some (.int a), some (.int (-1)), u3] [] h1).trans (((yIn zft250_22 rfl) : zex E (n + 4) (d + 1) 250 22 [some (.ref 84), some (.int a), some (.int (-1)), u3] [] h1 = zex E (n + 3) (d + 1) 250 23 [some (.ref 84), some (.int a), some (.int (-1)), u3] [.int (-1)] h1).trans (((zjgF zft250_23 (by decide)) : zex E (n + 3) (d + 1) 250 23 [some (.ref 84), some (.int a), some (.int (-1)), u3] [.int (-1)] h1 = zex E (n + 2) (d + 1) 250 26 [some (.ref 84), some (.int a), some (.int (-1)), u3] [] h1).trans (((yCi zft250_26) : zex E (n + 2) (d + 1) 250 26 [some (.ref 84), some (.int a), some (.int (-1)), u3] [] h1 = zex E (n + 1) (d + 1) 250 27 [some (.ref 84), some (.int a), some (.int (-1)), u3] [.int 0] h1).trans (((yRet2 zft250_27 rfl (Or.inl rfl)) : zex E (n + 1) (d + 1) 250 27 [some (.ref 84), some (.int a), some (.int (-1)), u3] [.int 0] h1 = some (.inl (some (.int 0)), h1)))))))))))))
set_option maxRecDepth 100000 in
theorem ld_1 {E : zE} {n d : Nat} {h h1 h2 : zH} {u1 u2 u3 : Option Value} {a y : Int32} (ha : 0 ≤ a.toInt) (hy : y.toInt < 0) (a84 : zat h.1 84 = some (.inr (.inl (12, [none, some (some 85), some (some 86), some (some 87), some (some 88), some (some 89), none, none, some (some 90), none, none, none, none, none, none, some (some 91), none, some (some 92), some (some 93)])))) (a84_h1 : zat h1.1 84 = some (.inr (.inl (12, [none, some (some 85), some (some 86), some (some 87), some (some 88), some (some 89), none, none, some (some 90), none, none, none, none, none, none, some (some 91), none, some (some 92), some (some 93)])))) (e1 : zex E (n + 12) d 246 0 [some (.ref 84)] [] h = some (.inl (some (.int a)), h1)) (e2 : zex E (n + 5) d 241 0 [some (.ref 84), some (.int 0), some (.int 9999)] [] h1 = some (.inl (some (.int y)), h2)) : zex E (n + 14) (d + 1) 250 0 [some (.ref 84), u1, u2, u3] [] h = some (.inl (some (.int 0)), h2) :=
  ((yAn zft250_0 rfl rfl) : zex E (n + 14) (d + 1) 250 0 [some (.ref 84), u1, u2, u3] [] h = zex E (n + 13) (d + 1) 250 1 [some (.ref 84), u1, u2, u3] [.ref 84] h).trans (((zcvg (h := h) (as := []) (r := []) zft250_1 znt246 rfl a84 rfl e1) : zex E (n + 13) (d + 1) 250 1 [some (.ref 84), u1, u2, u3] [.ref 84] h = zex E (n + 12) (d + 1) 250 4 [some (.ref 84), u1, u2, u3] [.int a] h1).trans (((ySn zft250_4) : zex E (n + 12) (d + 1) 250 4 [some (.ref 84), u1, u2, u3] [.int a] h1 = zex E (n + 11) (d + 1) 250 5 [some (.ref 84), some (.int a), u2, u3] [] h1).trans (((yIn zft250_5 rfl) : zex E (n + 11) (d + 1) 250 5 [some (.ref 84), some (.int a), u2, u3] [] h1 = zex E (n + 10) (d + 1) 250 6 [some (.ref 84), some (.int a), u2, u3] [.int a] h1).trans (((zjgT zft250_6 ha) : zex E (n + 10) (d + 1) 250 6 [some (.ref 84), some (.int a), u2, u3] [.int a] h1 = zex E (n + 9) (d + 1) 250 13 [some (.ref 84), some (.int a), u2, u3] [] h1).trans (((yAn zft250_13 rfl rfl) : zex E (n + 9) (d + 1) 250 13 [some (.ref 84), some (.int a), u2, u3] [] h1 = zex E (n + 8) (d + 1) 250 14 [some (.ref 84), some (.int a), u2, u3] [.ref 84] h1).trans (((yCi zft250_14) : zex E (n + 8) (d + 1) 250 14 [some (.ref 84), some (.int a), u2, u3] [.ref 84] h1 = zex E (n + 7) (d + 1) 250 15 [some (.ref 84), some (.int a), u2, u3] [.int 0, .ref 84] h1).trans (((yCs zft250_15) : zex E (n + 7) (d + 1) 250 15 [some (.ref 84), some (.int a), u2, u3] [.int 0, .ref 84] h1 = zex E (n + 6) (d + 1) 250 18 [some (.ref 84), some (.int a), u2, u3] [.int 9999, .int 0, .ref 84] h1).trans (((zcvg (h := h1) (as := [.int 0, .int 9999]) (r := []) zft250_18 znt241 rfl a84_h1 rfl e2) : zex E (n + 6) (d + 1) 250 18 [some (.ref 84), some (.int a), u2, u3] [.int 9999, .int 0, .ref 84] h1 = zex E (n + 5) (d + 1) 250 21 [some (.ref 84), some (.int a), u2, u3] [.int y] h2).trans (((ySn zft250_21) : zex E (n + 5) (d + 1) 250 21 [some (.ref 84), some (.int a), u2, u3] [.int y] h2 = zex E (n + 4) (d + 1) 250 22 [some (.ref 84), some (.int a), some (.int y), u3] [] h2).trans (((yIn zft250_22 rfl) : zex E (n + 4) (d + 1) 250 22 [some (.ref 84), some (.int a), some (.int y), u3] [] h2 = zex E (n + 3) (d + 1) 250 23 [some (.ref 84), some (.int a), some (.int y), u3] [.int y] h2).trans (((zjgF zft250_23 hy) : zex E (n + 3) (d + 1) 250 23 [some (.ref 84), some (.int a), some (.int y), u3] [.int y] h2 = zex E (n + 2) (d + 1) 250 26 [some (.ref 84), some (.int a), some (.int y), u3] [] h2).trans (((yCi zft250_26) : zex E (n + 2) (d + 1) 250 26 [some (.ref 84), some (.int a), some (.int y), u3] [] h2 = zex E (n + 1) (d + 1) 250 27 [some (.ref 84), some (.int a), some (.int y), u3] [.int 0] h2).trans (((yRet2 zft250_27 rfl (Or.inl rfl)) : zex E (n + 1) (d + 1) 250 27 [some (.ref 84), some (.int a), some (.int y), u3] [.int 0] h2 = some (.inl (some (.int 0)), h2)))))))))))))))
set_option maxRecDepth 100000 in
theorem ld_2 {E : zE} {n d : Nat} {h h1 h2 h3 : zH} {u1 u2 u3 : Option Value} {a y z w v : Int32} (ha : 0 ≤ a.toInt) (hy : 0 ≤ y.toInt) (hv : h3.2.1 85 7 = v) (a84 : zat h.1 84 = some (.inr (.inl (12, [none, some (some 85), some (some 86), some (some 87), some (some 88), some (some 89), none, none, some (some 90), none, none, none, none, none, none, some (some 91), none, some (some 92), some (some 93)])))) (a84_h1 : zat h1.1 84 = some (.inr (.inl (12, [none, some (some 85), some (some 86), some (some 87), some (some 88), some (some 89), none, none, some (some 90), none, none, none, none, none, none, some (some 91), none, some (some 92), some (some 93)])))) (a84_h2 : zat h2.1 84 = some (.inr (.inl (12, [none, some (some 85), some (some 86), some (some 87), some (some 88), some (some 89), none, none, some (some 90), none, none, none, none, none, none, some (some 91), none, some (some 92), some (some 93)])))) (a84_h3 : zat h3.1 84 = some (.inr (.inl (12, [none, some (some 85), some (some 86), some (some 87), some (some 88), some (some 89), none, none, some (some 90), none, none, none, none, none, none, some (some 91), none, some (some 92), some (some 93)])))) (a85_h3 : zat h3.1 85 = some (.inl (0, 2475, []))) (e1 : zex E (n + 42) d 246 0 [some (.ref 84)] [] h = some (.inl (some (.int a)), h1)) (e2 : zex E (n + 35) d 241 0 [some (.ref 84), some (.int 0), some (.int 9999)] [] h1 = some (.inl (some (.int y)), h2)) (e3 : zex E (n + 27) d 226 0 [some (.ref 84), some (.int a)] [] h2 = some (.inl (some (.int z)), h2)) (e4 : zex E (n + 13) d 221 0 [some (.ref 84), some (.int a), some (.int (16 + a))] [] h2 = some (.inl (some (.int w)), h2)) (e5 : zex E (n + 10) d 222 0 [some (.ref 84), some (.int a), some (.int (16 + a)), some (.int (w + (if (9999 - z) < y then (9999 - z) else y)))] [] h2 = some (.inl none, h3)) : zex E (n + 44) (d + 1) 250 0 [some (.ref 84), u1, u2, u3] [] h = some (.inl (some (.int 1)), (zsetI h3 85 (upd (h3.2.1 85) 7 (v + (if (9999 - z) < y then (9999 - z) else y))))) :=
  ((yAn zft250_0 rfl rfl) : zex E (n + 44) (d + 1) 250 0 [some (.ref 84), u1, u2, u3] [] h = zex E (n + 43) (d + 1) 250 1 [some (.ref 84), u1, u2, u3] [.ref 84] h).trans (((zcvg (h := h) (as := []) (r := []) zft250_1 znt246 rfl a84 rfl e1) : zex E (n + 43) (d + 1) 250 1 [some (.ref 84), u1, u2, u3] [.ref 84] h = zex E (n + 42) (d + 1) 250 4 [some (.ref 84), u1, u2, u3] [.int a] h1).trans (((ySn zft250_4) : zex E (n + 42) (d + 1) 250 4 [some (.ref 84), u1, u2, u3] [.int a] h1 = zex E (n + 41) (d + 1) 250 5 [some (.ref 84), some (.int a), u2, u3] [] h1).trans (((yIn zft250_5 rfl) : zex E (n + 41) (d + 1) 250 5 [some (.ref 84), some (.int a), u2, u3] [] h1 = zex E (n + 40) (d + 1) 250 6 [some (.ref 84), some (.int a), u2, u3] [.int a] h1).trans (((zjgT zft250_6 ha) : zex E (n + 40) (d + 1) 250 6 [some (.ref 84), some (.int a), u2, u3] [.int a] h1 = zex E (n + 39) (d + 1) 250 13 [some (.ref 84), some (.int a), u2, u3] [] h1).trans (((yAn zft250_13 rfl rfl) : zex E (n + 39) (d + 1) 250 13 [some (.ref 84), some (.int a), u2, u3] [] h1 = zex E (n + 38) (d + 1) 250 14 [some (.ref 84), some (.int a), u2, u3] [.ref 84] h1).trans (((yCi zft250_14) : zex E (n + 38) (d + 1) 250 14 [some (.ref 84), some (.int a), u2, u3] [.ref 84] h1 = zex E (n + 37) (d + 1) 250 15 [some (.ref 84), some (.int a), u2, u3] [.int 0, .ref 84] h1).trans (((yCs zft250_15) : zex E (n + 37) (d + 1) 250 15 [some (.ref 84), some (.int a), u2, u3] [.int 0, .ref 84] h1 = zex E (n + 36) (d + 1) 250 18 [some (.ref 84), some (.int a), u2, u3] [.int 9999, .int 0, .ref 84] h1).trans (((zcvg (h := h1) (as := [.int 0, .int 9999]) (r := []) zft250_18 znt241 rfl a84_h1 rfl e2) : zex E (n + 36) (d + 1) 250 18 [some (.ref 84), some (.int a), u2, u3] [.int 9999, .int 0, .ref 84] h1 = zex E (n + 35) (d + 1) 250 21 [some (.ref 84), some (.int a), u2, u3] [.int y] h2).trans (((ySn zft250_21) : zex E (n + 35) (d + 1) 250 21 [some (.ref 84), some (.int a), u2, u3] [.int y] h2 = zex E (n + 34) (d + 1) 250 22 [some (.ref 84), some (.int a), some (.int y), u3] [] h2).trans (((yIn zft250_22 rfl) : zex E (n + 34) (d + 1) 250 22 [some (.ref 84), some (.int a), some (.int y), u3] [] h2 = zex E (n + 33) (d + 1) 250 23 [some (.ref 84), some (.int a), some (.int y), u3] [.int y] h2).trans (((zjgT zft250_23 hy) : zex E (n + 33) (d + 1) 250 23 [some (.ref 84), some (.int a), some (.int y), u3] [.int y] h2 = zex E (n + 32) (d + 1) 250 28 [some (.ref 84), some (.int a), some (.int y), u3] [] h2).trans (((yIn zft250_28 rfl) : zex E (n + 32) (d + 1) 250 28 [some (.ref 84), some (.int a), some (.int y), u3] [] h2 = zex E (n + 31) (d + 1) 250 29 [some (.ref 84), some (.int a), some (.int y), u3] [.int y] h2).trans (((yCs zft250_29) : zex E (n + 31) (d + 1) 250 29 [some (.ref 84), some (.int a), some (.int y), u3] [.int y] h2 = zex E (n + 30) (d + 1) 250 32 [some (.ref 84), some (.int a), some (.int y), u3] [.int 9999, .int y] h2).trans (((yAn zft250_32 rfl rfl) : zex E (n + 30) (d + 1) 250 32 [some (.ref 84), some (.int a), some (.int y), u3] [.int 9999, .int y] h2 = zex E (n + 29) (d + 1) 250 33 [some (.ref 84), some (.int a), some (.int y), u3] [.ref 84, .int 9999, .int y] h2).trans (((yIn zft250_33 rfl) : zex E (n + 29) (d + 1) 250 33 [some (.ref 84), some (.int a), some (.int y), u3] [.ref 84, .int 9999, .int y] h2 = zex E (n + 28) (d + 1) 250 34 [some (.ref 84), some (.int a), some (.int y), u3] [.int a, .ref 84, .int 9999, .int y] h2).trans (((zcvg (h := h2) (as := [.int a]) (r := [.int 9999, .int y]) zft250_34 znt226 rfl a84_h2 rfl e3) : zex E (n + 28) (d + 1) 250 34 [some (.ref 84), some (.int a), some (.int y), u3] [.int a, .ref 84, .int 9999, .int y] h2 = zex E (n + 27) (d + 1) 250 37 [some (.ref 84), some (.int a), some (.int y), u3] [.int z, .int 9999, .int y] h2).trans (((ySub zft250_37) : zex E (n + 27) (d + 1) 250 37 [some (.ref 84), some (.int a), some (.int y), u3] [.int z, .int 9999, .int y] h2 = zex E (n + 26) (d + 1) 250 38 [some (.ref 84), some (.int a), some (.int y), u3] [.int (9999 - z), .int y] h2).trans (((yMin zft250_38 rfl) : zex E (n + 26) (d + 1) 250 38 [some (.ref 84), some (.int a), some (.int y), u3] [.int (9999 - z), .int y] h2 = zex E (n + 25) (d + 1) 250 41 [some (.ref 84), some (.int a), some (.int y), u3] [.int (if (9999 - z) < y then (9999 - z) else y)] h2).trans (((ySn zft250_41) : zex E (n + 25) (d + 1) 250 41 [some (.ref 84), some (.int a), some (.int y), u3] [.int (if (9999 - z) < y then (9999 - z) else y)] h2 = zex E (n + 24) (d + 1) 250 42 [some (.ref 84), some (.int a), some (.int y), some (.int (if (9999 - z) < y then (9999 - z) else y))] [] h2).trans (((yAn zft250_42 rfl rfl) : zex E (n + 24) (d + 1) 250 42 [some (.ref 84), some (.int a), some (.int y), some (.int (if (9999 - z) < y then (9999 - z) else y))] [] h2 = zex E (n + 23) (d + 1) 250 43 [some (.ref 84), some (.int a), some (.int y), some (.int (if (9999 - z) < y then (9999 - z) else y))] [.ref 84] h2).trans (((yIn zft250_43 rfl) : zex E (n + 23) (d + 1) 250 43 [some (.ref 84), some (.int a), some (.int y), some (.int (if (9999 - z) < y then (9999 - z) else y))] [.ref 84] h2 = zex E (n + 22) (d + 1) 250 44 [some (.ref 84), some (.int a), some (.int y), some (.int (if (9999 - z) < y then (9999 - z) else y))] [.int a, .ref 84] h2).trans (((yCb zft250_44) : zex E (n + 22) (d + 1) 250 44 [some (.ref 84), some (.int a), some (.int y), some (.int (if (9999 - z) < y then (9999 - z) else y))] [.int a, .ref 84] h2 = zex E (n + 21) (d + 1) 250 46 [some (.ref 84), some (.int a), some (.int y), some (.int (if (9999 - z) < y then (9999 - z) else y))] [.int 16, .int a, .ref 84] h2).trans (((yIn zft250_46 rfl) : zex E (n + 21) (d + 1) 250 46 [some (.ref 84), some (.int a), some (.int y), some (.int (if (9999 - z) < y then (9999 - z) else y))] [.int 16, .int a, .ref 84] h2 = zex E (n + 20) (d + 1) 250 47 [some (.ref 84), some (.int a), some (.int y), some (.int (if (9999 - z) < y then (9999 - z) else y))] [.int a, .int 16, .int a, .ref 84] h2).trans (((yAdd zft250_47) : zex E (n + 20) (d + 1) 250 47 [some (.ref 84), some (.int a), some (.int y), some (.int (if (9999 - z) < y then (9999 - z) else y))] [.int a, .int 16, .int a, .ref 84] h2 = zex E (n + 19) (d + 1) 250 48 [some (.ref 84), some (.int a), some (.int y), some (.int (if (9999 - z) < y then (9999 - z) else y))] [.int (16 + a), .int a, .ref 84] h2).trans (((yAn zft250_48 rfl rfl) : zex E (n + 19) (d + 1) 250 48 [some (.ref 84), some (.int a), some (.int y), some (.int (if (9999 - z) < y then (9999 - z) else y))] [.int (16 + a), .int a, .ref 84] h2 = zex E (n + 18) (d + 1) 250 49 [some (.ref 84), some (.int a), some (.int y), some (.int (if (9999 - z) < y then (9999 - z) else y))] [.ref 84, .int (16 + a), .int a, .ref 84] h2).trans (((yIn zft250_49 rfl) : zex E (n + 18) (d + 1) 250 49 [some (.ref 84), some (.int a), some (.int y), some (.int (if (9999 - z) < y then (9999 - z) else y))] [.ref 84, .int (16 + a), .int a, .ref 84] h2 = zex E (n + 17) (d + 1) 250 50 [some (.ref 84), some (.int a), some (.int y), some (.int (if (9999 - z) < y then (9999 - z) else y))] [.int a, .ref 84, .int (16 + a), .int a, .ref 84] h2).trans (((yCb zft250_50) : zex E (n + 17) (d + 1) 250 50 [some (.ref 84), some (.int a), some (.int y), some (.int (if (9999 - z) < y then (9999 - z) else y))] [.int a, .ref 84, .int (16 + a), .int a, .ref 84] h2 = zex E (n + 16) (d + 1) 250 52 [some (.ref 84), some (.int a), some (.int y), some (.int (if (9999 - z) < y then (9999 - z) else y))] [.int 16, .int a, .ref 84, .int (16 + a), .int a, .ref 84] h2).trans (((yIn zft250_52 rfl) : zex E (n + 16) (d + 1) 250 52 [some (.ref 84), some (.int a), some (.int y), some (.int (if (9999 - z) < y then (9999 - z) else y))] [.int 16, .int a, .ref 84, .int (16 + a), .int a, .ref 84] h2 = zex E (n + 15) (d + 1) 250 53 [some (.ref 84), some (.int a), some (.int y), some (.int (if (9999 - z) < y then (9999 - z) else y))] [.int a, .int 16, .int a, .ref 84, .int (16 + a), .int a, .ref 84] h2).trans (((yAdd zft250_53) : zex E (n + 15) (d + 1) 250 53 [some (.ref 84), some (.int a), some (.int y), some (.int (if (9999 - z) < y then (9999 - z) else y))] [.int a, .int 16, .int a, .ref 84, .int (16 + a), .int a, .ref 84] h2 = zex E (n + 14) (d + 1) 250 54 [some (.ref 84), some (.int a), some (.int y), some (.int (if (9999 - z) < y then (9999 - z) else y))] [.int (16 + a), .int a, .ref 84, .int (16 + a), .int a, .ref 84] h2).trans (((zcvg (h := h2) (as := [.int a, .int (16 + a)]) (r := [.int (16 + a), .int a, .ref 84]) zft250_54 znt221 rfl a84_h2 rfl e4) : zex E (n + 14) (d + 1) 250 54 [some (.ref 84), some (.int a), some (.int y), some (.int (if (9999 - z) < y then (9999 - z) else y))] [.int (16 + a), .int a, .ref 84, .int (16 + a), .int a, .ref 84] h2 = zex E (n + 13) (d + 1) 250 57 [some (.ref 84), some (.int a), some (.int y), some (.int (if (9999 - z) < y then (9999 - z) else y))] [.int w, .int (16 + a), .int a, .ref 84] h2).trans (((yIn zft250_57 rfl) : zex E (n + 13) (d + 1) 250 57 [some (.ref 84), some (.int a), some (.int y), some (.int (if (9999 - z) < y then (9999 - z) else y))] [.int w, .int (16 + a), .int a, .ref 84] h2 = zex E (n + 12) (d + 1) 250 58 [some (.ref 84), some (.int a), some (.int y), some (.int (if (9999 - z) < y then (9999 - z) else y))] [.int (if (9999 - z) < y then (9999 - z) else y), .int w, .int (16 + a), .int a, .ref 84] h2).trans (((yAdd zft250_58) : zex E (n + 12) (d + 1) 250 58 [some (.ref 84), some (.int a), some (.int y), some (.int (if (9999 - z) < y then (9999 - z) else y))] [.int (if (9999 - z) < y then (9999 - z) else y), .int w, .int (16 + a), .int a, .ref 84] h2 = zex E (n + 11) (d + 1) 250 59 [some (.ref 84), some (.int a), some (.int y), some (.int (if (9999 - z) < y then (9999 - z) else y))] [.int (w + (if (9999 - z) < y then (9999 - z) else y)), .int (16 + a), .int a, .ref 84] h2).trans (((zcvg (h := h2) (as := [.int a, .int (16 + a), .int (w + (if (9999 - z) < y then (9999 - z) else y))]) (r := []) zft250_59 znt222 rfl a84_h2 rfl e5) : zex E (n + 11) (d + 1) 250 59 [some (.ref 84), some (.int a), some (.int y), some (.int (if (9999 - z) < y then (9999 - z) else y))] [.int (w + (if (9999 - z) < y then (9999 - z) else y)), .int (16 + a), .int a, .ref 84] h2 = zex E (n + 10) (d + 1) 250 62 [some (.ref 84), some (.int a), some (.int y), some (.int (if (9999 - z) < y then (9999 - z) else y))] [] h3).trans (((yAn zft250_62 rfl rfl) : zex E (n + 10) (d + 1) 250 62 [some (.ref 84), some (.int a), some (.int y), some (.int (if (9999 - z) < y then (9999 - z) else y))] [] h3 = zex E (n + 9) (d + 1) 250 63 [some (.ref 84), some (.int a), some (.int y), some (.int (if (9999 - z) < y then (9999 - z) else y))] [.ref 84] h3).trans (((zgx zft250_63 a84_h3 rfl) : zex E (n + 9) (d + 1) 250 63 [some (.ref 84), some (.int a), some (.int y), some (.int (if (9999 - z) < y then (9999 - z) else y))] [.ref 84] h3 = zex E (n + 8) (d + 1) 250 66 [some (.ref 84), some (.int a), some (.int y), some (.int (if (9999 - z) < y then (9999 - z) else y))] [.ref 85] h3).trans (((yCb zft250_66) : zex E (n + 8) (d + 1) 250 66 [some (.ref 84), some (.int a), some (.int y), some (.int (if (9999 - z) < y then (9999 - z) else y))] [.ref 85] h3 = zex E (n + 7) (d + 1) 250 68 [some (.ref 84), some (.int a), some (.int y), some (.int (if (9999 - z) < y then (9999 - z) else y))] [.int 7, .ref 85] h3).trans (((yDup2 zft250_68 rfl) : zex E (n + 7) (d + 1) 250 68 [some (.ref 84), some (.int a), some (.int y), some (.int (if (9999 - z) < y then (9999 - z) else y))] [.int 7, .ref 85] h3 = zex E (n + 6) (d + 1) 250 69 [some (.ref 84), some (.int a), some (.int y), some (.int (if (9999 - z) < y then (9999 - z) else y))] [.int 7, .ref 85, .int 7, .ref 85] h3).trans (((zlk zft250_69 a85_h3 int7 (by decide) hv) : zex E (n + 6) (d + 1) 250 69 [some (.ref 84), some (.int a), some (.int y), some (.int (if (9999 - z) < y then (9999 - z) else y))] [.int 7, .ref 85, .int 7, .ref 85] h3 = zex E (n + 5) (d + 1) 250 70 [some (.ref 84), some (.int a), some (.int y), some (.int (if (9999 - z) < y then (9999 - z) else y))] [.int v, .int 7, .ref 85] h3).trans (((yIn zft250_70 rfl) : zex E (n + 5) (d + 1) 250 70 [some (.ref 84), some (.int a), some (.int y), some (.int (if (9999 - z) < y then (9999 - z) else y))] [.int v, .int 7, .ref 85] h3 = zex E (n + 4) (d + 1) 250 71 [some (.ref 84), some (.int a), some (.int y), some (.int (if (9999 - z) < y then (9999 - z) else y))] [.int (if (9999 - z) < y then (9999 - z) else y), .int v, .int 7, .ref 85] h3).trans (((yAdd zft250_71) : zex E (n + 4) (d + 1) 250 71 [some (.ref 84), some (.int a), some (.int y), some (.int (if (9999 - z) < y then (9999 - z) else y))] [.int (if (9999 - z) < y then (9999 - z) else y), .int v, .int 7, .ref 85] h3 = zex E (n + 3) (d + 1) 250 72 [some (.ref 84), some (.int a), some (.int y), some (.int (if (9999 - z) < y then (9999 - z) else y))] [.int (v + (if (9999 - z) < y then (9999 - z) else y)), .int 7, .ref 85] h3).trans (((zsk zft250_72 a85_h3 int7 (by decide)) : zex E (n + 3) (d + 1) 250 72 [some (.ref 84), some (.int a), some (.int y), some (.int (if (9999 - z) < y then (9999 - z) else y))] [.int (v + (if (9999 - z) < y then (9999 - z) else y)), .int 7, .ref 85] h3 = zex E (n + 2) (d + 1) 250 73 [some (.ref 84), some (.int a), some (.int y), some (.int (if (9999 - z) < y then (9999 - z) else y))] [] (zsetI h3 85 (upd (h3.2.1 85) 7 (v + (if (9999 - z) < y then (9999 - z) else y))))).trans (((yCi zft250_73) : zex E (n + 2) (d + 1) 250 73 [some (.ref 84), some (.int a), some (.int y), some (.int (if (9999 - z) < y then (9999 - z) else y))] [] (zsetI h3 85 (upd (h3.2.1 85) 7 (v + (if (9999 - z) < y then (9999 - z) else y)))) = zex E (n + 1) (d + 1) 250 74 [some (.ref 84), some (.int a), some (.int y), some (.int (if (9999 - z) < y then (9999 - z) else y))] [.int 1] (zsetI h3 85 (upd (h3.2.1 85) 7 (v + (if (9999 - z) < y then (9999 - z) else y))))).trans (((yRet2 zft250_74 rfl (Or.inr rfl)) : zex E (n + 1) (d + 1) 250 74 [some (.ref 84), some (.int a), some (.int y), some (.int (if (9999 - z) < y then (9999 - z) else y))] [.int 1] (zsetI h3 85 (upd (h3.2.1 85) 7 (v + (if (9999 - z) < y then (9999 - z) else y)))) = some (.inl (some (.int 1)), (zsetI h3 85 (upd (h3.2.1 85) 7 (v + (if (9999 - z) < y then (9999 - z) else y)))))))))))))))))))))))))))))))))))))))))))))))))
set_option maxRecDepth 100000 in
theorem int16 : (16 : Int32).toInt = 16 := by decide
section MLo
variable {E : zE} {B F : Nat} {h0 h : zH} {L p s : Nat} {σ : hSt}
set_option maxRecDepth 100000 in
theorem sumM (a84 : zat h.1 84 = some (.inr (.inl (12, [none, some (some 85), some (some 86), some (some 87), some (some 88), some (some 89), none, none, some (some 90), none, none, none, none, none, none, some (some 91), none, some (some 92), some (some 93)])))) (a85 : zat h.1 85 = some (.inl (0, 2475, []))) {k9 : Int32} {K : Nat} (hk : k9.toInt = (K : Int)) (hK : K < 2000) : ∀ (m i : Nat) (v i9 : Int32), m + i = 8 → i9.toInt = (i : Int) → ∀ n d, ∃ v', zex E (n + 100 + 20 * m) d 224 4 [some (.ref 84), some (.int k9), some (.int v), some (.int i9)] [] h = some (.inl (some (.int v')), h) := by
  intro m
  induction m with
  | zero => intro i v i9 hm hi n d; exact ⟨v, sm_2 (n := n + 95) (d := d) (by rw [hi, int8]; omega)⟩
  | succ m IH =>
    intro i v i9 hm hi n d
    obtain ⟨v', e⟩ := IH (i + 1) (v + h.2.1 85 (K + i)) (i9 + 1) (by omega) (by rw [i32_add (by rw [hi, int1]; omega) (by rw [hi, int1]; omega), hi, int1]; omega) (n + 20 - 14) d
    refine ⟨v', ?_⟩
    have e2 := sm_1 (E := E) (n := n + 20 - 14 + 100 + 20 * m) (d := d) (h := h) (k := k9) (v := v) (i := i9) (x := h.2.1 85 (K + i)) (K := K + i) (by rw [hi, int8]; omega) (by rw [i32_add (by rw [hk, hi]; omega) (by rw [hk, hi]; omega), hk, hi]; omega) (by omega) rfl a84 a85
    rw [show n + 100 + 20 * (m + 1) = n + 20 - 14 + 100 + 20 * m + 14 by omega]
    exact e2.trans e
set_option maxRecDepth 100000 in
theorem heldM (a84 : zat h.1 84 = some (.inr (.inl (12, [none, some (some 85), some (some 86), some (some 87), some (some 88), some (some 89), none, none, some (some 90), none, none, none, none, none, none, some (some 91), none, some (some 92), some (some 93)])))) (a85 : zat h.1 85 = some (.inl (0, 2475, []))) {p9 : Int32} {a : Nat} (hp : p9.toInt = (a : Int)) (ha : a < 8) : ∀ f d, 400 ≤ f → ∃ v', zex E f (d + 1) 226 0 [some (.ref 84), some (.int p9)] [] h = some (.inl (some (.int v')), h) := by
  intro f d hf
  obtain ⟨n, hn⟩ : ∃ n, f = n + 400 := ⟨f - 400, by omega⟩
  subst hn
  have jk := pers_i (r := p9) (j := 16) (a := a) (b := 16) hp ha rfl (by decide)
  obtain ⟨v', e⟩ := sumM (E := E) a84 a85 jk (by omega) 8 0 0 0 rfl rfl (n + 140 - 6 + 1 - 4) d
  refine ⟨v', sm_3 (n := n + 394) (d := d) a84 (mh_pi (E := E) (n := n + 388) (d := d)) ?_⟩
  have e0 := sm_0 (E := E) (n := n + 391) (d := d) (u2 := none) (u3 := none) (h := h) (k := 185 + 24 * p9 + 16)
  rw [show n + 140 - 6 + 1 - 4 + 100 + 20 * 8 = n + 400 - 6 + 1 - 4 by omega] at e
  have e1 := e0.trans e
  exact e1
set_option maxRecDepth 100000 in
theorem loadM (hE : E.1 < 2147483648) (hsm : bSO E ctb B (60, smT)) (hF : 1000000 ≤ F) (hL : L ≤ 400) (ht : YT h0 L h p s) (hk : sk isBl (tp90 h0) L p = nxt (tp90 h0) L s) (hR : RM h σ) (hW : WF σ) {u1 u2 u3 : Option Value} :
    ∀ d f, 65 ≤ d → B + F * 1000 ≤ f → lnM h σ h0 L (loadq (tp90 h0) L σ s) (zex E f d 250 0 [some (.ref 84), u1, u2, u3] [] h) := by
  intro d f hd hf
  obtain ⟨d', hd'⟩ : ∃ d', d = d' + 1 := ⟨d - 1, by omega⟩
  obtain ⟨n, hn⟩ : ∃ n, f = n + 600 := ⟨f - 600, by omega⟩
  subst hd' hn
  obtain ⟨w1, w2, w3, w4, w5, w6⟩ := id hW
  have a84 := b84_ha ht.1
  obtain ⟨⟨r1, r2, r3⟩, r4⟩ := id hR
  unfold loadq twoq
  have st1 := fun f hf => y_pers hE hsm hF hL ht r3 w3 d' f (by omega) hf
  rw [hk] at st1
  cases hn1 : nmq (tp90 h0) L (nxt (tp90 h0) L s) 0 ((sP σ : Int) - 1) with
  | none =>
    rw [hn1] at st1
    obtain ⟨y, h1, p1, e1, k1, t1, n1⟩ := st1 (n + 598) (by omega)
    have n1 : y.toInt = -1 := n1
    exact ⟨h1, p1, ld_0 (n := n + 588) (d := d') (by omega) (b84_ha ht.1) e1, t1⟩
  | some v1 =>
    rw [hn1] at st1
    have b1 := nmq_b hn1
    dsimp only
    have st2 := fun (h1 : zH) (p1 : Nat) (t1 : YT h0 L h1 p1 (nxt (tp90 h0) L s)) f hf => y_numc hE hsm hF hL t1 (x1 := 0) (x2 := 9999) zi0 int9999 (by decide) d' f (by omega) hf
    cases hn2 : nmq (tp90 h0) L (nxt (tp90 h0) L (nxt (tp90 h0) L s)) 0 9999 with
    | none =>
      obtain ⟨y, h1, p1, e1, k1, t1, n1, n2⟩ := st1 (n + 598) (by omega)
      obtain ⟨y2, h2, p2, e2, k2, t2, n3⟩ := st2 h1 p1 t1 (n + 591) (by omega)
      rw [n2, show sk isBl (tp90 h0) L (kE (tp90 h0) L (nxt (tp90 h0) L s)) = nxt (tp90 h0) L (nxt (tp90 h0) L s) from rfl] at t2 n3
      rw [hn2] at n3
      have n3 : y2.toInt = -1 := n3
      exact ⟨h2, p2, ld_1 (n := n + 586) (d := d') (by omega) (by omega) (b84_ha ht.1) (b84_ha t1.1) e1 e2, t2⟩
    | some v2 =>
      have b2 := nmq_b hn2
      obtain ⟨y, h1, p1, e1, k1, t1, n1, n2⟩ := st1 (n + 598) (by omega)
      obtain ⟨y2, h2, p2, e2, k2, t2, n3⟩ := st2 h1 p1 t1 (n + 591) (by omega)
      rw [n2, show sk isBl (tp90 h0) L (kE (tp90 h0) L (nxt (tp90 h0) L s)) = nxt (tp90 h0) L (nxt (tp90 h0) L s) from rfl] at t2 n3
      rw [hn2] at n3
      obtain ⟨n3, n4⟩ := n3
      have hR2 := RM_w hR hW (RW_t k1 k2)
      obtain ⟨d'', hd''⟩ : ∃ d'', d' = d'' + 1 := ⟨d' - 1, by omega⟩
      subst hd''
      have x84 := b84_ha t2.1
      have x85 := b85_ha t2.1
      have hya : y.toInt = ((v1.toNat : Nat) : Int) := by omega
      obtain ⟨z, e3⟩ := heldM (E := E) (h := h2) x84 x85 hya (by omega) (n + 583) d'' (by omega)
      have j3 : (16 + y).toInt = ((16 + v1.toNat : Nat) : Int) := by rw [i32_add (by rw [int16]; omega) (by rw [int16]; omega), int16]; omega
      have ja := pers_i (r := y) (j := 16 + y) (a := v1.toNat) (b := 16 + v1.toNat) hya (by omega) j3 (by omega)
      have e4 := mh_get (E := E) (n := n + 562) (d := d'') (p := y) (j := 16 + y) (h := h2) ja (by omega) rfl x84 x85 (mh_pi (E := E) (n := n + 556) (d := d''))
      have e5 := mh_put (E := E) (n := n + 558) (d := d'') (p := y) (j := 16 + y) (y := h2.2.1 85 (185 + 24 * v1.toNat + (16 + v1.toNat)) + (if 9999 - z < y2 then 9999 - z else y2)) (h := h2) ja (by omega) x84 x85 (mh_pi (E := E) (n := n + 553) (d := d''))
      have bd := (bd_pers v1.toNat (by omega)).2.2.2.2.2 v1.toNat (by omega)
      rw [show 201 + v1.toNat + 24 * v1.toNat = 185 + 24 * v1.toNat + (16 + v1.toNat) by omega] at bd
      have q1 := YT_85 (y := h2.2.1 85 (185 + 24 * v1.toNat + (16 + v1.toNat)) + (if 9999 - z < y2 then 9999 - z else y2)) t2 (jn := 185 + 24 * v1.toNat + (16 + v1.toNat)) (by omega) (by rw [bd]; exact bi32 _) (blam_o (blam_h t2.1) (by omega) (fun p _ => by omega))
      have R1 := RM_n (y := h2.2.1 85 (185 + 24 * v1.toNat + (16 + v1.toNat)) + (if 9999 - z < y2 then 9999 - z else y2)) (K := 185 + 24 * v1.toNat + (16 + v1.toNat)) hR2 hW (by omega) (by omega) (fun p _ => by have := Nat.lt_or_ge v1.toNat p; omega)
      exact ⟨_, p2, _, ld_2 (n := n + 556) (d := d'' + 1) (by omega) (by omega) rfl (b84_ha ht.1) (b84_ha t1.1) (b84_ha t2.1) (b84_ha q1.1) (b85_ha q1.1) e1 e2 e3 e4 e5, YT_85 q1 (by decide) (by rw [bd_79.1]; exact bi32 _) (blam_o (blam_h q1.1) (by decide) (fun p _ => by omega)), by rw [n4]; rfl, RM_n R1 hW (by decide) (by omega) (fun p _ => by omega), fun hN _ => RN_q (QS_t (QS_w (RW_t k1 k2)) (QS_t (QS_n (by intro z; rcases z with ⟨r, r1, r2⟩ | ⟨p, p1, z | z | z⟩ <;> omega)) (QS_n (by intro z; rcases z with ⟨r, r1, r2⟩ | ⟨p, p1, z | z | z⟩ <;> omega)))) rfl rfl hN⟩
end MLo
