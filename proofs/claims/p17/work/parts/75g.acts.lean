/-! acts leave the plan, and remember it (wip/zab2/c/geng28.py) -/
set_option maxRecDepth 100000 in
theorem zgb284_30 : zfetch 284 30 = some (.aload_n 0, 1, (0, 0, 0), 0, 0) := by decide +kernel
set_option maxRecDepth 100000 in
theorem zgb284_31 : zfetch 284 31 = some (.invokevirtual 325, 3, (0, 214, 0), 0, 1969) := by decide +kernel
set_option maxRecDepth 100000 in
theorem zgb284_34 : zfetch 284 34 = some (.iconst 0, 1, (0, 0, 0), 0, 0) := by decide +kernel
set_option maxRecDepth 100000 in
theorem zgb284_35 : zfetch 284 35 = some (.istore_n 2, 1, (0, 0, 0), 0, 0) := by decide +kernel
set_option maxRecDepth 100000 in
theorem zgb284_36 : zfetch 284 36 = some (.iconst 0, 1, (0, 0, 0), 0, 0) := by decide +kernel
set_option maxRecDepth 100000 in
theorem zgb284_37 : zfetch 284 37 = some (.istore_n 3, 1, (0, 0, 0), 0, 0) := by decide +kernel
set_option maxRecDepth 100000 in
theorem zgb284_38 : zfetch 284 38 = some (.iload_n 3, 1, (0, 0, 0), 0, 0) := by decide +kernel
set_option maxRecDepth 100000 in
theorem zgb284_39 : zfetch 284 39 = some (.iload_n 1, 1, (0, 0, 0), 0, 0) := by decide +kernel
set_option maxRecDepth 100000 in
theorem zgb284_40 : zfetch 284 40 = some (.if_icmp .ge 16, 3, (56, 0, 0), 0, 0) := by decide +kernel
set_option maxRecDepth 100000 in
theorem zgb284_43 : zfetch 284 43 = some (.iload_n 2, 1, (0, 0, 0), 0, 0) := by decide +kernel
set_option maxRecDepth 100000 in
theorem zgb284_44 : zfetch 284 44 = some (.aload_n 0, 1, (0, 0, 0), 0, 0) := by decide +kernel
set_option maxRecDepth 100000 in
theorem zgb284_45 : zfetch 284 45 = some (.invokevirtual 328, 3, (0, 283, 0), 0, 1973) := by decide +kernel
set_option maxRecDepth 100000 in
theorem zgb284_48 : zfetch 284 48 = some (.iadd, 1, (0, 0, 0), 0, 0) := by decide +kernel
set_option maxRecDepth 100000 in
theorem zgb284_49 : zfetch 284 49 = some (.istore_n 2, 1, (0, 0, 0), 0, 0) := by decide +kernel
set_option maxRecDepth 100000 in
theorem zgb284_50 : zfetch 284 50 = some (.iinc 3 1, 3, (0, 0, 0), 1, 0) := by decide +kernel
set_option maxRecDepth 100000 in
theorem zgb284_53 : zfetch 284 53 = some (.goto (-15), 3, (38, 0, 0), 0, 0) := by decide +kernel
set_option maxRecDepth 100000 in
theorem zgb284_56 : zfetch 284 56 = some (.iload_n 2, 1, (0, 0, 0), 0, 0) := by decide +kernel
set_option maxRecDepth 100000 in
theorem zgb284_57 : zfetch 284 57 = some (.ireturn, 1, (0, 0, 0), 0, 0) := by decide +kernel
set_option maxRecDepth 100000 in
theorem zgb287_20 : zfetch 287 20 = some (.aload_n 0, 1, (0, 0, 0), 0, 0) := by decide +kernel
set_option maxRecDepth 100000 in
theorem zgb287_21 : zfetch 287 21 = some (.invokevirtual 325, 3, (0, 214, 0), 0, 1969) := by decide +kernel
set_option maxRecDepth 100000 in
theorem zgb288_20 : zfetch 288 20 = some (.aload_n 0, 1, (0, 0, 0), 0, 0) := by decide +kernel
set_option maxRecDepth 100000 in
theorem zgb288_21 : zfetch 288 21 = some (.invokevirtual 325, 3, (0, 214, 0), 0, 1969) := by decide +kernel
set_option maxRecDepth 100000 in
theorem zgb290_45 : zfetch 290 45 = some (.aload_n 0, 1, (0, 0, 0), 0, 0) := by decide +kernel
set_option maxRecDepth 100000 in
theorem zgb290_46 : zfetch 290 46 = some (.iload_n 1, 1, (0, 0, 0), 0, 0) := by decide +kernel
set_option maxRecDepth 100000 in
theorem zgb290_47 : zfetch 290 47 = some (.iconst 2, 1, (0, 0, 0), 2, 0) := by decide +kernel
set_option maxRecDepth 100000 in
theorem zgb290_48 : zfetch 290 48 = some (.invokestatic 52, 3, (0, 218, 0), 0, 1763) := by decide +kernel
set_option maxRecDepth 100000 in
theorem zgb290_51 : zfetch 290 51 = some (.iload_n 2, 1, (0, 0, 0), 0, 0) := by decide +kernel
set_option maxRecDepth 100000 in
theorem zgb290_52 : zfetch 290 52 = some (.invokevirtual 336, 3, (0, 289, 0), 0, 2019) := by decide +kernel
set_option maxRecDepth 100000 in
theorem zgb290_55 : zfetch 290 55 = some (.ireturn, 1, (0, 0, 0), 0, 0) := by decide +kernel
set_option maxRecDepth 100000 in
theorem zgb291_45 : zfetch 291 45 = some (.aload_n 0, 1, (0, 0, 0), 0, 0) := by decide +kernel
set_option maxRecDepth 100000 in
theorem zgb291_46 : zfetch 291 46 = some (.iload_n 1, 1, (0, 0, 0), 0, 0) := by decide +kernel
set_option maxRecDepth 100000 in
theorem zgb291_47 : zfetch 291 47 = some (.iconst 1, 1, (0, 0, 0), 1, 0) := by decide +kernel
set_option maxRecDepth 100000 in
theorem zgb291_48 : zfetch 291 48 = some (.invokestatic 56, 3, (0, 219, 0), 0, 1788) := by decide +kernel
set_option maxRecDepth 100000 in
theorem zgb291_51 : zfetch 291 51 = some (.iload_n 2, 1, (0, 0, 0), 0, 0) := by decide +kernel
set_option maxRecDepth 100000 in
theorem zgb291_52 : zfetch 291 52 = some (.invokevirtual 336, 3, (0, 289, 0), 0, 2019) := by decide +kernel
set_option maxRecDepth 100000 in
theorem zgb291_55 : zfetch 291 55 = some (.ireturn, 1, (0, 0, 0), 0, 0) := by decide +kernel
set_option maxRecDepth 100000 in
theorem zgb292_45 : zfetch 292 45 = some (.aload_n 0, 1, (0, 0, 0), 0, 0) := by decide +kernel
set_option maxRecDepth 100000 in
theorem zgb292_46 : zfetch 292 46 = some (.iload_n 1, 1, (0, 0, 0), 0, 0) := by decide +kernel
set_option maxRecDepth 100000 in
theorem zgb292_47 : zfetch 292 47 = some (.iconst 2, 1, (0, 0, 0), 2, 0) := by decide +kernel
set_option maxRecDepth 100000 in
theorem zgb292_48 : zfetch 292 48 = some (.invokestatic 56, 3, (0, 219, 0), 0, 1788) := by decide +kernel
set_option maxRecDepth 100000 in
theorem zgb292_51 : zfetch 292 51 = some (.iload_n 2, 1, (0, 0, 0), 0, 0) := by decide +kernel
set_option maxRecDepth 100000 in
theorem zgb292_52 : zfetch 292 52 = some (.invokevirtual 336, 3, (0, 289, 0), 0, 2019) := by decide +kernel
set_option maxRecDepth 100000 in
theorem zgb292_55 : zfetch 292 55 = some (.ireturn, 1, (0, 0, 0), 0, 0) := by decide +kernel
set_option maxRecDepth 100000 in
theorem zgb289_0 : zfetch 289 0 = some (.aload_n 0, 1, (0, 0, 0), 0, 0) := by decide +kernel
set_option maxRecDepth 100000 in
theorem zgb289_1 : zfetch 289 1 = some (.invokevirtual 325, 3, (0, 214, 0), 0, 1969) := by decide +kernel
set_option maxRecDepth 100000 in
theorem zgb289_4 : zfetch 289 4 = some (.aload_n 0, 1, (0, 0, 0), 0, 0) := by decide +kernel
set_option maxRecDepth 100000 in
theorem zgb289_5 : zfetch 289 5 = some (.getfield 13, 3, (12, 1, 0), 0, 1618) := by decide +kernel
set_option maxRecDepth 100000 in
theorem zgb289_8 : zfetch 289 8 = some (.iload_n 1, 1, (0, 0, 0), 0, 0) := by decide +kernel
set_option maxRecDepth 100000 in
theorem zgb289_9 : zfetch 289 9 = some (.iaload, 1, (0, 0, 0), 0, 0) := by decide +kernel
set_option maxRecDepth 100000 in
theorem zgb289_10 : zfetch 289 10 = some (.istore_n 3, 1, (0, 0, 0), 0, 0) := by decide +kernel
set_option maxRecDepth 100000 in
theorem zgb289_11 : zfetch 289 11 = some (.aload_n 0, 1, (0, 0, 0), 0, 0) := by decide +kernel
set_option maxRecDepth 100000 in
theorem zgb289_12 : zfetch 289 12 = some (.getfield 13, 3, (12, 1, 0), 0, 1618) := by decide +kernel
set_option maxRecDepth 100000 in
theorem zgb289_15 : zfetch 289 15 = some (.iload_n 1, 1, (0, 0, 0), 0, 0) := by decide +kernel
set_option maxRecDepth 100000 in
theorem zgb289_16 : zfetch 289 16 = some (.iload_n 2, 1, (0, 0, 0), 0, 0) := by decide +kernel
set_option maxRecDepth 100000 in
theorem zgb289_17 : zfetch 289 17 = some (.iastore, 1, (0, 0, 0), 0, 0) := by decide +kernel
set_option maxRecDepth 100000 in
theorem zgb289_18 : zfetch 289 18 = some (.iload_n 3, 1, (0, 0, 0), 0, 0) := by decide +kernel
set_option maxRecDepth 100000 in
theorem zgb289_19 : zfetch 289 19 = some (.ireturn, 1, (0, 0, 0), 0, 0) := by decide +kernel
set_option maxRecDepth 100000 in
theorem znb214 : zat zmi 214 = some (1, 2, 0, 12, 0, 0) := rfl
set_option maxRecDepth 100000 in
theorem znb218 : zat zmi 218 = some (2, 2, 1, 12, 1, 0) := rfl
set_option maxRecDepth 100000 in
theorem znb219 : zat zmi 219 = some (2, 2, 1, 12, 1, 0) := rfl
set_option maxRecDepth 100000 in
theorem znb283 : zat zmi 283 = some (1, 3, 0, 12, 1, 0) := rfl
set_option maxRecDepth 100000 in
theorem znb289 : zat zmi 289 = some (3, 4, 0, 12, 1, 0) := rfl
set_option maxRecDepth 100000 in
theorem ro_r {E : zE} {n d : Nat} {h h1 : zH} {u2 u3 : Option Value} {k : Int32}  (a84 : zat h.1 84 = some (.inr (.inl (12, [none, some (some 85), some (some 86), some (some 87), some (some 88), some (some 89), none, none, some (some 90), none, none, none, none, none, none, some (some 91), none, some (some 92), some (some 93)])))) (e1 : zex E (n + 4) d 214 0 [some (.ref 84), none] [] h = some (.inl none, h1)) : zex E (n + 6) (d + 1) 284 30 [some (.ref 84), some (.int k), u2, u3] [] h = zex E n (d + 1) 284 38 [some (.ref 84), some (.int k), some (.int 0), some (.int 0)] [] h1 :=
  ((yAn zgb284_30 rfl rfl) : zex E (n + 6) (d + 1) 284 30 [some (.ref 84), some (.int k), u2, u3] [] h = zex E (n + 5) (d + 1) 284 31 [some (.ref 84), some (.int k), u2, u3] [.ref 84] h).trans (((zcvg (h := h) (as := []) (r := []) zgb284_31 znb214 rfl a84 rfl e1) : zex E (n + 5) (d + 1) 284 31 [some (.ref 84), some (.int k), u2, u3] [.ref 84] h = zex E (n + 4) (d + 1) 284 34 [some (.ref 84), some (.int k), u2, u3] [] h1).trans (((yCi zgb284_34) : zex E (n + 4) (d + 1) 284 34 [some (.ref 84), some (.int k), u2, u3] [] h1 = zex E (n + 3) (d + 1) 284 35 [some (.ref 84), some (.int k), u2, u3] [.int 0] h1).trans (((ySn zgb284_35) : zex E (n + 3) (d + 1) 284 35 [some (.ref 84), some (.int k), u2, u3] [.int 0] h1 = zex E (n + 2) (d + 1) 284 36 [some (.ref 84), some (.int k), some (.int 0), u3] [] h1).trans (((yCi zgb284_36) : zex E (n + 2) (d + 1) 284 36 [some (.ref 84), some (.int k), some (.int 0), u3] [] h1 = zex E (n + 1) (d + 1) 284 37 [some (.ref 84), some (.int k), some (.int 0), u3] [.int 0] h1).trans (((ySn zgb284_37) : zex E (n + 1) (d + 1) 284 37 [some (.ref 84), some (.int k), some (.int 0), u3] [.int 0] h1 = zex E n (d + 1) 284 38 [some (.ref 84), some (.int k), some (.int 0), some (.int 0)] [] h1))))))
set_option maxRecDepth 100000 in
theorem ro_l {E : zE} {n d : Nat} {h h1 : zH} {k s j y : Int32} (hj : j.toInt < k.toInt) (a84 : zat h.1 84 = some (.inr (.inl (12, [none, some (some 85), some (some 86), some (some 87), some (some 88), some (some 89), none, none, some (some 90), none, none, none, none, none, none, some (some 91), none, some (some 92), some (some 93)])))) (e1 : zex E (n + 4) d 283 0 [some (.ref 84), none, none] [] h = some (.inl (some (.int y)), h1)) : zex E (n + 10) (d + 1) 284 38 [some (.ref 84), some (.int k), some (.int s), some (.int j)] [] h = zex E n (d + 1) 284 38 [some (.ref 84), some (.int k), some (.int (s + y)), some (.int (j + 1))] [] h1 :=
  ((yIn zgb284_38 rfl) : zex E (n + 10) (d + 1) 284 38 [some (.ref 84), some (.int k), some (.int s), some (.int j)] [] h = zex E (n + 9) (d + 1) 284 39 [some (.ref 84), some (.int k), some (.int s), some (.int j)] [.int j] h).trans (((yIn zgb284_39 rfl) : zex E (n + 9) (d + 1) 284 39 [some (.ref 84), some (.int k), some (.int s), some (.int j)] [.int j] h = zex E (n + 8) (d + 1) 284 40 [some (.ref 84), some (.int k), some (.int s), some (.int j)] [.int k, .int j] h).trans (((zkgF zgb284_40 hj) : zex E (n + 8) (d + 1) 284 40 [some (.ref 84), some (.int k), some (.int s), some (.int j)] [.int k, .int j] h = zex E (n + 7) (d + 1) 284 43 [some (.ref 84), some (.int k), some (.int s), some (.int j)] [] h).trans (((yIn zgb284_43 rfl) : zex E (n + 7) (d + 1) 284 43 [some (.ref 84), some (.int k), some (.int s), some (.int j)] [] h = zex E (n + 6) (d + 1) 284 44 [some (.ref 84), some (.int k), some (.int s), some (.int j)] [.int s] h).trans (((yAn zgb284_44 rfl rfl) : zex E (n + 6) (d + 1) 284 44 [some (.ref 84), some (.int k), some (.int s), some (.int j)] [.int s] h = zex E (n + 5) (d + 1) 284 45 [some (.ref 84), some (.int k), some (.int s), some (.int j)] [.ref 84, .int s] h).trans (((zcvg (h := h) (as := []) (r := [.int s]) zgb284_45 znb283 rfl a84 rfl e1) : zex E (n + 5) (d + 1) 284 45 [some (.ref 84), some (.int k), some (.int s), some (.int j)] [.ref 84, .int s] h = zex E (n + 4) (d + 1) 284 48 [some (.ref 84), some (.int k), some (.int s), some (.int j)] [.int y, .int s] h1).trans (((yAdd zgb284_48) : zex E (n + 4) (d + 1) 284 48 [some (.ref 84), some (.int k), some (.int s), some (.int j)] [.int y, .int s] h1 = zex E (n + 3) (d + 1) 284 49 [some (.ref 84), some (.int k), some (.int s), some (.int j)] [.int (s + y)] h1).trans (((ySn zgb284_49) : zex E (n + 3) (d + 1) 284 49 [some (.ref 84), some (.int k), some (.int s), some (.int j)] [.int (s + y)] h1 = zex E (n + 2) (d + 1) 284 50 [some (.ref 84), some (.int k), some (.int (s + y)), some (.int j)] [] h1).trans (((yInc zgb284_50 rfl) : zex E (n + 2) (d + 1) 284 50 [some (.ref 84), some (.int k), some (.int (s + y)), some (.int j)] [] h1 = zex E (n + 1) (d + 1) 284 53 [some (.ref 84), some (.int k), some (.int (s + y)), some (.int (j + 1))] [] h1).trans (((yGo zgb284_53) : zex E (n + 1) (d + 1) 284 53 [some (.ref 84), some (.int k), some (.int (s + y)), some (.int (j + 1))] [] h1 = zex E n (d + 1) 284 38 [some (.ref 84), some (.int k), some (.int (s + y)), some (.int (j + 1))] [] h1))))))))))
set_option maxRecDepth 100000 in
theorem ro_e {E : zE} {n d : Nat} {h : zH} {k s j : Int32} (hj : k.toInt ≤ j.toInt)   : zex E (n + 5) d 284 38 [some (.ref 84), some (.int k), some (.int s), some (.int j)] [] h = some (.inl (some (.int s)), h) :=
  ((yIn zgb284_38 rfl) : zex E (n + 5) d 284 38 [some (.ref 84), some (.int k), some (.int s), some (.int j)] [] h = zex E (n + 4) d 284 39 [some (.ref 84), some (.int k), some (.int s), some (.int j)] [.int j] h).trans (((yIn zgb284_39 rfl) : zex E (n + 4) d 284 39 [some (.ref 84), some (.int k), some (.int s), some (.int j)] [.int j] h = zex E (n + 3) d 284 40 [some (.ref 84), some (.int k), some (.int s), some (.int j)] [.int k, .int j] h).trans (((zkgT zgb284_40 hj) : zex E (n + 3) d 284 40 [some (.ref 84), some (.int k), some (.int s), some (.int j)] [.int k, .int j] h = zex E (n + 2) d 284 56 [some (.ref 84), some (.int k), some (.int s), some (.int j)] [] h).trans (((yIn zgb284_56 rfl) : zex E (n + 2) d 284 56 [some (.ref 84), some (.int k), some (.int s), some (.int j)] [] h = zex E (n + 1) d 284 57 [some (.ref 84), some (.int k), some (.int s), some (.int j)] [.int s] h).trans (((yRet1 zgb284_57 rfl) : zex E (n + 1) d 284 57 [some (.ref 84), some (.int k), some (.int s), some (.int j)] [.int s] h = some (.inl (some (.int s)), h))))))
set_option maxRecDepth 100000 in
theorem sx_r {E : zE} {n d : Nat} {h h1 : zH} {k : Int32}  (a84 : zat h.1 84 = some (.inr (.inl (12, [none, some (some 85), some (some 86), some (some 87), some (some 88), some (some 89), none, none, some (some 90), none, none, none, none, none, none, some (some 91), none, some (some 92), some (some 93)])))) (e1 : zex E n d 214 0 [some (.ref 84), none] [] h = some (.inl none, h1)) : zex E (n + 2) (d + 1) 287 20 [some (.ref 84), some (.int k)] [] h = zex E n (d + 1) 287 24 [some (.ref 84), some (.int k)] [] h1 :=
  ((yAn zgb287_20 rfl rfl) : zex E (n + 2) (d + 1) 287 20 [some (.ref 84), some (.int k)] [] h = zex E (n + 1) (d + 1) 287 21 [some (.ref 84), some (.int k)] [.ref 84] h).trans (((zcvg (h := h) (as := []) (r := []) zgb287_21 znb214 rfl a84 rfl e1) : zex E (n + 1) (d + 1) 287 21 [some (.ref 84), some (.int k)] [.ref 84] h = zex E n (d + 1) 287 24 [some (.ref 84), some (.int k)] [] h1))
set_option maxRecDepth 100000 in
theorem bx_r {E : zE} {n d : Nat} {h h1 : zH} {k : Int32}  (a84 : zat h.1 84 = some (.inr (.inl (12, [none, some (some 85), some (some 86), some (some 87), some (some 88), some (some 89), none, none, some (some 90), none, none, none, none, none, none, some (some 91), none, some (some 92), some (some 93)])))) (e1 : zex E n d 214 0 [some (.ref 84), none] [] h = some (.inl none, h1)) : zex E (n + 2) (d + 1) 288 20 [some (.ref 84), some (.int k)] [] h = zex E n (d + 1) 288 24 [some (.ref 84), some (.int k)] [] h1 :=
  ((yAn zgb288_20 rfl rfl) : zex E (n + 2) (d + 1) 288 20 [some (.ref 84), some (.int k)] [] h = zex E (n + 1) (d + 1) 288 21 [some (.ref 84), some (.int k)] [.ref 84] h).trans (((zcvg (h := h) (as := []) (r := []) zgb288_21 znb214 rfl a84 rfl e1) : zex E (n + 1) (d + 1) 288 21 [some (.ref 84), some (.int k)] [.ref 84] h = zex E n (d + 1) 288 24 [some (.ref 84), some (.int k)] [] h1))
set_option maxRecDepth 100000 in
theorem to_290 {E : zE} {n d : Nat} {h h2 : zH} {k x j y : Int32}  (a84 : zat h.1 84 = some (.inr (.inl (12, [none, some (some 85), some (some 86), some (some 87), some (some 88), some (some 89), none, none, some (some 90), none, none, none, none, none, none, some (some 91), none, some (some 92), some (some 93)])))) (e1 : zex E (n + 3) d 218 0 [some (.int k), some (.int 2)] [] h = some (.inl (some (.int j)), h)) (e2 : zex E (n + 1) d 289 0 [some (.ref 84), some (.int j), some (.int x), none] [] h = some (.inl (some (.int y)), h2)) : zex E (n + 7) (d + 1) 290 45 [some (.ref 84), some (.int k), some (.int x)] [] h = some (.inl (some (.int y)), h2) :=
  ((yAn zgb290_45 rfl rfl) : zex E (n + 7) (d + 1) 290 45 [some (.ref 84), some (.int k), some (.int x)] [] h = zex E (n + 6) (d + 1) 290 46 [some (.ref 84), some (.int k), some (.int x)] [.ref 84] h).trans (((yIn zgb290_46 rfl) : zex E (n + 6) (d + 1) 290 46 [some (.ref 84), some (.int k), some (.int x)] [.ref 84] h = zex E (n + 5) (d + 1) 290 47 [some (.ref 84), some (.int k), some (.int x)] [.int k, .ref 84] h).trans (((yCi zgb290_47) : zex E (n + 5) (d + 1) 290 47 [some (.ref 84), some (.int k), some (.int x)] [.int k, .ref 84] h = zex E (n + 4) (d + 1) 290 48 [some (.ref 84), some (.int k), some (.int x)] [.int 2, .int k, .ref 84] h).trans (((zcvs (as := [.int k, .int 2]) (r := [.ref 84]) zgb290_48 znb218 rfl rfl e1) : zex E (n + 4) (d + 1) 290 48 [some (.ref 84), some (.int k), some (.int x)] [.int 2, .int k, .ref 84] h = zex E (n + 3) (d + 1) 290 51 [some (.ref 84), some (.int k), some (.int x)] [.int j, .ref 84] h).trans (((yIn zgb290_51 rfl) : zex E (n + 3) (d + 1) 290 51 [some (.ref 84), some (.int k), some (.int x)] [.int j, .ref 84] h = zex E (n + 2) (d + 1) 290 52 [some (.ref 84), some (.int k), some (.int x)] [.int x, .int j, .ref 84] h).trans (((zcvg (h := h) (as := [.int j, .int x]) (r := []) zgb290_52 znb289 rfl a84 rfl e2) : zex E (n + 2) (d + 1) 290 52 [some (.ref 84), some (.int k), some (.int x)] [.int x, .int j, .ref 84] h = zex E (n + 1) (d + 1) 290 55 [some (.ref 84), some (.int k), some (.int x)] [.int y] h2).trans (((yRet1 zgb290_55 rfl) : zex E (n + 1) (d + 1) 290 55 [some (.ref 84), some (.int k), some (.int x)] [.int y] h2 = some (.inl (some (.int y)), h2))))))))
set_option maxRecDepth 100000 in
theorem to_291 {E : zE} {n d : Nat} {h h2 : zH} {k x j y : Int32}  (a84 : zat h.1 84 = some (.inr (.inl (12, [none, some (some 85), some (some 86), some (some 87), some (some 88), some (some 89), none, none, some (some 90), none, none, none, none, none, none, some (some 91), none, some (some 92), some (some 93)])))) (e1 : zex E (n + 3) d 219 0 [some (.int k), some (.int 1)] [] h = some (.inl (some (.int j)), h)) (e2 : zex E (n + 1) d 289 0 [some (.ref 84), some (.int j), some (.int x), none] [] h = some (.inl (some (.int y)), h2)) : zex E (n + 7) (d + 1) 291 45 [some (.ref 84), some (.int k), some (.int x)] [] h = some (.inl (some (.int y)), h2) :=
  ((yAn zgb291_45 rfl rfl) : zex E (n + 7) (d + 1) 291 45 [some (.ref 84), some (.int k), some (.int x)] [] h = zex E (n + 6) (d + 1) 291 46 [some (.ref 84), some (.int k), some (.int x)] [.ref 84] h).trans (((yIn zgb291_46 rfl) : zex E (n + 6) (d + 1) 291 46 [some (.ref 84), some (.int k), some (.int x)] [.ref 84] h = zex E (n + 5) (d + 1) 291 47 [some (.ref 84), some (.int k), some (.int x)] [.int k, .ref 84] h).trans (((yCi zgb291_47) : zex E (n + 5) (d + 1) 291 47 [some (.ref 84), some (.int k), some (.int x)] [.int k, .ref 84] h = zex E (n + 4) (d + 1) 291 48 [some (.ref 84), some (.int k), some (.int x)] [.int 1, .int k, .ref 84] h).trans (((zcvs (as := [.int k, .int 1]) (r := [.ref 84]) zgb291_48 znb219 rfl rfl e1) : zex E (n + 4) (d + 1) 291 48 [some (.ref 84), some (.int k), some (.int x)] [.int 1, .int k, .ref 84] h = zex E (n + 3) (d + 1) 291 51 [some (.ref 84), some (.int k), some (.int x)] [.int j, .ref 84] h).trans (((yIn zgb291_51 rfl) : zex E (n + 3) (d + 1) 291 51 [some (.ref 84), some (.int k), some (.int x)] [.int j, .ref 84] h = zex E (n + 2) (d + 1) 291 52 [some (.ref 84), some (.int k), some (.int x)] [.int x, .int j, .ref 84] h).trans (((zcvg (h := h) (as := [.int j, .int x]) (r := []) zgb291_52 znb289 rfl a84 rfl e2) : zex E (n + 2) (d + 1) 291 52 [some (.ref 84), some (.int k), some (.int x)] [.int x, .int j, .ref 84] h = zex E (n + 1) (d + 1) 291 55 [some (.ref 84), some (.int k), some (.int x)] [.int y] h2).trans (((yRet1 zgb291_55 rfl) : zex E (n + 1) (d + 1) 291 55 [some (.ref 84), some (.int k), some (.int x)] [.int y] h2 = some (.inl (some (.int y)), h2))))))))
set_option maxRecDepth 100000 in
theorem to_292 {E : zE} {n d : Nat} {h h2 : zH} {k x j y : Int32}  (a84 : zat h.1 84 = some (.inr (.inl (12, [none, some (some 85), some (some 86), some (some 87), some (some 88), some (some 89), none, none, some (some 90), none, none, none, none, none, none, some (some 91), none, some (some 92), some (some 93)])))) (e1 : zex E (n + 3) d 219 0 [some (.int k), some (.int 2)] [] h = some (.inl (some (.int j)), h)) (e2 : zex E (n + 1) d 289 0 [some (.ref 84), some (.int j), some (.int x), none] [] h = some (.inl (some (.int y)), h2)) : zex E (n + 7) (d + 1) 292 45 [some (.ref 84), some (.int k), some (.int x)] [] h = some (.inl (some (.int y)), h2) :=
  ((yAn zgb292_45 rfl rfl) : zex E (n + 7) (d + 1) 292 45 [some (.ref 84), some (.int k), some (.int x)] [] h = zex E (n + 6) (d + 1) 292 46 [some (.ref 84), some (.int k), some (.int x)] [.ref 84] h).trans (((yIn zgb292_46 rfl) : zex E (n + 6) (d + 1) 292 46 [some (.ref 84), some (.int k), some (.int x)] [.ref 84] h = zex E (n + 5) (d + 1) 292 47 [some (.ref 84), some (.int k), some (.int x)] [.int k, .ref 84] h).trans (((yCi zgb292_47) : zex E (n + 5) (d + 1) 292 47 [some (.ref 84), some (.int k), some (.int x)] [.int k, .ref 84] h = zex E (n + 4) (d + 1) 292 48 [some (.ref 84), some (.int k), some (.int x)] [.int 2, .int k, .ref 84] h).trans (((zcvs (as := [.int k, .int 2]) (r := [.ref 84]) zgb292_48 znb219 rfl rfl e1) : zex E (n + 4) (d + 1) 292 48 [some (.ref 84), some (.int k), some (.int x)] [.int 2, .int k, .ref 84] h = zex E (n + 3) (d + 1) 292 51 [some (.ref 84), some (.int k), some (.int x)] [.int j, .ref 84] h).trans (((yIn zgb292_51 rfl) : zex E (n + 3) (d + 1) 292 51 [some (.ref 84), some (.int k), some (.int x)] [.int j, .ref 84] h = zex E (n + 2) (d + 1) 292 52 [some (.ref 84), some (.int k), some (.int x)] [.int x, .int j, .ref 84] h).trans (((zcvg (h := h) (as := [.int j, .int x]) (r := []) zgb292_52 znb289 rfl a84 rfl e2) : zex E (n + 2) (d + 1) 292 52 [some (.ref 84), some (.int k), some (.int x)] [.int x, .int j, .ref 84] h = zex E (n + 1) (d + 1) 292 55 [some (.ref 84), some (.int k), some (.int x)] [.int y] h2).trans (((yRet1 zgb292_55 rfl) : zex E (n + 1) (d + 1) 292 55 [some (.ref 84), some (.int k), some (.int x)] [.int y] h2 = some (.inl (some (.int y)), h2))))))))
set_option maxRecDepth 100000 in
theorem td_1 {E : zE} {n d : Nat} {h h1 : zH} {j x v : Int32} {u3 : Option Value} {J : Nat} (hj : j.toInt = (J : Int)) (hJ : J < 2475) (hv : h1.2.1 85 J = v) (a84 : zat h.1 84 = some (.inr (.inl (12, [none, some (some 85), some (some 86), some (some 87), some (some 88), some (some 89), none, none, some (some 90), none, none, none, none, none, none, some (some 91), none, some (some 92), some (some 93)])))) (a84_h1 : zat h1.1 84 = some (.inr (.inl (12, [none, some (some 85), some (some 86), some (some 87), some (some 88), some (some 89), none, none, some (some 90), none, none, none, none, none, none, some (some 91), none, some (some 92), some (some 93)])))) (a85_h1 : zat h1.1 85 = some (.inl (0, 2475, []))) (e1 : zex E (n + 12) d 214 0 [some (.ref 84), none] [] h = some (.inl none, h1)) : zex E (n + 14) (d + 1) 289 0 [some (.ref 84), some (.int j), some (.int x), u3] [] h = some (.inl (some (.int v)), (zsetI h1 85 (upd (h1.2.1 85) J x))) :=
  ((yAn zgb289_0 rfl rfl) : zex E (n + 14) (d + 1) 289 0 [some (.ref 84), some (.int j), some (.int x), u3] [] h = zex E (n + 13) (d + 1) 289 1 [some (.ref 84), some (.int j), some (.int x), u3] [.ref 84] h).trans (((zcvg (h := h) (as := []) (r := []) zgb289_1 znb214 rfl a84 rfl e1) : zex E (n + 13) (d + 1) 289 1 [some (.ref 84), some (.int j), some (.int x), u3] [.ref 84] h = zex E (n + 12) (d + 1) 289 4 [some (.ref 84), some (.int j), some (.int x), u3] [] h1).trans (((yAn zgb289_4 rfl rfl) : zex E (n + 12) (d + 1) 289 4 [some (.ref 84), some (.int j), some (.int x), u3] [] h1 = zex E (n + 11) (d + 1) 289 5 [some (.ref 84), some (.int j), some (.int x), u3] [.ref 84] h1).trans (((zgx zgb289_5 a84_h1 rfl) : zex E (n + 11) (d + 1) 289 5 [some (.ref 84), some (.int j), some (.int x), u3] [.ref 84] h1 = zex E (n + 10) (d + 1) 289 8 [some (.ref 84), some (.int j), some (.int x), u3] [.ref 85] h1).trans (((yIn zgb289_8 rfl) : zex E (n + 10) (d + 1) 289 8 [some (.ref 84), some (.int j), some (.int x), u3] [.ref 85] h1 = zex E (n + 9) (d + 1) 289 9 [some (.ref 84), some (.int j), some (.int x), u3] [.int j, .ref 85] h1).trans (((zlk zgb289_9 a85_h1 hj hJ hv) : zex E (n + 9) (d + 1) 289 9 [some (.ref 84), some (.int j), some (.int x), u3] [.int j, .ref 85] h1 = zex E (n + 8) (d + 1) 289 10 [some (.ref 84), some (.int j), some (.int x), u3] [.int v] h1).trans (((ySn zgb289_10) : zex E (n + 8) (d + 1) 289 10 [some (.ref 84), some (.int j), some (.int x), u3] [.int v] h1 = zex E (n + 7) (d + 1) 289 11 [some (.ref 84), some (.int j), some (.int x), some (.int v)] [] h1).trans (((yAn zgb289_11 rfl rfl) : zex E (n + 7) (d + 1) 289 11 [some (.ref 84), some (.int j), some (.int x), some (.int v)] [] h1 = zex E (n + 6) (d + 1) 289 12 [some (.ref 84), some (.int j), some (.int x), some (.int v)] [.ref 84] h1).trans (((zgx zgb289_12 a84_h1 rfl) : zex E (n + 6) (d + 1) 289 12 [some (.ref 84), some (.int j), some (.int x), some (.int v)] [.ref 84] h1 = zex E (n + 5) (d + 1) 289 15 [some (.ref 84), some (.int j), some (.int x), some (.int v)] [.ref 85] h1).trans (((yIn zgb289_15 rfl) : zex E (n + 5) (d + 1) 289 15 [some (.ref 84), some (.int j), some (.int x), some (.int v)] [.ref 85] h1 = zex E (n + 4) (d + 1) 289 16 [some (.ref 84), some (.int j), some (.int x), some (.int v)] [.int j, .ref 85] h1).trans (((yIn zgb289_16 rfl) : zex E (n + 4) (d + 1) 289 16 [some (.ref 84), some (.int j), some (.int x), some (.int v)] [.int j, .ref 85] h1 = zex E (n + 3) (d + 1) 289 17 [some (.ref 84), some (.int j), some (.int x), some (.int v)] [.int x, .int j, .ref 85] h1).trans (((zsk zgb289_17 a85_h1 hj hJ) : zex E (n + 3) (d + 1) 289 17 [some (.ref 84), some (.int j), some (.int x), some (.int v)] [.int x, .int j, .ref 85] h1 = zex E (n + 2) (d + 1) 289 18 [some (.ref 84), some (.int j), some (.int x), some (.int v)] [] (zsetI h1 85 (upd (h1.2.1 85) J x))).trans (((yIn zgb289_18 rfl) : zex E (n + 2) (d + 1) 289 18 [some (.ref 84), some (.int j), some (.int x), some (.int v)] [] (zsetI h1 85 (upd (h1.2.1 85) J x)) = zex E (n + 1) (d + 1) 289 19 [some (.ref 84), some (.int j), some (.int x), some (.int v)] [.int v] (zsetI h1 85 (upd (h1.2.1 85) J x))).trans (((yRet1 zgb289_19 rfl) : zex E (n + 1) (d + 1) 289 19 [some (.ref 84), some (.int j), some (.int x), some (.int v)] [.int v] (zsetI h1 85 (upd (h1.2.1 85) J x)) = some (.inl (some (.int v)), (zsetI h1 85 (upd (h1.2.1 85) J x)))))))))))))))))
def wAc : Nat := 4149515568880992958512407863691161151012446232242436899995657329690652811412908146399707048947103794287937241332304260676928348799355388296321269727917458003621981943795500295651327
set_option maxRecDepth 100000 in
theorem ac_ro : btz wAc (60, smT) ctb (bfn 0 0 1 (bidl 1 0) [([iFull], [], some (.inl (0, [(1, 1)])), [])]) 70 284 1000000 1 [(30, [q84, some (.inl (0, [(0, 1)])), none, none], [iFull], [(100, [(0, -1)])], [], (0, []), (0, []), (0, []))] (1, [iFull], [], [], (0, []), (0, [])) 0 [q84, some (.inl (0, [(0, 1)])), none, none] = true := by decide +kernel
set_option maxRecDepth 100000 in
theorem ac_sw : btz wAc (60, smT) ctb (bfn 0 0 1 (bidl 1 0) [([iFull], [], some (.inl (0, [(1, 1)])), [])]) 70 287 1000000 1 [(20, [q84, some (.inl (0, [(0, 1)]))], [iFull], [(0, [(0, 1)]), (11, [(0, -1)])], [], (0, []), (0, []), (0, []))] (1, [iFull], [], [], (0, []), (0, [])) 0 [q84, some (.inl (0, [(0, 1)]))] = true := by decide +kernel
set_option maxRecDepth 100000 in
theorem ac_be : btz wAc (60, smT) ctb (bfn 0 0 1 (bidl 1 0) [([iFull], [], some (.inl (0, [(1, 1)])), [])]) 70 288 1000000 1 [(20, [q84, some (.inl (0, [(0, 1)]))], [iFull], [(0, [(0, 1)]), (7, [(0, -1)])], [], (0, []), (0, []), (0, []))] (1, [iFull], [], [], (0, []), (0, [])) 0 [q84, some (.inl (0, [(0, 1)]))] = true := by decide +kernel
set_option maxRecDepth 100000 in
theorem ac_to : btz wAc (60, smT) ctb (bfn 0 0 2 (bidl 2 0) [([iFull], [], some (.inl (0, [(2, 1)])), [])]) 70 290 1000000 2 [(45, [q84, some (.inl (0, [(0, 1)])), some (.inl (0, [(1, 1)]))], [iFull, iFull], [(0, [(0, 1)]), (11, [(0, -1)])], [], (0, []), (0, []), (0, []))] (2, [iFull, iFull], [], [], (0, []), (0, [])) 0 [q84, some (.inl (0, [(0, 1)])), some (.inl (0, [(1, 1)]))] = true := by decide +kernel
set_option maxRecDepth 100000 in
theorem ac_ke : btz wAc (60, smT) ctb (bfn 0 0 2 (bidl 2 0) [([iFull], [], some (.inl (0, [(2, 1)])), [])]) 70 291 1000000 2 [(45, [q84, some (.inl (0, [(0, 1)])), some (.inl (0, [(1, 1)]))], [iFull, iFull], [(0, [(0, 1)]), (7, [(0, -1)])], [], (0, []), (0, []), (0, []))] (2, [iFull, iFull], [], [], (0, []), (0, [])) 0 [q84, some (.inl (0, [(0, 1)])), some (.inl (0, [(1, 1)]))] = true := by decide +kernel
set_option maxRecDepth 100000 in
theorem ac_so : btz wAc (60, smT) ctb (bfn 0 0 2 (bidl 2 0) [([iFull], [], some (.inl (0, [(2, 1)])), [])]) 70 292 1000000 2 [(45, [q84, some (.inl (0, [(0, 1)])), some (.inl (0, [(1, 1)]))], [iFull, iFull], [(0, [(0, 1)]), (7, [(0, -1)])], [], (0, []), (0, []), (0, []))] (2, [iFull, iFull], [], [], (0, []), (0, [])) 0 [q84, some (.inl (0, [(0, 1)])), some (.inl (0, [(1, 1)]))] = true := by decide +kernel
set_option maxRecDepth 100000 in
theorem as_sw : btz wAc (60, smT) ctb (bfn 0 0 1 (bidl 1 0) [([iFull], [], some (.inl (0, [(1, 1)])), [])]) 70 287 1000000 1 [] (1, [(0, 11)], [], [], (0, []), (0, [])) 24 [q84, some (.inl (0, [(0, 1)]))] = true := by decide +kernel
set_option maxRecDepth 100000 in
theorem as_be : btz wAc (60, smT) ctb (bfn 0 0 1 (bidl 1 0) [([iFull], [], some (.inl (0, [(1, 1)])), [])]) 70 288 1000000 1 [] (1, [(0, 7)], [], [], (0, []), (0, [])) 24 [q84, some (.inl (0, [(0, 1)]))] = true := by decide +kernel
set_option maxRecDepth 100000 in
theorem wAcA : wF wAc lA = true := by decide +kernel
set_option maxRecDepth 100000 in
theorem wAcP : wF wAc lP = true := by decide +kernel
set_option maxRecDepth 100000 in
theorem segc {E : zE} (hE : E.1 < 2147483648) {tb : bTb} {W : Nat} {h0 h : zH} {V : List Int} {B : Nat} {Q : Option zR → Prop} {sm : bSt9} {fin : bS → Option bV → Bool} {D MI F nv : Nat} {L : List bNd} {env : bE} {cs : bC} {ov : bO} {pc : Nat} {al : bLs} {ls : zLs} {ca sa : Nat}
    (hsm : bSO E tb B sm) (hfin : bFin E tb W h0 V Q fin) (hr : bRQ tb W h0 ca sa h) (hv : benv V env) (hn : nv = V.length) (hcs : bcs V cs) (hov : bOV E V ov h) (hl : bLR V al ls)
    (e : btz W sm tb fin D MI F nv L (nv, env, cs, ov, ((ca : Int), []), ((sa : Int), [])) pc al = true) {B' : Nat} (hB : B ≤ B')
    (hN : ∀ N, N ∈ L → N.2.2.1.length = nv ∧ N.2.2.2.2.2.1 = ((ca : Int), []) ∧ N.2.2.2.2.2.2.1 = ((sa : Int), []))
    (hL : ∀ N, N ∈ L → ∀ ls' h', bLR V N.2.1 ls' → bRQ tb W h0 ca sa h' → bcs V N.2.2.2.1 → ∀ d f, D ≤ d → B' ≤ f → Q (zex E f d MI N.1 ls' [] h')) : ∀ d f, D ≤ d → B' + F ≤ f → Q (zex E f d MI pc ls [] h) := by
  refine btz_s (V := V) (V0 := V) hE hsm hfin (bxt_refl V) hn.symm (bSS_ofQ hr hv hn hcs hov) hl e hB ?_
  intro N hm V' ls' h' hR d f hd hf
  obtain ⟨n1, n2, n3⟩ := hN N hm
  have hV := bNR_V hR (n1.trans hn)
  subst hV
  obtain ⟨-, k1, k2, k3⟩ := hR
  have k4 := k2.2.2.1
  rw [n2, n3] at k2
  exact hL N hm ls' h' k1 (bRQ_of k2) k4 d f hd hf
set_option maxRecDepth 100000 in
theorem fin_i {E : zE} {tb : bTb} {W : Nat} {h0 : zH} {V : List Int} {ca sa nv : Nat} {Q : Option zR → Prop} {env : bE} {rf : bI} (hn : nv = V.length) (hQ : ∀ (x : Int32) h', bRQ tb W h0 ca sa h' → Q (some (.inl (some (.int x)), h'))) : bFin E tb W h0 V Q (bfn ca sa nv (bidl nv 0) [(env, [], some (.inl rf), [])]) := by
  intro V' S v w h' hx hS hv e
  obtain ⟨p, h1, h2⟩ := bfn_s e
  rw [hn] at h2
  obtain ⟨h3, h4, h5⟩ := bpm_s hx hS hv h2
  cases h1 with
  | tail _ h1 => exact absurd h1 List.not_mem_nil
  | head =>
    obtain ⟨U, u1, u2, u3, u4⟩ := h5
    cases w with
    | none => exact u3.elim
    | some w =>
      obtain ⟨x, x1, x2⟩ := u3
      rw [x1]
      exact hQ x h' ⟨hS.2.2.2.2.1, hS.2.2.2.2.2.1, hS.2.2.2.2.2.2.1, hS.2.2.2.2.2.2.2.1, h3, h4⟩
/-- what an act leaves of the acts -/
def acQ (h : zH) (o : Option zR) : Prop := ∃ (x : Int32) (h' : zH), o = some (.inl (some (.int x)), h') ∧ (AI h → AI h')
set_option maxRecDepth 100000 in
theorem AI_fr {h h' : zH} (hr : bRQ ctb wAc h 0 0 h') (a : AI h) : AI h' := AI_f (FrA_w wAcA hr.2.2.2.1) (FrP_w wAcP hr.2.2.2.1).2.2.2.2 a
set_option maxRecDepth 100000 in
theorem kk1 {V : List Int} {c x : Int} (h : bcs V [(0, [(0, 1)]), (c, [(0, -1)])]) (hV : zat V 0 = some x) : 0 ≤ x ∧ x ≤ c := by
  obtain ⟨y, y1, y2⟩ := h _ (List.Mem.head _)
  obtain ⟨z, z1, z2⟩ := h _ (List.Mem.tail _ (List.Mem.head _))
  have e : nth V 0 = x := by
    cases V with
    | nil => exact nomatch (show (none : Option Int) = some x from hV)
    | cons v V => exact Option.some.inj hV
  have y3 : y = 0 + (1 * nth V 0 + 0) := brel_x y1
  have z3 : z = c + ((-1) * nth V 0 + 0) := brel_x z1
  omega
set_option maxRecDepth 100000 in
theorem bPR_i {E : zE} {V : List Int} {l : List bPo} {p : bPo} {v : Option Value} {h' : zH} (b : p ∈ l) (hl : l.all (fun q => match q.2.2.1 with | some (.inl _) => true | _ => false) = true) (hp : bPR E V p v h') : ∃ x : Int32, v = some (.int x) := by
  have z := List.all_eq_true.mp hl p b
  obtain ⟨U, u1, u2, u3, u4⟩ := hp
  cases hq : p.2.2.1 with
  | none => rw [hq] at z; cases z
  | some w =>
    rw [hq] at z u3
    cases w with
    | inr w => cases z
    | inl w =>
      cases v with
      | none => exact u3.elim
      | some v =>
        obtain ⟨x, x1, x2⟩ := u3
        exact ⟨x, by rw [x1]⟩
set_option maxRecDepth 100000 in
theorem w366A : wF sc366.2.1 lA = true := by decide +kernel
set_option maxRecDepth 100000 in
theorem w366P : wF sc366.2.1 lP = true := by decide +kernel
section AC
variable {E : zE} {B : Nat} {h : zH}
set_option maxRecDepth 100000 in
theorem mlx_1 {V : List Int} {k : Int32} (hV : zat V 0 = some k.toInt) : ∀ {n : Nat}, bLR V (q84 :: some (.inl (0, [(0, 1)])) :: List.replicate n none) (some (.ref 84) :: some (.int k) :: List.replicate n none) := by
  intro n
  refine ⟨⟨_, rfl, rfl⟩, ⟨_, rfl, k, rfl, ?_⟩, ?_⟩
  · cases V with
    | nil => exact nomatch (show (none : Option Int) = some k.toInt from hV)
    | cons v V =>
      have : v = k.toInt := Option.some.inj hV
      subst this
      exact brel_v rfl
  · induction n with
    | zero => trivial
    | succ n ih => exact ⟨trivial, ih⟩
set_option maxRecDepth 100000 in
theorem mlx_2 {V : List Int} {ls : zLs} (h : bLR V [q84, some (.inl (0, [(0, 1)]))] ls) : ∃ k : Int32, ls = [some (.ref 84), some (.int k)] ∧ k.toInt = bvx V (0, [(0, 1)]) := by
  match ls, h with
  | [p0, p1], ⟨⟨v0, e0, f0⟩, ⟨v1, e1, x, f1, f2⟩, _⟩ =>
    have f0 : v0 = _ := f0
    exact ⟨x, by rw [e0, e1, f0, f1], brel_x f2⟩
set_option maxRecDepth 100000 in
theorem mlx_4 {V : List Int} {ls : zLs} (h : bLR V [q84, some (.inl (0, [(0, 1)])), none, none] ls) : ∃ (k : Int32) (u2 u3 : Option Value), ls = [some (.ref 84), some (.int k), u2, u3] ∧ k.toInt = bvx V (0, [(0, 1)]) := by
  match ls, h with
  | [p0, p1, p2, p3], ⟨⟨v0, e0, f0⟩, ⟨v1, e1, x, f1, f2⟩, _, _, _⟩ =>
    have f0 : v0 = _ := f0
    exact ⟨x, p2, p3, by rw [e0, e1, f0, f1], brel_x f2⟩
set_option maxRecDepth 100000 in
theorem mlx_3 {V : List Int} {ls : zLs} (h : bLR V [q84, some (.inl (0, [(0, 1)])), some (.inl (0, [(1, 1)]))] ls) : ∃ k x : Int32, ls = [some (.ref 84), some (.int k), some (.int x)] ∧ k.toInt = bvx V (0, [(0, 1)]) := by
  match ls, h with
  | [p0, p1, p2], ⟨⟨v0, e0, f0⟩, ⟨v1, e1, x, f1, f2⟩, ⟨v2, e2, y, f3, f4⟩, _⟩ =>
    have f0 : v0 = _ := f0
    exact ⟨x, y, by rw [e0, e1, e2, f0, f1, f3], brel_x f2⟩
set_option maxRecDepth 100000 in
theorem mlx_k {k9 x9 : Int32} : bLR [k9.toInt, x9.toInt] [q84, some (.inl (0, [(0, 1)])), some (.inl (0, [(1, 1)]))] [some (.ref 84), some (.int k9), some (.int x9)] := ⟨⟨_, rfl, rfl⟩, ⟨_, rfl, k9, rfl, brel_v rfl⟩, ⟨_, rfl, x9, rfl, brel_v rfl⟩, trivial⟩
set_option maxRecDepth 100000 in
theorem rm_r (hI : bHI h) (hP : bPS h) (hT : bTB ctb h.1) : ∀ d f, 1000000 ≤ f → ∃ h', zex E f d 214 0 [some (.ref 84), none] [] h = some (.inl none, h') ∧ bHI h' ∧ bPS h' ∧ bTB ctb h'.1 ∧ (AI h → AI h') := by
  intro d f hf
  obtain ⟨h', e1, e2, e3, e4, e5, e6⟩ := remE (E := E) hI hP hT (u1 := none) d f hf
  refine ⟨h', e1, e2, bps_c e3 (e4 27 (by decide) (by decide) 3) hP, by rw [e3]; exact hT, e6⟩
set_option maxRecDepth 100000 in
theorem acSw (hE : E.1 < 2147483648) (hsm : bSO E ctb B (60, smT)) (hI : bHI h) (hP : bPS h) (hT : bTB ctb h.1) {k9 : Int32} : ∀ d f, 72 ≤ d → B + 5000000 ≤ f → acQ h (zex E f d 287 0 [some (.ref 84), some (.int k9)] [] h) := by
  intro d f hd hf
  have b9 := bi32 k9
  refine segc (V := [k9.toInt]) (ca := 0) (sa := 0) (nv := 1) (Q := acQ h) hE hsm (fin_i (V := [k9.toInt]) (ca := 0) (sa := 0) rfl (fun x h' k1 => ⟨x, h', rfl, AI_fr k1⟩)) ⟨hI, hP, hT, fun _ _ _ => rfl, Nat.le_refl _, Nat.le_refl _⟩ (benv_c b9.1 b9.2 benv_n) rfl bcs_n bov_n (mlx_1 rfl (n := 0)) ac_sw (B' := B + 3000000) (by omega) ?_ ?_ d f (by omega) (by omega)
  · intro N hN
    cases hN with
    | head => exact ⟨rfl, rfl, rfl⟩
    | tail _ hN => exact absurd hN List.not_mem_nil
  · intro N hN ls' h1 k1 k2 k3 d f hd hf
    cases hN with
    | tail _ hN => exact absurd hN List.not_mem_nil
    | head =>
      obtain ⟨k, e1, e2⟩ := mlx_2 k1
      have e2 : k.toInt = 0 + (1 * k9.toInt + 0) := e2
      have bd := kk1 k3 (x := k9.toInt) rfl
      obtain ⟨d', hd'⟩ : ∃ d', d = d' + 1 := ⟨d - 1, by omega⟩
      obtain ⟨n, hn9⟩ : ∃ n, f = n + 2 := ⟨f - 2, by omega⟩
      subst hd' hn9
      obtain ⟨h2, e3, i2, p2, t2, a2⟩ := rm_r (E := E) k2.1 k2.2.1 k2.2.2.1 d' (n + 0) (by omega)
      rw [e1, show zex E (n + 2) (d' + 1) 287 20 [some (.ref 84), some (.int k)] [] h1 = _ from sx_r (n := n) (d := d') (k2.2.2.1 84 _ cs84 (by intro z; cases z)) e3]
      refine seg (V := [k.toInt]) (ca := 0) (sa := 0) (nv := 1) (Q := acQ h) hE hsm (fin_i (V := [k.toInt]) (ca := 0) (sa := 0) rfl (fun x h' k4 => ⟨x, h', rfl, fun a => AI_fr k4 (a2 (AI_fr k2 a))⟩)) ⟨i2, p2, t2, fun _ _ _ => rfl, Nat.le_refl _, Nat.le_refl _⟩ (benv_c (by omega) (by omega) benv_n) rfl bcs_n bov_n (mlx_1 rfl (n := 0)) as_sw (B' := B) (Nat.le_refl _) (fun N hN => absurd hN List.not_mem_nil) (fun N hN => absurd hN List.not_mem_nil) (d' + 1) n (by omega) (by omega)
set_option maxRecDepth 100000 in
theorem acBe (hE : E.1 < 2147483648) (hsm : bSO E ctb B (60, smT)) (hI : bHI h) (hP : bPS h) (hT : bTB ctb h.1) {k9 : Int32} : ∀ d f, 72 ≤ d → B + 5000000 ≤ f → acQ h (zex E f d 288 0 [some (.ref 84), some (.int k9)] [] h) := by
  intro d f hd hf
  have b9 := bi32 k9
  refine segc (V := [k9.toInt]) (ca := 0) (sa := 0) (nv := 1) (Q := acQ h) hE hsm (fin_i (V := [k9.toInt]) (ca := 0) (sa := 0) rfl (fun x h' k1 => ⟨x, h', rfl, AI_fr k1⟩)) ⟨hI, hP, hT, fun _ _ _ => rfl, Nat.le_refl _, Nat.le_refl _⟩ (benv_c b9.1 b9.2 benv_n) rfl bcs_n bov_n (mlx_1 rfl (n := 0)) ac_be (B' := B + 3000000) (by omega) ?_ ?_ d f (by omega) (by omega)
  · intro N hN
    cases hN with
    | head => exact ⟨rfl, rfl, rfl⟩
    | tail _ hN => exact absurd hN List.not_mem_nil
  · intro N hN ls' h1 k1 k2 k3 d f hd hf
    cases hN with
    | tail _ hN => exact absurd hN List.not_mem_nil
    | head =>
      obtain ⟨k, e1, e2⟩ := mlx_2 k1
      have e2 : k.toInt = 0 + (1 * k9.toInt + 0) := e2
      have bd := kk1 k3 (x := k9.toInt) rfl
      obtain ⟨d', hd'⟩ : ∃ d', d = d' + 1 := ⟨d - 1, by omega⟩
      obtain ⟨n, hn9⟩ : ∃ n, f = n + 2 := ⟨f - 2, by omega⟩
      subst hd' hn9
      obtain ⟨h2, e3, i2, p2, t2, a2⟩ := rm_r (E := E) k2.1 k2.2.1 k2.2.2.1 d' (n + 0) (by omega)
      rw [e1, show zex E (n + 2) (d' + 1) 288 20 [some (.ref 84), some (.int k)] [] h1 = _ from bx_r (n := n) (d := d') (k2.2.2.1 84 _ cs84 (by intro z; cases z)) e3]
      refine seg (V := [k.toInt]) (ca := 0) (sa := 0) (nv := 1) (Q := acQ h) hE hsm (fin_i (V := [k.toInt]) (ca := 0) (sa := 0) rfl (fun x h' k4 => ⟨x, h', rfl, fun a => AI_fr k4 (a2 (AI_fr k2 a))⟩)) ⟨i2, p2, t2, fun _ _ _ => rfl, Nat.le_refl _, Nat.le_refl _⟩ (benv_c (by omega) (by omega) benv_n) rfl bcs_n bov_n (mlx_1 rfl (n := 0)) as_be (B' := B) (Nat.le_refl _) (fun N hN => absurd hN List.not_mem_nil) (fun N hN => absurd hN List.not_mem_nil) (d' + 1) n (by omega) (by omega)

set_option maxRecDepth 100000 in
theorem toldM (hI : bHI h) (hP : bPS h) (hT : bTB ctb h.1) {j9 x9 : Int32} {J : Nat} (hj : j9.toInt = (J : Int)) (hJ : J < 777) (hn : bun 85 J ≠ bun 85 0) {u3 : Option Value} : ∀ d f, 1 ≤ d → 1000100 ≤ f → acQ h (zex E f d 289 0 [some (.ref 84), some (.int j9), some (.int x9), u3] [] h) := by
  intro d f hd hf
  obtain ⟨d', hd'⟩ : ∃ d', d = d' + 1 := ⟨d - 1, by omega⟩
  obtain ⟨n, hn9⟩ : ∃ n, f = n + 1000000 + 14 := ⟨f - 1000000 - 14, by omega⟩
  subst hd' hn9
  obtain ⟨h1, e1, i1, p1, t1, a1⟩ := rm_r (E := E) hI hP hT d' (n + 1000000 + 12) (by omega)
  refine ⟨_, _, td_1 (n := n + 1000000) (d := d') hj (by omega) rfl (hT 84 _ cs84 (by intro z; cases z)) (t1 84 _ cs84 (by intro z; cases z)) (t1 85 _ ks85 (by intro z; cases z)) e1, fun a => ?_⟩
  refine AI_f ⟨fun k => zs_ne (by decide), zs_ne (by decide)⟩ (fun k hk => ?_) (a1 a)
  rw [zs_at, upd_n (fun z => hn (by rw [← z]; exact hk.2))]
set_option maxRecDepth 100000 in
theorem nplR : ∀ r, r < 12 → bun 85 (13 + 11 * r + 2) ≠ bun 85 0 := by decide +kernel
set_option maxRecDepth 100000 in
theorem nplP : ∀ p, p < 8 → bun 85 (185 + 24 * p + 1) ≠ bun 85 0 ∧ bun 85 (185 + 24 * p + 2) ≠ bun 85 0 := by decide +kernel
set_option maxRecDepth 100000 in
theorem acTo (hE : E.1 < 2147483648) (hsm : bSO E ctb B (60, smT)) (hI : bHI h) (hP : bPS h) (hT : bTB ctb h.1) {k9 x9 : Int32} : ∀ d f, 72 ≤ d → B + 5000000 ≤ f → acQ h (zex E f d 290 0 [some (.ref 84), some (.int k9), some (.int x9)] [] h) := by
  intro d f hd hf
  have b9 := bi32 k9
  have b8 := bi32 x9
  refine segc (V := [k9.toInt, x9.toInt]) (ca := 0) (sa := 0) (nv := 2) (Q := acQ h) hE hsm (fin_i (V := [k9.toInt, x9.toInt]) (ca := 0) (sa := 0) rfl (fun x h' k1 => ⟨x, h', rfl, AI_fr k1⟩)) ⟨hI, hP, hT, fun _ _ _ => rfl, Nat.le_refl _, Nat.le_refl _⟩ (benv_c b9.1 b9.2 (benv_c b8.1 b8.2 benv_n)) rfl bcs_n bov_n mlx_k ac_to (B' := B + 3000000) (by omega) ?_ ?_ d f (by omega) (by omega)
  · intro N hN
    cases hN with
    | head => exact ⟨rfl, rfl, rfl⟩
    | tail _ hN => exact absurd hN List.not_mem_nil
  · intro N hN ls' h1 k1 k2 k3 d f hd hf
    cases hN with
    | tail _ hN => exact absurd hN List.not_mem_nil
    | head =>
      obtain ⟨k, y, e1, e2⟩ := mlx_3 k1
      have e2 : k.toInt = 0 + (1 * k9.toInt + 0) := e2
      have bd := kk1 k3 (x := k9.toInt) rfl
      obtain ⟨d', hd'⟩ : ∃ d', d = d' + 1 := ⟨d - 1, by omega⟩
      obtain ⟨n, hn9⟩ : ∃ n, f = n + 100 := ⟨f - 100, by omega⟩
      subst hd' hn9
      have ja := room_i (r := k) (j := 2) (a := k9.toInt.toNat) (b := 2) (by omega) (by omega) (by decide) (by decide)
      obtain ⟨x, h2, e4, a4⟩ := toldM (E := E) k2.1 k2.2.1 k2.2.2.1 (x9 := y) ja (by omega) (nplR _ (by omega)) (u3 := none) d' (n + 94) (by omega) (by omega)
      rw [e1]
      exact ⟨x, h2, to_290 (n := n + 93) (d := d') (k2.2.2.1 84 _ cs84 (by intro z; cases z)) (mh_ri (n := n + 88) (d := d')) e4, fun a => a4 (AI_fr k2 a)⟩
set_option maxRecDepth 100000 in
theorem acKe (hE : E.1 < 2147483648) (hsm : bSO E ctb B (60, smT)) (hI : bHI h) (hP : bPS h) (hT : bTB ctb h.1) {k9 x9 : Int32} : ∀ d f, 72 ≤ d → B + 5000000 ≤ f → acQ h (zex E f d 291 0 [some (.ref 84), some (.int k9), some (.int x9)] [] h) := by
  intro d f hd hf
  have b9 := bi32 k9
  have b8 := bi32 x9
  refine segc (V := [k9.toInt, x9.toInt]) (ca := 0) (sa := 0) (nv := 2) (Q := acQ h) hE hsm (fin_i (V := [k9.toInt, x9.toInt]) (ca := 0) (sa := 0) rfl (fun x h' k1 => ⟨x, h', rfl, AI_fr k1⟩)) ⟨hI, hP, hT, fun _ _ _ => rfl, Nat.le_refl _, Nat.le_refl _⟩ (benv_c b9.1 b9.2 (benv_c b8.1 b8.2 benv_n)) rfl bcs_n bov_n mlx_k ac_ke (B' := B + 3000000) (by omega) ?_ ?_ d f (by omega) (by omega)
  · intro N hN
    cases hN with
    | head => exact ⟨rfl, rfl, rfl⟩
    | tail _ hN => exact absurd hN List.not_mem_nil
  · intro N hN ls' h1 k1 k2 k3 d f hd hf
    cases hN with
    | tail _ hN => exact absurd hN List.not_mem_nil
    | head =>
      obtain ⟨k, y, e1, e2⟩ := mlx_3 k1
      have e2 : k.toInt = 0 + (1 * k9.toInt + 0) := e2
      have bd := kk1 k3 (x := k9.toInt) rfl
      obtain ⟨d', hd'⟩ : ∃ d', d = d' + 1 := ⟨d - 1, by omega⟩
      obtain ⟨n, hn9⟩ : ∃ n, f = n + 100 := ⟨f - 100, by omega⟩
      subst hd' hn9
      have ja := pers_i (r := k) (j := 1) (a := k9.toInt.toNat) (b := 1) (by omega) (by omega) (by decide) (by decide)
      obtain ⟨x, h2, e4, a4⟩ := toldM (E := E) k2.1 k2.2.1 k2.2.2.1 (x9 := y) ja (by omega) (nplP _ (by omega)).1 (u3 := none) d' (n + 94) (by omega) (by omega)
      rw [e1]
      exact ⟨x, h2, to_291 (n := n + 93) (d := d') (k2.2.2.1 84 _ cs84 (by intro z; cases z)) (mh_pi (n := n + 88) (d := d')) e4, fun a => a4 (AI_fr k2 a)⟩
set_option maxRecDepth 100000 in
theorem acSo (hE : E.1 < 2147483648) (hsm : bSO E ctb B (60, smT)) (hI : bHI h) (hP : bPS h) (hT : bTB ctb h.1) {k9 x9 : Int32} : ∀ d f, 72 ≤ d → B + 5000000 ≤ f → acQ h (zex E f d 292 0 [some (.ref 84), some (.int k9), some (.int x9)] [] h) := by
  intro d f hd hf
  have b9 := bi32 k9
  have b8 := bi32 x9
  refine segc (V := [k9.toInt, x9.toInt]) (ca := 0) (sa := 0) (nv := 2) (Q := acQ h) hE hsm (fin_i (V := [k9.toInt, x9.toInt]) (ca := 0) (sa := 0) rfl (fun x h' k1 => ⟨x, h', rfl, AI_fr k1⟩)) ⟨hI, hP, hT, fun _ _ _ => rfl, Nat.le_refl _, Nat.le_refl _⟩ (benv_c b9.1 b9.2 (benv_c b8.1 b8.2 benv_n)) rfl bcs_n bov_n mlx_k ac_so (B' := B + 3000000) (by omega) ?_ ?_ d f (by omega) (by omega)
  · intro N hN
    cases hN with
    | head => exact ⟨rfl, rfl, rfl⟩
    | tail _ hN => exact absurd hN List.not_mem_nil
  · intro N hN ls' h1 k1 k2 k3 d f hd hf
    cases hN with
    | tail _ hN => exact absurd hN List.not_mem_nil
    | head =>
      obtain ⟨k, y, e1, e2⟩ := mlx_3 k1
      have e2 : k.toInt = 0 + (1 * k9.toInt + 0) := e2
      have bd := kk1 k3 (x := k9.toInt) rfl
      obtain ⟨d', hd'⟩ : ∃ d', d = d' + 1 := ⟨d - 1, by omega⟩
      obtain ⟨n, hn9⟩ : ∃ n, f = n + 100 := ⟨f - 100, by omega⟩
      subst hd' hn9
      have ja := pers_i (r := k) (j := 2) (a := k9.toInt.toNat) (b := 2) (by omega) (by omega) (by decide) (by decide)
      obtain ⟨x, h2, e4, a4⟩ := toldM (E := E) k2.1 k2.2.1 k2.2.2.1 (x9 := y) ja (by omega) (nplP _ (by omega)).2 (u3 := none) d' (n + 94) (by omega) (by omega)
      rw [e1]
      exact ⟨x, h2, to_292 (n := n + 93) (d := d') (k2.2.2.1 84 _ cs84 (by intro z; cases z)) (mh_pi (n := n + 88) (d := d')) e4, fun a => a4 (AI_fr k2 a)⟩
set_option maxRecDepth 100000 in
theorem roundsL (hsm : bSO E ctb B (60, smT)) {k9 : Int32} (hk : k9.toInt ≤ 100) : ∀ (m j : Nat) (s9 j9 : Int32) (h : zH), m + j = 100 → j9.toInt = (j : Int) → bHI h → bPS h → bTB ctb h.1 → ∀ d f, 70 ≤ d → B + 1000 * (m + 1) ≤ f → acQ h (zex E f d 284 38 [some (.ref 84), some (.int k9), some (.int s9), some (.int j9)] [] h) := by
  intro m
  induction m with
  | zero =>
    intro j s9 j9 h hm hj hI hP hT d f hd hf
    obtain ⟨n, hn9⟩ : ∃ n, f = n + 5 := ⟨f - 5, by omega⟩
    subst hn9
    exact ⟨s9, h, ro_e (n := n) (d := d) (by omega), fun a => a⟩
  | succ m IH =>
    intro j s9 j9 h hm hj hI hP hT d f hd hf
    have hmul : 1000 * (m + 1 + 1) = 1000 * (m + 1) + 1000 := Nat.mul_succ _ _
    by_cases hjk : j9.toInt < k9.toInt
    · obtain ⟨d', hd'⟩ : ∃ d', d = d' + 1 := ⟨d - 1, by omega⟩
      obtain ⟨n, hn9⟩ : ∃ n, f = n + 10 := ⟨f - 10, by omega⟩
      subst hd' hn9
      obtain ⟨v, h1, c1, c2, ⟨c3, c4⟩, c5, c6, c7, p9, m9, b9⟩ := hsm 283 [sc366] rfl sc366 (List.Mem.head _) (by decide) [] [.ref 84] h d' (n + 4) (1, 3, 0, 12, 1, 0) rfl (by show 6 ≤ d'; omega) (by omega) ⟨rfl, trivial⟩ benv_n bcs_n (fun e he => absurd he List.not_mem_nil) hI hP hT
      have c1 : zex E (n + 4) d' 283 0 [some (.ref 84), none, none] [] h = some (.inl v, h1) := c1
      obtain ⟨y, hy⟩ := bPR_i (b := m9) (by decide) b9
      rw [hy] at c1
      obtain ⟨x, h2, e2, a2⟩ := IH (j + 1) (s9 + y) (j9 + 1) h1 (by omega) (by rw [i32_add (by rw [hj, int1]; omega) (by rw [hj, int1]; omega), hj, int1]; omega) c2 c3 c4 (d' + 1) n (by omega) (by omega)
      exact ⟨x, h2, (ro_l (n := n) (d := d') hjk (hT 84 _ cs84 (by intro z; cases z)) c1).trans e2, fun a => a2 (AI_f (FrA_w w366A c5) (FrP_w w366P c5).2.2.2.2 a)⟩
    · obtain ⟨n, hn9⟩ : ∃ n, f = n + 5 := ⟨f - 5, by omega⟩
      subst hn9
      exact ⟨s9, h, ro_e (n := n) (d := d) (by omega), fun a => a⟩
set_option maxRecDepth 100000 in
theorem acRo (hE : E.1 < 2147483648) (hsm : bSO E ctb B (60, smT)) (hI : bHI h) (hP : bPS h) (hT : bTB ctb h.1) {k9 : Int32} : ∀ d f, 72 ≤ d → B + 5000000 ≤ f → acQ h (zex E f d 284 0 [some (.ref 84), some (.int k9), none, none] [] h) := by
  intro d f hd hf
  have b9 := bi32 k9
  refine segc (V := [k9.toInt]) (ca := 0) (sa := 0) (nv := 1) (Q := acQ h) hE hsm (fin_i (V := [k9.toInt]) (ca := 0) (sa := 0) rfl (fun x h' k1 => ⟨x, h', rfl, AI_fr k1⟩)) ⟨hI, hP, hT, fun _ _ _ => rfl, Nat.le_refl _, Nat.le_refl _⟩ (benv_c b9.1 b9.2 benv_n) rfl bcs_n bov_n (mlx_1 rfl (n := 2)) ac_ro (B' := B + 3000000) (by omega) ?_ ?_ d f (by omega) (by omega)
  · intro N hN
    cases hN with
    | head => exact ⟨rfl, rfl, rfl⟩
    | tail _ hN => exact absurd hN List.not_mem_nil
  · intro N hN ls' h1 k1 k2 k3 d f hd hf
    cases hN with
    | tail _ hN => exact absurd hN List.not_mem_nil
    | head =>
      obtain ⟨k, u2, u3, e1, e2⟩ := mlx_4 k1
      have e2 : k.toInt = 0 + (1 * k9.toInt + 0) := e2
      obtain ⟨z, z1, z2⟩ := k3 _ (List.Mem.head _)
      have z3 : z = 100 + ((-1) * k9.toInt + 0) := brel_x z1
      obtain ⟨d', hd'⟩ : ∃ d', d = d' + 1 := ⟨d - 1, by omega⟩
      obtain ⟨n, hn9⟩ : ∃ n, f = n + 6 := ⟨f - 6, by omega⟩
      subst hd' hn9
      obtain ⟨h2, e3, i2, p2, t2, a2⟩ := rm_r (E := E) k2.1 k2.2.1 k2.2.2.1 d' (n + 4) (by omega)
      obtain ⟨x, h3, e4, a4⟩ := roundsL (E := E) hsm (k9 := k) (by omega) 100 0 0 0 h2 rfl rfl i2 p2 t2 (d' + 1) n (by omega) (by omega)
      rw [e1]
      exact ⟨x, h3, (ro_r (n := n) (d := d') (k2.2.2.1 84 _ cs84 (by intro z; cases z)) e3).trans e4, fun a => a4 (a2 (AI_fr k2 a))⟩

end AC
