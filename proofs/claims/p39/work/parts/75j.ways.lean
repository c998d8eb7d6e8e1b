/-! ways, exactly (wip/zab2/c/lgen34.py) -/
set_option maxRecDepth 100000 in
theorem zcvp {E : zE} {n d mi pc j a3 ln i9 w9 na mL ci rk b x : Nat} {z : Int32} {sl : List (Option (Option Nat))} {ls : zLs} {st as r : List Value} {h h1 : zH} (hf : zfetch mi pc = some (.invokevirtual i9, ln, (0, j, a3), z, w9)) (hj : zat zmi j = some (na, mL, 0, ci, rk, 0)) (hp : zpop na st [] = some (.ref b :: as, r)) (hb : zat h.1 b = some (.inr (.inl (ci, sl)))) (hr : (Nat.ble (zsum r) 8 && (Value.ref b :: as).all zc1) = true) (ha3 : Nat.beq a3 0 = true) (hz : zat zhs mi = none ∨ zat zhs mi = some [])
    (hc : zex E n d j 0 (zent mL (.ref b :: as)) [] h = some (.inr x, h1)) : zex E (n + 1) (d + 1) mi pc ls st h = some (.inr x, h1) := by
  refine (zx1 hf).trans ?_
  show zinv (zex E n) (zex E n (d + 1) mi (pc + ln)) (d + 1) mi pc j (Nat.beq a3 0) ls st h = _
  unfold zinv
  rw [hj]
  simp only
  rw [hp]
  simp only
  rw [hr, cond_true]
  unfold zrecv
  simp only
  rw [hb]
  simp only
  rw [Nat.beq_refl, cond_true, hc]
  unfold zcall
  simp only
  rw [ha3, Nat.beq_refl]
  rcases hz with hz | hz
  · rw [hz]; rfl
  · rw [hz]; rfl
set_option maxRecDepth 100000 in
theorem zgi87_0 : zfetch 87 0 = some (.iload_n 1, 1, (0, 0, 0), 0, 0) := by decide +kernel
set_option maxRecDepth 100000 in
theorem zgi87_1 : zfetch 87 1 = some (.ifCond .lt 17, 3, (18, 0, 0), 0, 0) := by decide +kernel
set_option maxRecDepth 100000 in
theorem zgi87_4 : zfetch 87 4 = some (.iload_n 1, 1, (0, 0, 0), 0, 0) := by decide +kernel
set_option maxRecDepth 100000 in
theorem zgi87_5 : zfetch 87 5 = some (.aload_n 0, 1, (0, 0, 0), 0, 0) := by decide +kernel
set_option maxRecDepth 100000 in
theorem zgi87_6 : zfetch 87 6 = some (.getfield 19, 3, (11, 1, 0), 0, 576) := by decide +kernel
set_option maxRecDepth 100000 in
theorem zgi87_9 : zfetch 87 9 = some (.getfield 83, 3, (2, 0, 1), 0, 350) := by decide +kernel
set_option maxRecDepth 100000 in
theorem zgi87_12 : zfetch 87 12 = some (.getfield 313, 3, (8, 0, 1), 0, 268) := by decide +kernel
set_option maxRecDepth 100000 in
theorem zgi87_15 : zfetch 87 15 = some (.if_icmp .lt 14, 3, (29, 0, 0), 0, 0) := by decide +kernel
set_option maxRecDepth 100000 in
theorem zgi87_29 : zfetch 87 29 = some (.return_, 1, (0, 0, 0), 0, 0) := by decide +kernel
set_option maxRecDepth 100000 in
theorem zgi87_18 : zfetch 87 18 = some (.new 395, 3, (1, 2, 13), 1, 1132) := by decide +kernel
set_option maxRecDepth 100000 in
theorem zgi76_0 : zfetch 76 0 = some (.aload_n 0, 1, (0, 0, 0), 0, 0) := by decide +kernel
set_option maxRecDepth 100000 in
theorem zgi76_1 : zfetch 76 1 = some (.iload_n 1, 1, (0, 0, 0), 0, 0) := by decide +kernel
set_option maxRecDepth 100000 in
theorem zgi76_2 : zfetch 76 2 = some (.invokevirtual 138, 3, (0, 87, 0), 0, 1128) := by decide +kernel
set_option maxRecDepth 100000 in
theorem zgi76_5 : zfetch 76 5 = some (.aload_n 0, 1, (0, 0, 0), 0, 0) := by decide +kernel
set_option maxRecDepth 100000 in
theorem zgi76_6 : zfetch 76 6 = some (.iload_n 2, 1, (0, 0, 0), 0, 0) := by decide +kernel
set_option maxRecDepth 100000 in
theorem zgi76_7 : zfetch 76 7 = some (.invokevirtual 138, 3, (0, 87, 0), 0, 1128) := by decide +kernel
set_option maxRecDepth 100000 in
theorem zgi76_10 : zfetch 76 10 = some (.aload_n 0, 1, (0, 0, 0), 0, 0) := by decide +kernel
set_option maxRecDepth 100000 in
theorem zgi76_11 : zfetch 76 11 = some (.getfield 19, 3, (11, 1, 0), 0, 576) := by decide +kernel
set_option maxRecDepth 100000 in
theorem zgi76_14 : zfetch 76 14 = some (.getfield 83, 3, (2, 0, 1), 0, 350) := by decide +kernel
set_option maxRecDepth 100000 in
theorem zgi76_17 : zfetch 76 17 = some (.iload_n 1, 1, (0, 0, 0), 0, 0) := by decide +kernel
set_option maxRecDepth 100000 in
theorem zgi76_18 : zfetch 76 18 = some (.iload_n 2, 1, (0, 0, 0), 0, 0) := by decide +kernel
set_option maxRecDepth 100000 in
theorem zgi76_19 : zfetch 76 19 = some (.invokevirtual 304, 3, (0, 177, 1), 0, 1548) := by decide +kernel
set_option maxRecDepth 100000 in
theorem zgi76_22 : zfetch 76 22 = some (.ireturn, 1, (0, 0, 0), 0, 0) := by decide +kernel
set_option maxRecDepth 100000 in
theorem zgi33_0 : zfetch 33 0 = some (.aload_n 3, 1, (0, 0, 0), 0, 0) := by decide +kernel
set_option maxRecDepth 100000 in
theorem zgi33_1 : zfetch 33 1 = some (.iconst 0, 1, (0, 0, 0), 0, 0) := by decide +kernel
set_option maxRecDepth 100000 in
theorem zgi33_2 : zfetch 33 2 = some (.aload_n 0, 1, (0, 0, 0), 0, 0) := by decide +kernel
set_option maxRecDepth 100000 in
theorem zgi33_3 : zfetch 33 3 = some (.iload_n 1, 1, (0, 0, 0), 0, 0) := by decide +kernel
set_option maxRecDepth 100000 in
theorem zgi33_4 : zfetch 33 4 = some (.iload_n 2, 1, (0, 0, 0), 0, 0) := by decide +kernel
set_option maxRecDepth 100000 in
theorem zgi33_5 : zfetch 33 5 = some (.invokevirtual 119, 3, (0, 76, 0), 0, 1544) := by decide +kernel
set_option maxRecDepth 100000 in
theorem zgi33_8 : zfetch 33 8 = some (.i2l, 1, (0, 0, 0), 0, 0) := by decide +kernel
set_option maxRecDepth 100000 in
theorem zgi33_9 : zfetch 33 9 = some (.lastore, 1, (0, 0, 0), 0, 0) := by decide +kernel
set_option maxRecDepth 100000 in
theorem zgi33_10 : zfetch 33 10 = some (.goto 7, 3, (17, 0, 0), 0, 0) := by decide +kernel
set_option maxRecDepth 100000 in
theorem zgi33_17 : zfetch 33 17 = some (.iconst 0, 1, (0, 0, 0), 0, 0) := by decide +kernel
set_option maxRecDepth 100000 in
theorem zgi33_18 : zfetch 33 18 = some (.ireturn, 1, (0, 0, 0), 0, 0) := by decide +kernel
set_option maxRecDepth 100000 in
theorem zgi33_13 : zfetch 33 13 = some (.astore 4, 2, (0, 0, 0), 0, 0) := by decide +kernel
set_option maxRecDepth 100000 in
theorem zgi33_15 : zfetch 33 15 = some (.iconst 1, 1, (0, 0, 0), 1, 0) := by decide +kernel
set_option maxRecDepth 100000 in
theorem zgi33_16 : zfetch 33 16 = some (.ireturn, 1, (0, 0, 0), 0, 0) := by decide +kernel
set_option maxRecDepth 100000 in
theorem zgi177_0 : zfetch 177 0 = some (.iconst 1, 1, (0, 0, 0), 1, 0) := by decide +kernel
set_option maxRecDepth 100000 in
theorem zgi177_1 : zfetch 177 1 = some (.iload_n 1, 1, (0, 0, 0), 0, 0) := by decide +kernel
set_option maxRecDepth 100000 in
theorem zgi177_2 : zfetch 177 2 = some (.ishl, 1, (0, 0, 0), 0, 0) := by decide +kernel
set_option maxRecDepth 100000 in
theorem zgi177_3 : zfetch 177 3 = some (.istore_n 3, 1, (0, 0, 0), 0, 0) := by decide +kernel
set_option maxRecDepth 100000 in
theorem zgi177_4 : zfetch 177 4 = some (.iconst 0, 1, (0, 0, 0), 0, 0) := by decide +kernel
set_option maxRecDepth 100000 in
theorem zgi177_5 : zfetch 177 5 = some (.istore 4, 2, (0, 0, 0), 0, 0) := by decide +kernel
set_option maxRecDepth 100000 in
theorem zgi177_7 : zfetch 177 7 = some (.iload 4, 2, (0, 0, 0), 0, 0) := by decide +kernel
set_option maxRecDepth 100000 in
theorem zgi177_9 : zfetch 177 9 = some (.bipush 12, 2, (0, 0, 0), 12, 0) := by decide +kernel
set_option maxRecDepth 100000 in
theorem zgi177_11 : zfetch 177 11 = some (.if_icmp .ge 65, 3, (76, 0, 0), 0, 0) := by decide +kernel
set_option maxRecDepth 100000 in
theorem zgi177_14 : zfetch 177 14 = some (.iload_n 3, 1, (0, 0, 0), 0, 0) := by decide +kernel
set_option maxRecDepth 100000 in
theorem zgi177_15 : zfetch 177 15 = some (.iload_n 2, 1, (0, 0, 0), 0, 0) := by decide +kernel
set_option maxRecDepth 100000 in
theorem zgi177_16 : zfetch 177 16 = some (.ishr, 1, (0, 0, 0), 0, 0) := by decide +kernel
set_option maxRecDepth 100000 in
theorem zgi177_17 : zfetch 177 17 = some (.iconst 1, 1, (0, 0, 0), 1, 0) := by decide +kernel
set_option maxRecDepth 100000 in
theorem zgi177_18 : zfetch 177 18 = some (.iand, 1, (0, 0, 0), 0, 0) := by decide +kernel
set_option maxRecDepth 100000 in
theorem zgi177_19 : zfetch 177 19 = some (.ifCond .eq 6, 3, (25, 0, 0), 0, 0) := by decide +kernel
set_option maxRecDepth 100000 in
theorem zgi177_22 : zfetch 177 22 = some (.iload 4, 2, (0, 0, 0), 0, 0) := by decide +kernel
set_option maxRecDepth 100000 in
theorem zgi177_24 : zfetch 177 24 = some (.ireturn, 1, (0, 0, 0), 0, 0) := by decide +kernel
set_option maxRecDepth 100000 in
theorem zgi177_25 : zfetch 177 25 = some (.iload_n 3, 1, (0, 0, 0), 0, 0) := by decide +kernel
set_option maxRecDepth 100000 in
theorem zgi177_26 : zfetch 177 26 = some (.istore 5, 2, (0, 0, 0), 0, 0) := by decide +kernel
set_option maxRecDepth 100000 in
theorem zgi177_28 : zfetch 177 28 = some (.iconst 0, 1, (0, 0, 0), 0, 0) := by decide +kernel
set_option maxRecDepth 100000 in
theorem zgi177_29 : zfetch 177 29 = some (.istore 6, 2, (0, 0, 0), 0, 0) := by decide +kernel
set_option maxRecDepth 100000 in
theorem zgi177_76 : zfetch 177 76 = some (.iconst (-1), 1, (0, 0, 0), (-1), 0) := by decide +kernel
set_option maxRecDepth 100000 in
theorem zgi177_77 : zfetch 177 77 = some (.ireturn, 1, (0, 0, 0), 0, 0) := by decide +kernel
set_option maxRecDepth 100000 in
theorem zgi177_31 : zfetch 177 31 = some (.iload 6, 2, (0, 0, 0), 0, 0) := by decide +kernel
set_option maxRecDepth 100000 in
theorem zgi177_33 : zfetch 177 33 = some (.aload_n 0, 1, (0, 0, 0), 0, 0) := by decide +kernel
set_option maxRecDepth 100000 in
theorem zgi177_34 : zfetch 177 34 = some (.getfield 9, 3, (8, 0, 0), 0, 264) := by decide +kernel
set_option maxRecDepth 100000 in
theorem zgi177_37 : zfetch 177 37 = some (.if_icmp .ge 30, 3, (67, 0, 0), 0, 0) := by decide +kernel
set_option maxRecDepth 100000 in
theorem zgi177_40 : zfetch 177 40 = some (.iload_n 3, 1, (0, 0, 0), 0, 0) := by decide +kernel
set_option maxRecDepth 100000 in
theorem zgi177_41 : zfetch 177 41 = some (.iload 6, 2, (0, 0, 0), 0, 0) := by decide +kernel
set_option maxRecDepth 100000 in
theorem zgi177_43 : zfetch 177 43 = some (.ishr, 1, (0, 0, 0), 0, 0) := by decide +kernel
set_option maxRecDepth 100000 in
theorem zgi177_44 : zfetch 177 44 = some (.iconst 1, 1, (0, 0, 0), 1, 0) := by decide +kernel
set_option maxRecDepth 100000 in
theorem zgi177_45 : zfetch 177 45 = some (.iand, 1, (0, 0, 0), 0, 0) := by decide +kernel
set_option maxRecDepth 100000 in
theorem zgi177_46 : zfetch 177 46 = some (.ifCond .eq 15, 3, (61, 0, 0), 0, 0) := by decide +kernel
set_option maxRecDepth 100000 in
theorem zgi177_61 : zfetch 177 61 = some (.iinc 6 1, 3, (0, 0, 0), 1, 0) := by decide +kernel
set_option maxRecDepth 100000 in
theorem zgi177_64 : zfetch 177 64 = some (.goto (-33), 3, (31, 0, 0), 0, 0) := by decide +kernel
set_option maxRecDepth 100000 in
theorem zgi177_49 : zfetch 177 49 = some (.iload 5, 2, (0, 0, 0), 0, 0) := by decide +kernel
set_option maxRecDepth 100000 in
theorem zgi177_51 : zfetch 177 51 = some (.aload_n 0, 1, (0, 0, 0), 0, 0) := by decide +kernel
set_option maxRecDepth 100000 in
theorem zgi177_52 : zfetch 177 52 = some (.getfield 31, 3, (8, 6, 0), 0, 287) := by decide +kernel
set_option maxRecDepth 100000 in
theorem zgi177_55 : zfetch 177 55 = some (.iload 6, 2, (0, 0, 0), 0, 0) := by decide +kernel
set_option maxRecDepth 100000 in
theorem zgi177_57 : zfetch 177 57 = some (.iaload, 1, (0, 0, 0), 0, 0) := by decide +kernel
set_option maxRecDepth 100000 in
theorem zgi177_58 : zfetch 177 58 = some (.ior, 1, (0, 0, 0), 0, 0) := by decide +kernel
set_option maxRecDepth 100000 in
theorem zgi177_59 : zfetch 177 59 = some (.istore 5, 2, (0, 0, 0), 0, 0) := by decide +kernel
set_option maxRecDepth 100000 in
theorem zgi177_67 : zfetch 177 67 = some (.iload 5, 2, (0, 0, 0), 0, 0) := by decide +kernel
set_option maxRecDepth 100000 in
theorem zgi177_69 : zfetch 177 69 = some (.istore_n 3, 1, (0, 0, 0), 0, 0) := by decide +kernel
set_option maxRecDepth 100000 in
theorem zgi177_70 : zfetch 177 70 = some (.iinc 4 1, 3, (0, 0, 0), 1, 0) := by decide +kernel
set_option maxRecDepth 100000 in
theorem zgi177_73 : zfetch 177 73 = some (.goto (-66), 3, (7, 0, 0), 0, 0) := by decide +kernel
set_option maxRecDepth 100000 in
theorem zgi209_0 : zfetch 209 0 = some (.iload_n 0, 1, (0, 0, 0), 0, 0) := by decide +kernel
set_option maxRecDepth 100000 in
theorem zgi209_1 : zfetch 209 1 = some (.iload_n 1, 1, (0, 0, 0), 0, 0) := by decide +kernel
set_option maxRecDepth 100000 in
theorem zgi209_2 : zfetch 209 2 = some (.if_icmp .lt 12, 3, (14, 0, 0), 0, 0) := by decide +kernel
set_option maxRecDepth 100000 in
theorem zgi209_5 : zfetch 209 5 = some (.iload_n 0, 1, (0, 0, 0), 0, 0) := by decide +kernel
set_option maxRecDepth 100000 in
theorem zgi209_6 : zfetch 209 6 = some (.iload_n 2, 1, (0, 0, 0), 0, 0) := by decide +kernel
set_option maxRecDepth 100000 in
theorem zgi209_7 : zfetch 209 7 = some (.if_icmp .gt 7, 3, (14, 0, 0), 0, 0) := by decide +kernel
set_option maxRecDepth 100000 in
theorem zgi209_10 : zfetch 209 10 = some (.iconst 1, 1, (0, 0, 0), 1, 0) := by decide +kernel
set_option maxRecDepth 100000 in
theorem zgi209_11 : zfetch 209 11 = some (.goto 4, 3, (15, 0, 0), 0, 0) := by decide +kernel
set_option maxRecDepth 100000 in
theorem zgi209_15 : zfetch 209 15 = some (.ireturn, 1, (0, 0, 0), 0, 0) := by decide +kernel
set_option maxRecDepth 100000 in
theorem zgi209_14 : zfetch 209 14 = some (.iconst 0, 1, (0, 0, 0), 0, 0) := by decide +kernel
set_option maxRecDepth 100000 in
theorem zgi227_0 : zfetch 227 0 = some (.iload_n 1, 1, (0, 0, 0), 0, 0) := by decide +kernel
set_option maxRecDepth 100000 in
theorem zgi227_1 : zfetch 227 1 = some (.iconst 0, 1, (0, 0, 0), 0, 0) := by decide +kernel
set_option maxRecDepth 100000 in
theorem zgi227_2 : zfetch 227 2 = some (.aload_n 0, 1, (0, 0, 0), 0, 0) := by decide +kernel
set_option maxRecDepth 100000 in
theorem zgi227_3 : zfetch 227 3 = some (.invokevirtual 66, 3, (0, 216, 0), 0, 1742) := by decide +kernel
set_option maxRecDepth 100000 in
theorem zgi227_6 : zfetch 227 6 = some (.iconst 1, 1, (0, 0, 0), 1, 0) := by decide +kernel
set_option maxRecDepth 100000 in
theorem zgi227_7 : zfetch 227 7 = some (.isub, 1, (0, 0, 0), 0, 0) := by decide +kernel
set_option maxRecDepth 100000 in
theorem zgi227_8 : zfetch 227 8 = some (.invokestatic 70, 3, (0, 209, 0), 0, 1902) := by decide +kernel
set_option maxRecDepth 100000 in
theorem zgi227_11 : zfetch 227 11 = some (.ifCond .ne 7, 3, (18, 0, 0), 0, 0) := by decide +kernel
set_option maxRecDepth 100000 in
theorem zgi227_18 : zfetch 227 18 = some (.iconst 0, 1, (0, 0, 0), 0, 0) := by decide +kernel
set_option maxRecDepth 100000 in
theorem zgi227_19 : zfetch 227 19 = some (.ireturn, 1, (0, 0, 0), 0, 0) := by decide +kernel
set_option maxRecDepth 100000 in
theorem zgi227_14 : zfetch 227 14 = some (.iconst 1, 1, (0, 0, 0), 1, 0) := by decide +kernel
set_option maxRecDepth 100000 in
theorem zgi227_15 : zfetch 227 15 = some (.goto 4, 3, (19, 0, 0), 0, 0) := by decide +kernel
set_option maxRecDepth 100000 in
theorem zgi210_0 : zfetch 210 0 = some (.iload_n 0, 1, (0, 0, 0), 0, 0) := by decide +kernel
set_option maxRecDepth 100000 in
theorem zgi210_1 : zfetch 210 1 = some (.iload_n 1, 1, (0, 0, 0), 0, 0) := by decide +kernel
set_option maxRecDepth 100000 in
theorem zgi210_2 : zfetch 210 2 = some (.ishr, 1, (0, 0, 0), 0, 0) := by decide +kernel
set_option maxRecDepth 100000 in
theorem zgi210_3 : zfetch 210 3 = some (.iconst 1, 1, (0, 0, 0), 1, 0) := by decide +kernel
set_option maxRecDepth 100000 in
theorem zgi210_4 : zfetch 210 4 = some (.iand, 1, (0, 0, 0), 0, 0) := by decide +kernel
set_option maxRecDepth 100000 in
theorem zgi210_5 : zfetch 210 5 = some (.iconst 1, 1, (0, 0, 0), 1, 0) := by decide +kernel
set_option maxRecDepth 100000 in
theorem zgi210_6 : zfetch 210 6 = some (.if_icmp .ne 7, 3, (13, 0, 0), 0, 0) := by decide +kernel
set_option maxRecDepth 100000 in
theorem zgi210_9 : zfetch 210 9 = some (.iconst 1, 1, (0, 0, 0), 1, 0) := by decide +kernel
set_option maxRecDepth 100000 in
theorem zgi210_10 : zfetch 210 10 = some (.goto 4, 3, (14, 0, 0), 0, 0) := by decide +kernel
set_option maxRecDepth 100000 in
theorem zgi210_14 : zfetch 210 14 = some (.ireturn, 1, (0, 0, 0), 0, 0) := by decide +kernel
set_option maxRecDepth 100000 in
theorem zgi210_13 : zfetch 210 13 = some (.iconst 0, 1, (0, 0, 0), 0, 0) := by decide +kernel
set_option maxRecDepth 100000 in
theorem zgi271_0 : zfetch 271 0 = some (.iconst 0, 1, (0, 0, 0), 0, 0) := by decide +kernel
set_option maxRecDepth 100000 in
theorem zgi271_1 : zfetch 271 1 = some (.istore_n 2, 1, (0, 0, 0), 0, 0) := by decide +kernel
set_option maxRecDepth 100000 in
theorem zgi271_2 : zfetch 271 2 = some (.iconst 0, 1, (0, 0, 0), 0, 0) := by decide +kernel
set_option maxRecDepth 100000 in
theorem zgi271_3 : zfetch 271 3 = some (.istore_n 3, 1, (0, 0, 0), 0, 0) := by decide +kernel
set_option maxRecDepth 100000 in
theorem zgi271_4 : zfetch 271 4 = some (.iload_n 3, 1, (0, 0, 0), 0, 0) := by decide +kernel
set_option maxRecDepth 100000 in
theorem zgi271_5 : zfetch 271 5 = some (.aload_n 0, 1, (0, 0, 0), 0, 0) := by decide +kernel
set_option maxRecDepth 100000 in
theorem zgi271_6 : zfetch 271 6 = some (.invokevirtual 66, 3, (0, 216, 0), 0, 1742) := by decide +kernel
set_option maxRecDepth 100000 in
theorem zgi271_9 : zfetch 271 9 = some (.if_icmp .ge 28, 3, (37, 0, 0), 0, 0) := by decide +kernel
set_option maxRecDepth 100000 in
theorem zgi271_12 : zfetch 271 12 = some (.iload_n 2, 1, (0, 0, 0), 0, 0) := by decide +kernel
set_option maxRecDepth 100000 in
theorem zgi271_13 : zfetch 271 13 = some (.aload_n 0, 1, (0, 0, 0), 0, 0) := by decide +kernel
set_option maxRecDepth 100000 in
theorem zgi271_14 : zfetch 271 14 = some (.iload_n 1, 1, (0, 0, 0), 0, 0) := by decide +kernel
set_option maxRecDepth 100000 in
theorem zgi271_15 : zfetch 271 15 = some (.iload_n 3, 1, (0, 0, 0), 0, 0) := by decide +kernel
set_option maxRecDepth 100000 in
theorem zgi271_16 : zfetch 271 16 = some (.invokevirtual 143, 3, (0, 230, 0), 0, 1795) := by decide +kernel
set_option maxRecDepth 100000 in
theorem zgi271_19 : zfetch 271 19 = some (.ifCond .eq 9, 3, (28, 0, 0), 0, 0) := by decide +kernel
set_option maxRecDepth 100000 in
theorem zgi271_22 : zfetch 271 22 = some (.iconst 1, 1, (0, 0, 0), 1, 0) := by decide +kernel
set_option maxRecDepth 100000 in
theorem zgi271_23 : zfetch 271 23 = some (.iload_n 3, 1, (0, 0, 0), 0, 0) := by decide +kernel
set_option maxRecDepth 100000 in
theorem zgi271_24 : zfetch 271 24 = some (.ishl, 1, (0, 0, 0), 0, 0) := by decide +kernel
set_option maxRecDepth 100000 in
theorem zgi271_25 : zfetch 271 25 = some (.goto 4, 3, (29, 0, 0), 0, 0) := by decide +kernel
set_option maxRecDepth 100000 in
theorem zgi271_29 : zfetch 271 29 = some (.ior, 1, (0, 0, 0), 0, 0) := by decide +kernel
set_option maxRecDepth 100000 in
theorem zgi271_30 : zfetch 271 30 = some (.istore_n 2, 1, (0, 0, 0), 0, 0) := by decide +kernel
set_option maxRecDepth 100000 in
theorem zgi271_31 : zfetch 271 31 = some (.iinc 3 1, 3, (0, 0, 0), 1, 0) := by decide +kernel
set_option maxRecDepth 100000 in
theorem zgi271_34 : zfetch 271 34 = some (.goto (-30), 3, (4, 0, 0), 0, 0) := by decide +kernel
set_option maxRecDepth 100000 in
theorem zgi271_28 : zfetch 271 28 = some (.iconst 0, 1, (0, 0, 0), 0, 0) := by decide +kernel
set_option maxRecDepth 100000 in
theorem zgi271_37 : zfetch 271 37 = some (.iload_n 2, 1, (0, 0, 0), 0, 0) := by decide +kernel
set_option maxRecDepth 100000 in
theorem zgi271_38 : zfetch 271 38 = some (.ireturn, 1, (0, 0, 0), 0, 0) := by decide +kernel
set_option maxRecDepth 100000 in
theorem zgi326_0 : zfetch 326 0 = some (.aload_n 0, 1, (0, 0, 0), 0, 0) := by decide +kernel
set_option maxRecDepth 100000 in
theorem zgi326_1 : zfetch 326 1 = some (.iconst 0, 1, (0, 0, 0), 0, 0) := by decide +kernel
set_option maxRecDepth 100000 in
theorem zgi326_2 : zfetch 326 2 = some (.putfield 3, 3, (12, 0, 0), 0, 1617) := by decide +kernel
set_option maxRecDepth 100000 in
theorem zgi326_5 : zfetch 326 5 = some (.aload_n 0, 1, (0, 0, 0), 0, 0) := by decide +kernel
set_option maxRecDepth 100000 in
theorem zgi326_6 : zfetch 326 6 = some (.aload_n 0, 1, (0, 0, 0), 0, 0) := by decide +kernel
set_option maxRecDepth 100000 in
theorem zgi326_7 : zfetch 326 7 = some (.iload_n 1, 1, (0, 0, 0), 0, 0) := by decide +kernel
set_option maxRecDepth 100000 in
theorem zgi326_8 : zfetch 326 8 = some (.invokevirtual 288, 3, (0, 227, 0), 0, 1898) := by decide +kernel
set_option maxRecDepth 100000 in
theorem zgi326_11 : zfetch 326 11 = some (.ifCond .ne 11, 3, (22, 0, 0), 0, 0) := by decide +kernel
set_option maxRecDepth 100000 in
theorem zgi326_22 : zfetch 326 22 = some (.iconst 1, 1, (0, 0, 0), 1, 0) := by decide +kernel
set_option maxRecDepth 100000 in
theorem zgi326_23 : zfetch 326 23 = some (.goto 4, 3, (27, 0, 0), 0, 0) := by decide +kernel
set_option maxRecDepth 100000 in
theorem zgi326_27 : zfetch 326 27 = some (.iconst 1, 1, (0, 0, 0), 1, 0) := by decide +kernel
set_option maxRecDepth 100000 in
theorem zgi326_28 : zfetch 326 28 = some (.invokevirtual 272, 3, (0, 208, 0), 0, 1886) := by decide +kernel
set_option maxRecDepth 100000 in
theorem zgi326_31 : zfetch 326 31 = some (.ifCond .eq 5, 3, (36, 0, 0), 0, 0) := by decide +kernel
set_option maxRecDepth 100000 in
theorem zgi326_34 : zfetch 326 34 = some (.iconst 0, 1, (0, 0, 0), 0, 0) := by decide +kernel
set_option maxRecDepth 100000 in
theorem zgi326_35 : zfetch 326 35 = some (.ireturn, 1, (0, 0, 0), 0, 0) := by decide +kernel
set_option maxRecDepth 100000 in
theorem zgi326_14 : zfetch 326 14 = some (.aload_n 0, 1, (0, 0, 0), 0, 0) := by decide +kernel
set_option maxRecDepth 100000 in
theorem zgi326_15 : zfetch 326 15 = some (.iload_n 2, 1, (0, 0, 0), 0, 0) := by decide +kernel
set_option maxRecDepth 100000 in
theorem zgi326_16 : zfetch 326 16 = some (.invokevirtual 288, 3, (0, 227, 0), 0, 1898) := by decide +kernel
set_option maxRecDepth 100000 in
theorem zgi326_19 : zfetch 326 19 = some (.ifCond .eq 7, 3, (26, 0, 0), 0, 0) := by decide +kernel
set_option maxRecDepth 100000 in
theorem zgi326_26 : zfetch 326 26 = some (.iconst 0, 1, (0, 0, 0), 0, 0) := by decide +kernel
set_option maxRecDepth 100000 in
theorem zgi326_36 : zfetch 326 36 = some (.iconst 1, 1, (0, 0, 0), 1, 0) := by decide +kernel
set_option maxRecDepth 100000 in
theorem zgi326_37 : zfetch 326 37 = some (.iload_n 1, 1, (0, 0, 0), 0, 0) := by decide +kernel
set_option maxRecDepth 100000 in
theorem zgi326_38 : zfetch 326 38 = some (.ishl, 1, (0, 0, 0), 0, 0) := by decide +kernel
set_option maxRecDepth 100000 in
theorem zgi326_39 : zfetch 326 39 = some (.istore_n 3, 1, (0, 0, 0), 0, 0) := by decide +kernel
set_option maxRecDepth 100000 in
theorem zgi326_40 : zfetch 326 40 = some (.iconst 0, 1, (0, 0, 0), 0, 0) := by decide +kernel
set_option maxRecDepth 100000 in
theorem zgi326_41 : zfetch 326 41 = some (.istore 4, 2, (0, 0, 0), 0, 0) := by decide +kernel
set_option maxRecDepth 100000 in
theorem zgi326_43 : zfetch 326 43 = some (.iload 4, 2, (0, 0, 0), 0, 0) := by decide +kernel
set_option maxRecDepth 100000 in
theorem zgi326_45 : zfetch 326 45 = some (.aload_n 0, 1, (0, 0, 0), 0, 0) := by decide +kernel
set_option maxRecDepth 100000 in
theorem zgi326_46 : zfetch 326 46 = some (.invokevirtual 66, 3, (0, 216, 0), 0, 1742) := by decide +kernel
set_option maxRecDepth 100000 in
theorem zgi326_49 : zfetch 326 49 = some (.if_icmp .ge 68, 3, (117, 0, 0), 0, 0) := by decide +kernel
set_option maxRecDepth 100000 in
theorem zgi326_52 : zfetch 326 52 = some (.iload_n 3, 1, (0, 0, 0), 0, 0) := by decide +kernel
set_option maxRecDepth 100000 in
theorem zgi326_53 : zfetch 326 53 = some (.iload_n 2, 1, (0, 0, 0), 0, 0) := by decide +kernel
set_option maxRecDepth 100000 in
theorem zgi326_54 : zfetch 326 54 = some (.invokestatic 376, 3, (0, 210, 0), 0, 2092) := by decide +kernel
set_option maxRecDepth 100000 in
theorem zgi326_57 : zfetch 326 57 = some (.ifCond .eq 6, 3, (63, 0, 0), 0, 0) := by decide +kernel
set_option maxRecDepth 100000 in
theorem zgi326_60 : zfetch 326 60 = some (.iload 4, 2, (0, 0, 0), 0, 0) := by decide +kernel
set_option maxRecDepth 100000 in
theorem zgi326_62 : zfetch 326 62 = some (.ireturn, 1, (0, 0, 0), 0, 0) := by decide +kernel
set_option maxRecDepth 100000 in
theorem zgi326_63 : zfetch 326 63 = some (.iload_n 3, 1, (0, 0, 0), 0, 0) := by decide +kernel
set_option maxRecDepth 100000 in
theorem zgi326_64 : zfetch 326 64 = some (.istore 5, 2, (0, 0, 0), 0, 0) := by decide +kernel
set_option maxRecDepth 100000 in
theorem zgi326_66 : zfetch 326 66 = some (.iconst 0, 1, (0, 0, 0), 0, 0) := by decide +kernel
set_option maxRecDepth 100000 in
theorem zgi326_67 : zfetch 326 67 = some (.istore 6, 2, (0, 0, 0), 0, 0) := by decide +kernel
set_option maxRecDepth 100000 in
theorem zgi326_117 : zfetch 326 117 = some (.iconst (-1), 1, (0, 0, 0), (-1), 0) := by decide +kernel
set_option maxRecDepth 100000 in
theorem zgi326_118 : zfetch 326 118 = some (.ireturn, 1, (0, 0, 0), 0, 0) := by decide +kernel
set_option maxRecDepth 100000 in
theorem zgi326_69 : zfetch 326 69 = some (.iload 6, 2, (0, 0, 0), 0, 0) := by decide +kernel
set_option maxRecDepth 100000 in
theorem zgi326_71 : zfetch 326 71 = some (.aload_n 0, 1, (0, 0, 0), 0, 0) := by decide +kernel
set_option maxRecDepth 100000 in
theorem zgi326_72 : zfetch 326 72 = some (.invokevirtual 66, 3, (0, 216, 0), 0, 1742) := by decide +kernel
set_option maxRecDepth 100000 in
theorem zgi326_75 : zfetch 326 75 = some (.if_icmp .ge 33, 3, (108, 0, 0), 0, 0) := by decide +kernel
set_option maxRecDepth 100000 in
theorem zgi326_78 : zfetch 326 78 = some (.iload 5, 2, (0, 0, 0), 0, 0) := by decide +kernel
set_option maxRecDepth 100000 in
theorem zgi326_80 : zfetch 326 80 = some (.iload_n 3, 1, (0, 0, 0), 0, 0) := by decide +kernel
set_option maxRecDepth 100000 in
theorem zgi326_81 : zfetch 326 81 = some (.iload 6, 2, (0, 0, 0), 0, 0) := by decide +kernel
set_option maxRecDepth 100000 in
theorem zgi326_83 : zfetch 326 83 = some (.invokestatic 376, 3, (0, 210, 0), 0, 2092) := by decide +kernel
set_option maxRecDepth 100000 in
theorem zgi326_86 : zfetch 326 86 = some (.ifCond .eq 12, 3, (98, 0, 0), 0, 0) := by decide +kernel
set_option maxRecDepth 100000 in
theorem zgi326_89 : zfetch 326 89 = some (.aload_n 0, 1, (0, 0, 0), 0, 0) := by decide +kernel
set_option maxRecDepth 100000 in
theorem zgi326_90 : zfetch 326 90 = some (.iload 6, 2, (0, 0, 0), 0, 0) := by decide +kernel
set_option maxRecDepth 100000 in
theorem zgi326_92 : zfetch 326 92 = some (.invokevirtual 294, 3, (0, 271, 0), 0, 1921) := by decide +kernel
set_option maxRecDepth 100000 in
theorem zgi326_95 : zfetch 326 95 = some (.goto 4, 3, (99, 0, 0), 0, 0) := by decide +kernel
set_option maxRecDepth 100000 in
theorem zgi326_99 : zfetch 326 99 = some (.ior, 1, (0, 0, 0), 0, 0) := by decide +kernel
set_option maxRecDepth 100000 in
theorem zgi326_100 : zfetch 326 100 = some (.istore 5, 2, (0, 0, 0), 0, 0) := by decide +kernel
set_option maxRecDepth 100000 in
theorem zgi326_102 : zfetch 326 102 = some (.iinc 6 1, 3, (0, 0, 0), 1, 0) := by decide +kernel
set_option maxRecDepth 100000 in
theorem zgi326_105 : zfetch 326 105 = some (.goto (-36), 3, (69, 0, 0), 0, 0) := by decide +kernel
set_option maxRecDepth 100000 in
theorem zgi326_98 : zfetch 326 98 = some (.iconst 0, 1, (0, 0, 0), 0, 0) := by decide +kernel
set_option maxRecDepth 100000 in
theorem zgi326_108 : zfetch 326 108 = some (.iload 5, 2, (0, 0, 0), 0, 0) := by decide +kernel
set_option maxRecDepth 100000 in
theorem zgi326_110 : zfetch 326 110 = some (.istore_n 3, 1, (0, 0, 0), 0, 0) := by decide +kernel
set_option maxRecDepth 100000 in
theorem zgi326_111 : zfetch 326 111 = some (.iinc 4 1, 3, (0, 0, 0), 1, 0) := by decide +kernel
set_option maxRecDepth 100000 in
theorem zgi326_114 : zfetch 326 114 = some (.goto (-71), 3, (43, 0, 0), 0, 0) := by decide +kernel
set_option maxRecDepth 100000 in
theorem zni76 : zat zmi 76 = some (3, 3, 0, 11, 1, 0) := rfl
set_option maxRecDepth 100000 in
theorem zni87 : zat zmi 87 = some (2, 2, 0, 11, 0, 0) := rfl
set_option maxRecDepth 100000 in
theorem zni177 : zat zmi 177 = some (3, 7, 0, 8, 1, 0) := rfl
set_option maxRecDepth 100000 in
theorem zni208 : zat zmi 208 = some (3, 3, 0, 12, 2, 0) := rfl
set_option maxRecDepth 100000 in
theorem zni209 : zat zmi 209 = some (3, 3, 1, 12, 2, 0) := rfl
set_option maxRecDepth 100000 in
theorem zni210 : zat zmi 210 = some (2, 2, 1, 12, 2, 0) := rfl
set_option maxRecDepth 100000 in
theorem zni216 : zat zmi 216 = some (1, 1, 0, 12, 1, 0) := rfl
set_option maxRecDepth 100000 in
theorem zni227 : zat zmi 227 = some (2, 2, 0, 12, 2, 0) := rfl
set_option maxRecDepth 100000 in
theorem zni230 : zat zmi 230 = some (3, 7, 0, 12, 2, 0) := rfl
set_option maxRecDepth 100000 in
theorem zni271 : zat zmi 271 = some (2, 4, 0, 12, 1, 0) := rfl
set_option maxRecDepth 100000 in
theorem nr_0 {E : zE} {n d : Nat} {h : zH} {p : Int32} (h0 : 0 ≤ p.toInt) (h1 : p.toInt < (h.2.1 4 0).toInt) (a0 : zat h.1 0 = some (.inr (.inl (11, [some (some 1), some (some 3), some (some 18), some (some 25), some (some 27), some (some 30), some (some 53), some (some 62), some (some 76), none])))) (a3 : zat h.1 3 = some (.inr (.inl (2, [some (some 4), some (some 10), some (some 17)])))) (a4 : zat h.1 4 = some (.inr (.inl (8, [none, none, none, none, some (some 5), some (some 6), some (some 7), some (some 8), some (some 9)]))))  : zex E (n + 9) d 87 0 [some (.ref 0), some (.int p)] [] h = some (.inl none, h) :=
  ((yIn zgi87_0 rfl) : zex E (n + 9) d 87 0 [some (.ref 0), some (.int p)] [] h = zex E (n + 8) d 87 1 [some (.ref 0), some (.int p)] [.int p] h).trans (((zjlF zgi87_1 h0) : zex E (n + 8) d 87 1 [some (.ref 0), some (.int p)] [.int p] h = zex E (n + 7) d 87 4 [some (.ref 0), some (.int p)] [] h).trans (((yIn zgi87_4 rfl) : zex E (n + 7) d 87 4 [some (.ref 0), some (.int p)] [] h = zex E (n + 6) d 87 5 [some (.ref 0), some (.int p)] [.int p] h).trans (((yAn zgi87_5 rfl rfl) : zex E (n + 6) d 87 5 [some (.ref 0), some (.int p)] [.int p] h = zex E (n + 5) d 87 6 [some (.ref 0), some (.int p)] [.ref 0, .int p] h).trans (((zgx zgi87_6 a0 rfl) : zex E (n + 5) d 87 6 [some (.ref 0), some (.int p)] [.ref 0, .int p] h = zex E (n + 4) d 87 9 [some (.ref 0), some (.int p)] [.ref 3, .int p] h).trans (((zgx zgi87_9 a3 rfl) : zex E (n + 4) d 87 9 [some (.ref 0), some (.int p)] [.ref 3, .int p] h = zex E (n + 3) d 87 12 [some (.ref 0), some (.int p)] [.ref 4, .int p] h).trans (((zgi zgi87_12 a4 rfl) : zex E (n + 3) d 87 12 [some (.ref 0), some (.int p)] [.ref 4, .int p] h = zex E (n + 2) d 87 15 [some (.ref 0), some (.int p)] [.int (h.2.1 4 0), .int p] h).trans (((zklT zgi87_15 h1) : zex E (n + 2) d 87 15 [some (.ref 0), some (.int p)] [.int (h.2.1 4 0), .int p] h = zex E (n + 1) d 87 29 [some (.ref 0), some (.int p)] [] h).trans (((yRet0 zgi87_29 rfl) : zex E (n + 1) d 87 29 [some (.ref 0), some (.int p)] [] h = some (.inl none, h))))))))))
set_option maxRecDepth 100000 in
theorem nr_1 {E : zE} {n d : Nat} {h : zH} {p : Int32} (h0 : p.toInt < 0)   : zex E (n + 3) d 87 0 [some (.ref 0), some (.int p)] [] h = some (.inr 2, (h.1, h.2.1, h.2.2.1, h.2.2.2.1 + 1, h.2.2.2.2 + 6)) :=
  ((yIn zgi87_0 rfl) : zex E (n + 3) d 87 0 [some (.ref 0), some (.int p)] [] h = zex E (n + 2) d 87 1 [some (.ref 0), some (.int p)] [.int p] h).trans (((zjlT zgi87_1 h0) : zex E (n + 2) d 87 1 [some (.ref 0), some (.int p)] [.int p] h = zex E (n + 1) d 87 18 [some (.ref 0), some (.int p)] [] h).trans (((yNew zgi87_18) : zex E (n + 1) d 87 18 [some (.ref 0), some (.int p)] [] h = some (.inr 2, (h.1, h.2.1, h.2.2.1, h.2.2.2.1 + 1, h.2.2.2.2 + 6)))))
set_option maxRecDepth 100000 in
theorem nr_2 {E : zE} {n d : Nat} {h : zH} {p : Int32} (h0 : 0 ≤ p.toInt) (h1 : (h.2.1 4 0).toInt ≤ p.toInt) (a0 : zat h.1 0 = some (.inr (.inl (11, [some (some 1), some (some 3), some (some 18), some (some 25), some (some 27), some (some 30), some (some 53), some (some 62), some (some 76), none])))) (a3 : zat h.1 3 = some (.inr (.inl (2, [some (some 4), some (some 10), some (some 17)])))) (a4 : zat h.1 4 = some (.inr (.inl (8, [none, none, none, none, some (some 5), some (some 6), some (some 7), some (some 8), some (some 9)]))))  : zex E (n + 9) d 87 0 [some (.ref 0), some (.int p)] [] h = some (.inr 2, (h.1, h.2.1, h.2.2.1, h.2.2.2.1 + 1, h.2.2.2.2 + 6)) :=
  ((yIn zgi87_0 rfl) : zex E (n + 9) d 87 0 [some (.ref 0), some (.int p)] [] h = zex E (n + 8) d 87 1 [some (.ref 0), some (.int p)] [.int p] h).trans (((zjlF zgi87_1 h0) : zex E (n + 8) d 87 1 [some (.ref 0), some (.int p)] [.int p] h = zex E (n + 7) d 87 4 [some (.ref 0), some (.int p)] [] h).trans (((yIn zgi87_4 rfl) : zex E (n + 7) d 87 4 [some (.ref 0), some (.int p)] [] h = zex E (n + 6) d 87 5 [some (.ref 0), some (.int p)] [.int p] h).trans (((yAn zgi87_5 rfl rfl) : zex E (n + 6) d 87 5 [some (.ref 0), some (.int p)] [.int p] h = zex E (n + 5) d 87 6 [some (.ref 0), some (.int p)] [.ref 0, .int p] h).trans (((zgx zgi87_6 a0 rfl) : zex E (n + 5) d 87 6 [some (.ref 0), some (.int p)] [.ref 0, .int p] h = zex E (n + 4) d 87 9 [some (.ref 0), some (.int p)] [.ref 3, .int p] h).trans (((zgx zgi87_9 a3 rfl) : zex E (n + 4) d 87 9 [some (.ref 0), some (.int p)] [.ref 3, .int p] h = zex E (n + 3) d 87 12 [some (.ref 0), some (.int p)] [.ref 4, .int p] h).trans (((zgi zgi87_12 a4 rfl) : zex E (n + 3) d 87 12 [some (.ref 0), some (.int p)] [.ref 4, .int p] h = zex E (n + 2) d 87 15 [some (.ref 0), some (.int p)] [.int (h.2.1 4 0), .int p] h).trans (((zklF zgi87_15 h1) : zex E (n + 2) d 87 15 [some (.ref 0), some (.int p)] [.int (h.2.1 4 0), .int p] h = zex E (n + 1) d 87 18 [some (.ref 0), some (.int p)] [] h).trans (((yNew zgi87_18) : zex E (n + 1) d 87 18 [some (.ref 0), some (.int p)] [] h = some (.inr 2, (h.1, h.2.1, h.2.2.1, h.2.2.2.1 + 1, h.2.2.2.2 + 6)))))))))))
set_option maxRecDepth 100000 in
theorem ws_0 {E : zE} {n d : Nat} {h : zH} {a b z : Int32}  (a0 : zat h.1 0 = some (.inr (.inl (11, [some (some 1), some (some 3), some (some 18), some (some 25), some (some 27), some (some 30), some (some 53), some (some 62), some (some 76), none])))) (a3 : zat h.1 3 = some (.inr (.inl (2, [some (some 4), some (some 10), some (some 17)])))) (a4 : zat h.1 4 = some (.inr (.inl (8, [none, none, none, none, some (some 5), some (some 6), some (some 7), some (some 8), some (some 9)])))) (e1 : zex E (n + 10) d 87 0 [some (.ref 0), some (.int a)] [] h = some (.inl none, h)) (e2 : zex E (n + 7) d 87 0 [some (.ref 0), some (.int b)] [] h = some (.inl none, h)) (e3 : zex E (n + 1) d 177 0 [some (.ref 4), some (.int a), some (.int b), none, none, none, none] [] h = some (.inl (some (.int z)), h)) : zex E (n + 13) (d + 1) 76 0 [some (.ref 0), some (.int a), some (.int b)] [] h = some (.inl (some (.int z)), h) :=
  ((yAn zgi76_0 rfl rfl) : zex E (n + 13) (d + 1) 76 0 [some (.ref 0), some (.int a), some (.int b)] [] h = zex E (n + 12) (d + 1) 76 1 [some (.ref 0), some (.int a), some (.int b)] [.ref 0] h).trans (((yIn zgi76_1 rfl) : zex E (n + 12) (d + 1) 76 1 [some (.ref 0), some (.int a), some (.int b)] [.ref 0] h = zex E (n + 11) (d + 1) 76 2 [some (.ref 0), some (.int a), some (.int b)] [.int a, .ref 0] h).trans (((zcvg (v := none) (h := h) (as := [.int a]) (r := []) zgi76_2 zni87 rfl a0 rfl e1) : zex E (n + 11) (d + 1) 76 2 [some (.ref 0), some (.int a), some (.int b)] [.int a, .ref 0] h = zex E (n + 10) (d + 1) 76 5 [some (.ref 0), some (.int a), some (.int b)] [] h).trans (((yAn zgi76_5 rfl rfl) : zex E (n + 10) (d + 1) 76 5 [some (.ref 0), some (.int a), some (.int b)] [] h = zex E (n + 9) (d + 1) 76 6 [some (.ref 0), some (.int a), some (.int b)] [.ref 0] h).trans (((yIn zgi76_6 rfl) : zex E (n + 9) (d + 1) 76 6 [some (.ref 0), some (.int a), some (.int b)] [.ref 0] h = zex E (n + 8) (d + 1) 76 7 [some (.ref 0), some (.int a), some (.int b)] [.int b, .ref 0] h).trans (((zcvg (v := none) (h := h) (as := [.int b]) (r := []) zgi76_7 zni87 rfl a0 rfl e2) : zex E (n + 8) (d + 1) 76 7 [some (.ref 0), some (.int a), some (.int b)] [.int b, .ref 0] h = zex E (n + 7) (d + 1) 76 10 [some (.ref 0), some (.int a), some (.int b)] [] h).trans (((yAn zgi76_10 rfl rfl) : zex E (n + 7) (d + 1) 76 10 [some (.ref 0), some (.int a), some (.int b)] [] h = zex E (n + 6) (d + 1) 76 11 [some (.ref 0), some (.int a), some (.int b)] [.ref 0] h).trans (((zgx zgi76_11 a0 rfl) : zex E (n + 6) (d + 1) 76 11 [some (.ref 0), some (.int a), some (.int b)] [.ref 0] h = zex E (n + 5) (d + 1) 76 14 [some (.ref 0), some (.int a), some (.int b)] [.ref 3] h).trans (((zgx zgi76_14 a3 rfl) : zex E (n + 5) (d + 1) 76 14 [some (.ref 0), some (.int a), some (.int b)] [.ref 3] h = zex E (n + 4) (d + 1) 76 17 [some (.ref 0), some (.int a), some (.int b)] [.ref 4] h).trans (((yIn zgi76_17 rfl) : zex E (n + 4) (d + 1) 76 17 [some (.ref 0), some (.int a), some (.int b)] [.ref 4] h = zex E (n + 3) (d + 1) 76 18 [some (.ref 0), some (.int a), some (.int b)] [.int a, .ref 4] h).trans (((yIn zgi76_18 rfl) : zex E (n + 3) (d + 1) 76 18 [some (.ref 0), some (.int a), some (.int b)] [.int a, .ref 4] h = zex E (n + 2) (d + 1) 76 19 [some (.ref 0), some (.int a), some (.int b)] [.int b, .int a, .ref 4] h).trans (((zcvg (h := h) (as := [.int a, .int b]) (r := []) zgi76_19 zni177 rfl a4 rfl e3) : zex E (n + 2) (d + 1) 76 19 [some (.ref 0), some (.int a), some (.int b)] [.int b, .int a, .ref 4] h = zex E (n + 1) (d + 1) 76 22 [some (.ref 0), some (.int a), some (.int b)] [.int z] h).trans (((yRet1 zgi76_22 rfl) : zex E (n + 1) (d + 1) 76 22 [some (.ref 0), some (.int a), some (.int b)] [.int z] h = some (.inl (some (.int z)), h))))))))))))))
set_option maxRecDepth 100000 in
theorem ws_1 {E : zE} {n d : Nat} {h h1 : zH} {a b : Int32}  (a0 : zat h.1 0 = some (.inr (.inl (11, [some (some 1), some (some 3), some (some 18), some (some 25), some (some 27), some (some 30), some (some 53), some (some 62), some (some 76), none])))) (e1 : zex E n d 87 0 [some (.ref 0), some (.int a)] [] h = some (.inr 2, h1)) : zex E (n + 3) (d + 1) 76 0 [some (.ref 0), some (.int a), some (.int b)] [] h = some (.inr 2, h1) :=
  ((yAn zgi76_0 rfl rfl) : zex E (n + 3) (d + 1) 76 0 [some (.ref 0), some (.int a), some (.int b)] [] h = zex E (n + 2) (d + 1) 76 1 [some (.ref 0), some (.int a), some (.int b)] [.ref 0] h).trans (((yIn zgi76_1 rfl) : zex E (n + 2) (d + 1) 76 1 [some (.ref 0), some (.int a), some (.int b)] [.ref 0] h = zex E (n + 1) (d + 1) 76 2 [some (.ref 0), some (.int a), some (.int b)] [.int a, .ref 0] h).trans (((zcvp (h := h) (as := [.int a]) (r := []) zgi76_2 zni87 rfl a0 rfl rfl (Or.inl rfl) e1) : zex E (n + 1) (d + 1) 76 2 [some (.ref 0), some (.int a), some (.int b)] [.int a, .ref 0] h = some (.inr 2, h1))))
set_option maxRecDepth 100000 in
theorem ws_2 {E : zE} {n d : Nat} {h h1 : zH} {a b : Int32}  (a0 : zat h.1 0 = some (.inr (.inl (11, [some (some 1), some (some 3), some (some 18), some (some 25), some (some 27), some (some 30), some (some 53), some (some 62), some (some 76), none])))) (e1 : zex E (n + 3) d 87 0 [some (.ref 0), some (.int a)] [] h = some (.inl none, h)) (e2 : zex E n d 87 0 [some (.ref 0), some (.int b)] [] h = some (.inr 2, h1)) : zex E (n + 6) (d + 1) 76 0 [some (.ref 0), some (.int a), some (.int b)] [] h = some (.inr 2, h1) :=
  ((yAn zgi76_0 rfl rfl) : zex E (n + 6) (d + 1) 76 0 [some (.ref 0), some (.int a), some (.int b)] [] h = zex E (n + 5) (d + 1) 76 1 [some (.ref 0), some (.int a), some (.int b)] [.ref 0] h).trans (((yIn zgi76_1 rfl) : zex E (n + 5) (d + 1) 76 1 [some (.ref 0), some (.int a), some (.int b)] [.ref 0] h = zex E (n + 4) (d + 1) 76 2 [some (.ref 0), some (.int a), some (.int b)] [.int a, .ref 0] h).trans (((zcvg (v := none) (h := h) (as := [.int a]) (r := []) zgi76_2 zni87 rfl a0 rfl e1) : zex E (n + 4) (d + 1) 76 2 [some (.ref 0), some (.int a), some (.int b)] [.int a, .ref 0] h = zex E (n + 3) (d + 1) 76 5 [some (.ref 0), some (.int a), some (.int b)] [] h).trans (((yAn zgi76_5 rfl rfl) : zex E (n + 3) (d + 1) 76 5 [some (.ref 0), some (.int a), some (.int b)] [] h = zex E (n + 2) (d + 1) 76 6 [some (.ref 0), some (.int a), some (.int b)] [.ref 0] h).trans (((yIn zgi76_6 rfl) : zex E (n + 2) (d + 1) 76 6 [some (.ref 0), some (.int a), some (.int b)] [.ref 0] h = zex E (n + 1) (d + 1) 76 7 [some (.ref 0), some (.int a), some (.int b)] [.int b, .ref 0] h).trans (((zcvp (h := h) (as := [.int b]) (r := []) zgi76_7 zni87 rfl a0 rfl rfl (Or.inl rfl) e2) : zex E (n + 1) (d + 1) 76 7 [some (.ref 0), some (.int a), some (.int b)] [.int b, .ref 0] h = some (.inr 2, h1)))))))
set_option maxRecDepth 100000 in
theorem wv_0 {E : zE} {n d : Nat} {h : zH} {a b z : Int32} {u4 : Option Value}  (a0 : zat h.1 0 = some (.inr (.inl (11, [some (some 1), some (some 3), some (some 18), some (some 25), some (some 27), some (some 30), some (some 53), some (some 62), some (some 76), none])))) (a94 : zat h.1 94 = some (.inl (2, 1, []))) (e1 : zex E (n + 5) d 76 0 [some (.ref 0), some (.int a), some (.int b)] [] h = some (.inl (some (.int z)), h)) : zex E (n + 11) (d + 1) 33 0 [some (.ref 0), some (.int a), some (.int b), some (.ref 94), u4] [] h = some (.inl (some (.int 0)), (zsetJ h 94 (vp_updL (h.2.2.1 94) 0 ((z).toInt64)))) :=
  ((yAn zgi33_0 rfl rfl) : zex E (n + 11) (d + 1) 33 0 [some (.ref 0), some (.int a), some (.int b), some (.ref 94), u4] [] h = zex E (n + 10) (d + 1) 33 1 [some (.ref 0), some (.int a), some (.int b), some (.ref 94), u4] [.ref 94] h).trans (((yCi zgi33_1) : zex E (n + 10) (d + 1) 33 1 [some (.ref 0), some (.int a), some (.int b), some (.ref 94), u4] [.ref 94] h = zex E (n + 9) (d + 1) 33 2 [some (.ref 0), some (.int a), some (.int b), some (.ref 94), u4] [.int 0, .ref 94] h).trans (((yAn zgi33_2 rfl rfl) : zex E (n + 9) (d + 1) 33 2 [some (.ref 0), some (.int a), some (.int b), some (.ref 94), u4] [.int 0, .ref 94] h = zex E (n + 8) (d + 1) 33 3 [some (.ref 0), some (.int a), some (.int b), some (.ref 94), u4] [.ref 0, .int 0, .ref 94] h).trans (((yIn zgi33_3 rfl) : zex E (n + 8) (d + 1) 33 3 [some (.ref 0), some (.int a), some (.int b), some (.ref 94), u4] [.ref 0, .int 0, .ref 94] h = zex E (n + 7) (d + 1) 33 4 [some (.ref 0), some (.int a), some (.int b), some (.ref 94), u4] [.int a, .ref 0, .int 0, .ref 94] h).trans (((yIn zgi33_4 rfl) : zex E (n + 7) (d + 1) 33 4 [some (.ref 0), some (.int a), some (.int b), some (.ref 94), u4] [.int a, .ref 0, .int 0, .ref 94] h = zex E (n + 6) (d + 1) 33 5 [some (.ref 0), some (.int a), some (.int b), some (.ref 94), u4] [.int b, .int a, .ref 0, .int 0, .ref 94] h).trans (((zcvg (h := h) (as := [.int a, .int b]) (r := [.int 0, .ref 94]) zgi33_5 zni76 rfl a0 rfl e1) : zex E (n + 6) (d + 1) 33 5 [some (.ref 0), some (.int a), some (.int b), some (.ref 94), u4] [.int b, .int a, .ref 0, .int 0, .ref 94] h = zex E (n + 5) (d + 1) 33 8 [some (.ref 0), some (.int a), some (.int b), some (.ref 94), u4] [.int z, .int 0, .ref 94] h).trans (((yI2l zgi33_8) : zex E (n + 5) (d + 1) 33 8 [some (.ref 0), some (.int a), some (.int b), some (.ref 94), u4] [.int z, .int 0, .ref 94] h = zex E (n + 4) (d + 1) 33 9 [some (.ref 0), some (.int a), some (.int b), some (.ref 94), u4] [.long (z).toInt64, .int 0, .ref 94] h).trans (((zsj zgi33_9 a94 (zi0 : (0 : Int32).toInt = ((0 : Nat) : Int)) (by decide)) : zex E (n + 4) (d + 1) 33 9 [some (.ref 0), some (.int a), some (.int b), some (.ref 94), u4] [.long (z).toInt64, .int 0, .ref 94] h = zex E (n + 3) (d + 1) 33 10 [some (.ref 0), some (.int a), some (.int b), some (.ref 94), u4] [] (zsetJ h 94 (vp_updL (h.2.2.1 94) 0 ((z).toInt64)))).trans (((yGo zgi33_10) : zex E (n + 3) (d + 1) 33 10 [some (.ref 0), some (.int a), some (.int b), some (.ref 94), u4] [] (zsetJ h 94 (vp_updL (h.2.2.1 94) 0 ((z).toInt64))) = zex E (n + 2) (d + 1) 33 17 [some (.ref 0), some (.int a), some (.int b), some (.ref 94), u4] [] (zsetJ h 94 (vp_updL (h.2.2.1 94) 0 ((z).toInt64)))).trans (((yCi zgi33_17) : zex E (n + 2) (d + 1) 33 17 [some (.ref 0), some (.int a), some (.int b), some (.ref 94), u4] [] (zsetJ h 94 (vp_updL (h.2.2.1 94) 0 ((z).toInt64))) = zex E (n + 1) (d + 1) 33 18 [some (.ref 0), some (.int a), some (.int b), some (.ref 94), u4] [.int 0] (zsetJ h 94 (vp_updL (h.2.2.1 94) 0 ((z).toInt64)))).trans (((yRet1 zgi33_18 rfl) : zex E (n + 1) (d + 1) 33 18 [some (.ref 0), some (.int a), some (.int b), some (.ref 94), u4] [.int 0] (zsetJ h 94 (vp_updL (h.2.2.1 94) 0 ((z).toInt64))) = some (.inl (some (.int 0)), (zsetJ h 94 (vp_updL (h.2.2.1 94) 0 ((z).toInt64)))))))))))))))
set_option maxRecDepth 100000 in
theorem wv_1 {E : zE} {n d : Nat} {h h1 : zH} {a b : Int32} {u4 : Option Value}  (a0 : zat h.1 0 = some (.inr (.inl (11, [some (some 1), some (some 3), some (some 18), some (some 25), some (some 27), some (some 30), some (some 53), some (some 62), some (some 76), none])))) (e1 : zex E (n + 3) d 76 0 [some (.ref 0), some (.int a), some (.int b)] [] h = some (.inr 2, h1)) : zex E (n + 9) (d + 1) 33 0 [some (.ref 0), some (.int a), some (.int b), some (.ref 94), u4] [] h = some (.inl (some (.int 1)), h1) :=
  ((yAn zgi33_0 rfl rfl) : zex E (n + 9) (d + 1) 33 0 [some (.ref 0), some (.int a), some (.int b), some (.ref 94), u4] [] h = zex E (n + 8) (d + 1) 33 1 [some (.ref 0), some (.int a), some (.int b), some (.ref 94), u4] [.ref 94] h).trans (((yCi zgi33_1) : zex E (n + 8) (d + 1) 33 1 [some (.ref 0), some (.int a), some (.int b), some (.ref 94), u4] [.ref 94] h = zex E (n + 7) (d + 1) 33 2 [some (.ref 0), some (.int a), some (.int b), some (.ref 94), u4] [.int 0, .ref 94] h).trans (((yAn zgi33_2 rfl rfl) : zex E (n + 7) (d + 1) 33 2 [some (.ref 0), some (.int a), some (.int b), some (.ref 94), u4] [.int 0, .ref 94] h = zex E (n + 6) (d + 1) 33 3 [some (.ref 0), some (.int a), some (.int b), some (.ref 94), u4] [.ref 0, .int 0, .ref 94] h).trans (((yIn zgi33_3 rfl) : zex E (n + 6) (d + 1) 33 3 [some (.ref 0), some (.int a), some (.int b), some (.ref 94), u4] [.ref 0, .int 0, .ref 94] h = zex E (n + 5) (d + 1) 33 4 [some (.ref 0), some (.int a), some (.int b), some (.ref 94), u4] [.int a, .ref 0, .int 0, .ref 94] h).trans (((yIn zgi33_4 rfl) : zex E (n + 5) (d + 1) 33 4 [some (.ref 0), some (.int a), some (.int b), some (.ref 94), u4] [.int a, .ref 0, .int 0, .ref 94] h = zex E (n + 4) (d + 1) 33 5 [some (.ref 0), some (.int a), some (.int b), some (.ref 94), u4] [.int b, .int a, .ref 0, .int 0, .ref 94] h).trans (((zcvt (h := h) (as := [.int a, .int b]) (r := [.int 0, .ref 94]) zgi33_5 zni76 rfl a0 rfl rfl rfl rfl e1) : zex E (n + 4) (d + 1) 33 5 [some (.ref 0), some (.int a), some (.int b), some (.ref 94), u4] [.int b, .int a, .ref 0, .int 0, .ref 94] h = zex E (n + 3) (d + 1) 33 13 [some (.ref 0), some (.int a), some (.int b), some (.ref 94), u4] [.double 0] h1).trans (((yDd zgi33_13) : zex E (n + 3) (d + 1) 33 13 [some (.ref 0), some (.int a), some (.int b), some (.ref 94), u4] [.double 0] h1 = zex E (n + 2) (d + 1) 33 15 [some (.ref 0), some (.int a), some (.int b), some (.ref 94), some (.double 0)] [] h1).trans (((yCi zgi33_15) : zex E (n + 2) (d + 1) 33 15 [some (.ref 0), some (.int a), some (.int b), some (.ref 94), some (.double 0)] [] h1 = zex E (n + 1) (d + 1) 33 16 [some (.ref 0), some (.int a), some (.int b), some (.ref 94), some (.double 0)] [.int 1] h1).trans (((yRet1 zgi33_16 rfl) : zex E (n + 1) (d + 1) 33 16 [some (.ref 0), some (.int a), some (.int b), some (.ref 94), some (.double 0)] [.int 1] h1 = some (.inl (some (.int 1)), h1))))))))))
set_option maxRecDepth 100000 in
theorem fd_0 {E : zE} {n d : Nat} {h : zH} {a b : Int32} {u3 u4 u5 u6 : Option Value}    : zex E (n + 6) d 177 0 [some (.ref 4), some (.int a), some (.int b), u3, u4, u5, u6] [] h = zex E n d 177 7 [some (.ref 4), some (.int a), some (.int b), some (.int ((1 : Int32) <<< (a &&& 31))), some (.int 0), u5, u6] [] h :=
  ((yCi zgi177_0) : zex E (n + 6) d 177 0 [some (.ref 4), some (.int a), some (.int b), u3, u4, u5, u6] [] h = zex E (n + 5) d 177 1 [some (.ref 4), some (.int a), some (.int b), u3, u4, u5, u6] [.int 1] h).trans (((yIn zgi177_1 rfl) : zex E (n + 5) d 177 1 [some (.ref 4), some (.int a), some (.int b), u3, u4, u5, u6] [.int 1] h = zex E (n + 4) d 177 2 [some (.ref 4), some (.int a), some (.int b), u3, u4, u5, u6] [.int a, .int 1] h).trans (((yShl zgi177_2) : zex E (n + 4) d 177 2 [some (.ref 4), some (.int a), some (.int b), u3, u4, u5, u6] [.int a, .int 1] h = zex E (n + 3) d 177 3 [some (.ref 4), some (.int a), some (.int b), u3, u4, u5, u6] [.int ((1 : Int32) <<< (a &&& 31))] h).trans (((ySn zgi177_3) : zex E (n + 3) d 177 3 [some (.ref 4), some (.int a), some (.int b), u3, u4, u5, u6] [.int ((1 : Int32) <<< (a &&& 31))] h = zex E (n + 2) d 177 4 [some (.ref 4), some (.int a), some (.int b), some (.int ((1 : Int32) <<< (a &&& 31))), u4, u5, u6] [] h).trans (((yCi zgi177_4) : zex E (n + 2) d 177 4 [some (.ref 4), some (.int a), some (.int b), some (.int ((1 : Int32) <<< (a &&& 31))), u4, u5, u6] [] h = zex E (n + 1) d 177 5 [some (.ref 4), some (.int a), some (.int b), some (.int ((1 : Int32) <<< (a &&& 31))), u4, u5, u6] [.int 0] h).trans (((yS zgi177_5) : zex E (n + 1) d 177 5 [some (.ref 4), some (.int a), some (.int b), some (.int ((1 : Int32) <<< (a &&& 31))), u4, u5, u6] [.int 0] h = zex E n d 177 7 [some (.ref 4), some (.int a), some (.int b), some (.int ((1 : Int32) <<< (a &&& 31))), some (.int 0), u5, u6] [] h))))))
set_option maxRecDepth 100000 in
theorem fd_1 {E : zE} {n d : Nat} {h : zH} {a b s n9 : Int32} {u5 u6 : Option Value} (hn : n9.toInt < (12 : Int32).toInt) (hb : ((s >>> (b &&& 31)) &&& 1).toInt ≠ 0)   : zex E (n + 11) d 177 7 [some (.ref 4), some (.int a), some (.int b), some (.int s), some (.int n9), u5, u6] [] h = some (.inl (some (.int n9)), h) :=
  ((yI zgi177_7 rfl) : zex E (n + 11) d 177 7 [some (.ref 4), some (.int a), some (.int b), some (.int s), some (.int n9), u5, u6] [] h = zex E (n + 10) d 177 9 [some (.ref 4), some (.int a), some (.int b), some (.int s), some (.int n9), u5, u6] [.int n9] h).trans (((yCb zgi177_9) : zex E (n + 10) d 177 9 [some (.ref 4), some (.int a), some (.int b), some (.int s), some (.int n9), u5, u6] [.int n9] h = zex E (n + 9) d 177 11 [some (.ref 4), some (.int a), some (.int b), some (.int s), some (.int n9), u5, u6] [.int 12, .int n9] h).trans (((zkgF zgi177_11 hn) : zex E (n + 9) d 177 11 [some (.ref 4), some (.int a), some (.int b), some (.int s), some (.int n9), u5, u6] [.int 12, .int n9] h = zex E (n + 8) d 177 14 [some (.ref 4), some (.int a), some (.int b), some (.int s), some (.int n9), u5, u6] [] h).trans (((yIn zgi177_14 rfl) : zex E (n + 8) d 177 14 [some (.ref 4), some (.int a), some (.int b), some (.int s), some (.int n9), u5, u6] [] h = zex E (n + 7) d 177 15 [some (.ref 4), some (.int a), some (.int b), some (.int s), some (.int n9), u5, u6] [.int s] h).trans (((yIn zgi177_15 rfl) : zex E (n + 7) d 177 15 [some (.ref 4), some (.int a), some (.int b), some (.int s), some (.int n9), u5, u6] [.int s] h = zex E (n + 6) d 177 16 [some (.ref 4), some (.int a), some (.int b), some (.int s), some (.int n9), u5, u6] [.int b, .int s] h).trans (((yShr zgi177_16) : zex E (n + 6) d 177 16 [some (.ref 4), some (.int a), some (.int b), some (.int s), some (.int n9), u5, u6] [.int b, .int s] h = zex E (n + 5) d 177 17 [some (.ref 4), some (.int a), some (.int b), some (.int s), some (.int n9), u5, u6] [.int (s >>> (b &&& 31))] h).trans (((yCi zgi177_17) : zex E (n + 5) d 177 17 [some (.ref 4), some (.int a), some (.int b), some (.int s), some (.int n9), u5, u6] [.int (s >>> (b &&& 31))] h = zex E (n + 4) d 177 18 [some (.ref 4), some (.int a), some (.int b), some (.int s), some (.int n9), u5, u6] [.int 1, .int (s >>> (b &&& 31))] h).trans (((yAnd zgi177_18) : zex E (n + 4) d 177 18 [some (.ref 4), some (.int a), some (.int b), some (.int s), some (.int n9), u5, u6] [.int 1, .int (s >>> (b &&& 31))] h = zex E (n + 3) d 177 19 [some (.ref 4), some (.int a), some (.int b), some (.int s), some (.int n9), u5, u6] [.int ((s >>> (b &&& 31)) &&& 1)] h).trans (((zjeF zgi177_19 hb) : zex E (n + 3) d 177 19 [some (.ref 4), some (.int a), some (.int b), some (.int s), some (.int n9), u5, u6] [.int ((s >>> (b &&& 31)) &&& 1)] h = zex E (n + 2) d 177 22 [some (.ref 4), some (.int a), some (.int b), some (.int s), some (.int n9), u5, u6] [] h).trans (((yI zgi177_22 rfl) : zex E (n + 2) d 177 22 [some (.ref 4), some (.int a), some (.int b), some (.int s), some (.int n9), u5, u6] [] h = zex E (n + 1) d 177 24 [some (.ref 4), some (.int a), some (.int b), some (.int s), some (.int n9), u5, u6] [.int n9] h).trans (((yRet1 zgi177_24 rfl) : zex E (n + 1) d 177 24 [some (.ref 4), some (.int a), some (.int b), some (.int s), some (.int n9), u5, u6] [.int n9] h = some (.inl (some (.int n9)), h))))))))))))
set_option maxRecDepth 100000 in
theorem fd_2 {E : zE} {n d : Nat} {h : zH} {a b s n9 : Int32} {u5 u6 : Option Value} (hn : n9.toInt < (12 : Int32).toInt) (hb : ((s >>> (b &&& 31)) &&& 1).toInt = 0)   : zex E (n + 13) d 177 7 [some (.ref 4), some (.int a), some (.int b), some (.int s), some (.int n9), u5, u6] [] h = zex E n d 177 31 [some (.ref 4), some (.int a), some (.int b), some (.int s), some (.int n9), some (.int s), some (.int 0)] [] h :=
  ((yI zgi177_7 rfl) : zex E (n + 13) d 177 7 [some (.ref 4), some (.int a), some (.int b), some (.int s), some (.int n9), u5, u6] [] h = zex E (n + 12) d 177 9 [some (.ref 4), some (.int a), some (.int b), some (.int s), some (.int n9), u5, u6] [.int n9] h).trans (((yCb zgi177_9) : zex E (n + 12) d 177 9 [some (.ref 4), some (.int a), some (.int b), some (.int s), some (.int n9), u5, u6] [.int n9] h = zex E (n + 11) d 177 11 [some (.ref 4), some (.int a), some (.int b), some (.int s), some (.int n9), u5, u6] [.int 12, .int n9] h).trans (((zkgF zgi177_11 hn) : zex E (n + 11) d 177 11 [some (.ref 4), some (.int a), some (.int b), some (.int s), some (.int n9), u5, u6] [.int 12, .int n9] h = zex E (n + 10) d 177 14 [some (.ref 4), some (.int a), some (.int b), some (.int s), some (.int n9), u5, u6] [] h).trans (((yIn zgi177_14 rfl) : zex E (n + 10) d 177 14 [some (.ref 4), some (.int a), some (.int b), some (.int s), some (.int n9), u5, u6] [] h = zex E (n + 9) d 177 15 [some (.ref 4), some (.int a), some (.int b), some (.int s), some (.int n9), u5, u6] [.int s] h).trans (((yIn zgi177_15 rfl) : zex E (n + 9) d 177 15 [some (.ref 4), some (.int a), some (.int b), some (.int s), some (.int n9), u5, u6] [.int s] h = zex E (n + 8) d 177 16 [some (.ref 4), some (.int a), some (.int b), some (.int s), some (.int n9), u5, u6] [.int b, .int s] h).trans (((yShr zgi177_16) : zex E (n + 8) d 177 16 [some (.ref 4), some (.int a), some (.int b), some (.int s), some (.int n9), u5, u6] [.int b, .int s] h = zex E (n + 7) d 177 17 [some (.ref 4), some (.int a), some (.int b), some (.int s), some (.int n9), u5, u6] [.int (s >>> (b &&& 31))] h).trans (((yCi zgi177_17) : zex E (n + 7) d 177 17 [some (.ref 4), some (.int a), some (.int b), some (.int s), some (.int n9), u5, u6] [.int (s >>> (b &&& 31))] h = zex E (n + 6) d 177 18 [some (.ref 4), some (.int a), some (.int b), some (.int s), some (.int n9), u5, u6] [.int 1, .int (s >>> (b &&& 31))] h).trans (((yAnd zgi177_18) : zex E (n + 6) d 177 18 [some (.ref 4), some (.int a), some (.int b), some (.int s), some (.int n9), u5, u6] [.int 1, .int (s >>> (b &&& 31))] h = zex E (n + 5) d 177 19 [some (.ref 4), some (.int a), some (.int b), some (.int s), some (.int n9), u5, u6] [.int ((s >>> (b &&& 31)) &&& 1)] h).trans (((zjeT zgi177_19 hb) : zex E (n + 5) d 177 19 [some (.ref 4), some (.int a), some (.int b), some (.int s), some (.int n9), u5, u6] [.int ((s >>> (b &&& 31)) &&& 1)] h = zex E (n + 4) d 177 25 [some (.ref 4), some (.int a), some (.int b), some (.int s), some (.int n9), u5, u6] [] h).trans (((yIn zgi177_25 rfl) : zex E (n + 4) d 177 25 [some (.ref 4), some (.int a), some (.int b), some (.int s), some (.int n9), u5, u6] [] h = zex E (n + 3) d 177 26 [some (.ref 4), some (.int a), some (.int b), some (.int s), some (.int n9), u5, u6] [.int s] h).trans (((yS zgi177_26) : zex E (n + 3) d 177 26 [some (.ref 4), some (.int a), some (.int b), some (.int s), some (.int n9), u5, u6] [.int s] h = zex E (n + 2) d 177 28 [some (.ref 4), some (.int a), some (.int b), some (.int s), some (.int n9), some (.int s), u6] [] h).trans (((yCi zgi177_28) : zex E (n + 2) d 177 28 [some (.ref 4), some (.int a), some (.int b), some (.int s), some (.int n9), some (.int s), u6] [] h = zex E (n + 1) d 177 29 [some (.ref 4), some (.int a), some (.int b), some (.int s), some (.int n9), some (.int s), u6] [.int 0] h).trans (((yS zgi177_29) : zex E (n + 1) d 177 29 [some (.ref 4), some (.int a), some (.int b), some (.int s), some (.int n9), some (.int s), u6] [.int 0] h = zex E n d 177 31 [some (.ref 4), some (.int a), some (.int b), some (.int s), some (.int n9), some (.int s), some (.int 0)] [] h)))))))))))))
set_option maxRecDepth 100000 in
theorem fd_3 {E : zE} {n d : Nat} {h : zH} {a b s n9 : Int32} {u5 u6 : Option Value} (hn : (12 : Int32).toInt ≤ n9.toInt)   : zex E (n + 5) d 177 7 [some (.ref 4), some (.int a), some (.int b), some (.int s), some (.int n9), u5, u6] [] h = some (.inl (some (.int (-1))), h) :=
  ((yI zgi177_7 rfl) : zex E (n + 5) d 177 7 [some (.ref 4), some (.int a), some (.int b), some (.int s), some (.int n9), u5, u6] [] h = zex E (n + 4) d 177 9 [some (.ref 4), some (.int a), some (.int b), some (.int s), some (.int n9), u5, u6] [.int n9] h).trans (((yCb zgi177_9) : zex E (n + 4) d 177 9 [some (.ref 4), some (.int a), some (.int b), some (.int s), some (.int n9), u5, u6] [.int n9] h = zex E (n + 3) d 177 11 [some (.ref 4), some (.int a), some (.int b), some (.int s), some (.int n9), u5, u6] [.int 12, .int n9] h).trans (((zkgT zgi177_11 hn) : zex E (n + 3) d 177 11 [some (.ref 4), some (.int a), some (.int b), some (.int s), some (.int n9), u5, u6] [.int 12, .int n9] h = zex E (n + 2) d 177 76 [some (.ref 4), some (.int a), some (.int b), some (.int s), some (.int n9), u5, u6] [] h).trans (((yCi zgi177_76) : zex E (n + 2) d 177 76 [some (.ref 4), some (.int a), some (.int b), some (.int s), some (.int n9), u5, u6] [] h = zex E (n + 1) d 177 77 [some (.ref 4), some (.int a), some (.int b), some (.int s), some (.int n9), u5, u6] [.int (-1)] h).trans (((yRet1 zgi177_77 rfl) : zex E (n + 1) d 177 77 [some (.ref 4), some (.int a), some (.int b), some (.int s), some (.int n9), u5, u6] [.int (-1)] h = some (.inl (some (.int (-1))), h))))))
set_option maxRecDepth 100000 in
theorem fd_4 {E : zE} {n d : Nat} {h : zH} {a b s n9 w r : Int32} (hr : r.toInt < (h.2.1 4 0).toInt) (hb : ((s >>> (r &&& 31)) &&& 1).toInt = 0) (a4 : zat h.1 4 = some (.inr (.inl (8, [none, none, none, none, some (some 5), some (some 6), some (some 7), some (some 8), some (some 9)]))))  : zex E (n + 12) d 177 31 [some (.ref 4), some (.int a), some (.int b), some (.int s), some (.int n9), some (.int w), some (.int r)] [] h = zex E n d 177 31 [some (.ref 4), some (.int a), some (.int b), some (.int s), some (.int n9), some (.int w), some (.int (r + 1))] [] h :=
  ((yI zgi177_31 rfl) : zex E (n + 12) d 177 31 [some (.ref 4), some (.int a), some (.int b), some (.int s), some (.int n9), some (.int w), some (.int r)] [] h = zex E (n + 11) d 177 33 [some (.ref 4), some (.int a), some (.int b), some (.int s), some (.int n9), some (.int w), some (.int r)] [.int r] h).trans (((yAn zgi177_33 rfl rfl) : zex E (n + 11) d 177 33 [some (.ref 4), some (.int a), some (.int b), some (.int s), some (.int n9), some (.int w), some (.int r)] [.int r] h = zex E (n + 10) d 177 34 [some (.ref 4), some (.int a), some (.int b), some (.int s), some (.int n9), some (.int w), some (.int r)] [.ref 4, .int r] h).trans (((zgi zgi177_34 a4 rfl) : zex E (n + 10) d 177 34 [some (.ref 4), some (.int a), some (.int b), some (.int s), some (.int n9), some (.int w), some (.int r)] [.ref 4, .int r] h = zex E (n + 9) d 177 37 [some (.ref 4), some (.int a), some (.int b), some (.int s), some (.int n9), some (.int w), some (.int r)] [.int (h.2.1 4 0), .int r] h).trans (((zkgF zgi177_37 hr) : zex E (n + 9) d 177 37 [some (.ref 4), some (.int a), some (.int b), some (.int s), some (.int n9), some (.int w), some (.int r)] [.int (h.2.1 4 0), .int r] h = zex E (n + 8) d 177 40 [some (.ref 4), some (.int a), some (.int b), some (.int s), some (.int n9), some (.int w), some (.int r)] [] h).trans (((yIn zgi177_40 rfl) : zex E (n + 8) d 177 40 [some (.ref 4), some (.int a), some (.int b), some (.int s), some (.int n9), some (.int w), some (.int r)] [] h = zex E (n + 7) d 177 41 [some (.ref 4), some (.int a), some (.int b), some (.int s), some (.int n9), some (.int w), some (.int r)] [.int s] h).trans (((yI zgi177_41 rfl) : zex E (n + 7) d 177 41 [some (.ref 4), some (.int a), some (.int b), some (.int s), some (.int n9), some (.int w), some (.int r)] [.int s] h = zex E (n + 6) d 177 43 [some (.ref 4), some (.int a), some (.int b), some (.int s), some (.int n9), some (.int w), some (.int r)] [.int r, .int s] h).trans (((yShr zgi177_43) : zex E (n + 6) d 177 43 [some (.ref 4), some (.int a), some (.int b), some (.int s), some (.int n9), some (.int w), some (.int r)] [.int r, .int s] h = zex E (n + 5) d 177 44 [some (.ref 4), some (.int a), some (.int b), some (.int s), some (.int n9), some (.int w), some (.int r)] [.int (s >>> (r &&& 31))] h).trans (((yCi zgi177_44) : zex E (n + 5) d 177 44 [some (.ref 4), some (.int a), some (.int b), some (.int s), some (.int n9), some (.int w), some (.int r)] [.int (s >>> (r &&& 31))] h = zex E (n + 4) d 177 45 [some (.ref 4), some (.int a), some (.int b), some (.int s), some (.int n9), some (.int w), some (.int r)] [.int 1, .int (s >>> (r &&& 31))] h).trans (((yAnd zgi177_45) : zex E (n + 4) d 177 45 [some (.ref 4), some (.int a), some (.int b), some (.int s), some (.int n9), some (.int w), some (.int r)] [.int 1, .int (s >>> (r &&& 31))] h = zex E (n + 3) d 177 46 [some (.ref 4), some (.int a), some (.int b), some (.int s), some (.int n9), some (.int w), some (.int r)] [.int ((s >>> (r &&& 31)) &&& 1)] h).trans (((zjeT zgi177_46 hb) : zex E (n + 3) d 177 46 [some (.ref 4), some (.int a), some (.int b), some (.int s), some (.int n9), some (.int w), some (.int r)] [.int ((s >>> (r &&& 31)) &&& 1)] h = zex E (n + 2) d 177 61 [some (.ref 4), some (.int a), some (.int b), some (.int s), some (.int n9), some (.int w), some (.int r)] [] h).trans (((yInc zgi177_61 rfl) : zex E (n + 2) d 177 61 [some (.ref 4), some (.int a), some (.int b), some (.int s), some (.int n9), some (.int w), some (.int r)] [] h = zex E (n + 1) d 177 64 [some (.ref 4), some (.int a), some (.int b), some (.int s), some (.int n9), some (.int w), some (.int (r + 1))] [] h).trans (((yGo zgi177_64) : zex E (n + 1) d 177 64 [some (.ref 4), some (.int a), some (.int b), some (.int s), some (.int n9), some (.int w), some (.int (r + 1))] [] h = zex E n d 177 31 [some (.ref 4), some (.int a), some (.int b), some (.int s), some (.int n9), some (.int w), some (.int (r + 1))] [] h))))))))))))
set_option maxRecDepth 100000 in
theorem fd_5 {E : zE} {n d : Nat} {h : zH} {a b s n9 w r : Int32} {v : Int32} {J : Nat} (hr : r.toInt < (h.2.1 4 0).toInt) (hb : ((s >>> (r &&& 31)) &&& 1).toInt ≠ 0) (hj : r.toInt = (J : Int)) (hj8 : J < 12) (hv : h.2.1 7 J = v) (a4 : zat h.1 4 = some (.inr (.inl (8, [none, none, none, none, some (some 5), some (some 6), some (some 7), some (some 8), some (some 9)])))) (a7 : zat h.1 7 = some (.inl (0, 12, [])))  : zex E (n + 19) d 177 31 [some (.ref 4), some (.int a), some (.int b), some (.int s), some (.int n9), some (.int w), some (.int r)] [] h = zex E n d 177 31 [some (.ref 4), some (.int a), some (.int b), some (.int s), some (.int n9), some (.int (w ||| v)), some (.int (r + 1))] [] h :=
  ((yI zgi177_31 rfl) : zex E (n + 19) d 177 31 [some (.ref 4), some (.int a), some (.int b), some (.int s), some (.int n9), some (.int w), some (.int r)] [] h = zex E (n + 18) d 177 33 [some (.ref 4), some (.int a), some (.int b), some (.int s), some (.int n9), some (.int w), some (.int r)] [.int r] h).trans (((yAn zgi177_33 rfl rfl) : zex E (n + 18) d 177 33 [some (.ref 4), some (.int a), some (.int b), some (.int s), some (.int n9), some (.int w), some (.int r)] [.int r] h = zex E (n + 17) d 177 34 [some (.ref 4), some (.int a), some (.int b), some (.int s), some (.int n9), some (.int w), some (.int r)] [.ref 4, .int r] h).trans (((zgi zgi177_34 a4 rfl) : zex E (n + 17) d 177 34 [some (.ref 4), some (.int a), some (.int b), some (.int s), some (.int n9), some (.int w), some (.int r)] [.ref 4, .int r] h = zex E (n + 16) d 177 37 [some (.ref 4), some (.int a), some (.int b), some (.int s), some (.int n9), some (.int w), some (.int r)] [.int (h.2.1 4 0), .int r] h).trans (((zkgF zgi177_37 hr) : zex E (n + 16) d 177 37 [some (.ref 4), some (.int a), some (.int b), some (.int s), some (.int n9), some (.int w), some (.int r)] [.int (h.2.1 4 0), .int r] h = zex E (n + 15) d 177 40 [some (.ref 4), some (.int a), some (.int b), some (.int s), some (.int n9), some (.int w), some (.int r)] [] h).trans (((yIn zgi177_40 rfl) : zex E (n + 15) d 177 40 [some (.ref 4), some (.int a), some (.int b), some (.int s), some (.int n9), some (.int w), some (.int r)] [] h = zex E (n + 14) d 177 41 [some (.ref 4), some (.int a), some (.int b), some (.int s), some (.int n9), some (.int w), some (.int r)] [.int s] h).trans (((yI zgi177_41 rfl) : zex E (n + 14) d 177 41 [some (.ref 4), some (.int a), some (.int b), some (.int s), some (.int n9), some (.int w), some (.int r)] [.int s] h = zex E (n + 13) d 177 43 [some (.ref 4), some (.int a), some (.int b), some (.int s), some (.int n9), some (.int w), some (.int r)] [.int r, .int s] h).trans (((yShr zgi177_43) : zex E (n + 13) d 177 43 [some (.ref 4), some (.int a), some (.int b), some (.int s), some (.int n9), some (.int w), some (.int r)] [.int r, .int s] h = zex E (n + 12) d 177 44 [some (.ref 4), some (.int a), some (.int b), some (.int s), some (.int n9), some (.int w), some (.int r)] [.int (s >>> (r &&& 31))] h).trans (((yCi zgi177_44) : zex E (n + 12) d 177 44 [some (.ref 4), some (.int a), some (.int b), some (.int s), some (.int n9), some (.int w), some (.int r)] [.int (s >>> (r &&& 31))] h = zex E (n + 11) d 177 45 [some (.ref 4), some (.int a), some (.int b), some (.int s), some (.int n9), some (.int w), some (.int r)] [.int 1, .int (s >>> (r &&& 31))] h).trans (((yAnd zgi177_45) : zex E (n + 11) d 177 45 [some (.ref 4), some (.int a), some (.int b), some (.int s), some (.int n9), some (.int w), some (.int r)] [.int 1, .int (s >>> (r &&& 31))] h = zex E (n + 10) d 177 46 [some (.ref 4), some (.int a), some (.int b), some (.int s), some (.int n9), some (.int w), some (.int r)] [.int ((s >>> (r &&& 31)) &&& 1)] h).trans (((zjeF zgi177_46 hb) : zex E (n + 10) d 177 46 [some (.ref 4), some (.int a), some (.int b), some (.int s), some (.int n9), some (.int w), some (.int r)] [.int ((s >>> (r &&& 31)) &&& 1)] h = zex E (n + 9) d 177 49 [some (.ref 4), some (.int a), some (.int b), some (.int s), some (.int n9), some (.int w), some (.int r)] [] h).trans (((yI zgi177_49 rfl) : zex E (n + 9) d 177 49 [some (.ref 4), some (.int a), some (.int b), some (.int s), some (.int n9), some (.int w), some (.int r)] [] h = zex E (n + 8) d 177 51 [some (.ref 4), some (.int a), some (.int b), some (.int s), some (.int n9), some (.int w), some (.int r)] [.int w] h).trans (((yAn zgi177_51 rfl rfl) : zex E (n + 8) d 177 51 [some (.ref 4), some (.int a), some (.int b), some (.int s), some (.int n9), some (.int w), some (.int r)] [.int w] h = zex E (n + 7) d 177 52 [some (.ref 4), some (.int a), some (.int b), some (.int s), some (.int n9), some (.int w), some (.int r)] [.ref 4, .int w] h).trans (((zgx zgi177_52 a4 rfl) : zex E (n + 7) d 177 52 [some (.ref 4), some (.int a), some (.int b), some (.int s), some (.int n9), some (.int w), some (.int r)] [.ref 4, .int w] h = zex E (n + 6) d 177 55 [some (.ref 4), some (.int a), some (.int b), some (.int s), some (.int n9), some (.int w), some (.int r)] [.ref 7, .int w] h).trans (((yI zgi177_55 rfl) : zex E (n + 6) d 177 55 [some (.ref 4), some (.int a), some (.int b), some (.int s), some (.int n9), some (.int w), some (.int r)] [.ref 7, .int w] h = zex E (n + 5) d 177 57 [some (.ref 4), some (.int a), some (.int b), some (.int s), some (.int n9), some (.int w), some (.int r)] [.int r, .ref 7, .int w] h).trans (((zlk zgi177_57 a7 hj hj8 hv) : zex E (n + 5) d 177 57 [some (.ref 4), some (.int a), some (.int b), some (.int s), some (.int n9), some (.int w), some (.int r)] [.int r, .ref 7, .int w] h = zex E (n + 4) d 177 58 [some (.ref 4), some (.int a), some (.int b), some (.int s), some (.int n9), some (.int w), some (.int r)] [.int v, .int w] h).trans (((yOr zgi177_58) : zex E (n + 4) d 177 58 [some (.ref 4), some (.int a), some (.int b), some (.int s), some (.int n9), some (.int w), some (.int r)] [.int v, .int w] h = zex E (n + 3) d 177 59 [some (.ref 4), some (.int a), some (.int b), some (.int s), some (.int n9), some (.int w), some (.int r)] [.int (w ||| v)] h).trans (((yS zgi177_59) : zex E (n + 3) d 177 59 [some (.ref 4), some (.int a), some (.int b), some (.int s), some (.int n9), some (.int w), some (.int r)] [.int (w ||| v)] h = zex E (n + 2) d 177 61 [some (.ref 4), some (.int a), some (.int b), some (.int s), some (.int n9), some (.int (w ||| v)), some (.int r)] [] h).trans (((yInc zgi177_61 rfl) : zex E (n + 2) d 177 61 [some (.ref 4), some (.int a), some (.int b), some (.int s), some (.int n9), some (.int (w ||| v)), some (.int r)] [] h = zex E (n + 1) d 177 64 [some (.ref 4), some (.int a), some (.int b), some (.int s), some (.int n9), some (.int (w ||| v)), some (.int (r + 1))] [] h).trans (((yGo zgi177_64) : zex E (n + 1) d 177 64 [some (.ref 4), some (.int a), some (.int b), some (.int s), some (.int n9), some (.int (w ||| v)), some (.int (r + 1))] [] h = zex E n d 177 31 [some (.ref 4), some (.int a), some (.int b), some (.int s), some (.int n9), some (.int (w ||| v)), some (.int (r + 1))] [] h)))))))))))))))))))
set_option maxRecDepth 100000 in
theorem fd_6 {E : zE} {n d : Nat} {h : zH} {a b s n9 w r : Int32} (hr : (h.2.1 4 0).toInt ≤ r.toInt) (a4 : zat h.1 4 = some (.inr (.inl (8, [none, none, none, none, some (some 5), some (some 6), some (some 7), some (some 8), some (some 9)]))))  : zex E (n + 8) d 177 31 [some (.ref 4), some (.int a), some (.int b), some (.int s), some (.int n9), some (.int w), some (.int r)] [] h = zex E n d 177 7 [some (.ref 4), some (.int a), some (.int b), some (.int w), some (.int (n9 + 1)), some (.int w), some (.int r)] [] h :=
  ((yI zgi177_31 rfl) : zex E (n + 8) d 177 31 [some (.ref 4), some (.int a), some (.int b), some (.int s), some (.int n9), some (.int w), some (.int r)] [] h = zex E (n + 7) d 177 33 [some (.ref 4), some (.int a), some (.int b), some (.int s), some (.int n9), some (.int w), some (.int r)] [.int r] h).trans (((yAn zgi177_33 rfl rfl) : zex E (n + 7) d 177 33 [some (.ref 4), some (.int a), some (.int b), some (.int s), some (.int n9), some (.int w), some (.int r)] [.int r] h = zex E (n + 6) d 177 34 [some (.ref 4), some (.int a), some (.int b), some (.int s), some (.int n9), some (.int w), some (.int r)] [.ref 4, .int r] h).trans (((zgi zgi177_34 a4 rfl) : zex E (n + 6) d 177 34 [some (.ref 4), some (.int a), some (.int b), some (.int s), some (.int n9), some (.int w), some (.int r)] [.ref 4, .int r] h = zex E (n + 5) d 177 37 [some (.ref 4), some (.int a), some (.int b), some (.int s), some (.int n9), some (.int w), some (.int r)] [.int (h.2.1 4 0), .int r] h).trans (((zkgT zgi177_37 hr) : zex E (n + 5) d 177 37 [some (.ref 4), some (.int a), some (.int b), some (.int s), some (.int n9), some (.int w), some (.int r)] [.int (h.2.1 4 0), .int r] h = zex E (n + 4) d 177 67 [some (.ref 4), some (.int a), some (.int b), some (.int s), some (.int n9), some (.int w), some (.int r)] [] h).trans (((yI zgi177_67 rfl) : zex E (n + 4) d 177 67 [some (.ref 4), some (.int a), some (.int b), some (.int s), some (.int n9), some (.int w), some (.int r)] [] h = zex E (n + 3) d 177 69 [some (.ref 4), some (.int a), some (.int b), some (.int s), some (.int n9), some (.int w), some (.int r)] [.int w] h).trans (((ySn zgi177_69) : zex E (n + 3) d 177 69 [some (.ref 4), some (.int a), some (.int b), some (.int s), some (.int n9), some (.int w), some (.int r)] [.int w] h = zex E (n + 2) d 177 70 [some (.ref 4), some (.int a), some (.int b), some (.int w), some (.int n9), some (.int w), some (.int r)] [] h).trans (((yInc zgi177_70 rfl) : zex E (n + 2) d 177 70 [some (.ref 4), some (.int a), some (.int b), some (.int w), some (.int n9), some (.int w), some (.int r)] [] h = zex E (n + 1) d 177 73 [some (.ref 4), some (.int a), some (.int b), some (.int w), some (.int (n9 + 1)), some (.int w), some (.int r)] [] h).trans (((yGo zgi177_73) : zex E (n + 1) d 177 73 [some (.ref 4), some (.int a), some (.int b), some (.int w), some (.int (n9 + 1)), some (.int w), some (.int r)] [] h = zex E n d 177 7 [some (.ref 4), some (.int a), some (.int b), some (.int w), some (.int (n9 + 1)), some (.int w), some (.int r)] [] h))))))))
set_option maxRecDepth 100000 in
theorem iw_1 {E : zE} {n d : Nat} {h : zH} {x a b : Int32} (h0 : a.toInt ≤ x.toInt) (h1 : x.toInt ≤ b.toInt)   : zex E (n + 9) d 209 0 [some (.int x), some (.int a), some (.int b)] [] h = some (.inl (some (.int 1)), h) :=
  ((yIn zgi209_0 rfl) : zex E (n + 9) d 209 0 [some (.int x), some (.int a), some (.int b)] [] h = zex E (n + 8) d 209 1 [some (.int x), some (.int a), some (.int b)] [.int x] h).trans (((yIn zgi209_1 rfl) : zex E (n + 8) d 209 1 [some (.int x), some (.int a), some (.int b)] [.int x] h = zex E (n + 7) d 209 2 [some (.int x), some (.int a), some (.int b)] [.int a, .int x] h).trans (((zklF zgi209_2 h0) : zex E (n + 7) d 209 2 [some (.int x), some (.int a), some (.int b)] [.int a, .int x] h = zex E (n + 6) d 209 5 [some (.int x), some (.int a), some (.int b)] [] h).trans (((yIn zgi209_5 rfl) : zex E (n + 6) d 209 5 [some (.int x), some (.int a), some (.int b)] [] h = zex E (n + 5) d 209 6 [some (.int x), some (.int a), some (.int b)] [.int x] h).trans (((yIn zgi209_6 rfl) : zex E (n + 5) d 209 6 [some (.int x), some (.int a), some (.int b)] [.int x] h = zex E (n + 4) d 209 7 [some (.int x), some (.int a), some (.int b)] [.int b, .int x] h).trans (((zkhF zgi209_7 h1) : zex E (n + 4) d 209 7 [some (.int x), some (.int a), some (.int b)] [.int b, .int x] h = zex E (n + 3) d 209 10 [some (.int x), some (.int a), some (.int b)] [] h).trans (((yCi zgi209_10) : zex E (n + 3) d 209 10 [some (.int x), some (.int a), some (.int b)] [] h = zex E (n + 2) d 209 11 [some (.int x), some (.int a), some (.int b)] [.int 1] h).trans (((yGo zgi209_11) : zex E (n + 2) d 209 11 [some (.int x), some (.int a), some (.int b)] [.int 1] h = zex E (n + 1) d 209 15 [some (.int x), some (.int a), some (.int b)] [.int 1] h).trans (((yRet2 zgi209_15 rfl (Or.inr rfl)) : zex E (n + 1) d 209 15 [some (.int x), some (.int a), some (.int b)] [.int 1] h = some (.inl (some (.int 1)), h))))))))))
set_option maxRecDepth 100000 in
theorem iw_a {E : zE} {n d : Nat} {h : zH} {x a b : Int32} (h0 : x.toInt < a.toInt)   : zex E (n + 5) d 209 0 [some (.int x), some (.int a), some (.int b)] [] h = some (.inl (some (.int 0)), h) :=
  ((yIn zgi209_0 rfl) : zex E (n + 5) d 209 0 [some (.int x), some (.int a), some (.int b)] [] h = zex E (n + 4) d 209 1 [some (.int x), some (.int a), some (.int b)] [.int x] h).trans (((yIn zgi209_1 rfl) : zex E (n + 4) d 209 1 [some (.int x), some (.int a), some (.int b)] [.int x] h = zex E (n + 3) d 209 2 [some (.int x), some (.int a), some (.int b)] [.int a, .int x] h).trans (((zklT zgi209_2 h0) : zex E (n + 3) d 209 2 [some (.int x), some (.int a), some (.int b)] [.int a, .int x] h = zex E (n + 2) d 209 14 [some (.int x), some (.int a), some (.int b)] [] h).trans (((yCi zgi209_14) : zex E (n + 2) d 209 14 [some (.int x), some (.int a), some (.int b)] [] h = zex E (n + 1) d 209 15 [some (.int x), some (.int a), some (.int b)] [.int 0] h).trans (((yRet2 zgi209_15 rfl (Or.inl rfl)) : zex E (n + 1) d 209 15 [some (.int x), some (.int a), some (.int b)] [.int 0] h = some (.inl (some (.int 0)), h))))))
set_option maxRecDepth 100000 in
theorem iw_b {E : zE} {n d : Nat} {h : zH} {x a b : Int32} (h0 : a.toInt ≤ x.toInt) (h1 : b.toInt < x.toInt)   : zex E (n + 8) d 209 0 [some (.int x), some (.int a), some (.int b)] [] h = some (.inl (some (.int 0)), h) :=
  ((yIn zgi209_0 rfl) : zex E (n + 8) d 209 0 [some (.int x), some (.int a), some (.int b)] [] h = zex E (n + 7) d 209 1 [some (.int x), some (.int a), some (.int b)] [.int x] h).trans (((yIn zgi209_1 rfl) : zex E (n + 7) d 209 1 [some (.int x), some (.int a), some (.int b)] [.int x] h = zex E (n + 6) d 209 2 [some (.int x), some (.int a), some (.int b)] [.int a, .int x] h).trans (((zklF zgi209_2 h0) : zex E (n + 6) d 209 2 [some (.int x), some (.int a), some (.int b)] [.int a, .int x] h = zex E (n + 5) d 209 5 [some (.int x), some (.int a), some (.int b)] [] h).trans (((yIn zgi209_5 rfl) : zex E (n + 5) d 209 5 [some (.int x), some (.int a), some (.int b)] [] h = zex E (n + 4) d 209 6 [some (.int x), some (.int a), some (.int b)] [.int x] h).trans (((yIn zgi209_6 rfl) : zex E (n + 4) d 209 6 [some (.int x), some (.int a), some (.int b)] [.int x] h = zex E (n + 3) d 209 7 [some (.int x), some (.int a), some (.int b)] [.int b, .int x] h).trans (((zkhT zgi209_7 h1) : zex E (n + 3) d 209 7 [some (.int x), some (.int a), some (.int b)] [.int b, .int x] h = zex E (n + 2) d 209 14 [some (.int x), some (.int a), some (.int b)] [] h).trans (((yCi zgi209_14) : zex E (n + 2) d 209 14 [some (.int x), some (.int a), some (.int b)] [] h = zex E (n + 1) d 209 15 [some (.int x), some (.int a), some (.int b)] [.int 0] h).trans (((yRet2 zgi209_15 rfl (Or.inl rfl)) : zex E (n + 1) d 209 15 [some (.int x), some (.int a), some (.int b)] [.int 0] h = some (.inl (some (.int 0)), h)))))))))
set_option maxRecDepth 100000 in
theorem wn_0 {E : zE} {n d : Nat} {h : zH} {p q : Int32}  (a84 : zat h.1 84 = some (.inr (.inl (12, [none, some (some 85), some (some 86), some (some 87), some (some 88), some (some 89), none, none, some (some 90), none, none, none, none, none, none, some (some 91), none, some (some 92), some (some 93)])))) (e1 : zex E (n + 6) d 216 0 [some (.ref 84)] [] h = some (.inl (some (.int q)), h)) (e2 : zex E (n + 3) d 209 0 [some (.int p), some (.int 0), some (.int (q - 1))] [] h = some (.inl (some (.int 1)), h)) : zex E (n + 10) (d + 1) 227 0 [some (.ref 84), some (.int p)] [] h = some (.inl (some (.int 0)), h) :=
  ((yIn zgi227_0 rfl) : zex E (n + 10) (d + 1) 227 0 [some (.ref 84), some (.int p)] [] h = zex E (n + 9) (d + 1) 227 1 [some (.ref 84), some (.int p)] [.int p] h).trans (((yCi zgi227_1) : zex E (n + 9) (d + 1) 227 1 [some (.ref 84), some (.int p)] [.int p] h = zex E (n + 8) (d + 1) 227 2 [some (.ref 84), some (.int p)] [.int 0, .int p] h).trans (((yAn zgi227_2 rfl rfl) : zex E (n + 8) (d + 1) 227 2 [some (.ref 84), some (.int p)] [.int 0, .int p] h = zex E (n + 7) (d + 1) 227 3 [some (.ref 84), some (.int p)] [.ref 84, .int 0, .int p] h).trans (((zcvg (h := h) (as := []) (r := [.int 0, .int p]) zgi227_3 zni216 rfl a84 rfl e1) : zex E (n + 7) (d + 1) 227 3 [some (.ref 84), some (.int p)] [.ref 84, .int 0, .int p] h = zex E (n + 6) (d + 1) 227 6 [some (.ref 84), some (.int p)] [.int q, .int 0, .int p] h).trans (((yCi zgi227_6) : zex E (n + 6) (d + 1) 227 6 [some (.ref 84), some (.int p)] [.int q, .int 0, .int p] h = zex E (n + 5) (d + 1) 227 7 [some (.ref 84), some (.int p)] [.int 1, .int q, .int 0, .int p] h).trans (((ySub zgi227_7) : zex E (n + 5) (d + 1) 227 7 [some (.ref 84), some (.int p)] [.int 1, .int q, .int 0, .int p] h = zex E (n + 4) (d + 1) 227 8 [some (.ref 84), some (.int p)] [.int (q - 1), .int 0, .int p] h).trans (((zcvs (as := [.int p, .int 0, .int (q - 1)]) (r := []) zgi227_8 zni209 rfl rfl e2) : zex E (n + 4) (d + 1) 227 8 [some (.ref 84), some (.int p)] [.int (q - 1), .int 0, .int p] h = zex E (n + 3) (d + 1) 227 11 [some (.ref 84), some (.int p)] [.int 1] h).trans (((zjnT zgi227_11 (by decide)) : zex E (n + 3) (d + 1) 227 11 [some (.ref 84), some (.int p)] [.int 1] h = zex E (n + 2) (d + 1) 227 18 [some (.ref 84), some (.int p)] [] h).trans (((yCi zgi227_18) : zex E (n + 2) (d + 1) 227 18 [some (.ref 84), some (.int p)] [] h = zex E (n + 1) (d + 1) 227 19 [some (.ref 84), some (.int p)] [.int 0] h).trans (((yRet2 zgi227_19 rfl (Or.inl rfl)) : zex E (n + 1) (d + 1) 227 19 [some (.ref 84), some (.int p)] [.int 0] h = some (.inl (some (.int 0)), h)))))))))))
set_option maxRecDepth 100000 in
theorem wn_1 {E : zE} {n d : Nat} {h : zH} {p q : Int32}  (a84 : zat h.1 84 = some (.inr (.inl (12, [none, some (some 85), some (some 86), some (some 87), some (some 88), some (some 89), none, none, some (some 90), none, none, none, none, none, none, some (some 91), none, some (some 92), some (some 93)])))) (e1 : zex E (n + 7) d 216 0 [some (.ref 84)] [] h = some (.inl (some (.int q)), h)) (e2 : zex E (n + 4) d 209 0 [some (.int p), some (.int 0), some (.int (q - 1))] [] h = some (.inl (some (.int 0)), h)) : zex E (n + 11) (d + 1) 227 0 [some (.ref 84), some (.int p)] [] h = some (.inl (some (.int 1)), h) :=
  ((yIn zgi227_0 rfl) : zex E (n + 11) (d + 1) 227 0 [some (.ref 84), some (.int p)] [] h = zex E (n + 10) (d + 1) 227 1 [some (.ref 84), some (.int p)] [.int p] h).trans (((yCi zgi227_1) : zex E (n + 10) (d + 1) 227 1 [some (.ref 84), some (.int p)] [.int p] h = zex E (n + 9) (d + 1) 227 2 [some (.ref 84), some (.int p)] [.int 0, .int p] h).trans (((yAn zgi227_2 rfl rfl) : zex E (n + 9) (d + 1) 227 2 [some (.ref 84), some (.int p)] [.int 0, .int p] h = zex E (n + 8) (d + 1) 227 3 [some (.ref 84), some (.int p)] [.ref 84, .int 0, .int p] h).trans (((zcvg (h := h) (as := []) (r := [.int 0, .int p]) zgi227_3 zni216 rfl a84 rfl e1) : zex E (n + 8) (d + 1) 227 3 [some (.ref 84), some (.int p)] [.ref 84, .int 0, .int p] h = zex E (n + 7) (d + 1) 227 6 [some (.ref 84), some (.int p)] [.int q, .int 0, .int p] h).trans (((yCi zgi227_6) : zex E (n + 7) (d + 1) 227 6 [some (.ref 84), some (.int p)] [.int q, .int 0, .int p] h = zex E (n + 6) (d + 1) 227 7 [some (.ref 84), some (.int p)] [.int 1, .int q, .int 0, .int p] h).trans (((ySub zgi227_7) : zex E (n + 6) (d + 1) 227 7 [some (.ref 84), some (.int p)] [.int 1, .int q, .int 0, .int p] h = zex E (n + 5) (d + 1) 227 8 [some (.ref 84), some (.int p)] [.int (q - 1), .int 0, .int p] h).trans (((zcvs (as := [.int p, .int 0, .int (q - 1)]) (r := []) zgi227_8 zni209 rfl rfl e2) : zex E (n + 5) (d + 1) 227 8 [some (.ref 84), some (.int p)] [.int (q - 1), .int 0, .int p] h = zex E (n + 4) (d + 1) 227 11 [some (.ref 84), some (.int p)] [.int 0] h).trans (((zjnF zgi227_11 (by decide)) : zex E (n + 4) (d + 1) 227 11 [some (.ref 84), some (.int p)] [.int 0] h = zex E (n + 3) (d + 1) 227 14 [some (.ref 84), some (.int p)] [] h).trans (((yCi zgi227_14) : zex E (n + 3) (d + 1) 227 14 [some (.ref 84), some (.int p)] [] h = zex E (n + 2) (d + 1) 227 15 [some (.ref 84), some (.int p)] [.int 1] h).trans (((yGo zgi227_15) : zex E (n + 2) (d + 1) 227 15 [some (.ref 84), some (.int p)] [.int 1] h = zex E (n + 1) (d + 1) 227 19 [some (.ref 84), some (.int p)] [.int 1] h).trans (((yRet2 zgi227_19 rfl (Or.inr rfl)) : zex E (n + 1) (d + 1) 227 19 [some (.ref 84), some (.int p)] [.int 1] h = some (.inl (some (.int 1)), h))))))))))))
set_option maxRecDepth 100000 in
theorem hs_1 {E : zE} {n d : Nat} {h : zH} {s k : Int32} (hb : ((s >>> (k &&& 31)) &&& 1).toInt = (1 : Int32).toInt)   : zex E (n + 10) d 210 0 [some (.int s), some (.int k)] [] h = some (.inl (some (.int 1)), h) :=
  ((yIn zgi210_0 rfl) : zex E (n + 10) d 210 0 [some (.int s), some (.int k)] [] h = zex E (n + 9) d 210 1 [some (.int s), some (.int k)] [.int s] h).trans (((yIn zgi210_1 rfl) : zex E (n + 9) d 210 1 [some (.int s), some (.int k)] [.int s] h = zex E (n + 8) d 210 2 [some (.int s), some (.int k)] [.int k, .int s] h).trans (((yShr zgi210_2) : zex E (n + 8) d 210 2 [some (.int s), some (.int k)] [.int k, .int s] h = zex E (n + 7) d 210 3 [some (.int s), some (.int k)] [.int (s >>> (k &&& 31))] h).trans (((yCi zgi210_3) : zex E (n + 7) d 210 3 [some (.int s), some (.int k)] [.int (s >>> (k &&& 31))] h = zex E (n + 6) d 210 4 [some (.int s), some (.int k)] [.int 1, .int (s >>> (k &&& 31))] h).trans (((yAnd zgi210_4) : zex E (n + 6) d 210 4 [some (.int s), some (.int k)] [.int 1, .int (s >>> (k &&& 31))] h = zex E (n + 5) d 210 5 [some (.int s), some (.int k)] [.int ((s >>> (k &&& 31)) &&& 1)] h).trans (((yCi zgi210_5) : zex E (n + 5) d 210 5 [some (.int s), some (.int k)] [.int ((s >>> (k &&& 31)) &&& 1)] h = zex E (n + 4) d 210 6 [some (.int s), some (.int k)] [.int 1, .int ((s >>> (k &&& 31)) &&& 1)] h).trans (((zknF zgi210_6 hb) : zex E (n + 4) d 210 6 [some (.int s), some (.int k)] [.int 1, .int ((s >>> (k &&& 31)) &&& 1)] h = zex E (n + 3) d 210 9 [some (.int s), some (.int k)] [] h).trans (((yCi zgi210_9) : zex E (n + 3) d 210 9 [some (.int s), some (.int k)] [] h = zex E (n + 2) d 210 10 [some (.int s), some (.int k)] [.int 1] h).trans (((yGo zgi210_10) : zex E (n + 2) d 210 10 [some (.int s), some (.int k)] [.int 1] h = zex E (n + 1) d 210 14 [some (.int s), some (.int k)] [.int 1] h).trans (((yRet2 zgi210_14 rfl (Or.inr rfl)) : zex E (n + 1) d 210 14 [some (.int s), some (.int k)] [.int 1] h = some (.inl (some (.int 1)), h)))))))))))
set_option maxRecDepth 100000 in
theorem hs_0 {E : zE} {n d : Nat} {h : zH} {s k : Int32} (hb : ((s >>> (k &&& 31)) &&& 1).toInt ≠ (1 : Int32).toInt)   : zex E (n + 9) d 210 0 [some (.int s), some (.int k)] [] h = some (.inl (some (.int 0)), h) :=
  ((yIn zgi210_0 rfl) : zex E (n + 9) d 210 0 [some (.int s), some (.int k)] [] h = zex E (n + 8) d 210 1 [some (.int s), some (.int k)] [.int s] h).trans (((yIn zgi210_1 rfl) : zex E (n + 8) d 210 1 [some (.int s), some (.int k)] [.int s] h = zex E (n + 7) d 210 2 [some (.int s), some (.int k)] [.int k, .int s] h).trans (((yShr zgi210_2) : zex E (n + 7) d 210 2 [some (.int s), some (.int k)] [.int k, .int s] h = zex E (n + 6) d 210 3 [some (.int s), some (.int k)] [.int (s >>> (k &&& 31))] h).trans (((yCi zgi210_3) : zex E (n + 6) d 210 3 [some (.int s), some (.int k)] [.int (s >>> (k &&& 31))] h = zex E (n + 5) d 210 4 [some (.int s), some (.int k)] [.int 1, .int (s >>> (k &&& 31))] h).trans (((yAnd zgi210_4) : zex E (n + 5) d 210 4 [some (.int s), some (.int k)] [.int 1, .int (s >>> (k &&& 31))] h = zex E (n + 4) d 210 5 [some (.int s), some (.int k)] [.int ((s >>> (k &&& 31)) &&& 1)] h).trans (((yCi zgi210_5) : zex E (n + 4) d 210 5 [some (.int s), some (.int k)] [.int ((s >>> (k &&& 31)) &&& 1)] h = zex E (n + 3) d 210 6 [some (.int s), some (.int k)] [.int 1, .int ((s >>> (k &&& 31)) &&& 1)] h).trans (((zknT zgi210_6 hb) : zex E (n + 3) d 210 6 [some (.int s), some (.int k)] [.int 1, .int ((s >>> (k &&& 31)) &&& 1)] h = zex E (n + 2) d 210 13 [some (.int s), some (.int k)] [] h).trans (((yCi zgi210_13) : zex E (n + 2) d 210 13 [some (.int s), some (.int k)] [] h = zex E (n + 1) d 210 14 [some (.int s), some (.int k)] [.int 0] h).trans (((yRet2 zgi210_14 rfl (Or.inl rfl)) : zex E (n + 1) d 210 14 [some (.int s), some (.int k)] [.int 0] h = some (.inl (some (.int 0)), h))))))))))
set_option maxRecDepth 100000 in
theorem bo_0 {E : zE} {n d : Nat} {h : zH} {r : Int32} {u2 u3 : Option Value}    : zex E (n + 4) d 271 0 [some (.ref 84), some (.int r), u2, u3] [] h = zex E n d 271 4 [some (.ref 84), some (.int r), some (.int 0), some (.int 0)] [] h :=
  ((yCi zgi271_0) : zex E (n + 4) d 271 0 [some (.ref 84), some (.int r), u2, u3] [] h = zex E (n + 3) d 271 1 [some (.ref 84), some (.int r), u2, u3] [.int 0] h).trans (((ySn zgi271_1) : zex E (n + 3) d 271 1 [some (.ref 84), some (.int r), u2, u3] [.int 0] h = zex E (n + 2) d 271 2 [some (.ref 84), some (.int r), some (.int 0), u3] [] h).trans (((yCi zgi271_2) : zex E (n + 2) d 271 2 [some (.ref 84), some (.int r), some (.int 0), u3] [] h = zex E (n + 1) d 271 3 [some (.ref 84), some (.int r), some (.int 0), u3] [.int 0] h).trans (((ySn zgi271_3) : zex E (n + 1) d 271 3 [some (.ref 84), some (.int r), some (.int 0), u3] [.int 0] h = zex E n d 271 4 [some (.ref 84), some (.int r), some (.int 0), some (.int 0)] [] h))))
set_option maxRecDepth 100000 in
theorem bo_1 {E : zE} {n d : Nat} {h : zH} {r s o q : Int32} (ho : o.toInt < q.toInt) (a84 : zat h.1 84 = some (.inr (.inl (12, [none, some (some 85), some (some 86), some (some 87), some (some 88), some (some 89), none, none, some (some 90), none, none, none, none, none, none, some (some 91), none, some (some 92), some (some 93)])))) (e1 : zex E (n + 15) d 216 0 [some (.ref 84)] [] h = some (.inl (some (.int q)), h)) (e2 : zex E (n + 9) d 230 0 [some (.ref 84), some (.int r), some (.int o), none, none, none, none] [] h = some (.inl (some (.int 1)), h)) : zex E (n + 18) (d + 1) 271 4 [some (.ref 84), some (.int r), some (.int s), some (.int o)] [] h = zex E n (d + 1) 271 4 [some (.ref 84), some (.int r), some (.int (s ||| ((1 : Int32) <<< (o &&& 31)))), some (.int (o + 1))] [] h :=
  ((yIn zgi271_4 rfl) : zex E (n + 18) (d + 1) 271 4 [some (.ref 84), some (.int r), some (.int s), some (.int o)] [] h = zex E (n + 17) (d + 1) 271 5 [some (.ref 84), some (.int r), some (.int s), some (.int o)] [.int o] h).trans (((yAn zgi271_5 rfl rfl) : zex E (n + 17) (d + 1) 271 5 [some (.ref 84), some (.int r), some (.int s), some (.int o)] [.int o] h = zex E (n + 16) (d + 1) 271 6 [some (.ref 84), some (.int r), some (.int s), some (.int o)] [.ref 84, .int o] h).trans (((zcvg (h := h) (as := []) (r := [.int o]) zgi271_6 zni216 rfl a84 rfl e1) : zex E (n + 16) (d + 1) 271 6 [some (.ref 84), some (.int r), some (.int s), some (.int o)] [.ref 84, .int o] h = zex E (n + 15) (d + 1) 271 9 [some (.ref 84), some (.int r), some (.int s), some (.int o)] [.int q, .int o] h).trans (((zkgF zgi271_9 ho) : zex E (n + 15) (d + 1) 271 9 [some (.ref 84), some (.int r), some (.int s), some (.int o)] [.int q, .int o] h = zex E (n + 14) (d + 1) 271 12 [some (.ref 84), some (.int r), some (.int s), some (.int o)] [] h).trans (((yIn zgi271_12 rfl) : zex E (n + 14) (d + 1) 271 12 [some (.ref 84), some (.int r), some (.int s), some (.int o)] [] h = zex E (n + 13) (d + 1) 271 13 [some (.ref 84), some (.int r), some (.int s), some (.int o)] [.int s] h).trans (((yAn zgi271_13 rfl rfl) : zex E (n + 13) (d + 1) 271 13 [some (.ref 84), some (.int r), some (.int s), some (.int o)] [.int s] h = zex E (n + 12) (d + 1) 271 14 [some (.ref 84), some (.int r), some (.int s), some (.int o)] [.ref 84, .int s] h).trans (((yIn zgi271_14 rfl) : zex E (n + 12) (d + 1) 271 14 [some (.ref 84), some (.int r), some (.int s), some (.int o)] [.ref 84, .int s] h = zex E (n + 11) (d + 1) 271 15 [some (.ref 84), some (.int r), some (.int s), some (.int o)] [.int r, .ref 84, .int s] h).trans (((yIn zgi271_15 rfl) : zex E (n + 11) (d + 1) 271 15 [some (.ref 84), some (.int r), some (.int s), some (.int o)] [.int r, .ref 84, .int s] h = zex E (n + 10) (d + 1) 271 16 [some (.ref 84), some (.int r), some (.int s), some (.int o)] [.int o, .int r, .ref 84, .int s] h).trans (((zcvg (h := h) (as := [.int r, .int o]) (r := [.int s]) zgi271_16 zni230 rfl a84 rfl e2) : zex E (n + 10) (d + 1) 271 16 [some (.ref 84), some (.int r), some (.int s), some (.int o)] [.int o, .int r, .ref 84, .int s] h = zex E (n + 9) (d + 1) 271 19 [some (.ref 84), some (.int r), some (.int s), some (.int o)] [.int 1, .int s] h).trans (((zjeF zgi271_19 (by decide)) : zex E (n + 9) (d + 1) 271 19 [some (.ref 84), some (.int r), some (.int s), some (.int o)] [.int 1, .int s] h = zex E (n + 8) (d + 1) 271 22 [some (.ref 84), some (.int r), some (.int s), some (.int o)] [.int s] h).trans (((yCi zgi271_22) : zex E (n + 8) (d + 1) 271 22 [some (.ref 84), some (.int r), some (.int s), some (.int o)] [.int s] h = zex E (n + 7) (d + 1) 271 23 [some (.ref 84), some (.int r), some (.int s), some (.int o)] [.int 1, .int s] h).trans (((yIn zgi271_23 rfl) : zex E (n + 7) (d + 1) 271 23 [some (.ref 84), some (.int r), some (.int s), some (.int o)] [.int 1, .int s] h = zex E (n + 6) (d + 1) 271 24 [some (.ref 84), some (.int r), some (.int s), some (.int o)] [.int o, .int 1, .int s] h).trans (((yShl zgi271_24) : zex E (n + 6) (d + 1) 271 24 [some (.ref 84), some (.int r), some (.int s), some (.int o)] [.int o, .int 1, .int s] h = zex E (n + 5) (d + 1) 271 25 [some (.ref 84), some (.int r), some (.int s), some (.int o)] [.int ((1 : Int32) <<< (o &&& 31)), .int s] h).trans (((yGo zgi271_25) : zex E (n + 5) (d + 1) 271 25 [some (.ref 84), some (.int r), some (.int s), some (.int o)] [.int ((1 : Int32) <<< (o &&& 31)), .int s] h = zex E (n + 4) (d + 1) 271 29 [some (.ref 84), some (.int r), some (.int s), some (.int o)] [.int ((1 : Int32) <<< (o &&& 31)), .int s] h).trans (((yOr zgi271_29) : zex E (n + 4) (d + 1) 271 29 [some (.ref 84), some (.int r), some (.int s), some (.int o)] [.int ((1 : Int32) <<< (o &&& 31)), .int s] h = zex E (n + 3) (d + 1) 271 30 [some (.ref 84), some (.int r), some (.int s), some (.int o)] [.int (s ||| ((1 : Int32) <<< (o &&& 31)))] h).trans (((ySn zgi271_30) : zex E (n + 3) (d + 1) 271 30 [some (.ref 84), some (.int r), some (.int s), some (.int o)] [.int (s ||| ((1 : Int32) <<< (o &&& 31)))] h = zex E (n + 2) (d + 1) 271 31 [some (.ref 84), some (.int r), some (.int (s ||| ((1 : Int32) <<< (o &&& 31)))), some (.int o)] [] h).trans (((yInc zgi271_31 rfl) : zex E (n + 2) (d + 1) 271 31 [some (.ref 84), some (.int r), some (.int (s ||| ((1 : Int32) <<< (o &&& 31)))), some (.int o)] [] h = zex E (n + 1) (d + 1) 271 34 [some (.ref 84), some (.int r), some (.int (s ||| ((1 : Int32) <<< (o &&& 31)))), some (.int (o + 1))] [] h).trans (((yGo zgi271_34) : zex E (n + 1) (d + 1) 271 34 [some (.ref 84), some (.int r), some (.int (s ||| ((1 : Int32) <<< (o &&& 31)))), some (.int (o + 1))] [] h = zex E n (d + 1) 271 4 [some (.ref 84), some (.int r), some (.int (s ||| ((1 : Int32) <<< (o &&& 31)))), some (.int (o + 1))] [] h))))))))))))))))))
set_option maxRecDepth 100000 in
theorem bo_2 {E : zE} {n d : Nat} {h : zH} {r s o q : Int32} (ho : o.toInt < q.toInt) (a84 : zat h.1 84 = some (.inr (.inl (12, [none, some (some 85), some (some 86), some (some 87), some (some 88), some (some 89), none, none, some (some 90), none, none, none, none, none, none, some (some 91), none, some (some 92), some (some 93)])))) (e1 : zex E (n + 12) d 216 0 [some (.ref 84)] [] h = some (.inl (some (.int q)), h)) (e2 : zex E (n + 6) d 230 0 [some (.ref 84), some (.int r), some (.int o), none, none, none, none] [] h = some (.inl (some (.int 0)), h)) : zex E (n + 15) (d + 1) 271 4 [some (.ref 84), some (.int r), some (.int s), some (.int o)] [] h = zex E n (d + 1) 271 4 [some (.ref 84), some (.int r), some (.int (s ||| 0)), some (.int (o + 1))] [] h :=
  ((yIn zgi271_4 rfl) : zex E (n + 15) (d + 1) 271 4 [some (.ref 84), some (.int r), some (.int s), some (.int o)] [] h = zex E (n + 14) (d + 1) 271 5 [some (.ref 84), some (.int r), some (.int s), some (.int o)] [.int o] h).trans (((yAn zgi271_5 rfl rfl) : zex E (n + 14) (d + 1) 271 5 [some (.ref 84), some (.int r), some (.int s), some (.int o)] [.int o] h = zex E (n + 13) (d + 1) 271 6 [some (.ref 84), some (.int r), some (.int s), some (.int o)] [.ref 84, .int o] h).trans (((zcvg (h := h) (as := []) (r := [.int o]) zgi271_6 zni216 rfl a84 rfl e1) : zex E (n + 13) (d + 1) 271 6 [some (.ref 84), some (.int r), some (.int s), some (.int o)] [.ref 84, .int o] h = zex E (n + 12) (d + 1) 271 9 [some (.ref 84), some (.int r), some (.int s), some (.int o)] [.int q, .int o] h).trans (((zkgF zgi271_9 ho) : zex E (n + 12) (d + 1) 271 9 [some (.ref 84), some (.int r), some (.int s), some (.int o)] [.int q, .int o] h = zex E (n + 11) (d + 1) 271 12 [some (.ref 84), some (.int r), some (.int s), some (.int o)] [] h).trans (((yIn zgi271_12 rfl) : zex E (n + 11) (d + 1) 271 12 [some (.ref 84), some (.int r), some (.int s), some (.int o)] [] h = zex E (n + 10) (d + 1) 271 13 [some (.ref 84), some (.int r), some (.int s), some (.int o)] [.int s] h).trans (((yAn zgi271_13 rfl rfl) : zex E (n + 10) (d + 1) 271 13 [some (.ref 84), some (.int r), some (.int s), some (.int o)] [.int s] h = zex E (n + 9) (d + 1) 271 14 [some (.ref 84), some (.int r), some (.int s), some (.int o)] [.ref 84, .int s] h).trans (((yIn zgi271_14 rfl) : zex E (n + 9) (d + 1) 271 14 [some (.ref 84), some (.int r), some (.int s), some (.int o)] [.ref 84, .int s] h = zex E (n + 8) (d + 1) 271 15 [some (.ref 84), some (.int r), some (.int s), some (.int o)] [.int r, .ref 84, .int s] h).trans (((yIn zgi271_15 rfl) : zex E (n + 8) (d + 1) 271 15 [some (.ref 84), some (.int r), some (.int s), some (.int o)] [.int r, .ref 84, .int s] h = zex E (n + 7) (d + 1) 271 16 [some (.ref 84), some (.int r), some (.int s), some (.int o)] [.int o, .int r, .ref 84, .int s] h).trans (((zcvg (h := h) (as := [.int r, .int o]) (r := [.int s]) zgi271_16 zni230 rfl a84 rfl e2) : zex E (n + 7) (d + 1) 271 16 [some (.ref 84), some (.int r), some (.int s), some (.int o)] [.int o, .int r, .ref 84, .int s] h = zex E (n + 6) (d + 1) 271 19 [some (.ref 84), some (.int r), some (.int s), some (.int o)] [.int 0, .int s] h).trans (((zjeT zgi271_19 (by decide)) : zex E (n + 6) (d + 1) 271 19 [some (.ref 84), some (.int r), some (.int s), some (.int o)] [.int 0, .int s] h = zex E (n + 5) (d + 1) 271 28 [some (.ref 84), some (.int r), some (.int s), some (.int o)] [.int s] h).trans (((yCi zgi271_28) : zex E (n + 5) (d + 1) 271 28 [some (.ref 84), some (.int r), some (.int s), some (.int o)] [.int s] h = zex E (n + 4) (d + 1) 271 29 [some (.ref 84), some (.int r), some (.int s), some (.int o)] [.int 0, .int s] h).trans (((yOr zgi271_29) : zex E (n + 4) (d + 1) 271 29 [some (.ref 84), some (.int r), some (.int s), some (.int o)] [.int 0, .int s] h = zex E (n + 3) (d + 1) 271 30 [some (.ref 84), some (.int r), some (.int s), some (.int o)] [.int (s ||| 0)] h).trans (((ySn zgi271_30) : zex E (n + 3) (d + 1) 271 30 [some (.ref 84), some (.int r), some (.int s), some (.int o)] [.int (s ||| 0)] h = zex E (n + 2) (d + 1) 271 31 [some (.ref 84), some (.int r), some (.int (s ||| 0)), some (.int o)] [] h).trans (((yInc zgi271_31 rfl) : zex E (n + 2) (d + 1) 271 31 [some (.ref 84), some (.int r), some (.int (s ||| 0)), some (.int o)] [] h = zex E (n + 1) (d + 1) 271 34 [some (.ref 84), some (.int r), some (.int (s ||| 0)), some (.int (o + 1))] [] h).trans (((yGo zgi271_34) : zex E (n + 1) (d + 1) 271 34 [some (.ref 84), some (.int r), some (.int (s ||| 0)), some (.int (o + 1))] [] h = zex E n (d + 1) 271 4 [some (.ref 84), some (.int r), some (.int (s ||| 0)), some (.int (o + 1))] [] h)))))))))))))))
set_option maxRecDepth 100000 in
theorem bo_3 {E : zE} {n d : Nat} {h : zH} {r s o q : Int32} (ho : q.toInt ≤ o.toInt) (a84 : zat h.1 84 = some (.inr (.inl (12, [none, some (some 85), some (some 86), some (some 87), some (some 88), some (some 89), none, none, some (some 90), none, none, none, none, none, none, some (some 91), none, some (some 92), some (some 93)])))) (e1 : zex E (n + 3) d 216 0 [some (.ref 84)] [] h = some (.inl (some (.int q)), h)) : zex E (n + 6) (d + 1) 271 4 [some (.ref 84), some (.int r), some (.int s), some (.int o)] [] h = some (.inl (some (.int s)), h) :=
  ((yIn zgi271_4 rfl) : zex E (n + 6) (d + 1) 271 4 [some (.ref 84), some (.int r), some (.int s), some (.int o)] [] h = zex E (n + 5) (d + 1) 271 5 [some (.ref 84), some (.int r), some (.int s), some (.int o)] [.int o] h).trans (((yAn zgi271_5 rfl rfl) : zex E (n + 5) (d + 1) 271 5 [some (.ref 84), some (.int r), some (.int s), some (.int o)] [.int o] h = zex E (n + 4) (d + 1) 271 6 [some (.ref 84), some (.int r), some (.int s), some (.int o)] [.ref 84, .int o] h).trans (((zcvg (h := h) (as := []) (r := [.int o]) zgi271_6 zni216 rfl a84 rfl e1) : zex E (n + 4) (d + 1) 271 6 [some (.ref 84), some (.int r), some (.int s), some (.int o)] [.ref 84, .int o] h = zex E (n + 3) (d + 1) 271 9 [some (.ref 84), some (.int r), some (.int s), some (.int o)] [.int q, .int o] h).trans (((zkgT zgi271_9 ho) : zex E (n + 3) (d + 1) 271 9 [some (.ref 84), some (.int r), some (.int s), some (.int o)] [.int q, .int o] h = zex E (n + 2) (d + 1) 271 37 [some (.ref 84), some (.int r), some (.int s), some (.int o)] [] h).trans (((yIn zgi271_37 rfl) : zex E (n + 2) (d + 1) 271 37 [some (.ref 84), some (.int r), some (.int s), some (.int o)] [] h = zex E (n + 1) (d + 1) 271 38 [some (.ref 84), some (.int r), some (.int s), some (.int o)] [.int s] h).trans (((yRet1 zgi271_38 rfl) : zex E (n + 1) (d + 1) 271 38 [some (.ref 84), some (.int r), some (.int s), some (.int o)] [.int s] h = some (.inl (some (.int s)), h)))))))
set_option maxRecDepth 100000 in
theorem wm_1 {E : zE} {n d : Nat} {h h1 : zH} {a b : Int32} {u3 u4 u5 u6 : Option Value}  (a84 : zat h.1 84 = some (.inr (.inl (12, [none, some (some 85), some (some 86), some (some 87), some (some 88), some (some 89), none, none, some (some 90), none, none, none, none, none, none, some (some 91), none, some (some 92), some (some 93)])))) (e1 : zex E (n + 8) d 227 0 [some (.ref 84), some (.int a)] [] (zsetI h 84 (upd (h.2.1 84) 0 0)) = some (.inl (some (.int 1)), (zsetI h 84 (upd (h.2.1 84) 0 0)))) (e2 : zex E (n + 3) d 208 0 [some (.ref 84), some (.int 1), some (.int 1)] [] (zsetI h 84 (upd (h.2.1 84) 0 0)) = some (.inl (some (.int 1)), h1)) : zex E (n + 15) (d + 1) 326 0 [some (.ref 84), some (.int a), some (.int b), u3, u4, u5, u6] [] h = some (.inl (some (.int 0)), h1) :=
  ((yAn zgi326_0 rfl rfl) : zex E (n + 15) (d + 1) 326 0 [some (.ref 84), some (.int a), some (.int b), u3, u4, u5, u6] [] h = zex E (n + 14) (d + 1) 326 1 [some (.ref 84), some (.int a), some (.int b), u3, u4, u5, u6] [.ref 84] h).trans (((yCi zgi326_1) : zex E (n + 14) (d + 1) 326 1 [some (.ref 84), some (.int a), some (.int b), u3, u4, u5, u6] [.ref 84] h = zex E (n + 13) (d + 1) 326 2 [some (.ref 84), some (.int a), some (.int b), u3, u4, u5, u6] [.int 0, .ref 84] h).trans (((zpx zgi326_2 a84 rfl) : zex E (n + 13) (d + 1) 326 2 [some (.ref 84), some (.int a), some (.int b), u3, u4, u5, u6] [.int 0, .ref 84] h = zex E (n + 12) (d + 1) 326 5 [some (.ref 84), some (.int a), some (.int b), u3, u4, u5, u6] [] (zsetI h 84 (upd (h.2.1 84) 0 0))).trans (((yAn zgi326_5 rfl rfl) : zex E (n + 12) (d + 1) 326 5 [some (.ref 84), some (.int a), some (.int b), u3, u4, u5, u6] [] (zsetI h 84 (upd (h.2.1 84) 0 0)) = zex E (n + 11) (d + 1) 326 6 [some (.ref 84), some (.int a), some (.int b), u3, u4, u5, u6] [.ref 84] (zsetI h 84 (upd (h.2.1 84) 0 0))).trans (((yAn zgi326_6 rfl rfl) : zex E (n + 11) (d + 1) 326 6 [some (.ref 84), some (.int a), some (.int b), u3, u4, u5, u6] [.ref 84] (zsetI h 84 (upd (h.2.1 84) 0 0)) = zex E (n + 10) (d + 1) 326 7 [some (.ref 84), some (.int a), some (.int b), u3, u4, u5, u6] [.ref 84, .ref 84] (zsetI h 84 (upd (h.2.1 84) 0 0))).trans (((yIn zgi326_7 rfl) : zex E (n + 10) (d + 1) 326 7 [some (.ref 84), some (.int a), some (.int b), u3, u4, u5, u6] [.ref 84, .ref 84] (zsetI h 84 (upd (h.2.1 84) 0 0)) = zex E (n + 9) (d + 1) 326 8 [some (.ref 84), some (.int a), some (.int b), u3, u4, u5, u6] [.int a, .ref 84, .ref 84] (zsetI h 84 (upd (h.2.1 84) 0 0))).trans (((zcvg (h := (zsetI h 84 (upd (h.2.1 84) 0 0))) (as := [.int a]) (r := [.ref 84]) zgi326_8 zni227 rfl a84 rfl e1) : zex E (n + 9) (d + 1) 326 8 [some (.ref 84), some (.int a), some (.int b), u3, u4, u5, u6] [.int a, .ref 84, .ref 84] (zsetI h 84 (upd (h.2.1 84) 0 0)) = zex E (n + 8) (d + 1) 326 11 [some (.ref 84), some (.int a), some (.int b), u3, u4, u5, u6] [.int 1, .ref 84] (zsetI h 84 (upd (h.2.1 84) 0 0))).trans (((zjnT zgi326_11 (by decide)) : zex E (n + 8) (d + 1) 326 11 [some (.ref 84), some (.int a), some (.int b), u3, u4, u5, u6] [.int 1, .ref 84] (zsetI h 84 (upd (h.2.1 84) 0 0)) = zex E (n + 7) (d + 1) 326 22 [some (.ref 84), some (.int a), some (.int b), u3, u4, u5, u6] [.ref 84] (zsetI h 84 (upd (h.2.1 84) 0 0))).trans (((yCi zgi326_22) : zex E (n + 7) (d + 1) 326 22 [some (.ref 84), some (.int a), some (.int b), u3, u4, u5, u6] [.ref 84] (zsetI h 84 (upd (h.2.1 84) 0 0)) = zex E (n + 6) (d + 1) 326 23 [some (.ref 84), some (.int a), some (.int b), u3, u4, u5, u6] [.int 1, .ref 84] (zsetI h 84 (upd (h.2.1 84) 0 0))).trans (((yGo zgi326_23) : zex E (n + 6) (d + 1) 326 23 [some (.ref 84), some (.int a), some (.int b), u3, u4, u5, u6] [.int 1, .ref 84] (zsetI h 84 (upd (h.2.1 84) 0 0)) = zex E (n + 5) (d + 1) 326 27 [some (.ref 84), some (.int a), some (.int b), u3, u4, u5, u6] [.int 1, .ref 84] (zsetI h 84 (upd (h.2.1 84) 0 0))).trans (((yCi zgi326_27) : zex E (n + 5) (d + 1) 326 27 [some (.ref 84), some (.int a), some (.int b), u3, u4, u5, u6] [.int 1, .ref 84] (zsetI h 84 (upd (h.2.1 84) 0 0)) = zex E (n + 4) (d + 1) 326 28 [some (.ref 84), some (.int a), some (.int b), u3, u4, u5, u6] [.int 1, .int 1, .ref 84] (zsetI h 84 (upd (h.2.1 84) 0 0))).trans (((zcvg (h := (zsetI h 84 (upd (h.2.1 84) 0 0))) (as := [.int 1, .int 1]) (r := []) zgi326_28 zni208 rfl a84 rfl e2) : zex E (n + 4) (d + 1) 326 28 [some (.ref 84), some (.int a), some (.int b), u3, u4, u5, u6] [.int 1, .int 1, .ref 84] (zsetI h 84 (upd (h.2.1 84) 0 0)) = zex E (n + 3) (d + 1) 326 31 [some (.ref 84), some (.int a), some (.int b), u3, u4, u5, u6] [.int 1] h1).trans (((zjeF zgi326_31 (by decide)) : zex E (n + 3) (d + 1) 326 31 [some (.ref 84), some (.int a), some (.int b), u3, u4, u5, u6] [.int 1] h1 = zex E (n + 2) (d + 1) 326 34 [some (.ref 84), some (.int a), some (.int b), u3, u4, u5, u6] [] h1).trans (((yCi zgi326_34) : zex E (n + 2) (d + 1) 326 34 [some (.ref 84), some (.int a), some (.int b), u3, u4, u5, u6] [] h1 = zex E (n + 1) (d + 1) 326 35 [some (.ref 84), some (.int a), some (.int b), u3, u4, u5, u6] [.int 0] h1).trans (((yRet1 zgi326_35 rfl) : zex E (n + 1) (d + 1) 326 35 [some (.ref 84), some (.int a), some (.int b), u3, u4, u5, u6] [.int 0] h1 = some (.inl (some (.int 0)), h1))))))))))))))))
set_option maxRecDepth 100000 in
theorem wm_2 {E : zE} {n d : Nat} {h h1 : zH} {a b : Int32} {u3 u4 u5 u6 : Option Value}  (a84 : zat h.1 84 = some (.inr (.inl (12, [none, some (some 85), some (some 86), some (some 87), some (some 88), some (some 89), none, none, some (some 90), none, none, none, none, none, none, some (some 91), none, some (some 92), some (some 93)])))) (e1 : zex E (n + 12) d 227 0 [some (.ref 84), some (.int a)] [] (zsetI h 84 (upd (h.2.1 84) 0 0)) = some (.inl (some (.int 0)), (zsetI h 84 (upd (h.2.1 84) 0 0)))) (e2 : zex E (n + 8) d 227 0 [some (.ref 84), some (.int b)] [] (zsetI h 84 (upd (h.2.1 84) 0 0)) = some (.inl (some (.int 1)), (zsetI h 84 (upd (h.2.1 84) 0 0)))) (e3 : zex E (n + 3) d 208 0 [some (.ref 84), some (.int 1), some (.int 1)] [] (zsetI h 84 (upd (h.2.1 84) 0 0)) = some (.inl (some (.int 1)), h1)) : zex E (n + 19) (d + 1) 326 0 [some (.ref 84), some (.int a), some (.int b), u3, u4, u5, u6] [] h = some (.inl (some (.int 0)), h1) :=
  ((yAn zgi326_0 rfl rfl) : zex E (n + 19) (d + 1) 326 0 [some (.ref 84), some (.int a), some (.int b), u3, u4, u5, u6] [] h = zex E (n + 18) (d + 1) 326 1 [some (.ref 84), some (.int a), some (.int b), u3, u4, u5, u6] [.ref 84] h).trans (((yCi zgi326_1) : zex E (n + 18) (d + 1) 326 1 [some (.ref 84), some (.int a), some (.int b), u3, u4, u5, u6] [.ref 84] h = zex E (n + 17) (d + 1) 326 2 [some (.ref 84), some (.int a), some (.int b), u3, u4, u5, u6] [.int 0, .ref 84] h).trans (((zpx zgi326_2 a84 rfl) : zex E (n + 17) (d + 1) 326 2 [some (.ref 84), some (.int a), some (.int b), u3, u4, u5, u6] [.int 0, .ref 84] h = zex E (n + 16) (d + 1) 326 5 [some (.ref 84), some (.int a), some (.int b), u3, u4, u5, u6] [] (zsetI h 84 (upd (h.2.1 84) 0 0))).trans (((yAn zgi326_5 rfl rfl) : zex E (n + 16) (d + 1) 326 5 [some (.ref 84), some (.int a), some (.int b), u3, u4, u5, u6] [] (zsetI h 84 (upd (h.2.1 84) 0 0)) = zex E (n + 15) (d + 1) 326 6 [some (.ref 84), some (.int a), some (.int b), u3, u4, u5, u6] [.ref 84] (zsetI h 84 (upd (h.2.1 84) 0 0))).trans (((yAn zgi326_6 rfl rfl) : zex E (n + 15) (d + 1) 326 6 [some (.ref 84), some (.int a), some (.int b), u3, u4, u5, u6] [.ref 84] (zsetI h 84 (upd (h.2.1 84) 0 0)) = zex E (n + 14) (d + 1) 326 7 [some (.ref 84), some (.int a), some (.int b), u3, u4, u5, u6] [.ref 84, .ref 84] (zsetI h 84 (upd (h.2.1 84) 0 0))).trans (((yIn zgi326_7 rfl) : zex E (n + 14) (d + 1) 326 7 [some (.ref 84), some (.int a), some (.int b), u3, u4, u5, u6] [.ref 84, .ref 84] (zsetI h 84 (upd (h.2.1 84) 0 0)) = zex E (n + 13) (d + 1) 326 8 [some (.ref 84), some (.int a), some (.int b), u3, u4, u5, u6] [.int a, .ref 84, .ref 84] (zsetI h 84 (upd (h.2.1 84) 0 0))).trans (((zcvg (h := (zsetI h 84 (upd (h.2.1 84) 0 0))) (as := [.int a]) (r := [.ref 84]) zgi326_8 zni227 rfl a84 rfl e1) : zex E (n + 13) (d + 1) 326 8 [some (.ref 84), some (.int a), some (.int b), u3, u4, u5, u6] [.int a, .ref 84, .ref 84] (zsetI h 84 (upd (h.2.1 84) 0 0)) = zex E (n + 12) (d + 1) 326 11 [some (.ref 84), some (.int a), some (.int b), u3, u4, u5, u6] [.int 0, .ref 84] (zsetI h 84 (upd (h.2.1 84) 0 0))).trans (((zjnF zgi326_11 (by decide)) : zex E (n + 12) (d + 1) 326 11 [some (.ref 84), some (.int a), some (.int b), u3, u4, u5, u6] [.int 0, .ref 84] (zsetI h 84 (upd (h.2.1 84) 0 0)) = zex E (n + 11) (d + 1) 326 14 [some (.ref 84), some (.int a), some (.int b), u3, u4, u5, u6] [.ref 84] (zsetI h 84 (upd (h.2.1 84) 0 0))).trans (((yAn zgi326_14 rfl rfl) : zex E (n + 11) (d + 1) 326 14 [some (.ref 84), some (.int a), some (.int b), u3, u4, u5, u6] [.ref 84] (zsetI h 84 (upd (h.2.1 84) 0 0)) = zex E (n + 10) (d + 1) 326 15 [some (.ref 84), some (.int a), some (.int b), u3, u4, u5, u6] [.ref 84, .ref 84] (zsetI h 84 (upd (h.2.1 84) 0 0))).trans (((yIn zgi326_15 rfl) : zex E (n + 10) (d + 1) 326 15 [some (.ref 84), some (.int a), some (.int b), u3, u4, u5, u6] [.ref 84, .ref 84] (zsetI h 84 (upd (h.2.1 84) 0 0)) = zex E (n + 9) (d + 1) 326 16 [some (.ref 84), some (.int a), some (.int b), u3, u4, u5, u6] [.int b, .ref 84, .ref 84] (zsetI h 84 (upd (h.2.1 84) 0 0))).trans (((zcvg (h := (zsetI h 84 (upd (h.2.1 84) 0 0))) (as := [.int b]) (r := [.ref 84]) zgi326_16 zni227 rfl a84 rfl e2) : zex E (n + 9) (d + 1) 326 16 [some (.ref 84), some (.int a), some (.int b), u3, u4, u5, u6] [.int b, .ref 84, .ref 84] (zsetI h 84 (upd (h.2.1 84) 0 0)) = zex E (n + 8) (d + 1) 326 19 [some (.ref 84), some (.int a), some (.int b), u3, u4, u5, u6] [.int 1, .ref 84] (zsetI h 84 (upd (h.2.1 84) 0 0))).trans (((zjeF zgi326_19 (by decide)) : zex E (n + 8) (d + 1) 326 19 [some (.ref 84), some (.int a), some (.int b), u3, u4, u5, u6] [.int 1, .ref 84] (zsetI h 84 (upd (h.2.1 84) 0 0)) = zex E (n + 7) (d + 1) 326 22 [some (.ref 84), some (.int a), some (.int b), u3, u4, u5, u6] [.ref 84] (zsetI h 84 (upd (h.2.1 84) 0 0))).trans (((yCi zgi326_22) : zex E (n + 7) (d + 1) 326 22 [some (.ref 84), some (.int a), some (.int b), u3, u4, u5, u6] [.ref 84] (zsetI h 84 (upd (h.2.1 84) 0 0)) = zex E (n + 6) (d + 1) 326 23 [some (.ref 84), some (.int a), some (.int b), u3, u4, u5, u6] [.int 1, .ref 84] (zsetI h 84 (upd (h.2.1 84) 0 0))).trans (((yGo zgi326_23) : zex E (n + 6) (d + 1) 326 23 [some (.ref 84), some (.int a), some (.int b), u3, u4, u5, u6] [.int 1, .ref 84] (zsetI h 84 (upd (h.2.1 84) 0 0)) = zex E (n + 5) (d + 1) 326 27 [some (.ref 84), some (.int a), some (.int b), u3, u4, u5, u6] [.int 1, .ref 84] (zsetI h 84 (upd (h.2.1 84) 0 0))).trans (((yCi zgi326_27) : zex E (n + 5) (d + 1) 326 27 [some (.ref 84), some (.int a), some (.int b), u3, u4, u5, u6] [.int 1, .ref 84] (zsetI h 84 (upd (h.2.1 84) 0 0)) = zex E (n + 4) (d + 1) 326 28 [some (.ref 84), some (.int a), some (.int b), u3, u4, u5, u6] [.int 1, .int 1, .ref 84] (zsetI h 84 (upd (h.2.1 84) 0 0))).trans (((zcvg (h := (zsetI h 84 (upd (h.2.1 84) 0 0))) (as := [.int 1, .int 1]) (r := []) zgi326_28 zni208 rfl a84 rfl e3) : zex E (n + 4) (d + 1) 326 28 [some (.ref 84), some (.int a), some (.int b), u3, u4, u5, u6] [.int 1, .int 1, .ref 84] (zsetI h 84 (upd (h.2.1 84) 0 0)) = zex E (n + 3) (d + 1) 326 31 [some (.ref 84), some (.int a), some (.int b), u3, u4, u5, u6] [.int 1] h1).trans (((zjeF zgi326_31 (by decide)) : zex E (n + 3) (d + 1) 326 31 [some (.ref 84), some (.int a), some (.int b), u3, u4, u5, u6] [.int 1] h1 = zex E (n + 2) (d + 1) 326 34 [some (.ref 84), some (.int a), some (.int b), u3, u4, u5, u6] [] h1).trans (((yCi zgi326_34) : zex E (n + 2) (d + 1) 326 34 [some (.ref 84), some (.int a), some (.int b), u3, u4, u5, u6] [] h1 = zex E (n + 1) (d + 1) 326 35 [some (.ref 84), some (.int a), some (.int b), u3, u4, u5, u6] [.int 0] h1).trans (((yRet1 zgi326_35 rfl) : zex E (n + 1) (d + 1) 326 35 [some (.ref 84), some (.int a), some (.int b), u3, u4, u5, u6] [.int 0] h1 = some (.inl (some (.int 0)), h1))))))))))))))))))))
set_option maxRecDepth 100000 in
theorem wm_0 {E : zE} {n d : Nat} {h : zH} {a b : Int32} {u3 u4 u5 u6 : Option Value}  (a84 : zat h.1 84 = some (.inr (.inl (12, [none, some (some 85), some (some 86), some (some 87), some (some 88), some (some 89), none, none, some (some 90), none, none, none, none, none, none, some (some 91), none, some (some 92), some (some 93)])))) (e1 : zex E (n + 15) d 227 0 [some (.ref 84), some (.int a)] [] (zsetI h 84 (upd (h.2.1 84) 0 0)) = some (.inl (some (.int 0)), (zsetI h 84 (upd (h.2.1 84) 0 0)))) (e2 : zex E (n + 11) d 227 0 [some (.ref 84), some (.int b)] [] (zsetI h 84 (upd (h.2.1 84) 0 0)) = some (.inl (some (.int 0)), (zsetI h 84 (upd (h.2.1 84) 0 0)))) (e3 : zex E (n + 7) d 208 0 [some (.ref 84), some (.int 0), some (.int 1)] [] (zsetI h 84 (upd (h.2.1 84) 0 0)) = some (.inl (some (.int 0)), (zsetI h 84 (upd (h.2.1 84) 0 0)))) : zex E (n + 22) (d + 1) 326 0 [some (.ref 84), some (.int a), some (.int b), u3, u4, u5, u6] [] h = zex E n (d + 1) 326 43 [some (.ref 84), some (.int a), some (.int b), some (.int ((1 : Int32) <<< (a &&& 31))), some (.int 0), u5, u6] [] (zsetI h 84 (upd (h.2.1 84) 0 0)) :=
  ((yAn zgi326_0 rfl rfl) : zex E (n + 22) (d + 1) 326 0 [some (.ref 84), some (.int a), some (.int b), u3, u4, u5, u6] [] h = zex E (n + 21) (d + 1) 326 1 [some (.ref 84), some (.int a), some (.int b), u3, u4, u5, u6] [.ref 84] h).trans (((yCi zgi326_1) : zex E (n + 21) (d + 1) 326 1 [some (.ref 84), some (.int a), some (.int b), u3, u4, u5, u6] [.ref 84] h = zex E (n + 20) (d + 1) 326 2 [some (.ref 84), some (.int a), some (.int b), u3, u4, u5, u6] [.int 0, .ref 84] h).trans (((zpx zgi326_2 a84 rfl) : zex E (n + 20) (d + 1) 326 2 [some (.ref 84), some (.int a), some (.int b), u3, u4, u5, u6] [.int 0, .ref 84] h = zex E (n + 19) (d + 1) 326 5 [some (.ref 84), some (.int a), some (.int b), u3, u4, u5, u6] [] (zsetI h 84 (upd (h.2.1 84) 0 0))).trans (((yAn zgi326_5 rfl rfl) : zex E (n + 19) (d + 1) 326 5 [some (.ref 84), some (.int a), some (.int b), u3, u4, u5, u6] [] (zsetI h 84 (upd (h.2.1 84) 0 0)) = zex E (n + 18) (d + 1) 326 6 [some (.ref 84), some (.int a), some (.int b), u3, u4, u5, u6] [.ref 84] (zsetI h 84 (upd (h.2.1 84) 0 0))).trans (((yAn zgi326_6 rfl rfl) : zex E (n + 18) (d + 1) 326 6 [some (.ref 84), some (.int a), some (.int b), u3, u4, u5, u6] [.ref 84] (zsetI h 84 (upd (h.2.1 84) 0 0)) = zex E (n + 17) (d + 1) 326 7 [some (.ref 84), some (.int a), some (.int b), u3, u4, u5, u6] [.ref 84, .ref 84] (zsetI h 84 (upd (h.2.1 84) 0 0))).trans (((yIn zgi326_7 rfl) : zex E (n + 17) (d + 1) 326 7 [some (.ref 84), some (.int a), some (.int b), u3, u4, u5, u6] [.ref 84, .ref 84] (zsetI h 84 (upd (h.2.1 84) 0 0)) = zex E (n + 16) (d + 1) 326 8 [some (.ref 84), some (.int a), some (.int b), u3, u4, u5, u6] [.int a, .ref 84, .ref 84] (zsetI h 84 (upd (h.2.1 84) 0 0))).trans (((zcvg (h := (zsetI h 84 (upd (h.2.1 84) 0 0))) (as := [.int a]) (r := [.ref 84]) zgi326_8 zni227 rfl a84 rfl e1) : zex E (n + 16) (d + 1) 326 8 [some (.ref 84), some (.int a), some (.int b), u3, u4, u5, u6] [.int a, .ref 84, .ref 84] (zsetI h 84 (upd (h.2.1 84) 0 0)) = zex E (n + 15) (d + 1) 326 11 [some (.ref 84), some (.int a), some (.int b), u3, u4, u5, u6] [.int 0, .ref 84] (zsetI h 84 (upd (h.2.1 84) 0 0))).trans (((zjnF zgi326_11 (by decide)) : zex E (n + 15) (d + 1) 326 11 [some (.ref 84), some (.int a), some (.int b), u3, u4, u5, u6] [.int 0, .ref 84] (zsetI h 84 (upd (h.2.1 84) 0 0)) = zex E (n + 14) (d + 1) 326 14 [some (.ref 84), some (.int a), some (.int b), u3, u4, u5, u6] [.ref 84] (zsetI h 84 (upd (h.2.1 84) 0 0))).trans (((yAn zgi326_14 rfl rfl) : zex E (n + 14) (d + 1) 326 14 [some (.ref 84), some (.int a), some (.int b), u3, u4, u5, u6] [.ref 84] (zsetI h 84 (upd (h.2.1 84) 0 0)) = zex E (n + 13) (d + 1) 326 15 [some (.ref 84), some (.int a), some (.int b), u3, u4, u5, u6] [.ref 84, .ref 84] (zsetI h 84 (upd (h.2.1 84) 0 0))).trans (((yIn zgi326_15 rfl) : zex E (n + 13) (d + 1) 326 15 [some (.ref 84), some (.int a), some (.int b), u3, u4, u5, u6] [.ref 84, .ref 84] (zsetI h 84 (upd (h.2.1 84) 0 0)) = zex E (n + 12) (d + 1) 326 16 [some (.ref 84), some (.int a), some (.int b), u3, u4, u5, u6] [.int b, .ref 84, .ref 84] (zsetI h 84 (upd (h.2.1 84) 0 0))).trans (((zcvg (h := (zsetI h 84 (upd (h.2.1 84) 0 0))) (as := [.int b]) (r := [.ref 84]) zgi326_16 zni227 rfl a84 rfl e2) : zex E (n + 12) (d + 1) 326 16 [some (.ref 84), some (.int a), some (.int b), u3, u4, u5, u6] [.int b, .ref 84, .ref 84] (zsetI h 84 (upd (h.2.1 84) 0 0)) = zex E (n + 11) (d + 1) 326 19 [some (.ref 84), some (.int a), some (.int b), u3, u4, u5, u6] [.int 0, .ref 84] (zsetI h 84 (upd (h.2.1 84) 0 0))).trans (((zjeT zgi326_19 (by decide)) : zex E (n + 11) (d + 1) 326 19 [some (.ref 84), some (.int a), some (.int b), u3, u4, u5, u6] [.int 0, .ref 84] (zsetI h 84 (upd (h.2.1 84) 0 0)) = zex E (n + 10) (d + 1) 326 26 [some (.ref 84), some (.int a), some (.int b), u3, u4, u5, u6] [.ref 84] (zsetI h 84 (upd (h.2.1 84) 0 0))).trans (((yCi zgi326_26) : zex E (n + 10) (d + 1) 326 26 [some (.ref 84), some (.int a), some (.int b), u3, u4, u5, u6] [.ref 84] (zsetI h 84 (upd (h.2.1 84) 0 0)) = zex E (n + 9) (d + 1) 326 27 [some (.ref 84), some (.int a), some (.int b), u3, u4, u5, u6] [.int 0, .ref 84] (zsetI h 84 (upd (h.2.1 84) 0 0))).trans (((yCi zgi326_27) : zex E (n + 9) (d + 1) 326 27 [some (.ref 84), some (.int a), some (.int b), u3, u4, u5, u6] [.int 0, .ref 84] (zsetI h 84 (upd (h.2.1 84) 0 0)) = zex E (n + 8) (d + 1) 326 28 [some (.ref 84), some (.int a), some (.int b), u3, u4, u5, u6] [.int 1, .int 0, .ref 84] (zsetI h 84 (upd (h.2.1 84) 0 0))).trans (((zcvg (h := (zsetI h 84 (upd (h.2.1 84) 0 0))) (as := [.int 0, .int 1]) (r := []) zgi326_28 zni208 rfl a84 rfl e3) : zex E (n + 8) (d + 1) 326 28 [some (.ref 84), some (.int a), some (.int b), u3, u4, u5, u6] [.int 1, .int 0, .ref 84] (zsetI h 84 (upd (h.2.1 84) 0 0)) = zex E (n + 7) (d + 1) 326 31 [some (.ref 84), some (.int a), some (.int b), u3, u4, u5, u6] [.int 0] (zsetI h 84 (upd (h.2.1 84) 0 0))).trans (((zjeT zgi326_31 (by decide)) : zex E (n + 7) (d + 1) 326 31 [some (.ref 84), some (.int a), some (.int b), u3, u4, u5, u6] [.int 0] (zsetI h 84 (upd (h.2.1 84) 0 0)) = zex E (n + 6) (d + 1) 326 36 [some (.ref 84), some (.int a), some (.int b), u3, u4, u5, u6] [] (zsetI h 84 (upd (h.2.1 84) 0 0))).trans (((yCi zgi326_36) : zex E (n + 6) (d + 1) 326 36 [some (.ref 84), some (.int a), some (.int b), u3, u4, u5, u6] [] (zsetI h 84 (upd (h.2.1 84) 0 0)) = zex E (n + 5) (d + 1) 326 37 [some (.ref 84), some (.int a), some (.int b), u3, u4, u5, u6] [.int 1] (zsetI h 84 (upd (h.2.1 84) 0 0))).trans (((yIn zgi326_37 rfl) : zex E (n + 5) (d + 1) 326 37 [some (.ref 84), some (.int a), some (.int b), u3, u4, u5, u6] [.int 1] (zsetI h 84 (upd (h.2.1 84) 0 0)) = zex E (n + 4) (d + 1) 326 38 [some (.ref 84), some (.int a), some (.int b), u3, u4, u5, u6] [.int a, .int 1] (zsetI h 84 (upd (h.2.1 84) 0 0))).trans (((yShl zgi326_38) : zex E (n + 4) (d + 1) 326 38 [some (.ref 84), some (.int a), some (.int b), u3, u4, u5, u6] [.int a, .int 1] (zsetI h 84 (upd (h.2.1 84) 0 0)) = zex E (n + 3) (d + 1) 326 39 [some (.ref 84), some (.int a), some (.int b), u3, u4, u5, u6] [.int ((1 : Int32) <<< (a &&& 31))] (zsetI h 84 (upd (h.2.1 84) 0 0))).trans (((ySn zgi326_39) : zex E (n + 3) (d + 1) 326 39 [some (.ref 84), some (.int a), some (.int b), u3, u4, u5, u6] [.int ((1 : Int32) <<< (a &&& 31))] (zsetI h 84 (upd (h.2.1 84) 0 0)) = zex E (n + 2) (d + 1) 326 40 [some (.ref 84), some (.int a), some (.int b), some (.int ((1 : Int32) <<< (a &&& 31))), u4, u5, u6] [] (zsetI h 84 (upd (h.2.1 84) 0 0))).trans (((yCi zgi326_40) : zex E (n + 2) (d + 1) 326 40 [some (.ref 84), some (.int a), some (.int b), some (.int ((1 : Int32) <<< (a &&& 31))), u4, u5, u6] [] (zsetI h 84 (upd (h.2.1 84) 0 0)) = zex E (n + 1) (d + 1) 326 41 [some (.ref 84), some (.int a), some (.int b), some (.int ((1 : Int32) <<< (a &&& 31))), u4, u5, u6] [.int 0] (zsetI h 84 (upd (h.2.1 84) 0 0))).trans (((yS zgi326_41) : zex E (n + 1) (d + 1) 326 41 [some (.ref 84), some (.int a), some (.int b), some (.int ((1 : Int32) <<< (a &&& 31))), u4, u5, u6] [.int 0] (zsetI h 84 (upd (h.2.1 84) 0 0)) = zex E n (d + 1) 326 43 [some (.ref 84), some (.int a), some (.int b), some (.int ((1 : Int32) <<< (a &&& 31))), some (.int 0), u5, u6] [] (zsetI h 84 (upd (h.2.1 84) 0 0))))))))))))))))))))))))
set_option maxRecDepth 100000 in
theorem wm_3 {E : zE} {n d : Nat} {h : zH} {a b s n9 q : Int32} {u5 u6 : Option Value} (hn : n9.toInt < q.toInt) (a84 : zat h.1 84 = some (.inr (.inl (12, [none, some (some 85), some (some 86), some (some 87), some (some 88), some (some 89), none, none, some (some 90), none, none, none, none, none, none, some (some 91), none, some (some 92), some (some 93)])))) (e1 : zex E (n + 7) d 216 0 [some (.ref 84)] [] h = some (.inl (some (.int q)), h)) (e2 : zex E (n + 3) d 210 0 [some (.int s), some (.int b)] [] h = some (.inl (some (.int 1)), h)) : zex E (n + 10) (d + 1) 326 43 [some (.ref 84), some (.int a), some (.int b), some (.int s), some (.int n9), u5, u6] [] h = some (.inl (some (.int n9)), h) :=
  ((yI zgi326_43 rfl) : zex E (n + 10) (d + 1) 326 43 [some (.ref 84), some (.int a), some (.int b), some (.int s), some (.int n9), u5, u6] [] h = zex E (n + 9) (d + 1) 326 45 [some (.ref 84), some (.int a), some (.int b), some (.int s), some (.int n9), u5, u6] [.int n9] h).trans (((yAn zgi326_45 rfl rfl) : zex E (n + 9) (d + 1) 326 45 [some (.ref 84), some (.int a), some (.int b), some (.int s), some (.int n9), u5, u6] [.int n9] h = zex E (n + 8) (d + 1) 326 46 [some (.ref 84), some (.int a), some (.int b), some (.int s), some (.int n9), u5, u6] [.ref 84, .int n9] h).trans (((zcvg (h := h) (as := []) (r := [.int n9]) zgi326_46 zni216 rfl a84 rfl e1) : zex E (n + 8) (d + 1) 326 46 [some (.ref 84), some (.int a), some (.int b), some (.int s), some (.int n9), u5, u6] [.ref 84, .int n9] h = zex E (n + 7) (d + 1) 326 49 [some (.ref 84), some (.int a), some (.int b), some (.int s), some (.int n9), u5, u6] [.int q, .int n9] h).trans (((zkgF zgi326_49 hn) : zex E (n + 7) (d + 1) 326 49 [some (.ref 84), some (.int a), some (.int b), some (.int s), some (.int n9), u5, u6] [.int q, .int n9] h = zex E (n + 6) (d + 1) 326 52 [some (.ref 84), some (.int a), some (.int b), some (.int s), some (.int n9), u5, u6] [] h).trans (((yIn zgi326_52 rfl) : zex E (n + 6) (d + 1) 326 52 [some (.ref 84), some (.int a), some (.int b), some (.int s), some (.int n9), u5, u6] [] h = zex E (n + 5) (d + 1) 326 53 [some (.ref 84), some (.int a), some (.int b), some (.int s), some (.int n9), u5, u6] [.int s] h).trans (((yIn zgi326_53 rfl) : zex E (n + 5) (d + 1) 326 53 [some (.ref 84), some (.int a), some (.int b), some (.int s), some (.int n9), u5, u6] [.int s] h = zex E (n + 4) (d + 1) 326 54 [some (.ref 84), some (.int a), some (.int b), some (.int s), some (.int n9), u5, u6] [.int b, .int s] h).trans (((zcvs (as := [.int s, .int b]) (r := []) zgi326_54 zni210 rfl rfl e2) : zex E (n + 4) (d + 1) 326 54 [some (.ref 84), some (.int a), some (.int b), some (.int s), some (.int n9), u5, u6] [.int b, .int s] h = zex E (n + 3) (d + 1) 326 57 [some (.ref 84), some (.int a), some (.int b), some (.int s), some (.int n9), u5, u6] [.int 1] h).trans (((zjeF zgi326_57 (by decide)) : zex E (n + 3) (d + 1) 326 57 [some (.ref 84), some (.int a), some (.int b), some (.int s), some (.int n9), u5, u6] [.int 1] h = zex E (n + 2) (d + 1) 326 60 [some (.ref 84), some (.int a), some (.int b), some (.int s), some (.int n9), u5, u6] [] h).trans (((yI zgi326_60 rfl) : zex E (n + 2) (d + 1) 326 60 [some (.ref 84), some (.int a), some (.int b), some (.int s), some (.int n9), u5, u6] [] h = zex E (n + 1) (d + 1) 326 62 [some (.ref 84), some (.int a), some (.int b), some (.int s), some (.int n9), u5, u6] [.int n9] h).trans (((yRet1 zgi326_62 rfl) : zex E (n + 1) (d + 1) 326 62 [some (.ref 84), some (.int a), some (.int b), some (.int s), some (.int n9), u5, u6] [.int n9] h = some (.inl (some (.int n9)), h)))))))))))
set_option maxRecDepth 100000 in
theorem wm_4 {E : zE} {n d : Nat} {h : zH} {a b s n9 q : Int32} {u5 u6 : Option Value} (hn : n9.toInt < q.toInt) (a84 : zat h.1 84 = some (.inr (.inl (12, [none, some (some 85), some (some 86), some (some 87), some (some 88), some (some 89), none, none, some (some 90), none, none, none, none, none, none, some (some 91), none, some (some 92), some (some 93)])))) (e1 : zex E (n + 9) d 216 0 [some (.ref 84)] [] h = some (.inl (some (.int q)), h)) (e2 : zex E (n + 5) d 210 0 [some (.int s), some (.int b)] [] h = some (.inl (some (.int 0)), h)) : zex E (n + 12) (d + 1) 326 43 [some (.ref 84), some (.int a), some (.int b), some (.int s), some (.int n9), u5, u6] [] h = zex E n (d + 1) 326 69 [some (.ref 84), some (.int a), some (.int b), some (.int s), some (.int n9), some (.int s), some (.int 0)] [] h :=
  ((yI zgi326_43 rfl) : zex E (n + 12) (d + 1) 326 43 [some (.ref 84), some (.int a), some (.int b), some (.int s), some (.int n9), u5, u6] [] h = zex E (n + 11) (d + 1) 326 45 [some (.ref 84), some (.int a), some (.int b), some (.int s), some (.int n9), u5, u6] [.int n9] h).trans (((yAn zgi326_45 rfl rfl) : zex E (n + 11) (d + 1) 326 45 [some (.ref 84), some (.int a), some (.int b), some (.int s), some (.int n9), u5, u6] [.int n9] h = zex E (n + 10) (d + 1) 326 46 [some (.ref 84), some (.int a), some (.int b), some (.int s), some (.int n9), u5, u6] [.ref 84, .int n9] h).trans (((zcvg (h := h) (as := []) (r := [.int n9]) zgi326_46 zni216 rfl a84 rfl e1) : zex E (n + 10) (d + 1) 326 46 [some (.ref 84), some (.int a), some (.int b), some (.int s), some (.int n9), u5, u6] [.ref 84, .int n9] h = zex E (n + 9) (d + 1) 326 49 [some (.ref 84), some (.int a), some (.int b), some (.int s), some (.int n9), u5, u6] [.int q, .int n9] h).trans (((zkgF zgi326_49 hn) : zex E (n + 9) (d + 1) 326 49 [some (.ref 84), some (.int a), some (.int b), some (.int s), some (.int n9), u5, u6] [.int q, .int n9] h = zex E (n + 8) (d + 1) 326 52 [some (.ref 84), some (.int a), some (.int b), some (.int s), some (.int n9), u5, u6] [] h).trans (((yIn zgi326_52 rfl) : zex E (n + 8) (d + 1) 326 52 [some (.ref 84), some (.int a), some (.int b), some (.int s), some (.int n9), u5, u6] [] h = zex E (n + 7) (d + 1) 326 53 [some (.ref 84), some (.int a), some (.int b), some (.int s), some (.int n9), u5, u6] [.int s] h).trans (((yIn zgi326_53 rfl) : zex E (n + 7) (d + 1) 326 53 [some (.ref 84), some (.int a), some (.int b), some (.int s), some (.int n9), u5, u6] [.int s] h = zex E (n + 6) (d + 1) 326 54 [some (.ref 84), some (.int a), some (.int b), some (.int s), some (.int n9), u5, u6] [.int b, .int s] h).trans (((zcvs (as := [.int s, .int b]) (r := []) zgi326_54 zni210 rfl rfl e2) : zex E (n + 6) (d + 1) 326 54 [some (.ref 84), some (.int a), some (.int b), some (.int s), some (.int n9), u5, u6] [.int b, .int s] h = zex E (n + 5) (d + 1) 326 57 [some (.ref 84), some (.int a), some (.int b), some (.int s), some (.int n9), u5, u6] [.int 0] h).trans (((zjeT zgi326_57 (by decide)) : zex E (n + 5) (d + 1) 326 57 [some (.ref 84), some (.int a), some (.int b), some (.int s), some (.int n9), u5, u6] [.int 0] h = zex E (n + 4) (d + 1) 326 63 [some (.ref 84), some (.int a), some (.int b), some (.int s), some (.int n9), u5, u6] [] h).trans (((yIn zgi326_63 rfl) : zex E (n + 4) (d + 1) 326 63 [some (.ref 84), some (.int a), some (.int b), some (.int s), some (.int n9), u5, u6] [] h = zex E (n + 3) (d + 1) 326 64 [some (.ref 84), some (.int a), some (.int b), some (.int s), some (.int n9), u5, u6] [.int s] h).trans (((yS zgi326_64) : zex E (n + 3) (d + 1) 326 64 [some (.ref 84), some (.int a), some (.int b), some (.int s), some (.int n9), u5, u6] [.int s] h = zex E (n + 2) (d + 1) 326 66 [some (.ref 84), some (.int a), some (.int b), some (.int s), some (.int n9), some (.int s), u6] [] h).trans (((yCi zgi326_66) : zex E (n + 2) (d + 1) 326 66 [some (.ref 84), some (.int a), some (.int b), some (.int s), some (.int n9), some (.int s), u6] [] h = zex E (n + 1) (d + 1) 326 67 [some (.ref 84), some (.int a), some (.int b), some (.int s), some (.int n9), some (.int s), u6] [.int 0] h).trans (((yS zgi326_67) : zex E (n + 1) (d + 1) 326 67 [some (.ref 84), some (.int a), some (.int b), some (.int s), some (.int n9), some (.int s), u6] [.int 0] h = zex E n (d + 1) 326 69 [some (.ref 84), some (.int a), some (.int b), some (.int s), some (.int n9), some (.int s), some (.int 0)] [] h))))))))))))
set_option maxRecDepth 100000 in
theorem wm_5 {E : zE} {n d : Nat} {h : zH} {a b s n9 q : Int32} {u5 u6 : Option Value} (hn : q.toInt ≤ n9.toInt) (a84 : zat h.1 84 = some (.inr (.inl (12, [none, some (some 85), some (some 86), some (some 87), some (some 88), some (some 89), none, none, some (some 90), none, none, none, none, none, none, some (some 91), none, some (some 92), some (some 93)])))) (e1 : zex E (n + 3) d 216 0 [some (.ref 84)] [] h = some (.inl (some (.int q)), h)) : zex E (n + 6) (d + 1) 326 43 [some (.ref 84), some (.int a), some (.int b), some (.int s), some (.int n9), u5, u6] [] h = some (.inl (some (.int (-1))), h) :=
  ((yI zgi326_43 rfl) : zex E (n + 6) (d + 1) 326 43 [some (.ref 84), some (.int a), some (.int b), some (.int s), some (.int n9), u5, u6] [] h = zex E (n + 5) (d + 1) 326 45 [some (.ref 84), some (.int a), some (.int b), some (.int s), some (.int n9), u5, u6] [.int n9] h).trans (((yAn zgi326_45 rfl rfl) : zex E (n + 5) (d + 1) 326 45 [some (.ref 84), some (.int a), some (.int b), some (.int s), some (.int n9), u5, u6] [.int n9] h = zex E (n + 4) (d + 1) 326 46 [some (.ref 84), some (.int a), some (.int b), some (.int s), some (.int n9), u5, u6] [.ref 84, .int n9] h).trans (((zcvg (h := h) (as := []) (r := [.int n9]) zgi326_46 zni216 rfl a84 rfl e1) : zex E (n + 4) (d + 1) 326 46 [some (.ref 84), some (.int a), some (.int b), some (.int s), some (.int n9), u5, u6] [.ref 84, .int n9] h = zex E (n + 3) (d + 1) 326 49 [some (.ref 84), some (.int a), some (.int b), some (.int s), some (.int n9), u5, u6] [.int q, .int n9] h).trans (((zkgT zgi326_49 hn) : zex E (n + 3) (d + 1) 326 49 [some (.ref 84), some (.int a), some (.int b), some (.int s), some (.int n9), u5, u6] [.int q, .int n9] h = zex E (n + 2) (d + 1) 326 117 [some (.ref 84), some (.int a), some (.int b), some (.int s), some (.int n9), u5, u6] [] h).trans (((yCi zgi326_117) : zex E (n + 2) (d + 1) 326 117 [some (.ref 84), some (.int a), some (.int b), some (.int s), some (.int n9), u5, u6] [] h = zex E (n + 1) (d + 1) 326 118 [some (.ref 84), some (.int a), some (.int b), some (.int s), some (.int n9), u5, u6] [.int (-1)] h).trans (((yRet1 zgi326_118 rfl) : zex E (n + 1) (d + 1) 326 118 [some (.ref 84), some (.int a), some (.int b), some (.int s), some (.int n9), u5, u6] [.int (-1)] h = some (.inl (some (.int (-1))), h)))))))
set_option maxRecDepth 100000 in
theorem wm_6 {E : zE} {n d : Nat} {h : zH} {a b s n9 w r q : Int32} {v : Int32} (hr : r.toInt < q.toInt) (a84 : zat h.1 84 = some (.inr (.inl (12, [none, some (some 85), some (some 86), some (some 87), some (some 88), some (some 89), none, none, some (some 90), none, none, none, none, none, none, some (some 91), none, some (some 92), some (some 93)])))) (e1 : zex E (n + 14) d 216 0 [some (.ref 84)] [] h = some (.inl (some (.int q)), h)) (e2 : zex E (n + 9) d 210 0 [some (.int s), some (.int r)] [] h = some (.inl (some (.int 1)), h)) (e3 : zex E (n + 5) d 271 0 [some (.ref 84), some (.int r), none, none] [] h = some (.inl (some (.int v)), h)) : zex E (n + 17) (d + 1) 326 69 [some (.ref 84), some (.int a), some (.int b), some (.int s), some (.int n9), some (.int w), some (.int r)] [] h = zex E n (d + 1) 326 69 [some (.ref 84), some (.int a), some (.int b), some (.int s), some (.int n9), some (.int (w ||| v)), some (.int (r + 1))] [] h :=
  ((yI zgi326_69 rfl) : zex E (n + 17) (d + 1) 326 69 [some (.ref 84), some (.int a), some (.int b), some (.int s), some (.int n9), some (.int w), some (.int r)] [] h = zex E (n + 16) (d + 1) 326 71 [some (.ref 84), some (.int a), some (.int b), some (.int s), some (.int n9), some (.int w), some (.int r)] [.int r] h).trans (((yAn zgi326_71 rfl rfl) : zex E (n + 16) (d + 1) 326 71 [some (.ref 84), some (.int a), some (.int b), some (.int s), some (.int n9), some (.int w), some (.int r)] [.int r] h = zex E (n + 15) (d + 1) 326 72 [some (.ref 84), some (.int a), some (.int b), some (.int s), some (.int n9), some (.int w), some (.int r)] [.ref 84, .int r] h).trans (((zcvg (h := h) (as := []) (r := [.int r]) zgi326_72 zni216 rfl a84 rfl e1) : zex E (n + 15) (d + 1) 326 72 [some (.ref 84), some (.int a), some (.int b), some (.int s), some (.int n9), some (.int w), some (.int r)] [.ref 84, .int r] h = zex E (n + 14) (d + 1) 326 75 [some (.ref 84), some (.int a), some (.int b), some (.int s), some (.int n9), some (.int w), some (.int r)] [.int q, .int r] h).trans (((zkgF zgi326_75 hr) : zex E (n + 14) (d + 1) 326 75 [some (.ref 84), some (.int a), some (.int b), some (.int s), some (.int n9), some (.int w), some (.int r)] [.int q, .int r] h = zex E (n + 13) (d + 1) 326 78 [some (.ref 84), some (.int a), some (.int b), some (.int s), some (.int n9), some (.int w), some (.int r)] [] h).trans (((yI zgi326_78 rfl) : zex E (n + 13) (d + 1) 326 78 [some (.ref 84), some (.int a), some (.int b), some (.int s), some (.int n9), some (.int w), some (.int r)] [] h = zex E (n + 12) (d + 1) 326 80 [some (.ref 84), some (.int a), some (.int b), some (.int s), some (.int n9), some (.int w), some (.int r)] [.int w] h).trans (((yIn zgi326_80 rfl) : zex E (n + 12) (d + 1) 326 80 [some (.ref 84), some (.int a), some (.int b), some (.int s), some (.int n9), some (.int w), some (.int r)] [.int w] h = zex E (n + 11) (d + 1) 326 81 [some (.ref 84), some (.int a), some (.int b), some (.int s), some (.int n9), some (.int w), some (.int r)] [.int s, .int w] h).trans (((yI zgi326_81 rfl) : zex E (n + 11) (d + 1) 326 81 [some (.ref 84), some (.int a), some (.int b), some (.int s), some (.int n9), some (.int w), some (.int r)] [.int s, .int w] h = zex E (n + 10) (d + 1) 326 83 [some (.ref 84), some (.int a), some (.int b), some (.int s), some (.int n9), some (.int w), some (.int r)] [.int r, .int s, .int w] h).trans (((zcvs (as := [.int s, .int r]) (r := [.int w]) zgi326_83 zni210 rfl rfl e2) : zex E (n + 10) (d + 1) 326 83 [some (.ref 84), some (.int a), some (.int b), some (.int s), some (.int n9), some (.int w), some (.int r)] [.int r, .int s, .int w] h = zex E (n + 9) (d + 1) 326 86 [some (.ref 84), some (.int a), some (.int b), some (.int s), some (.int n9), some (.int w), some (.int r)] [.int 1, .int w] h).trans (((zjeF zgi326_86 (by decide)) : zex E (n + 9) (d + 1) 326 86 [some (.ref 84), some (.int a), some (.int b), some (.int s), some (.int n9), some (.int w), some (.int r)] [.int 1, .int w] h = zex E (n + 8) (d + 1) 326 89 [some (.ref 84), some (.int a), some (.int b), some (.int s), some (.int n9), some (.int w), some (.int r)] [.int w] h).trans (((yAn zgi326_89 rfl rfl) : zex E (n + 8) (d + 1) 326 89 [some (.ref 84), some (.int a), some (.int b), some (.int s), some (.int n9), some (.int w), some (.int r)] [.int w] h = zex E (n + 7) (d + 1) 326 90 [some (.ref 84), some (.int a), some (.int b), some (.int s), some (.int n9), some (.int w), some (.int r)] [.ref 84, .int w] h).trans (((yI zgi326_90 rfl) : zex E (n + 7) (d + 1) 326 90 [some (.ref 84), some (.int a), some (.int b), some (.int s), some (.int n9), some (.int w), some (.int r)] [.ref 84, .int w] h = zex E (n + 6) (d + 1) 326 92 [some (.ref 84), some (.int a), some (.int b), some (.int s), some (.int n9), some (.int w), some (.int r)] [.int r, .ref 84, .int w] h).trans (((zcvg (h := h) (as := [.int r]) (r := [.int w]) zgi326_92 zni271 rfl a84 rfl e3) : zex E (n + 6) (d + 1) 326 92 [some (.ref 84), some (.int a), some (.int b), some (.int s), some (.int n9), some (.int w), some (.int r)] [.int r, .ref 84, .int w] h = zex E (n + 5) (d + 1) 326 95 [some (.ref 84), some (.int a), some (.int b), some (.int s), some (.int n9), some (.int w), some (.int r)] [.int v, .int w] h).trans (((yGo zgi326_95) : zex E (n + 5) (d + 1) 326 95 [some (.ref 84), some (.int a), some (.int b), some (.int s), some (.int n9), some (.int w), some (.int r)] [.int v, .int w] h = zex E (n + 4) (d + 1) 326 99 [some (.ref 84), some (.int a), some (.int b), some (.int s), some (.int n9), some (.int w), some (.int r)] [.int v, .int w] h).trans (((yOr zgi326_99) : zex E (n + 4) (d + 1) 326 99 [some (.ref 84), some (.int a), some (.int b), some (.int s), some (.int n9), some (.int w), some (.int r)] [.int v, .int w] h = zex E (n + 3) (d + 1) 326 100 [some (.ref 84), some (.int a), some (.int b), some (.int s), some (.int n9), some (.int w), some (.int r)] [.int (w ||| v)] h).trans (((yS zgi326_100) : zex E (n + 3) (d + 1) 326 100 [some (.ref 84), some (.int a), some (.int b), some (.int s), some (.int n9), some (.int w), some (.int r)] [.int (w ||| v)] h = zex E (n + 2) (d + 1) 326 102 [some (.ref 84), some (.int a), some (.int b), some (.int s), some (.int n9), some (.int (w ||| v)), some (.int r)] [] h).trans (((yInc zgi326_102 rfl) : zex E (n + 2) (d + 1) 326 102 [some (.ref 84), some (.int a), some (.int b), some (.int s), some (.int n9), some (.int (w ||| v)), some (.int r)] [] h = zex E (n + 1) (d + 1) 326 105 [some (.ref 84), some (.int a), some (.int b), some (.int s), some (.int n9), some (.int (w ||| v)), some (.int (r + 1))] [] h).trans (((yGo zgi326_105) : zex E (n + 1) (d + 1) 326 105 [some (.ref 84), some (.int a), some (.int b), some (.int s), some (.int n9), some (.int (w ||| v)), some (.int (r + 1))] [] h = zex E n (d + 1) 326 69 [some (.ref 84), some (.int a), some (.int b), some (.int s), some (.int n9), some (.int (w ||| v)), some (.int (r + 1))] [] h)))))))))))))))))
set_option maxRecDepth 100000 in
theorem wm_7 {E : zE} {n d : Nat} {h : zH} {a b s n9 w r q : Int32} (hr : r.toInt < q.toInt) (a84 : zat h.1 84 = some (.inr (.inl (12, [none, some (some 85), some (some 86), some (some 87), some (some 88), some (some 89), none, none, some (some 90), none, none, none, none, none, none, some (some 91), none, some (some 92), some (some 93)])))) (e1 : zex E (n + 11) d 216 0 [some (.ref 84)] [] h = some (.inl (some (.int q)), h)) (e2 : zex E (n + 6) d 210 0 [some (.int s), some (.int r)] [] h = some (.inl (some (.int 0)), h)) : zex E (n + 14) (d + 1) 326 69 [some (.ref 84), some (.int a), some (.int b), some (.int s), some (.int n9), some (.int w), some (.int r)] [] h = zex E n (d + 1) 326 69 [some (.ref 84), some (.int a), some (.int b), some (.int s), some (.int n9), some (.int (w ||| 0)), some (.int (r + 1))] [] h :=
  ((yI zgi326_69 rfl) : zex E (n + 14) (d + 1) 326 69 [some (.ref 84), some (.int a), some (.int b), some (.int s), some (.int n9), some (.int w), some (.int r)] [] h = zex E (n + 13) (d + 1) 326 71 [some (.ref 84), some (.int a), some (.int b), some (.int s), some (.int n9), some (.int w), some (.int r)] [.int r] h).trans (((yAn zgi326_71 rfl rfl) : zex E (n + 13) (d + 1) 326 71 [some (.ref 84), some (.int a), some (.int b), some (.int s), some (.int n9), some (.int w), some (.int r)] [.int r] h = zex E (n + 12) (d + 1) 326 72 [some (.ref 84), some (.int a), some (.int b), some (.int s), some (.int n9), some (.int w), some (.int r)] [.ref 84, .int r] h).trans (((zcvg (h := h) (as := []) (r := [.int r]) zgi326_72 zni216 rfl a84 rfl e1) : zex E (n + 12) (d + 1) 326 72 [some (.ref 84), some (.int a), some (.int b), some (.int s), some (.int n9), some (.int w), some (.int r)] [.ref 84, .int r] h = zex E (n + 11) (d + 1) 326 75 [some (.ref 84), some (.int a), some (.int b), some (.int s), some (.int n9), some (.int w), some (.int r)] [.int q, .int r] h).trans (((zkgF zgi326_75 hr) : zex E (n + 11) (d + 1) 326 75 [some (.ref 84), some (.int a), some (.int b), some (.int s), some (.int n9), some (.int w), some (.int r)] [.int q, .int r] h = zex E (n + 10) (d + 1) 326 78 [some (.ref 84), some (.int a), some (.int b), some (.int s), some (.int n9), some (.int w), some (.int r)] [] h).trans (((yI zgi326_78 rfl) : zex E (n + 10) (d + 1) 326 78 [some (.ref 84), some (.int a), some (.int b), some (.int s), some (.int n9), some (.int w), some (.int r)] [] h = zex E (n + 9) (d + 1) 326 80 [some (.ref 84), some (.int a), some (.int b), some (.int s), some (.int n9), some (.int w), some (.int r)] [.int w] h).trans (((yIn zgi326_80 rfl) : zex E (n + 9) (d + 1) 326 80 [some (.ref 84), some (.int a), some (.int b), some (.int s), some (.int n9), some (.int w), some (.int r)] [.int w] h = zex E (n + 8) (d + 1) 326 81 [some (.ref 84), some (.int a), some (.int b), some (.int s), some (.int n9), some (.int w), some (.int r)] [.int s, .int w] h).trans (((yI zgi326_81 rfl) : zex E (n + 8) (d + 1) 326 81 [some (.ref 84), some (.int a), some (.int b), some (.int s), some (.int n9), some (.int w), some (.int r)] [.int s, .int w] h = zex E (n + 7) (d + 1) 326 83 [some (.ref 84), some (.int a), some (.int b), some (.int s), some (.int n9), some (.int w), some (.int r)] [.int r, .int s, .int w] h).trans (((zcvs (as := [.int s, .int r]) (r := [.int w]) zgi326_83 zni210 rfl rfl e2) : zex E (n + 7) (d + 1) 326 83 [some (.ref 84), some (.int a), some (.int b), some (.int s), some (.int n9), some (.int w), some (.int r)] [.int r, .int s, .int w] h = zex E (n + 6) (d + 1) 326 86 [some (.ref 84), some (.int a), some (.int b), some (.int s), some (.int n9), some (.int w), some (.int r)] [.int 0, .int w] h).trans (((zjeT zgi326_86 (by decide)) : zex E (n + 6) (d + 1) 326 86 [some (.ref 84), some (.int a), some (.int b), some (.int s), some (.int n9), some (.int w), some (.int r)] [.int 0, .int w] h = zex E (n + 5) (d + 1) 326 98 [some (.ref 84), some (.int a), some (.int b), some (.int s), some (.int n9), some (.int w), some (.int r)] [.int w] h).trans (((yCi zgi326_98) : zex E (n + 5) (d + 1) 326 98 [some (.ref 84), some (.int a), some (.int b), some (.int s), some (.int n9), some (.int w), some (.int r)] [.int w] h = zex E (n + 4) (d + 1) 326 99 [some (.ref 84), some (.int a), some (.int b), some (.int s), some (.int n9), some (.int w), some (.int r)] [.int 0, .int w] h).trans (((yOr zgi326_99) : zex E (n + 4) (d + 1) 326 99 [some (.ref 84), some (.int a), some (.int b), some (.int s), some (.int n9), some (.int w), some (.int r)] [.int 0, .int w] h = zex E (n + 3) (d + 1) 326 100 [some (.ref 84), some (.int a), some (.int b), some (.int s), some (.int n9), some (.int w), some (.int r)] [.int (w ||| 0)] h).trans (((yS zgi326_100) : zex E (n + 3) (d + 1) 326 100 [some (.ref 84), some (.int a), some (.int b), some (.int s), some (.int n9), some (.int w), some (.int r)] [.int (w ||| 0)] h = zex E (n + 2) (d + 1) 326 102 [some (.ref 84), some (.int a), some (.int b), some (.int s), some (.int n9), some (.int (w ||| 0)), some (.int r)] [] h).trans (((yInc zgi326_102 rfl) : zex E (n + 2) (d + 1) 326 102 [some (.ref 84), some (.int a), some (.int b), some (.int s), some (.int n9), some (.int (w ||| 0)), some (.int r)] [] h = zex E (n + 1) (d + 1) 326 105 [some (.ref 84), some (.int a), some (.int b), some (.int s), some (.int n9), some (.int (w ||| 0)), some (.int (r + 1))] [] h).trans (((yGo zgi326_105) : zex E (n + 1) (d + 1) 326 105 [some (.ref 84), some (.int a), some (.int b), some (.int s), some (.int n9), some (.int (w ||| 0)), some (.int (r + 1))] [] h = zex E n (d + 1) 326 69 [some (.ref 84), some (.int a), some (.int b), some (.int s), some (.int n9), some (.int (w ||| 0)), some (.int (r + 1))] [] h))))))))))))))
set_option maxRecDepth 100000 in
theorem wm_8 {E : zE} {n d : Nat} {h : zH} {a b s n9 w r q : Int32} (hr : q.toInt ≤ r.toInt) (a84 : zat h.1 84 = some (.inr (.inl (12, [none, some (some 85), some (some 86), some (some 87), some (some 88), some (some 89), none, none, some (some 90), none, none, none, none, none, none, some (some 91), none, some (some 92), some (some 93)])))) (e1 : zex E (n + 5) d 216 0 [some (.ref 84)] [] h = some (.inl (some (.int q)), h)) : zex E (n + 8) (d + 1) 326 69 [some (.ref 84), some (.int a), some (.int b), some (.int s), some (.int n9), some (.int w), some (.int r)] [] h = zex E n (d + 1) 326 43 [some (.ref 84), some (.int a), some (.int b), some (.int w), some (.int (n9 + 1)), some (.int w), some (.int r)] [] h :=
  ((yI zgi326_69 rfl) : zex E (n + 8) (d + 1) 326 69 [some (.ref 84), some (.int a), some (.int b), some (.int s), some (.int n9), some (.int w), some (.int r)] [] h = zex E (n + 7) (d + 1) 326 71 [some (.ref 84), some (.int a), some (.int b), some (.int s), some (.int n9), some (.int w), some (.int r)] [.int r] h).trans (((yAn zgi326_71 rfl rfl) : zex E (n + 7) (d + 1) 326 71 [some (.ref 84), some (.int a), some (.int b), some (.int s), some (.int n9), some (.int w), some (.int r)] [.int r] h = zex E (n + 6) (d + 1) 326 72 [some (.ref 84), some (.int a), some (.int b), some (.int s), some (.int n9), some (.int w), some (.int r)] [.ref 84, .int r] h).trans (((zcvg (h := h) (as := []) (r := [.int r]) zgi326_72 zni216 rfl a84 rfl e1) : zex E (n + 6) (d + 1) 326 72 [some (.ref 84), some (.int a), some (.int b), some (.int s), some (.int n9), some (.int w), some (.int r)] [.ref 84, .int r] h = zex E (n + 5) (d + 1) 326 75 [some (.ref 84), some (.int a), some (.int b), some (.int s), some (.int n9), some (.int w), some (.int r)] [.int q, .int r] h).trans (((zkgT zgi326_75 hr) : zex E (n + 5) (d + 1) 326 75 [some (.ref 84), some (.int a), some (.int b), some (.int s), some (.int n9), some (.int w), some (.int r)] [.int q, .int r] h = zex E (n + 4) (d + 1) 326 108 [some (.ref 84), some (.int a), some (.int b), some (.int s), some (.int n9), some (.int w), some (.int r)] [] h).trans (((yI zgi326_108 rfl) : zex E (n + 4) (d + 1) 326 108 [some (.ref 84), some (.int a), some (.int b), some (.int s), some (.int n9), some (.int w), some (.int r)] [] h = zex E (n + 3) (d + 1) 326 110 [some (.ref 84), some (.int a), some (.int b), some (.int s), some (.int n9), some (.int w), some (.int r)] [.int w] h).trans (((ySn zgi326_110) : zex E (n + 3) (d + 1) 326 110 [some (.ref 84), some (.int a), some (.int b), some (.int s), some (.int n9), some (.int w), some (.int r)] [.int w] h = zex E (n + 2) (d + 1) 326 111 [some (.ref 84), some (.int a), some (.int b), some (.int w), some (.int n9), some (.int w), some (.int r)] [] h).trans (((yInc zgi326_111 rfl) : zex E (n + 2) (d + 1) 326 111 [some (.ref 84), some (.int a), some (.int b), some (.int w), some (.int n9), some (.int w), some (.int r)] [] h = zex E (n + 1) (d + 1) 326 114 [some (.ref 84), some (.int a), some (.int b), some (.int w), some (.int (n9 + 1)), some (.int w), some (.int r)] [] h).trans (((yGo zgi326_114) : zex E (n + 1) (d + 1) 326 114 [some (.ref 84), some (.int a), some (.int b), some (.int w), some (.int (n9 + 1)), some (.int w), some (.int r)] [] h = zex E n (d + 1) 326 43 [some (.ref 84), some (.int a), some (.int b), some (.int w), some (.int (n9 + 1)), some (.int w), some (.int r)] [] h))))))))
/-- is there one among the first ones? -/
def anb (f : Nat → Bool) : Nat → Bool
  | 0 => false
  | n + 1 => anb f n || f n
def cnb (f : Nat → Bool) : Nat → Nat
  | 0 => 0
  | n + 1 => cnb f n + (if f n = true then 1 else 0)
set_option maxRecDepth 100000 in
theorem anb_c {f g : Nat → Bool} : ∀ {n : Nat}, (∀ r, r < n → f r = g r) → anb f n = anb g n
  | 0, _ => rfl
  | n + 1, h => by
    unfold anb
    rw [anb_c (n := n) fun r hr => h r (by omega), h n (by omega)]
set_option maxRecDepth 100000 in
theorem anb_f {f : Nat → Bool} : ∀ {n : Nat}, (∀ r, r < n → f r = false) → anb f n = false
  | 0, _ => rfl
  | n + 1, h => by
    unfold anb
    rw [anb_f (n := n) fun r hr => h r (by omega), h n (by omega)]
    rfl
set_option maxRecDepth 100000 in
theorem cnb_le {f : Nat → Bool} : ∀ {n : Nat}, cnb f n ≤ n
  | 0 => Nat.le_refl _
  | n + 1 => by
    have := cnb_le (f := f) (n := n)
    unfold cnb
    split <;> omega
set_option maxRecDepth 100000 in
theorem cnb_full {f : Nat → Bool} : ∀ {n : Nat}, n ≤ cnb f n → ∀ b, b < n → f b = true
  | 0, _, b, hb => absurd hb (Nat.not_lt_zero b)
  | n + 1, h, b, hb => by
    have h1 := cnb_le (f := f) (n := n)
    unfold cnb at h
    by_cases hf : f n = true
    · rw [if_pos hf] at h
      by_cases hbn : b = n
      · rw [hbn]; exact hf
      · exact cnb_full (n := n) (by omega) b (by omega)
    · rw [if_neg hf] at h; omega
set_option maxRecDepth 100000 in
theorem cnb_m {f g : Nat → Bool} : ∀ {n : Nat}, (∀ b, b < n → f b = true → g b = true) → cnb f n ≤ cnb g n
  | 0, _ => Nat.le_refl _
  | n + 1, h => by
    have h1 := cnb_m (f := f) (g := g) (n := n) fun b hb => h b (by omega)
    unfold cnb
    by_cases hf : f n = true
    · rw [if_pos hf, if_pos (h n (by omega) hf)]; omega
    · rw [if_neg hf]; omega
set_option maxRecDepth 100000 in
theorem cnb_lt {f g : Nat → Bool} : ∀ {n : Nat}, (∀ b, b < n → f b = true → g b = true) → (∃ b, b < n ∧ f b = false ∧ g b = true) → cnb f n < cnb g n
  | 0, _, ⟨b, hb, _⟩ => absurd hb (Nat.not_lt_zero b)
  | n + 1, h, ⟨b, hb, h1, h2⟩ => by
    have hm := cnb_m (f := f) (g := g) (n := n) fun b hb => h b (by omega)
    unfold cnb
    by_cases hbn : b = n
    · subst hbn
      rw [h1, h2, if_pos rfl, if_neg (by decide)]; omega
    · have := cnb_lt (f := f) (g := g) (n := n) (fun b hb => h b (by omega)) ⟨b, by omega, h1, h2⟩
      by_cases hf : f n = true
      · rw [if_pos hf, if_pos (h n (by omega) hf)]; omega
      · rw [if_neg hf]; omega
set_option maxRecDepth 100000 in
theorem cnb_1 {f : Nat → Bool} : ∀ {n b : Nat}, b < n → f b = true → 1 ≤ cnb f n
  | 0, b, hb, _ => absurd hb (Nat.not_lt_zero b)
  | n + 1, b, hb, h => by
    unfold cnb
    by_cases hbn : b = n
    · subst hbn; rw [if_pos h]; omega
    · have := cnb_1 (f := f) (n := n) (b := b) (by omega) h
      omega
/-- ROOMS reached by so many DOORS at most -/
def rch (l : List (Nat × Nat)) (R a : Nat) : Nat → Nat → Bool
  | 0, b => Nat.beq b a
  | n + 1, b => rch l R a n b || anb (fun r => rch l R a n r && dor l r b) R
def fstn (f : Nat → Bool) : Nat → Nat → Int
  | 0, _ => -1
  | k + 1, n => if f n = true then (n : Int) else fstn f k (n + 1)
set_option maxRecDepth 100000 in
theorem fstn_a {f : Nat → Bool} : ∀ k n, (∀ m, n ≤ m → m < n + k → f m = false) → fstn f k n = -1
  | 0, _, _ => rfl
  | k + 1, n, h => by
    unfold fstn
    rw [h n (Nat.le_refl _) (by omega), if_neg (by decide)]
    exact fstn_a k (n + 1) fun m h1 h2 => h m (by omega) (by omega)
set_option maxRecDepth 100000 in
theorem fstn_b {f : Nat → Bool} : ∀ k j n, (∃ m, n ≤ m ∧ m < n + k ∧ f m = true) → fstn f (k + j) n = fstn f k n
  | 0, _, n, ⟨m, h1, h2, _⟩ => absurd h2 (by omega)
  | k + 1, j, n, ⟨m, h1, h2, h3⟩ => by
    rw [show k + 1 + j = (k + j) + 1 by omega]
    unfold fstn
    by_cases hf : f n = true
    · rw [if_pos hf, if_pos hf]
    · rw [if_neg hf, if_neg hf]
      have : m ≠ n := fun z => hf (by rw [← z]; exact h3)
      exact fstn_b k j (n + 1) ⟨m, by omega, by omega, h3⟩
section RCH
variable {l : List (Nat × Nat)} {R a : Nat}
set_option maxRecDepth 100000 in
theorem rch_m {n b : Nat} (h : rch l R a n b = true) : rch l R a (n + 1) b = true := by
  show (rch l R a n b || anb (fun r => rch l R a n r && dor l r b) R) = true
  rw [h, Bool.true_or]
set_option maxRecDepth 100000 in
theorem rch_s {n : Nat} (h : ∀ b, b < R → rch l R a (n + 1) b = rch l R a n b) : ∀ k b, b < R → rch l R a (n + k) b = rch l R a n b
  | 0, b, _ => rfl
  | k + 1, b, hb => by
    show (rch l R a (n + k) b || anb (fun r => rch l R a (n + k) r && dor l r b) R) = rch l R a n b
    rw [rch_s h k b hb, anb_c (g := fun r => rch l R a n r && dor l r b) fun r hr => by rw [rch_s h k r hr]]
    exact h b hb
set_option maxRecDepth 100000 in
theorem rch_p (ha : a < R) : ∀ n, (∃ m, m < n ∧ ∀ b, b < R → rch l R a (m + 1) b = rch l R a m b) ∨ n + 1 ≤ cnb (rch l R a n) R
  | 0 => Or.inr (cnb_1 ha (show Nat.beq a a = true from Nat.beq_refl a))
  | n + 1 => by
    rcases rch_p ha n with ⟨m, h1, h2⟩ | h
    · exact Or.inl ⟨m, by omega, h2⟩
    · by_cases hs : ∀ b, b < R → rch l R a (n + 1) b = rch l R a n b
      · exact Or.inl ⟨n, by omega, hs⟩
      · right
        have hs : ∃ b, b < R ∧ rch l R a n b = false ∧ rch l R a (n + 1) b = true := by
          refine Classical.byContradiction fun hc => hs fun b hb => ?_
          cases h1 : rch l R a n b with
          | true => exact rch_m h1
          | false =>
            cases h2 : rch l R a (n + 1) b with
            | false => rfl
            | true => exact absurd ⟨b, hb, h1, h2⟩ hc
        have := cnb_lt (f := rch l R a n) (g := rch l R a (n + 1)) (fun b _ => rch_m) hs
        omega
set_option maxRecDepth 100000 in
theorem rch_12 (ha : a < R) (hR : R ≤ 12) {t : Nat} (ht : t < R) : fstn (fun n => rch l R a n t) 12 0 = fstn (fun n => rch l R a n t) R 0 := by
  by_cases h : ∃ m, m < R ∧ rch l R a m t = true
  · obtain ⟨m, h1, h2⟩ := h
    have := fstn_b (f := fun n => rch l R a n t) R (12 - R) 0 ⟨m, Nat.zero_le _, by omega, h2⟩
    rw [show R + (12 - R) = 12 by omega] at this
    exact this
  · have no : ∀ m, m < R → rch l R a m t = false := fun m hm => by
      cases hz : rch l R a m t with
      | false => rfl
      | true => exact absurd ⟨m, hm, hz⟩ h
    have all : ∀ m, rch l R a m t = false := by
      rcases rch_p (l := l) ha (R - 1) with ⟨m, h1, h2⟩ | h1
      · intro k
        by_cases hk : k < R
        · exact no k hk
        · have := rch_s h2 (k - m) t ht
          rw [show m + (k - m) = k by omega] at this
          rw [this]
          exact no m (by omega)
      · have := cnb_full (f := rch l R a (R - 1)) (n := R) (by omega) t ht
        rw [no (R - 1) (by omega)] at this
        cases this
    rw [fstn_a _ _ fun m _ _ => all m, fstn_a _ _ fun m _ _ => all m]
end RCH
/-- bits of a number below 4096 -/
def bNs (x : Int32) (f : Nat → Bool) : Prop := ∃ n : Nat, x.toInt = (n : Int) ∧ n < 4096 ∧ ∀ b, b < 12 → Nat.testBit n b = f b
set_option maxRecDepth 100000 in
theorem bNs_c {x : Int32} {f g : Nat → Bool} (h : bNs x f) (e : ∀ b, b < 12 → f b = g b) : bNs x g := by
  obtain ⟨n, h1, h2, h3⟩ := h
  exact ⟨n, h1, h2, fun b hb => (h3 b hb).trans (e b hb)⟩
set_option maxRecDepth 100000 in
theorem bNs_t {x b : Int32} {f : Nat → Bool} {B : Nat} (h : bNs x f) (hb : b.toInt = (B : Int)) (hB : B < 12) : ((x >>> (b &&& 31)) &&& 1).toInt = if f B = true then 1 else 0 := by
  obtain ⟨n, h1, h2, h3⟩ := h
  rw [i32_nat hb, and1_n (shr_n h1 h2 hB), ← h3 B hB]
  unfold Nat.testBit
  rw [Nat.and_comm, Nat.and_one_is_mod]
  have h4 : n >>> B % 2 < 2 := Nat.mod_lt _ (by decide)
  cases h5 : n >>> B % 2 with
  | zero => rfl
  | succ m =>
    have : m = 0 := by omega
    subst this
    rfl
set_option maxRecDepth 100000 in
theorem bNs_o {x y : Int32} {f g : Nat → Bool} (h : bNs x f) (k : bNs y g) : bNs (x ||| y) (fun b => f b || g b) := by
  obtain ⟨n, h1, h2, h3⟩ := h
  obtain ⟨m, k1, k2, k3⟩ := k
  obtain ⟨o1, o2⟩ := or_n h1 k1 h2 k2
  exact ⟨n ||| m, o1, o2, fun b hb => by rw [Nat.testBit_or, h3 b hb, k3 b hb]⟩
set_option maxRecDepth 100000 in
theorem bNs_0 : bNs 0 (fun _ => false) := ⟨0, by decide, by decide, fun b _ => by rw [Nat.zero_testBit]⟩
set_option maxRecDepth 100000 in
theorem bNs_1 {z : Int32} {a : Nat} (hz : z.toInt = (a : Int)) (ha : a < 12) : bNs ((1 : Int32) <<< (z &&& 31)) (fun b => Nat.beq b a) := by
  obtain ⟨s1, s2⟩ := shl_n hz ha
  refine ⟨2 ^ a, s1, s2, fun b _ => ?_⟩
  rw [Nat.testBit_two_pow]
  show decide (a = b) = Nat.beq b a
  by_cases hq : a = b
  · subst hq; rw [Nat.beq_refl]; exact decide_eq_true rfl
  · rw [nbq (Ne.symm hq), decide_eq_false hq]
def wyl (σ : hSt) (a b : Int) : Int := fstn (fun n => rch (sdl σ) (sR σ) a.toNat n b.toNat) (sR σ) 0
set_option maxRecDepth 100000 in
theorem fstn_t {f : Nat → Bool} {k n : Nat} (h : f n = true) : fstn f (k + 1) n = (n : Int) := by
  show (if f n = true then (n : Int) else fstn f k (n + 1)) = _
  rw [if_pos h]
set_option maxRecDepth 100000 in
theorem fstn_f {f : Nat → Bool} {k n : Nat} (h : f n = false) : fstn f (k + 1) n = fstn f k (n + 1) := by
  show (if f n = true then (n : Int) else fstn f k (n + 1)) = _
  rw [h, if_neg (by decide)]
set_option maxRecDepth 100000 in
theorem ble_t {a b : Nat} (h : a ≤ b) : Nat.ble a b = true := Nat.ble_eq_true_of_le h
set_option maxRecDepth 100000 in
theorem ble_f {a b : Nat} (h : ¬ a ≤ b) : Nat.ble a b = false := by
  cases hz : Nat.ble a b with
  | false => rfl
  | true => exact absurd (Nat.le_of_ble_eq_true hz) h
set_option maxRecDepth 100000 in
theorem ble_1 {g : Nat → Bool} {o b : Nat} (hg : g o = true) : ((Nat.ble (b + 1) o && g b) || Nat.beq b o) = (Nat.ble (b + 1) (o + 1) && g b) := by
  by_cases hb : b = o
  · subst hb
    rw [hg, Nat.beq_refl, ble_t (Nat.le_refl (b + 1)), Bool.or_true]
    rfl
  · rw [nbq hb, Bool.or_false]
    by_cases hl : b < o
    · rw [ble_t (show b + 1 ≤ o by omega), ble_t (show b + 1 ≤ o + 1 by omega)]
    · rw [ble_f (show ¬ b + 1 ≤ o by omega), ble_f (show ¬ b + 1 ≤ o + 1 by omega)]
set_option maxRecDepth 100000 in
theorem ble_0 {g : Nat → Bool} {o b : Nat} (hg : g o = false) : (Nat.ble (b + 1) o && g b) = (Nat.ble (b + 1) (o + 1) && g b) := by
  by_cases hb : b = o
  · subst hb
    rw [hg, Bool.and_false, Bool.and_false]
  · by_cases hl : b < o
    · rw [ble_t (show b + 1 ≤ o by omega), ble_t (show b + 1 ≤ o + 1 by omega)]
    · rw [ble_f (show ¬ b + 1 ≤ o by omega), ble_f (show ¬ b + 1 ≤ o + 1 by omega)]
set_option maxRecDepth 100000 in
theorem dor_lt {σ : hSt} (hW : WF σ) {r b : Nat} (h : dor (sdl σ) r b = true) : b < sR σ := by
  unfold dor at h
  rw [List.any_eq_true] at h
  obtain ⟨q, hq, h2⟩ := h
  have h5 := hW.2.2.2.2.1 q hq
  rw [Bool.or_eq_true, Bool.and_eq_true, Bool.and_eq_true] at h2
  rcases h2 with ⟨h3, h4⟩ | ⟨h3, h4⟩
  · have := Nat.eq_of_beq_eq_true h4
    omega
  · have := Nat.eq_of_beq_eq_true h3
    omega
set_option maxRecDepth 100000 in
theorem w_i12 : (12 : Int32).toInt = 12 := by decide
def wcQ (h : zH) (σ : hSt) (a9 b9 : Int32) (o : Option zR) : Prop := if (0 ≤ a9.toInt ∧ a9.toInt < (sR σ : Int)) ∧ 0 ≤ b9.toInt ∧ b9.toInt < (sR σ : Int) then ∃ h1 : zH, o = some (.inl (some (.int 0)), h1) ∧ bRQ ctb sc32.2.1 h 1 6 h1 ∧ (h1.2.2.1 94 0).toInt = wyl σ a9.toInt b9.toInt else ∃ h1 : zH, o = some (.inl (some (.int 1)), h1) ∧ bRQ ctb sc32.2.1 h 1 6 h1
def wmQ (h : zH) (σ : hSt) (a9 b9 : Int32) (o : Option zR) : Prop := if (0 ≤ a9.toInt ∧ a9.toInt < (sR σ : Int)) ∧ 0 ≤ b9.toInt ∧ b9.toInt < (sR σ : Int) then ∃ (y : Int32) (h1 : zH), o = some (.inl (some (.int y)), h1) ∧ bRQ ctb sc404.2.1 h 0 0 h1 ∧ (h1.2.1 84 0).toInt = 0 ∧ y.toInt = wyl σ a9.toInt b9.toInt else ∃ (y : Int32) (h1 : zH), o = some (.inl (some (.int y)), h1) ∧ bRQ ctb sc404.2.1 h 0 0 h1 ∧ (h1.2.1 84 0).toInt = 1
section WA
variable {E : zE} {B : Nat} {h : zH} {σ : hSt}
set_option maxRecDepth 100000 in
theorem fdI (gT : bTB ctb h.1) (hR : RC h 4 18 σ) (hW : WF σ) {a9 b9 s9 n9 : Int32} {f : Nat → Bool} (hs : bNs s9 f) : ∀ (k j : Nat) (w9 r9 : Int32), k + j = sR σ → r9.toInt = (j : Int) → bNs w9 (fun b => f b || anb (fun r => f r && dor (sdl σ) r b) j) → ∀ d e m, 19 * k + m ≤ e → ∃ e' w' r', m ≤ e' ∧ zex E e d 177 31 [some (.ref 4), some (.int a9), some (.int b9), some (.int s9), some (.int n9), some (.int w9), some (.int r9)] [] h = zex E e' d 177 31 [some (.ref 4), some (.int a9), some (.int b9), some (.int s9), some (.int n9), some (.int w'), some (.int r')] [] h ∧ r'.toInt = (sR σ : Int) ∧ bNs w' (fun b => f b || anb (fun r => f r && dor (sdl σ) r b) (sR σ)) := by
  obtain ⟨⟨r1, r2, r3⟩, r4, _⟩ := hR
  have w1 := hW.1
  intro k
  induction k with
  | zero =>
    intro j w9 r9 hk hr hw d e m hm
    have hj : j = sR σ := by omega
    subst hj
    exact ⟨e, w9, r9, by omega, rfl, hr, hw⟩
  | succ k IH =>
    intro j w9 r9 hk hr hw d e m hm
    have r10 : (r9 + 1).toInt = ((j + 1 : Nat) : Int) := by rw [i32_add (by rw [hr, int1]; omega) (by rw [hr, int1]; omega), hr, int1]; omega
    have bt := bNs_t hs hr (by omega)
    by_cases hf : f j = true
    · rw [if_pos hf] at bt
      have nb : bNs (h.2.1 7 j) (dor (sdl σ) j) := r4 j (by omega)
      obtain ⟨n, hn⟩ : ∃ n, e = n + 19 := ⟨e - 19, by omega⟩
      subst hn
      obtain ⟨e', w', r', q0, q, q1, q2⟩ := IH (j + 1) (w9 ||| h.2.1 7 j) (r9 + 1) (by omega) r10 (bNs_c (bNs_o hw nb) fun b _ => by
        show (f b || anb (fun r => f r && dor (sdl σ) r b) j || dor (sdl σ) j b) = (f b || (anb (fun r => f r && dor (sdl σ) r b) j || (f j && dor (sdl σ) j b)))
        rw [hf, Bool.true_and, Bool.or_assoc]) d n m (by omega)
      exact ⟨e', w', r', q0, (fd_5 (E := E) (n := n) (d := d) (by rw [r1, hr]; omega) (by rw [bt]; decide) hr (by omega) rfl (gT 4 _ (show bg2 ctb 4 = some (.inr (.inl (8, [none, none, none, none, some (some 5), some (some 6), some (some 7), some (some 8), some (some 9)]))) from rfl) (by intro z; cases z)) (gT 7 _ (show bg2 ctb 7 = some (.inl (0, 12, [])) from rfl) (by intro z; cases z))).trans q, q1, q2⟩
    · have hf0 := eq_false_of_ne_true hf
      rw [if_neg hf] at bt
      obtain ⟨n, hn⟩ : ∃ n, e = n + 12 := ⟨e - 12, by omega⟩
      subst hn
      obtain ⟨e', w', r', q0, q, q1, q2⟩ := IH (j + 1) w9 (r9 + 1) (by omega) r10 (bNs_c hw fun b _ => by
        show (f b || anb (fun r => f r && dor (sdl σ) r b) j) = (f b || (anb (fun r => f r && dor (sdl σ) r b) j || (f j && dor (sdl σ) j b)))
        rw [hf0, Bool.false_and, Bool.or_false]) d n m (by omega)
      exact ⟨e', w', r', q0, (fd_4 (E := E) (n := n) (d := d) (by rw [r1, hr]; omega) bt (gT 4 _ (show bg2 ctb 4 = some (.inr (.inl (8, [none, none, none, none, some (some 5), some (some 6), some (some 7), some (some 8), some (some 9)]))) from rfl) (by intro z; cases z))).trans q, q1, q2⟩
set_option maxRecDepth 100000 in
theorem fdO (gT : bTB ctb h.1) (hR : RC h 4 18 σ) (hW : WF σ) {a9 b9 : Int32} {a t : Nat} (ht : b9.toInt = (t : Int)) (htR : t < sR σ) : ∀ (k m : Nat) (s9 n9 : Int32) (u5 u6 : Option Value), k + m = 12 → n9.toInt = (m : Int) → bNs s9 (rch (sdl σ) (sR σ) a m) → ∀ d e, 300 * (k + 1) ≤ e → ∃ z : Int32, zex E e d 177 7 [some (.ref 4), some (.int a9), some (.int b9), some (.int s9), some (.int n9), u5, u6] [] h = some (.inl (some (.int z)), h) ∧ z.toInt = fstn (fun n => rch (sdl σ) (sR σ) a n t) k m := by
  have w1 := hW.1
  have r1 := hR.1.1
  intro k
  induction k with
  | zero =>
    intro m s9 n9 u5 u6 hk hn hs d e he
    obtain ⟨n, hq⟩ : ∃ n, e = n + 5 := ⟨e - 5, by omega⟩
    subst hq
    exact ⟨-1, fd_3 (E := E) (n := n) (d := d) (by rw [w_i12, hn]; omega), (show (-1 : Int32).toInt = -1 by decide)⟩
  | succ k IH =>
    intro m s9 n9 u5 u6 hk hn hs d e he
    have bt := bNs_t hs ht (by omega)
    by_cases hf : rch (sdl σ) (sR σ) a m t = true
    · rw [if_pos hf] at bt
      obtain ⟨n, hq⟩ : ∃ n, e = n + 11 := ⟨e - 11, by omega⟩
      subst hq
      exact ⟨n9, fd_1 (E := E) (n := n) (d := d) (by rw [w_i12, hn]; omega) (by rw [bt]; decide), by rw [fstn_t (f := fun n => rch (sdl σ) (sR σ) a n t) hf]; exact hn⟩
    · rw [if_neg hf] at bt
      obtain ⟨n, hq⟩ : ∃ n, e = n + 13 := ⟨e - 13, by omega⟩
      subst hq
      obtain ⟨e', w', r', q0, q, q1, q2⟩ := fdI (E := E) gT hR hW (a9 := a9) (b9 := b9) (n9 := n9) hs (sR σ) 0 s9 0 (by omega) rfl (bNs_c hs fun b _ => (Bool.or_false _).symm) d n (300 * (k + 1) + 8) (by omega)
      obtain ⟨n2, hq⟩ : ∃ n, e' = n + 8 := ⟨e' - 8, by omega⟩
      subst hq
      have n10 : (n9 + 1).toInt = ((m + 1 : Nat) : Int) := by rw [i32_add (by rw [hn, int1]; omega) (by rw [hn, int1]; omega), hn, int1]; omega
      obtain ⟨z, z1, z2⟩ := IH (m + 1) w' (n9 + 1) (some (.int w')) (some (.int r')) (by omega) n10 (bNs_c q2 fun b _ => rfl) d n2 (by omega)
      exact ⟨z, (fd_2 (E := E) (n := n) (d := d) (by rw [w_i12, hn]; omega) bt).trans (q.trans ((fd_6 (E := E) (n := n2) (d := d) (by rw [r1, q1]; omega) (gT 4 _ (show bg2 ctb 4 = some (.inr (.inl (8, [none, none, none, none, some (some 5), some (some 6), some (some 7), some (some 8), some (some 9)]))) from rfl) (by intro z; cases z))).trans z1)), by rw [fstn_f (f := fun n => rch (sdl σ) (sR σ) a n t) (eq_false_of_ne_true hf)]; exact z2⟩
set_option maxRecDepth 100000 in
theorem y_bes {W : Nat} {g0 : zH} {ga gb : Nat} (hr : bRQ ctb W g0 ga gb h) (hM : RM h σ) (hW : WF σ) {r9 : Int32} {r : Nat} (hr9 : r9.toInt = (r : Int)) : ∀ (k o : Nat) (s9 o9 : Int32), k + o = sR σ → o9.toInt = (o : Int) → bNs s9 (fun b => Nat.ble (b + 1) o && dor (sdl σ) r b) → ∀ d f, 2300 * (k + 1) ≤ f → ∃ z : Int32, zex E f (d + 1) 271 4 [some (.ref 84), some (.int r9), some (.int s9), some (.int o9)] [] h = some (.inl (some (.int z)), h) ∧ bNs z (dor (sdl σ) r) := by
  have w1 := hW.1
  have r1 := hM.1.1
  have a84 := b84_ha hr
  have a85 := b85_ha hr
  intro k
  induction k with
  | zero =>
    intro o s9 o9 hk ho hs d f hf
    obtain ⟨n, hq⟩ : ∃ n, f = n + 10 + 6 := ⟨f - 10 - 6, by omega⟩
    subst hq
    refine ⟨s9, bo_3 (E := E) (n := n + 10) (d := d) (q := h.2.1 85 0) (by rw [r1, ho]; omega) a84 (mh_rooms (n := n + 8) rfl a84 a85), bNs_c hs fun b _ => ?_⟩
    show (Nat.ble (b + 1) o && dor (sdl σ) r b) = dor (sdl σ) r b
    cases hd : dor (sdl σ) r b with
    | false => exact Bool.and_false _
    | true =>
      have := dor_lt hW hd
      rw [ble_t (show b + 1 ≤ o by omega)]
      rfl
  | succ k IH =>
    intro o s9 o9 hk ho hs d f hf
    have o10 : (o9 + 1).toInt = ((o + 1 : Nat) : Int) := by rw [i32_add (by rw [ho, int1]; omega) (by rw [ho, int1]; omega), ho, int1]; omega
    by_cases hd : dor (sdl σ) r o = true
    · obtain ⟨n, hq⟩ : ∃ n, f = n + 18 := ⟨f - 18, by omega⟩
      subst hq
      have ne := y_near (E := E) hr hM hW hr9 ho d (n + 9) (by omega)
      rw [if_pos hd] at ne
      obtain ⟨z, z1, z2⟩ := IH (o + 1) _ (o9 + 1) (by omega) o10 (bNs_c (bNs_o hs (bNs_1 ho (by omega))) fun b _ => ble_1 (g := dor (sdl σ) r) hd) d n (by omega)
      exact ⟨z, (bo_1 (E := E) (n := n) (d := d) (q := h.2.1 85 0) (by rw [r1, ho]; omega) a84 (mh_rooms (n := n + 10) rfl a84 a85) ne).trans z1, z2⟩
    · obtain ⟨n, hq⟩ : ∃ n, f = n + 15 := ⟨f - 15, by omega⟩
      subst hq
      have ne := y_near (E := E) hr hM hW hr9 ho d (n + 6) (by omega)
      rw [if_neg hd] at ne
      obtain ⟨z, z1, z2⟩ := IH (o + 1) _ (o9 + 1) (by omega) o10 (bNs_c (bNs_o hs bNs_0) fun b _ => (Bool.or_false _).trans (ble_0 (g := dor (sdl σ) r) (eq_false_of_ne_true hd))) d n (by omega)
      exact ⟨z, (bo_2 (E := E) (n := n) (d := d) (q := h.2.1 85 0) (by rw [r1, ho]; omega) a84 (mh_rooms (n := n + 7) rfl a84 a85) ne).trans z1, z2⟩
set_option maxRecDepth 100000 in
theorem y_beside {W : Nat} {g0 : zH} {ga gb : Nat} (hr : bRQ ctb W g0 ga gb h) (hM : RM h σ) (hW : WF σ) {r9 : Int32} {r : Nat} (hr9 : r9.toInt = (r : Int)) : ∀ d f, 30000 ≤ f → ∃ z : Int32, zex E f (d + 1) 271 0 [some (.ref 84), some (.int r9), none, none] [] h = some (.inl (some (.int z)), h) ∧ bNs z (dor (sdl σ) r) := by
  intro d f hf
  have w1 := hW.1
  obtain ⟨n, hq⟩ : ∃ n, f = n + 4 := ⟨f - 4, by omega⟩
  subst hq
  obtain ⟨z, z1, z2⟩ := y_bes (E := E) hr hM hW hr9 (sR σ) 0 0 0 (by omega) rfl (bNs_c bNs_0 fun b _ => rfl) d n (by omega)
  exact ⟨z, (bo_0 (E := E) (n := n) (d := d + 1)).trans z1, z2⟩
set_option maxRecDepth 100000 in
theorem wmI {W : Nat} {g0 : zH} {ga gb : Nat} (hr : bRQ ctb W g0 ga gb h) (hM : RM h σ) (hW : WF σ) {a9 b9 s9 n9 : Int32} {f : Nat → Bool} (hs : bNs s9 f) : ∀ (k j : Nat) (w9 r9 : Int32), k + j = sR σ → r9.toInt = (j : Int) → bNs w9 (fun b => f b || anb (fun r => f r && dor (sdl σ) r b) j) → ∀ d e m, 30020 * k + m ≤ e → ∃ e' w' r', m ≤ e' ∧ zex E e (d + 2) 326 69 [some (.ref 84), some (.int a9), some (.int b9), some (.int s9), some (.int n9), some (.int w9), some (.int r9)] [] h = zex E e' (d + 2) 326 69 [some (.ref 84), some (.int a9), some (.int b9), some (.int s9), some (.int n9), some (.int w'), some (.int r')] [] h ∧ r'.toInt = (sR σ : Int) ∧ bNs w' (fun b => f b || anb (fun r => f r && dor (sdl σ) r b) (sR σ)) := by
  have w1 := hW.1
  have r1 := hM.1.1
  have a84 := b84_ha hr
  have a85 := b85_ha hr
  intro k
  induction k with
  | zero =>
    intro j w9 r9 hk hr9 hw d e m hm
    have hj : j = sR σ := by omega
    subst hj
    exact ⟨e, w9, r9, by omega, rfl, hr9, hw⟩
  | succ k IH =>
    intro j w9 r9 hk hr9 hw d e m hm
    have r10 : (r9 + 1).toInt = ((j + 1 : Nat) : Int) := by rw [i32_add (by rw [hr9, int1]; omega) (by rw [hr9, int1]; omega), hr9, int1]; omega
    have bt := bNs_t hs hr9 (by omega)
    by_cases hf : f j = true
    · rw [if_pos hf] at bt
      obtain ⟨n, hn⟩ : ∃ n, e = n + 17 := ⟨e - 17, by omega⟩
      subst hn
      obtain ⟨v, v1, v2⟩ := y_beside (E := E) hr hM hW hr9 d (n + 5) (by omega)
      obtain ⟨e', w', r', q0, q, q1, q2⟩ := IH (j + 1) (w9 ||| v) (r9 + 1) (by omega) r10 (bNs_c (bNs_o hw v2) fun b _ => by
        show (f b || anb (fun r => f r && dor (sdl σ) r b) j || dor (sdl σ) j b) = (f b || (anb (fun r => f r && dor (sdl σ) r b) j || (f j && dor (sdl σ) j b)))
        rw [hf, Bool.true_and, Bool.or_assoc]) d n m (by omega)
      obtain ⟨n, hn⟩ : ∃ n', n = n' + 10 := ⟨n - 10, by omega⟩
      subst hn
      exact ⟨e', w', r', q0, (wm_6 (E := E) (n := n + 10) (d := d + 1) (q := h.2.1 85 0) (by rw [r1, hr9]; omega) a84 (mh_rooms (n := n + 19) rfl a84 a85) (hs_1 (n := n + 9) (d := d + 1) (by rw [bt]; decide)) v1).trans q, q1, q2⟩
    · have hf0 := eq_false_of_ne_true hf
      rw [if_neg hf] at bt
      obtain ⟨n, hn⟩ : ∃ n, e = n + 14 := ⟨e - 14, by omega⟩
      subst hn
      obtain ⟨e', w', r', q0, q, q1, q2⟩ := IH (j + 1) (w9 ||| 0) (r9 + 1) (by omega) r10 (bNs_c (bNs_o hw bNs_0) fun b _ => by
        show (f b || anb (fun r => f r && dor (sdl σ) r b) j || false) = (f b || (anb (fun r => f r && dor (sdl σ) r b) j || (f j && dor (sdl σ) j b)))
        rw [hf0, Bool.false_and, Bool.or_false, Bool.or_false]) d n m (by omega)
      obtain ⟨n, hn⟩ : ∃ n', n = n' + 10 := ⟨n - 10, by omega⟩
      subst hn
      exact ⟨e', w', r', q0, (wm_7 (E := E) (n := n + 10) (d := d + 1) (q := h.2.1 85 0) (by rw [r1, hr9]; omega) a84 (mh_rooms (n := n + 16) rfl a84 a85) (hs_0 (n := n + 7) (d := d + 1) (by rw [bt]; decide))).trans q, q1, q2⟩
set_option maxRecDepth 100000 in
theorem wmO {W : Nat} {g0 : zH} {ga gb : Nat} (hr : bRQ ctb W g0 ga gb h) (hM : RM h σ) (hW : WF σ) {a9 b9 : Int32} {a t : Nat} (ht : b9.toInt = (t : Int)) (htR : t < sR σ) : ∀ (k m : Nat) (s9 n9 : Int32) (u5 u6 : Option Value), k + m = sR σ → n9.toInt = (m : Int) → bNs s9 (rch (sdl σ) (sR σ) a m) → ∀ d e, 361000 * (k + 1) ≤ e → ∃ z : Int32, zex E e (d + 2) 326 43 [some (.ref 84), some (.int a9), some (.int b9), some (.int s9), some (.int n9), u5, u6] [] h = some (.inl (some (.int z)), h) ∧ z.toInt = fstn (fun n => rch (sdl σ) (sR σ) a n t) k m := by
  have w1 := hW.1
  have r1 := hM.1.1
  have a84 := b84_ha hr
  have a85 := b85_ha hr
  intro k
  induction k with
  | zero =>
    intro m s9 n9 u5 u6 hk hn hs d e he
    obtain ⟨n, hq⟩ : ∃ n, e = n + 10 + 6 := ⟨e - 10 - 6, by omega⟩
    subst hq
    exact ⟨-1, wm_5 (E := E) (n := n + 10) (d := d + 1) (q := h.2.1 85 0) (by rw [r1, hn]; omega) a84 (mh_rooms (n := n + 8) rfl a84 a85), (show (-1 : Int32).toInt = -1 by decide)⟩
  | succ k IH =>
    intro m s9 n9 u5 u6 hk hn hs d e he
    have bt := bNs_t hs ht (by omega)
    by_cases hf : rch (sdl σ) (sR σ) a m t = true
    · rw [if_pos hf] at bt
      obtain ⟨n, hq⟩ : ∃ n, e = n + 10 + 10 := ⟨e - 10 - 10, by omega⟩
      subst hq
      exact ⟨n9, wm_3 (E := E) (n := n + 10) (d := d + 1) (q := h.2.1 85 0) (by rw [r1, hn]; omega) a84 (mh_rooms (n := n + 12) rfl a84 a85) (hs_1 (n := n + 3) (d := d + 1) (by rw [bt]; decide)), by rw [fstn_t (f := fun n => rch (sdl σ) (sR σ) a n t) hf]; exact hn⟩
    · rw [if_neg hf] at bt
      obtain ⟨n, hq⟩ : ∃ n, e = n + 10 + 12 := ⟨e - 10 - 12, by omega⟩
      subst hq
      obtain ⟨X, hX⟩ : ∃ X, X = 361000 * (k + 1) := ⟨_, rfl⟩
      have hmul : 361000 * (k + 1 + 1) = 361000 * (k + 1) + 361000 := Nat.mul_succ _ _
      rw [hmul, ← hX] at he
      obtain ⟨e', w', r', q0, q, q1, q2⟩ := wmI (E := E) hr hM hW (a9 := a9) (b9 := b9) (n9 := n9) hs (sR σ) 0 s9 0 (by omega) rfl (bNs_c hs fun b _ => (Bool.or_false _).symm) d (n + 10) (X + 10 + 8) (by omega)
      obtain ⟨n2, hq⟩ : ∃ n, e' = n + 10 + 8 := ⟨e' - 10 - 8, by omega⟩
      subst hq
      have n10 : (n9 + 1).toInt = ((m + 1 : Nat) : Int) := by rw [i32_add (by rw [hn, int1]; omega) (by rw [hn, int1]; omega), hn, int1]; omega
      obtain ⟨z, z1, z2⟩ := IH (m + 1) w' (n9 + 1) (some (.int w')) (some (.int r')) (by omega) n10 (bNs_c q2 fun b _ => rfl) d (n2 + 10) (by rw [← hX]; omega)
      exact ⟨z, (wm_4 (E := E) (n := n + 10) (d := d + 1) (q := h.2.1 85 0) (by rw [r1, hn]; omega) a84 (mh_rooms (n := n + 14) rfl a84 a85) (hs_0 (n := n + 6) (d := d + 1) (by rw [bt]; decide))).trans (q.trans ((wm_8 (E := E) (n := n2 + 10) (d := d + 1) (q := h.2.1 85 0) (by rw [r1, q1]; omega) a84 (mh_rooms (n := n2 + 10) rfl a84 a85)).trans z1)), by rw [fstn_f (f := fun n => rch (sdl σ) (sR σ) a n t) (eq_false_of_ne_true hf)]; exact z2⟩
set_option maxRecDepth 100000 in
theorem wayC (hsm : bSO E ctb B (60, smT)) (gI : bHI h) (gP : bPS h) (gT : bTB ctb h.1) (hR : RC h 4 18 σ) (hW : WF σ) {a9 b9 : Int32} : ∀ d f, 60 ≤ d → B + 5000000 ≤ f → wcQ h σ a9 b9 (zex E f d 33 0 [some (.ref 0), some (.int a9), some (.int b9), some (.ref 94), none] [] h) := by
  intro d f hd hf
  obtain ⟨n, hn⟩ : ∃ n, f = n + 400 := ⟨f - 400, by omega⟩
  obtain ⟨d, hd'⟩ : ∃ d', d = d' + 4 := ⟨d - 4, by omega⟩
  subst hn hd'
  have b1p := bi32 a9
  have b2p := bi32 b9
  obtain ⟨v1, h1, c1, c2, ⟨c3, c4⟩, c5, c6, c7, q1, m1, b1⟩ := hsm 33 [sc32] rfl sc32 (List.Mem.head _) (by decide) [(a9 : Int32).toInt, (b9 : Int32).toInt] [.ref 0, .int a9, .int b9, .ref 94] h (d + 4) (n + 400) (4, 5, 1, 99, 1, 1) rfl (by show 2 ≤ (d + 4); omega) (by omega) ⟨rfl, ⟨_, rfl, brel_v rfl⟩, ⟨_, rfl, brel_v rfl⟩, rfl, trivial⟩ (benv_c b1p.1 b1p.2 (benv_c b2p.1 b2p.2 benv_n)) bcs_n (fun e he => absurd he List.not_mem_nil) gI gP gT
  have c1 : zex E (n + 400) (d + 4) 33 0 [some (.ref 0), some (.int a9), some (.int b9), some (.ref 94), none] [] h = some (.inl v1, h1) := c1
  have cr : bRQ ctb sc32.2.1 h 1 6 h1 := ⟨c2, c3, c4, c5, c6, c7⟩
  have r1 := hR.1.1
  have w1 := hW.1
  unfold wcQ
  by_cases hp : (0 ≤ a9.toInt ∧ a9.toInt < (sR σ : Int)) ∧ 0 ≤ b9.toInt ∧ b9.toInt < (sR σ : Int)
  · rw [if_pos hp]
    obtain ⟨p, q⟩ := id hp
    obtain ⟨a, ha⟩ : ∃ a : Nat, a9.toInt = (a : Int) := ⟨a9.toInt.toNat, by omega⟩
    obtain ⟨t, ht⟩ : ∃ t : Nat, b9.toInt = (t : Int) := ⟨b9.toInt.toNat, by omega⟩
    obtain ⟨N, hN⟩ : ∃ N, n = N + 4000 := ⟨n - 4000, by omega⟩
    subst hN
    obtain ⟨z, z1, z2⟩ := fdO (E := E) gT hR hW (a9 := a9) (b9 := b9) (a := a) ht (by omega) 12 0 ((1 : Int32) <<< (a9 &&& 31)) 0 none none rfl rfl (bNs_c (bNs_1 ha (by omega)) fun b _ => rfl) (d + 2) (N + 4376) (by omega)
    have e3 := ws_0 (E := E) (n := N + 4381) (d := d + 2) (h := h) (a := a9) (b := b9) (z := z) (gT 0 _ ks0 (by intro z; cases z)) (gT 3 _ (show bg2 ctb 3 = some (.inr (.inl (2, [some (some 4), some (some 10), some (some 17)]))) from rfl) (by intro z; cases z)) (gT 4 _ (show bg2 ctb 4 = some (.inr (.inl (8, [none, none, none, none, some (some 5), some (some 6), some (some 7), some (some 8), some (some 9)]))) from rfl) (by intro z; cases z)) (nr_0 (n := N + 4382) (d := d + 2) p.1 (by rw [r1]; exact p.2) (gT 0 _ ks0 (by intro z; cases z)) (gT 3 _ (show bg2 ctb 3 = some (.inr (.inl (2, [some (some 4), some (some 10), some (some 17)]))) from rfl) (by intro z; cases z)) (gT 4 _ (show bg2 ctb 4 = some (.inr (.inl (8, [none, none, none, none, some (some 5), some (some 6), some (some 7), some (some 8), some (some 9)]))) from rfl) (by intro z; cases z))) (nr_0 (n := N + 4379) (d := d + 2) q.1 (by rw [r1]; exact q.2) (gT 0 _ ks0 (by intro z; cases z)) (gT 3 _ (show bg2 ctb 3 = some (.inr (.inl (2, [some (some 4), some (some 10), some (some 17)]))) from rfl) (by intro z; cases z)) (gT 4 _ (show bg2 ctb 4 = some (.inr (.inl (8, [none, none, none, none, some (some 5), some (some 6), some (some 7), some (some 8), some (some 9)]))) from rfl) (by intro z; cases z))) ((fd_0 (E := E) (n := N + 4376) (d := d + 2)).trans z1)
    have e4 := wv_0 (E := E) (n := N + 4389) (d := d + 3) (u4 := none) (h := h) (a := a9) (b := b9) (z := z) (gT 0 _ ks0 (by intro z; cases z)) (gT 94 _ kt94 (by intro z; cases z)) e3
    obtain ⟨y1, y2⟩ := inl_j c1 e4
    refine ⟨h1, by rw [c1, y1], cr, ?_⟩
    rw [y2]
    show (zrow h.2.2.1 94 (vp_updL (h.2.2.1 94) 0 z.toInt64) 94 0).toInt = _
    rw [zrow_at]
    show (z.toInt64).toInt = _
    rw [Int32.toInt_toInt64, z2]
    unfold wyl
    rw [ha, ht, Int.toNat_natCast, Int.toNat_natCast]
    exact rch_12 (by omega) w1 (by omega)
  · rw [if_neg hp]
    have fin : zex E (n + 394) (d + 3) 76 0 [some (.ref 0), some (.int a9), some (.int b9)] [] h = some (.inr 2, (h.1, h.2.1, h.2.2.1, h.2.2.2.1 + 1, h.2.2.2.2 + 6)) → ∃ h1 : zH, zex E (n + 400) (d + 4) 33 0 [some (.ref 0), some (.int a9), some (.int b9), some (.ref 94), none] [] h = some (.inl (some (.int 1)), h1) ∧ bRQ ctb sc32.2.1 h 1 6 h1 := fun e3 => by
      have e4 := wv_1 (E := E) (n := n + 391) (d := d + 3) (u4 := none) (h := h) (a := a9) (b := b9) (gT 0 _ ks0 (by intro z; cases z)) e3
      obtain ⟨y1, y2⟩ := inl_j c1 e4
      exact ⟨h1, by rw [c1, y1], cr⟩
    by_cases ha : 0 ≤ a9.toInt ∧ a9.toInt < (sR σ : Int)
    · have o1 := nr_0 (E := E) (n := n + 382) (d := d + 2) (p := a9) (h := h) ha.1 (by rw [r1]; exact ha.2) (gT 0 _ ks0 (by intro z; cases z)) (gT 3 _ (show bg2 ctb 3 = some (.inr (.inl (2, [some (some 4), some (some 10), some (some 17)]))) from rfl) (by intro z; cases z)) (gT 4 _ (show bg2 ctb 4 = some (.inr (.inl (8, [none, none, none, none, some (some 5), some (some 6), some (some 7), some (some 8), some (some 9)]))) from rfl) (by intro z; cases z))
      by_cases hb : b9.toInt < 0
      · exact fin (ws_2 (n := n + 388) (d := d + 2) (gT 0 _ ks0 (by intro z; cases z)) o1 (nr_1 (n := n + 385) (d := d + 2) hb ))
      · exact fin (ws_2 (n := n + 388) (d := d + 2) (gT 0 _ ks0 (by intro z; cases z)) o1 (nr_2 (n := n + 379) (d := d + 2) (by omega) (by rw [r1]; omega) (gT 0 _ ks0 (by intro z; cases z)) (gT 3 _ (show bg2 ctb 3 = some (.inr (.inl (2, [some (some 4), some (some 10), some (some 17)]))) from rfl) (by intro z; cases z)) (gT 4 _ (show bg2 ctb 4 = some (.inr (.inl (8, [none, none, none, none, some (some 5), some (some 6), some (some 7), some (some 8), some (some 9)]))) from rfl) (by intro z; cases z))))
    · by_cases hb : a9.toInt < 0
      · exact fin (ws_1 (n := n + 391) (d := d + 2) (gT 0 _ ks0 (by intro z; cases z)) (nr_1 (n := n + 388) (d := d + 2) hb ))
      · exact fin (ws_1 (n := n + 391) (d := d + 2) (gT 0 _ ks0 (by intro z; cases z)) (nr_2 (n := n + 382) (d := d + 2) (by omega) (by rw [r1]; omega) (gT 0 _ ks0 (by intro z; cases z)) (gT 3 _ (show bg2 ctb 3 = some (.inr (.inl (2, [some (some 4), some (some 10), some (some 17)]))) from rfl) (by intro z; cases z)) (gT 4 _ (show bg2 ctb 4 = some (.inr (.inl (8, [none, none, none, none, some (some 5), some (some 6), some (some 7), some (some 8), some (some 9)]))) from rfl) (by intro z; cases z))))
set_option maxRecDepth 100000 in
theorem wayM (hsm : bSO E ctb B (60, smT)) (gI : bHI h) (gP : bPS h) (gT : bTB ctb h.1) (hM : RM h σ) (hW : WF σ) {a9 b9 : Int32} : ∀ d f, 60 ≤ d → B + 5000000 ≤ f → wmQ h σ a9 b9 (zex E f d 326 0 [some (.ref 84), some (.int a9), some (.int b9), none, none, none, none] [] h) := by
  intro d f hd hf
  obtain ⟨n, hn⟩ : ∃ n, f = n + 400 := ⟨f - 400, by omega⟩
  obtain ⟨d, hd'⟩ : ∃ d', d = d' + 4 := ⟨d - 4, by omega⟩
  subst hn hd'
  have b1p := bi32 a9
  have b2p := bi32 b9
  obtain ⟨v1, h1, c1, c2, ⟨c3, c4⟩, c5, c6, c7, q1, m1, b1⟩ := hsm 326 [sc404] rfl sc404 (List.Mem.head _) (by decide) [(a9 : Int32).toInt, (b9 : Int32).toInt] [.ref 84, .int a9, .int b9] h (d + 4) (n + 400) (3, 7, 0, 12, 1, 0) rfl (by show 2 ≤ (d + 4); omega) (by omega) ⟨rfl, ⟨_, rfl, brel_v rfl⟩, ⟨_, rfl, brel_v rfl⟩, trivial⟩ (benv_c b1p.1 b1p.2 (benv_c b2p.1 b2p.2 benv_n)) bcs_n (fun e he => absurd he List.not_mem_nil) gI gP gT
  have c1 : zex E (n + 400) (d + 4) 326 0 [some (.ref 84), some (.int a9), some (.int b9), none, none, none, none] [] h = some (.inl v1, h1) := c1
  have cr : bRQ ctb sc404.2.1 h 0 0 h1 := ⟨c2, c3, c4, c5, c6, c7⟩
  have w1 := hW.1
  obtain ⟨g, hg⟩ : ∃ g, g = zsetI h 84 (upd (h.2.1 84) 0 0) := ⟨_, rfl⟩
  have gr : bRQ ctb sc404.2.1 h 0 0 g := by
    rw [hg]
    exact bRQ_set (c := 84) (j := 0) (y := 0) ⟨gI, gP, gT, fun _ _ _ => rfl, Nat.le_refl _, Nat.le_refl _⟩ (by decide +kernel) (by rw [biv840M]; exact bi32 _) rfl rfl (by decide) (by decide)
  have g85 : ∀ k, g.2.1 85 k = h.2.1 85 k := fun k => by rw [hg, zs_ne (by decide)]
  have gM : RM g σ := by
    have : g.2.1 85 = h.2.1 85 := funext g85
    unfold RM
    rw [this]
    exact hM
  have g840 : (g.2.1 84 0).toInt = 0 := by rw [hg, zs_at, upd_e]; rfl
  have r1 := gM.1.1
  have q84 := b84_ha gr
  have q85 := b85_ha gr
  have pp := fun f => mh_rooms (E := E) (n := f) (d := d + 2) (h := g) (x := g.2.1 85 0) rfl q84 q85
  have x1 : (g.2.1 85 0 - 1).toInt = (sR σ : Int) - 1 := by rw [i32_sub (by rw [r1, int1]; omega) (by rw [r1, int1]; omega), r1, int1]
  have H0 := wm_0 (E := E) (n := n + 378) (d := d + 3) (h := h) (a := a9) (b := b9) (u3 := none) (u4 := none) (u5 := none) (u6 := none)
  have H1 := fun {h1 : zH} => wm_1 (E := E) (n := n + 385) (d := d + 3) (h := h) (h1 := h1) (a := a9) (b := b9) (u3 := none) (u4 := none) (u5 := none) (u6 := none)
  have H2 := fun {h1 : zH} => wm_2 (E := E) (n := n + 381) (d := d + 3) (h := h) (h1 := h1) (a := a9) (b := b9) (u3 := none) (u4 := none) (u5 := none) (u6 := none)
  rw [← hg] at H0
  rw [← hg] at H1
  rw [← hg] at H2
  have ye : ∀ {p : Int32} f, 0 ≤ p.toInt ∧ p.toInt < (sR σ : Int) → zex E (f + 20) (d + 3) 227 0 [some (.ref 84), some (.int p)] [] g = some (.inl (some (.int 0)), g) := fun f hp => wn_0 (E := E) (n := f + 10) (d := d + 2) (q := g.2.1 85 0) q84 (pp (f + 11)) (iw_1 (n := f + 4) (d := d + 2) (by rw [zi0]; exact hp.1) (by rw [x1]; omega))
  have no : ∀ {p : Int32} f, ¬ (0 ≤ p.toInt ∧ p.toInt < (sR σ : Int)) → zex E (f + 21) (d + 3) 227 0 [some (.ref 84), some (.int p)] [] g = some (.inl (some (.int 1)), g) := fun {p} f hp => by
    by_cases h0 : p.toInt < 0
    · exact wn_1 (E := E) (n := f + 10) (d := d + 2) (q := g.2.1 85 0) q84 (pp (f + 12)) (iw_a (n := f + 9) (d := d + 2) (by rw [zi0]; exact h0))
    · exact wn_1 (E := E) (n := f + 10) (d := d + 2) (q := g.2.1 85 0) q84 (pp (f + 12)) (iw_b (n := f + 6) (d := d + 2) (by rw [zi0]; omega) (by rw [x1]; omega))
  unfold wmQ
  by_cases hp : (0 ≤ a9.toInt ∧ a9.toInt < (sR σ : Int)) ∧ 0 ≤ b9.toInt ∧ b9.toInt < (sR σ : Int)
  · rw [if_pos hp]
    obtain ⟨p, q⟩ := id hp
    obtain ⟨a, ha⟩ : ∃ a : Nat, a9.toInt = (a : Int) := ⟨a9.toInt.toNat, by omega⟩
    obtain ⟨t, ht⟩ : ∃ t : Nat, b9.toInt = (t : Int) := ⟨b9.toInt.toNat, by omega⟩
    obtain ⟨z, z1, z2⟩ := wmO (E := E) gr gM hW (a9 := a9) (b9 := b9) (a := a) ht (by omega) (sR σ) 0 ((1 : Int32) <<< (a9 &&& 31)) 0 none none (by omega) rfl (bNs_c (bNs_1 ha (by omega)) fun b _ => rfl) (d + 2) (n + 378) (by omega)
    have e := (H0 (gT 84 _ cs84 (by intro z; cases z)) (ye (n + 373) p) (ye (n + 369) q) (mt_0 (n := n + 381))).trans z1
    obtain ⟨y1, y2⟩ := inl_j c1 e
    refine ⟨z, g, e, by rw [← y2]; exact cr, g840, ?_⟩
    rw [z2]
    unfold wyl
    rw [ha, ht, Int.toNat_natCast, Int.toNat_natCast]
  · rw [if_neg hp]
    have fin : ∀ {h9 : zH}, zex E (n + 400) (d + 4) 326 0 [some (.ref 84), some (.int a9), some (.int b9), none, none, none, none] [] h = some (.inl (some (.int 0)), zsetI g 84 (upd (g.2.1 84) 0 1)) → ∃ (y : Int32) (h1 : zH), zex E (n + 400) (d + 4) 326 0 [some (.ref 84), some (.int a9), some (.int b9), none, none, none, none] [] h = some (.inl (some (.int y)), h1) ∧ bRQ ctb sc404.2.1 h 0 0 h1 ∧ (h1.2.1 84 0).toInt = 1 := fun e => by
      obtain ⟨y1, y2⟩ := inl_j c1 e
      exact ⟨0, h1, by rw [c1, y1], cr, by rw [y2, zs_at, upd_e]; rfl⟩
    by_cases h0 : 0 ≤ a9.toInt ∧ a9.toInt < (sR σ : Int)
    · exact fin (h9 := h) (H2 (gT 84 _ cs84 (by intro z; cases z)) (ye (n + 373) h0) (no (n + 368) (fun z => hp ⟨h0, z⟩)) (mt_1 (n := n + 377) q84))
    · exact fin (h9 := h) (H1 (gT 84 _ cs84 (by intro z; cases z)) (no (n + 372) h0) (mt_1 (n := n + 381) q84))
end WA
section HO
variable {E : zE} {B : Nat} {h : zH} {L im : Nat}
set_option maxRecDepth 100000 in
theorem op_ways (hE : E.1 ≤ 3072) (hsm : bSO E ctb B (60, smT)) (hX : LX h L im) {iv : Int32} {I : Nat} (hiv : iv.toInt = (I : Int)) (hI6 : I + 6 ≤ E.1) {u5 u6 : Option Value} : ∀ d f, 100 ≤ d → B + 6000000 ≤ f → opS E d iv f h (zex E (f + 100) d 0 1633 (t5K iv u5 u6) [] h) := by
  intro d f hd hf
  obtain ⟨d', hd'⟩ : ∃ d', d = d' + 1 := ⟨d - 1, by omega⟩
  subst hd'
  obtain ⟨hL9, pX, pE⟩ := id hX
  obtain ⟨gI, gP, gT, ⟨p1, p2, p3, p4⟩, p5, p6, p7, p8⟩ := id hL9
  obtain ⟨σ, hR, hM, hW, h3⟩ := id pX.1
  have kC := fun f hf => wayC (E := E) hsm gI gP gT hR hW (a9 := E.2 (I + 1)) (b9 := E.2 (I + 2)) d' f (by omega) hf
  have fP : ∀ {h1 : zH}, bRQ ctb sc32.2.1 h 1 6 h1 → FrP h h1 := fun r => FrP_w (by decide +kernel : wF sc32.2.1 lP = true) r.2.2.2.1
  have kM := fun {h1 : zH} (r : bRQ ctb sc32.2.1 h 1 6 h1) f hf => wayM (E := E) (h := h1) hsm r.1 r.2.1 r.2.2.1 (RMf_p hM hW (fP r).2.2.2.2) hW (a9 := E.2 (I + 1)) (b9 := E.2 (I + 2)) d' f (by omega) hf
  have fin : ∀ {h1 h2 : zH}, bRQ ctb sc32.2.1 h 1 6 h1 → bRQ ctb sc404.2.1 h1 0 0 h2 → LX h2 L im := fun r1 r2 => ⟨LI_f r2.1 r2.2.1 r2.2.2.1 (FrT_t (FrT_w (by decide +kernel : wF sc32.2.1 lT = true) r1.2.2.2.1) (FrT_w (by decide +kernel : wF sc404.2.1 lT = true) r2.2.2.2.1)) hL9, PX_f (FrP_t (fP r1) (FrP_w (by decide +kernel : wF sc404.2.1 lP = true) r2.2.2.2.1)) (FrA_t (FrA_w (by decide +kernel : wF sc32.2.1 lA = true) r1.2.2.2.1) (FrA_w (by decide +kernel : wF sc404.2.1 lA = true) r2.2.2.2.1)) (FrI_t (FrI_w (by decide +kernel : wF sc32.2.1 lI = true) r1.2.2.2.1) (FrI_w (by decide +kernel : wF sc404.2.1 lI = true) r2.2.2.2.1)) pX, trivial⟩
  unfold wcQ at kC
  unfold wmQ at kM
  by_cases hp : (0 ≤ (E.2 (I + 1)).toInt ∧ (E.2 (I + 1)).toInt < (sR σ : Int)) ∧ 0 ≤ (E.2 (I + 2)).toInt ∧ (E.2 (I + 2)).toInt < (sR σ : Int)
  · have kC := kC (f + 87) (by omega)
    rw [if_pos hp] at kC
    obtain ⟨h1, e1, r1, x0⟩ := kC
    have kM := kM r1 (f + 74) (by omega)
    rw [if_pos hp] at kM
    obtain ⟨y, h2, e2, r2, y0, y1⟩ := kM
    have q1 := r1.2.2.2.2
    have q2 := r2.2.2.2.2
    have a94 := r1.2.2.1 94 _ kt94 (by intro z; cases z)
    have b94 := r2.2.2.1 94 _ kt94 (by intro z; cases z)
    have lg := (zex_lg E (f + 74) _ _ _ _ _ _ _ _ (by decide) e2).2 94 (ltx94 a94)
    have hv : (lg_cmp (h2.2.2.1 94 0) y.toInt64).toInt = 0 := by
      have h1v : (h2.2.2.1 94 0).toInt = wyl σ (E.2 (I + 1)).toInt (E.2 (I + 2)).toInt := by rw [lg]; exact x0
      have h2v : (y.toInt64).toInt = wyl σ (E.2 (I + 1)).toInt (E.2 (I + 2)).toInt := by rw [Int32.toInt_toInt64]; exact y1
      rw [(blg (h2.2.2.1 94 0) y.toInt64).2.1 (by omega) (by omega)]
      decide
    exact ⟨h2, _, _, f + 57, L, im, by omega, tp_h0 (E := E) (n := f + 57) (d := d') (I := I) (i := iv) (y := y) (t := h2.2.1 84 0) (v := h2.2.2.1 94 0) (u5 := u5) (u6 := u6) (fun k hk => baddk hiv (by omega) (by omega)) hI6 (by rw [y0]; rfl) rfl hv (r1.2.2.1 84 _ cs84 (by intro z; cases z)) (r2.2.2.1 84 _ cs84 (by intro z; cases z)) b94 e1 e2 (tp_th (n := f + 68) (r2.2.2.1 84 _ cs84 (by intro z; cases z))), fin r1 r2, by omega, by omega⟩
  · have kC := kC (f + 87) (by omega)
    rw [if_neg hp] at kC
    obtain ⟨h1, e1, r1⟩ := kC
    have kM := kM r1 (f + 74) (by omega)
    rw [if_neg hp] at kM
    obtain ⟨y, h2, e2, r2, y0⟩ := kM
    have q1 := r1.2.2.2.2
    have q2 := r2.2.2.2.2
    exact ⟨h2, _, _, f + 64, L, im, by omega, tp_h1 (E := E) (n := f + 64) (d := d') (I := I) (i := iv) (y := y) (t := h2.2.1 84 0) (u5 := u5) (u6 := u6) (fun k hk => baddk hiv (by omega) (by omega)) hI6 (by rw [y0]; rfl) (r1.2.2.1 84 _ cs84 (by intro z; cases z)) (r2.2.2.1 84 _ cs84 (by intro z; cases z)) e1 e2 (tp_th (n := f + 68) (r2.2.2.1 84 _ cs84 (by intro z; cases z))), fin r1 r2, by omega, by omega⟩
end HO
