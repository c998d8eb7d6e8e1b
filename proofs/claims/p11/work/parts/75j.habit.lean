/-! habit, exactly (wip/zab2/c/lgen33.py) -/
set_option maxRecDepth 100000 in
theorem zcvp {E : zE} {n d mi pc j a3 ln i9 w9 na mL ci rk b x : Nat} {z : Int32} {sl : List (Option (Option Nat))} {ls : zLs} {st as r : List Value} {h h1 : zH} (hf : zfetch mi pc = some (.invokevirtual i9, ln, (0, j, a3), z, w9)) (hj : zat zmi j = some (na, mL, 0, ci, rk, 0)) (hp : zpop na st [] = some (.ref b :: as, r)) (hb : zat h.1 b = some (.inr (.inl (ci, sl)))) (hr : (Nat.ble (zsum r) 8 && (Value.ref b :: as).all zc1) = true) (ha3 : Nat.beq a3 0 = true) (hz : zat zhs mi = none ∨ zat zhs mi = some [])
    (hc : zex E n d j 0 (zent mL (.ref b :: as)) [] h = some (.inr x, h1)) : zex E (n + 1) (d + 1) mi pc ls st h = some (.inr x, h1) := by
  refine (zx1 hf).trans ?_
  show zinv (zex E n) (zex E n (d + 1) mi (pc + ln)) (d + 1) mi pc j (Nat.beq a3 0) ls st h = _
  unfold zinv
  rw [hj]
  simp only
  rw [hp]
  simp only
  rw [hr, cond_true]
  unfold zrecv
  simp only
  rw [hb]
  simp only
  rw [Nat.beq_refl, cond_true, hc]
  unfold zcall
  simp only
  rw [ha3, Nat.beq_refl]
  rcases hz with hz | hz
  · rw [hz]; rfl
  · rw [hz]; rfl
set_option maxRecDepth 100000 in
theorem zgh88_0 : zfetch 88 0 = some (.iload_n 1, 1, (0, 0, 0), 0, 0) := by decide +kernel
set_option maxRecDepth 100000 in
theorem zgh88_1 : zfetch 88 1 = some (.ifCond .lt 17, 3, (18, 0, 0), 0, 0) := by decide +kernel
set_option maxRecDepth 100000 in
theorem zgh88_4 : zfetch 88 4 = some (.iload_n 1, 1, (0, 0, 0), 0, 0) := by decide +kernel
set_option maxRecDepth 100000 in
theorem zgh88_5 : zfetch 88 5 = some (.aload_n 0, 1, (0, 0, 0), 0, 0) := by decide +kernel
set_option maxRecDepth 100000 in
theorem zgh88_6 : zfetch 88 6 = some (.getfield 19, 3, (11, 1, 0), 0, 576) := by decide +kernel
set_option maxRecDepth 100000 in
theorem zgh88_9 : zfetch 88 9 = some (.getfield 83, 3, (2, 0, 1), 0, 350) := by decide +kernel
set_option maxRecDepth 100000 in
theorem zgh88_12 : zfetch 88 12 = some (.getfield 367, 3, (8, 2, 1), 0, 276) := by decide +kernel
set_option maxRecDepth 100000 in
theorem zgh88_15 : zfetch 88 15 = some (.if_icmp .lt 14, 3, (29, 0, 0), 0, 0) := by decide +kernel
set_option maxRecDepth 100000 in
theorem zgh88_29 : zfetch 88 29 = some (.return_, 1, (0, 0, 0), 0, 0) := by decide +kernel
set_option maxRecDepth 100000 in
theorem zgh88_18 : zfetch 88 18 = some (.new 395, 3, (1, 2, 15), 1, 1132) := by decide +kernel
set_option maxRecDepth 100000 in
theorem zgh173_0 : zfetch 173 0 = some (.iload_n 2, 1, (0, 0, 0), 0, 0) := by decide +kernel
set_option maxRecDepth 100000 in
theorem zgh173_1 : zfetch 173 1 = some (.ifCond .lt 13, 3, (14, 0, 0), 0, 0) := by decide +kernel
set_option maxRecDepth 100000 in
theorem zgh173_14 : zfetch 173 14 = some (.iconst (-1), 1, (0, 0, 0), (-1), 0) := by decide +kernel
set_option maxRecDepth 100000 in
theorem zgh173_15 : zfetch 173 15 = some (.ireturn, 1, (0, 0, 0), 0, 0) := by decide +kernel
set_option maxRecDepth 100000 in
theorem zgh173_4 : zfetch 173 4 = some (.iload_n 2, 1, (0, 0, 0), 0, 0) := by decide +kernel
set_option maxRecDepth 100000 in
theorem zgh173_5 : zfetch 173 5 = some (.aload_n 0, 1, (0, 0, 0), 0, 0) := by decide +kernel
set_option maxRecDepth 100000 in
theorem zgh173_6 : zfetch 173 6 = some (.getfield 34, 3, (8, 7, 0), 0, 290) := by decide +kernel
set_option maxRecDepth 100000 in
theorem zgh173_9 : zfetch 173 9 = some (.iload_n 1, 1, (0, 0, 0), 0, 0) := by decide +kernel
set_option maxRecDepth 100000 in
theorem zgh173_10 : zfetch 173 10 = some (.iaload, 1, (0, 0, 0), 0, 0) := by decide +kernel
set_option maxRecDepth 100000 in
theorem zgh173_11 : zfetch 173 11 = some (.if_icmp .lt 5, 3, (16, 0, 0), 0, 0) := by decide +kernel
set_option maxRecDepth 100000 in
theorem zgh173_16 : zfetch 173 16 = some (.aload_n 0, 1, (0, 0, 0), 0, 0) := by decide +kernel
set_option maxRecDepth 100000 in
theorem zgh173_17 : zfetch 173 17 = some (.getfield 37, 3, (8, 8, 0), 0, 294) := by decide +kernel
set_option maxRecDepth 100000 in
theorem zgh173_20 : zfetch 173 20 = some (.iload_n 1, 1, (0, 0, 0), 0, 0) := by decide +kernel
set_option maxRecDepth 100000 in
theorem zgh173_21 : zfetch 173 21 = some (.bipush 12, 2, (0, 0, 0), 12, 0) := by decide +kernel
set_option maxRecDepth 100000 in
theorem zgh173_23 : zfetch 173 23 = some (.imul, 1, (0, 0, 0), 0, 0) := by decide +kernel
set_option maxRecDepth 100000 in
theorem zgh173_24 : zfetch 173 24 = some (.iload_n 2, 1, (0, 0, 0), 0, 0) := by decide +kernel
set_option maxRecDepth 100000 in
theorem zgh173_25 : zfetch 173 25 = some (.iadd, 1, (0, 0, 0), 0, 0) := by decide +kernel
set_option maxRecDepth 100000 in
theorem zgh173_26 : zfetch 173 26 = some (.iaload, 1, (0, 0, 0), 0, 0) := by decide +kernel
set_option maxRecDepth 100000 in
theorem zgh173_27 : zfetch 173 27 = some (.ireturn, 1, (0, 0, 0), 0, 0) := by decide +kernel
set_option maxRecDepth 100000 in
theorem zgh48_0 : zfetch 48 0 = some (.aload_n 0, 1, (0, 0, 0), 0, 0) := by decide +kernel
set_option maxRecDepth 100000 in
theorem zgh48_1 : zfetch 48 1 = some (.iload_n 1, 1, (0, 0, 0), 0, 0) := by decide +kernel
set_option maxRecDepth 100000 in
theorem zgh48_2 : zfetch 48 2 = some (.invokevirtual 170, 3, (0, 88, 0), 0, 1190) := by decide +kernel
set_option maxRecDepth 100000 in
theorem zgh48_5 : zfetch 48 5 = some (.aload_n 0, 1, (0, 0, 0), 0, 0) := by decide +kernel
set_option maxRecDepth 100000 in
theorem zgh48_6 : zfetch 48 6 = some (.getfield 19, 3, (11, 1, 0), 0, 576) := by decide +kernel
set_option maxRecDepth 100000 in
theorem zgh48_9 : zfetch 48 9 = some (.getfield 83, 3, (2, 0, 1), 0, 350) := by decide +kernel
set_option maxRecDepth 100000 in
theorem zgh48_12 : zfetch 48 12 = some (.iload_n 1, 1, (0, 0, 0), 0, 0) := by decide +kernel
set_option maxRecDepth 100000 in
theorem zgh48_13 : zfetch 48 13 = some (.iload_n 2, 1, (0, 0, 0), 0, 0) := by decide +kernel
set_option maxRecDepth 100000 in
theorem zgh48_14 : zfetch 48 14 = some (.invokevirtual 179, 3, (0, 173, 1), 0, 1202) := by decide +kernel
set_option maxRecDepth 100000 in
theorem zgh48_17 : zfetch 48 17 = some (.ireturn, 1, (0, 0, 0), 0, 0) := by decide +kernel
set_option maxRecDepth 100000 in
theorem zgh7_0 : zfetch 7 0 = some (.aload_n 3, 1, (0, 0, 0), 0, 0) := by decide +kernel
set_option maxRecDepth 100000 in
theorem zgh7_1 : zfetch 7 1 = some (.iconst 0, 1, (0, 0, 0), 0, 0) := by decide +kernel
set_option maxRecDepth 100000 in
theorem zgh7_2 : zfetch 7 2 = some (.aload_n 0, 1, (0, 0, 0), 0, 0) := by decide +kernel
set_option maxRecDepth 100000 in
theorem zgh7_3 : zfetch 7 3 = some (.iload_n 1, 1, (0, 0, 0), 0, 0) := by decide +kernel
set_option maxRecDepth 100000 in
theorem zgh7_4 : zfetch 7 4 = some (.iload_n 2, 1, (0, 0, 0), 0, 0) := by decide +kernel
set_option maxRecDepth 100000 in
theorem zgh7_5 : zfetch 7 5 = some (.invokevirtual 37, 3, (0, 48, 0), 0, 1219) := by decide +kernel
set_option maxRecDepth 100000 in
theorem zgh7_8 : zfetch 7 8 = some (.i2l, 1, (0, 0, 0), 0, 0) := by decide +kernel
set_option maxRecDepth 100000 in
theorem zgh7_9 : zfetch 7 9 = some (.lastore, 1, (0, 0, 0), 0, 0) := by decide +kernel
set_option maxRecDepth 100000 in
theorem zgh7_10 : zfetch 7 10 = some (.goto 7, 3, (17, 0, 0), 0, 0) := by decide +kernel
set_option maxRecDepth 100000 in
theorem zgh7_17 : zfetch 7 17 = some (.iconst 0, 1, (0, 0, 0), 0, 0) := by decide +kernel
set_option maxRecDepth 100000 in
theorem zgh7_18 : zfetch 7 18 = some (.ireturn, 1, (0, 0, 0), 0, 0) := by decide +kernel
set_option maxRecDepth 100000 in
theorem zgh7_13 : zfetch 7 13 = some (.astore 4, 2, (0, 0, 0), 0, 0) := by decide +kernel
set_option maxRecDepth 100000 in
theorem zgh7_15 : zfetch 7 15 = some (.iconst 1, 1, (0, 0, 0), 1, 0) := by decide +kernel
set_option maxRecDepth 100000 in
theorem zgh7_16 : zfetch 7 16 = some (.ireturn, 1, (0, 0, 0), 0, 0) := by decide +kernel
set_option maxRecDepth 100000 in
theorem zgh209_0 : zfetch 209 0 = some (.iload_n 0, 1, (0, 0, 0), 0, 0) := by decide +kernel
set_option maxRecDepth 100000 in
theorem zgh209_1 : zfetch 209 1 = some (.iload_n 1, 1, (0, 0, 0), 0, 0) := by decide +kernel
set_option maxRecDepth 100000 in
theorem zgh209_2 : zfetch 209 2 = some (.if_icmp .lt 12, 3, (14, 0, 0), 0, 0) := by decide +kernel
set_option maxRecDepth 100000 in
theorem zgh209_5 : zfetch 209 5 = some (.iload_n 0, 1, (0, 0, 0), 0, 0) := by decide +kernel
set_option maxRecDepth 100000 in
theorem zgh209_6 : zfetch 209 6 = some (.iload_n 2, 1, (0, 0, 0), 0, 0) := by decide +kernel
set_option maxRecDepth 100000 in
theorem zgh209_7 : zfetch 209 7 = some (.if_icmp .gt 7, 3, (14, 0, 0), 0, 0) := by decide +kernel
set_option maxRecDepth 100000 in
theorem zgh209_10 : zfetch 209 10 = some (.iconst 1, 1, (0, 0, 0), 1, 0) := by decide +kernel
set_option maxRecDepth 100000 in
theorem zgh209_11 : zfetch 209 11 = some (.goto 4, 3, (15, 0, 0), 0, 0) := by decide +kernel
set_option maxRecDepth 100000 in
theorem zgh209_15 : zfetch 209 15 = some (.ireturn, 1, (0, 0, 0), 0, 0) := by decide +kernel
set_option maxRecDepth 100000 in
theorem zgh209_14 : zfetch 209 14 = some (.iconst 0, 1, (0, 0, 0), 0, 0) := by decide +kernel
set_option maxRecDepth 100000 in
theorem zgh228_0 : zfetch 228 0 = some (.iload_n 1, 1, (0, 0, 0), 0, 0) := by decide +kernel
set_option maxRecDepth 100000 in
theorem zgh228_1 : zfetch 228 1 = some (.iconst 0, 1, (0, 0, 0), 0, 0) := by decide +kernel
set_option maxRecDepth 100000 in
theorem zgh228_2 : zfetch 228 2 = some (.aload_n 0, 1, (0, 0, 0), 0, 0) := by decide +kernel
set_option maxRecDepth 100000 in
theorem zgh228_3 : zfetch 228 3 = some (.invokevirtual 74, 3, (0, 217, 0), 0, 1780) := by decide +kernel
set_option maxRecDepth 100000 in
theorem zgh228_6 : zfetch 228 6 = some (.iconst 1, 1, (0, 0, 0), 1, 0) := by decide +kernel
set_option maxRecDepth 100000 in
theorem zgh228_7 : zfetch 228 7 = some (.isub, 1, (0, 0, 0), 0, 0) := by decide +kernel
set_option maxRecDepth 100000 in
theorem zgh228_8 : zfetch 228 8 = some (.invokestatic 70, 3, (0, 209, 0), 0, 1902) := by decide +kernel
set_option maxRecDepth 100000 in
theorem zgh228_11 : zfetch 228 11 = some (.ifCond .ne 7, 3, (18, 0, 0), 0, 0) := by decide +kernel
set_option maxRecDepth 100000 in
theorem zgh228_18 : zfetch 228 18 = some (.iconst 0, 1, (0, 0, 0), 0, 0) := by decide +kernel
set_option maxRecDepth 100000 in
theorem zgh228_19 : zfetch 228 19 = some (.ireturn, 1, (0, 0, 0), 0, 0) := by decide +kernel
set_option maxRecDepth 100000 in
theorem zgh228_14 : zfetch 228 14 = some (.iconst 1, 1, (0, 0, 0), 1, 0) := by decide +kernel
set_option maxRecDepth 100000 in
theorem zgh228_15 : zfetch 228 15 = some (.goto 4, 3, (19, 0, 0), 0, 0) := by decide +kernel
set_option maxRecDepth 100000 in
theorem zgh277_0 : zfetch 277 0 = some (.aload_n 0, 1, (0, 0, 0), 0, 0) := by decide +kernel
set_option maxRecDepth 100000 in
theorem zgh277_1 : zfetch 277 1 = some (.iconst 0, 1, (0, 0, 0), 0, 0) := by decide +kernel
set_option maxRecDepth 100000 in
theorem zgh277_2 : zfetch 277 2 = some (.putfield 3, 3, (12, 0, 0), 0, 1617) := by decide +kernel
set_option maxRecDepth 100000 in
theorem zgh277_5 : zfetch 277 5 = some (.aload_n 0, 1, (0, 0, 0), 0, 0) := by decide +kernel
set_option maxRecDepth 100000 in
theorem zgh277_6 : zfetch 277 6 = some (.aload_n 0, 1, (0, 0, 0), 0, 0) := by decide +kernel
set_option maxRecDepth 100000 in
theorem zgh277_7 : zfetch 277 7 = some (.iload_n 1, 1, (0, 0, 0), 0, 0) := by decide +kernel
set_option maxRecDepth 100000 in
theorem zgh277_8 : zfetch 277 8 = some (.invokevirtual 300, 3, (0, 228, 0), 0, 1941) := by decide +kernel
set_option maxRecDepth 100000 in
theorem zgh277_11 : zfetch 277 11 = some (.iconst 1, 1, (0, 0, 0), 1, 0) := by decide +kernel
set_option maxRecDepth 100000 in
theorem zgh277_12 : zfetch 277 12 = some (.invokevirtual 272, 3, (0, 208, 0), 0, 1886) := by decide +kernel
set_option maxRecDepth 100000 in
theorem zgh277_15 : zfetch 277 15 = some (.ifCond .eq 5, 3, (20, 0, 0), 0, 0) := by decide +kernel
set_option maxRecDepth 100000 in
theorem zgh277_18 : zfetch 277 18 = some (.iconst 0, 1, (0, 0, 0), 0, 0) := by decide +kernel
set_option maxRecDepth 100000 in
theorem zgh277_19 : zfetch 277 19 = some (.ireturn, 1, (0, 0, 0), 0, 0) := by decide +kernel
set_option maxRecDepth 100000 in
theorem zgh277_20 : zfetch 277 20 = some (.iload_n 2, 1, (0, 0, 0), 0, 0) := by decide +kernel
set_option maxRecDepth 100000 in
theorem zgh277_21 : zfetch 277 21 = some (.iconst 0, 1, (0, 0, 0), 0, 0) := by decide +kernel
set_option maxRecDepth 100000 in
theorem zgh277_22 : zfetch 277 22 = some (.aload_n 0, 1, (0, 0, 0), 0, 0) := by decide +kernel
set_option maxRecDepth 100000 in
theorem zgh277_23 : zfetch 277 23 = some (.iload_n 1, 1, (0, 0, 0), 0, 0) := by decide +kernel
set_option maxRecDepth 100000 in
theorem zgh277_24 : zfetch 277 24 = some (.iconst 3, 1, (0, 0, 0), 3, 0) := by decide +kernel
set_option maxRecDepth 100000 in
theorem zgh277_25 : zfetch 277 25 = some (.invokevirtual 59, 3, (0, 221, 0), 0, 1791) := by decide +kernel
set_option maxRecDepth 100000 in
theorem zgh277_28 : zfetch 277 28 = some (.iconst 1, 1, (0, 0, 0), 1, 0) := by decide +kernel
set_option maxRecDepth 100000 in
theorem zgh277_29 : zfetch 277 29 = some (.isub, 1, (0, 0, 0), 0, 0) := by decide +kernel
set_option maxRecDepth 100000 in
theorem zgh277_30 : zfetch 277 30 = some (.invokestatic 70, 3, (0, 209, 0), 0, 1902) := by decide +kernel
set_option maxRecDepth 100000 in
theorem zgh277_33 : zfetch 277 33 = some (.ifCond .eq 14, 3, (47, 0, 0), 0, 0) := by decide +kernel
set_option maxRecDepth 100000 in
theorem zgh277_47 : zfetch 277 47 = some (.iconst (-1), 1, (0, 0, 0), (-1), 0) := by decide +kernel
set_option maxRecDepth 100000 in
theorem zgh277_48 : zfetch 277 48 = some (.ireturn, 1, (0, 0, 0), 0, 0) := by decide +kernel
set_option maxRecDepth 100000 in
theorem zgh277_36 : zfetch 277 36 = some (.aload_n 0, 1, (0, 0, 0), 0, 0) := by decide +kernel
set_option maxRecDepth 100000 in
theorem zgh277_37 : zfetch 277 37 = some (.iload_n 1, 1, (0, 0, 0), 0, 0) := by decide +kernel
set_option maxRecDepth 100000 in
theorem zgh277_38 : zfetch 277 38 = some (.iconst 4, 1, (0, 0, 0), 4, 0) := by decide +kernel
set_option maxRecDepth 100000 in
theorem zgh277_39 : zfetch 277 39 = some (.iload_n 2, 1, (0, 0, 0), 0, 0) := by decide +kernel
set_option maxRecDepth 100000 in
theorem zgh277_40 : zfetch 277 40 = some (.iadd, 1, (0, 0, 0), 0, 0) := by decide +kernel
set_option maxRecDepth 100000 in
theorem zgh277_41 : zfetch 277 41 = some (.invokevirtual 59, 3, (0, 221, 0), 0, 1791) := by decide +kernel
set_option maxRecDepth 100000 in
theorem zgh277_44 : zfetch 277 44 = some (.goto 4, 3, (48, 0, 0), 0, 0) := by decide +kernel
set_option maxRecDepth 100000 in
theorem znh48 : zat zmi 48 = some (3, 3, 0, 11, 1, 0) := rfl
set_option maxRecDepth 100000 in
theorem znh88 : zat zmi 88 = some (2, 2, 0, 11, 0, 0) := rfl
set_option maxRecDepth 100000 in
theorem znh173 : zat zmi 173 = some (3, 3, 0, 8, 1, 0) := rfl
set_option maxRecDepth 100000 in
theorem znh208 : zat zmi 208 = some (3, 3, 0, 12, 2, 0) := rfl
set_option maxRecDepth 100000 in
theorem znh209 : zat zmi 209 = some (3, 3, 1, 12, 2, 0) := rfl
set_option maxRecDepth 100000 in
theorem znh217 : zat zmi 217 = some (1, 1, 0, 12, 1, 0) := rfl
set_option maxRecDepth 100000 in
theorem znh221 : zat zmi 221 = some (3, 3, 0, 12, 1, 0) := rfl
set_option maxRecDepth 100000 in
theorem znh228 : zat zmi 228 = some (2, 2, 0, 12, 2, 0) := rfl
set_option maxRecDepth 100000 in
theorem np_0 {E : zE} {n d : Nat} {h : zH} {p : Int32} (h0 : 0 ≤ p.toInt) (h1 : p.toInt < (h.2.1 4 2).toInt) (a0 : zat h.1 0 = some (.inr (.inl (11, [some (some 1), some (some 3), some (some 18), some (some 25), some (some 27), some (some 30), some (some 53), some (some 62), some (some 76), none])))) (a3 : zat h.1 3 = some (.inr (.inl (2, [some (some 4), some (some 10), some (some 17)])))) (a4 : zat h.1 4 = some (.inr (.inl (8, [none, none, none, none, some (some 5), some (some 6), some (some 7), some (some 8), some (some 9)]))))  : zex E (n + 9) d 88 0 [some (.ref 0), some (.int p)] [] h = some (.inl none, h) :=
  ((yIn zgh88_0 rfl) : zex E (n + 9) d 88 0 [some (.ref 0), some (.int p)] [] h = zex E (n + 8) d 88 1 [some (.ref 0), some (.int p)] [.int p] h).trans (((zjlF zgh88_1 h0) : zex E (n + 8) d 88 1 [some (.ref 0), some (.int p)] [.int p] h = zex E (n + 7) d 88 4 [some (.ref 0), some (.int p)] [] h).trans (((yIn zgh88_4 rfl) : zex E (n + 7) d 88 4 [some (.ref 0), some (.int p)] [] h = zex E (n + 6) d 88 5 [some (.ref 0), some (.int p)] [.int p] h).trans (((yAn zgh88_5 rfl rfl) : zex E (n + 6) d 88 5 [some (.ref 0), some (.int p)] [.int p] h = zex E (n + 5) d 88 6 [some (.ref 0), some (.int p)] [.ref 0, .int p] h).trans (((zgx zgh88_6 a0 rfl) : zex E (n + 5) d 88 6 [some (.ref 0), some (.int p)] [.ref 0, .int p] h = zex E (n + 4) d 88 9 [some (.ref 0), some (.int p)] [.ref 3, .int p] h).trans (((zgx zgh88_9 a3 rfl) : zex E (n + 4) d 88 9 [some (.ref 0), some (.int p)] [.ref 3, .int p] h = zex E (n + 3) d 88 12 [some (.ref 0), some (.int p)] [.ref 4, .int p] h).trans (((zgi zgh88_12 a4 rfl) : zex E (n + 3) d 88 12 [some (.ref 0), some (.int p)] [.ref 4, .int p] h = zex E (n + 2) d 88 15 [some (.ref 0), some (.int p)] [.int (h.2.1 4 2), .int p] h).trans (((zklT zgh88_15 h1) : zex E (n + 2) d 88 15 [some (.ref 0), some (.int p)] [.int (h.2.1 4 2), .int p] h = zex E (n + 1) d 88 29 [some (.ref 0), some (.int p)] [] h).trans (((yRet0 zgh88_29 rfl) : zex E (n + 1) d 88 29 [some (.ref 0), some (.int p)] [] h = some (.inl none, h))))))))))
set_option maxRecDepth 100000 in
theorem np_1 {E : zE} {n d : Nat} {h : zH} {p : Int32} (h0 : p.toInt < 0)   : zex E (n + 3) d 88 0 [some (.ref 0), some (.int p)] [] h = some (.inr 2, (h.1, h.2.1, h.2.2.1, h.2.2.2.1 + 1, h.2.2.2.2 + 6)) :=
  ((yIn zgh88_0 rfl) : zex E (n + 3) d 88 0 [some (.ref 0), some (.int p)] [] h = zex E (n + 2) d 88 1 [some (.ref 0), some (.int p)] [.int p] h).trans (((zjlT zgh88_1 h0) : zex E (n + 2) d 88 1 [some (.ref 0), some (.int p)] [.int p] h = zex E (n + 1) d 88 18 [some (.ref 0), some (.int p)] [] h).trans (((yNew zgh88_18) : zex E (n + 1) d 88 18 [some (.ref 0), some (.int p)] [] h = some (.inr 2, (h.1, h.2.1, h.2.2.1, h.2.2.2.1 + 1, h.2.2.2.2 + 6)))))
set_option maxRecDepth 100000 in
theorem np_2 {E : zE} {n d : Nat} {h : zH} {p : Int32} (h0 : 0 ≤ p.toInt) (h1 : (h.2.1 4 2).toInt ≤ p.toInt) (a0 : zat h.1 0 = some (.inr (.inl (11, [some (some 1), some (some 3), some (some 18), some (some 25), some (some 27), some (some 30), some (some 53), some (some 62), some (some 76), none])))) (a3 : zat h.1 3 = some (.inr (.inl (2, [some (some 4), some (some 10), some (some 17)])))) (a4 : zat h.1 4 = some (.inr (.inl (8, [none, none, none, none, some (some 5), some (some 6), some (some 7), some (some 8), some (some 9)]))))  : zex E (n + 9) d 88 0 [some (.ref 0), some (.int p)] [] h = some (.inr 2, (h.1, h.2.1, h.2.2.1, h.2.2.2.1 + 1, h.2.2.2.2 + 6)) :=
  ((yIn zgh88_0 rfl) : zex E (n + 9) d 88 0 [some (.ref 0), some (.int p)] [] h = zex E (n + 8) d 88 1 [some (.ref 0), some (.int p)] [.int p] h).trans (((zjlF zgh88_1 h0) : zex E (n + 8) d 88 1 [some (.ref 0), some (.int p)] [.int p] h = zex E (n + 7) d 88 4 [some (.ref 0), some (.int p)] [] h).trans (((yIn zgh88_4 rfl) : zex E (n + 7) d 88 4 [some (.ref 0), some (.int p)] [] h = zex E (n + 6) d 88 5 [some (.ref 0), some (.int p)] [.int p] h).trans (((yAn zgh88_5 rfl rfl) : zex E (n + 6) d 88 5 [some (.ref 0), some (.int p)] [.int p] h = zex E (n + 5) d 88 6 [some (.ref 0), some (.int p)] [.ref 0, .int p] h).trans (((zgx zgh88_6 a0 rfl) : zex E (n + 5) d 88 6 [some (.ref 0), some (.int p)] [.ref 0, .int p] h = zex E (n + 4) d 88 9 [some (.ref 0), some (.int p)] [.ref 3, .int p] h).trans (((zgx zgh88_9 a3 rfl) : zex E (n + 4) d 88 9 [some (.ref 0), some (.int p)] [.ref 3, .int p] h = zex E (n + 3) d 88 12 [some (.ref 0), some (.int p)] [.ref 4, .int p] h).trans (((zgi zgh88_12 a4 rfl) : zex E (n + 3) d 88 12 [some (.ref 0), some (.int p)] [.ref 4, .int p] h = zex E (n + 2) d 88 15 [some (.ref 0), some (.int p)] [.int (h.2.1 4 2), .int p] h).trans (((zklF zgh88_15 h1) : zex E (n + 2) d 88 15 [some (.ref 0), some (.int p)] [.int (h.2.1 4 2), .int p] h = zex E (n + 1) d 88 18 [some (.ref 0), some (.int p)] [] h).trans (((yNew zgh88_18) : zex E (n + 1) d 88 18 [some (.ref 0), some (.int p)] [] h = some (.inr 2, (h.1, h.2.1, h.2.2.1, h.2.2.2.1 + 1, h.2.2.2.2 + 6)))))))))))
set_option maxRecDepth 100000 in
theorem st_0 {E : zE} {n d : Nat} {h : zH} {p k : Int32} (h0 : k.toInt < 0)   : zex E (n + 4) d 173 0 [some (.ref 4), some (.int p), some (.int k)] [] h = some (.inl (some (.int (-1))), h) :=
  ((yIn zgh173_0 rfl) : zex E (n + 4) d 173 0 [some (.ref 4), some (.int p), some (.int k)] [] h = zex E (n + 3) d 173 1 [some (.ref 4), some (.int p), some (.int k)] [.int k] h).trans (((zjlT zgh173_1 h0) : zex E (n + 3) d 173 1 [some (.ref 4), some (.int p), some (.int k)] [.int k] h = zex E (n + 2) d 173 14 [some (.ref 4), some (.int p), some (.int k)] [] h).trans (((yCi zgh173_14) : zex E (n + 2) d 173 14 [some (.ref 4), some (.int p), some (.int k)] [] h = zex E (n + 1) d 173 15 [some (.ref 4), some (.int p), some (.int k)] [.int (-1)] h).trans (((yRet1 zgh173_15 rfl) : zex E (n + 1) d 173 15 [some (.ref 4), some (.int p), some (.int k)] [.int (-1)] h = some (.inl (some (.int (-1))), h)))))
set_option maxRecDepth 100000 in
theorem st_1 {E : zE} {n d : Nat} {h : zH} {p k : Int32} {v : Int32} {P : Nat} (h0 : 0 ≤ k.toInt) (hp : p.toInt = (P : Int)) (hp8 : P < 8) (hv : h.2.1 8 P = v) (h1 : v.toInt ≤ k.toInt) (a4 : zat h.1 4 = some (.inr (.inl (8, [none, none, none, none, some (some 5), some (some 6), some (some 7), some (some 8), some (some 9)])))) (a8 : zat h.1 8 = some (.inl (0, 8, [])))  : zex E (n + 10) d 173 0 [some (.ref 4), some (.int p), some (.int k)] [] h = some (.inl (some (.int (-1))), h) :=
  ((yIn zgh173_0 rfl) : zex E (n + 10) d 173 0 [some (.ref 4), some (.int p), some (.int k)] [] h = zex E (n + 9) d 173 1 [some (.ref 4), some (.int p), some (.int k)] [.int k] h).trans (((zjlF zgh173_1 h0) : zex E (n + 9) d 173 1 [some (.ref 4), some (.int p), some (.int k)] [.int k] h = zex E (n + 8) d 173 4 [some (.ref 4), some (.int p), some (.int k)] [] h).trans (((yIn zgh173_4 rfl) : zex E (n + 8) d 173 4 [some (.ref 4), some (.int p), some (.int k)] [] h = zex E (n + 7) d 173 5 [some (.ref 4), some (.int p), some (.int k)] [.int k] h).trans (((yAn zgh173_5 rfl rfl) : zex E (n + 7) d 173 5 [some (.ref 4), some (.int p), some (.int k)] [.int k] h = zex E (n + 6) d 173 6 [some (.ref 4), some (.int p), some (.int k)] [.ref 4, .int k] h).trans (((zgx zgh173_6 a4 rfl) : zex E (n + 6) d 173 6 [some (.ref 4), some (.int p), some (.int k)] [.ref 4, .int k] h = zex E (n + 5) d 173 9 [some (.ref 4), some (.int p), some (.int k)] [.ref 8, .int k] h).trans (((yIn zgh173_9 rfl) : zex E (n + 5) d 173 9 [some (.ref 4), some (.int p), some (.int k)] [.ref 8, .int k] h = zex E (n + 4) d 173 10 [some (.ref 4), some (.int p), some (.int k)] [.int p, .ref 8, .int k] h).trans (((zlk zgh173_10 a8 hp hp8 hv) : zex E (n + 4) d 173 10 [some (.ref 4), some (.int p), some (.int k)] [.int p, .ref 8, .int k] h = zex E (n + 3) d 173 11 [some (.ref 4), some (.int p), some (.int k)] [.int v, .int k] h).trans (((zklF zgh173_11 h1) : zex E (n + 3) d 173 11 [some (.ref 4), some (.int p), some (.int k)] [.int v, .int k] h = zex E (n + 2) d 173 14 [some (.ref 4), some (.int p), some (.int k)] [] h).trans (((yCi zgh173_14) : zex E (n + 2) d 173 14 [some (.ref 4), some (.int p), some (.int k)] [] h = zex E (n + 1) d 173 15 [some (.ref 4), some (.int p), some (.int k)] [.int (-1)] h).trans (((yRet1 zgh173_15 rfl) : zex E (n + 1) d 173 15 [some (.ref 4), some (.int p), some (.int k)] [.int (-1)] h = some (.inl (some (.int (-1))), h)))))))))))
set_option maxRecDepth 100000 in
theorem st_2 {E : zE} {n d : Nat} {h : zH} {p k : Int32} {v w : Int32} {P J : Nat} (h0 : 0 ≤ k.toInt) (hp : p.toInt = (P : Int)) (hp8 : P < 8) (hv : h.2.1 8 P = v) (h1 : k.toInt < v.toInt) (hj : (p * 12 + k).toInt = (J : Int)) (hj9 : J < 96) (hw : h.2.1 9 J = w) (a4 : zat h.1 4 = some (.inr (.inl (8, [none, none, none, none, some (some 5), some (some 6), some (some 7), some (some 8), some (some 9)])))) (a8 : zat h.1 8 = some (.inl (0, 8, []))) (a9 : zat h.1 9 = some (.inl (0, 96, [])))  : zex E (n + 17) d 173 0 [some (.ref 4), some (.int p), some (.int k)] [] h = some (.inl (some (.int w)), h) :=
  ((yIn zgh173_0 rfl) : zex E (n + 17) d 173 0 [some (.ref 4), some (.int p), some (.int k)] [] h = zex E (n + 16) d 173 1 [some (.ref 4), some (.int p), some (.int k)] [.int k] h).trans (((zjlF zgh173_1 h0) : zex E (n + 16) d 173 1 [some (.ref 4), some (.int p), some (.int k)] [.int k] h = zex E (n + 15) d 173 4 [some (.ref 4), some (.int p), some (.int k)] [] h).trans (((yIn zgh173_4 rfl) : zex E (n + 15) d 173 4 [some (.ref 4), some (.int p), some (.int k)] [] h = zex E (n + 14) d 173 5 [some (.ref 4), some (.int p), some (.int k)] [.int k] h).trans (((yAn zgh173_5 rfl rfl) : zex E (n + 14) d 173 5 [some (.ref 4), some (.int p), some (.int k)] [.int k] h = zex E (n + 13) d 173 6 [some (.ref 4), some (.int p), some (.int k)] [.ref 4, .int k] h).trans (((zgx zgh173_6 a4 rfl) : zex E (n + 13) d 173 6 [some (.ref 4), some (.int p), some (.int k)] [.ref 4, .int k] h = zex E (n + 12) d 173 9 [some (.ref 4), some (.int p), some (.int k)] [.ref 8, .int k] h).trans (((yIn zgh173_9 rfl) : zex E (n + 12) d 173 9 [some (.ref 4), some (.int p), some (.int k)] [.ref 8, .int k] h = zex E (n + 11) d 173 10 [some (.ref 4), some (.int p), some (.int k)] [.int p, .ref 8, .int k] h).trans (((zlk zgh173_10 a8 hp hp8 hv) : zex E (n + 11) d 173 10 [some (.ref 4), some (.int p), some (.int k)] [.int p, .ref 8, .int k] h = zex E (n + 10) d 173 11 [some (.ref 4), some (.int p), some (.int k)] [.int v, .int k] h).trans (((zklT zgh173_11 h1) : zex E (n + 10) d 173 11 [some (.ref 4), some (.int p), some (.int k)] [.int v, .int k] h = zex E (n + 9) d 173 16 [some (.ref 4), some (.int p), some (.int k)] [] h).trans (((yAn zgh173_16 rfl rfl) : zex E (n + 9) d 173 16 [some (.ref 4), some (.int p), some (.int k)] [] h = zex E (n + 8) d 173 17 [some (.ref 4), some (.int p), some (.int k)] [.ref 4] h).trans (((zgx zgh173_17 a4 rfl) : zex E (n + 8) d 173 17 [some (.ref 4), some (.int p), some (.int k)] [.ref 4] h = zex E (n + 7) d 173 20 [some (.ref 4), some (.int p), some (.int k)] [.ref 9] h).trans (((yIn zgh173_20 rfl) : zex E (n + 7) d 173 20 [some (.ref 4), some (.int p), some (.int k)] [.ref 9] h = zex E (n + 6) d 173 21 [some (.ref 4), some (.int p), some (.int k)] [.int p, .ref 9] h).trans (((yCb zgh173_21) : zex E (n + 6) d 173 21 [some (.ref 4), some (.int p), some (.int k)] [.int p, .ref 9] h = zex E (n + 5) d 173 23 [some (.ref 4), some (.int p), some (.int k)] [.int 12, .int p, .ref 9] h).trans (((yMul zgh173_23) : zex E (n + 5) d 173 23 [some (.ref 4), some (.int p), some (.int k)] [.int 12, .int p, .ref 9] h = zex E (n + 4) d 173 24 [some (.ref 4), some (.int p), some (.int k)] [.int (p * 12), .ref 9] h).trans (((yIn zgh173_24 rfl) : zex E (n + 4) d 173 24 [some (.ref 4), some (.int p), some (.int k)] [.int (p * 12), .ref 9] h = zex E (n + 3) d 173 25 [some (.ref 4), some (.int p), some (.int k)] [.int k, .int (p * 12), .ref 9] h).trans (((yAdd zgh173_25) : zex E (n + 3) d 173 25 [some (.ref 4), some (.int p), some (.int k)] [.int k, .int (p * 12), .ref 9] h = zex E (n + 2) d 173 26 [some (.ref 4), some (.int p), some (.int k)] [.int ((p * 12) + k), .ref 9] h).trans (((zlk zgh173_26 a9 hj hj9 hw) : zex E (n + 2) d 173 26 [some (.ref 4), some (.int p), some (.int k)] [.int ((p * 12) + k), .ref 9] h = zex E (n + 1) d 173 27 [some (.ref 4), some (.int p), some (.int k)] [.int w] h).trans (((yRet1 zgh173_27 rfl) : zex E (n + 1) d 173 27 [some (.ref 4), some (.int p), some (.int k)] [.int w] h = some (.inl (some (.int w)), h))))))))))))))))))
set_option maxRecDepth 100000 in
theorem hb_0 {E : zE} {n d : Nat} {h : zH} {p k z : Int32}  (a0 : zat h.1 0 = some (.inr (.inl (11, [some (some 1), some (some 3), some (some 18), some (some 25), some (some 27), some (some 30), some (some 53), some (some 62), some (some 76), none])))) (a3 : zat h.1 3 = some (.inr (.inl (2, [some (some 4), some (some 10), some (some 17)])))) (a4 : zat h.1 4 = some (.inr (.inl (8, [none, none, none, none, some (some 5), some (some 6), some (some 7), some (some 8), some (some 9)])))) (e1 : zex E (n + 7) d 88 0 [some (.ref 0), some (.int p)] [] h = some (.inl none, h)) (e2 : zex E (n + 1) d 173 0 [some (.ref 4), some (.int p), some (.int k)] [] h = some (.inl (some (.int z)), h)) : zex E (n + 10) (d + 1) 48 0 [some (.ref 0), some (.int p), some (.int k)] [] h = some (.inl (some (.int z)), h) :=
  ((yAn zgh48_0 rfl rfl) : zex E (n + 10) (d + 1) 48 0 [some (.ref 0), some (.int p), some (.int k)] [] h = zex E (n + 9) (d + 1) 48 1 [some (.ref 0), some (.int p), some (.int k)] [.ref 0] h).trans (((yIn zgh48_1 rfl) : zex E (n + 9) (d + 1) 48 1 [some (.ref 0), some (.int p), some (.int k)] [.ref 0] h = zex E (n + 8) (d + 1) 48 2 [some (.ref 0), some (.int p), some (.int k)] [.int p, .ref 0] h).trans (((zcvg (v := none) (h := h) (as := [.int p]) (r := []) zgh48_2 znh88 rfl a0 rfl e1) : zex E (n + 8) (d + 1) 48 2 [some (.ref 0), some (.int p), some (.int k)] [.int p, .ref 0] h = zex E (n + 7) (d + 1) 48 5 [some (.ref 0), some (.int p), some (.int k)] [] h).trans (((yAn zgh48_5 rfl rfl) : zex E (n + 7) (d + 1) 48 5 [some (.ref 0), some (.int p), some (.int k)] [] h = zex E (n + 6) (d + 1) 48 6 [some (.ref 0), some (.int p), some (.int k)] [.ref 0] h).trans (((zgx zgh48_6 a0 rfl) : zex E (n + 6) (d + 1) 48 6 [some (.ref 0), some (.int p), some (.int k)] [.ref 0] h = zex E (n + 5) (d + 1) 48 9 [some (.ref 0), some (.int p), some (.int k)] [.ref 3] h).trans (((zgx zgh48_9 a3 rfl) : zex E (n + 5) (d + 1) 48 9 [some (.ref 0), some (.int p), some (.int k)] [.ref 3] h = zex E (n + 4) (d + 1) 48 12 [some (.ref 0), some (.int p), some (.int k)] [.ref 4] h).trans (((yIn zgh48_12 rfl) : zex E (n + 4) (d + 1) 48 12 [some (.ref 0), some (.int p), some (.int k)] [.ref 4] h = zex E (n + 3) (d + 1) 48 13 [some (.ref 0), some (.int p), some (.int k)] [.int p, .ref 4] h).trans (((yIn zgh48_13 rfl) : zex E (n + 3) (d + 1) 48 13 [some (.ref 0), some (.int p), some (.int k)] [.int p, .ref 4] h = zex E (n + 2) (d + 1) 48 14 [some (.ref 0), some (.int p), some (.int k)] [.int k, .int p, .ref 4] h).trans (((zcvg (h := h) (as := [.int p, .int k]) (r := []) zgh48_14 znh173 rfl a4 rfl e2) : zex E (n + 2) (d + 1) 48 14 [some (.ref 0), some (.int p), some (.int k)] [.int k, .int p, .ref 4] h = zex E (n + 1) (d + 1) 48 17 [some (.ref 0), some (.int p), some (.int k)] [.int z] h).trans (((yRet1 zgh48_17 rfl) : zex E (n + 1) (d + 1) 48 17 [some (.ref 0), some (.int p), some (.int k)] [.int z] h = some (.inl (some (.int z)), h)))))))))))
set_option maxRecDepth 100000 in
theorem hb_t {E : zE} {n d : Nat} {h h1 : zH} {p k : Int32}  (a0 : zat h.1 0 = some (.inr (.inl (11, [some (some 1), some (some 3), some (some 18), some (some 25), some (some 27), some (some 30), some (some 53), some (some 62), some (some 76), none])))) (e1 : zex E n d 88 0 [some (.ref 0), some (.int p)] [] h = some (.inr 2, h1)) : zex E (n + 3) (d + 1) 48 0 [some (.ref 0), some (.int p), some (.int k)] [] h = some (.inr 2, h1) :=
  ((yAn zgh48_0 rfl rfl) : zex E (n + 3) (d + 1) 48 0 [some (.ref 0), some (.int p), some (.int k)] [] h = zex E (n + 2) (d + 1) 48 1 [some (.ref 0), some (.int p), some (.int k)] [.ref 0] h).trans (((yIn zgh48_1 rfl) : zex E (n + 2) (d + 1) 48 1 [some (.ref 0), some (.int p), some (.int k)] [.ref 0] h = zex E (n + 1) (d + 1) 48 2 [some (.ref 0), some (.int p), some (.int k)] [.int p, .ref 0] h).trans (((zcvp (h := h) (as := [.int p]) (r := []) zgh48_2 znh88 rfl a0 rfl rfl (Or.inl rfl) e1) : zex E (n + 1) (d + 1) 48 2 [some (.ref 0), some (.int p), some (.int k)] [.int p, .ref 0] h = some (.inr 2, h1))))
set_option maxRecDepth 100000 in
theorem wh_0 {E : zE} {n d : Nat} {h : zH} {p k z : Int32} {u4 : Option Value}  (a0 : zat h.1 0 = some (.inr (.inl (11, [some (some 1), some (some 3), some (some 18), some (some 25), some (some 27), some (some 30), some (some 53), some (some 62), some (some 76), none])))) (a94 : zat h.1 94 = some (.inl (2, 1, []))) (e1 : zex E (n + 5) d 48 0 [some (.ref 0), some (.int p), some (.int k)] [] h = some (.inl (some (.int z)), h)) : zex E (n + 11) (d + 1) 7 0 [some (.ref 0), some (.int p), some (.int k), some (.ref 94), u4] [] h = some (.inl (some (.int 0)), (zsetJ h 94 (vp_updL (h.2.2.1 94) 0 ((z).toInt64)))) :=
  ((yAn zgh7_0 rfl rfl) : zex E (n + 11) (d + 1) 7 0 [some (.ref 0), some (.int p), some (.int k), some (.ref 94), u4] [] h = zex E (n + 10) (d + 1) 7 1 [some (.ref 0), some (.int p), some (.int k), some (.ref 94), u4] [.ref 94] h).trans (((yCi zgh7_1) : zex E (n + 10) (d + 1) 7 1 [some (.ref 0), some (.int p), some (.int k), some (.ref 94), u4] [.ref 94] h = zex E (n + 9) (d + 1) 7 2 [some (.ref 0), some (.int p), some (.int k), some (.ref 94), u4] [.int 0, .ref 94] h).trans (((yAn zgh7_2 rfl rfl) : zex E (n + 9) (d + 1) 7 2 [some (.ref 0), some (.int p), some (.int k), some (.ref 94), u4] [.int 0, .ref 94] h = zex E (n + 8) (d + 1) 7 3 [some (.ref 0), some (.int p), some (.int k), some (.ref 94), u4] [.ref 0, .int 0, .ref 94] h).trans (((yIn zgh7_3 rfl) : zex E (n + 8) (d + 1) 7 3 [some (.ref 0), some (.int p), some (.int k), some (.ref 94), u4] [.ref 0, .int 0, .ref 94] h = zex E (n + 7) (d + 1) 7 4 [some (.ref 0), some (.int p), some (.int k), some (.ref 94), u4] [.int p, .ref 0, .int 0, .ref 94] h).trans (((yIn zgh7_4 rfl) : zex E (n + 7) (d + 1) 7 4 [some (.ref 0), some (.int p), some (.int k), some (.ref 94), u4] [.int p, .ref 0, .int 0, .ref 94] h = zex E (n + 6) (d + 1) 7 5 [some (.ref 0), some (.int p), some (.int k), some (.ref 94), u4] [.int k, .int p, .ref 0, .int 0, .ref 94] h).trans (((zcvg (h := h) (as := [.int p, .int k]) (r := [.int 0, .ref 94]) zgh7_5 znh48 rfl a0 rfl e1) : zex E (n + 6) (d + 1) 7 5 [some (.ref 0), some (.int p), some (.int k), some (.ref 94), u4] [.int k, .int p, .ref 0, .int 0, .ref 94] h = zex E (n + 5) (d + 1) 7 8 [some (.ref 0), some (.int p), some (.int k), some (.ref 94), u4] [.int z, .int 0, .ref 94] h).trans (((yI2l zgh7_8) : zex E (n + 5) (d + 1) 7 8 [some (.ref 0), some (.int p), some (.int k), some (.ref 94), u4] [.int z, .int 0, .ref 94] h = zex E (n + 4) (d + 1) 7 9 [some (.ref 0), some (.int p), some (.int k), some (.ref 94), u4] [.long (z).toInt64, .int 0, .ref 94] h).trans (((zsj zgh7_9 a94 (zi0 : (0 : Int32).toInt = ((0 : Nat) : Int)) (by decide)) : zex E (n + 4) (d + 1) 7 9 [some (.ref 0), some (.int p), some (.int k), some (.ref 94), u4] [.long (z).toInt64, .int 0, .ref 94] h = zex E (n + 3) (d + 1) 7 10 [some (.ref 0), some (.int p), some (.int k), some (.ref 94), u4] [] (zsetJ h 94 (vp_updL (h.2.2.1 94) 0 ((z).toInt64)))).trans (((yGo zgh7_10) : zex E (n + 3) (d + 1) 7 10 [some (.ref 0), some (.int p), some (.int k), some (.ref 94), u4] [] (zsetJ h 94 (vp_updL (h.2.2.1 94) 0 ((z).toInt64))) = zex E (n + 2) (d + 1) 7 17 [some (.ref 0), some (.int p), some (.int k), some (.ref 94), u4] [] (zsetJ h 94 (vp_updL (h.2.2.1 94) 0 ((z).toInt64)))).trans (((yCi zgh7_17) : zex E (n + 2) (d + 1) 7 17 [some (.ref 0), some (.int p), some (.int k), some (.ref 94), u4] [] (zsetJ h 94 (vp_updL (h.2.2.1 94) 0 ((z).toInt64))) = zex E (n + 1) (d + 1) 7 18 [some (.ref 0), some (.int p), some (.int k), some (.ref 94), u4] [.int 0] (zsetJ h 94 (vp_updL (h.2.2.1 94) 0 ((z).toInt64)))).trans (((yRet1 zgh7_18 rfl) : zex E (n + 1) (d + 1) 7 18 [some (.ref 0), some (.int p), some (.int k), some (.ref 94), u4] [.int 0] (zsetJ h 94 (vp_updL (h.2.2.1 94) 0 ((z).toInt64))) = some (.inl (some (.int 0)), (zsetJ h 94 (vp_updL (h.2.2.1 94) 0 ((z).toInt64)))))))))))))))
set_option maxRecDepth 100000 in
theorem wh_1 {E : zE} {n d : Nat} {h h1 : zH} {p k : Int32} {u4 : Option Value}  (a0 : zat h.1 0 = some (.inr (.inl (11, [some (some 1), some (some 3), some (some 18), some (some 25), some (some 27), some (some 30), some (some 53), some (some 62), some (some 76), none])))) (e1 : zex E (n + 3) d 48 0 [some (.ref 0), some (.int p), some (.int k)] [] h = some (.inr 2, h1)) : zex E (n + 9) (d + 1) 7 0 [some (.ref 0), some (.int p), some (.int k), some (.ref 94), u4] [] h = some (.inl (some (.int 1)), h1) :=
  ((yAn zgh7_0 rfl rfl) : zex E (n + 9) (d + 1) 7 0 [some (.ref 0), some (.int p), some (.int k), some (.ref 94), u4] [] h = zex E (n + 8) (d + 1) 7 1 [some (.ref 0), some (.int p), some (.int k), some (.ref 94), u4] [.ref 94] h).trans (((yCi zgh7_1) : zex E (n + 8) (d + 1) 7 1 [some (.ref 0), some (.int p), some (.int k), some (.ref 94), u4] [.ref 94] h = zex E (n + 7) (d + 1) 7 2 [some (.ref 0), some (.int p), some (.int k), some (.ref 94), u4] [.int 0, .ref 94] h).trans (((yAn zgh7_2 rfl rfl) : zex E (n + 7) (d + 1) 7 2 [some (.ref 0), some (.int p), some (.int k), some (.ref 94), u4] [.int 0, .ref 94] h = zex E (n + 6) (d + 1) 7 3 [some (.ref 0), some (.int p), some (.int k), some (.ref 94), u4] [.ref 0, .int 0, .ref 94] h).trans (((yIn zgh7_3 rfl) : zex E (n + 6) (d + 1) 7 3 [some (.ref 0), some (.int p), some (.int k), some (.ref 94), u4] [.ref 0, .int 0, .ref 94] h = zex E (n + 5) (d + 1) 7 4 [some (.ref 0), some (.int p), some (.int k), some (.ref 94), u4] [.int p, .ref 0, .int 0, .ref 94] h).trans (((yIn zgh7_4 rfl) : zex E (n + 5) (d + 1) 7 4 [some (.ref 0), some (.int p), some (.int k), some (.ref 94), u4] [.int p, .ref 0, .int 0, .ref 94] h = zex E (n + 4) (d + 1) 7 5 [some (.ref 0), some (.int p), some (.int k), some (.ref 94), u4] [.int k, .int p, .ref 0, .int 0, .ref 94] h).trans (((zcvt (h := h) (as := [.int p, .int k]) (r := [.int 0, .ref 94]) zgh7_5 znh48 rfl a0 rfl rfl rfl rfl e1) : zex E (n + 4) (d + 1) 7 5 [some (.ref 0), some (.int p), some (.int k), some (.ref 94), u4] [.int k, .int p, .ref 0, .int 0, .ref 94] h = zex E (n + 3) (d + 1) 7 13 [some (.ref 0), some (.int p), some (.int k), some (.ref 94), u4] [.double 0] h1).trans (((yDd zgh7_13) : zex E (n + 3) (d + 1) 7 13 [some (.ref 0), some (.int p), some (.int k), some (.ref 94), u4] [.double 0] h1 = zex E (n + 2) (d + 1) 7 15 [some (.ref 0), some (.int p), some (.int k), some (.ref 94), some (.double 0)] [] h1).trans (((yCi zgh7_15) : zex E (n + 2) (d + 1) 7 15 [some (.ref 0), some (.int p), some (.int k), some (.ref 94), some (.double 0)] [] h1 = zex E (n + 1) (d + 1) 7 16 [some (.ref 0), some (.int p), some (.int k), some (.ref 94), some (.double 0)] [.int 1] h1).trans (((yRet1 zgh7_16 rfl) : zex E (n + 1) (d + 1) 7 16 [some (.ref 0), some (.int p), some (.int k), some (.ref 94), some (.double 0)] [.int 1] h1 = some (.inl (some (.int 1)), h1))))))))))
set_option maxRecDepth 100000 in
theorem in_1 {E : zE} {n d : Nat} {h : zH} {x a b : Int32} (h0 : a.toInt ≤ x.toInt) (h1 : x.toInt ≤ b.toInt)   : zex E (n + 9) d 209 0 [some (.int x), some (.int a), some (.int b)] [] h = some (.inl (some (.int 1)), h) :=
  ((yIn zgh209_0 rfl) : zex E (n + 9) d 209 0 [some (.int x), some (.int a), some (.int b)] [] h = zex E (n + 8) d 209 1 [some (.int x), some (.int a), some (.int b)] [.int x] h).trans (((yIn zgh209_1 rfl) : zex E (n + 8) d 209 1 [some (.int x), some (.int a), some (.int b)] [.int x] h = zex E (n + 7) d 209 2 [some (.int x), some (.int a), some (.int b)] [.int a, .int x] h).trans (((zklF zgh209_2 h0) : zex E (n + 7) d 209 2 [some (.int x), some (.int a), some (.int b)] [.int a, .int x] h = zex E (n + 6) d 209 5 [some (.int x), some (.int a), some (.int b)] [] h).trans (((yIn zgh209_5 rfl) : zex E (n + 6) d 209 5 [some (.int x), some (.int a), some (.int b)] [] h = zex E (n + 5) d 209 6 [some (.int x), some (.int a), some (.int b)] [.int x] h).trans (((yIn zgh209_6 rfl) : zex E (n + 5) d 209 6 [some (.int x), some (.int a), some (.int b)] [.int x] h = zex E (n + 4) d 209 7 [some (.int x), some (.int a), some (.int b)] [.int b, .int x] h).trans (((zkhF zgh209_7 h1) : zex E (n + 4) d 209 7 [some (.int x), some (.int a), some (.int b)] [.int b, .int x] h = zex E (n + 3) d 209 10 [some (.int x), some (.int a), some (.int b)] [] h).trans (((yCi zgh209_10) : zex E (n + 3) d 209 10 [some (.int x), some (.int a), some (.int b)] [] h = zex E (n + 2) d 209 11 [some (.int x), some (.int a), some (.int b)] [.int 1] h).trans (((yGo zgh209_11) : zex E (n + 2) d 209 11 [some (.int x), some (.int a), some (.int b)] [.int 1] h = zex E (n + 1) d 209 15 [some (.int x), some (.int a), some (.int b)] [.int 1] h).trans (((yRet2 zgh209_15 rfl (Or.inr rfl)) : zex E (n + 1) d 209 15 [some (.int x), some (.int a), some (.int b)] [.int 1] h = some (.inl (some (.int 1)), h))))))))))
set_option maxRecDepth 100000 in
theorem in_a {E : zE} {n d : Nat} {h : zH} {x a b : Int32} (h0 : x.toInt < a.toInt)   : zex E (n + 5) d 209 0 [some (.int x), some (.int a), some (.int b)] [] h = some (.inl (some (.int 0)), h) :=
  ((yIn zgh209_0 rfl) : zex E (n + 5) d 209 0 [some (.int x), some (.int a), some (.int b)] [] h = zex E (n + 4) d 209 1 [some (.int x), some (.int a), some (.int b)] [.int x] h).trans (((yIn zgh209_1 rfl) : zex E (n + 4) d 209 1 [some (.int x), some (.int a), some (.int b)] [.int x] h = zex E (n + 3) d 209 2 [some (.int x), some (.int a), some (.int b)] [.int a, .int x] h).trans (((zklT zgh209_2 h0) : zex E (n + 3) d 209 2 [some (.int x), some (.int a), some (.int b)] [.int a, .int x] h = zex E (n + 2) d 209 14 [some (.int x), some (.int a), some (.int b)] [] h).trans (((yCi zgh209_14) : zex E (n + 2) d 209 14 [some (.int x), some (.int a), some (.int b)] [] h = zex E (n + 1) d 209 15 [some (.int x), some (.int a), some (.int b)] [.int 0] h).trans (((yRet2 zgh209_15 rfl (Or.inl rfl)) : zex E (n + 1) d 209 15 [some (.int x), some (.int a), some (.int b)] [.int 0] h = some (.inl (some (.int 0)), h))))))
set_option maxRecDepth 100000 in
theorem in_b {E : zE} {n d : Nat} {h : zH} {x a b : Int32} (h0 : a.toInt ≤ x.toInt) (h1 : b.toInt < x.toInt)   : zex E (n + 8) d 209 0 [some (.int x), some (.int a), some (.int b)] [] h = some (.inl (some (.int 0)), h) :=
  ((yIn zgh209_0 rfl) : zex E (n + 8) d 209 0 [some (.int x), some (.int a), some (.int b)] [] h = zex E (n + 7) d 209 1 [some (.int x), some (.int a), some (.int b)] [.int x] h).trans (((yIn zgh209_1 rfl) : zex E (n + 7) d 209 1 [some (.int x), some (.int a), some (.int b)] [.int x] h = zex E (n + 6) d 209 2 [some (.int x), some (.int a), some (.int b)] [.int a, .int x] h).trans (((zklF zgh209_2 h0) : zex E (n + 6) d 209 2 [some (.int x), some (.int a), some (.int b)] [.int a, .int x] h = zex E (n + 5) d 209 5 [some (.int x), some (.int a), some (.int b)] [] h).trans (((yIn zgh209_5 rfl) : zex E (n + 5) d 209 5 [some (.int x), some (.int a), some (.int b)] [] h = zex E (n + 4) d 209 6 [some (.int x), some (.int a), some (.int b)] [.int x] h).trans (((yIn zgh209_6 rfl) : zex E (n + 4) d 209 6 [some (.int x), some (.int a), some (.int b)] [.int x] h = zex E (n + 3) d 209 7 [some (.int x), some (.int a), some (.int b)] [.int b, .int x] h).trans (((zkhT zgh209_7 h1) : zex E (n + 3) d 209 7 [some (.int x), some (.int a), some (.int b)] [.int b, .int x] h = zex E (n + 2) d 209 14 [some (.int x), some (.int a), some (.int b)] [] h).trans (((yCi zgh209_14) : zex E (n + 2) d 209 14 [some (.int x), some (.int a), some (.int b)] [] h = zex E (n + 1) d 209 15 [some (.int x), some (.int a), some (.int b)] [.int 0] h).trans (((yRet2 zgh209_15 rfl (Or.inl rfl)) : zex E (n + 1) d 209 15 [some (.int x), some (.int a), some (.int b)] [.int 0] h = some (.inl (some (.int 0)), h)))))))))
set_option maxRecDepth 100000 in
theorem nm_0 {E : zE} {n d : Nat} {h : zH} {p q : Int32}  (a84 : zat h.1 84 = some (.inr (.inl (12, [none, some (some 85), some (some 86), some (some 87), some (some 88), some (some 89), none, none, some (some 90), none, none, none, none, none, none, some (some 91), none, some (some 92), some (some 93)])))) (e1 : zex E (n + 6) d 217 0 [some (.ref 84)] [] h = some (.inl (some (.int q)), h)) (e2 : zex E (n + 3) d 209 0 [some (.int p), some (.int 0), some (.int (q - 1))] [] h = some (.inl (some (.int 1)), h)) : zex E (n + 10) (d + 1) 228 0 [some (.ref 84), some (.int p)] [] h = some (.inl (some (.int 0)), h) :=
  ((yIn zgh228_0 rfl) : zex E (n + 10) (d + 1) 228 0 [some (.ref 84), some (.int p)] [] h = zex E (n + 9) (d + 1) 228 1 [some (.ref 84), some (.int p)] [.int p] h).trans (((yCi zgh228_1) : zex E (n + 9) (d + 1) 228 1 [some (.ref 84), some (.int p)] [.int p] h = zex E (n + 8) (d + 1) 228 2 [some (.ref 84), some (.int p)] [.int 0, .int p] h).trans (((yAn zgh228_2 rfl rfl) : zex E (n + 8) (d + 1) 228 2 [some (.ref 84), some (.int p)] [.int 0, .int p] h = zex E (n + 7) (d + 1) 228 3 [some (.ref 84), some (.int p)] [.ref 84, .int 0, .int p] h).trans (((zcvg (h := h) (as := []) (r := [.int 0, .int p]) zgh228_3 znh217 rfl a84 rfl e1) : zex E (n + 7) (d + 1) 228 3 [some (.ref 84), some (.int p)] [.ref 84, .int 0, .int p] h = zex E (n + 6) (d + 1) 228 6 [some (.ref 84), some (.int p)] [.int q, .int 0, .int p] h).trans (((yCi zgh228_6) : zex E (n + 6) (d + 1) 228 6 [some (.ref 84), some (.int p)] [.int q, .int 0, .int p] h = zex E (n + 5) (d + 1) 228 7 [some (.ref 84), some (.int p)] [.int 1, .int q, .int 0, .int p] h).trans (((ySub zgh228_7) : zex E (n + 5) (d + 1) 228 7 [some (.ref 84), some (.int p)] [.int 1, .int q, .int 0, .int p] h = zex E (n + 4) (d + 1) 228 8 [some (.ref 84), some (.int p)] [.int (q - 1), .int 0, .int p] h).trans (((zcvs (as := [.int p, .int 0, .int (q - 1)]) (r := []) zgh228_8 znh209 rfl rfl e2) : zex E (n + 4) (d + 1) 228 8 [some (.ref 84), some (.int p)] [.int (q - 1), .int 0, .int p] h = zex E (n + 3) (d + 1) 228 11 [some (.ref 84), some (.int p)] [.int 1] h).trans (((zjnT zgh228_11 (by decide)) : zex E (n + 3) (d + 1) 228 11 [some (.ref 84), some (.int p)] [.int 1] h = zex E (n + 2) (d + 1) 228 18 [some (.ref 84), some (.int p)] [] h).trans (((yCi zgh228_18) : zex E (n + 2) (d + 1) 228 18 [some (.ref 84), some (.int p)] [] h = zex E (n + 1) (d + 1) 228 19 [some (.ref 84), some (.int p)] [.int 0] h).trans (((yRet2 zgh228_19 rfl (Or.inl rfl)) : zex E (n + 1) (d + 1) 228 19 [some (.ref 84), some (.int p)] [.int 0] h = some (.inl (some (.int 0)), h)))))))))))
set_option maxRecDepth 100000 in
theorem nm_1 {E : zE} {n d : Nat} {h : zH} {p q : Int32}  (a84 : zat h.1 84 = some (.inr (.inl (12, [none, some (some 85), some (some 86), some (some 87), some (some 88), some (some 89), none, none, some (some 90), none, none, none, none, none, none, some (some 91), none, some (some 92), some (some 93)])))) (e1 : zex E (n + 7) d 217 0 [some (.ref 84)] [] h = some (.inl (some (.int q)), h)) (e2 : zex E (n + 4) d 209 0 [some (.int p), some (.int 0), some (.int (q - 1))] [] h = some (.inl (some (.int 0)), h)) : zex E (n + 11) (d + 1) 228 0 [some (.ref 84), some (.int p)] [] h = some (.inl (some (.int 1)), h) :=
  ((yIn zgh228_0 rfl) : zex E (n + 11) (d + 1) 228 0 [some (.ref 84), some (.int p)] [] h = zex E (n + 10) (d + 1) 228 1 [some (.ref 84), some (.int p)] [.int p] h).trans (((yCi zgh228_1) : zex E (n + 10) (d + 1) 228 1 [some (.ref 84), some (.int p)] [.int p] h = zex E (n + 9) (d + 1) 228 2 [some (.ref 84), some (.int p)] [.int 0, .int p] h).trans (((yAn zgh228_2 rfl rfl) : zex E (n + 9) (d + 1) 228 2 [some (.ref 84), some (.int p)] [.int 0, .int p] h = zex E (n + 8) (d + 1) 228 3 [some (.ref 84), some (.int p)] [.ref 84, .int 0, .int p] h).trans (((zcvg (h := h) (as := []) (r := [.int 0, .int p]) zgh228_3 znh217 rfl a84 rfl e1) : zex E (n + 8) (d + 1) 228 3 [some (.ref 84), some (.int p)] [.ref 84, .int 0, .int p] h = zex E (n + 7) (d + 1) 228 6 [some (.ref 84), some (.int p)] [.int q, .int 0, .int p] h).trans (((yCi zgh228_6) : zex E (n + 7) (d + 1) 228 6 [some (.ref 84), some (.int p)] [.int q, .int 0, .int p] h = zex E (n + 6) (d + 1) 228 7 [some (.ref 84), some (.int p)] [.int 1, .int q, .int 0, .int p] h).trans (((ySub zgh228_7) : zex E (n + 6) (d + 1) 228 7 [some (.ref 84), some (.int p)] [.int 1, .int q, .int 0, .int p] h = zex E (n + 5) (d + 1) 228 8 [some (.ref 84), some (.int p)] [.int (q - 1), .int 0, .int p] h).trans (((zcvs (as := [.int p, .int 0, .int (q - 1)]) (r := []) zgh228_8 znh209 rfl rfl e2) : zex E (n + 5) (d + 1) 228 8 [some (.ref 84), some (.int p)] [.int (q - 1), .int 0, .int p] h = zex E (n + 4) (d + 1) 228 11 [some (.ref 84), some (.int p)] [.int 0] h).trans (((zjnF zgh228_11 (by decide)) : zex E (n + 4) (d + 1) 228 11 [some (.ref 84), some (.int p)] [.int 0] h = zex E (n + 3) (d + 1) 228 14 [some (.ref 84), some (.int p)] [] h).trans (((yCi zgh228_14) : zex E (n + 3) (d + 1) 228 14 [some (.ref 84), some (.int p)] [] h = zex E (n + 2) (d + 1) 228 15 [some (.ref 84), some (.int p)] [.int 1] h).trans (((yGo zgh228_15) : zex E (n + 2) (d + 1) 228 15 [some (.ref 84), some (.int p)] [.int 1] h = zex E (n + 1) (d + 1) 228 19 [some (.ref 84), some (.int p)] [.int 1] h).trans (((yRet2 zgh228_19 rfl (Or.inr rfl)) : zex E (n + 1) (d + 1) 228 19 [some (.ref 84), some (.int p)] [.int 1] h = some (.inl (some (.int 1)), h))))))))))))
set_option maxRecDepth 100000 in
theorem hm_1 {E : zE} {n d : Nat} {h h1 : zH} {p k : Int32}  (a84 : zat h.1 84 = some (.inr (.inl (12, [none, some (some 85), some (some 86), some (some 87), some (some 88), some (some 89), none, none, some (some 90), none, none, none, none, none, none, some (some 91), none, some (some 92), some (some 93)])))) (e1 : zex E (n + 5) d 228 0 [some (.ref 84), some (.int p)] [] (zsetI h 84 (upd (h.2.1 84) 0 0)) = some (.inl (some (.int 1)), (zsetI h 84 (upd (h.2.1 84) 0 0)))) (e2 : zex E (n + 3) d 208 0 [some (.ref 84), some (.int 1), some (.int 1)] [] (zsetI h 84 (upd (h.2.1 84) 0 0)) = some (.inl (some (.int 1)), h1)) : zex E (n + 12) (d + 1) 277 0 [some (.ref 84), some (.int p), some (.int k)] [] h = some (.inl (some (.int 0)), h1) :=
  ((yAn zgh277_0 rfl rfl) : zex E (n + 12) (d + 1) 277 0 [some (.ref 84), some (.int p), some (.int k)] [] h = zex E (n + 11) (d + 1) 277 1 [some (.ref 84), some (.int p), some (.int k)] [.ref 84] h).trans (((yCi zgh277_1) : zex E (n + 11) (d + 1) 277 1 [some (.ref 84), some (.int p), some (.int k)] [.ref 84] h = zex E (n + 10) (d + 1) 277 2 [some (.ref 84), some (.int p), some (.int k)] [.int 0, .ref 84] h).trans (((zpx zgh277_2 a84 rfl) : zex E (n + 10) (d + 1) 277 2 [some (.ref 84), some (.int p), some (.int k)] [.int 0, .ref 84] h = zex E (n + 9) (d + 1) 277 5 [some (.ref 84), some (.int p), some (.int k)] [] (zsetI h 84 (upd (h.2.1 84) 0 0))).trans (((yAn zgh277_5 rfl rfl) : zex E (n + 9) (d + 1) 277 5 [some (.ref 84), some (.int p), some (.int k)] [] (zsetI h 84 (upd (h.2.1 84) 0 0)) = zex E (n + 8) (d + 1) 277 6 [some (.ref 84), some (.int p), some (.int k)] [.ref 84] (zsetI h 84 (upd (h.2.1 84) 0 0))).trans (((yAn zgh277_6 rfl rfl) : zex E (n + 8) (d + 1) 277 6 [some (.ref 84), some (.int p), some (.int k)] [.ref 84] (zsetI h 84 (upd (h.2.1 84) 0 0)) = zex E (n + 7) (d + 1) 277 7 [some (.ref 84), some (.int p), some (.int k)] [.ref 84, .ref 84] (zsetI h 84 (upd (h.2.1 84) 0 0))).trans (((yIn zgh277_7 rfl) : zex E (n + 7) (d + 1) 277 7 [some (.ref 84), some (.int p), some (.int k)] [.ref 84, .ref 84] (zsetI h 84 (upd (h.2.1 84) 0 0)) = zex E (n + 6) (d + 1) 277 8 [some (.ref 84), some (.int p), some (.int k)] [.int p, .ref 84, .ref 84] (zsetI h 84 (upd (h.2.1 84) 0 0))).trans (((zcvg (h := (zsetI h 84 (upd (h.2.1 84) 0 0))) (as := [.int p]) (r := [.ref 84]) zgh277_8 znh228 rfl a84 rfl e1) : zex E (n + 6) (d + 1) 277 8 [some (.ref 84), some (.int p), some (.int k)] [.int p, .ref 84, .ref 84] (zsetI h 84 (upd (h.2.1 84) 0 0)) = zex E (n + 5) (d + 1) 277 11 [some (.ref 84), some (.int p), some (.int k)] [.int 1, .ref 84] (zsetI h 84 (upd (h.2.1 84) 0 0))).trans (((yCi zgh277_11) : zex E (n + 5) (d + 1) 277 11 [some (.ref 84), some (.int p), some (.int k)] [.int 1, .ref 84] (zsetI h 84 (upd (h.2.1 84) 0 0)) = zex E (n + 4) (d + 1) 277 12 [some (.ref 84), some (.int p), some (.int k)] [.int 1, .int 1, .ref 84] (zsetI h 84 (upd (h.2.1 84) 0 0))).trans (((zcvg (h := (zsetI h 84 (upd (h.2.1 84) 0 0))) (as := [.int 1, .int 1]) (r := []) zgh277_12 znh208 rfl a84 rfl e2) : zex E (n + 4) (d + 1) 277 12 [some (.ref 84), some (.int p), some (.int k)] [.int 1, .int 1, .ref 84] (zsetI h 84 (upd (h.2.1 84) 0 0)) = zex E (n + 3) (d + 1) 277 15 [some (.ref 84), some (.int p), some (.int k)] [.int 1] h1).trans (((zjeF zgh277_15 (by decide)) : zex E (n + 3) (d + 1) 277 15 [some (.ref 84), some (.int p), some (.int k)] [.int 1] h1 = zex E (n + 2) (d + 1) 277 18 [some (.ref 84), some (.int p), some (.int k)] [] h1).trans (((yCi zgh277_18) : zex E (n + 2) (d + 1) 277 18 [some (.ref 84), some (.int p), some (.int k)] [] h1 = zex E (n + 1) (d + 1) 277 19 [some (.ref 84), some (.int p), some (.int k)] [.int 0] h1).trans (((yRet1 zgh277_19 rfl) : zex E (n + 1) (d + 1) 277 19 [some (.ref 84), some (.int p), some (.int k)] [.int 0] h1 = some (.inl (some (.int 0)), h1)))))))))))))
set_option maxRecDepth 100000 in
theorem hm_2 {E : zE} {n d : Nat} {h : zH} {p k : Int32} {w : Int32}  (a84 : zat h.1 84 = some (.inr (.inl (12, [none, some (some 85), some (some 86), some (some 87), some (some 88), some (some 89), none, none, some (some 90), none, none, none, none, none, none, some (some 91), none, some (some 92), some (some 93)])))) (e1 : zex E (n + 15) d 228 0 [some (.ref 84), some (.int p)] [] (zsetI h 84 (upd (h.2.1 84) 0 0)) = some (.inl (some (.int 0)), (zsetI h 84 (upd (h.2.1 84) 0 0)))) (e2 : zex E (n + 13) d 208 0 [some (.ref 84), some (.int 0), some (.int 1)] [] (zsetI h 84 (upd (h.2.1 84) 0 0)) = some (.inl (some (.int 0)), (zsetI h 84 (upd (h.2.1 84) 0 0)))) (e3 : zex E (n + 6) d 221 0 [some (.ref 84), some (.int p), some (.int 3)] [] (zsetI h 84 (upd (h.2.1 84) 0 0)) = some (.inl (some (.int w)), (zsetI h 84 (upd (h.2.1 84) 0 0)))) (e4 : zex E (n + 3) d 209 0 [some (.int k), some (.int 0), some (.int (w - 1))] [] (zsetI h 84 (upd (h.2.1 84) 0 0)) = some (.inl (some (.int 0)), (zsetI h 84 (upd (h.2.1 84) 0 0)))) : zex E (n + 22) (d + 1) 277 0 [some (.ref 84), some (.int p), some (.int k)] [] h = some (.inl (some (.int (-1))), (zsetI h 84 (upd (h.2.1 84) 0 0))) :=
  ((yAn zgh277_0 rfl rfl) : zex E (n + 22) (d + 1) 277 0 [some (.ref 84), some (.int p), some (.int k)] [] h = zex E (n + 21) (d + 1) 277 1 [some (.ref 84), some (.int p), some (.int k)] [.ref 84] h).trans (((yCi zgh277_1) : zex E (n + 21) (d + 1) 277 1 [some (.ref 84), some (.int p), some (.int k)] [.ref 84] h = zex E (n + 20) (d + 1) 277 2 [some (.ref 84), some (.int p), some (.int k)] [.int 0, .ref 84] h).trans (((zpx zgh277_2 a84 rfl) : zex E (n + 20) (d + 1) 277 2 [some (.ref 84), some (.int p), some (.int k)] [.int 0, .ref 84] h = zex E (n + 19) (d + 1) 277 5 [some (.ref 84), some (.int p), some (.int k)] [] (zsetI h 84 (upd (h.2.1 84) 0 0))).trans (((yAn zgh277_5 rfl rfl) : zex E (n + 19) (d + 1) 277 5 [some (.ref 84), some (.int p), some (.int k)] [] (zsetI h 84 (upd (h.2.1 84) 0 0)) = zex E (n + 18) (d + 1) 277 6 [some (.ref 84), some (.int p), some (.int k)] [.ref 84] (zsetI h 84 (upd (h.2.1 84) 0 0))).trans (((yAn zgh277_6 rfl rfl) : zex E (n + 18) (d + 1) 277 6 [some (.ref 84), some (.int p), some (.int k)] [.ref 84] (zsetI h 84 (upd (h.2.1 84) 0 0)) = zex E (n + 17) (d + 1) 277 7 [some (.ref 84), some (.int p), some (.int k)] [.ref 84, .ref 84] (zsetI h 84 (upd (h.2.1 84) 0 0))).trans (((yIn zgh277_7 rfl) : zex E (n + 17) (d + 1) 277 7 [some (.ref 84), some (.int p), some (.int k)] [.ref 84, .ref 84] (zsetI h 84 (upd (h.2.1 84) 0 0)) = zex E (n + 16) (d + 1) 277 8 [some (.ref 84), some (.int p), some (.int k)] [.int p, .ref 84, .ref 84] (zsetI h 84 (upd (h.2.1 84) 0 0))).trans (((zcvg (h := (zsetI h 84 (upd (h.2.1 84) 0 0))) (as := [.int p]) (r := [.ref 84]) zgh277_8 znh228 rfl a84 rfl e1) : zex E (n + 16) (d + 1) 277 8 [some (.ref 84), some (.int p), some (.int k)] [.int p, .ref 84, .ref 84] (zsetI h 84 (upd (h.2.1 84) 0 0)) = zex E (n + 15) (d + 1) 277 11 [some (.ref 84), some (.int p), some (.int k)] [.int 0, .ref 84] (zsetI h 84 (upd (h.2.1 84) 0 0))).trans (((yCi zgh277_11) : zex E (n + 15) (d + 1) 277 11 [some (.ref 84), some (.int p), some (.int k)] [.int 0, .ref 84] (zsetI h 84 (upd (h.2.1 84) 0 0)) = zex E (n + 14) (d + 1) 277 12 [some (.ref 84), some (.int p), some (.int k)] [.int 1, .int 0, .ref 84] (zsetI h 84 (upd (h.2.1 84) 0 0))).trans (((zcvg (h := (zsetI h 84 (upd (h.2.1 84) 0 0))) (as := [.int 0, .int 1]) (r := []) zgh277_12 znh208 rfl a84 rfl e2) : zex E (n + 14) (d + 1) 277 12 [some (.ref 84), some (.int p), some (.int k)] [.int 1, .int 0, .ref 84] (zsetI h 84 (upd (h.2.1 84) 0 0)) = zex E (n + 13) (d + 1) 277 15 [some (.ref 84), some (.int p), some (.int k)] [.int 0] (zsetI h 84 (upd (h.2.1 84) 0 0))).trans (((zjeT zgh277_15 (by decide)) : zex E (n + 13) (d + 1) 277 15 [some (.ref 84), some (.int p), some (.int k)] [.int 0] (zsetI h 84 (upd (h.2.1 84) 0 0)) = zex E (n + 12) (d + 1) 277 20 [some (.ref 84), some (.int p), some (.int k)] [] (zsetI h 84 (upd (h.2.1 84) 0 0))).trans (((yIn zgh277_20 rfl) : zex E (n + 12) (d + 1) 277 20 [some (.ref 84), some (.int p), some (.int k)] [] (zsetI h 84 (upd (h.2.1 84) 0 0)) = zex E (n + 11) (d + 1) 277 21 [some (.ref 84), some (.int p), some (.int k)] [.int k] (zsetI h 84 (upd (h.2.1 84) 0 0))).trans (((yCi zgh277_21) : zex E (n + 11) (d + 1) 277 21 [some (.ref 84), some (.int p), some (.int k)] [.int k] (zsetI h 84 (upd (h.2.1 84) 0 0)) = zex E (n + 10) (d + 1) 277 22 [some (.ref 84), some (.int p), some (.int k)] [.int 0, .int k] (zsetI h 84 (upd (h.2.1 84) 0 0))).trans (((yAn zgh277_22 rfl rfl) : zex E (n + 10) (d + 1) 277 22 [some (.ref 84), some (.int p), some (.int k)] [.int 0, .int k] (zsetI h 84 (upd (h.2.1 84) 0 0)) = zex E (n + 9) (d + 1) 277 23 [some (.ref 84), some (.int p), some (.int k)] [.ref 84, .int 0, .int k] (zsetI h 84 (upd (h.2.1 84) 0 0))).trans (((yIn zgh277_23 rfl) : zex E (n + 9) (d + 1) 277 23 [some (.ref 84), some (.int p), some (.int k)] [.ref 84, .int 0, .int k] (zsetI h 84 (upd (h.2.1 84) 0 0)) = zex E (n + 8) (d + 1) 277 24 [some (.ref 84), some (.int p), some (.int k)] [.int p, .ref 84, .int 0, .int k] (zsetI h 84 (upd (h.2.1 84) 0 0))).trans (((yCi zgh277_24) : zex E (n + 8) (d + 1) 277 24 [some (.ref 84), some (.int p), some (.int k)] [.int p, .ref 84, .int 0, .int k] (zsetI h 84 (upd (h.2.1 84) 0 0)) = zex E (n + 7) (d + 1) 277 25 [some (.ref 84), some (.int p), some (.int k)] [.int 3, .int p, .ref 84, .int 0, .int k] (zsetI h 84 (upd (h.2.1 84) 0 0))).trans (((zcvg (h := (zsetI h 84 (upd (h.2.1 84) 0 0))) (as := [.int p, .int 3]) (r := [.int 0, .int k]) zgh277_25 znh221 rfl a84 rfl e3) : zex E (n + 7) (d + 1) 277 25 [some (.ref 84), some (.int p), some (.int k)] [.int 3, .int p, .ref 84, .int 0, .int k] (zsetI h 84 (upd (h.2.1 84) 0 0)) = zex E (n + 6) (d + 1) 277 28 [some (.ref 84), some (.int p), some (.int k)] [.int w, .int 0, .int k] (zsetI h 84 (upd (h.2.1 84) 0 0))).trans (((yCi zgh277_28) : zex E (n + 6) (d + 1) 277 28 [some (.ref 84), some (.int p), some (.int k)] [.int w, .int 0, .int k] (zsetI h 84 (upd (h.2.1 84) 0 0)) = zex E (n + 5) (d + 1) 277 29 [some (.ref 84), some (.int p), some (.int k)] [.int 1, .int w, .int 0, .int k] (zsetI h 84 (upd (h.2.1 84) 0 0))).trans (((ySub zgh277_29) : zex E (n + 5) (d + 1) 277 29 [some (.ref 84), some (.int p), some (.int k)] [.int 1, .int w, .int 0, .int k] (zsetI h 84 (upd (h.2.1 84) 0 0)) = zex E (n + 4) (d + 1) 277 30 [some (.ref 84), some (.int p), some (.int k)] [.int (w - 1), .int 0, .int k] (zsetI h 84 (upd (h.2.1 84) 0 0))).trans (((zcvs (as := [.int k, .int 0, .int (w - 1)]) (r := []) zgh277_30 znh209 rfl rfl e4) : zex E (n + 4) (d + 1) 277 30 [some (.ref 84), some (.int p), some (.int k)] [.int (w - 1), .int 0, .int k] (zsetI h 84 (upd (h.2.1 84) 0 0)) = zex E (n + 3) (d + 1) 277 33 [some (.ref 84), some (.int p), some (.int k)] [.int 0] (zsetI h 84 (upd (h.2.1 84) 0 0))).trans (((zjeT zgh277_33 (by decide)) : zex E (n + 3) (d + 1) 277 33 [some (.ref 84), some (.int p), some (.int k)] [.int 0] (zsetI h 84 (upd (h.2.1 84) 0 0)) = zex E (n + 2) (d + 1) 277 47 [some (.ref 84), some (.int p), some (.int k)] [] (zsetI h 84 (upd (h.2.1 84) 0 0))).trans (((yCi zgh277_47) : zex E (n + 2) (d + 1) 277 47 [some (.ref 84), some (.int p), some (.int k)] [] (zsetI h 84 (upd (h.2.1 84) 0 0)) = zex E (n + 1) (d + 1) 277 48 [some (.ref 84), some (.int p), some (.int k)] [.int (-1)] (zsetI h 84 (upd (h.2.1 84) 0 0))).trans (((yRet1 zgh277_48 rfl) : zex E (n + 1) (d + 1) 277 48 [some (.ref 84), some (.int p), some (.int k)] [.int (-1)] (zsetI h 84 (upd (h.2.1 84) 0 0)) = some (.inl (some (.int (-1))), (zsetI h 84 (upd (h.2.1 84) 0 0)))))))))))))))))))))))))
set_option maxRecDepth 100000 in
theorem hm_3 {E : zE} {n d : Nat} {h : zH} {p k : Int32} {w c : Int32}  (a84 : zat h.1 84 = some (.inr (.inl (12, [none, some (some 85), some (some 86), some (some 87), some (some 88), some (some 89), none, none, some (some 90), none, none, none, none, none, none, some (some 91), none, some (some 92), some (some 93)])))) (e1 : zex E (n + 21) d 228 0 [some (.ref 84), some (.int p)] [] (zsetI h 84 (upd (h.2.1 84) 0 0)) = some (.inl (some (.int 0)), (zsetI h 84 (upd (h.2.1 84) 0 0)))) (e2 : zex E (n + 19) d 208 0 [some (.ref 84), some (.int 0), some (.int 1)] [] (zsetI h 84 (upd (h.2.1 84) 0 0)) = some (.inl (some (.int 0)), (zsetI h 84 (upd (h.2.1 84) 0 0)))) (e3 : zex E (n + 12) d 221 0 [some (.ref 84), some (.int p), some (.int 3)] [] (zsetI h 84 (upd (h.2.1 84) 0 0)) = some (.inl (some (.int w)), (zsetI h 84 (upd (h.2.1 84) 0 0)))) (e4 : zex E (n + 9) d 209 0 [some (.int k), some (.int 0), some (.int (w - 1))] [] (zsetI h 84 (upd (h.2.1 84) 0 0)) = some (.inl (some (.int 1)), (zsetI h 84 (upd (h.2.1 84) 0 0)))) (e5 : zex E (n + 2) d 221 0 [some (.ref 84), some (.int p), some (.int (4 + k))] [] (zsetI h 84 (upd (h.2.1 84) 0 0)) = some (.inl (some (.int c)), (zsetI h 84 (upd (h.2.1 84) 0 0)))) : zex E (n + 28) (d + 1) 277 0 [some (.ref 84), some (.int p), some (.int k)] [] h = some (.inl (some (.int c)), (zsetI h 84 (upd (h.2.1 84) 0 0))) :=
  ((yAn zgh277_0 rfl rfl) : zex E (n + 28) (d + 1) 277 0 [some (.ref 84), some (.int p), some (.int k)] [] h = zex E (n + 27) (d + 1) 277 1 [some (.ref 84), some (.int p), some (.int k)] [.ref 84] h).trans (((yCi zgh277_1) : zex E (n + 27) (d + 1) 277 1 [some (.ref 84), some (.int p), some (.int k)] [.ref 84] h = zex E (n + 26) (d + 1) 277 2 [some (.ref 84), some (.int p), some (.int k)] [.int 0, .ref 84] h).trans (((zpx zgh277_2 a84 rfl) : zex E (n + 26) (d + 1) 277 2 [some (.ref 84), some (.int p), some (.int k)] [.int 0, .ref 84] h = zex E (n + 25) (d + 1) 277 5 [some (.ref 84), some (.int p), some (.int k)] [] (zsetI h 84 (upd (h.2.1 84) 0 0))).trans (((yAn zgh277_5 rfl rfl) : zex E (n + 25) (d + 1) 277 5 [some (.ref 84), some (.int p), some (.int k)] [] (zsetI h 84 (upd (h.2.1 84) 0 0)) = zex E (n + 24) (d + 1) 277 6 [some (.ref 84), some (.int p), some (.int k)] [.ref 84] (zsetI h 84 (upd (h.2.1 84) 0 0))).trans (((yAn zgh277_6 rfl rfl) : zex E (n + 24) (d + 1) 277 6 [some (.ref 84), some (.int p), some (.int k)] [.ref 84] (zsetI h 84 (upd (h.2.1 84) 0 0)) = zex E (n + 23) (d + 1) 277 7 [some (.ref 84), some (.int p), some (.int k)] [.ref 84, .ref 84] (zsetI h 84 (upd (h.2.1 84) 0 0))).trans (((yIn zgh277_7 rfl) : zex E (n + 23) (d + 1) 277 7 [some (.ref 84), some (.int p), some (.int k)] [.ref 84, .ref 84] (zsetI h 84 (upd (h.2.1 84) 0 0)) = zex E (n + 22) (d + 1) 277 8 [some (.ref 84), some (.int p), some (.int k)] [.int p, .ref 84, .ref 84] (zsetI h 84 (upd (h.2.1 84) 0 0))).trans (((zcvg (h := (zsetI h 84 (upd (h.2.1 84) 0 0))) (as := [.int p]) (r := [.ref 84]) zgh277_8 znh228 rfl a84 rfl e1) : zex E (n + 22) (d + 1) 277 8 [some (.ref 84), some (.int p), some (.int k)] [.int p, .ref 84, .ref 84] (zsetI h 84 (upd (h.2.1 84) 0 0)) = zex E (n + 21) (d + 1) 277 11 [some (.ref 84), some (.int p), some (.int k)] [.int 0, .ref 84] (zsetI h 84 (upd (h.2.1 84) 0 0))).trans (((yCi zgh277_11) : zex E (n + 21) (d + 1) 277 11 [some (.ref 84), some (.int p), some (.int k)] [.int 0, .ref 84] (zsetI h 84 (upd (h.2.1 84) 0 0)) = zex E (n + 20) (d + 1) 277 12 [some (.ref 84), some (.int p), some (.int k)] [.int 1, .int 0, .ref 84] (zsetI h 84 (upd (h.2.1 84) 0 0))).trans (((zcvg (h := (zsetI h 84 (upd (h.2.1 84) 0 0))) (as := [.int 0, .int 1]) (r := []) zgh277_12 znh208 rfl a84 rfl e2) : zex E (n + 20) (d + 1) 277 12 [some (.ref 84), some (.int p), some (.int k)] [.int 1, .int 0, .ref 84] (zsetI h 84 (upd (h.2.1 84) 0 0)) = zex E (n + 19) (d + 1) 277 15 [some (.ref 84), some (.int p), some (.int k)] [.int 0] (zsetI h 84 (upd (h.2.1 84) 0 0))).trans (((zjeT zgh277_15 (by decide)) : zex E (n + 19) (d + 1) 277 15 [some (.ref 84), some (.int p), some (.int k)] [.int 0] (zsetI h 84 (upd (h.2.1 84) 0 0)) = zex E (n + 18) (d + 1) 277 20 [some (.ref 84), some (.int p), some (.int k)] [] (zsetI h 84 (upd (h.2.1 84) 0 0))).trans (((yIn zgh277_20 rfl) : zex E (n + 18) (d + 1) 277 20 [some (.ref 84), some (.int p), some (.int k)] [] (zsetI h 84 (upd (h.2.1 84) 0 0)) = zex E (n + 17) (d + 1) 277 21 [some (.ref 84), some (.int p), some (.int k)] [.int k] (zsetI h 84 (upd (h.2.1 84) 0 0))).trans (((yCi zgh277_21) : zex E (n + 17) (d + 1) 277 21 [some (.ref 84), some (.int p), some (.int k)] [.int k] (zsetI h 84 (upd (h.2.1 84) 0 0)) = zex E (n + 16) (d + 1) 277 22 [some (.ref 84), some (.int p), some (.int k)] [.int 0, .int k] (zsetI h 84 (upd (h.2.1 84) 0 0))).trans (((yAn zgh277_22 rfl rfl) : zex E (n + 16) (d + 1) 277 22 [some (.ref 84), some (.int p), some (.int k)] [.int 0, .int k] (zsetI h 84 (upd (h.2.1 84) 0 0)) = zex E (n + 15) (d + 1) 277 23 [some (.ref 84), some (.int p), some (.int k)] [.ref 84, .int 0, .int k] (zsetI h 84 (upd (h.2.1 84) 0 0))).trans (((yIn zgh277_23 rfl) : zex E (n + 15) (d + 1) 277 23 [some (.ref 84), some (.int p), some (.int k)] [.ref 84, .int 0, .int k] (zsetI h 84 (upd (h.2.1 84) 0 0)) = zex E (n + 14) (d + 1) 277 24 [some (.ref 84), some (.int p), some (.int k)] [.int p, .ref 84, .int 0, .int k] (zsetI h 84 (upd (h.2.1 84) 0 0))).trans (((yCi zgh277_24) : zex E (n + 14) (d + 1) 277 24 [some (.ref 84), some (.int p), some (.int k)] [.int p, .ref 84, .int 0, .int k] (zsetI h 84 (upd (h.2.1 84) 0 0)) = zex E (n + 13) (d + 1) 277 25 [some (.ref 84), some (.int p), some (.int k)] [.int 3, .int p, .ref 84, .int 0, .int k] (zsetI h 84 (upd (h.2.1 84) 0 0))).trans (((zcvg (h := (zsetI h 84 (upd (h.2.1 84) 0 0))) (as := [.int p, .int 3]) (r := [.int 0, .int k]) zgh277_25 znh221 rfl a84 rfl e3) : zex E (n + 13) (d + 1) 277 25 [some (.ref 84), some (.int p), some (.int k)] [.int 3, .int p, .ref 84, .int 0, .int k] (zsetI h 84 (upd (h.2.1 84) 0 0)) = zex E (n + 12) (d + 1) 277 28 [some (.ref 84), some (.int p), some (.int k)] [.int w, .int 0, .int k] (zsetI h 84 (upd (h.2.1 84) 0 0))).trans (((yCi zgh277_28) : zex E (n + 12) (d + 1) 277 28 [some (.ref 84), some (.int p), some (.int k)] [.int w, .int 0, .int k] (zsetI h 84 (upd (h.2.1 84) 0 0)) = zex E (n + 11) (d + 1) 277 29 [some (.ref 84), some (.int p), some (.int k)] [.int 1, .int w, .int 0, .int k] (zsetI h 84 (upd (h.2.1 84) 0 0))).trans (((ySub zgh277_29) : zex E (n + 11) (d + 1) 277 29 [some (.ref 84), some (.int p), some (.int k)] [.int 1, .int w, .int 0, .int k] (zsetI h 84 (upd (h.2.1 84) 0 0)) = zex E (n + 10) (d + 1) 277 30 [some (.ref 84), some (.int p), some (.int k)] [.int (w - 1), .int 0, .int k] (zsetI h 84 (upd (h.2.1 84) 0 0))).trans (((zcvs (as := [.int k, .int 0, .int (w - 1)]) (r := []) zgh277_30 znh209 rfl rfl e4) : zex E (n + 10) (d + 1) 277 30 [some (.ref 84), some (.int p), some (.int k)] [.int (w - 1), .int 0, .int k] (zsetI h 84 (upd (h.2.1 84) 0 0)) = zex E (n + 9) (d + 1) 277 33 [some (.ref 84), some (.int p), some (.int k)] [.int 1] (zsetI h 84 (upd (h.2.1 84) 0 0))).trans (((zjeF zgh277_33 (by decide)) : zex E (n + 9) (d + 1) 277 33 [some (.ref 84), some (.int p), some (.int k)] [.int 1] (zsetI h 84 (upd (h.2.1 84) 0 0)) = zex E (n + 8) (d + 1) 277 36 [some (.ref 84), some (.int p), some (.int k)] [] (zsetI h 84 (upd (h.2.1 84) 0 0))).trans (((yAn zgh277_36 rfl rfl) : zex E (n + 8) (d + 1) 277 36 [some (.ref 84), some (.int p), some (.int k)] [] (zsetI h 84 (upd (h.2.1 84) 0 0)) = zex E (n + 7) (d + 1) 277 37 [some (.ref 84), some (.int p), some (.int k)] [.ref 84] (zsetI h 84 (upd (h.2.1 84) 0 0))).trans (((yIn zgh277_37 rfl) : zex E (n + 7) (d + 1) 277 37 [some (.ref 84), some (.int p), some (.int k)] [.ref 84] (zsetI h 84 (upd (h.2.1 84) 0 0)) = zex E (n + 6) (d + 1) 277 38 [some (.ref 84), some (.int p), some (.int k)] [.int p, .ref 84] (zsetI h 84 (upd (h.2.1 84) 0 0))).trans (((yCi zgh277_38) : zex E (n + 6) (d + 1) 277 38 [some (.ref 84), some (.int p), some (.int k)] [.int p, .ref 84] (zsetI h 84 (upd (h.2.1 84) 0 0)) = zex E (n + 5) (d + 1) 277 39 [some (.ref 84), some (.int p), some (.int k)] [.int 4, .int p, .ref 84] (zsetI h 84 (upd (h.2.1 84) 0 0))).trans (((yIn zgh277_39 rfl) : zex E (n + 5) (d + 1) 277 39 [some (.ref 84), some (.int p), some (.int k)] [.int 4, .int p, .ref 84] (zsetI h 84 (upd (h.2.1 84) 0 0)) = zex E (n + 4) (d + 1) 277 40 [some (.ref 84), some (.int p), some (.int k)] [.int k, .int 4, .int p, .ref 84] (zsetI h 84 (upd (h.2.1 84) 0 0))).trans (((yAdd zgh277_40) : zex E (n + 4) (d + 1) 277 40 [some (.ref 84), some (.int p), some (.int k)] [.int k, .int 4, .int p, .ref 84] (zsetI h 84 (upd (h.2.1 84) 0 0)) = zex E (n + 3) (d + 1) 277 41 [some (.ref 84), some (.int p), some (.int k)] [.int (4 + k), .int p, .ref 84] (zsetI h 84 (upd (h.2.1 84) 0 0))).trans (((zcvg (h := (zsetI h 84 (upd (h.2.1 84) 0 0))) (as := [.int p, .int (4 + k)]) (r := []) zgh277_41 znh221 rfl a84 rfl e5) : zex E (n + 3) (d + 1) 277 41 [some (.ref 84), some (.int p), some (.int k)] [.int (4 + k), .int p, .ref 84] (zsetI h 84 (upd (h.2.1 84) 0 0)) = zex E (n + 2) (d + 1) 277 44 [some (.ref 84), some (.int p), some (.int k)] [.int c] (zsetI h 84 (upd (h.2.1 84) 0 0))).trans (((yGo zgh277_44) : zex E (n + 2) (d + 1) 277 44 [some (.ref 84), some (.int p), some (.int k)] [.int c] (zsetI h 84 (upd (h.2.1 84) 0 0)) = zex E (n + 1) (d + 1) 277 48 [some (.ref 84), some (.int p), some (.int k)] [.int c] (zsetI h 84 (upd (h.2.1 84) 0 0))).trans (((yRet1 zgh277_48 rfl) : zex E (n + 1) (d + 1) 277 48 [some (.ref 84), some (.int p), some (.int k)] [.int c] (zsetI h 84 (upd (h.2.1 84) 0 0)) = some (.inl (some (.int c)), (zsetI h 84 (upd (h.2.1 84) 0 0)))))))))))))))))))))))))))))))
def hvl (σ : hSt) (p k : Int) : Int := if 0 ≤ k ∧ k < (ssl σ p.toNat : Int) then (swk σ p.toNat k.toNat : Int) else -1
set_option maxRecDepth 100000 in
theorem w12_i : ∀ p, p < 8 → ∀ k, k < 12 → (Int32.ofNat p * 12 + Int32.ofNat k).toInt = ((12 * p + k : Nat) : Int) := by decide +kernel
def hcQ (h : zH) (σ : hSt) (p9 k9 : Int32) (o : Option zR) : Prop := if 0 ≤ p9.toInt ∧ p9.toInt < (sP σ : Int) then ∃ h1 : zH, o = some (.inl (some (.int 0)), h1) ∧ bRQ ctb sc6.2.1 h 1 6 h1 ∧ (h1.2.2.1 94 0).toInt = hvl σ p9.toInt k9.toInt else ∃ h1 : zH, o = some (.inl (some (.int 1)), h1) ∧ bRQ ctb sc6.2.1 h 1 6 h1
def hmQ (h : zH) (σ : hSt) (p9 k9 : Int32) (o : Option zR) : Prop := if 0 ≤ p9.toInt ∧ p9.toInt < (sP σ : Int) then ∃ (y : Int32) (h1 : zH), o = some (.inl (some (.int y)), h1) ∧ bRQ ctb sc357.2.1 h 0 0 h1 ∧ (h1.2.1 84 0).toInt = 0 ∧ y.toInt = hvl σ p9.toInt k9.toInt else ∃ (y : Int32) (h1 : zH), o = some (.inl (some (.int y)), h1) ∧ bRQ ctb sc357.2.1 h 0 0 h1 ∧ (h1.2.1 84 0).toInt = 1
section HA
variable {E : zE} {B : Nat} {h : zH} {σ : hSt}
set_option maxRecDepth 100000 in
theorem habC (hsm : bSO E ctb B (60, smT)) (gI : bHI h) (gP : bPS h) (gT : bTB ctb h.1) (hR : RC h 4 18 σ) (hW : WF σ) {p9 k9 : Int32} : ∀ d f, 60 ≤ d → B + 1000 ≤ f → hcQ h σ p9 k9 (zex E f d 7 0 [some (.ref 0), some (.int p9), some (.int k9), some (.ref 94), none] [] h) := by
  intro d f hd hf
  obtain ⟨n, hn⟩ : ∃ n, f = n + 200 := ⟨f - 200, by omega⟩
  obtain ⟨d, hd'⟩ : ∃ d', d = d' + 4 := ⟨d - 4, by omega⟩
  subst hn hd'
  have b1p := bi32 p9
  have b2p := bi32 k9
  obtain ⟨v1, h1, c1, c2, ⟨c3, c4⟩, c5, c6, c7, q1, m1, b1⟩ := hsm 7 [sc6] rfl sc6 (List.Mem.head _) (by decide) [(p9 : Int32).toInt, (k9 : Int32).toInt] [.ref 0, .int p9, .int k9, .ref 94] h (d + 4) (n + 200) (4, 5, 1, 99, 1, 1) rfl (by show 2 ≤ (d + 4); omega) (by omega) ⟨rfl, ⟨_, rfl, brel_v rfl⟩, ⟨_, rfl, brel_v rfl⟩, rfl, trivial⟩ (benv_c b1p.1 b1p.2 (benv_c b2p.1 b2p.2 benv_n)) bcs_n (fun e he => absurd he List.not_mem_nil) gI gP gT
  have c1 : zex E (n + 200) (d + 4) 7 0 [some (.ref 0), some (.int p9), some (.int k9), some (.ref 94), none] [] h = some (.inl v1, h1) := c1
  have cr : bRQ ctb sc6.2.1 h 1 6 h1 := ⟨c2, c3, c4, c5, c6, c7⟩
  obtain ⟨⟨r1, r2, r3⟩, r4, r5, r6, _⟩ := hR
  have w3 := hW.2.2.1
  unfold hcQ
  by_cases hp : 0 ≤ p9.toInt ∧ p9.toInt < (sP σ : Int)
  · rw [if_pos hp]
    obtain ⟨P, hP⟩ : ∃ P : Nat, p9.toInt = (P : Int) := ⟨p9.toInt.toNat, by omega⟩
    have w6 := hW.2.2.2.2.2 P (by omega)
    have s8 : (h.2.1 8 P).toInt = (ssl σ P : Int) := r5 P (by omega)
    have e1 := np_0 (E := E) (n := n + 182) (d := d + 2) (p := p9) (h := h) hp.1 (by rw [r3]; exact hp.2) (gT 0 _ ks0 (by intro z; cases z)) (gT 3 _ (show bg2 ctb 3 = some (.inr (.inl (2, [some (some 4), some (some 10), some (some 17)]))) from rfl) (by intro z; cases z)) (gT 4 _ (show bg2 ctb 4 = some (.inr (.inl (8, [none, none, none, none, some (some 5), some (some 6), some (some 7), some (some 8), some (some 9)]))) from rfl) (by intro z; cases z))
    have fin : ∀ z : Int32, zex E (n + 185) (d + 2) 173 0 [some (.ref 4), some (.int p9), some (.int k9)] [] h = some (.inl (some (.int z)), h) → z.toInt = hvl σ p9.toInt k9.toInt → ∃ h1 : zH, zex E (n + 200) (d + 4) 7 0 [some (.ref 0), some (.int p9), some (.int k9), some (.ref 94), none] [] h = some (.inl (some (.int 0)), h1) ∧ bRQ ctb sc6.2.1 h 1 6 h1 ∧ (h1.2.2.1 94 0).toInt = hvl σ p9.toInt k9.toInt := fun z e2 hz => by
      have e3 := hb_0 (E := E) (n := n + 184) (d := d + 2) (h := h) (p := p9) (k := k9) (z := z) (gT 0 _ ks0 (by intro z; cases z)) (gT 3 _ (show bg2 ctb 3 = some (.inr (.inl (2, [some (some 4), some (some 10), some (some 17)]))) from rfl) (by intro z; cases z)) (gT 4 _ (show bg2 ctb 4 = some (.inr (.inl (8, [none, none, none, none, some (some 5), some (some 6), some (some 7), some (some 8), some (some 9)]))) from rfl) (by intro z; cases z)) e1 e2
      have e4 := wh_0 (E := E) (n := n + 189) (d := d + 3) (u4 := none) (h := h) (p := p9) (k := k9) (z := z) (gT 0 _ ks0 (by intro z; cases z)) (gT 94 _ kt94 (by intro z; cases z)) e3
      obtain ⟨y1, y2⟩ := inl_j c1 e4
      refine ⟨h1, by rw [c1, y1], cr, ?_⟩
      rw [y2]
      show (zrow h.2.2.1 94 (vp_updL (h.2.2.1 94) 0 z.toInt64) 94 0).toInt = _
      rw [zrow_at]
      show (z.toInt64).toInt = _
      rw [Int32.toInt_toInt64]
      exact hz
    by_cases hk0 : k9.toInt < 0
    · exact fin (-1) (st_0 (n := n + 181) (d := d + 2) hk0) (by unfold hvl; rw [if_neg (by omega)]; decide)
    · by_cases hk1 : (h.2.1 8 P).toInt ≤ k9.toInt
      · exact fin (-1) (st_1 (n := n + 175) (d := d + 2) (by omega) hP (by omega) rfl hk1 (gT 4 _ (show bg2 ctb 4 = some (.inr (.inl (8, [none, none, none, none, some (some 5), some (some 6), some (some 7), some (some 8), some (some 9)]))) from rfl) (by intro z; cases z)) (gT 8 _ (show bg2 ctb 8 = some (.inl (0, 8, [])) from rfl) (by intro z; cases z))) (by unfold hvl; rw [hP, if_neg (show ¬ (0 ≤ k9.toInt ∧ k9.toInt < (ssl σ ((P : Int)).toNat : Int)) by rw [Int.toNat_natCast]; omega)]; decide)
      · obtain ⟨K, hK⟩ : ∃ K : Nat, k9.toInt = (K : Int) := ⟨k9.toInt.toNat, by omega⟩
        have ji : (p9 * 12 + k9).toInt = ((12 * P + K : Nat) : Int) := by
          rw [i32_nat hP, i32_nat hK]
          exact w12_i P (by omega) K (by omega)
        refine fin (h.2.1 9 (12 * P + K)) (st_2 (n := n + 168) (d := d + 2) (by omega) hP (by omega) rfl (by omega) ji (by omega) rfl (gT 4 _ (show bg2 ctb 4 = some (.inr (.inl (8, [none, none, none, none, some (some 5), some (some 6), some (some 7), some (some 8), some (some 9)]))) from rfl) (by intro z; cases z)) (gT 8 _ (show bg2 ctb 8 = some (.inl (0, 8, [])) from rfl) (by intro z; cases z)) (gT 9 _ (show bg2 ctb 9 = some (.inl (0, 96, [])) from rfl) (by intro z; cases z))) ?_
        unfold hvl
        rw [hP, hK, Int.toNat_natCast, Int.toNat_natCast, if_pos (by omega)]
        exact r6 P (by omega) K (by omega)
  · rw [if_neg hp]
    have fin : zex E (n + 191) (d + 2) 88 0 [some (.ref 0), some (.int p9)] [] h = some (.inr 2, (h.1, h.2.1, h.2.2.1, h.2.2.2.1 + 1, h.2.2.2.2 + 6)) → ∃ h1 : zH, zex E (n + 200) (d + 4) 7 0 [some (.ref 0), some (.int p9), some (.int k9), some (.ref 94), none] [] h = some (.inl (some (.int 1)), h1) ∧ bRQ ctb sc6.2.1 h 1 6 h1 := fun e1 => by
      have e3 := hb_t (E := E) (n := n + 191) (d := d + 2) (h := h) (p := p9) (k := k9) (gT 0 _ ks0 (by intro z; cases z)) e1
      have e4 := wh_1 (E := E) (n := n + 191) (d := d + 3) (u4 := none) (h := h) (p := p9) (k := k9) (gT 0 _ ks0 (by intro z; cases z)) e3
      obtain ⟨y1, y2⟩ := inl_j c1 e4
      exact ⟨h1, by rw [c1, y1], cr⟩
    by_cases h0 : p9.toInt < 0
    · exact fin (np_1 (n := n + 188) (d := d + 2) h0 )
    · exact fin (np_2 (n := n + 182) (d := d + 2) (by omega) (by rw [r3]; omega) (gT 0 _ ks0 (by intro z; cases z)) (gT 3 _ (show bg2 ctb 3 = some (.inr (.inl (2, [some (some 4), some (some 10), some (some 17)]))) from rfl) (by intro z; cases z)) (gT 4 _ (show bg2 ctb 4 = some (.inr (.inl (8, [none, none, none, none, some (some 5), some (some 6), some (some 7), some (some 8), some (some 9)]))) from rfl) (by intro z; cases z)))
set_option maxRecDepth 100000 in
theorem habM (hsm : bSO E ctb B (60, smT)) (gI : bHI h) (gP : bPS h) (gT : bTB ctb h.1) (hM : RM h σ) (hW : WF σ) {p9 k9 : Int32} : ∀ d f, 60 ≤ d → B + 1000 ≤ f → hmQ h σ p9 k9 (zex E f d 277 0 [some (.ref 84), some (.int p9), some (.int k9)] [] h) := by
  intro d f hd hf
  obtain ⟨n, hn⟩ : ∃ n, f = n + 200 := ⟨f - 200, by omega⟩
  obtain ⟨d, hd'⟩ : ∃ d', d = d' + 4 := ⟨d - 4, by omega⟩
  subst hn hd'
  have b1p := bi32 p9
  have b2p := bi32 k9
  obtain ⟨v1, h1, c1, c2, ⟨c3, c4⟩, c5, c6, c7, q1, m1, b1⟩ := hsm 277 [sc357] rfl sc357 (List.Mem.head _) (by decide) [(p9 : Int32).toInt, (k9 : Int32).toInt] [.ref 84, .int p9, .int k9] h (d + 4) (n + 200) (3, 3, 0, 12, 1, 0) rfl (by show 2 ≤ (d + 4); omega) (by omega) ⟨rfl, ⟨_, rfl, brel_v rfl⟩, ⟨_, rfl, brel_v rfl⟩, trivial⟩ (benv_c b1p.1 b1p.2 (benv_c b2p.1 b2p.2 benv_n)) bcs_n (fun e he => absurd he List.not_mem_nil) gI gP gT
  have c1 : zex E (n + 200) (d + 4) 277 0 [some (.ref 84), some (.int p9), some (.int k9)] [] h = some (.inl v1, h1) := c1
  have cr : bRQ ctb sc357.2.1 h 0 0 h1 := ⟨c2, c3, c4, c5, c6, c7⟩
  obtain ⟨⟨r1, r2, r3⟩, r4, r5⟩ := hM
  have w3 := hW.2.2.1
  obtain ⟨g, hg⟩ : ∃ g, g = zsetI h 84 (upd (h.2.1 84) 0 0) := ⟨_, rfl⟩
  have gT9 : bTB ctb g.1 := by rw [hg]; exact gT
  have g85 : ∀ k, g.2.1 85 k = h.2.1 85 k := fun k => by rw [hg, zs_ne (by decide)]
  have g840 : (g.2.1 84 0).toInt = 0 := by rw [hg, zs_at, upd_e]; rfl
  have gr : bRQ ctb 0 g 0 0 g → True := fun _ => trivial
  have q84 := gT9 84 _ cs84 (by intro z; cases z)
  have q85 := gT9 85 _ ks85 (by intro z; cases z)
  have pp := fun f => mh_people (E := E) (n := f) (d := d + 2) (h := g) (x := h.2.1 85 2) (g85 2) q84 q85
  have x1 : (h.2.1 85 2 - 1).toInt = (sP σ : Int) - 1 := by rw [i32_sub (by rw [r3, int1]; omega) (by rw [r3, int1]; omega), r3, int1]
  have H1 := fun {h1 : zH} => hm_1 (E := E) (n := n + 188) (d := d + 3) (h := h) (h1 := h1) (p := p9) (k := k9)
  have H2 := fun {w : Int32} => hm_2 (E := E) (n := n + 178) (d := d + 3) (h := h) (p := p9) (k := k9) (w := w)
  have H3 := fun {w x : Int32} => hm_3 (E := E) (n := n + 172) (d := d + 3) (h := h) (p := p9) (k := k9) (w := w) (c := x)
  rw [← hg] at H1
  rw [← hg] at H2
  rw [← hg] at H3
  have get := fun {j9 : Int32} {P j : Nat} (hP : p9.toInt = (P : Int)) (hP8 : P < 8) (hj : j9.toInt = (j : Int)) (hj2 : j < 24) (f : Nat) => mh_get (E := E) (n := f + 6) (d := d + 2) (p := p9) (j := j9) (h := g) (pers_i hP hP8 hj hj2) (by omega) rfl q84 q85 (mh_pi (n := f) (d := d + 2))
  unfold hmQ
  by_cases hp : 0 ≤ p9.toInt ∧ p9.toInt < (sP σ : Int)
  · rw [if_pos hp]
    obtain ⟨P, hP⟩ : ∃ P : Nat, p9.toInt = (P : Int) := ⟨p9.toInt.toNat, by omega⟩
    have w6 := hW.2.2.2.2.2 P (by omega)
    have s8 := r5 P (by omega)
    have ye : ∀ f, zex E (f + 20) (d + 3) 228 0 [some (.ref 84), some (.int p9)] [] g = some (.inl (some (.int 0)), g) := fun f => nm_0 (E := E) (n := f + 10) (d := d + 2) (q := h.2.1 85 2) q84 (pp (f + 11)) (in_1 (n := f + 4) (d := d + 2) (by rw [zi0]; exact hp.1) (by rw [x1]; omega))
    have len : ∀ f, zex E (f + 13) (d + 3) 221 0 [some (.ref 84), some (.int p9), some (.int 3)] [] g = some (.inl (some (.int (g.2.1 85 (185 + 24 * P + 3)))), g) := fun f => get hP (by omega) xi3 (by decide) f
    have vl : (g.2.1 85 (185 + 24 * P + 3)).toInt = (ssl σ P : Int) := by rw [g85, show 185 + 24 * P + 3 = 188 + 24 * P by omega]; exact s8.1
    have vl1 : (g.2.1 85 (185 + 24 * P + 3) - 1).toInt = (ssl σ P : Int) - 1 := by rw [i32_sub (by rw [vl, int1]; omega) (by rw [vl, int1]; omega), vl, int1]
    have out : ∀ y : Int32, zex E (n + 200) (d + 4) 277 0 [some (.ref 84), some (.int p9), some (.int k9)] [] h = some (.inl (some (.int y)), g) → y.toInt = hvl σ p9.toInt k9.toInt → ∃ (y : Int32) (h1 : zH), zex E (n + 200) (d + 4) 277 0 [some (.ref 84), some (.int p9), some (.int k9)] [] h = some (.inl (some (.int y)), h1) ∧ bRQ ctb sc357.2.1 h 0 0 h1 ∧ (h1.2.1 84 0).toInt = 0 ∧ y.toInt = hvl σ p9.toInt k9.toInt := fun y e hy => by
      obtain ⟨y1, y2⟩ := inl_j c1 e
      exact ⟨y, g, e, by rw [← y2]; exact cr, g840, hy⟩
    have neg : (k9.toInt < 0 ∨ (ssl σ P : Int) ≤ k9.toInt) → hvl σ p9.toInt k9.toInt = -1 := fun z => by
      unfold hvl
      rw [hP, Int.toNat_natCast, if_neg (by omega)]
    by_cases hk0 : k9.toInt < 0
    · exact out (-1) (H2 (gT 84 _ cs84 (by intro z; cases z)) (ye (n + 173)) (mt_0 (n := n + 187)) (len (n + 171)) (in_a (n := n + 176) (d := d + 3) (by rw [zi0]; exact hk0))) (by rw [neg (Or.inl hk0)]; decide)
    · by_cases hk1 : (ssl σ P : Int) ≤ k9.toInt
      · exact out (-1) (H2 (gT 84 _ cs84 (by intro z; cases z)) (ye (n + 173)) (mt_0 (n := n + 187)) (len (n + 171)) (in_b (n := n + 173) (d := d + 3) (by rw [zi0]; omega) (by rw [vl1]; omega))) (by rw [neg (Or.inr hk1)]; decide)
      · obtain ⟨K, hK⟩ : ∃ K : Nat, k9.toInt = (K : Int) := ⟨k9.toInt.toNat, by omega⟩
        have j4 : (4 + k9).toInt = ((4 + K : Nat) : Int) := by rw [i32_add (by rw [xi4, hK]; omega) (by rw [xi4, hK]; omega), xi4, hK]; omega
        refine out _ (H3 (gT 84 _ cs84 (by intro z; cases z)) (ye (n + 173)) (mt_0 (n := n + 187)) (len (n + 171)) (in_1 (n := n + 172) (d := d + 3) (by rw [zi0]; omega) (by rw [vl1]; omega)) (get hP (by omega) j4 (by omega) (n + 161))) ?_
        unfold hvl
        rw [hP, hK, Int.toNat_natCast, Int.toNat_natCast, if_pos (by omega), g85, show 185 + 24 * P + (4 + K) = 189 + 24 * P + K by omega]
        exact s8.2 K (by omega)
  · rw [if_neg hp]
    have no : ∀ f, zex E (f + 21) (d + 3) 228 0 [some (.ref 84), some (.int p9)] [] g = some (.inl (some (.int 1)), g) := fun f => by
      by_cases h0 : p9.toInt < 0
      · exact nm_1 (E := E) (n := f + 10) (d := d + 2) (q := h.2.1 85 2) q84 (pp (f + 12)) (in_a (n := f + 9) (d := d + 2) (by rw [zi0]; exact h0))
      · exact nm_1 (E := E) (n := f + 10) (d := d + 2) (q := h.2.1 85 2) q84 (pp (f + 12)) (in_b (n := f + 6) (d := d + 2) (by rw [zi0]; omega) (by rw [x1]; omega))
    have e := H1 (gT 84 _ cs84 (by intro z; cases z)) (no (n + 172)) (mt_1 (n := n + 184) q84)
    obtain ⟨y1, y2⟩ := inl_j c1 e
    exact ⟨0, h1, by rw [c1, y1], cr, by rw [y2, zs_at, upd_e]; rfl⟩
end HA
section HO
variable {E : zE} {B : Nat} {h : zH} {L im : Nat}
set_option maxRecDepth 100000 in
theorem op_habit (hE : E.1 ≤ 3072) (hsm : bSO E ctb B (60, smT)) (hX : LX h L im) {iv : Int32} {I : Nat} (hiv : iv.toInt = (I : Int)) (hI6 : I + 6 ≤ E.1) {u5 u6 : Option Value} : ∀ d f, 100 ≤ d → B + 6000000 ≤ f → opS E d iv f h (zex E (f + 100) d 0 551 (t5K iv u5 u6) [] h) := by
  intro d f hd hf
  obtain ⟨d', hd'⟩ : ∃ d', d = d' + 1 := ⟨d - 1, by omega⟩
  subst hd'
  obtain ⟨hL9, pX, pE⟩ := id hX
  obtain ⟨gI, gP, gT, ⟨p1, p2, p3, p4⟩, p5, p6, p7, p8⟩ := id hL9
  obtain ⟨σ, hR, hM, hW, h3⟩ := id pX.1
  have kC := fun f hf => habC (E := E) hsm gI gP gT hR hW (p9 := E.2 (I + 1)) (k9 := E.2 (I + 2)) d' f (by omega) hf
  have fP : ∀ {h1 : zH}, bRQ ctb sc6.2.1 h 1 6 h1 → FrP h h1 := fun r => FrP_w (by decide +kernel : wF sc6.2.1 lP = true) r.2.2.2.1
  have kM := fun {h1 : zH} (r : bRQ ctb sc6.2.1 h 1 6 h1) f hf => habM (E := E) (h := h1) hsm r.1 r.2.1 r.2.2.1 (RMf_p hM hW (fP r).2.2.2.2) hW (p9 := E.2 (I + 1)) (k9 := E.2 (I + 2)) d' f (by omega) hf
  have fin : ∀ {h1 h2 : zH}, bRQ ctb sc6.2.1 h 1 6 h1 → bRQ ctb sc357.2.1 h1 0 0 h2 → LX h2 L im := fun r1 r2 => ⟨LI_f r2.1 r2.2.1 r2.2.2.1 (FrT_t (FrT_w (by decide +kernel : wF sc6.2.1 lT = true) r1.2.2.2.1) (FrT_w (by decide +kernel : wF sc357.2.1 lT = true) r2.2.2.2.1)) hL9, PX_f (FrP_t (fP r1) (FrP_w (by decide +kernel : wF sc357.2.1 lP = true) r2.2.2.2.1)) (FrA_t (FrA_w (by decide +kernel : wF sc6.2.1 lA = true) r1.2.2.2.1) (FrA_w (by decide +kernel : wF sc357.2.1 lA = true) r2.2.2.2.1)) (FrI_t (FrI_w (by decide +kernel : wF sc6.2.1 lI = true) r1.2.2.2.1) (FrI_w (by decide +kernel : wF sc357.2.1 lI = true) r2.2.2.2.1)) pX, trivial⟩
  unfold hcQ at kC
  unfold hmQ at kM
  by_cases hp : 0 ≤ (E.2 (I + 1)).toInt ∧ (E.2 (I + 1)).toInt < (sP σ : Int)
  · have kC := kC (f + 87) (by omega)
    rw [if_pos hp] at kC
    obtain ⟨h1, e1, r1, x0⟩ := kC
    have kM := kM r1 (f + 74) (by omega)
    rw [if_pos hp] at kM
    obtain ⟨y, h2, e2, r2, y0, y1⟩ := kM
    have q1 := r1.2.2.2.2
    have q2 := r2.2.2.2.2
    have a94 := r1.2.2.1 94 _ kt94 (by intro z; cases z)
    have b94 := r2.2.2.1 94 _ kt94 (by intro z; cases z)
    have lg := (zex_lg E (f + 74) _ _ _ _ _ _ _ _ (by decide) e2).2 94 (ltx94 a94)
    have hv : (lg_cmp (h2.2.2.1 94 0) y.toInt64).toInt = 0 := by
      have h1v : (h2.2.2.1 94 0).toInt = hvl σ (E.2 (I + 1)).toInt (E.2 (I + 2)).toInt := by rw [lg]; exact x0
      have h2v : (y.toInt64).toInt = hvl σ (E.2 (I + 1)).toInt (E.2 (I + 2)).toInt := by rw [Int32.toInt_toInt64]; exact y1
      rw [(blg (h2.2.2.1 94 0) y.toInt64).2.1 (by omega) (by omega)]
      decide
    exact ⟨h2, _, _, f + 57, L, im, by omega, tp_h0 (E := E) (n := f + 57) (d := d') (I := I) (i := iv) (y := y) (t := h2.2.1 84 0) (v := h2.2.2.1 94 0) (u5 := u5) (u6 := u6) (fun k hk => baddk hiv (by omega) (by omega)) hI6 (by rw [y0]; rfl) rfl hv (r1.2.2.1 84 _ cs84 (by intro z; cases z)) (r2.2.2.1 84 _ cs84 (by intro z; cases z)) b94 e1 e2 (tp_th (n := f + 68) (r2.2.2.1 84 _ cs84 (by intro z; cases z))), fin r1 r2, by omega, by omega⟩
  · have kC := kC (f + 87) (by omega)
    rw [if_neg hp] at kC
    obtain ⟨h1, e1, r1⟩ := kC
    have kM := kM r1 (f + 74) (by omega)
    rw [if_neg hp] at kM
    obtain ⟨y, h2, e2, r2, y0⟩ := kM
    have q1 := r1.2.2.2.2
    have q2 := r2.2.2.2.2
    exact ⟨h2, _, _, f + 64, L, im, by omega, tp_h1 (E := E) (n := f + 64) (d := d') (I := I) (i := iv) (y := y) (t := h2.2.1 84 0) (u5 := u5) (u6 := u6) (fun k hk => baddk hiv (by omega) (by omega)) hI6 (by rw [y0]; rfl) (r1.2.2.1 84 _ cs84 (by intro z; cases z)) (r2.2.2.1 84 _ cs84 (by intro z; cases z)) e1 e2 (tp_th (n := f + 68) (r2.2.2.1 84 _ cs84 (by intro z; cases z))), fin r1 r2, by omega, by omega⟩
end HO
