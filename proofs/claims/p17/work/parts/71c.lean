/-! the model's reader of THE LAW: straight steps around exactly known calls (wip/zab2/c/gen29.py) -/
set_option maxRecDepth 100000 in
theorem zgr {K : List Value → Option zR} {h : zH} {ci fk a b : Nat} {sl : List (Option (Option Nat))} {r : List Value} (ha : zat h.1 a = some (.inr (.inl (ci, sl)))) (hs : zat sl fk = some (some (some b))) : zget K h ci fk (.ref a :: r) = K (.ref b :: r) := by
  show (match zat h.1 a with
    | some (.inr (.inl (c, sl))) => cond (Nat.beq c ci) (match zat sl fk with
      | some none => K (.int (h.2.1 a fk) :: r)
      | some (some o) => K (zrf o :: r)
      | none => none) none
    | _ => none) = _
  rw [ha]
  simp only
  rw [Nat.beq_refl, cond_true, hs]
  rfl
set_option maxRecDepth 100000 in
theorem zgx {E : zE} {n d mi pc ci fk a3 ln i9 w9 a b : Nat} {z : Int32} {sl : List (Option (Option Nat))} {ls : zLs} {r : List Value} {h : zH} (hf : zfetch mi pc = some (.getfield i9, ln, (ci, fk, a3), z, w9)) (ha : zat h.1 a = some (.inr (.inl (ci, sl)))) (hs : zat sl fk = some (some (some b))) : zex E (n + 1) d mi pc ls (.ref a :: r) h = zex E n d mi (pc + ln) ls (.ref b :: r) h := by
  refine (zx1 hf).trans ?_
  exact zgr (K := fun s => zex E n d mi (pc + ln) ls s h) ha hs
set_option maxRecDepth 100000 in
theorem q_84 {W : Nat} {h0 h : zH} (hr : bRQ ctb W h0 0 0 h) : zat h.1 84 = some (.inr (.inl (12, [none, some (some 85), some (some 86), some (some 87), some (some 88), some (some 89), none, none, some (some 90), none, none, none, none, none, none, some (some 91), none, some (some 92), some (some 93)]))) := hr.2.2.1 84 _ cs84 (by intro z; cases z)
set_option maxRecDepth 100000 in
theorem zfq256_0 : zfetch 256 0 = some (.aload_n 0, 1, (0, 0, 0), 0, 0) := by decide +kernel
set_option maxRecDepth 100000 in
theorem zfq256_1 : zfetch 256 1 = some (.invokevirtual 109, 3, (0, 236, 0), 0, 1723) := by decide +kernel
set_option maxRecDepth 100000 in
theorem zfq256_15 : zfetch 256 15 = some (.aload_n 0, 1, (0, 0, 0), 0, 0) := by decide +kernel
set_option maxRecDepth 100000 in
theorem zfq256_16 : zfetch 256 16 = some (.iconst 0, 1, (0, 0, 0), 0, 0) := by decide +kernel
set_option maxRecDepth 100000 in
theorem zfq256_17 : zfetch 256 17 = some (.sipush 999, 3, (0, 0, 0), 999, 0) := by decide +kernel
set_option maxRecDepth 100000 in
theorem zfq256_20 : zfetch 256 20 = some (.iconst 3, 1, (0, 0, 0), 3, 0) := by decide +kernel
set_option maxRecDepth 100000 in
theorem zfq256_21 : zfetch 256 21 = some (.invokevirtual 116, 3, (0, 240, 0), 0, 1759) := by decide +kernel
set_option maxRecDepth 100000 in
theorem zfq256_24 : zfetch 256 24 = some (.istore_n 1, 1, (0, 0, 0), 0, 0) := by decide +kernel
set_option maxRecDepth 100000 in
theorem zfq256_25 : zfetch 256 25 = some (.aload_n 0, 1, (0, 0, 0), 0, 0) := by decide +kernel
set_option maxRecDepth 100000 in
theorem zfq256_26 : zfetch 256 26 = some (.bipush 8, 2, (0, 0, 0), 8, 0) := by decide +kernel
set_option maxRecDepth 100000 in
theorem zfq256_28 : zfetch 256 28 = some (.iload_n 1, 1, (0, 0, 0), 0, 0) := by decide +kernel
set_option maxRecDepth 100000 in
theorem zfq256_29 : zfetch 256 29 = some (.invokevirtual 201, 3, (0, 255, 0), 0, 1865) := by decide +kernel
set_option maxRecDepth 100000 in
theorem zfq256_32 : zfetch 256 32 = some (.goto 89, 3, (121, 0, 0), 0, 0) := by decide +kernel
set_option maxRecDepth 100000 in
theorem zfq256_114 : zfetch 256 114 = some (.istore_n 1, 1, (0, 0, 0), 0, 0) := by decide +kernel
set_option maxRecDepth 100000 in
theorem zfq256_115 : zfetch 256 115 = some (.aload_n 0, 1, (0, 0, 0), 0, 0) := by decide +kernel
set_option maxRecDepth 100000 in
theorem zfq256_116 : zfetch 256 116 = some (.iload_n 1, 1, (0, 0, 0), 0, 0) := by decide +kernel
set_option maxRecDepth 100000 in
theorem zfq256_117 : zfetch 256 117 = some (.iconst 0, 1, (0, 0, 0), 0, 0) := by decide +kernel
set_option maxRecDepth 100000 in
theorem zfq256_118 : zfetch 256 118 = some (.invokevirtual 201, 3, (0, 255, 0), 0, 1865) := by decide +kernel
set_option maxRecDepth 100000 in
theorem zfq256_35 : zfetch 256 35 = some (.aload_n 0, 1, (0, 0, 0), 0, 0) := by decide +kernel
set_option maxRecDepth 100000 in
theorem zfq256_36 : zfetch 256 36 = some (.ldc 168, 2, (1, 30, 0), 0, 1775) := by decide +kernel
set_option maxRecDepth 100000 in
theorem zfq256_38 : zfetch 256 38 = some (.invokevirtual 112, 3, (0, 237, 0), 0, 1732) := by decide +kernel
set_option maxRecDepth 100000 in
theorem zfq256_41 : zfetch 256 41 = some (.ifCond .eq 7, 3, (48, 0, 0), 0, 0) := by decide +kernel
set_option maxRecDepth 100000 in
theorem zfq256_44 : zfetch 256 44 = some (.iconst 0, 1, (0, 0, 0), 0, 0) := by decide +kernel
set_option maxRecDepth 100000 in
theorem zfq256_45 : zfetch 256 45 = some (.goto 69, 3, (114, 0, 0), 0, 0) := by decide +kernel
set_option maxRecDepth 100000 in
theorem zfq256_48 : zfetch 256 48 = some (.aload_n 0, 1, (0, 0, 0), 0, 0) := by decide +kernel
set_option maxRecDepth 100000 in
theorem zfq256_49 : zfetch 256 49 = some (.ldc 157, 2, (1, 23, 0), 0, 1731) := by decide +kernel
set_option maxRecDepth 100000 in
theorem zfq256_51 : zfetch 256 51 = some (.invokevirtual 112, 3, (0, 237, 0), 0, 1732) := by decide +kernel
set_option maxRecDepth 100000 in
theorem zfq256_54 : zfetch 256 54 = some (.ifCond .eq 7, 3, (61, 0, 0), 0, 0) := by decide +kernel
set_option maxRecDepth 100000 in
theorem zfq256_57 : zfetch 256 57 = some (.iconst 1, 1, (0, 0, 0), 1, 0) := by decide +kernel
set_option maxRecDepth 100000 in
theorem zfq256_58 : zfetch 256 58 = some (.goto 56, 3, (114, 0, 0), 0, 0) := by decide +kernel
set_option maxRecDepth 100000 in
theorem zfq256_61 : zfetch 256 61 = some (.aload_n 0, 1, (0, 0, 0), 0, 0) := by decide +kernel
set_option maxRecDepth 100000 in
theorem zfq256_62 : zfetch 256 62 = some (.ldc 173, 2, (1, 31, 0), 0, 1799) := by decide +kernel
set_option maxRecDepth 100000 in
theorem zfq256_64 : zfetch 256 64 = some (.invokevirtual 112, 3, (0, 237, 0), 0, 1732) := by decide +kernel
set_option maxRecDepth 100000 in
theorem zfq256_67 : zfetch 256 67 = some (.ifCond .eq 7, 3, (74, 0, 0), 0, 0) := by decide +kernel
set_option maxRecDepth 100000 in
theorem zfq256_70 : zfetch 256 70 = some (.iconst 2, 1, (0, 0, 0), 2, 0) := by decide +kernel
set_option maxRecDepth 100000 in
theorem zfq256_71 : zfetch 256 71 = some (.goto 43, 3, (114, 0, 0), 0, 0) := by decide +kernel
set_option maxRecDepth 100000 in
theorem zfq256_74 : zfetch 256 74 = some (.aload_n 0, 1, (0, 0, 0), 0, 0) := by decide +kernel
set_option maxRecDepth 100000 in
theorem zfq256_75 : zfetch 256 75 = some (.ldc 205, 2, (1, 43, 0), 0, 1881) := by decide +kernel
set_option maxRecDepth 100000 in
theorem zfq256_77 : zfetch 256 77 = some (.invokevirtual 112, 3, (0, 237, 0), 0, 1732) := by decide +kernel
set_option maxRecDepth 100000 in
theorem zfq256_80 : zfetch 256 80 = some (.ifCond .eq 7, 3, (87, 0, 0), 0, 0) := by decide +kernel
set_option maxRecDepth 100000 in
theorem zfq256_83 : zfetch 256 83 = some (.iconst 3, 1, (0, 0, 0), 3, 0) := by decide +kernel
set_option maxRecDepth 100000 in
theorem zfq256_84 : zfetch 256 84 = some (.goto 30, 3, (114, 0, 0), 0, 0) := by decide +kernel
set_option maxRecDepth 100000 in
theorem zfq256_87 : zfetch 256 87 = some (.aload_n 0, 1, (0, 0, 0), 0, 0) := by decide +kernel
set_option maxRecDepth 100000 in
theorem zfq256_88 : zfetch 256 88 = some (.ldc 207, 2, (1, 44, 0), 0, 1882) := by decide +kernel
set_option maxRecDepth 100000 in
theorem zfq256_90 : zfetch 256 90 = some (.invokevirtual 112, 3, (0, 237, 0), 0, 1732) := by decide +kernel
set_option maxRecDepth 100000 in
theorem zfq256_93 : zfetch 256 93 = some (.ifCond .eq 7, 3, (100, 0, 0), 0, 0) := by decide +kernel
set_option maxRecDepth 100000 in
theorem zfq256_96 : zfetch 256 96 = some (.iconst 4, 1, (0, 0, 0), 4, 0) := by decide +kernel
set_option maxRecDepth 100000 in
theorem zfq256_97 : zfetch 256 97 = some (.goto 17, 3, (114, 0, 0), 0, 0) := by decide +kernel
set_option maxRecDepth 100000 in
theorem zfq256_100 : zfetch 256 100 = some (.aload_n 0, 1, (0, 0, 0), 0, 0) := by decide +kernel
set_option maxRecDepth 100000 in
theorem zfq256_101 : zfetch 256 101 = some (.ldc 209, 2, (1, 45, 0), 0, 1883) := by decide +kernel
set_option maxRecDepth 100000 in
theorem zfq256_103 : zfetch 256 103 = some (.invokevirtual 112, 3, (0, 237, 0), 0, 1732) := by decide +kernel
set_option maxRecDepth 100000 in
theorem zfq256_106 : zfetch 256 106 = some (.ifCond .eq 7, 3, (113, 0, 0), 0, 0) := by decide +kernel
set_option maxRecDepth 100000 in
theorem zfq256_109 : zfetch 256 109 = some (.iconst 5, 1, (0, 0, 0), 5, 0) := by decide +kernel
set_option maxRecDepth 100000 in
theorem zfq256_110 : zfetch 256 110 = some (.goto 4, 3, (114, 0, 0), 0, 0) := by decide +kernel
set_option maxRecDepth 100000 in
theorem zfq256_113 : zfetch 256 113 = some (.iconst (-1), 1, (0, 0, 0), (-1), 0) := by decide +kernel
set_option maxRecDepth 100000 in
theorem zfq257_0 : zfetch 257 0 = some (.aload_n 0, 1, (0, 0, 0), 0, 0) := by decide +kernel
set_option maxRecDepth 100000 in
theorem zfq257_1 : zfetch 257 1 = some (.invokevirtual 211, 3, (0, 256, 0), 0, 1877) := by decide +kernel
set_option maxRecDepth 100000 in
theorem zfq257_4 : zfetch 257 4 = some (.ifCond .ne 5, 3, (9, 0, 0), 0, 0) := by decide +kernel
set_option maxRecDepth 100000 in
theorem zfq257_7 : zfetch 257 7 = some (.iconst 0, 1, (0, 0, 0), 0, 0) := by decide +kernel
set_option maxRecDepth 100000 in
theorem zfq257_8 : zfetch 257 8 = some (.ireturn, 1, (0, 0, 0), 0, 0) := by decide +kernel
set_option maxRecDepth 100000 in
theorem zfq257_9 : zfetch 257 9 = some (.aload_n 0, 1, (0, 0, 0), 0, 0) := by decide +kernel
set_option maxRecDepth 100000 in
theorem zfq257_10 : zfetch 257 10 = some (.bipush 43, 2, (0, 0, 0), 43, 0) := by decide +kernel
set_option maxRecDepth 100000 in
theorem zfq257_12 : zfetch 257 12 = some (.invokevirtual 214, 3, (0, 239, 0), 0, 1860) := by decide +kernel
set_option maxRecDepth 100000 in
theorem zfq257_15 : zfetch 257 15 = some (.ifCond .eq 22, 3, (37, 0, 0), 0, 0) := by decide +kernel
set_option maxRecDepth 100000 in
theorem zfq257_37 : zfetch 257 37 = some (.iconst 1, 1, (0, 0, 0), 1, 0) := by decide +kernel
set_option maxRecDepth 100000 in
theorem zfq257_38 : zfetch 257 38 = some (.ireturn, 1, (0, 0, 0), 0, 0) := by decide +kernel
set_option maxRecDepth 100000 in
theorem zfq257_18 : zfetch 257 18 = some (.aload_n 0, 1, (0, 0, 0), 0, 0) := by decide +kernel
set_option maxRecDepth 100000 in
theorem zfq257_19 : zfetch 257 19 = some (.invokevirtual 211, 3, (0, 256, 0), 0, 1877) := by decide +kernel
set_option maxRecDepth 100000 in
theorem zfq257_22 : zfetch 257 22 = some (.ifCond .ne 5, 3, (27, 0, 0), 0, 0) := by decide +kernel
set_option maxRecDepth 100000 in
theorem zfq257_25 : zfetch 257 25 = some (.iconst 0, 1, (0, 0, 0), 0, 0) := by decide +kernel
set_option maxRecDepth 100000 in
theorem zfq257_26 : zfetch 257 26 = some (.ireturn, 1, (0, 0, 0), 0, 0) := by decide +kernel
set_option maxRecDepth 100000 in
theorem zfq257_27 : zfetch 257 27 = some (.aload_n 0, 1, (0, 0, 0), 0, 0) := by decide +kernel
set_option maxRecDepth 100000 in
theorem zfq257_28 : zfetch 257 28 = some (.bipush 9, 2, (0, 0, 0), 9, 0) := by decide +kernel
set_option maxRecDepth 100000 in
theorem zfq257_30 : zfetch 257 30 = some (.iconst 0, 1, (0, 0, 0), 0, 0) := by decide +kernel
set_option maxRecDepth 100000 in
theorem zfq257_31 : zfetch 257 31 = some (.invokevirtual 201, 3, (0, 255, 0), 0, 1865) := by decide +kernel
set_option maxRecDepth 100000 in
theorem zfq257_34 : zfetch 257 34 = some (.goto (-25), 3, (9, 0, 0), 0, 0) := by decide +kernel
set_option maxRecDepth 100000 in
theorem zfq242_0 : zfetch 242 0 = some (.aload_n 0, 1, (0, 0, 0), 0, 0) := by decide +kernel
set_option maxRecDepth 100000 in
theorem zfq242_1 : zfetch 242 1 = some (.ldc 120, 2, (1, 24, 0), 0, 1750) := by decide +kernel
set_option maxRecDepth 100000 in
theorem zfq242_3 : zfetch 242 3 = some (.invokevirtual 112, 3, (0, 237, 0), 0, 1732) := by decide +kernel
set_option maxRecDepth 100000 in
theorem zfq242_6 : zfetch 242 6 = some (.ifCond .eq 7, 3, (13, 0, 0), 0, 0) := by decide +kernel
set_option maxRecDepth 100000 in
theorem zfq242_9 : zfetch 242 9 = some (.iconst 0, 1, (0, 0, 0), 0, 0) := by decide +kernel
set_option maxRecDepth 100000 in
theorem zfq242_10 : zfetch 242 10 = some (.goto 56, 3, (66, 0, 0), 0, 0) := by decide +kernel
set_option maxRecDepth 100000 in
theorem zfq242_13 : zfetch 242 13 = some (.aload_n 0, 1, (0, 0, 0), 0, 0) := by decide +kernel
set_option maxRecDepth 100000 in
theorem zfq242_14 : zfetch 242 14 = some (.ldc 122, 2, (1, 25, 0), 0, 1751) := by decide +kernel
set_option maxRecDepth 100000 in
theorem zfq242_16 : zfetch 242 16 = some (.invokevirtual 112, 3, (0, 237, 0), 0, 1732) := by decide +kernel
set_option maxRecDepth 100000 in
theorem zfq242_19 : zfetch 242 19 = some (.ifCond .eq 7, 3, (26, 0, 0), 0, 0) := by decide +kernel
set_option maxRecDepth 100000 in
theorem zfq242_22 : zfetch 242 22 = some (.iconst 1, 1, (0, 0, 0), 1, 0) := by decide +kernel
set_option maxRecDepth 100000 in
theorem zfq242_23 : zfetch 242 23 = some (.goto 43, 3, (66, 0, 0), 0, 0) := by decide +kernel
set_option maxRecDepth 100000 in
theorem zfq242_26 : zfetch 242 26 = some (.aload_n 0, 1, (0, 0, 0), 0, 0) := by decide +kernel
set_option maxRecDepth 100000 in
theorem zfq242_27 : zfetch 242 27 = some (.ldc 124, 2, (1, 26, 0), 0, 1752) := by decide +kernel
set_option maxRecDepth 100000 in
theorem zfq242_29 : zfetch 242 29 = some (.invokevirtual 112, 3, (0, 237, 0), 0, 1732) := by decide +kernel
set_option maxRecDepth 100000 in
theorem zfq242_32 : zfetch 242 32 = some (.ifCond .eq 7, 3, (39, 0, 0), 0, 0) := by decide +kernel
set_option maxRecDepth 100000 in
theorem zfq242_35 : zfetch 242 35 = some (.iconst 2, 1, (0, 0, 0), 2, 0) := by decide +kernel
set_option maxRecDepth 100000 in
theorem zfq242_36 : zfetch 242 36 = some (.goto 30, 3, (66, 0, 0), 0, 0) := by decide +kernel
set_option maxRecDepth 100000 in
theorem zfq242_39 : zfetch 242 39 = some (.aload_n 0, 1, (0, 0, 0), 0, 0) := by decide +kernel
set_option maxRecDepth 100000 in
theorem zfq242_40 : zfetch 242 40 = some (.ldc 126, 2, (1, 27, 0), 0, 1753) := by decide +kernel
set_option maxRecDepth 100000 in
theorem zfq242_42 : zfetch 242 42 = some (.invokevirtual 112, 3, (0, 237, 0), 0, 1732) := by decide +kernel
set_option maxRecDepth 100000 in
theorem zfq242_45 : zfetch 242 45 = some (.ifCond .eq 7, 3, (52, 0, 0), 0, 0) := by decide +kernel
set_option maxRecDepth 100000 in
theorem zfq242_48 : zfetch 242 48 = some (.iconst 3, 1, (0, 0, 0), 3, 0) := by decide +kernel
set_option maxRecDepth 100000 in
theorem zfq242_49 : zfetch 242 49 = some (.goto 17, 3, (66, 0, 0), 0, 0) := by decide +kernel
set_option maxRecDepth 100000 in
theorem zfq242_52 : zfetch 242 52 = some (.aload_n 0, 1, (0, 0, 0), 0, 0) := by decide +kernel
set_option maxRecDepth 100000 in
theorem zfq242_53 : zfetch 242 53 = some (.ldc 128, 2, (1, 28, 0), 0, 1754) := by decide +kernel
set_option maxRecDepth 100000 in
theorem zfq242_55 : zfetch 242 55 = some (.invokevirtual 112, 3, (0, 237, 0), 0, 1732) := by decide +kernel
set_option maxRecDepth 100000 in
theorem zfq242_58 : zfetch 242 58 = some (.ifCond .eq 7, 3, (65, 0, 0), 0, 0) := by decide +kernel
set_option maxRecDepth 100000 in
theorem zfq242_61 : zfetch 242 61 = some (.iconst 4, 1, (0, 0, 0), 4, 0) := by decide +kernel
set_option maxRecDepth 100000 in
theorem zfq242_62 : zfetch 242 62 = some (.goto 4, 3, (66, 0, 0), 0, 0) := by decide +kernel
set_option maxRecDepth 100000 in
theorem zfq242_65 : zfetch 242 65 = some (.iconst (-1), 1, (0, 0, 0), (-1), 0) := by decide +kernel
set_option maxRecDepth 100000 in
theorem zfq242_66 : zfetch 242 66 = some (.ireturn, 1, (0, 0, 0), 0, 0) := by decide +kernel
set_option maxRecDepth 100000 in
theorem zfq258_0 : zfetch 258 0 = some (.aload_n 0, 1, (0, 0, 0), 0, 0) := by decide +kernel
set_option maxRecDepth 100000 in
theorem zfq258_1 : zfetch 258 1 = some (.invokevirtual 109, 3, (0, 236, 0), 0, 1723) := by decide +kernel
set_option maxRecDepth 100000 in
theorem zfq258_4 : zfetch 258 4 = some (.aload_n 0, 1, (0, 0, 0), 0, 0) := by decide +kernel
set_option maxRecDepth 100000 in
theorem zfq258_5 : zfetch 258 5 = some (.invokevirtual 133, 3, (0, 242, 0), 0, 1746) := by decide +kernel
set_option maxRecDepth 100000 in
theorem zfq258_18 : zfetch 258 18 = some (.aload_n 0, 1, (0, 0, 0), 0, 0) := by decide +kernel
set_option maxRecDepth 100000 in
theorem zfq258_19 : zfetch 258 19 = some (.ldc 193, 2, (1, 35, 0), 0, 1832) := by decide +kernel
set_option maxRecDepth 100000 in
theorem zfq258_21 : zfetch 258 21 = some (.invokevirtual 112, 3, (0, 237, 0), 0, 1732) := by decide +kernel
set_option maxRecDepth 100000 in
theorem zfq258_38 : zfetch 258 38 = some (.aload_n 0, 1, (0, 0, 0), 0, 0) := by decide +kernel
set_option maxRecDepth 100000 in
theorem zfq258_39 : zfetch 258 39 = some (.iload_n 2, 1, (0, 0, 0), 0, 0) := by decide +kernel
set_option maxRecDepth 100000 in
theorem zfq258_40 : zfetch 258 40 = some (.iload_n 1, 1, (0, 0, 0), 0, 0) := by decide +kernel
set_option maxRecDepth 100000 in
theorem zfq258_41 : zfetch 258 41 = some (.invokevirtual 201, 3, (0, 255, 0), 0, 1865) := by decide +kernel
set_option maxRecDepth 100000 in
theorem zfq258_44 : zfetch 258 44 = some (.goto 11, 3, (55, 0, 0), 0, 0) := by decide +kernel
set_option maxRecDepth 100000 in
theorem zfq259_0 : zfetch 259 0 = some (.aload_n 0, 1, (0, 0, 0), 0, 0) := by decide +kernel
set_option maxRecDepth 100000 in
theorem zfq259_1 : zfetch 259 1 = some (.bipush 40, 2, (0, 0, 0), 40, 0) := by decide +kernel
set_option maxRecDepth 100000 in
theorem zfq259_3 : zfetch 259 3 = some (.invokevirtual 214, 3, (0, 239, 0), 0, 1860) := by decide +kernel
set_option maxRecDepth 100000 in
theorem zfq259_6 : zfetch 259 6 = some (.ifCond .eq 50, 3, (56, 0, 0), 0, 0) := by decide +kernel
set_option maxRecDepth 100000 in
theorem zfq259_56 : zfetch 259 56 = some (.aload_n 0, 1, (0, 0, 0), 0, 0) := by decide +kernel
set_option maxRecDepth 100000 in
theorem zfq259_57 : zfetch 259 57 = some (.ldc 224, 2, (1, 42, 0), 0, 1864) := by decide +kernel
set_option maxRecDepth 100000 in
theorem zfq259_59 : zfetch 259 59 = some (.invokevirtual 226, 3, (0, 238, 0), 0, 1844) := by decide +kernel
set_option maxRecDepth 100000 in
theorem zfq259_30 : zfetch 259 30 = some (.aload_n 0, 1, (0, 0, 0), 0, 0) := by decide +kernel
set_option maxRecDepth 100000 in
theorem zfq259_31 : zfetch 259 31 = some (.invokevirtual 221, 3, (0, 261, 0), 0, 1848) := by decide +kernel
set_option maxRecDepth 100000 in
theorem zfq259_34 : zfetch 259 34 = some (.ifCond .ne 5, 3, (39, 0, 0), 0, 0) := by decide +kernel
set_option maxRecDepth 100000 in
theorem zfq259_37 : zfetch 259 37 = some (.iconst 0, 1, (0, 0, 0), 0, 0) := by decide +kernel
set_option maxRecDepth 100000 in
theorem zfq259_38 : zfetch 259 38 = some (.ireturn, 1, (0, 0, 0), 0, 0) := by decide +kernel
set_option maxRecDepth 100000 in
theorem zfq259_49 : zfetch 259 49 = some (.aload_n 0, 1, (0, 0, 0), 0, 0) := by decide +kernel
set_option maxRecDepth 100000 in
theorem zfq259_50 : zfetch 259 50 = some (.bipush 41, 2, (0, 0, 0), 41, 0) := by decide +kernel
set_option maxRecDepth 100000 in
theorem zfq259_52 : zfetch 259 52 = some (.invokevirtual 214, 3, (0, 239, 0), 0, 1860) := by decide +kernel
set_option maxRecDepth 100000 in
theorem zfq259_55 : zfetch 259 55 = some (.ireturn, 1, (0, 0, 0), 0, 0) := by decide +kernel
set_option maxRecDepth 100000 in
theorem zfq259_62 : zfetch 259 62 = some (.ifCond .eq 52, 3, (114, 0, 0), 0, 0) := by decide +kernel
set_option maxRecDepth 100000 in
theorem zfq259_114 : zfetch 259 114 = some (.aload_n 0, 1, (0, 0, 0), 0, 0) := by decide +kernel
set_option maxRecDepth 100000 in
theorem zfq259_115 : zfetch 259 115 = some (.invokevirtual 232, 3, (0, 258, 0), 0, 1869) := by decide +kernel
set_option maxRecDepth 100000 in
theorem zfq259_86 : zfetch 259 86 = some (.aload_n 0, 1, (0, 0, 0), 0, 0) := by decide +kernel
set_option maxRecDepth 100000 in
theorem zfq259_87 : zfetch 259 87 = some (.invokevirtual 229, 3, (0, 259, 0), 0, 1856) := by decide +kernel
set_option maxRecDepth 100000 in
theorem zfq259_90 : zfetch 259 90 = some (.ifCond .ne 5, 3, (95, 0, 0), 0, 0) := by decide +kernel
set_option maxRecDepth 100000 in
theorem zfq259_93 : zfetch 259 93 = some (.iconst 0, 1, (0, 0, 0), 0, 0) := by decide +kernel
set_option maxRecDepth 100000 in
theorem zfq259_94 : zfetch 259 94 = some (.ireturn, 1, (0, 0, 0), 0, 0) := by decide +kernel
set_option maxRecDepth 100000 in
theorem zfq259_105 : zfetch 259 105 = some (.aload_n 0, 1, (0, 0, 0), 0, 0) := by decide +kernel
set_option maxRecDepth 100000 in
theorem zfq259_106 : zfetch 259 106 = some (.bipush 12, 2, (0, 0, 0), 12, 0) := by decide +kernel
set_option maxRecDepth 100000 in
theorem zfq259_108 : zfetch 259 108 = some (.iconst 0, 1, (0, 0, 0), 0, 0) := by decide +kernel
set_option maxRecDepth 100000 in
theorem zfq259_109 : zfetch 259 109 = some (.invokevirtual 201, 3, (0, 255, 0), 0, 1865) := by decide +kernel
set_option maxRecDepth 100000 in
theorem zfq259_112 : zfetch 259 112 = some (.iconst 1, 1, (0, 0, 0), 1, 0) := by decide +kernel
set_option maxRecDepth 100000 in
theorem zfq259_113 : zfetch 259 113 = some (.ireturn, 1, (0, 0, 0), 0, 0) := by decide +kernel
set_option maxRecDepth 100000 in
theorem zfq259_118 : zfetch 259 118 = some (.ifCond .eq 5, 3, (123, 0, 0), 0, 0) := by decide +kernel
set_option maxRecDepth 100000 in
theorem zfq259_121 : zfetch 259 121 = some (.iconst 1, 1, (0, 0, 0), 1, 0) := by decide +kernel
set_option maxRecDepth 100000 in
theorem zfq259_122 : zfetch 259 122 = some (.ireturn, 1, (0, 0, 0), 0, 0) := by decide +kernel
set_option maxRecDepth 100000 in
theorem zfq259_123 : zfetch 259 123 = some (.aload_n 0, 1, (0, 0, 0), 0, 0) := by decide +kernel
set_option maxRecDepth 100000 in
theorem zfq259_124 : zfetch 259 124 = some (.invokevirtual 235, 3, (0, 257, 0), 0, 1873) := by decide +kernel
set_option maxRecDepth 100000 in
theorem zfq259_127 : zfetch 259 127 = some (.ifCond .ne 5, 3, (132, 0, 0), 0, 0) := by decide +kernel
set_option maxRecDepth 100000 in
theorem zfq259_130 : zfetch 259 130 = some (.iconst 0, 1, (0, 0, 0), 0, 0) := by decide +kernel
set_option maxRecDepth 100000 in
theorem zfq259_131 : zfetch 259 131 = some (.ireturn, 1, (0, 0, 0), 0, 0) := by decide +kernel
set_option maxRecDepth 100000 in
theorem zfq259_132 : zfetch 259 132 = some (.aload_n 0, 1, (0, 0, 0), 0, 0) := by decide +kernel
set_option maxRecDepth 100000 in
theorem zfq259_133 : zfetch 259 133 = some (.bipush 60, 2, (0, 0, 0), 60, 0) := by decide +kernel
set_option maxRecDepth 100000 in
theorem zfq259_135 : zfetch 259 135 = some (.invokevirtual 214, 3, (0, 239, 0), 0, 1860) := by decide +kernel
set_option maxRecDepth 100000 in
theorem zfq259_138 : zfetch 259 138 = some (.istore_n 1, 1, (0, 0, 0), 0, 0) := by decide +kernel
set_option maxRecDepth 100000 in
theorem zfq259_139 : zfetch 259 139 = some (.iload_n 1, 1, (0, 0, 0), 0, 0) := by decide +kernel
set_option maxRecDepth 100000 in
theorem zfq259_140 : zfetch 259 140 = some (.ifCond .ne 12, 3, (152, 0, 0), 0, 0) := by decide +kernel
set_option maxRecDepth 100000 in
theorem zfq259_152 : zfetch 259 152 = some (.aload_n 0, 1, (0, 0, 0), 0, 0) := by decide +kernel
set_option maxRecDepth 100000 in
theorem zfq259_153 : zfetch 259 153 = some (.invokevirtual 235, 3, (0, 257, 0), 0, 1873) := by decide +kernel
set_option maxRecDepth 100000 in
theorem zfq259_143 : zfetch 259 143 = some (.aload_n 0, 1, (0, 0, 0), 0, 0) := by decide +kernel
set_option maxRecDepth 100000 in
theorem zfq259_144 : zfetch 259 144 = some (.bipush 62, 2, (0, 0, 0), 62, 0) := by decide +kernel
set_option maxRecDepth 100000 in
theorem zfq259_146 : zfetch 259 146 = some (.invokevirtual 214, 3, (0, 239, 0), 0, 1860) := by decide +kernel
set_option maxRecDepth 100000 in
theorem zfq259_149 : zfetch 259 149 = some (.ifCond .eq 10, 3, (159, 0, 0), 0, 0) := by decide +kernel
set_option maxRecDepth 100000 in
theorem zfq259_159 : zfetch 259 159 = some (.iconst 0, 1, (0, 0, 0), 0, 0) := by decide +kernel
set_option maxRecDepth 100000 in
theorem zfq259_160 : zfetch 259 160 = some (.ireturn, 1, (0, 0, 0), 0, 0) := by decide +kernel
set_option maxRecDepth 100000 in
theorem zfq259_156 : zfetch 259 156 = some (.ifCond .ne 5, 3, (161, 0, 0), 0, 0) := by decide +kernel
set_option maxRecDepth 100000 in
theorem zfq259_161 : zfetch 259 161 = some (.aload_n 0, 1, (0, 0, 0), 0, 0) := by decide +kernel
set_option maxRecDepth 100000 in
theorem zfq259_162 : zfetch 259 162 = some (.iload_n 1, 1, (0, 0, 0), 0, 0) := by decide +kernel
set_option maxRecDepth 100000 in
theorem zfq259_163 : zfetch 259 163 = some (.ifCond .eq 8, 3, (171, 0, 0), 0, 0) := by decide +kernel
set_option maxRecDepth 100000 in
theorem zfq259_171 : zfetch 259 171 = some (.bipush 11, 2, (0, 0, 0), 11, 0) := by decide +kernel
set_option maxRecDepth 100000 in
theorem zfq259_173 : zfetch 259 173 = some (.iconst 0, 1, (0, 0, 0), 0, 0) := by decide +kernel
set_option maxRecDepth 100000 in
theorem zfq259_174 : zfetch 259 174 = some (.invokevirtual 201, 3, (0, 255, 0), 0, 1865) := by decide +kernel
set_option maxRecDepth 100000 in
theorem zfq259_177 : zfetch 259 177 = some (.iconst 1, 1, (0, 0, 0), 1, 0) := by decide +kernel
set_option maxRecDepth 100000 in
theorem zfq259_178 : zfetch 259 178 = some (.ireturn, 1, (0, 0, 0), 0, 0) := by decide +kernel
set_option maxRecDepth 100000 in
theorem zfq259_166 : zfetch 259 166 = some (.bipush 10, 2, (0, 0, 0), 10, 0) := by decide +kernel
set_option maxRecDepth 100000 in
theorem zfq259_168 : zfetch 259 168 = some (.goto 5, 3, (173, 0, 0), 0, 0) := by decide +kernel
set_option maxRecDepth 100000 in
theorem zfq260_0 : zfetch 260 0 = some (.aload_n 0, 1, (0, 0, 0), 0, 0) := by decide +kernel
set_option maxRecDepth 100000 in
theorem zfq260_1 : zfetch 260 1 = some (.invokevirtual 229, 3, (0, 259, 0), 0, 1856) := by decide +kernel
set_option maxRecDepth 100000 in
theorem zfq260_4 : zfetch 260 4 = some (.ifCond .ne 5, 3, (9, 0, 0), 0, 0) := by decide +kernel
set_option maxRecDepth 100000 in
theorem zfq260_7 : zfetch 260 7 = some (.iconst 0, 1, (0, 0, 0), 0, 0) := by decide +kernel
set_option maxRecDepth 100000 in
theorem zfq260_8 : zfetch 260 8 = some (.ireturn, 1, (0, 0, 0), 0, 0) := by decide +kernel
set_option maxRecDepth 100000 in
theorem zfq260_9 : zfetch 260 9 = some (.aload_n 0, 1, (0, 0, 0), 0, 0) := by decide +kernel
set_option maxRecDepth 100000 in
theorem zfq260_10 : zfetch 260 10 = some (.ldc 238, 2, (1, 46, 0), 0, 1884) := by decide +kernel
set_option maxRecDepth 100000 in
theorem zfq260_12 : zfetch 260 12 = some (.invokevirtual 226, 3, (0, 238, 0), 0, 1844) := by decide +kernel
set_option maxRecDepth 100000 in
theorem zfq260_15 : zfetch 260 15 = some (.ifCond .eq 22, 3, (37, 0, 0), 0, 0) := by decide +kernel
set_option maxRecDepth 100000 in
theorem zfq260_37 : zfetch 260 37 = some (.iconst 1, 1, (0, 0, 0), 1, 0) := by decide +kernel
set_option maxRecDepth 100000 in
theorem zfq260_38 : zfetch 260 38 = some (.ireturn, 1, (0, 0, 0), 0, 0) := by decide +kernel
set_option maxRecDepth 100000 in
theorem zfq260_18 : zfetch 260 18 = some (.aload_n 0, 1, (0, 0, 0), 0, 0) := by decide +kernel
set_option maxRecDepth 100000 in
theorem zfq260_19 : zfetch 260 19 = some (.invokevirtual 229, 3, (0, 259, 0), 0, 1856) := by decide +kernel
set_option maxRecDepth 100000 in
theorem zfq260_22 : zfetch 260 22 = some (.ifCond .ne 5, 3, (27, 0, 0), 0, 0) := by decide +kernel
set_option maxRecDepth 100000 in
theorem zfq260_25 : zfetch 260 25 = some (.iconst 0, 1, (0, 0, 0), 0, 0) := by decide +kernel
set_option maxRecDepth 100000 in
theorem zfq260_26 : zfetch 260 26 = some (.ireturn, 1, (0, 0, 0), 0, 0) := by decide +kernel
set_option maxRecDepth 100000 in
theorem zfq260_27 : zfetch 260 27 = some (.aload_n 0, 1, (0, 0, 0), 0, 0) := by decide +kernel
set_option maxRecDepth 100000 in
theorem zfq260_28 : zfetch 260 28 = some (.bipush 13, 2, (0, 0, 0), 13, 0) := by decide +kernel
set_option maxRecDepth 100000 in
theorem zfq260_30 : zfetch 260 30 = some (.iconst 0, 1, (0, 0, 0), 0, 0) := by decide +kernel
set_option maxRecDepth 100000 in
theorem zfq260_31 : zfetch 260 31 = some (.invokevirtual 201, 3, (0, 255, 0), 0, 1865) := by decide +kernel
set_option maxRecDepth 100000 in
theorem zfq260_34 : zfetch 260 34 = some (.goto (-25), 3, (9, 0, 0), 0, 0) := by decide +kernel
set_option maxRecDepth 100000 in
theorem zfq261_0 : zfetch 261 0 = some (.aload_n 0, 1, (0, 0, 0), 0, 0) := by decide +kernel
set_option maxRecDepth 100000 in
theorem zfq261_1 : zfetch 261 1 = some (.invokevirtual 240, 3, (0, 260, 0), 0, 1852) := by decide +kernel
set_option maxRecDepth 100000 in
theorem zfq261_4 : zfetch 261 4 = some (.ifCond .ne 5, 3, (9, 0, 0), 0, 0) := by decide +kernel
set_option maxRecDepth 100000 in
theorem zfq261_7 : zfetch 261 7 = some (.iconst 0, 1, (0, 0, 0), 0, 0) := by decide +kernel
set_option maxRecDepth 100000 in
theorem zfq261_8 : zfetch 261 8 = some (.ireturn, 1, (0, 0, 0), 0, 0) := by decide +kernel
set_option maxRecDepth 100000 in
theorem zfq261_9 : zfetch 261 9 = some (.aload_n 0, 1, (0, 0, 0), 0, 0) := by decide +kernel
set_option maxRecDepth 100000 in
theorem zfq261_10 : zfetch 261 10 = some (.ldc 243, 2, (1, 47, 0), 0, 1885) := by decide +kernel
set_option maxRecDepth 100000 in
theorem zfq261_12 : zfetch 261 12 = some (.invokevirtual 226, 3, (0, 238, 0), 0, 1844) := by decide +kernel
set_option maxRecDepth 100000 in
theorem zfq261_15 : zfetch 261 15 = some (.ifCond .eq 22, 3, (37, 0, 0), 0, 0) := by decide +kernel
set_option maxRecDepth 100000 in
theorem zfq261_37 : zfetch 261 37 = some (.iconst 1, 1, (0, 0, 0), 1, 0) := by decide +kernel
set_option maxRecDepth 100000 in
theorem zfq261_38 : zfetch 261 38 = some (.ireturn, 1, (0, 0, 0), 0, 0) := by decide +kernel
set_option maxRecDepth 100000 in
theorem zfq261_18 : zfetch 261 18 = some (.aload_n 0, 1, (0, 0, 0), 0, 0) := by decide +kernel
set_option maxRecDepth 100000 in
theorem zfq261_19 : zfetch 261 19 = some (.invokevirtual 240, 3, (0, 260, 0), 0, 1852) := by decide +kernel
set_option maxRecDepth 100000 in
theorem zfq261_22 : zfetch 261 22 = some (.ifCond .ne 5, 3, (27, 0, 0), 0, 0) := by decide +kernel
set_option maxRecDepth 100000 in
theorem zfq261_25 : zfetch 261 25 = some (.iconst 0, 1, (0, 0, 0), 0, 0) := by decide +kernel
set_option maxRecDepth 100000 in
theorem zfq261_26 : zfetch 261 26 = some (.ireturn, 1, (0, 0, 0), 0, 0) := by decide +kernel
set_option maxRecDepth 100000 in
theorem zfq261_27 : zfetch 261 27 = some (.aload_n 0, 1, (0, 0, 0), 0, 0) := by decide +kernel
set_option maxRecDepth 100000 in
theorem zfq261_28 : zfetch 261 28 = some (.bipush 14, 2, (0, 0, 0), 14, 0) := by decide +kernel
set_option maxRecDepth 100000 in
theorem zfq261_30 : zfetch 261 30 = some (.iconst 0, 1, (0, 0, 0), 0, 0) := by decide +kernel
set_option maxRecDepth 100000 in
theorem zfq261_31 : zfetch 261 31 = some (.invokevirtual 201, 3, (0, 255, 0), 0, 1865) := by decide +kernel
set_option maxRecDepth 100000 in
theorem zfq261_34 : zfetch 261 34 = some (.goto (-25), 3, (9, 0, 0), 0, 0) := by decide +kernel
set_option maxRecDepth 100000 in
theorem zfq262_8 : zfetch 262 8 = some (.aload_n 0, 1, (0, 0, 0), 0, 0) := by decide +kernel
set_option maxRecDepth 100000 in
theorem zfq262_9 : zfetch 262 9 = some (.getfield 13, 3, (12, 1, 0), 0, 1618) := by decide +kernel
set_option maxRecDepth 100000 in
theorem zfq262_12 : zfetch 262 12 = some (.iload_n 2, 1, (0, 0, 0), 0, 0) := by decide +kernel
set_option maxRecDepth 100000 in
theorem zfq262_13 : zfetch 262 13 = some (.aload_n 0, 1, (0, 0, 0), 0, 0) := by decide +kernel
set_option maxRecDepth 100000 in
theorem zfq262_14 : zfetch 262 14 = some (.ldc 245, 2, (1, 37, 0), 0, 1839) := by decide +kernel
set_option maxRecDepth 100000 in
theorem zfq262_16 : zfetch 262 16 = some (.invokevirtual 112, 3, (0, 237, 0), 0, 1732) := by decide +kernel
set_option maxRecDepth 100000 in
theorem zfq262_19 : zfetch 262 19 = some (.ifCond .eq 7, 3, (26, 0, 0), 0, 0) := by decide +kernel
set_option maxRecDepth 100000 in
theorem zfq262_22 : zfetch 262 22 = some (.iconst 0, 1, (0, 0, 0), 0, 0) := by decide +kernel
set_option maxRecDepth 100000 in
theorem zfq262_23 : zfetch 262 23 = some (.goto 43, 3, (66, 0, 0), 0, 0) := by decide +kernel
set_option maxRecDepth 100000 in
theorem zfq262_26 : zfetch 262 26 = some (.aload_n 0, 1, (0, 0, 0), 0, 0) := by decide +kernel
set_option maxRecDepth 100000 in
theorem zfq262_27 : zfetch 262 27 = some (.ldc 247, 2, (1, 38, 0), 0, 1840) := by decide +kernel
set_option maxRecDepth 100000 in
theorem zfq262_29 : zfetch 262 29 = some (.invokevirtual 112, 3, (0, 237, 0), 0, 1732) := by decide +kernel
set_option maxRecDepth 100000 in
theorem zfq262_32 : zfetch 262 32 = some (.ifCond .eq 7, 3, (39, 0, 0), 0, 0) := by decide +kernel
set_option maxRecDepth 100000 in
theorem zfq262_35 : zfetch 262 35 = some (.iconst 1, 1, (0, 0, 0), 1, 0) := by decide +kernel
set_option maxRecDepth 100000 in
theorem zfq262_36 : zfetch 262 36 = some (.goto 30, 3, (66, 0, 0), 0, 0) := by decide +kernel
set_option maxRecDepth 100000 in
theorem zfq262_39 : zfetch 262 39 = some (.aload_n 0, 1, (0, 0, 0), 0, 0) := by decide +kernel
set_option maxRecDepth 100000 in
theorem zfq262_40 : zfetch 262 40 = some (.ldc 249, 2, (1, 39, 0), 0, 1841) := by decide +kernel
set_option maxRecDepth 100000 in
theorem zfq262_42 : zfetch 262 42 = some (.invokevirtual 112, 3, (0, 237, 0), 0, 1732) := by decide +kernel
set_option maxRecDepth 100000 in
theorem zfq262_45 : zfetch 262 45 = some (.ifCond .eq 7, 3, (52, 0, 0), 0, 0) := by decide +kernel
set_option maxRecDepth 100000 in
theorem zfq262_48 : zfetch 262 48 = some (.iconst 2, 1, (0, 0, 0), 2, 0) := by decide +kernel
set_option maxRecDepth 100000 in
theorem zfq262_49 : zfetch 262 49 = some (.goto 17, 3, (66, 0, 0), 0, 0) := by decide +kernel
set_option maxRecDepth 100000 in
theorem zfq262_52 : zfetch 262 52 = some (.aload_n 0, 1, (0, 0, 0), 0, 0) := by decide +kernel
set_option maxRecDepth 100000 in
theorem zfq262_53 : zfetch 262 53 = some (.ldc 251, 2, (1, 40, 0), 0, 1842) := by decide +kernel
set_option maxRecDepth 100000 in
theorem zfq262_55 : zfetch 262 55 = some (.invokevirtual 112, 3, (0, 237, 0), 0, 1732) := by decide +kernel
set_option maxRecDepth 100000 in
theorem zfq262_58 : zfetch 262 58 = some (.ifCond .eq 7, 3, (65, 0, 0), 0, 0) := by decide +kernel
set_option maxRecDepth 100000 in
theorem zfq262_61 : zfetch 262 61 = some (.iconst 3, 1, (0, 0, 0), 3, 0) := by decide +kernel
set_option maxRecDepth 100000 in
theorem zfq262_62 : zfetch 262 62 = some (.goto 4, 3, (66, 0, 0), 0, 0) := by decide +kernel
set_option maxRecDepth 100000 in
theorem zfq262_65 : zfetch 262 65 = some (.iconst (-1), 1, (0, 0, 0), (-1), 0) := by decide +kernel
set_option maxRecDepth 100000 in
theorem zfq262_78 : zfetch 262 78 = some (.aload_n 0, 1, (0, 0, 0), 0, 0) := by decide +kernel
set_option maxRecDepth 100000 in
theorem zfq262_79 : zfetch 262 79 = some (.getfield 13, 3, (12, 1, 0), 0, 1618) := by decide +kernel
set_option maxRecDepth 100000 in
theorem zfq262_82 : zfetch 262 82 = some (.iload_n 2, 1, (0, 0, 0), 0, 0) := by decide +kernel
set_option maxRecDepth 100000 in
theorem zfq262_83 : zfetch 262 83 = some (.iconst 1, 1, (0, 0, 0), 1, 0) := by decide +kernel
set_option maxRecDepth 100000 in
theorem zfq262_84 : zfetch 262 84 = some (.iadd, 1, (0, 0, 0), 0, 0) := by decide +kernel
set_option maxRecDepth 100000 in
theorem zfq262_85 : zfetch 262 85 = some (.aload_n 0, 1, (0, 0, 0), 0, 0) := by decide +kernel
set_option maxRecDepth 100000 in
theorem zfq262_86 : zfetch 262 86 = some (.iconst 0, 1, (0, 0, 0), 0, 0) := by decide +kernel
set_option maxRecDepth 100000 in
theorem zfq262_87 : zfetch 262 87 = some (.sipush 999, 3, (0, 0, 0), 999, 0) := by decide +kernel
set_option maxRecDepth 100000 in
theorem zfq262_90 : zfetch 262 90 = some (.iconst 3, 1, (0, 0, 0), 3, 0) := by decide +kernel
set_option maxRecDepth 100000 in
theorem zfq262_91 : zfetch 262 91 = some (.invokevirtual 116, 3, (0, 240, 0), 0, 1759) := by decide +kernel
set_option maxRecDepth 100000 in
theorem zfq262_125 : zfetch 262 125 = some (.aload_n 0, 1, (0, 0, 0), 0, 0) := by decide +kernel
set_option maxRecDepth 100000 in
theorem zfq262_126 : zfetch 262 126 = some (.ldc 253, 2, (1, 41, 0), 0, 1843) := by decide +kernel
set_option maxRecDepth 100000 in
theorem zfq262_128 : zfetch 262 128 = some (.invokevirtual 226, 3, (0, 238, 0), 0, 1844) := by decide +kernel
set_option maxRecDepth 100000 in
theorem zfq262_131 : zfetch 262 131 = some (.ifCond .eq 12, 3, (143, 0, 0), 0, 0) := by decide +kernel
set_option maxRecDepth 100000 in
theorem zfq262_134 : zfetch 262 134 = some (.aload_n 0, 1, (0, 0, 0), 0, 0) := by decide +kernel
set_option maxRecDepth 100000 in
theorem zfq262_135 : zfetch 262 135 = some (.invokevirtual 221, 3, (0, 261, 0), 0, 1848) := by decide +kernel
set_option maxRecDepth 100000 in
theorem zfq262_138 : zfetch 262 138 = some (.ifCond .ne 5, 3, (143, 0, 0), 0, 0) := by decide +kernel
set_option maxRecDepth 100000 in
theorem zfq262_141 : zfetch 262 141 = some (.iconst 0, 1, (0, 0, 0), 0, 0) := by decide +kernel
set_option maxRecDepth 100000 in
theorem zfq262_142 : zfetch 262 142 = some (.ireturn, 1, (0, 0, 0), 0, 0) := by decide +kernel
set_option maxRecDepth 100000 in
theorem zfq263_0 : zfetch 263 0 = some (.aload_n 0, 1, (0, 0, 0), 0, 0) := by decide +kernel
set_option maxRecDepth 100000 in
theorem zfq263_1 : zfetch 263 1 = some (.invokevirtual 109, 3, (0, 236, 0), 0, 1723) := by decide +kernel
set_option maxRecDepth 100000 in
theorem zfq263_33 : zfetch 263 33 = some (.aload_n 0, 1, (0, 0, 0), 0, 0) := by decide +kernel
set_option maxRecDepth 100000 in
theorem zfq263_34 : zfetch 263 34 = some (.iload_n 2, 1, (0, 0, 0), 0, 0) := by decide +kernel
set_option maxRecDepth 100000 in
theorem zfq263_35 : zfetch 263 35 = some (.invokevirtual 258, 3, (0, 262, 0), 0, 1835) := by decide +kernel
set_option maxRecDepth 100000 in
theorem zfq263_38 : zfetch 263 38 = some (.ifCond .eq 7, 3, (45, 0, 0), 0, 0) := by decide +kernel
set_option maxRecDepth 100000 in
theorem zfq263_45 : zfetch 263 45 = some (.iconst 0, 1, (0, 0, 0), 0, 0) := by decide +kernel
set_option maxRecDepth 100000 in
theorem zfq263_46 : zfetch 263 46 = some (.ireturn, 1, (0, 0, 0), 0, 0) := by decide +kernel
set_option maxRecDepth 100000 in
theorem zfq263_41 : zfetch 263 41 = some (.iconst 1, 1, (0, 0, 0), 1, 0) := by decide +kernel
set_option maxRecDepth 100000 in
theorem zfq263_42 : zfetch 263 42 = some (.goto 4, 3, (46, 0, 0), 0, 0) := by decide +kernel
set_option maxRecDepth 100000 in
theorem zfq264_9 : zfetch 264 9 = some (.aload_n 0, 1, (0, 0, 0), 0, 0) := by decide +kernel
set_option maxRecDepth 100000 in
theorem zfq264_10 : zfetch 264 10 = some (.invokevirtual 97, 3, (0, 235, 0), 0, 1711) := by decide +kernel
set_option maxRecDepth 100000 in
theorem zfq264_28 : zfetch 264 28 = some (.aload_n 0, 1, (0, 0, 0), 0, 0) := by decide +kernel
set_option maxRecDepth 100000 in
theorem zfq264_29 : zfetch 264 29 = some (.iload_n 1, 1, (0, 0, 0), 0, 0) := by decide +kernel
set_option maxRecDepth 100000 in
theorem zfq264_30 : zfetch 264 30 = some (.iload_n 2, 1, (0, 0, 0), 0, 0) := by decide +kernel
set_option maxRecDepth 100000 in
theorem zfq264_31 : zfetch 264 31 = some (.invokevirtual 264, 3, (0, 263, 0), 0, 1719) := by decide +kernel
set_option maxRecDepth 100000 in
theorem zfq264_34 : zfetch 264 34 = some (.ifCond .ne 5, 3, (39, 0, 0), 0, 0) := by decide +kernel
set_option maxRecDepth 100000 in
theorem zfq264_37 : zfetch 264 37 = some (.iconst (-1), 1, (0, 0, 0), (-1), 0) := by decide +kernel
set_option maxRecDepth 100000 in
theorem zfq264_38 : zfetch 264 38 = some (.ireturn, 1, (0, 0, 0), 0, 0) := by decide +kernel
set_option maxRecDepth 100000 in
theorem zfq264_39 : zfetch 264 39 = some (.aload_n 0, 1, (0, 0, 0), 0, 0) := by decide +kernel
set_option maxRecDepth 100000 in
theorem zfq264_40 : zfetch 264 40 = some (.invokevirtual 97, 3, (0, 235, 0), 0, 1711) := by decide +kernel
set_option maxRecDepth 100000 in
theorem zfq266_0 : zfetch 266 0 = some (.aload_n 0, 1, (0, 0, 0), 0, 0) := by decide +kernel
set_option maxRecDepth 100000 in
theorem zfq266_1 : zfetch 266 1 = some (.iconst 0, 1, (0, 0, 0), 0, 0) := by decide +kernel
set_option maxRecDepth 100000 in
theorem zfq266_2 : zfetch 266 2 = some (.invokevirtual 268, 3, (0, 264, 0), 0, 1703) := by decide +kernel
set_option maxRecDepth 100000 in
theorem znq235 : zat zmi 235 = some (1, 1, 0, 12, 0, 0) := rfl
set_option maxRecDepth 100000 in
theorem znq236 : zat zmi 236 = some (1, 1, 0, 12, 0, 0) := rfl
set_option maxRecDepth 100000 in
theorem znq237 : zat zmi 237 = some (2, 4, 0, 12, 2, 0) := rfl
set_option maxRecDepth 100000 in
theorem znq238 : zat zmi 238 = some (2, 2, 0, 12, 2, 0) := rfl
set_option maxRecDepth 100000 in
theorem znq239 : zat zmi 239 = some (2, 2, 0, 12, 2, 0) := rfl
set_option maxRecDepth 100000 in
theorem znq240 : zat zmi 240 = some (4, 5, 0, 12, 1, 0) := rfl
set_option maxRecDepth 100000 in
theorem znq242 : zat zmi 242 = some (1, 1, 0, 12, 1, 0) := rfl
set_option maxRecDepth 100000 in
theorem znq255 : zat zmi 255 = some (3, 3, 0, 12, 0, 0) := rfl
set_option maxRecDepth 100000 in
theorem znq256 : zat zmi 256 = some (1, 2, 0, 12, 2, 0) := rfl
set_option maxRecDepth 100000 in
theorem znq257 : zat zmi 257 = some (1, 1, 0, 12, 2, 0) := rfl
set_option maxRecDepth 100000 in
theorem znq258 : zat zmi 258 = some (1, 3, 0, 12, 2, 0) := rfl
set_option maxRecDepth 100000 in
theorem znq259 : zat zmi 259 = some (1, 2, 0, 12, 2, 0) := rfl
set_option maxRecDepth 100000 in
theorem znq260 : zat zmi 260 = some (1, 1, 0, 12, 2, 0) := rfl
set_option maxRecDepth 100000 in
theorem znq261 : zat zmi 261 = some (1, 1, 0, 12, 2, 0) := rfl
set_option maxRecDepth 100000 in
theorem znq262 : zat zmi 262 = some (2, 3, 0, 12, 2, 0) := rfl
set_option maxRecDepth 100000 in
theorem znq263 : zat zmi 263 = some (3, 3, 0, 12, 2, 0) := rfl
set_option maxRecDepth 100000 in
theorem znq264 : zat zmi 264 = some (2, 3, 0, 12, 1, 0) := rfl
set_option maxRecDepth 100000 in
theorem xp_0 {E : zE} {n d : Nat} {h h1 : zH} {u1 : Option Value} (ha : zat h.1 84 = some (.inr (.inl (12, [none, some (some 85), some (some 86), some (some 87), some (some 88), some (some 89), none, none, some (some 90), none, none, none, none, none, none, some (some 91), none, some (some 92), some (some 93)])))) (e1 : zex E n d 236 0 [some (.ref 84)] [] h = some (.inl none, h1)) : zex E (n + 2) (d + 1) 256 0 [some (.ref 84), u1] [] h = zex E n (d + 1) 256 4 [some (.ref 84), u1] [] h1 :=
  ((zx1 zfq256_0).trans rfl : zex E (n + 2) (d + 1) 256 0 [some (.ref 84), u1] [] h = zex E (n + 1) (d + 1) 256 1 [some (.ref 84), u1] [.ref 84] h).trans ((zcvg (as := []) (r := []) zfq256_1 znq236 rfl ha rfl e1 : zex E (n + 1) (d + 1) 256 1 [some (.ref 84), u1] [.ref 84] h = zex E n (d + 1) 256 4 [some (.ref 84), u1] [] h1))
set_option maxRecDepth 100000 in
theorem xp_15 {E : zE} {n d : Nat} {h h1 h2 : zH} {x : Int32} {u1 : Option Value} (ha : zat h.1 84 = some (.inr (.inl (12, [none, some (some 85), some (some 86), some (some 87), some (some 88), some (some 89), none, none, some (some 90), none, none, none, none, none, none, some (some 91), none, some (some 92), some (some 93)])))) (ha1 : zat h1.1 84 = some (.inr (.inl (12, [none, some (some 85), some (some 86), some (some 87), some (some 88), some (some 89), none, none, some (some 90), none, none, none, none, none, none, some (some 91), none, some (some 92), some (some 93)])))) (e1 : zex E (n + 6) d 240 0 [some (.ref 84), some (.int 0), some (.int 999), some (.int 3), none] [] h = some (.inl (some (.int x)), h1)) (e2 : zex E (n + 1) d 255 0 [some (.ref 84), some (.int 8), some (.int x)] [] h1 = some (.inl none, h2)) : zex E (n + 11) (d + 1) 256 15 [some (.ref 84), u1] [] h = zex E n (d + 1) 256 121 [some (.ref 84), some (.int x)] [] h2 :=
  ((zx1 zfq256_15).trans rfl : zex E (n + 11) (d + 1) 256 15 [some (.ref 84), u1] [] h = zex E (n + 10) (d + 1) 256 16 [some (.ref 84), u1] [.ref 84] h).trans (((zx1 zfq256_16).trans rfl : zex E (n + 10) (d + 1) 256 16 [some (.ref 84), u1] [.ref 84] h = zex E (n + 9) (d + 1) 256 17 [some (.ref 84), u1] [.int 0, .ref 84] h).trans (((zx1 zfq256_17).trans rfl : zex E (n + 9) (d + 1) 256 17 [some (.ref 84), u1] [.int 0, .ref 84] h = zex E (n + 8) (d + 1) 256 20 [some (.ref 84), u1] [.int 999, .int 0, .ref 84] h).trans (((zx1 zfq256_20).trans rfl : zex E (n + 8) (d + 1) 256 20 [some (.ref 84), u1] [.int 999, .int 0, .ref 84] h = zex E (n + 7) (d + 1) 256 21 [some (.ref 84), u1] [.int 3, .int 999, .int 0, .ref 84] h).trans ((zcvg (as := [.int 0, .int 999, .int 3]) (r := []) zfq256_21 znq240 rfl ha rfl e1 : zex E (n + 7) (d + 1) 256 21 [some (.ref 84), u1] [.int 3, .int 999, .int 0, .ref 84] h = zex E (n + 6) (d + 1) 256 24 [some (.ref 84), u1] [.int x] h1).trans (((zx1 zfq256_24).trans rfl : zex E (n + 6) (d + 1) 256 24 [some (.ref 84), u1] [.int x] h1 = zex E (n + 5) (d + 1) 256 25 [some (.ref 84), some (.int x)] [] h1).trans (((zx1 zfq256_25).trans rfl : zex E (n + 5) (d + 1) 256 25 [some (.ref 84), some (.int x)] [] h1 = zex E (n + 4) (d + 1) 256 26 [some (.ref 84), some (.int x)] [.ref 84] h1).trans (((zx1 zfq256_26).trans rfl : zex E (n + 4) (d + 1) 256 26 [some (.ref 84), some (.int x)] [.ref 84] h1 = zex E (n + 3) (d + 1) 256 28 [some (.ref 84), some (.int x)] [.int 8, .ref 84] h1).trans (((zx1 zfq256_28).trans rfl : zex E (n + 3) (d + 1) 256 28 [some (.ref 84), some (.int x)] [.int 8, .ref 84] h1 = zex E (n + 2) (d + 1) 256 29 [some (.ref 84), some (.int x)] [.int x, .int 8, .ref 84] h1).trans ((zcvg (as := [.int 8, .int x]) (r := []) zfq256_29 znq255 rfl ha1 rfl e2 : zex E (n + 2) (d + 1) 256 29 [some (.ref 84), some (.int x)] [.int x, .int 8, .ref 84] h1 = zex E (n + 1) (d + 1) 256 32 [some (.ref 84), some (.int x)] [] h2).trans (((zx1 zfq256_32).trans rfl : zex E (n + 1) (d + 1) 256 32 [some (.ref 84), some (.int x)] [] h2 = zex E n (d + 1) 256 121 [some (.ref 84), some (.int x)] [] h2)))))))))))
set_option maxRecDepth 100000 in
theorem xp_114 {E : zE} {n d : Nat} {h h1 : zH} {x : Int32} {u1 : Option Value} (ha : zat h.1 84 = some (.inr (.inl (12, [none, some (some 85), some (some 86), some (some 87), some (some 88), some (some 89), none, none, some (some 90), none, none, none, none, none, none, some (some 91), none, some (some 92), some (some 93)])))) (e1 : zex E n d 255 0 [some (.ref 84), some (.int x), some (.int 0)] [] h = some (.inl none, h1)) : zex E (n + 5) (d + 1) 256 114 [some (.ref 84), u1] [.int x] h = zex E n (d + 1) 256 121 [some (.ref 84), some (.int x)] [] h1 :=
  ((zx1 zfq256_114).trans rfl : zex E (n + 5) (d + 1) 256 114 [some (.ref 84), u1] [.int x] h = zex E (n + 4) (d + 1) 256 115 [some (.ref 84), some (.int x)] [] h).trans (((zx1 zfq256_115).trans rfl : zex E (n + 4) (d + 1) 256 115 [some (.ref 84), some (.int x)] [] h = zex E (n + 3) (d + 1) 256 116 [some (.ref 84), some (.int x)] [.ref 84] h).trans (((zx1 zfq256_116).trans rfl : zex E (n + 3) (d + 1) 256 116 [some (.ref 84), some (.int x)] [.ref 84] h = zex E (n + 2) (d + 1) 256 117 [some (.ref 84), some (.int x)] [.int x, .ref 84] h).trans (((zx1 zfq256_117).trans rfl : zex E (n + 2) (d + 1) 256 117 [some (.ref 84), some (.int x)] [.int x, .ref 84] h = zex E (n + 1) (d + 1) 256 118 [some (.ref 84), some (.int x)] [.int 0, .int x, .ref 84] h).trans ((zcvg (as := [.int x, .int 0]) (r := []) zfq256_118 znq255 rfl ha rfl e1 : zex E (n + 1) (d + 1) 256 118 [some (.ref 84), some (.int x)] [.int 0, .int x, .ref 84] h = zex E n (d + 1) 256 121 [some (.ref 84), some (.int x)] [] h1)))))
set_option maxRecDepth 100000 in
theorem xs_0 {E : zE} {n d : Nat} {h h1 : zH} {x : Int32} (ha : zat h.1 84 = some (.inr (.inl (12, [none, some (some 85), some (some 86), some (some 87), some (some 88), some (some 89), none, none, some (some 90), none, none, none, none, none, none, some (some 91), none, some (some 92), some (some 93)])))) (e1 : zex E n d 256 0 [some (.ref 84), none] [] h = some (.inl (some (.int x)), h1)) : zex E (n + 2) (d + 1) 257 0 [some (.ref 84)] [] h = zex E n (d + 1) 257 4 [some (.ref 84)] [.int x] h1 :=
  ((zx1 zfq257_0).trans rfl : zex E (n + 2) (d + 1) 257 0 [some (.ref 84)] [] h = zex E (n + 1) (d + 1) 257 1 [some (.ref 84)] [.ref 84] h).trans ((zcvg (as := []) (r := []) zfq257_1 znq256 rfl ha rfl e1 : zex E (n + 1) (d + 1) 257 1 [some (.ref 84)] [.ref 84] h = zex E n (d + 1) 257 4 [some (.ref 84)] [.int x] h1))
set_option maxRecDepth 100000 in
theorem xs_4n {E : zE} {n d : Nat} {h : zH}    : zex E (n + 3) (d + 1) 257 4 [some (.ref 84)] [.int 0] h = some (.inl (some (.int 0)), h) :=
  ((zx1 zfq257_4).trans rfl : zex E (n + 3) (d + 1) 257 4 [some (.ref 84)] [.int 0] h = zex E (n + 2) (d + 1) 257 7 [some (.ref 84)] [] h).trans (((zx1 zfq257_7).trans rfl : zex E (n + 2) (d + 1) 257 7 [some (.ref 84)] [] h = zex E (n + 1) (d + 1) 257 8 [some (.ref 84)] [.int 0] h).trans (((zx1 zfq257_8).trans rfl : zex E (n + 1) (d + 1) 257 8 [some (.ref 84)] [.int 0] h = some (.inl (some (.int 0)), h))))
set_option maxRecDepth 100000 in
theorem xs_4y {E : zE} {n d : Nat} {h : zH}    : zex E (n + 1) (d + 1) 257 4 [some (.ref 84)] [.int 1] h = zex E n (d + 1) 257 9 [some (.ref 84)] [] h :=
  ((zx1 zfq257_4).trans rfl : zex E (n + 1) (d + 1) 257 4 [some (.ref 84)] [.int 1] h = zex E n (d + 1) 257 9 [some (.ref 84)] [] h)
set_option maxRecDepth 100000 in
theorem xs_9 {E : zE} {n d : Nat} {h h1 : zH} {x : Int32} (ha : zat h.1 84 = some (.inr (.inl (12, [none, some (some 85), some (some 86), some (some 87), some (some 88), some (some 89), none, none, some (some 90), none, none, none, none, none, none, some (some 91), none, some (some 92), some (some 93)])))) (e1 : zex E n d 239 0 [some (.ref 84), some (.int 43)] [] h = some (.inl (some (.int x)), h1)) : zex E (n + 3) (d + 1) 257 9 [some (.ref 84)] [] h = zex E n (d + 1) 257 15 [some (.ref 84)] [.int x] h1 :=
  ((zx1 zfq257_9).trans rfl : zex E (n + 3) (d + 1) 257 9 [some (.ref 84)] [] h = zex E (n + 2) (d + 1) 257 10 [some (.ref 84)] [.ref 84] h).trans (((zx1 zfq257_10).trans rfl : zex E (n + 2) (d + 1) 257 10 [some (.ref 84)] [.ref 84] h = zex E (n + 1) (d + 1) 257 12 [some (.ref 84)] [.int 43, .ref 84] h).trans ((zcvg (as := [.int 43]) (r := []) zfq257_12 znq239 rfl ha rfl e1 : zex E (n + 1) (d + 1) 257 12 [some (.ref 84)] [.int 43, .ref 84] h = zex E n (d + 1) 257 15 [some (.ref 84)] [.int x] h1)))
set_option maxRecDepth 100000 in
theorem xs_15n {E : zE} {n d : Nat} {h : zH}    : zex E (n + 3) (d + 1) 257 15 [some (.ref 84)] [.int 0] h = some (.inl (some (.int 1)), h) :=
  ((zx1 zfq257_15).trans rfl : zex E (n + 3) (d + 1) 257 15 [some (.ref 84)] [.int 0] h = zex E (n + 2) (d + 1) 257 37 [some (.ref 84)] [] h).trans (((zx1 zfq257_37).trans rfl : zex E (n + 2) (d + 1) 257 37 [some (.ref 84)] [] h = zex E (n + 1) (d + 1) 257 38 [some (.ref 84)] [.int 1] h).trans (((zx1 zfq257_38).trans rfl : zex E (n + 1) (d + 1) 257 38 [some (.ref 84)] [.int 1] h = some (.inl (some (.int 1)), h))))
set_option maxRecDepth 100000 in
theorem xs_15y {E : zE} {n d : Nat} {h h1 : zH} {x : Int32} (ha : zat h.1 84 = some (.inr (.inl (12, [none, some (some 85), some (some 86), some (some 87), some (some 88), some (some 89), none, none, some (some 90), none, none, none, none, none, none, some (some 91), none, some (some 92), some (some 93)])))) (e1 : zex E n d 256 0 [some (.ref 84), none] [] h = some (.inl (some (.int x)), h1)) : zex E (n + 3) (d + 1) 257 15 [some (.ref 84)] [.int 1] h = zex E n (d + 1) 257 22 [some (.ref 84)] [.int x] h1 :=
  ((zx1 zfq257_15).trans rfl : zex E (n + 3) (d + 1) 257 15 [some (.ref 84)] [.int 1] h = zex E (n + 2) (d + 1) 257 18 [some (.ref 84)] [] h).trans (((zx1 zfq257_18).trans rfl : zex E (n + 2) (d + 1) 257 18 [some (.ref 84)] [] h = zex E (n + 1) (d + 1) 257 19 [some (.ref 84)] [.ref 84] h).trans ((zcvg (as := []) (r := []) zfq257_19 znq256 rfl ha rfl e1 : zex E (n + 1) (d + 1) 257 19 [some (.ref 84)] [.ref 84] h = zex E n (d + 1) 257 22 [some (.ref 84)] [.int x] h1)))
set_option maxRecDepth 100000 in
theorem xs_22n {E : zE} {n d : Nat} {h : zH}    : zex E (n + 3) (d + 1) 257 22 [some (.ref 84)] [.int 0] h = some (.inl (some (.int 0)), h) :=
  ((zx1 zfq257_22).trans rfl : zex E (n + 3) (d + 1) 257 22 [some (.ref 84)] [.int 0] h = zex E (n + 2) (d + 1) 257 25 [some (.ref 84)] [] h).trans (((zx1 zfq257_25).trans rfl : zex E (n + 2) (d + 1) 257 25 [some (.ref 84)] [] h = zex E (n + 1) (d + 1) 257 26 [some (.ref 84)] [.int 0] h).trans (((zx1 zfq257_26).trans rfl : zex E (n + 1) (d + 1) 257 26 [some (.ref 84)] [.int 0] h = some (.inl (some (.int 0)), h))))
set_option maxRecDepth 100000 in
theorem xs_22y {E : zE} {n d : Nat} {h h1 : zH}  (ha : zat h.1 84 = some (.inr (.inl (12, [none, some (some 85), some (some 86), some (some 87), some (some 88), some (some 89), none, none, some (some 90), none, none, none, none, none, none, some (some 91), none, some (some 92), some (some 93)])))) (e1 : zex E (n + 1) d 255 0 [some (.ref 84), some (.int 9), some (.int 0)] [] h = some (.inl none, h1)) : zex E (n + 6) (d + 1) 257 22 [some (.ref 84)] [.int 1] h = zex E n (d + 1) 257 9 [some (.ref 84)] [] h1 :=
  ((zx1 zfq257_22).trans rfl : zex E (n + 6) (d + 1) 257 22 [some (.ref 84)] [.int 1] h = zex E (n + 5) (d + 1) 257 27 [some (.ref 84)] [] h).trans (((zx1 zfq257_27).trans rfl : zex E (n + 5) (d + 1) 257 27 [some (.ref 84)] [] h = zex E (n + 4) (d + 1) 257 28 [some (.ref 84)] [.ref 84] h).trans (((zx1 zfq257_28).trans rfl : zex E (n + 4) (d + 1) 257 28 [some (.ref 84)] [.ref 84] h = zex E (n + 3) (d + 1) 257 30 [some (.ref 84)] [.int 9, .ref 84] h).trans (((zx1 zfq257_30).trans rfl : zex E (n + 3) (d + 1) 257 30 [some (.ref 84)] [.int 9, .ref 84] h = zex E (n + 2) (d + 1) 257 31 [some (.ref 84)] [.int 0, .int 9, .ref 84] h).trans ((zcvg (as := [.int 9, .int 0]) (r := []) zfq257_31 znq255 rfl ha rfl e1 : zex E (n + 2) (d + 1) 257 31 [some (.ref 84)] [.int 0, .int 9, .ref 84] h = zex E (n + 1) (d + 1) 257 34 [some (.ref 84)] [] h1).trans (((zx1 zfq257_34).trans rfl : zex E (n + 1) (d + 1) 257 34 [some (.ref 84)] [] h1 = zex E n (d + 1) 257 9 [some (.ref 84)] [] h1))))))
set_option maxRecDepth 100000 in
theorem xo_66 {E : zE} {n d : Nat} {h : zH} {x : Int32}   : zex E (n + 1) (d + 1) 242 66 [some (.ref 84)] [.int x] h = some (.inl (some (.int x)), h) :=
  ((zx1 zfq242_66).trans rfl : zex E (n + 1) (d + 1) 242 66 [some (.ref 84)] [.int x] h = some (.inl (some (.int x)), h))
set_option maxRecDepth 100000 in
theorem xt_0 {E : zE} {n d : Nat} {h h1 h2 : zH} {x : Int32} {u1 u2 : Option Value} (ha : zat h.1 84 = some (.inr (.inl (12, [none, some (some 85), some (some 86), some (some 87), some (some 88), some (some 89), none, none, some (some 90), none, none, none, none, none, none, some (some 91), none, some (some 92), some (some 93)])))) (ha1 : zat h1.1 84 = some (.inr (.inl (12, [none, some (some 85), some (some 86), some (some 87), some (some 88), some (some 89), none, none, some (some 90), none, none, none, none, none, none, some (some 91), none, some (some 92), some (some 93)])))) (e1 : zex E (n + 2) d 236 0 [some (.ref 84)] [] h = some (.inl none, h1)) (e2 : zex E n d 242 0 [some (.ref 84)] [] h1 = some (.inl (some (.int x)), h2)) : zex E (n + 4) (d + 1) 258 0 [some (.ref 84), u1, u2] [] h = zex E n (d + 1) 258 8 [some (.ref 84), u1, u2] [.int x] h2 :=
  ((zx1 zfq258_0).trans rfl : zex E (n + 4) (d + 1) 258 0 [some (.ref 84), u1, u2] [] h = zex E (n + 3) (d + 1) 258 1 [some (.ref 84), u1, u2] [.ref 84] h).trans ((zcvg (as := []) (r := []) zfq258_1 znq236 rfl ha rfl e1 : zex E (n + 3) (d + 1) 258 1 [some (.ref 84), u1, u2] [.ref 84] h = zex E (n + 2) (d + 1) 258 4 [some (.ref 84), u1, u2] [] h1).trans (((zx1 zfq258_4).trans rfl : zex E (n + 2) (d + 1) 258 4 [some (.ref 84), u1, u2] [] h1 = zex E (n + 1) (d + 1) 258 5 [some (.ref 84), u1, u2] [.ref 84] h1).trans ((zcvg (as := []) (r := []) zfq258_5 znq242 rfl ha1 rfl e2 : zex E (n + 1) (d + 1) 258 5 [some (.ref 84), u1, u2] [.ref 84] h1 = zex E n (d + 1) 258 8 [some (.ref 84), u1, u2] [.int x] h2))))
set_option maxRecDepth 100000 in
theorem xt_18 {E : zE} {n d : Nat} {h h1 : zH} {x : Int32} {u1 u2 : Option Value} (ha : zat h.1 84 = some (.inr (.inl (12, [none, some (some 85), some (some 86), some (some 87), some (some 88), some (some 89), none, none, some (some 90), none, none, none, none, none, none, some (some 91), none, some (some 92), some (some 93)])))) (e1 : zex E n d 237 0 [some (.ref 84), some (.retAddr 35), none, none] [] h = some (.inl (some (.int x)), h1)) : zex E (n + 3) (d + 1) 258 18 [some (.ref 84), u1, u2] [] h = zex E n (d + 1) 258 24 [some (.ref 84), u1, u2] [.int x] h1 :=
  ((zx1 zfq258_18).trans rfl : zex E (n + 3) (d + 1) 258 18 [some (.ref 84), u1, u2] [] h = zex E (n + 2) (d + 1) 258 19 [some (.ref 84), u1, u2] [.ref 84] h).trans (((zx1 zfq258_19).trans rfl : zex E (n + 2) (d + 1) 258 19 [some (.ref 84), u1, u2] [.ref 84] h = zex E (n + 1) (d + 1) 258 21 [some (.ref 84), u1, u2] [.retAddr 35, .ref 84] h).trans ((zcvg (as := [.retAddr 35]) (r := []) zfq258_21 znq237 rfl ha rfl e1 : zex E (n + 1) (d + 1) 258 21 [some (.ref 84), u1, u2] [.retAddr 35, .ref 84] h = zex E n (d + 1) 258 24 [some (.ref 84), u1, u2] [.int x] h1)))
set_option maxRecDepth 100000 in
theorem xt_38 {E : zE} {n d : Nat} {h h1 : zH} {x y : Int32} (ha : zat h.1 84 = some (.inr (.inl (12, [none, some (some 85), some (some 86), some (some 87), some (some 88), some (some 89), none, none, some (some 90), none, none, none, none, none, none, some (some 91), none, some (some 92), some (some 93)])))) (e1 : zex E (n + 1) d 255 0 [some (.ref 84), some (.int y), some (.int x)] [] h = some (.inl none, h1)) : zex E (n + 5) (d + 1) 258 38 [some (.ref 84), some (.int x), some (.int y)] [] h = zex E n (d + 1) 258 55 [some (.ref 84), some (.int x), some (.int y)] [] h1 :=
  ((zx1 zfq258_38).trans rfl : zex E (n + 5) (d + 1) 258 38 [some (.ref 84), some (.int x), some (.int y)] [] h = zex E (n + 4) (d + 1) 258 39 [some (.ref 84), some (.int x), some (.int y)] [.ref 84] h).trans (((zx1 zfq258_39).trans rfl : zex E (n + 4) (d + 1) 258 39 [some (.ref 84), some (.int x), some (.int y)] [.ref 84] h = zex E (n + 3) (d + 1) 258 40 [some (.ref 84), some (.int x), some (.int y)] [.int y, .ref 84] h).trans (((zx1 zfq258_40).trans rfl : zex E (n + 3) (d + 1) 258 40 [some (.ref 84), some (.int x), some (.int y)] [.int y, .ref 84] h = zex E (n + 2) (d + 1) 258 41 [some (.ref 84), some (.int x), some (.int y)] [.int x, .int y, .ref 84] h).trans ((zcvg (as := [.int y, .int x]) (r := []) zfq258_41 znq255 rfl ha rfl e1 : zex E (n + 2) (d + 1) 258 41 [some (.ref 84), some (.int x), some (.int y)] [.int x, .int y, .ref 84] h = zex E (n + 1) (d + 1) 258 44 [some (.ref 84), some (.int x), some (.int y)] [] h1).trans (((zx1 zfq258_44).trans rfl : zex E (n + 1) (d + 1) 258 44 [some (.ref 84), some (.int x), some (.int y)] [] h1 = zex E n (d + 1) 258 55 [some (.ref 84), some (.int x), some (.int y)] [] h1)))))
set_option maxRecDepth 100000 in
theorem xa_0 {E : zE} {n d : Nat} {h h1 : zH} {x : Int32} {u1 : Option Value} (ha : zat h.1 84 = some (.inr (.inl (12, [none, some (some 85), some (some 86), some (some 87), some (some 88), some (some 89), none, none, some (some 90), none, none, none, none, none, none, some (some 91), none, some (some 92), some (some 93)])))) (e1 : zex E n d 239 0 [some (.ref 84), some (.int 40)] [] h = some (.inl (some (.int x)), h1)) : zex E (n + 3) (d + 1) 259 0 [some (.ref 84), u1] [] h = zex E n (d + 1) 259 6 [some (.ref 84), u1] [.int x] h1 :=
  ((zx1 zfq259_0).trans rfl : zex E (n + 3) (d + 1) 259 0 [some (.ref 84), u1] [] h = zex E (n + 2) (d + 1) 259 1 [some (.ref 84), u1] [.ref 84] h).trans (((zx1 zfq259_1).trans rfl : zex E (n + 2) (d + 1) 259 1 [some (.ref 84), u1] [.ref 84] h = zex E (n + 1) (d + 1) 259 3 [some (.ref 84), u1] [.int 40, .ref 84] h).trans ((zcvg (as := [.int 40]) (r := []) zfq259_3 znq239 rfl ha rfl e1 : zex E (n + 1) (d + 1) 259 3 [some (.ref 84), u1] [.int 40, .ref 84] h = zex E n (d + 1) 259 6 [some (.ref 84), u1] [.int x] h1)))
set_option maxRecDepth 100000 in
theorem xa_6n {E : zE} {n d : Nat} {h h1 : zH} {x : Int32} {u1 : Option Value} (ha : zat h.1 84 = some (.inr (.inl (12, [none, some (some 85), some (some 86), some (some 87), some (some 88), some (some 89), none, none, some (some 90), none, none, none, none, none, none, some (some 91), none, some (some 92), some (some 93)])))) (e1 : zex E n d 238 0 [some (.ref 84), some (.retAddr 42)] [] h = some (.inl (some (.int x)), h1)) : zex E (n + 4) (d + 1) 259 6 [some (.ref 84), u1] [.int 0] h = zex E n (d + 1) 259 62 [some (.ref 84), u1] [.int x] h1 :=
  ((zx1 zfq259_6).trans rfl : zex E (n + 4) (d + 1) 259 6 [some (.ref 84), u1] [.int 0] h = zex E (n + 3) (d + 1) 259 56 [some (.ref 84), u1] [] h).trans (((zx1 zfq259_56).trans rfl : zex E (n + 3) (d + 1) 259 56 [some (.ref 84), u1] [] h = zex E (n + 2) (d + 1) 259 57 [some (.ref 84), u1] [.ref 84] h).trans (((zx1 zfq259_57).trans rfl : zex E (n + 2) (d + 1) 259 57 [some (.ref 84), u1] [.ref 84] h = zex E (n + 1) (d + 1) 259 59 [some (.ref 84), u1] [.retAddr 42, .ref 84] h).trans ((zcvg (as := [.retAddr 42]) (r := []) zfq259_59 znq238 rfl ha rfl e1 : zex E (n + 1) (d + 1) 259 59 [some (.ref 84), u1] [.retAddr 42, .ref 84] h = zex E n (d + 1) 259 62 [some (.ref 84), u1] [.int x] h1))))
set_option maxRecDepth 100000 in
theorem xa_30 {E : zE} {n d : Nat} {h h1 : zH} {x : Int32} {u1 : Option Value} (ha : zat h.1 84 = some (.inr (.inl (12, [none, some (some 85), some (some 86), some (some 87), some (some 88), some (some 89), none, none, some (some 90), none, none, none, none, none, none, some (some 91), none, some (some 92), some (some 93)])))) (e1 : zex E n d 261 0 [some (.ref 84)] [] h = some (.inl (some (.int x)), h1)) : zex E (n + 2) (d + 1) 259 30 [some (.ref 84), u1] [] h = zex E n (d + 1) 259 34 [some (.ref 84), u1] [.int x] h1 :=
  ((zx1 zfq259_30).trans rfl : zex E (n + 2) (d + 1) 259 30 [some (.ref 84), u1] [] h = zex E (n + 1) (d + 1) 259 31 [some (.ref 84), u1] [.ref 84] h).trans ((zcvg (as := []) (r := []) zfq259_31 znq261 rfl ha rfl e1 : zex E (n + 1) (d + 1) 259 31 [some (.ref 84), u1] [.ref 84] h = zex E n (d + 1) 259 34 [some (.ref 84), u1] [.int x] h1))
set_option maxRecDepth 100000 in
theorem xa_34n {E : zE} {n d : Nat} {h : zH} {u1 : Option Value}   : zex E (n + 3) (d + 1) 259 34 [some (.ref 84), u1] [.int 0] h = some (.inl (some (.int 0)), h) :=
  ((zx1 zfq259_34).trans rfl : zex E (n + 3) (d + 1) 259 34 [some (.ref 84), u1] [.int 0] h = zex E (n + 2) (d + 1) 259 37 [some (.ref 84), u1] [] h).trans (((zx1 zfq259_37).trans rfl : zex E (n + 2) (d + 1) 259 37 [some (.ref 84), u1] [] h = zex E (n + 1) (d + 1) 259 38 [some (.ref 84), u1] [.int 0] h).trans (((zx1 zfq259_38).trans rfl : zex E (n + 1) (d + 1) 259 38 [some (.ref 84), u1] [.int 0] h = some (.inl (some (.int 0)), h))))
set_option maxRecDepth 100000 in
theorem xa_49 {E : zE} {n d : Nat} {h h1 : zH} {x : Int32} {u1 : Option Value} (ha : zat h.1 84 = some (.inr (.inl (12, [none, some (some 85), some (some 86), some (some 87), some (some 88), some (some 89), none, none, some (some 90), none, none, none, none, none, none, some (some 91), none, some (some 92), some (some 93)])))) (hx : x = 0 ∨ x = 1) (e1 : zex E (n + 1) d 239 0 [some (.ref 84), some (.int 41)] [] h = some (.inl (some (.int x)), h1)) : zex E (n + 4) (d + 1) 259 49 [some (.ref 84), u1] [] h = some (.inl (some (.int x)), h1) :=
  ((zx1 zfq259_49).trans rfl : zex E (n + 4) (d + 1) 259 49 [some (.ref 84), u1] [] h = zex E (n + 3) (d + 1) 259 50 [some (.ref 84), u1] [.ref 84] h).trans (((zx1 zfq259_50).trans rfl : zex E (n + 3) (d + 1) 259 50 [some (.ref 84), u1] [.ref 84] h = zex E (n + 2) (d + 1) 259 52 [some (.ref 84), u1] [.int 41, .ref 84] h).trans ((zcvg (as := [.int 41]) (r := []) zfq259_52 znq239 rfl ha rfl e1 : zex E (n + 2) (d + 1) 259 52 [some (.ref 84), u1] [.int 41, .ref 84] h = zex E (n + 1) (d + 1) 259 55 [some (.ref 84), u1] [.int x] h1).trans (((zx1 zfq259_55).trans (by rcases hx with rfl | rfl <;> rfl) : zex E (n + 1) (d + 1) 259 55 [some (.ref 84), u1] [.int x] h1 = some (.inl (some (.int x)), h1)))))
set_option maxRecDepth 100000 in
theorem xa_62n {E : zE} {n d : Nat} {h h1 : zH} {x : Int32} {u1 : Option Value} (ha : zat h.1 84 = some (.inr (.inl (12, [none, some (some 85), some (some 86), some (some 87), some (some 88), some (some 89), none, none, some (some 90), none, none, none, none, none, none, some (some 91), none, some (some 92), some (some 93)])))) (e1 : zex E n d 258 0 [some (.ref 84), none, none] [] h = some (.inl (some (.int x)), h1)) : zex E (n + 3) (d + 1) 259 62 [some (.ref 84), u1] [.int 0] h = zex E n (d + 1) 259 118 [some (.ref 84), u1] [.int x] h1 :=
  ((zx1 zfq259_62).trans rfl : zex E (n + 3) (d + 1) 259 62 [some (.ref 84), u1] [.int 0] h = zex E (n + 2) (d + 1) 259 114 [some (.ref 84), u1] [] h).trans (((zx1 zfq259_114).trans rfl : zex E (n + 2) (d + 1) 259 114 [some (.ref 84), u1] [] h = zex E (n + 1) (d + 1) 259 115 [some (.ref 84), u1] [.ref 84] h).trans ((zcvg (as := []) (r := []) zfq259_115 znq258 rfl ha rfl e1 : zex E (n + 1) (d + 1) 259 115 [some (.ref 84), u1] [.ref 84] h = zex E n (d + 1) 259 118 [some (.ref 84), u1] [.int x] h1)))
set_option maxRecDepth 100000 in
theorem xa_86 {E : zE} {n d : Nat} {h h1 : zH} {x : Int32} {u1 : Option Value} (ha : zat h.1 84 = some (.inr (.inl (12, [none, some (some 85), some (some 86), some (some 87), some (some 88), some (some 89), none, none, some (some 90), none, none, none, none, none, none, some (some 91), none, some (some 92), some (some 93)])))) (e1 : zex E n d 259 0 [some (.ref 84), none] [] h = some (.inl (some (.int x)), h1)) : zex E (n + 2) (d + 1) 259 86 [some (.ref 84), u1] [] h = zex E n (d + 1) 259 90 [some (.ref 84), u1] [.int x] h1 :=
  ((zx1 zfq259_86).trans rfl : zex E (n + 2) (d + 1) 259 86 [some (.ref 84), u1] [] h = zex E (n + 1) (d + 1) 259 87 [some (.ref 84), u1] [.ref 84] h).trans ((zcvg (as := []) (r := []) zfq259_87 znq259 rfl ha rfl e1 : zex E (n + 1) (d + 1) 259 87 [some (.ref 84), u1] [.ref 84] h = zex E n (d + 1) 259 90 [some (.ref 84), u1] [.int x] h1))
set_option maxRecDepth 100000 in
theorem xa_90n {E : zE} {n d : Nat} {h : zH} {u1 : Option Value}   : zex E (n + 3) (d + 1) 259 90 [some (.ref 84), u1] [.int 0] h = some (.inl (some (.int 0)), h) :=
  ((zx1 zfq259_90).trans rfl : zex E (n + 3) (d + 1) 259 90 [some (.ref 84), u1] [.int 0] h = zex E (n + 2) (d + 1) 259 93 [some (.ref 84), u1] [] h).trans (((zx1 zfq259_93).trans rfl : zex E (n + 2) (d + 1) 259 93 [some (.ref 84), u1] [] h = zex E (n + 1) (d + 1) 259 94 [some (.ref 84), u1] [.int 0] h).trans (((zx1 zfq259_94).trans rfl : zex E (n + 1) (d + 1) 259 94 [some (.ref 84), u1] [.int 0] h = some (.inl (some (.int 0)), h))))
set_option maxRecDepth 100000 in
theorem xa_105 {E : zE} {n d : Nat} {h h1 : zH} {u1 : Option Value} (ha : zat h.1 84 = some (.inr (.inl (12, [none, some (some 85), some (some 86), some (some 87), some (some 88), some (some 89), none, none, some (some 90), none, none, none, none, none, none, some (some 91), none, some (some 92), some (some 93)])))) (e1 : zex E (n + 2) d 255 0 [some (.ref 84), some (.int 12), some (.int 0)] [] h = some (.inl none, h1)) : zex E (n + 6) (d + 1) 259 105 [some (.ref 84), u1] [] h = some (.inl (some (.int 1)), h1) :=
  ((zx1 zfq259_105).trans rfl : zex E (n + 6) (d + 1) 259 105 [some (.ref 84), u1] [] h = zex E (n + 5) (d + 1) 259 106 [some (.ref 84), u1] [.ref 84] h).trans (((zx1 zfq259_106).trans rfl : zex E (n + 5) (d + 1) 259 106 [some (.ref 84), u1] [.ref 84] h = zex E (n + 4) (d + 1) 259 108 [some (.ref 84), u1] [.int 12, .ref 84] h).trans (((zx1 zfq259_108).trans rfl : zex E (n + 4) (d + 1) 259 108 [some (.ref 84), u1] [.int 12, .ref 84] h = zex E (n + 3) (d + 1) 259 109 [some (.ref 84), u1] [.int 0, .int 12, .ref 84] h).trans ((zcvg (as := [.int 12, .int 0]) (r := []) zfq259_109 znq255 rfl ha rfl e1 : zex E (n + 3) (d + 1) 259 109 [some (.ref 84), u1] [.int 0, .int 12, .ref 84] h = zex E (n + 2) (d + 1) 259 112 [some (.ref 84), u1] [] h1).trans (((zx1 zfq259_112).trans rfl : zex E (n + 2) (d + 1) 259 112 [some (.ref 84), u1] [] h1 = zex E (n + 1) (d + 1) 259 113 [some (.ref 84), u1] [.int 1] h1).trans (((zx1 zfq259_113).trans rfl : zex E (n + 1) (d + 1) 259 113 [some (.ref 84), u1] [.int 1] h1 = some (.inl (some (.int 1)), h1)))))))
set_option maxRecDepth 100000 in
theorem xa_118y {E : zE} {n d : Nat} {h : zH} {u1 : Option Value}   : zex E (n + 3) (d + 1) 259 118 [some (.ref 84), u1] [.int 1] h = some (.inl (some (.int 1)), h) :=
  ((zx1 zfq259_118).trans rfl : zex E (n + 3) (d + 1) 259 118 [some (.ref 84), u1] [.int 1] h = zex E (n + 2) (d + 1) 259 121 [some (.ref 84), u1] [] h).trans (((zx1 zfq259_121).trans rfl : zex E (n + 2) (d + 1) 259 121 [some (.ref 84), u1] [] h = zex E (n + 1) (d + 1) 259 122 [some (.ref 84), u1] [.int 1] h).trans (((zx1 zfq259_122).trans rfl : zex E (n + 1) (d + 1) 259 122 [some (.ref 84), u1] [.int 1] h = some (.inl (some (.int 1)), h))))
set_option maxRecDepth 100000 in
theorem xa_118n {E : zE} {n d : Nat} {h h1 : zH} {x : Int32} {u1 : Option Value} (ha : zat h.1 84 = some (.inr (.inl (12, [none, some (some 85), some (some 86), some (some 87), some (some 88), some (some 89), none, none, some (some 90), none, none, none, none, none, none, some (some 91), none, some (some 92), some (some 93)])))) (e1 : zex E n d 257 0 [some (.ref 84)] [] h = some (.inl (some (.int x)), h1)) : zex E (n + 3) (d + 1) 259 118 [some (.ref 84), u1] [.int 0] h = zex E n (d + 1) 259 127 [some (.ref 84), u1] [.int x] h1 :=
  ((zx1 zfq259_118).trans rfl : zex E (n + 3) (d + 1) 259 118 [some (.ref 84), u1] [.int 0] h = zex E (n + 2) (d + 1) 259 123 [some (.ref 84), u1] [] h).trans (((zx1 zfq259_123).trans rfl : zex E (n + 2) (d + 1) 259 123 [some (.ref 84), u1] [] h = zex E (n + 1) (d + 1) 259 124 [some (.ref 84), u1] [.ref 84] h).trans ((zcvg (as := []) (r := []) zfq259_124 znq257 rfl ha rfl e1 : zex E (n + 1) (d + 1) 259 124 [some (.ref 84), u1] [.ref 84] h = zex E n (d + 1) 259 127 [some (.ref 84), u1] [.int x] h1)))
set_option maxRecDepth 100000 in
theorem xa_127n {E : zE} {n d : Nat} {h : zH} {u1 : Option Value}   : zex E (n + 3) (d + 1) 259 127 [some (.ref 84), u1] [.int 0] h = some (.inl (some (.int 0)), h) :=
  ((zx1 zfq259_127).trans rfl : zex E (n + 3) (d + 1) 259 127 [some (.ref 84), u1] [.int 0] h = zex E (n + 2) (d + 1) 259 130 [some (.ref 84), u1] [] h).trans (((zx1 zfq259_130).trans rfl : zex E (n + 2) (d + 1) 259 130 [some (.ref 84), u1] [] h = zex E (n + 1) (d + 1) 259 131 [some (.ref 84), u1] [.int 0] h).trans (((zx1 zfq259_131).trans rfl : zex E (n + 1) (d + 1) 259 131 [some (.ref 84), u1] [.int 0] h = some (.inl (some (.int 0)), h))))
set_option maxRecDepth 100000 in
theorem xa_127y {E : zE} {n d : Nat} {h h1 : zH} {x : Int32} {u1 : Option Value} (ha : zat h.1 84 = some (.inr (.inl (12, [none, some (some 85), some (some 86), some (some 87), some (some 88), some (some 89), none, none, some (some 90), none, none, none, none, none, none, some (some 91), none, some (some 92), some (some 93)])))) (e1 : zex E n d 239 0 [some (.ref 84), some (.int 60)] [] h = some (.inl (some (.int x)), h1)) : zex E (n + 4) (d + 1) 259 127 [some (.ref 84), u1] [.int 1] h = zex E n (d + 1) 259 138 [some (.ref 84), u1] [.int x] h1 :=
  ((zx1 zfq259_127).trans rfl : zex E (n + 4) (d + 1) 259 127 [some (.ref 84), u1] [.int 1] h = zex E (n + 3) (d + 1) 259 132 [some (.ref 84), u1] [] h).trans (((zx1 zfq259_132).trans rfl : zex E (n + 3) (d + 1) 259 132 [some (.ref 84), u1] [] h = zex E (n + 2) (d + 1) 259 133 [some (.ref 84), u1] [.ref 84] h).trans (((zx1 zfq259_133).trans rfl : zex E (n + 2) (d + 1) 259 133 [some (.ref 84), u1] [.ref 84] h = zex E (n + 1) (d + 1) 259 135 [some (.ref 84), u1] [.int 60, .ref 84] h).trans ((zcvg (as := [.int 60]) (r := []) zfq259_135 znq239 rfl ha rfl e1 : zex E (n + 1) (d + 1) 259 135 [some (.ref 84), u1] [.int 60, .ref 84] h = zex E n (d + 1) 259 138 [some (.ref 84), u1] [.int x] h1))))
set_option maxRecDepth 100000 in
theorem xa_138y {E : zE} {n d : Nat} {h h1 : zH} {x : Int32} {u1 : Option Value} (ha : zat h.1 84 = some (.inr (.inl (12, [none, some (some 85), some (some 86), some (some 87), some (some 88), some (some 89), none, none, some (some 90), none, none, none, none, none, none, some (some 91), none, some (some 92), some (some 93)])))) (e1 : zex E n d 257 0 [some (.ref 84)] [] h = some (.inl (some (.int x)), h1)) : zex E (n + 5) (d + 1) 259 138 [some (.ref 84), u1] [.int 1] h = zex E n (d + 1) 259 156 [some (.ref 84), some (.int 1)] [.int x] h1 :=
  ((zx1 zfq259_138).trans rfl : zex E (n + 5) (d + 1) 259 138 [some (.ref 84), u1] [.int 1] h = zex E (n + 4) (d + 1) 259 139 [some (.ref 84), some (.int 1)] [] h).trans (((zx1 zfq259_139).trans rfl : zex E (n + 4) (d + 1) 259 139 [some (.ref 84), some (.int 1)] [] h = zex E (n + 3) (d + 1) 259 140 [some (.ref 84), some (.int 1)] [.int 1] h).trans (((zx1 zfq259_140).trans rfl : zex E (n + 3) (d + 1) 259 140 [some (.ref 84), some (.int 1)] [.int 1] h = zex E (n + 2) (d + 1) 259 152 [some (.ref 84), some (.int 1)] [] h).trans (((zx1 zfq259_152).trans rfl : zex E (n + 2) (d + 1) 259 152 [some (.ref 84), some (.int 1)] [] h = zex E (n + 1) (d + 1) 259 153 [some (.ref 84), some (.int 1)] [.ref 84] h).trans ((zcvg (as := []) (r := []) zfq259_153 znq257 rfl ha rfl e1 : zex E (n + 1) (d + 1) 259 153 [some (.ref 84), some (.int 1)] [.ref 84] h = zex E n (d + 1) 259 156 [some (.ref 84), some (.int 1)] [.int x] h1)))))
set_option maxRecDepth 100000 in
theorem xa_138n {E : zE} {n d : Nat} {h h1 : zH} {x : Int32} {u1 : Option Value} (ha : zat h.1 84 = some (.inr (.inl (12, [none, some (some 85), some (some 86), some (some 87), some (some 88), some (some 89), none, none, some (some 90), none, none, none, none, none, none, some (some 91), none, some (some 92), some (some 93)])))) (e1 : zex E n d 239 0 [some (.ref 84), some (.int 62)] [] h = some (.inl (some (.int x)), h1)) : zex E (n + 6) (d + 1) 259 138 [some (.ref 84), u1] [.int 0] h = zex E n (d + 1) 259 149 [some (.ref 84), some (.int 0)] [.int x] h1 :=
  ((zx1 zfq259_138).trans rfl : zex E (n + 6) (d + 1) 259 138 [some (.ref 84), u1] [.int 0] h = zex E (n + 5) (d + 1) 259 139 [some (.ref 84), some (.int 0)] [] h).trans (((zx1 zfq259_139).trans rfl : zex E (n + 5) (d + 1) 259 139 [some (.ref 84), some (.int 0)] [] h = zex E (n + 4) (d + 1) 259 140 [some (.ref 84), some (.int 0)] [.int 0] h).trans (((zx1 zfq259_140).trans rfl : zex E (n + 4) (d + 1) 259 140 [some (.ref 84), some (.int 0)] [.int 0] h = zex E (n + 3) (d + 1) 259 143 [some (.ref 84), some (.int 0)] [] h).trans (((zx1 zfq259_143).trans rfl : zex E (n + 3) (d + 1) 259 143 [some (.ref 84), some (.int 0)] [] h = zex E (n + 2) (d + 1) 259 144 [some (.ref 84), some (.int 0)] [.ref 84] h).trans (((zx1 zfq259_144).trans rfl : zex E (n + 2) (d + 1) 259 144 [some (.ref 84), some (.int 0)] [.ref 84] h = zex E (n + 1) (d + 1) 259 146 [some (.ref 84), some (.int 0)] [.int 62, .ref 84] h).trans ((zcvg (as := [.int 62]) (r := []) zfq259_146 znq239 rfl ha rfl e1 : zex E (n + 1) (d + 1) 259 146 [some (.ref 84), some (.int 0)] [.int 62, .ref 84] h = zex E n (d + 1) 259 149 [some (.ref 84), some (.int 0)] [.int x] h1))))))
set_option maxRecDepth 100000 in
theorem xa_149n {E : zE} {n d : Nat} {h : zH} {u1 : Option Value}   : zex E (n + 3) (d + 1) 259 149 [some (.ref 84), u1] [.int 0] h = some (.inl (some (.int 0)), h) :=
  ((zx1 zfq259_149).trans rfl : zex E (n + 3) (d + 1) 259 149 [some (.ref 84), u1] [.int 0] h = zex E (n + 2) (d + 1) 259 159 [some (.ref 84), u1] [] h).trans (((zx1 zfq259_159).trans rfl : zex E (n + 2) (d + 1) 259 159 [some (.ref 84), u1] [] h = zex E (n + 1) (d + 1) 259 160 [some (.ref 84), u1] [.int 0] h).trans (((zx1 zfq259_160).trans rfl : zex E (n + 1) (d + 1) 259 160 [some (.ref 84), u1] [.int 0] h = some (.inl (some (.int 0)), h))))
set_option maxRecDepth 100000 in
theorem xa_149y {E : zE} {n d : Nat} {h h1 : zH} {x : Int32} {u1 : Option Value} (ha : zat h.1 84 = some (.inr (.inl (12, [none, some (some 85), some (some 86), some (some 87), some (some 88), some (some 89), none, none, some (some 90), none, none, none, none, none, none, some (some 91), none, some (some 92), some (some 93)])))) (e1 : zex E n d 257 0 [some (.ref 84)] [] h = some (.inl (some (.int x)), h1)) : zex E (n + 3) (d + 1) 259 149 [some (.ref 84), u1] [.int 1] h = zex E n (d + 1) 259 156 [some (.ref 84), u1] [.int x] h1 :=
  ((zx1 zfq259_149).trans rfl : zex E (n + 3) (d + 1) 259 149 [some (.ref 84), u1] [.int 1] h = zex E (n + 2) (d + 1) 259 152 [some (.ref 84), u1] [] h).trans (((zx1 zfq259_152).trans rfl : zex E (n + 2) (d + 1) 259 152 [some (.ref 84), u1] [] h = zex E (n + 1) (d + 1) 259 153 [some (.ref 84), u1] [.ref 84] h).trans ((zcvg (as := []) (r := []) zfq259_153 znq257 rfl ha rfl e1 : zex E (n + 1) (d + 1) 259 153 [some (.ref 84), u1] [.ref 84] h = zex E n (d + 1) 259 156 [some (.ref 84), u1] [.int x] h1)))
set_option maxRecDepth 100000 in
theorem xa_156n {E : zE} {n d : Nat} {h : zH} {u1 : Option Value}   : zex E (n + 3) (d + 1) 259 156 [some (.ref 84), u1] [.int 0] h = some (.inl (some (.int 0)), h) :=
  ((zx1 zfq259_156).trans rfl : zex E (n + 3) (d + 1) 259 156 [some (.ref 84), u1] [.int 0] h = zex E (n + 2) (d + 1) 259 159 [some (.ref 84), u1] [] h).trans (((zx1 zfq259_159).trans rfl : zex E (n + 2) (d + 1) 259 159 [some (.ref 84), u1] [] h = zex E (n + 1) (d + 1) 259 160 [some (.ref 84), u1] [.int 0] h).trans (((zx1 zfq259_160).trans rfl : zex E (n + 1) (d + 1) 259 160 [some (.ref 84), u1] [.int 0] h = some (.inl (some (.int 0)), h))))
set_option maxRecDepth 100000 in
theorem xa_156y0 {E : zE} {n d : Nat} {h h1 : zH}  (ha : zat h.1 84 = some (.inr (.inl (12, [none, some (some 85), some (some 86), some (some 87), some (some 88), some (some 89), none, none, some (some 90), none, none, none, none, none, none, some (some 91), none, some (some 92), some (some 93)])))) (e1 : zex E (n + 2) d 255 0 [some (.ref 84), some (.int 11), some (.int 0)] [] h = some (.inl none, h1)) : zex E (n + 9) (d + 1) 259 156 [some (.ref 84), some (.int 0)] [.int 1] h = some (.inl (some (.int 1)), h1) :=
  ((zx1 zfq259_156).trans rfl : zex E (n + 9) (d + 1) 259 156 [some (.ref 84), some (.int 0)] [.int 1] h = zex E (n + 8) (d + 1) 259 161 [some (.ref 84), some (.int 0)] [] h).trans (((zx1 zfq259_161).trans rfl : zex E (n + 8) (d + 1) 259 161 [some (.ref 84), some (.int 0)] [] h = zex E (n + 7) (d + 1) 259 162 [some (.ref 84), some (.int 0)] [.ref 84] h).trans (((zx1 zfq259_162).trans rfl : zex E (n + 7) (d + 1) 259 162 [some (.ref 84), some (.int 0)] [.ref 84] h = zex E (n + 6) (d + 1) 259 163 [some (.ref 84), some (.int 0)] [.int 0, .ref 84] h).trans (((zx1 zfq259_163).trans rfl : zex E (n + 6) (d + 1) 259 163 [some (.ref 84), some (.int 0)] [.int 0, .ref 84] h = zex E (n + 5) (d + 1) 259 171 [some (.ref 84), some (.int 0)] [.ref 84] h).trans (((zx1 zfq259_171).trans rfl : zex E (n + 5) (d + 1) 259 171 [some (.ref 84), some (.int 0)] [.ref 84] h = zex E (n + 4) (d + 1) 259 173 [some (.ref 84), some (.int 0)] [.int 11, .ref 84] h).trans (((zx1 zfq259_173).trans rfl : zex E (n + 4) (d + 1) 259 173 [some (.ref 84), some (.int 0)] [.int 11, .ref 84] h = zex E (n + 3) (d + 1) 259 174 [some (.ref 84), some (.int 0)] [.int 0, .int 11, .ref 84] h).trans ((zcvg (as := [.int 11, .int 0]) (r := []) zfq259_174 znq255 rfl ha rfl e1 : zex E (n + 3) (d + 1) 259 174 [some (.ref 84), some (.int 0)] [.int 0, .int 11, .ref 84] h = zex E (n + 2) (d + 1) 259 177 [some (.ref 84), some (.int 0)] [] h1).trans (((zx1 zfq259_177).trans rfl : zex E (n + 2) (d + 1) 259 177 [some (.ref 84), some (.int 0)] [] h1 = zex E (n + 1) (d + 1) 259 178 [some (.ref 84), some (.int 0)] [.int 1] h1).trans (((zx1 zfq259_178).trans rfl : zex E (n + 1) (d + 1) 259 178 [some (.ref 84), some (.int 0)] [.int 1] h1 = some (.inl (some (.int 1)), h1))))))))))
set_option maxRecDepth 100000 in
theorem xa_156y1 {E : zE} {n d : Nat} {h h1 : zH}  (ha : zat h.1 84 = some (.inr (.inl (12, [none, some (some 85), some (some 86), some (some 87), some (some 88), some (some 89), none, none, some (some 90), none, none, none, none, none, none, some (some 91), none, some (some 92), some (some 93)])))) (e1 : zex E (n + 2) d 255 0 [some (.ref 84), some (.int 10), some (.int 0)] [] h = some (.inl none, h1)) : zex E (n + 10) (d + 1) 259 156 [some (.ref 84), some (.int 1)] [.int 1] h = some (.inl (some (.int 1)), h1) :=
  ((zx1 zfq259_156).trans rfl : zex E (n + 10) (d + 1) 259 156 [some (.ref 84), some (.int 1)] [.int 1] h = zex E (n + 9) (d + 1) 259 161 [some (.ref 84), some (.int 1)] [] h).trans (((zx1 zfq259_161).trans rfl : zex E (n + 9) (d + 1) 259 161 [some (.ref 84), some (.int 1)] [] h = zex E (n + 8) (d + 1) 259 162 [some (.ref 84), some (.int 1)] [.ref 84] h).trans (((zx1 zfq259_162).trans rfl : zex E (n + 8) (d + 1) 259 162 [some (.ref 84), some (.int 1)] [.ref 84] h = zex E (n + 7) (d + 1) 259 163 [some (.ref 84), some (.int 1)] [.int 1, .ref 84] h).trans (((zx1 zfq259_163).trans rfl : zex E (n + 7) (d + 1) 259 163 [some (.ref 84), some (.int 1)] [.int 1, .ref 84] h = zex E (n + 6) (d + 1) 259 166 [some (.ref 84), some (.int 1)] [.ref 84] h).trans (((zx1 zfq259_166).trans rfl : zex E (n + 6) (d + 1) 259 166 [some (.ref 84), some (.int 1)] [.ref 84] h = zex E (n + 5) (d + 1) 259 168 [some (.ref 84), some (.int 1)] [.int 10, .ref 84] h).trans (((zx1 zfq259_168).trans rfl : zex E (n + 5) (d + 1) 259 168 [some (.ref 84), some (.int 1)] [.int 10, .ref 84] h = zex E (n + 4) (d + 1) 259 173 [some (.ref 84), some (.int 1)] [.int 10, .ref 84] h).trans (((zx1 zfq259_173).trans rfl : zex E (n + 4) (d + 1) 259 173 [some (.ref 84), some (.int 1)] [.int 10, .ref 84] h = zex E (n + 3) (d + 1) 259 174 [some (.ref 84), some (.int 1)] [.int 0, .int 10, .ref 84] h).trans ((zcvg (as := [.int 10, .int 0]) (r := []) zfq259_174 znq255 rfl ha rfl e1 : zex E (n + 3) (d + 1) 259 174 [some (.ref 84), some (.int 1)] [.int 0, .int 10, .ref 84] h = zex E (n + 2) (d + 1) 259 177 [some (.ref 84), some (.int 1)] [] h1).trans (((zx1 zfq259_177).trans rfl : zex E (n + 2) (d + 1) 259 177 [some (.ref 84), some (.int 1)] [] h1 = zex E (n + 1) (d + 1) 259 178 [some (.ref 84), some (.int 1)] [.int 1] h1).trans (((zx1 zfq259_178).trans rfl : zex E (n + 1) (d + 1) 259 178 [some (.ref 84), some (.int 1)] [.int 1] h1 = some (.inl (some (.int 1)), h1)))))))))))
set_option maxRecDepth 100000 in
theorem xl_0 {E : zE} {n d : Nat} {h h1 : zH} {x : Int32} (ha : zat h.1 84 = some (.inr (.inl (12, [none, some (some 85), some (some 86), some (some 87), some (some 88), some (some 89), none, none, some (some 90), none, none, none, none, none, none, some (some 91), none, some (some 92), some (some 93)])))) (e1 : zex E n d 259 0 [some (.ref 84), none] [] h = some (.inl (some (.int x)), h1)) : zex E (n + 2) (d + 1) 260 0 [some (.ref 84)] [] h = zex E n (d + 1) 260 4 [some (.ref 84)] [.int x] h1 :=
  ((zx1 zfq260_0).trans rfl : zex E (n + 2) (d + 1) 260 0 [some (.ref 84)] [] h = zex E (n + 1) (d + 1) 260 1 [some (.ref 84)] [.ref 84] h).trans ((zcvg (as := []) (r := []) zfq260_1 znq259 rfl ha rfl e1 : zex E (n + 1) (d + 1) 260 1 [some (.ref 84)] [.ref 84] h = zex E n (d + 1) 260 4 [some (.ref 84)] [.int x] h1))
set_option maxRecDepth 100000 in
theorem xl_4n {E : zE} {n d : Nat} {h : zH}    : zex E (n + 3) (d + 1) 260 4 [some (.ref 84)] [.int 0] h = some (.inl (some (.int 0)), h) :=
  ((zx1 zfq260_4).trans rfl : zex E (n + 3) (d + 1) 260 4 [some (.ref 84)] [.int 0] h = zex E (n + 2) (d + 1) 260 7 [some (.ref 84)] [] h).trans (((zx1 zfq260_7).trans rfl : zex E (n + 2) (d + 1) 260 7 [some (.ref 84)] [] h = zex E (n + 1) (d + 1) 260 8 [some (.ref 84)] [.int 0] h).trans (((zx1 zfq260_8).trans rfl : zex E (n + 1) (d + 1) 260 8 [some (.ref 84)] [.int 0] h = some (.inl (some (.int 0)), h))))
set_option maxRecDepth 100000 in
theorem xl_4y {E : zE} {n d : Nat} {h : zH}    : zex E (n + 1) (d + 1) 260 4 [some (.ref 84)] [.int 1] h = zex E n (d + 1) 260 9 [some (.ref 84)] [] h :=
  ((zx1 zfq260_4).trans rfl : zex E (n + 1) (d + 1) 260 4 [some (.ref 84)] [.int 1] h = zex E n (d + 1) 260 9 [some (.ref 84)] [] h)
set_option maxRecDepth 100000 in
theorem xl_9 {E : zE} {n d : Nat} {h h1 : zH} {x : Int32} (ha : zat h.1 84 = some (.inr (.inl (12, [none, some (some 85), some (some 86), some (some 87), some (some 88), some (some 89), none, none, some (some 90), none, none, none, none, none, none, some (some 91), none, some (some 92), some (some 93)])))) (e1 : zex E n d 238 0 [some (.ref 84), some (.retAddr 46)] [] h = some (.inl (some (.int x)), h1)) : zex E (n + 3) (d + 1) 260 9 [some (.ref 84)] [] h = zex E n (d + 1) 260 15 [some (.ref 84)] [.int x] h1 :=
  ((zx1 zfq260_9).trans rfl : zex E (n + 3) (d + 1) 260 9 [some (.ref 84)] [] h = zex E (n + 2) (d + 1) 260 10 [some (.ref 84)] [.ref 84] h).trans (((zx1 zfq260_10).trans rfl : zex E (n + 2) (d + 1) 260 10 [some (.ref 84)] [.ref 84] h = zex E (n + 1) (d + 1) 260 12 [some (.ref 84)] [.retAddr 46, .ref 84] h).trans ((zcvg (as := [.retAddr 46]) (r := []) zfq260_12 znq238 rfl ha rfl e1 : zex E (n + 1) (d + 1) 260 12 [some (.ref 84)] [.retAddr 46, .ref 84] h = zex E n (d + 1) 260 15 [some (.ref 84)] [.int x] h1)))
set_option maxRecDepth 100000 in
theorem xl_15n {E : zE} {n d : Nat} {h : zH}    : zex E (n + 3) (d + 1) 260 15 [some (.ref 84)] [.int 0] h = some (.inl (some (.int 1)), h) :=
  ((zx1 zfq260_15).trans rfl : zex E (n + 3) (d + 1) 260 15 [some (.ref 84)] [.int 0] h = zex E (n + 2) (d + 1) 260 37 [some (.ref 84)] [] h).trans (((zx1 zfq260_37).trans rfl : zex E (n + 2) (d + 1) 260 37 [some (.ref 84)] [] h = zex E (n + 1) (d + 1) 260 38 [some (.ref 84)] [.int 1] h).trans (((zx1 zfq260_38).trans rfl : zex E (n + 1) (d + 1) 260 38 [some (.ref 84)] [.int 1] h = some (.inl (some (.int 1)), h))))
set_option maxRecDepth 100000 in
theorem xl_15y {E : zE} {n d : Nat} {h h1 : zH} {x : Int32} (ha : zat h.1 84 = some (.inr (.inl (12, [none, some (some 85), some (some 86), some (some 87), some (some 88), some (some 89), none, none, some (some 90), none, none, none, none, none, none, some (some 91), none, some (some 92), some (some 93)])))) (e1 : zex E n d 259 0 [some (.ref 84), none] [] h = some (.inl (some (.int x)), h1)) : zex E (n + 3) (d + 1) 260 15 [some (.ref 84)] [.int 1] h = zex E n (d + 1) 260 22 [some (.ref 84)] [.int x] h1 :=
  ((zx1 zfq260_15).trans rfl : zex E (n + 3) (d + 1) 260 15 [some (.ref 84)] [.int 1] h = zex E (n + 2) (d + 1) 260 18 [some (.ref 84)] [] h).trans (((zx1 zfq260_18).trans rfl : zex E (n + 2) (d + 1) 260 18 [some (.ref 84)] [] h = zex E (n + 1) (d + 1) 260 19 [some (.ref 84)] [.ref 84] h).trans ((zcvg (as := []) (r := []) zfq260_19 znq259 rfl ha rfl e1 : zex E (n + 1) (d + 1) 260 19 [some (.ref 84)] [.ref 84] h = zex E n (d + 1) 260 22 [some (.ref 84)] [.int x] h1)))
set_option maxRecDepth 100000 in
theorem xl_22n {E : zE} {n d : Nat} {h : zH}    : zex E (n + 3) (d + 1) 260 22 [some (.ref 84)] [.int 0] h = some (.inl (some (.int 0)), h) :=
  ((zx1 zfq260_22).trans rfl : zex E (n + 3) (d + 1) 260 22 [some (.ref 84)] [.int 0] h = zex E (n + 2) (d + 1) 260 25 [some (.ref 84)] [] h).trans (((zx1 zfq260_25).trans rfl : zex E (n + 2) (d + 1) 260 25 [some (.ref 84)] [] h = zex E (n + 1) (d + 1) 260 26 [some (.ref 84)] [.int 0] h).trans (((zx1 zfq260_26).trans rfl : zex E (n + 1) (d + 1) 260 26 [some (.ref 84)] [.int 0] h = some (.inl (some (.int 0)), h))))
set_option maxRecDepth 100000 in
theorem xl_22y {E : zE} {n d : Nat} {h h1 : zH}  (ha : zat h.1 84 = some (.inr (.inl (12, [none, some (some 85), some (some 86), some (some 87), some (some 88), some (some 89), none, none, some (some 90), none, none, none, none, none, none, some (some 91), none, some (some 92), some (some 93)])))) (e1 : zex E (n + 1) d 255 0 [some (.ref 84), some (.int 13), some (.int 0)] [] h = some (.inl none, h1)) : zex E (n + 6) (d + 1) 260 22 [some (.ref 84)] [.int 1] h = zex E n (d + 1) 260 9 [some (.ref 84)] [] h1 :=
  ((zx1 zfq260_22).trans rfl : zex E (n + 6) (d + 1) 260 22 [some (.ref 84)] [.int 1] h = zex E (n + 5) (d + 1) 260 27 [some (.ref 84)] [] h).trans (((zx1 zfq260_27).trans rfl : zex E (n + 5) (d + 1) 260 27 [some (.ref 84)] [] h = zex E (n + 4) (d + 1) 260 28 [some (.ref 84)] [.ref 84] h).trans (((zx1 zfq260_28).trans rfl : zex E (n + 4) (d + 1) 260 28 [some (.ref 84)] [.ref 84] h = zex E (n + 3) (d + 1) 260 30 [some (.ref 84)] [.int 13, .ref 84] h).trans (((zx1 zfq260_30).trans rfl : zex E (n + 3) (d + 1) 260 30 [some (.ref 84)] [.int 13, .ref 84] h = zex E (n + 2) (d + 1) 260 31 [some (.ref 84)] [.int 0, .int 13, .ref 84] h).trans ((zcvg (as := [.int 13, .int 0]) (r := []) zfq260_31 znq255 rfl ha rfl e1 : zex E (n + 2) (d + 1) 260 31 [some (.ref 84)] [.int 0, .int 13, .ref 84] h = zex E (n + 1) (d + 1) 260 34 [some (.ref 84)] [] h1).trans (((zx1 zfq260_34).trans rfl : zex E (n + 1) (d + 1) 260 34 [some (.ref 84)] [] h1 = zex E n (d + 1) 260 9 [some (.ref 84)] [] h1))))))
set_option maxRecDepth 100000 in
theorem xc_0 {E : zE} {n d : Nat} {h h1 : zH} {x : Int32} (ha : zat h.1 84 = some (.inr (.inl (12, [none, some (some 85), some (some 86), some (some 87), some (some 88), some (some 89), none, none, some (some 90), none, none, none, none, none, none, some (some 91), none, some (some 92), some (some 93)])))) (e1 : zex E n d 260 0 [some (.ref 84)] [] h = some (.inl (some (.int x)), h1)) : zex E (n + 2) (d + 1) 261 0 [some (.ref 84)] [] h = zex E n (d + 1) 261 4 [some (.ref 84)] [.int x] h1 :=
  ((zx1 zfq261_0).trans rfl : zex E (n + 2) (d + 1) 261 0 [some (.ref 84)] [] h = zex E (n + 1) (d + 1) 261 1 [some (.ref 84)] [.ref 84] h).trans ((zcvg (as := []) (r := []) zfq261_1 znq260 rfl ha rfl e1 : zex E (n + 1) (d + 1) 261 1 [some (.ref 84)] [.ref 84] h = zex E n (d + 1) 261 4 [some (.ref 84)] [.int x] h1))
set_option maxRecDepth 100000 in
theorem xc_4n {E : zE} {n d : Nat} {h : zH}    : zex E (n + 3) (d + 1) 261 4 [some (.ref 84)] [.int 0] h = some (.inl (some (.int 0)), h) :=
  ((zx1 zfq261_4).trans rfl : zex E (n + 3) (d + 1) 261 4 [some (.ref 84)] [.int 0] h = zex E (n + 2) (d + 1) 261 7 [some (.ref 84)] [] h).trans (((zx1 zfq261_7).trans rfl : zex E (n + 2) (d + 1) 261 7 [some (.ref 84)] [] h = zex E (n + 1) (d + 1) 261 8 [some (.ref 84)] [.int 0] h).trans (((zx1 zfq261_8).trans rfl : zex E (n + 1) (d + 1) 261 8 [some (.ref 84)] [.int 0] h = some (.inl (some (.int 0)), h))))
set_option maxRecDepth 100000 in
theorem xc_4y {E : zE} {n d : Nat} {h : zH}    : zex E (n + 1) (d + 1) 261 4 [some (.ref 84)] [.int 1] h = zex E n (d + 1) 261 9 [some (.ref 84)] [] h :=
  ((zx1 zfq261_4).trans rfl : zex E (n + 1) (d + 1) 261 4 [some (.ref 84)] [.int 1] h = zex E n (d + 1) 261 9 [some (.ref 84)] [] h)
set_option maxRecDepth 100000 in
theorem xc_9 {E : zE} {n d : Nat} {h h1 : zH} {x : Int32} (ha : zat h.1 84 = some (.inr (.inl (12, [none, some (some 85), some (some 86), some (some 87), some (some 88), some (some 89), none, none, some (some 90), none, none, none, none, none, none, some (some 91), none, some (some 92), some (some 93)])))) (e1 : zex E n d 238 0 [some (.ref 84), some (.retAddr 47)] [] h = some (.inl (some (.int x)), h1)) : zex E (n + 3) (d + 1) 261 9 [some (.ref 84)] [] h = zex E n (d + 1) 261 15 [some (.ref 84)] [.int x] h1 :=
  ((zx1 zfq261_9).trans rfl : zex E (n + 3) (d + 1) 261 9 [some (.ref 84)] [] h = zex E (n + 2) (d + 1) 261 10 [some (.ref 84)] [.ref 84] h).trans (((zx1 zfq261_10).trans rfl : zex E (n + 2) (d + 1) 261 10 [some (.ref 84)] [.ref 84] h = zex E (n + 1) (d + 1) 261 12 [some (.ref 84)] [.retAddr 47, .ref 84] h).trans ((zcvg (as := [.retAddr 47]) (r := []) zfq261_12 znq238 rfl ha rfl e1 : zex E (n + 1) (d + 1) 261 12 [some (.ref 84)] [.retAddr 47, .ref 84] h = zex E n (d + 1) 261 15 [some (.ref 84)] [.int x] h1)))
set_option maxRecDepth 100000 in
theorem xc_15n {E : zE} {n d : Nat} {h : zH}    : zex E (n + 3) (d + 1) 261 15 [some (.ref 84)] [.int 0] h = some (.inl (some (.int 1)), h) :=
  ((zx1 zfq261_15).trans rfl : zex E (n + 3) (d + 1) 261 15 [some (.ref 84)] [.int 0] h = zex E (n + 2) (d + 1) 261 37 [some (.ref 84)] [] h).trans (((zx1 zfq261_37).trans rfl : zex E (n + 2) (d + 1) 261 37 [some (.ref 84)] [] h = zex E (n + 1) (d + 1) 261 38 [some (.ref 84)] [.int 1] h).trans (((zx1 zfq261_38).trans rfl : zex E (n + 1) (d + 1) 261 38 [some (.ref 84)] [.int 1] h = some (.inl (some (.int 1)), h))))
set_option maxRecDepth 100000 in
theorem xc_15y {E : zE} {n d : Nat} {h h1 : zH} {x : Int32} (ha : zat h.1 84 = some (.inr (.inl (12, [none, some (some 85), some (some 86), some (some 87), some (some 88), some (some 89), none, none, some (some 90), none, none, none, none, none, none, some (some 91), none, some (some 92), some (some 93)])))) (e1 : zex E n d 260 0 [some (.ref 84)] [] h = some (.inl (some (.int x)), h1)) : zex E (n + 3) (d + 1) 261 15 [some (.ref 84)] [.int 1] h = zex E n (d + 1) 261 22 [some (.ref 84)] [.int x] h1 :=
  ((zx1 zfq261_15).trans rfl : zex E (n + 3) (d + 1) 261 15 [some (.ref 84)] [.int 1] h = zex E (n + 2) (d + 1) 261 18 [some (.ref 84)] [] h).trans (((zx1 zfq261_18).trans rfl : zex E (n + 2) (d + 1) 261 18 [some (.ref 84)] [] h = zex E (n + 1) (d + 1) 261 19 [some (.ref 84)] [.ref 84] h).trans ((zcvg (as := []) (r := []) zfq261_19 znq260 rfl ha rfl e1 : zex E (n + 1) (d + 1) 261 19 [some (.ref 84)] [.ref 84] h = zex E n (d + 1) 261 22 [some (.ref 84)] [.int x] h1)))
set_option maxRecDepth 100000 in
theorem xc_22n {E : zE} {n d : Nat} {h : zH}    : zex E (n + 3) (d + 1) 261 22 [some (.ref 84)] [.int 0] h = some (.inl (some (.int 0)), h) :=
  ((zx1 zfq261_22).trans rfl : zex E (n + 3) (d + 1) 261 22 [some (.ref 84)] [.int 0] h = zex E (n + 2) (d + 1) 261 25 [some (.ref 84)] [] h).trans (((zx1 zfq261_25).trans rfl : zex E (n + 2) (d + 1) 261 25 [some (.ref 84)] [] h = zex E (n + 1) (d + 1) 261 26 [some (.ref 84)] [.int 0] h).trans (((zx1 zfq261_26).trans rfl : zex E (n + 1) (d + 1) 261 26 [some (.ref 84)] [.int 0] h = some (.inl (some (.int 0)), h))))
set_option maxRecDepth 100000 in
theorem xc_22y {E : zE} {n d : Nat} {h h1 : zH}  (ha : zat h.1 84 = some (.inr (.inl (12, [none, some (some 85), some (some 86), some (some 87), some (some 88), some (some 89), none, none, some (some 90), none, none, none, none, none, none, some (some 91), none, some (some 92), some (some 93)])))) (e1 : zex E (n + 1) d 255 0 [some (.ref 84), some (.int 14), some (.int 0)] [] h = some (.inl none, h1)) : zex E (n + 6) (d + 1) 261 22 [some (.ref 84)] [.int 1] h = zex E n (d + 1) 261 9 [some (.ref 84)] [] h1 :=
  ((zx1 zfq261_22).trans rfl : zex E (n + 6) (d + 1) 261 22 [some (.ref 84)] [.int 1] h = zex E (n + 5) (d + 1) 261 27 [some (.ref 84)] [] h).trans (((zx1 zfq261_27).trans rfl : zex E (n + 5) (d + 1) 261 27 [some (.ref 84)] [] h = zex E (n + 4) (d + 1) 261 28 [some (.ref 84)] [.ref 84] h).trans (((zx1 zfq261_28).trans rfl : zex E (n + 4) (d + 1) 261 28 [some (.ref 84)] [.ref 84] h = zex E (n + 3) (d + 1) 261 30 [some (.ref 84)] [.int 14, .ref 84] h).trans (((zx1 zfq261_30).trans rfl : zex E (n + 3) (d + 1) 261 30 [some (.ref 84)] [.int 14, .ref 84] h = zex E (n + 2) (d + 1) 261 31 [some (.ref 84)] [.int 0, .int 14, .ref 84] h).trans ((zcvg (as := [.int 14, .int 0]) (r := []) zfq261_31 znq255 rfl ha rfl e1 : zex E (n + 2) (d + 1) 261 31 [some (.ref 84)] [.int 0, .int 14, .ref 84] h = zex E (n + 1) (d + 1) 261 34 [some (.ref 84)] [] h1).trans (((zx1 zfq261_34).trans rfl : zex E (n + 1) (d + 1) 261 34 [some (.ref 84)] [] h1 = zex E n (d + 1) 261 9 [some (.ref 84)] [] h1))))))
set_option maxRecDepth 100000 in
theorem xw_8 {E : zE} {n d : Nat} {h : zH} {y : Int32} {u1 : Option Value} (ha : zat h.1 84 = some (.inr (.inl (12, [none, some (some 85), some (some 86), some (some 87), some (some 88), some (some 89), none, none, some (some 90), none, none, none, none, none, none, some (some 91), none, some (some 92), some (some 93)]))))  : zex E (n + 3) (d + 1) 262 8 [some (.ref 84), u1, some (.int y)] [] h = zex E n (d + 1) 262 13 [some (.ref 84), u1, some (.int y)] [.int y, .ref 85] h :=
  ((zx1 zfq262_8).trans rfl : zex E (n + 3) (d + 1) 262 8 [some (.ref 84), u1, some (.int y)] [] h = zex E (n + 2) (d + 1) 262 9 [some (.ref 84), u1, some (.int y)] [.ref 84] h).trans ((zgx zfq262_9 ha rfl : zex E (n + 2) (d + 1) 262 9 [some (.ref 84), u1, some (.int y)] [.ref 84] h = zex E (n + 1) (d + 1) 262 12 [some (.ref 84), u1, some (.int y)] [.ref 85] h).trans (((zx1 zfq262_12).trans rfl : zex E (n + 1) (d + 1) 262 12 [some (.ref 84), u1, some (.int y)] [.ref 85] h = zex E n (d + 1) 262 13 [some (.ref 84), u1, some (.int y)] [.int y, .ref 85] h)))
set_option maxRecDepth 100000 in
theorem xw_78 {E : zE} {n d : Nat} {h h1 : zH} {x y : Int32} {u1 : Option Value} (ha : zat h.1 84 = some (.inr (.inl (12, [none, some (some 85), some (some 86), some (some 87), some (some 88), some (some 89), none, none, some (some 90), none, none, none, none, none, none, some (some 91), none, some (some 92), some (some 93)])))) (e1 : zex E n d 240 0 [some (.ref 84), some (.int 0), some (.int 999), some (.int 3), none] [] h = some (.inl (some (.int x)), h1)) : zex E (n + 10) (d + 1) 262 78 [some (.ref 84), u1, some (.int y)] [] h = zex E n (d + 1) 262 94 [some (.ref 84), u1, some (.int y)] [.int x, .int (y + 1), .ref 85] h1 :=
  ((zx1 zfq262_78).trans rfl : zex E (n + 10) (d + 1) 262 78 [some (.ref 84), u1, some (.int y)] [] h = zex E (n + 9) (d + 1) 262 79 [some (.ref 84), u1, some (.int y)] [.ref 84] h).trans ((zgx zfq262_79 ha rfl : zex E (n + 9) (d + 1) 262 79 [some (.ref 84), u1, some (.int y)] [.ref 84] h = zex E (n + 8) (d + 1) 262 82 [some (.ref 84), u1, some (.int y)] [.ref 85] h).trans (((zx1 zfq262_82).trans rfl : zex E (n + 8) (d + 1) 262 82 [some (.ref 84), u1, some (.int y)] [.ref 85] h = zex E (n + 7) (d + 1) 262 83 [some (.ref 84), u1, some (.int y)] [.int y, .ref 85] h).trans (((zx1 zfq262_83).trans rfl : zex E (n + 7) (d + 1) 262 83 [some (.ref 84), u1, some (.int y)] [.int y, .ref 85] h = zex E (n + 6) (d + 1) 262 84 [some (.ref 84), u1, some (.int y)] [.int 1, .int y, .ref 85] h).trans (((zx1 zfq262_84).trans rfl : zex E (n + 6) (d + 1) 262 84 [some (.ref 84), u1, some (.int y)] [.int 1, .int y, .ref 85] h = zex E (n + 5) (d + 1) 262 85 [some (.ref 84), u1, some (.int y)] [.int (y + 1), .ref 85] h).trans (((zx1 zfq262_85).trans rfl : zex E (n + 5) (d + 1) 262 85 [some (.ref 84), u1, some (.int y)] [.int (y + 1), .ref 85] h = zex E (n + 4) (d + 1) 262 86 [some (.ref 84), u1, some (.int y)] [.ref 84, .int (y + 1), .ref 85] h).trans (((zx1 zfq262_86).trans rfl : zex E (n + 4) (d + 1) 262 86 [some (.ref 84), u1, some (.int y)] [.ref 84, .int (y + 1), .ref 85] h = zex E (n + 3) (d + 1) 262 87 [some (.ref 84), u1, some (.int y)] [.int 0, .ref 84, .int (y + 1), .ref 85] h).trans (((zx1 zfq262_87).trans rfl : zex E (n + 3) (d + 1) 262 87 [some (.ref 84), u1, some (.int y)] [.int 0, .ref 84, .int (y + 1), .ref 85] h = zex E (n + 2) (d + 1) 262 90 [some (.ref 84), u1, some (.int y)] [.int 999, .int 0, .ref 84, .int (y + 1), .ref 85] h).trans (((zx1 zfq262_90).trans rfl : zex E (n + 2) (d + 1) 262 90 [some (.ref 84), u1, some (.int y)] [.int 999, .int 0, .ref 84, .int (y + 1), .ref 85] h = zex E (n + 1) (d + 1) 262 91 [some (.ref 84), u1, some (.int y)] [.int 3, .int 999, .int 0, .ref 84, .int (y + 1), .ref 85] h).trans ((zcvg (as := [.int 0, .int 999, .int 3]) (r := [.int (y + 1), .ref 85]) zfq262_91 znq240 rfl ha rfl e1 : zex E (n + 1) (d + 1) 262 91 [some (.ref 84), u1, some (.int y)] [.int 3, .int 999, .int 0, .ref 84, .int (y + 1), .ref 85] h = zex E n (d + 1) 262 94 [some (.ref 84), u1, some (.int y)] [.int x, .int (y + 1), .ref 85] h1))))))))))
set_option maxRecDepth 100000 in
theorem xw_125 {E : zE} {n d : Nat} {h h1 : zH} {x : Int32} {u1 u2 : Option Value} (ha : zat h.1 84 = some (.inr (.inl (12, [none, some (some 85), some (some 86), some (some 87), some (some 88), some (some 89), none, none, some (some 90), none, none, none, none, none, none, some (some 91), none, some (some 92), some (some 93)])))) (e1 : zex E n d 238 0 [some (.ref 84), some (.retAddr 41)] [] h = some (.inl (some (.int x)), h1)) : zex E (n + 3) (d + 1) 262 125 [some (.ref 84), u1, u2] [] h = zex E n (d + 1) 262 131 [some (.ref 84), u1, u2] [.int x] h1 :=
  ((zx1 zfq262_125).trans rfl : zex E (n + 3) (d + 1) 262 125 [some (.ref 84), u1, u2] [] h = zex E (n + 2) (d + 1) 262 126 [some (.ref 84), u1, u2] [.ref 84] h).trans (((zx1 zfq262_126).trans rfl : zex E (n + 2) (d + 1) 262 126 [some (.ref 84), u1, u2] [.ref 84] h = zex E (n + 1) (d + 1) 262 128 [some (.ref 84), u1, u2] [.retAddr 41, .ref 84] h).trans ((zcvg (as := [.retAddr 41]) (r := []) zfq262_128 znq238 rfl ha rfl e1 : zex E (n + 1) (d + 1) 262 128 [some (.ref 84), u1, u2] [.retAddr 41, .ref 84] h = zex E n (d + 1) 262 131 [some (.ref 84), u1, u2] [.int x] h1)))
set_option maxRecDepth 100000 in
theorem xw_131n {E : zE} {n d : Nat} {h : zH} {u1 u2 : Option Value}   : zex E (n + 1) (d + 1) 262 131 [some (.ref 84), u1, u2] [.int 0] h = zex E n (d + 1) 262 143 [some (.ref 84), u1, u2] [] h :=
  ((zx1 zfq262_131).trans rfl : zex E (n + 1) (d + 1) 262 131 [some (.ref 84), u1, u2] [.int 0] h = zex E n (d + 1) 262 143 [some (.ref 84), u1, u2] [] h)
set_option maxRecDepth 100000 in
theorem xw_131y {E : zE} {n d : Nat} {h h1 : zH} {x : Int32} {u1 u2 : Option Value} (ha : zat h.1 84 = some (.inr (.inl (12, [none, some (some 85), some (some 86), some (some 87), some (some 88), some (some 89), none, none, some (some 90), none, none, none, none, none, none, some (some 91), none, some (some 92), some (some 93)])))) (e1 : zex E n d 261 0 [some (.ref 84)] [] h = some (.inl (some (.int x)), h1)) : zex E (n + 3) (d + 1) 262 131 [some (.ref 84), u1, u2] [.int 1] h = zex E n (d + 1) 262 138 [some (.ref 84), u1, u2] [.int x] h1 :=
  ((zx1 zfq262_131).trans rfl : zex E (n + 3) (d + 1) 262 131 [some (.ref 84), u1, u2] [.int 1] h = zex E (n + 2) (d + 1) 262 134 [some (.ref 84), u1, u2] [] h).trans (((zx1 zfq262_134).trans rfl : zex E (n + 2) (d + 1) 262 134 [some (.ref 84), u1, u2] [] h = zex E (n + 1) (d + 1) 262 135 [some (.ref 84), u1, u2] [.ref 84] h).trans ((zcvg (as := []) (r := []) zfq262_135 znq261 rfl ha rfl e1 : zex E (n + 1) (d + 1) 262 135 [some (.ref 84), u1, u2] [.ref 84] h = zex E n (d + 1) 262 138 [some (.ref 84), u1, u2] [.int x] h1)))
set_option maxRecDepth 100000 in
theorem xw_138n {E : zE} {n d : Nat} {h : zH} {u1 u2 : Option Value}   : zex E (n + 3) (d + 1) 262 138 [some (.ref 84), u1, u2] [.int 0] h = some (.inl (some (.int 0)), h) :=
  ((zx1 zfq262_138).trans rfl : zex E (n + 3) (d + 1) 262 138 [some (.ref 84), u1, u2] [.int 0] h = zex E (n + 2) (d + 1) 262 141 [some (.ref 84), u1, u2] [] h).trans (((zx1 zfq262_141).trans rfl : zex E (n + 2) (d + 1) 262 141 [some (.ref 84), u1, u2] [] h = zex E (n + 1) (d + 1) 262 142 [some (.ref 84), u1, u2] [.int 0] h).trans (((zx1 zfq262_142).trans rfl : zex E (n + 1) (d + 1) 262 142 [some (.ref 84), u1, u2] [.int 0] h = some (.inl (some (.int 0)), h))))
set_option maxRecDepth 100000 in
theorem xw_138y {E : zE} {n d : Nat} {h : zH} {u1 u2 : Option Value}   : zex E (n + 1) (d + 1) 262 138 [some (.ref 84), u1, u2] [.int 1] h = zex E n (d + 1) 262 143 [some (.ref 84), u1, u2] [] h :=
  ((zx1 zfq262_138).trans rfl : zex E (n + 1) (d + 1) 262 138 [some (.ref 84), u1, u2] [.int 1] h = zex E n (d + 1) 262 143 [some (.ref 84), u1, u2] [] h)
set_option maxRecDepth 100000 in
theorem xr_0 {E : zE} {n d : Nat} {h h1 : zH} {u1 u2 : Option Value} (ha : zat h.1 84 = some (.inr (.inl (12, [none, some (some 85), some (some 86), some (some 87), some (some 88), some (some 89), none, none, some (some 90), none, none, none, none, none, none, some (some 91), none, some (some 92), some (some 93)])))) (e1 : zex E n d 236 0 [some (.ref 84)] [] h = some (.inl none, h1)) : zex E (n + 2) (d + 1) 263 0 [some (.ref 84), u1, u2] [] h = zex E n (d + 1) 263 4 [some (.ref 84), u1, u2] [] h1 :=
  ((zx1 zfq263_0).trans rfl : zex E (n + 2) (d + 1) 263 0 [some (.ref 84), u1, u2] [] h = zex E (n + 1) (d + 1) 263 1 [some (.ref 84), u1, u2] [.ref 84] h).trans ((zcvg (as := []) (r := []) zfq263_1 znq236 rfl ha rfl e1 : zex E (n + 1) (d + 1) 263 1 [some (.ref 84), u1, u2] [.ref 84] h = zex E n (d + 1) 263 4 [some (.ref 84), u1, u2] [] h1))
set_option maxRecDepth 100000 in
theorem xr_33 {E : zE} {n d : Nat} {h h1 : zH} {x y : Int32} {u1 : Option Value} (ha : zat h.1 84 = some (.inr (.inl (12, [none, some (some 85), some (some 86), some (some 87), some (some 88), some (some 89), none, none, some (some 90), none, none, none, none, none, none, some (some 91), none, some (some 92), some (some 93)])))) (e1 : zex E n d 262 0 [some (.ref 84), some (.int y), none] [] h = some (.inl (some (.int x)), h1)) : zex E (n + 3) (d + 1) 263 33 [some (.ref 84), u1, some (.int y)] [] h = zex E n (d + 1) 263 38 [some (.ref 84), u1, some (.int y)] [.int x] h1 :=
  ((zx1 zfq263_33).trans rfl : zex E (n + 3) (d + 1) 263 33 [some (.ref 84), u1, some (.int y)] [] h = zex E (n + 2) (d + 1) 263 34 [some (.ref 84), u1, some (.int y)] [.ref 84] h).trans (((zx1 zfq263_34).trans rfl : zex E (n + 2) (d + 1) 263 34 [some (.ref 84), u1, some (.int y)] [.ref 84] h = zex E (n + 1) (d + 1) 263 35 [some (.ref 84), u1, some (.int y)] [.int y, .ref 84] h).trans ((zcvg (as := [.int y]) (r := []) zfq263_35 znq262 rfl ha rfl e1 : zex E (n + 1) (d + 1) 263 35 [some (.ref 84), u1, some (.int y)] [.int y, .ref 84] h = zex E n (d + 1) 263 38 [some (.ref 84), u1, some (.int y)] [.int x] h1)))
set_option maxRecDepth 100000 in
theorem xr_38n {E : zE} {n d : Nat} {h : zH} {u1 u2 : Option Value}   : zex E (n + 3) (d + 1) 263 38 [some (.ref 84), u1, u2] [.int 0] h = some (.inl (some (.int 0)), h) :=
  ((zx1 zfq263_38).trans rfl : zex E (n + 3) (d + 1) 263 38 [some (.ref 84), u1, u2] [.int 0] h = zex E (n + 2) (d + 1) 263 45 [some (.ref 84), u1, u2] [] h).trans (((zx1 zfq263_45).trans rfl : zex E (n + 2) (d + 1) 263 45 [some (.ref 84), u1, u2] [] h = zex E (n + 1) (d + 1) 263 46 [some (.ref 84), u1, u2] [.int 0] h).trans (((zx1 zfq263_46).trans rfl : zex E (n + 1) (d + 1) 263 46 [some (.ref 84), u1, u2] [.int 0] h = some (.inl (some (.int 0)), h))))
set_option maxRecDepth 100000 in
theorem xr_38y {E : zE} {n d : Nat} {h : zH} {u1 u2 : Option Value}   : zex E (n + 4) (d + 1) 263 38 [some (.ref 84), u1, u2] [.int 1] h = some (.inl (some (.int 1)), h) :=
  ((zx1 zfq263_38).trans rfl : zex E (n + 4) (d + 1) 263 38 [some (.ref 84), u1, u2] [.int 1] h = zex E (n + 3) (d + 1) 263 41 [some (.ref 84), u1, u2] [] h).trans (((zx1 zfq263_41).trans rfl : zex E (n + 3) (d + 1) 263 41 [some (.ref 84), u1, u2] [] h = zex E (n + 2) (d + 1) 263 42 [some (.ref 84), u1, u2] [.int 1] h).trans (((zx1 zfq263_42).trans rfl : zex E (n + 2) (d + 1) 263 42 [some (.ref 84), u1, u2] [.int 1] h = zex E (n + 1) (d + 1) 263 46 [some (.ref 84), u1, u2] [.int 1] h).trans (((zx1 zfq263_46).trans rfl : zex E (n + 1) (d + 1) 263 46 [some (.ref 84), u1, u2] [.int 1] h = some (.inl (some (.int 1)), h)))))
set_option maxRecDepth 100000 in
theorem xz_9 {E : zE} {n d : Nat} {h h1 : zH} {u1 u2 : Option Value} (ha : zat h.1 84 = some (.inr (.inl (12, [none, some (some 85), some (some 86), some (some 87), some (some 88), some (some 89), none, none, some (some 90), none, none, none, none, none, none, some (some 91), none, some (some 92), some (some 93)])))) (e1 : zex E n d 235 0 [some (.ref 84)] [] h = some (.inl none, h1)) : zex E (n + 2) (d + 1) 264 9 [some (.ref 84), u1, u2] [] h = zex E n (d + 1) 264 13 [some (.ref 84), u1, u2] [] h1 :=
  ((zx1 zfq264_9).trans rfl : zex E (n + 2) (d + 1) 264 9 [some (.ref 84), u1, u2] [] h = zex E (n + 1) (d + 1) 264 10 [some (.ref 84), u1, u2] [.ref 84] h).trans ((zcvg (as := []) (r := []) zfq264_10 znq235 rfl ha rfl e1 : zex E (n + 1) (d + 1) 264 10 [some (.ref 84), u1, u2] [.ref 84] h = zex E n (d + 1) 264 13 [some (.ref 84), u1, u2] [] h1))
set_option maxRecDepth 100000 in
theorem xz_28 {E : zE} {n d : Nat} {h h1 : zH} {x y z : Int32} (ha : zat h.1 84 = some (.inr (.inl (12, [none, some (some 85), some (some 86), some (some 87), some (some 88), some (some 89), none, none, some (some 90), none, none, none, none, none, none, some (some 91), none, some (some 92), some (some 93)])))) (e1 : zex E n d 263 0 [some (.ref 84), some (.int z), some (.int y)] [] h = some (.inl (some (.int x)), h1)) : zex E (n + 4) (d + 1) 264 28 [some (.ref 84), some (.int z), some (.int y)] [] h = zex E n (d + 1) 264 34 [some (.ref 84), some (.int z), some (.int y)] [.int x] h1 :=
  ((zx1 zfq264_28).trans rfl : zex E (n + 4) (d + 1) 264 28 [some (.ref 84), some (.int z), some (.int y)] [] h = zex E (n + 3) (d + 1) 264 29 [some (.ref 84), some (.int z), some (.int y)] [.ref 84] h).trans (((zx1 zfq264_29).trans rfl : zex E (n + 3) (d + 1) 264 29 [some (.ref 84), some (.int z), some (.int y)] [.ref 84] h = zex E (n + 2) (d + 1) 264 30 [some (.ref 84), some (.int z), some (.int y)] [.int z, .ref 84] h).trans (((zx1 zfq264_30).trans rfl : zex E (n + 2) (d + 1) 264 30 [some (.ref 84), some (.int z), some (.int y)] [.int z, .ref 84] h = zex E (n + 1) (d + 1) 264 31 [some (.ref 84), some (.int z), some (.int y)] [.int y, .int z, .ref 84] h).trans ((zcvg (as := [.int z, .int y]) (r := []) zfq264_31 znq263 rfl ha rfl e1 : zex E (n + 1) (d + 1) 264 31 [some (.ref 84), some (.int z), some (.int y)] [.int y, .int z, .ref 84] h = zex E n (d + 1) 264 34 [some (.ref 84), some (.int z), some (.int y)] [.int x] h1))))
set_option maxRecDepth 100000 in
theorem xz_34n {E : zE} {n d : Nat} {h : zH} {u1 u2 : Option Value}   : zex E (n + 3) (d + 1) 264 34 [some (.ref 84), u1, u2] [.int 0] h = some (.inl (some (.int (-1))), h) :=
  ((zx1 zfq264_34).trans rfl : zex E (n + 3) (d + 1) 264 34 [some (.ref 84), u1, u2] [.int 0] h = zex E (n + 2) (d + 1) 264 37 [some (.ref 84), u1, u2] [] h).trans (((zx1 zfq264_37).trans rfl : zex E (n + 2) (d + 1) 264 37 [some (.ref 84), u1, u2] [] h = zex E (n + 1) (d + 1) 264 38 [some (.ref 84), u1, u2] [.int (-1)] h).trans (((zx1 zfq264_38).trans rfl : zex E (n + 1) (d + 1) 264 38 [some (.ref 84), u1, u2] [.int (-1)] h = some (.inl (some (.int (-1))), h))))
set_option maxRecDepth 100000 in
theorem xz_34y {E : zE} {n d : Nat} {h h1 : zH} {u1 u2 : Option Value} (ha : zat h.1 84 = some (.inr (.inl (12, [none, some (some 85), some (some 86), some (some 87), some (some 88), some (some 89), none, none, some (some 90), none, none, none, none, none, none, some (some 91), none, some (some 92), some (some 93)])))) (e1 : zex E n d 235 0 [some (.ref 84)] [] h = some (.inl none, h1)) : zex E (n + 3) (d + 1) 264 34 [some (.ref 84), u1, u2] [.int 1] h = zex E n (d + 1) 264 43 [some (.ref 84), u1, u2] [] h1 :=
  ((zx1 zfq264_34).trans rfl : zex E (n + 3) (d + 1) 264 34 [some (.ref 84), u1, u2] [.int 1] h = zex E (n + 2) (d + 1) 264 39 [some (.ref 84), u1, u2] [] h).trans (((zx1 zfq264_39).trans rfl : zex E (n + 2) (d + 1) 264 39 [some (.ref 84), u1, u2] [] h = zex E (n + 1) (d + 1) 264 40 [some (.ref 84), u1, u2] [.ref 84] h).trans ((zcvg (as := []) (r := []) zfq264_40 znq235 rfl ha rfl e1 : zex E (n + 1) (d + 1) 264 40 [some (.ref 84), u1, u2] [.ref 84] h = zex E n (d + 1) 264 43 [some (.ref 84), u1, u2] [] h1)))
set_option maxRecDepth 100000 in
theorem xq_0 {E : zE} {n d : Nat} {h h1 : zH} {x : Int32} {u1 u2 : Option Value} (ha : zat h.1 84 = some (.inr (.inl (12, [none, some (some 85), some (some 86), some (some 87), some (some 88), some (some 89), none, none, some (some 90), none, none, none, none, none, none, some (some 91), none, some (some 92), some (some 93)])))) (e1 : zex E n d 264 0 [some (.ref 84), some (.int 0), none] [] h = some (.inl (some (.int x)), h1)) : zex E (n + 3) (d + 1) 266 0 [some (.ref 84), u1, u2] [] h = zex E n (d + 1) 266 5 [some (.ref 84), u1, u2] [.int x] h1 :=
  ((zx1 zfq266_0).trans rfl : zex E (n + 3) (d + 1) 266 0 [some (.ref 84), u1, u2] [] h = zex E (n + 2) (d + 1) 266 1 [some (.ref 84), u1, u2] [.ref 84] h).trans (((zx1 zfq266_1).trans rfl : zex E (n + 2) (d + 1) 266 1 [some (.ref 84), u1, u2] [.ref 84] h = zex E (n + 1) (d + 1) 266 2 [some (.ref 84), u1, u2] [.int 0, .ref 84] h).trans ((zcvg (as := [.int 0]) (r := []) zfq266_2 znq264 rfl ha rfl e1 : zex E (n + 1) (d + 1) 266 2 [some (.ref 84), u1, u2] [.int 0, .ref 84] h = zex E n (d + 1) 266 5 [some (.ref 84), u1, u2] [.int x] h1)))
set_option maxRecDepth 100000 in
theorem xp_w_t0 {E : zE} {n d : Nat} {h h1 : zH} {u1 : Option Value} (ha : zat h.1 84 = some (.inr (.inl (12, [none, some (some 85), some (some 86), some (some 87), some (some 88), some (some 89), none, none, some (some 90), none, none, none, none, none, none, some (some 91), none, some (some 92), some (some 93)])))) (e1 : zex E (n + 3) d 237 0 [some (.ref 84), some (.retAddr 30), none, none] [] h = some (.inl (some (.int 1)), h1)) : zex E (n + 6) (d + 1) 256 35 [some (.ref 84), u1] [] h = zex E n (d + 1) 256 114 [some (.ref 84), u1] [.int 0] h1 :=
  ((zx1 zfq256_35).trans rfl : zex E (n + 6) (d + 1) 256 35 [some (.ref 84), u1] [] h = zex E (n + 5) (d + 1) 256 36 [some (.ref 84), u1] [.ref 84] h).trans (((zx1 zfq256_36).trans rfl : zex E (n + 5) (d + 1) 256 36 [some (.ref 84), u1] [.ref 84] h = zex E (n + 4) (d + 1) 256 38 [some (.ref 84), u1] [.retAddr 30, .ref 84] h).trans ((zcvg (as := [.retAddr 30]) (r := []) zfq256_38 znq237 rfl ha rfl e1 : zex E (n + 4) (d + 1) 256 38 [some (.ref 84), u1] [.retAddr 30, .ref 84] h = zex E (n + 3) (d + 1) 256 41 [some (.ref 84), u1] [.int 1] h1).trans (((zx1 zfq256_41).trans rfl : zex E (n + 3) (d + 1) 256 41 [some (.ref 84), u1] [.int 1] h1 = zex E (n + 2) (d + 1) 256 44 [some (.ref 84), u1] [] h1).trans (((zx1 zfq256_44).trans rfl : zex E (n + 2) (d + 1) 256 44 [some (.ref 84), u1] [] h1 = zex E (n + 1) (d + 1) 256 45 [some (.ref 84), u1] [.int 0] h1).trans (((zx1 zfq256_45).trans rfl : zex E (n + 1) (d + 1) 256 45 [some (.ref 84), u1] [.int 0] h1 = zex E n (d + 1) 256 114 [some (.ref 84), u1] [.int 0] h1))))))
set_option maxRecDepth 100000 in
theorem xp_w_f0 {E : zE} {n d : Nat} {h h1 : zH} {u1 : Option Value} (ha : zat h.1 84 = some (.inr (.inl (12, [none, some (some 85), some (some 86), some (some 87), some (some 88), some (some 89), none, none, some (some 90), none, none, none, none, none, none, some (some 91), none, some (some 92), some (some 93)])))) (e1 : zex E (n + 1) d 237 0 [some (.ref 84), some (.retAddr 30), none, none] [] h = some (.inl (some (.int 0)), h1)) : zex E (n + 4) (d + 1) 256 35 [some (.ref 84), u1] [] h = zex E n (d + 1) 256 48 [some (.ref 84), u1] [] h1 :=
  ((zx1 zfq256_35).trans rfl : zex E (n + 4) (d + 1) 256 35 [some (.ref 84), u1] [] h = zex E (n + 3) (d + 1) 256 36 [some (.ref 84), u1] [.ref 84] h).trans (((zx1 zfq256_36).trans rfl : zex E (n + 3) (d + 1) 256 36 [some (.ref 84), u1] [.ref 84] h = zex E (n + 2) (d + 1) 256 38 [some (.ref 84), u1] [.retAddr 30, .ref 84] h).trans ((zcvg (as := [.retAddr 30]) (r := []) zfq256_38 znq237 rfl ha rfl e1 : zex E (n + 2) (d + 1) 256 38 [some (.ref 84), u1] [.retAddr 30, .ref 84] h = zex E (n + 1) (d + 1) 256 41 [some (.ref 84), u1] [.int 0] h1).trans (((zx1 zfq256_41).trans rfl : zex E (n + 1) (d + 1) 256 41 [some (.ref 84), u1] [.int 0] h1 = zex E n (d + 1) 256 48 [some (.ref 84), u1] [] h1))))
set_option maxRecDepth 100000 in
theorem xp_w_t1 {E : zE} {n d : Nat} {h h1 : zH} {u1 : Option Value} (ha : zat h.1 84 = some (.inr (.inl (12, [none, some (some 85), some (some 86), some (some 87), some (some 88), some (some 89), none, none, some (some 90), none, none, none, none, none, none, some (some 91), none, some (some 92), some (some 93)])))) (e1 : zex E (n + 3) d 237 0 [some (.ref 84), some (.retAddr 23), none, none] [] h = some (.inl (some (.int 1)), h1)) : zex E (n + 6) (d + 1) 256 48 [some (.ref 84), u1] [] h = zex E n (d + 1) 256 114 [some (.ref 84), u1] [.int 1] h1 :=
  ((zx1 zfq256_48).trans rfl : zex E (n + 6) (d + 1) 256 48 [some (.ref 84), u1] [] h = zex E (n + 5) (d + 1) 256 49 [some (.ref 84), u1] [.ref 84] h).trans (((zx1 zfq256_49).trans rfl : zex E (n + 5) (d + 1) 256 49 [some (.ref 84), u1] [.ref 84] h = zex E (n + 4) (d + 1) 256 51 [some (.ref 84), u1] [.retAddr 23, .ref 84] h).trans ((zcvg (as := [.retAddr 23]) (r := []) zfq256_51 znq237 rfl ha rfl e1 : zex E (n + 4) (d + 1) 256 51 [some (.ref 84), u1] [.retAddr 23, .ref 84] h = zex E (n + 3) (d + 1) 256 54 [some (.ref 84), u1] [.int 1] h1).trans (((zx1 zfq256_54).trans rfl : zex E (n + 3) (d + 1) 256 54 [some (.ref 84), u1] [.int 1] h1 = zex E (n + 2) (d + 1) 256 57 [some (.ref 84), u1] [] h1).trans (((zx1 zfq256_57).trans rfl : zex E (n + 2) (d + 1) 256 57 [some (.ref 84), u1] [] h1 = zex E (n + 1) (d + 1) 256 58 [some (.ref 84), u1] [.int 1] h1).trans (((zx1 zfq256_58).trans rfl : zex E (n + 1) (d + 1) 256 58 [some (.ref 84), u1] [.int 1] h1 = zex E n (d + 1) 256 114 [some (.ref 84), u1] [.int 1] h1))))))
set_option maxRecDepth 100000 in
theorem xp_w_f1 {E : zE} {n d : Nat} {h h1 : zH} {u1 : Option Value} (ha : zat h.1 84 = some (.inr (.inl (12, [none, some (some 85), some (some 86), some (some 87), some (some 88), some (some 89), none, none, some (some 90), none, none, none, none, none, none, some (some 91), none, some (some 92), some (some 93)])))) (e1 : zex E (n + 1) d 237 0 [some (.ref 84), some (.retAddr 23), none, none] [] h = some (.inl (some (.int 0)), h1)) : zex E (n + 4) (d + 1) 256 48 [some (.ref 84), u1] [] h = zex E n (d + 1) 256 61 [some (.ref 84), u1] [] h1 :=
  ((zx1 zfq256_48).trans rfl : zex E (n + 4) (d + 1) 256 48 [some (.ref 84), u1] [] h = zex E (n + 3) (d + 1) 256 49 [some (.ref 84), u1] [.ref 84] h).trans (((zx1 zfq256_49).trans rfl : zex E (n + 3) (d + 1) 256 49 [some (.ref 84), u1] [.ref 84] h = zex E (n + 2) (d + 1) 256 51 [some (.ref 84), u1] [.retAddr 23, .ref 84] h).trans ((zcvg (as := [.retAddr 23]) (r := []) zfq256_51 znq237 rfl ha rfl e1 : zex E (n + 2) (d + 1) 256 51 [some (.ref 84), u1] [.retAddr 23, .ref 84] h = zex E (n + 1) (d + 1) 256 54 [some (.ref 84), u1] [.int 0] h1).trans (((zx1 zfq256_54).trans rfl : zex E (n + 1) (d + 1) 256 54 [some (.ref 84), u1] [.int 0] h1 = zex E n (d + 1) 256 61 [some (.ref 84), u1] [] h1))))
set_option maxRecDepth 100000 in
theorem xp_w_t2 {E : zE} {n d : Nat} {h h1 : zH} {u1 : Option Value} (ha : zat h.1 84 = some (.inr (.inl (12, [none, some (some 85), some (some 86), some (some 87), some (some 88), some (some 89), none, none, some (some 90), none, none, none, none, none, none, some (some 91), none, some (some 92), some (some 93)])))) (e1 : zex E (n + 3) d 237 0 [some (.ref 84), some (.retAddr 31), none, none] [] h = some (.inl (some (.int 1)), h1)) : zex E (n + 6) (d + 1) 256 61 [some (.ref 84), u1] [] h = zex E n (d + 1) 256 114 [some (.ref 84), u1] [.int 2] h1 :=
  ((zx1 zfq256_61).trans rfl : zex E (n + 6) (d + 1) 256 61 [some (.ref 84), u1] [] h = zex E (n + 5) (d + 1) 256 62 [some (.ref 84), u1] [.ref 84] h).trans (((zx1 zfq256_62).trans rfl : zex E (n + 5) (d + 1) 256 62 [some (.ref 84), u1] [.ref 84] h = zex E (n + 4) (d + 1) 256 64 [some (.ref 84), u1] [.retAddr 31, .ref 84] h).trans ((zcvg (as := [.retAddr 31]) (r := []) zfq256_64 znq237 rfl ha rfl e1 : zex E (n + 4) (d + 1) 256 64 [some (.ref 84), u1] [.retAddr 31, .ref 84] h = zex E (n + 3) (d + 1) 256 67 [some (.ref 84), u1] [.int 1] h1).trans (((zx1 zfq256_67).trans rfl : zex E (n + 3) (d + 1) 256 67 [some (.ref 84), u1] [.int 1] h1 = zex E (n + 2) (d + 1) 256 70 [some (.ref 84), u1] [] h1).trans (((zx1 zfq256_70).trans rfl : zex E (n + 2) (d + 1) 256 70 [some (.ref 84), u1] [] h1 = zex E (n + 1) (d + 1) 256 71 [some (.ref 84), u1] [.int 2] h1).trans (((zx1 zfq256_71).trans rfl : zex E (n + 1) (d + 1) 256 71 [some (.ref 84), u1] [.int 2] h1 = zex E n (d + 1) 256 114 [some (.ref 84), u1] [.int 2] h1))))))
set_option maxRecDepth 100000 in
theorem xp_w_f2 {E : zE} {n d : Nat} {h h1 : zH} {u1 : Option Value} (ha : zat h.1 84 = some (.inr (.inl (12, [none, some (some 85), some (some 86), some (some 87), some (some 88), some (some 89), none, none, some (some 90), none, none, none, none, none, none, some (some 91), none, some (some 92), some (some 93)])))) (e1 : zex E (n + 1) d 237 0 [some (.ref 84), some (.retAddr 31), none, none] [] h = some (.inl (some (.int 0)), h1)) : zex E (n + 4) (d + 1) 256 61 [some (.ref 84), u1] [] h = zex E n (d + 1) 256 74 [some (.ref 84), u1] [] h1 :=
  ((zx1 zfq256_61).trans rfl : zex E (n + 4) (d + 1) 256 61 [some (.ref 84), u1] [] h = zex E (n + 3) (d + 1) 256 62 [some (.ref 84), u1] [.ref 84] h).trans (((zx1 zfq256_62).trans rfl : zex E (n + 3) (d + 1) 256 62 [some (.ref 84), u1] [.ref 84] h = zex E (n + 2) (d + 1) 256 64 [some (.ref 84), u1] [.retAddr 31, .ref 84] h).trans ((zcvg (as := [.retAddr 31]) (r := []) zfq256_64 znq237 rfl ha rfl e1 : zex E (n + 2) (d + 1) 256 64 [some (.ref 84), u1] [.retAddr 31, .ref 84] h = zex E (n + 1) (d + 1) 256 67 [some (.ref 84), u1] [.int 0] h1).trans (((zx1 zfq256_67).trans rfl : zex E (n + 1) (d + 1) 256 67 [some (.ref 84), u1] [.int 0] h1 = zex E n (d + 1) 256 74 [some (.ref 84), u1] [] h1))))
set_option maxRecDepth 100000 in
theorem xp_w_t3 {E : zE} {n d : Nat} {h h1 : zH} {u1 : Option Value} (ha : zat h.1 84 = some (.inr (.inl (12, [none, some (some 85), some (some 86), some (some 87), some (some 88), some (some 89), none, none, some (some 90), none, none, none, none, none, none, some (some 91), none, some (some 92), some (some 93)])))) (e1 : zex E (n + 3) d 237 0 [some (.ref 84), some (.retAddr 43), none, none] [] h = some (.inl (some (.int 1)), h1)) : zex E (n + 6) (d + 1) 256 74 [some (.ref 84), u1] [] h = zex E n (d + 1) 256 114 [some (.ref 84), u1] [.int 3] h1 :=
  ((zx1 zfq256_74).trans rfl : zex E (n + 6) (d + 1) 256 74 [some (.ref 84), u1] [] h = zex E (n + 5) (d + 1) 256 75 [some (.ref 84), u1] [.ref 84] h).trans (((zx1 zfq256_75).trans rfl : zex E (n + 5) (d + 1) 256 75 [some (.ref 84), u1] [.ref 84] h = zex E (n + 4) (d + 1) 256 77 [some (.ref 84), u1] [.retAddr 43, .ref 84] h).trans ((zcvg (as := [.retAddr 43]) (r := []) zfq256_77 znq237 rfl ha rfl e1 : zex E (n + 4) (d + 1) 256 77 [some (.ref 84), u1] [.retAddr 43, .ref 84] h = zex E (n + 3) (d + 1) 256 80 [some (.ref 84), u1] [.int 1] h1).trans (((zx1 zfq256_80).trans rfl : zex E (n + 3) (d + 1) 256 80 [some (.ref 84), u1] [.int 1] h1 = zex E (n + 2) (d + 1) 256 83 [some (.ref 84), u1] [] h1).trans (((zx1 zfq256_83).trans rfl : zex E (n + 2) (d + 1) 256 83 [some (.ref 84), u1] [] h1 = zex E (n + 1) (d + 1) 256 84 [some (.ref 84), u1] [.int 3] h1).trans (((zx1 zfq256_84).trans rfl : zex E (n + 1) (d + 1) 256 84 [some (.ref 84), u1] [.int 3] h1 = zex E n (d + 1) 256 114 [some (.ref 84), u1] [.int 3] h1))))))
set_option maxRecDepth 100000 in
theorem xp_w_f3 {E : zE} {n d : Nat} {h h1 : zH} {u1 : Option Value} (ha : zat h.1 84 = some (.inr (.inl (12, [none, some (some 85), some (some 86), some (some 87), some (some 88), some (some 89), none, none, some (some 90), none, none, none, none, none, none, some (some 91), none, some (some 92), some (some 93)])))) (e1 : zex E (n + 1) d 237 0 [some (.ref 84), some (.retAddr 43), none, none] [] h = some (.inl (some (.int 0)), h1)) : zex E (n + 4) (d + 1) 256 74 [some (.ref 84), u1] [] h = zex E n (d + 1) 256 87 [some (.ref 84), u1] [] h1 :=
  ((zx1 zfq256_74).trans rfl : zex E (n + 4) (d + 1) 256 74 [some (.ref 84), u1] [] h = zex E (n + 3) (d + 1) 256 75 [some (.ref 84), u1] [.ref 84] h).trans (((zx1 zfq256_75).trans rfl : zex E (n + 3) (d + 1) 256 75 [some (.ref 84), u1] [.ref 84] h = zex E (n + 2) (d + 1) 256 77 [some (.ref 84), u1] [.retAddr 43, .ref 84] h).trans ((zcvg (as := [.retAddr 43]) (r := []) zfq256_77 znq237 rfl ha rfl e1 : zex E (n + 2) (d + 1) 256 77 [some (.ref 84), u1] [.retAddr 43, .ref 84] h = zex E (n + 1) (d + 1) 256 80 [some (.ref 84), u1] [.int 0] h1).trans (((zx1 zfq256_80).trans rfl : zex E (n + 1) (d + 1) 256 80 [some (.ref 84), u1] [.int 0] h1 = zex E n (d + 1) 256 87 [some (.ref 84), u1] [] h1))))
set_option maxRecDepth 100000 in
theorem xp_w_t4 {E : zE} {n d : Nat} {h h1 : zH} {u1 : Option Value} (ha : zat h.1 84 = some (.inr (.inl (12, [none, some (some 85), some (some 86), some (some 87), some (some 88), some (some 89), none, none, some (some 90), none, none, none, none, none, none, some (some 91), none, some (some 92), some (some 93)])))) (e1 : zex E (n + 3) d 237 0 [some (.ref 84), some (.retAddr 44), none, none] [] h = some (.inl (some (.int 1)), h1)) : zex E (n + 6) (d + 1) 256 87 [some (.ref 84), u1] [] h = zex E n (d + 1) 256 114 [some (.ref 84), u1] [.int 4] h1 :=
  ((zx1 zfq256_87).trans rfl : zex E (n + 6) (d + 1) 256 87 [some (.ref 84), u1] [] h = zex E (n + 5) (d + 1) 256 88 [some (.ref 84), u1] [.ref 84] h).trans (((zx1 zfq256_88).trans rfl : zex E (n + 5) (d + 1) 256 88 [some (.ref 84), u1] [.ref 84] h = zex E (n + 4) (d + 1) 256 90 [some (.ref 84), u1] [.retAddr 44, .ref 84] h).trans ((zcvg (as := [.retAddr 44]) (r := []) zfq256_90 znq237 rfl ha rfl e1 : zex E (n + 4) (d + 1) 256 90 [some (.ref 84), u1] [.retAddr 44, .ref 84] h = zex E (n + 3) (d + 1) 256 93 [some (.ref 84), u1] [.int 1] h1).trans (((zx1 zfq256_93).trans rfl : zex E (n + 3) (d + 1) 256 93 [some (.ref 84), u1] [.int 1] h1 = zex E (n + 2) (d + 1) 256 96 [some (.ref 84), u1] [] h1).trans (((zx1 zfq256_96).trans rfl : zex E (n + 2) (d + 1) 256 96 [some (.ref 84), u1] [] h1 = zex E (n + 1) (d + 1) 256 97 [some (.ref 84), u1] [.int 4] h1).trans (((zx1 zfq256_97).trans rfl : zex E (n + 1) (d + 1) 256 97 [some (.ref 84), u1] [.int 4] h1 = zex E n (d + 1) 256 114 [some (.ref 84), u1] [.int 4] h1))))))
set_option maxRecDepth 100000 in
theorem xp_w_f4 {E : zE} {n d : Nat} {h h1 : zH} {u1 : Option Value} (ha : zat h.1 84 = some (.inr (.inl (12, [none, some (some 85), some (some 86), some (some 87), some (some 88), some (some 89), none, none, some (some 90), none, none, none, none, none, none, some (some 91), none, some (some 92), some (some 93)])))) (e1 : zex E (n + 1) d 237 0 [some (.ref 84), some (.retAddr 44), none, none] [] h = some (.inl (some (.int 0)), h1)) : zex E (n + 4) (d + 1) 256 87 [some (.ref 84), u1] [] h = zex E n (d + 1) 256 100 [some (.ref 84), u1] [] h1 :=
  ((zx1 zfq256_87).trans rfl : zex E (n + 4) (d + 1) 256 87 [some (.ref 84), u1] [] h = zex E (n + 3) (d + 1) 256 88 [some (.ref 84), u1] [.ref 84] h).trans (((zx1 zfq256_88).trans rfl : zex E (n + 3) (d + 1) 256 88 [some (.ref 84), u1] [.ref 84] h = zex E (n + 2) (d + 1) 256 90 [some (.ref 84), u1] [.retAddr 44, .ref 84] h).trans ((zcvg (as := [.retAddr 44]) (r := []) zfq256_90 znq237 rfl ha rfl e1 : zex E (n + 2) (d + 1) 256 90 [some (.ref 84), u1] [.retAddr 44, .ref 84] h = zex E (n + 1) (d + 1) 256 93 [some (.ref 84), u1] [.int 0] h1).trans (((zx1 zfq256_93).trans rfl : zex E (n + 1) (d + 1) 256 93 [some (.ref 84), u1] [.int 0] h1 = zex E n (d + 1) 256 100 [some (.ref 84), u1] [] h1))))
set_option maxRecDepth 100000 in
theorem xp_w_t5 {E : zE} {n d : Nat} {h h1 : zH} {u1 : Option Value} (ha : zat h.1 84 = some (.inr (.inl (12, [none, some (some 85), some (some 86), some (some 87), some (some 88), some (some 89), none, none, some (some 90), none, none, none, none, none, none, some (some 91), none, some (some 92), some (some 93)])))) (e1 : zex E (n + 3) d 237 0 [some (.ref 84), some (.retAddr 45), none, none] [] h = some (.inl (some (.int 1)), h1)) : zex E (n + 6) (d + 1) 256 100 [some (.ref 84), u1] [] h = zex E n (d + 1) 256 114 [some (.ref 84), u1] [.int 5] h1 :=
  ((zx1 zfq256_100).trans rfl : zex E (n + 6) (d + 1) 256 100 [some (.ref 84), u1] [] h = zex E (n + 5) (d + 1) 256 101 [some (.ref 84), u1] [.ref 84] h).trans (((zx1 zfq256_101).trans rfl : zex E (n + 5) (d + 1) 256 101 [some (.ref 84), u1] [.ref 84] h = zex E (n + 4) (d + 1) 256 103 [some (.ref 84), u1] [.retAddr 45, .ref 84] h).trans ((zcvg (as := [.retAddr 45]) (r := []) zfq256_103 znq237 rfl ha rfl e1 : zex E (n + 4) (d + 1) 256 103 [some (.ref 84), u1] [.retAddr 45, .ref 84] h = zex E (n + 3) (d + 1) 256 106 [some (.ref 84), u1] [.int 1] h1).trans (((zx1 zfq256_106).trans rfl : zex E (n + 3) (d + 1) 256 106 [some (.ref 84), u1] [.int 1] h1 = zex E (n + 2) (d + 1) 256 109 [some (.ref 84), u1] [] h1).trans (((zx1 zfq256_109).trans rfl : zex E (n + 2) (d + 1) 256 109 [some (.ref 84), u1] [] h1 = zex E (n + 1) (d + 1) 256 110 [some (.ref 84), u1] [.int 5] h1).trans (((zx1 zfq256_110).trans rfl : zex E (n + 1) (d + 1) 256 110 [some (.ref 84), u1] [.int 5] h1 = zex E n (d + 1) 256 114 [some (.ref 84), u1] [.int 5] h1))))))
set_option maxRecDepth 100000 in
theorem xp_w_f5 {E : zE} {n d : Nat} {h h1 : zH} {u1 : Option Value} (ha : zat h.1 84 = some (.inr (.inl (12, [none, some (some 85), some (some 86), some (some 87), some (some 88), some (some 89), none, none, some (some 90), none, none, none, none, none, none, some (some 91), none, some (some 92), some (some 93)])))) (e1 : zex E (n + 2) d 237 0 [some (.ref 84), some (.retAddr 45), none, none] [] h = some (.inl (some (.int 0)), h1)) : zex E (n + 5) (d + 1) 256 100 [some (.ref 84), u1] [] h = zex E n (d + 1) 256 114 [some (.ref 84), u1] [.int (-1)] h1 :=
  ((zx1 zfq256_100).trans rfl : zex E (n + 5) (d + 1) 256 100 [some (.ref 84), u1] [] h = zex E (n + 4) (d + 1) 256 101 [some (.ref 84), u1] [.ref 84] h).trans (((zx1 zfq256_101).trans rfl : zex E (n + 4) (d + 1) 256 101 [some (.ref 84), u1] [.ref 84] h = zex E (n + 3) (d + 1) 256 103 [some (.ref 84), u1] [.retAddr 45, .ref 84] h).trans ((zcvg (as := [.retAddr 45]) (r := []) zfq256_103 znq237 rfl ha rfl e1 : zex E (n + 3) (d + 1) 256 103 [some (.ref 84), u1] [.retAddr 45, .ref 84] h = zex E (n + 2) (d + 1) 256 106 [some (.ref 84), u1] [.int 0] h1).trans (((zx1 zfq256_106).trans rfl : zex E (n + 2) (d + 1) 256 106 [some (.ref 84), u1] [.int 0] h1 = zex E (n + 1) (d + 1) 256 113 [some (.ref 84), u1] [] h1).trans (((zx1 zfq256_113).trans rfl : zex E (n + 1) (d + 1) 256 113 [some (.ref 84), u1] [] h1 = zex E n (d + 1) 256 114 [some (.ref 84), u1] [.int (-1)] h1)))))
set_option maxRecDepth 100000 in
theorem xp_w {E : zE} {B : Nat} {h0 h : zH} {L p b k dp q : Nat} {u1 : Option Value} (hE : E.1 < 2147483648) (hsm : bSO E ctb B (60, smT)) (hL : L ≤ 400) (hp : p ≤ L) (hr : bRQ ctb wN h0 0 0 h) (hq : q ≤ L) (hpq : p = sk isLt (tp90 h0) L b) (hbq : b = sk isBl (tp90 h0) L q) (ht : MT h L p b k dp) :
    ∀ d m, 60 ≤ d → B + 1000000 ≤ m → ∃ (x : Int32) (h1 : zH) (m1 : Nat), x.toInt = (if wqs (tp90 h0) L b [112, 101, 114, 115, 111, 110] = true then 0 else if wqs (tp90 h0) L b [114, 111, 111, 109] = true then 1 else if wqs (tp90 h0) L b [108, 111, 97, 100] = true then 2 else if wqs (tp90 h0) L b [104, 101, 114, 101] = true then 3 else if wqs (tp90 h0) L b [114, 111, 117, 110, 100] = true then 4 else if wqs (tp90 h0) L b [112, 97, 114, 116] = true then 5 else -1) ∧ bRQ ctb wN h0 0 0 h1 ∧ MT h1 L p b k dp ∧ m ≤ m1 ∧ zex E (m + 32) (d + 1) 256 35 [some (.ref 84), u1] [] h = zex E m1 (d + 1) 256 114 [some (.ref 84), u1] (.int x :: []) h1 := by
  intro d m hd hm
  obtain ⟨y0, g0, e0, q0, r0, t0⟩ := x_word hE hsm hL hp hr hq hpq hbq ht (w := 30) (u := [112, 101, 114, 115, 111, 110]) (by decide) (by decide) d (m + 29) hd (by omega)
  by_cases c0 : wqs (tp90 h0) L b [112, 101, 114, 115, 111, 110] = true
  · rw [if_pos c0] at q0
    subst q0
    exact ⟨0, g0, m + 26, by rw [if_pos c0]; rfl, r0, t0, by omega, xp_w_t0 (q_84 hr) e0⟩
  · rw [if_neg c0] at q0
    subst q0
    obtain ⟨y1, g1, e1, q1, r1, t1⟩ := x_word hE hsm hL hp r0 hq hpq hbq t0 (w := 23) (u := [114, 111, 111, 109]) (by decide) (by decide) d (m + 25) hd (by omega)
    by_cases c1 : wqs (tp90 h0) L b [114, 111, 111, 109] = true
    · rw [if_pos c1] at q1
      subst q1
      exact ⟨1, g1, m + 22, by rw [if_neg c0, if_pos c1]; rfl, r1, t1, by omega, (xp_w_f0 (q_84 hr) e0).trans (xp_w_t1 (q_84 r0) e1)⟩
    · rw [if_neg c1] at q1
      subst q1
      obtain ⟨y2, g2, e2, q2, r2, t2⟩ := x_word hE hsm hL hp r1 hq hpq hbq t1 (w := 31) (u := [108, 111, 97, 100]) (by decide) (by decide) d (m + 21) hd (by omega)
      by_cases c2 : wqs (tp90 h0) L b [108, 111, 97, 100] = true
      · rw [if_pos c2] at q2
        subst q2
        exact ⟨2, g2, m + 18, by rw [if_neg c0, if_neg c1, if_pos c2]; rfl, r2, t2, by omega, (xp_w_f0 (q_84 hr) e0).trans ((xp_w_f1 (q_84 r0) e1).trans (xp_w_t2 (q_84 r1) e2))⟩
      · rw [if_neg c2] at q2
        subst q2
        obtain ⟨y3, g3, e3, q3, r3, t3⟩ := x_word hE hsm hL hp r2 hq hpq hbq t2 (w := 43) (u := [104, 101, 114, 101]) (by decide) (by decide) d (m + 17) hd (by omega)
        by_cases c3 : wqs (tp90 h0) L b [104, 101, 114, 101] = true
        · rw [if_pos c3] at q3
          subst q3
          exact ⟨3, g3, m + 14, by rw [if_neg c0, if_neg c1, if_neg c2, if_pos c3]; rfl, r3, t3, by omega, (xp_w_f0 (q_84 hr) e0).trans ((xp_w_f1 (q_84 r0) e1).trans ((xp_w_f2 (q_84 r1) e2).trans (xp_w_t3 (q_84 r2) e3)))⟩
        · rw [if_neg c3] at q3
          subst q3
          obtain ⟨y4, g4, e4, q4, r4, t4⟩ := x_word hE hsm hL hp r3 hq hpq hbq t3 (w := 44) (u := [114, 111, 117, 110, 100]) (by decide) (by decide) d (m + 13) hd (by omega)
          by_cases c4 : wqs (tp90 h0) L b [114, 111, 117, 110, 100] = true
          · rw [if_pos c4] at q4
            subst q4
            exact ⟨4, g4, m + 10, by rw [if_neg c0, if_neg c1, if_neg c2, if_neg c3, if_pos c4]; rfl, r4, t4, by omega, (xp_w_f0 (q_84 hr) e0).trans ((xp_w_f1 (q_84 r0) e1).trans ((xp_w_f2 (q_84 r1) e2).trans ((xp_w_f3 (q_84 r2) e3).trans (xp_w_t4 (q_84 r3) e4))))⟩
          · rw [if_neg c4] at q4
            subst q4
            obtain ⟨y5, g5, e5, q5, r5, t5⟩ := x_word hE hsm hL hp r4 hq hpq hbq t4 (w := 45) (u := [112, 97, 114, 116]) (by decide) (by decide) d (m + 9) hd (by omega)
            by_cases c5 : wqs (tp90 h0) L b [112, 97, 114, 116] = true
            · rw [if_pos c5] at q5
              subst q5
              exact ⟨5, g5, m + 6, by rw [if_neg c0, if_neg c1, if_neg c2, if_neg c3, if_neg c4, if_pos c5]; rfl, r5, t5, by omega, (xp_w_f0 (q_84 hr) e0).trans ((xp_w_f1 (q_84 r0) e1).trans ((xp_w_f2 (q_84 r1) e2).trans ((xp_w_f3 (q_84 r2) e3).trans ((xp_w_f4 (q_84 r3) e4).trans (xp_w_t5 (q_84 r4) e5)))))⟩
            · rw [if_neg c5] at q5
              subst q5
              exact ⟨-1, g5, m + 7, by rw [if_neg c0, if_neg c1, if_neg c2, if_neg c3, if_neg c4, if_neg c5]; rfl, r5, t5, by omega, (xp_w_f0 (q_84 hr) e0).trans ((xp_w_f1 (q_84 r0) e1).trans ((xp_w_f2 (q_84 r1) e2).trans ((xp_w_f3 (q_84 r2) e3).trans ((xp_w_f4 (q_84 r3) e4).trans (xp_w_f5 (q_84 r4) e5)))))⟩

set_option maxRecDepth 100000 in
theorem xo_w_t0 {E : zE} {n d : Nat} {h h1 : zH}  (ha : zat h.1 84 = some (.inr (.inl (12, [none, some (some 85), some (some 86), some (some 87), some (some 88), some (some 89), none, none, some (some 90), none, none, none, none, none, none, some (some 91), none, some (some 92), some (some 93)])))) (e1 : zex E (n + 3) d 237 0 [some (.ref 84), some (.retAddr 24), none, none] [] h = some (.inl (some (.int 1)), h1)) : zex E (n + 6) (d + 1) 242 0 [some (.ref 84)] [] h = zex E n (d + 1) 242 66 [some (.ref 84)] [.int 0] h1 :=
  ((zx1 zfq242_0).trans rfl : zex E (n + 6) (d + 1) 242 0 [some (.ref 84)] [] h = zex E (n + 5) (d + 1) 242 1 [some (.ref 84)] [.ref 84] h).trans (((zx1 zfq242_1).trans rfl : zex E (n + 5) (d + 1) 242 1 [some (.ref 84)] [.ref 84] h = zex E (n + 4) (d + 1) 242 3 [some (.ref 84)] [.retAddr 24, .ref 84] h).trans ((zcvg (as := [.retAddr 24]) (r := []) zfq242_3 znq237 rfl ha rfl e1 : zex E (n + 4) (d + 1) 242 3 [some (.ref 84)] [.retAddr 24, .ref 84] h = zex E (n + 3) (d + 1) 242 6 [some (.ref 84)] [.int 1] h1).trans (((zx1 zfq242_6).trans rfl : zex E (n + 3) (d + 1) 242 6 [some (.ref 84)] [.int 1] h1 = zex E (n + 2) (d + 1) 242 9 [some (.ref 84)] [] h1).trans (((zx1 zfq242_9).trans rfl : zex E (n + 2) (d + 1) 242 9 [some (.ref 84)] [] h1 = zex E (n + 1) (d + 1) 242 10 [some (.ref 84)] [.int 0] h1).trans (((zx1 zfq242_10).trans rfl : zex E (n + 1) (d + 1) 242 10 [some (.ref 84)] [.int 0] h1 = zex E n (d + 1) 242 66 [some (.ref 84)] [.int 0] h1))))))
set_option maxRecDepth 100000 in
theorem xo_w_f0 {E : zE} {n d : Nat} {h h1 : zH}  (ha : zat h.1 84 = some (.inr (.inl (12, [none, some (some 85), some (some 86), some (some 87), some (some 88), some (some 89), none, none, some (some 90), none, none, none, none, none, none, some (some 91), none, some (some 92), some (some 93)])))) (e1 : zex E (n + 1) d 237 0 [some (.ref 84), some (.retAddr 24), none, none] [] h = some (.inl (some (.int 0)), h1)) : zex E (n + 4) (d + 1) 242 0 [some (.ref 84)] [] h = zex E n (d + 1) 242 13 [some (.ref 84)] [] h1 :=
  ((zx1 zfq242_0).trans rfl : zex E (n + 4) (d + 1) 242 0 [some (.ref 84)] [] h = zex E (n + 3) (d + 1) 242 1 [some (.ref 84)] [.ref 84] h).trans (((zx1 zfq242_1).trans rfl : zex E (n + 3) (d + 1) 242 1 [some (.ref 84)] [.ref 84] h = zex E (n + 2) (d + 1) 242 3 [some (.ref 84)] [.retAddr 24, .ref 84] h).trans ((zcvg (as := [.retAddr 24]) (r := []) zfq242_3 znq237 rfl ha rfl e1 : zex E (n + 2) (d + 1) 242 3 [some (.ref 84)] [.retAddr 24, .ref 84] h = zex E (n + 1) (d + 1) 242 6 [some (.ref 84)] [.int 0] h1).trans (((zx1 zfq242_6).trans rfl : zex E (n + 1) (d + 1) 242 6 [some (.ref 84)] [.int 0] h1 = zex E n (d + 1) 242 13 [some (.ref 84)] [] h1))))
set_option maxRecDepth 100000 in
theorem xo_w_t1 {E : zE} {n d : Nat} {h h1 : zH}  (ha : zat h.1 84 = some (.inr (.inl (12, [none, some (some 85), some (some 86), some (some 87), some (some 88), some (some 89), none, none, some (some 90), none, none, none, none, none, none, some (some 91), none, some (some 92), some (some 93)])))) (e1 : zex E (n + 3) d 237 0 [some (.ref 84), some (.retAddr 25), none, none] [] h = some (.inl (some (.int 1)), h1)) : zex E (n + 6) (d + 1) 242 13 [some (.ref 84)] [] h = zex E n (d + 1) 242 66 [some (.ref 84)] [.int 1] h1 :=
  ((zx1 zfq242_13).trans rfl : zex E (n + 6) (d + 1) 242 13 [some (.ref 84)] [] h = zex E (n + 5) (d + 1) 242 14 [some (.ref 84)] [.ref 84] h).trans (((zx1 zfq242_14).trans rfl : zex E (n + 5) (d + 1) 242 14 [some (.ref 84)] [.ref 84] h = zex E (n + 4) (d + 1) 242 16 [some (.ref 84)] [.retAddr 25, .ref 84] h).trans ((zcvg (as := [.retAddr 25]) (r := []) zfq242_16 znq237 rfl ha rfl e1 : zex E (n + 4) (d + 1) 242 16 [some (.ref 84)] [.retAddr 25, .ref 84] h = zex E (n + 3) (d + 1) 242 19 [some (.ref 84)] [.int 1] h1).trans (((zx1 zfq242_19).trans rfl : zex E (n + 3) (d + 1) 242 19 [some (.ref 84)] [.int 1] h1 = zex E (n + 2) (d + 1) 242 22 [some (.ref 84)] [] h1).trans (((zx1 zfq242_22).trans rfl : zex E (n + 2) (d + 1) 242 22 [some (.ref 84)] [] h1 = zex E (n + 1) (d + 1) 242 23 [some (.ref 84)] [.int 1] h1).trans (((zx1 zfq242_23).trans rfl : zex E (n + 1) (d + 1) 242 23 [some (.ref 84)] [.int 1] h1 = zex E n (d + 1) 242 66 [some (.ref 84)] [.int 1] h1))))))
set_option maxRecDepth 100000 in
theorem xo_w_f1 {E : zE} {n d : Nat} {h h1 : zH}  (ha : zat h.1 84 = some (.inr (.inl (12, [none, some (some 85), some (some 86), some (some 87), some (some 88), some (some 89), none, none, some (some 90), none, none, none, none, none, none, some (some 91), none, some (some 92), some (some 93)])))) (e1 : zex E (n + 1) d 237 0 [some (.ref 84), some (.retAddr 25), none, none] [] h = some (.inl (some (.int 0)), h1)) : zex E (n + 4) (d + 1) 242 13 [some (.ref 84)] [] h = zex E n (d + 1) 242 26 [some (.ref 84)] [] h1 :=
  ((zx1 zfq242_13).trans rfl : zex E (n + 4) (d + 1) 242 13 [some (.ref 84)] [] h = zex E (n + 3) (d + 1) 242 14 [some (.ref 84)] [.ref 84] h).trans (((zx1 zfq242_14).trans rfl : zex E (n + 3) (d + 1) 242 14 [some (.ref 84)] [.ref 84] h = zex E (n + 2) (d + 1) 242 16 [some (.ref 84)] [.retAddr 25, .ref 84] h).trans ((zcvg (as := [.retAddr 25]) (r := []) zfq242_16 znq237 rfl ha rfl e1 : zex E (n + 2) (d + 1) 242 16 [some (.ref 84)] [.retAddr 25, .ref 84] h = zex E (n + 1) (d + 1) 242 19 [some (.ref 84)] [.int 0] h1).trans (((zx1 zfq242_19).trans rfl : zex E (n + 1) (d + 1) 242 19 [some (.ref 84)] [.int 0] h1 = zex E n (d + 1) 242 26 [some (.ref 84)] [] h1))))
set_option maxRecDepth 100000 in
theorem xo_w_t2 {E : zE} {n d : Nat} {h h1 : zH}  (ha : zat h.1 84 = some (.inr (.inl (12, [none, some (some 85), some (some 86), some (some 87), some (some 88), some (some 89), none, none, some (some 90), none, none, none, none, none, none, some (some 91), none, some (some 92), some (some 93)])))) (e1 : zex E (n + 3) d 237 0 [some (.ref 84), some (.retAddr 26), none, none] [] h = some (.inl (some (.int 1)), h1)) : zex E (n + 6) (d + 1) 242 26 [some (.ref 84)] [] h = zex E n (d + 1) 242 66 [some (.ref 84)] [.int 2] h1 :=
  ((zx1 zfq242_26).trans rfl : zex E (n + 6) (d + 1) 242 26 [some (.ref 84)] [] h = zex E (n + 5) (d + 1) 242 27 [some (.ref 84)] [.ref 84] h).trans (((zx1 zfq242_27).trans rfl : zex E (n + 5) (d + 1) 242 27 [some (.ref 84)] [.ref 84] h = zex E (n + 4) (d + 1) 242 29 [some (.ref 84)] [.retAddr 26, .ref 84] h).trans ((zcvg (as := [.retAddr 26]) (r := []) zfq242_29 znq237 rfl ha rfl e1 : zex E (n + 4) (d + 1) 242 29 [some (.ref 84)] [.retAddr 26, .ref 84] h = zex E (n + 3) (d + 1) 242 32 [some (.ref 84)] [.int 1] h1).trans (((zx1 zfq242_32).trans rfl : zex E (n + 3) (d + 1) 242 32 [some (.ref 84)] [.int 1] h1 = zex E (n + 2) (d + 1) 242 35 [some (.ref 84)] [] h1).trans (((zx1 zfq242_35).trans rfl : zex E (n + 2) (d + 1) 242 35 [some (.ref 84)] [] h1 = zex E (n + 1) (d + 1) 242 36 [some (.ref 84)] [.int 2] h1).trans (((zx1 zfq242_36).trans rfl : zex E (n + 1) (d + 1) 242 36 [some (.ref 84)] [.int 2] h1 = zex E n (d + 1) 242 66 [some (.ref 84)] [.int 2] h1))))))
set_option maxRecDepth 100000 in
theorem xo_w_f2 {E : zE} {n d : Nat} {h h1 : zH}  (ha : zat h.1 84 = some (.inr (.inl (12, [none, some (some 85), some (some 86), some (some 87), some (some 88), some (some 89), none, none, some (some 90), none, none, none, none, none, none, some (some 91), none, some (some 92), some (some 93)])))) (e1 : zex E (n + 1) d 237 0 [some (.ref 84), some (.retAddr 26), none, none] [] h = some (.inl (some (.int 0)), h1)) : zex E (n + 4) (d + 1) 242 26 [some (.ref 84)] [] h = zex E n (d + 1) 242 39 [some (.ref 84)] [] h1 :=
  ((zx1 zfq242_26).trans rfl : zex E (n + 4) (d + 1) 242 26 [some (.ref 84)] [] h = zex E (n + 3) (d + 1) 242 27 [some (.ref 84)] [.ref 84] h).trans (((zx1 zfq242_27).trans rfl : zex E (n + 3) (d + 1) 242 27 [some (.ref 84)] [.ref 84] h = zex E (n + 2) (d + 1) 242 29 [some (.ref 84)] [.retAddr 26, .ref 84] h).trans ((zcvg (as := [.retAddr 26]) (r := []) zfq242_29 znq237 rfl ha rfl e1 : zex E (n + 2) (d + 1) 242 29 [some (.ref 84)] [.retAddr 26, .ref 84] h = zex E (n + 1) (d + 1) 242 32 [some (.ref 84)] [.int 0] h1).trans (((zx1 zfq242_32).trans rfl : zex E (n + 1) (d + 1) 242 32 [some (.ref 84)] [.int 0] h1 = zex E n (d + 1) 242 39 [some (.ref 84)] [] h1))))
set_option maxRecDepth 100000 in
theorem xo_w_t3 {E : zE} {n d : Nat} {h h1 : zH}  (ha : zat h.1 84 = some (.inr (.inl (12, [none, some (some 85), some (some 86), some (some 87), some (some 88), some (some 89), none, none, some (some 90), none, none, none, none, none, none, some (some 91), none, some (some 92), some (some 93)])))) (e1 : zex E (n + 3) d 237 0 [some (.ref 84), some (.retAddr 27), none, none] [] h = some (.inl (some (.int 1)), h1)) : zex E (n + 6) (d + 1) 242 39 [some (.ref 84)] [] h = zex E n (d + 1) 242 66 [some (.ref 84)] [.int 3] h1 :=
  ((zx1 zfq242_39).trans rfl : zex E (n + 6) (d + 1) 242 39 [some (.ref 84)] [] h = zex E (n + 5) (d + 1) 242 40 [some (.ref 84)] [.ref 84] h).trans (((zx1 zfq242_40).trans rfl : zex E (n + 5) (d + 1) 242 40 [some (.ref 84)] [.ref 84] h = zex E (n + 4) (d + 1) 242 42 [some (.ref 84)] [.retAddr 27, .ref 84] h).trans ((zcvg (as := [.retAddr 27]) (r := []) zfq242_42 znq237 rfl ha rfl e1 : zex E (n + 4) (d + 1) 242 42 [some (.ref 84)] [.retAddr 27, .ref 84] h = zex E (n + 3) (d + 1) 242 45 [some (.ref 84)] [.int 1] h1).trans (((zx1 zfq242_45).trans rfl : zex E (n + 3) (d + 1) 242 45 [some (.ref 84)] [.int 1] h1 = zex E (n + 2) (d + 1) 242 48 [some (.ref 84)] [] h1).trans (((zx1 zfq242_48).trans rfl : zex E (n + 2) (d + 1) 242 48 [some (.ref 84)] [] h1 = zex E (n + 1) (d + 1) 242 49 [some (.ref 84)] [.int 3] h1).trans (((zx1 zfq242_49).trans rfl : zex E (n + 1) (d + 1) 242 49 [some (.ref 84)] [.int 3] h1 = zex E n (d + 1) 242 66 [some (.ref 84)] [.int 3] h1))))))
set_option maxRecDepth 100000 in
theorem xo_w_f3 {E : zE} {n d : Nat} {h h1 : zH}  (ha : zat h.1 84 = some (.inr (.inl (12, [none, some (some 85), some (some 86), some (some 87), some (some 88), some (some 89), none, none, some (some 90), none, none, none, none, none, none, some (some 91), none, some (some 92), some (some 93)])))) (e1 : zex E (n + 1) d 237 0 [some (.ref 84), some (.retAddr 27), none, none] [] h = some (.inl (some (.int 0)), h1)) : zex E (n + 4) (d + 1) 242 39 [some (.ref 84)] [] h = zex E n (d + 1) 242 52 [some (.ref 84)] [] h1 :=
  ((zx1 zfq242_39).trans rfl : zex E (n + 4) (d + 1) 242 39 [some (.ref 84)] [] h = zex E (n + 3) (d + 1) 242 40 [some (.ref 84)] [.ref 84] h).trans (((zx1 zfq242_40).trans rfl : zex E (n + 3) (d + 1) 242 40 [some (.ref 84)] [.ref 84] h = zex E (n + 2) (d + 1) 242 42 [some (.ref 84)] [.retAddr 27, .ref 84] h).trans ((zcvg (as := [.retAddr 27]) (r := []) zfq242_42 znq237 rfl ha rfl e1 : zex E (n + 2) (d + 1) 242 42 [some (.ref 84)] [.retAddr 27, .ref 84] h = zex E (n + 1) (d + 1) 242 45 [some (.ref 84)] [.int 0] h1).trans (((zx1 zfq242_45).trans rfl : zex E (n + 1) (d + 1) 242 45 [some (.ref 84)] [.int 0] h1 = zex E n (d + 1) 242 52 [some (.ref 84)] [] h1))))
set_option maxRecDepth 100000 in
theorem xo_w_t4 {E : zE} {n d : Nat} {h h1 : zH}  (ha : zat h.1 84 = some (.inr (.inl (12, [none, some (some 85), some (some 86), some (some 87), some (some 88), some (some 89), none, none, some (some 90), none, none, none, none, none, none, some (some 91), none, some (some 92), some (some 93)])))) (e1 : zex E (n + 3) d 237 0 [some (.ref 84), some (.retAddr 28), none, none] [] h = some (.inl (some (.int 1)), h1)) : zex E (n + 6) (d + 1) 242 52 [some (.ref 84)] [] h = zex E n (d + 1) 242 66 [some (.ref 84)] [.int 4] h1 :=
  ((zx1 zfq242_52).trans rfl : zex E (n + 6) (d + 1) 242 52 [some (.ref 84)] [] h = zex E (n + 5) (d + 1) 242 53 [some (.ref 84)] [.ref 84] h).trans (((zx1 zfq242_53).trans rfl : zex E (n + 5) (d + 1) 242 53 [some (.ref 84)] [.ref 84] h = zex E (n + 4) (d + 1) 242 55 [some (.ref 84)] [.retAddr 28, .ref 84] h).trans ((zcvg (as := [.retAddr 28]) (r := []) zfq242_55 znq237 rfl ha rfl e1 : zex E (n + 4) (d + 1) 242 55 [some (.ref 84)] [.retAddr 28, .ref 84] h = zex E (n + 3) (d + 1) 242 58 [some (.ref 84)] [.int 1] h1).trans (((zx1 zfq242_58).trans rfl : zex E (n + 3) (d + 1) 242 58 [some (.ref 84)] [.int 1] h1 = zex E (n + 2) (d + 1) 242 61 [some (.ref 84)] [] h1).trans (((zx1 zfq242_61).trans rfl : zex E (n + 2) (d + 1) 242 61 [some (.ref 84)] [] h1 = zex E (n + 1) (d + 1) 242 62 [some (.ref 84)] [.int 4] h1).trans (((zx1 zfq242_62).trans rfl : zex E (n + 1) (d + 1) 242 62 [some (.ref 84)] [.int 4] h1 = zex E n (d + 1) 242 66 [some (.ref 84)] [.int 4] h1))))))
set_option maxRecDepth 100000 in
theorem xo_w_f4 {E : zE} {n d : Nat} {h h1 : zH}  (ha : zat h.1 84 = some (.inr (.inl (12, [none, some (some 85), some (some 86), some (some 87), some (some 88), some (some 89), none, none, some (some 90), none, none, none, none, none, none, some (some 91), none, some (some 92), some (some 93)])))) (e1 : zex E (n + 2) d 237 0 [some (.ref 84), some (.retAddr 28), none, none] [] h = some (.inl (some (.int 0)), h1)) : zex E (n + 5) (d + 1) 242 52 [some (.ref 84)] [] h = zex E n (d + 1) 242 66 [some (.ref 84)] [.int (-1)] h1 :=
  ((zx1 zfq242_52).trans rfl : zex E (n + 5) (d + 1) 242 52 [some (.ref 84)] [] h = zex E (n + 4) (d + 1) 242 53 [some (.ref 84)] [.ref 84] h).trans (((zx1 zfq242_53).trans rfl : zex E (n + 4) (d + 1) 242 53 [some (.ref 84)] [.ref 84] h = zex E (n + 3) (d + 1) 242 55 [some (.ref 84)] [.retAddr 28, .ref 84] h).trans ((zcvg (as := [.retAddr 28]) (r := []) zfq242_55 znq237 rfl ha rfl e1 : zex E (n + 3) (d + 1) 242 55 [some (.ref 84)] [.retAddr 28, .ref 84] h = zex E (n + 2) (d + 1) 242 58 [some (.ref 84)] [.int 0] h1).trans (((zx1 zfq242_58).trans rfl : zex E (n + 2) (d + 1) 242 58 [some (.ref 84)] [.int 0] h1 = zex E (n + 1) (d + 1) 242 65 [some (.ref 84)] [] h1).trans (((zx1 zfq242_65).trans rfl : zex E (n + 1) (d + 1) 242 65 [some (.ref 84)] [] h1 = zex E n (d + 1) 242 66 [some (.ref 84)] [.int (-1)] h1)))))
set_option maxRecDepth 100000 in
theorem xo_w {E : zE} {B : Nat} {h0 h : zH} {L p b k dp q : Nat}  (hE : E.1 < 2147483648) (hsm : bSO E ctb B (60, smT)) (hL : L ≤ 400) (hp : p ≤ L) (hr : bRQ ctb wN h0 0 0 h) (hq : q ≤ L) (hpq : p = sk isLt (tp90 h0) L b) (hbq : b = sk isBl (tp90 h0) L q) (ht : MT h L p b k dp) :
    ∀ d m, 60 ≤ d → B + 1000000 ≤ m → ∃ (x : Int32) (h1 : zH) (m1 : Nat), x.toInt = (if wqs (tp90 h0) L b [111, 117, 116] = true then 0 else if wqs (tp90 h0) L b [115, 116, 111, 110, 101] = true then 1 else if wqs (tp90 h0) L b [99, 97, 114, 112, 101, 116] = true then 2 else if wqs (tp90 h0) L b [98, 101, 100] = true then 3 else if wqs (tp90 h0) L b [100, 114, 97, 105, 110] = true then 4 else -1) ∧ bRQ ctb wN h0 0 0 h1 ∧ MT h1 L p b k dp ∧ m ≤ m1 ∧ zex E (m + 28) (d + 1) 242 0 [some (.ref 84)] [] h = zex E m1 (d + 1) 242 66 [some (.ref 84)] (.int x :: []) h1 := by
  intro d m hd hm
  obtain ⟨y0, g0, e0, q0, r0, t0⟩ := x_word hE hsm hL hp hr hq hpq hbq ht (w := 24) (u := [111, 117, 116]) (by decide) (by decide) d (m + 25) hd (by omega)
  by_cases c0 : wqs (tp90 h0) L b [111, 117, 116] = true
  · rw [if_pos c0] at q0
    subst q0
    exact ⟨0, g0, m + 22, by rw [if_pos c0]; rfl, r0, t0, by omega, xo_w_t0 (q_84 hr) e0⟩
  · rw [if_neg c0] at q0
    subst q0
    obtain ⟨y1, g1, e1, q1, r1, t1⟩ := x_word hE hsm hL hp r0 hq hpq hbq t0 (w := 25) (u := [115, 116, 111, 110, 101]) (by decide) (by decide) d (m + 21) hd (by omega)
    by_cases c1 : wqs (tp90 h0) L b [115, 116, 111, 110, 101] = true
    · rw [if_pos c1] at q1
      subst q1
      exact ⟨1, g1, m + 18, by rw [if_neg c0, if_pos c1]; rfl, r1, t1, by omega, (xo_w_f0 (q_84 hr) e0).trans (xo_w_t1 (q_84 r0) e1)⟩
    · rw [if_neg c1] at q1
      subst q1
      obtain ⟨y2, g2, e2, q2, r2, t2⟩ := x_word hE hsm hL hp r1 hq hpq hbq t1 (w := 26) (u := [99, 97, 114, 112, 101, 116]) (by decide) (by decide) d (m + 17) hd (by omega)
      by_cases c2 : wqs (tp90 h0) L b [99, 97, 114, 112, 101, 116] = true
      · rw [if_pos c2] at q2
        subst q2
        exact ⟨2, g2, m + 14, by rw [if_neg c0, if_neg c1, if_pos c2]; rfl, r2, t2, by omega, (xo_w_f0 (q_84 hr) e0).trans ((xo_w_f1 (q_84 r0) e1).trans (xo_w_t2 (q_84 r1) e2))⟩
      · rw [if_neg c2] at q2
        subst q2
        obtain ⟨y3, g3, e3, q3, r3, t3⟩ := x_word hE hsm hL hp r2 hq hpq hbq t2 (w := 27) (u := [98, 101, 100]) (by decide) (by decide) d (m + 13) hd (by omega)
        by_cases c3 : wqs (tp90 h0) L b [98, 101, 100] = true
        · rw [if_pos c3] at q3
          subst q3
          exact ⟨3, g3, m + 10, by rw [if_neg c0, if_neg c1, if_neg c2, if_pos c3]; rfl, r3, t3, by omega, (xo_w_f0 (q_84 hr) e0).trans ((xo_w_f1 (q_84 r0) e1).trans ((xo_w_f2 (q_84 r1) e2).trans (xo_w_t3 (q_84 r2) e3)))⟩
        · rw [if_neg c3] at q3
          subst q3
          obtain ⟨y4, g4, e4, q4, r4, t4⟩ := x_word hE hsm hL hp r3 hq hpq hbq t3 (w := 28) (u := [100, 114, 97, 105, 110]) (by decide) (by decide) d (m + 9) hd (by omega)
          by_cases c4 : wqs (tp90 h0) L b [100, 114, 97, 105, 110] = true
          · rw [if_pos c4] at q4
            subst q4
            exact ⟨4, g4, m + 6, by rw [if_neg c0, if_neg c1, if_neg c2, if_neg c3, if_pos c4]; rfl, r4, t4, by omega, (xo_w_f0 (q_84 hr) e0).trans ((xo_w_f1 (q_84 r0) e1).trans ((xo_w_f2 (q_84 r1) e2).trans ((xo_w_f3 (q_84 r2) e3).trans (xo_w_t4 (q_84 r3) e4))))⟩
          · rw [if_neg c4] at q4
            subst q4
            exact ⟨-1, g4, m + 7, by rw [if_neg c0, if_neg c1, if_neg c2, if_neg c3, if_neg c4]; rfl, r4, t4, by omega, (xo_w_f0 (q_84 hr) e0).trans ((xo_w_f1 (q_84 r0) e1).trans ((xo_w_f2 (q_84 r1) e2).trans ((xo_w_f3 (q_84 r2) e3).trans (xo_w_f4 (q_84 r3) e4))))⟩

set_option maxRecDepth 100000 in
theorem xw_w_t0 {E : zE} {n d : Nat} {h h1 : zH} {y : Int32} {u1 : Option Value} (ha : zat h.1 84 = some (.inr (.inl (12, [none, some (some 85), some (some 86), some (some 87), some (some 88), some (some 89), none, none, some (some 90), none, none, none, none, none, none, some (some 91), none, some (some 92), some (some 93)])))) (e1 : zex E (n + 3) d 237 0 [some (.ref 84), some (.retAddr 37), none, none] [] h = some (.inl (some (.int 1)), h1)) : zex E (n + 6) (d + 1) 262 13 [some (.ref 84), u1, some (.int y)] [.int y, .ref 85] h = zex E n (d + 1) 262 66 [some (.ref 84), u1, some (.int y)] [.int 0, .int y, .ref 85] h1 :=
  ((zx1 zfq262_13).trans rfl : zex E (n + 6) (d + 1) 262 13 [some (.ref 84), u1, some (.int y)] [.int y, .ref 85] h = zex E (n + 5) (d + 1) 262 14 [some (.ref 84), u1, some (.int y)] [.ref 84, .int y, .ref 85] h).trans (((zx1 zfq262_14).trans rfl : zex E (n + 5) (d + 1) 262 14 [some (.ref 84), u1, some (.int y)] [.ref 84, .int y, .ref 85] h = zex E (n + 4) (d + 1) 262 16 [some (.ref 84), u1, some (.int y)] [.retAddr 37, .ref 84, .int y, .ref 85] h).trans ((zcvg (as := [.retAddr 37]) (r := [.int y, .ref 85]) zfq262_16 znq237 rfl ha rfl e1 : zex E (n + 4) (d + 1) 262 16 [some (.ref 84), u1, some (.int y)] [.retAddr 37, .ref 84, .int y, .ref 85] h = zex E (n + 3) (d + 1) 262 19 [some (.ref 84), u1, some (.int y)] [.int 1, .int y, .ref 85] h1).trans (((zx1 zfq262_19).trans rfl : zex E (n + 3) (d + 1) 262 19 [some (.ref 84), u1, some (.int y)] [.int 1, .int y, .ref 85] h1 = zex E (n + 2) (d + 1) 262 22 [some (.ref 84), u1, some (.int y)] [.int y, .ref 85] h1).trans (((zx1 zfq262_22).trans rfl : zex E (n + 2) (d + 1) 262 22 [some (.ref 84), u1, some (.int y)] [.int y, .ref 85] h1 = zex E (n + 1) (d + 1) 262 23 [some (.ref 84), u1, some (.int y)] [.int 0, .int y, .ref 85] h1).trans (((zx1 zfq262_23).trans rfl : zex E (n + 1) (d + 1) 262 23 [some (.ref 84), u1, some (.int y)] [.int 0, .int y, .ref 85] h1 = zex E n (d + 1) 262 66 [some (.ref 84), u1, some (.int y)] [.int 0, .int y, .ref 85] h1))))))
set_option maxRecDepth 100000 in
theorem xw_w_f0 {E : zE} {n d : Nat} {h h1 : zH} {y : Int32} {u1 : Option Value} (ha : zat h.1 84 = some (.inr (.inl (12, [none, some (some 85), some (some 86), some (some 87), some (some 88), some (some 89), none, none, some (some 90), none, none, none, none, none, none, some (some 91), none, some (some 92), some (some 93)])))) (e1 : zex E (n + 1) d 237 0 [some (.ref 84), some (.retAddr 37), none, none] [] h = some (.inl (some (.int 0)), h1)) : zex E (n + 4) (d + 1) 262 13 [some (.ref 84), u1, some (.int y)] [.int y, .ref 85] h = zex E n (d + 1) 262 26 [some (.ref 84), u1, some (.int y)] [.int y, .ref 85] h1 :=
  ((zx1 zfq262_13).trans rfl : zex E (n + 4) (d + 1) 262 13 [some (.ref 84), u1, some (.int y)] [.int y, .ref 85] h = zex E (n + 3) (d + 1) 262 14 [some (.ref 84), u1, some (.int y)] [.ref 84, .int y, .ref 85] h).trans (((zx1 zfq262_14).trans rfl : zex E (n + 3) (d + 1) 262 14 [some (.ref 84), u1, some (.int y)] [.ref 84, .int y, .ref 85] h = zex E (n + 2) (d + 1) 262 16 [some (.ref 84), u1, some (.int y)] [.retAddr 37, .ref 84, .int y, .ref 85] h).trans ((zcvg (as := [.retAddr 37]) (r := [.int y, .ref 85]) zfq262_16 znq237 rfl ha rfl e1 : zex E (n + 2) (d + 1) 262 16 [some (.ref 84), u1, some (.int y)] [.retAddr 37, .ref 84, .int y, .ref 85] h = zex E (n + 1) (d + 1) 262 19 [some (.ref 84), u1, some (.int y)] [.int 0, .int y, .ref 85] h1).trans (((zx1 zfq262_19).trans rfl : zex E (n + 1) (d + 1) 262 19 [some (.ref 84), u1, some (.int y)] [.int 0, .int y, .ref 85] h1 = zex E n (d + 1) 262 26 [some (.ref 84), u1, some (.int y)] [.int y, .ref 85] h1))))
set_option maxRecDepth 100000 in
theorem xw_w_t1 {E : zE} {n d : Nat} {h h1 : zH} {y : Int32} {u1 : Option Value} (ha : zat h.1 84 = some (.inr (.inl (12, [none, some (some 85), some (some 86), some (some 87), some (some 88), some (some 89), none, none, some (some 90), none, none, none, none, none, none, some (some 91), none, some (some 92), some (some 93)])))) (e1 : zex E (n + 3) d 237 0 [some (.ref 84), some (.retAddr 38), none, none] [] h = some (.inl (some (.int 1)), h1)) : zex E (n + 6) (d + 1) 262 26 [some (.ref 84), u1, some (.int y)] [.int y, .ref 85] h = zex E n (d + 1) 262 66 [some (.ref 84), u1, some (.int y)] [.int 1, .int y, .ref 85] h1 :=
  ((zx1 zfq262_26).trans rfl : zex E (n + 6) (d + 1) 262 26 [some (.ref 84), u1, some (.int y)] [.int y, .ref 85] h = zex E (n + 5) (d + 1) 262 27 [some (.ref 84), u1, some (.int y)] [.ref 84, .int y, .ref 85] h).trans (((zx1 zfq262_27).trans rfl : zex E (n + 5) (d + 1) 262 27 [some (.ref 84), u1, some (.int y)] [.ref 84, .int y, .ref 85] h = zex E (n + 4) (d + 1) 262 29 [some (.ref 84), u1, some (.int y)] [.retAddr 38, .ref 84, .int y, .ref 85] h).trans ((zcvg (as := [.retAddr 38]) (r := [.int y, .ref 85]) zfq262_29 znq237 rfl ha rfl e1 : zex E (n + 4) (d + 1) 262 29 [some (.ref 84), u1, some (.int y)] [.retAddr 38, .ref 84, .int y, .ref 85] h = zex E (n + 3) (d + 1) 262 32 [some (.ref 84), u1, some (.int y)] [.int 1, .int y, .ref 85] h1).trans (((zx1 zfq262_32).trans rfl : zex E (n + 3) (d + 1) 262 32 [some (.ref 84), u1, some (.int y)] [.int 1, .int y, .ref 85] h1 = zex E (n + 2) (d + 1) 262 35 [some (.ref 84), u1, some (.int y)] [.int y, .ref 85] h1).trans (((zx1 zfq262_35).trans rfl : zex E (n + 2) (d + 1) 262 35 [some (.ref 84), u1, some (.int y)] [.int y, .ref 85] h1 = zex E (n + 1) (d + 1) 262 36 [some (.ref 84), u1, some (.int y)] [.int 1, .int y, .ref 85] h1).trans (((zx1 zfq262_36).trans rfl : zex E (n + 1) (d + 1) 262 36 [some (.ref 84), u1, some (.int y)] [.int 1, .int y, .ref 85] h1 = zex E n (d + 1) 262 66 [some (.ref 84), u1, some (.int y)] [.int 1, .int y, .ref 85] h1))))))
set_option maxRecDepth 100000 in
theorem xw_w_f1 {E : zE} {n d : Nat} {h h1 : zH} {y : Int32} {u1 : Option Value} (ha : zat h.1 84 = some (.inr (.inl (12, [none, some (some 85), some (some 86), some (some 87), some (some 88), some (some 89), none, none, some (some 90), none, none, none, none, none, none, some (some 91), none, some (some 92), some (some 93)])))) (e1 : zex E (n + 1) d 237 0 [some (.ref 84), some (.retAddr 38), none, none] [] h = some (.inl (some (.int 0)), h1)) : zex E (n + 4) (d + 1) 262 26 [some (.ref 84), u1, some (.int y)] [.int y, .ref 85] h = zex E n (d + 1) 262 39 [some (.ref 84), u1, some (.int y)] [.int y, .ref 85] h1 :=
  ((zx1 zfq262_26).trans rfl : zex E (n + 4) (d + 1) 262 26 [some (.ref 84), u1, some (.int y)] [.int y, .ref 85] h = zex E (n + 3) (d + 1) 262 27 [some (.ref 84), u1, some (.int y)] [.ref 84, .int y, .ref 85] h).trans (((zx1 zfq262_27).trans rfl : zex E (n + 3) (d + 1) 262 27 [some (.ref 84), u1, some (.int y)] [.ref 84, .int y, .ref 85] h = zex E (n + 2) (d + 1) 262 29 [some (.ref 84), u1, some (.int y)] [.retAddr 38, .ref 84, .int y, .ref 85] h).trans ((zcvg (as := [.retAddr 38]) (r := [.int y, .ref 85]) zfq262_29 znq237 rfl ha rfl e1 : zex E (n + 2) (d + 1) 262 29 [some (.ref 84), u1, some (.int y)] [.retAddr 38, .ref 84, .int y, .ref 85] h = zex E (n + 1) (d + 1) 262 32 [some (.ref 84), u1, some (.int y)] [.int 0, .int y, .ref 85] h1).trans (((zx1 zfq262_32).trans rfl : zex E (n + 1) (d + 1) 262 32 [some (.ref 84), u1, some (.int y)] [.int 0, .int y, .ref 85] h1 = zex E n (d + 1) 262 39 [some (.ref 84), u1, some (.int y)] [.int y, .ref 85] h1))))
set_option maxRecDepth 100000 in
theorem xw_w_t2 {E : zE} {n d : Nat} {h h1 : zH} {y : Int32} {u1 : Option Value} (ha : zat h.1 84 = some (.inr (.inl (12, [none, some (some 85), some (some 86), some (some 87), some (some 88), some (some 89), none, none, some (some 90), none, none, none, none, none, none, some (some 91), none, some (some 92), some (some 93)])))) (e1 : zex E (n + 3) d 237 0 [some (.ref 84), some (.retAddr 39), none, none] [] h = some (.inl (some (.int 1)), h1)) : zex E (n + 6) (d + 1) 262 39 [some (.ref 84), u1, some (.int y)] [.int y, .ref 85] h = zex E n (d + 1) 262 66 [some (.ref 84), u1, some (.int y)] [.int 2, .int y, .ref 85] h1 :=
  ((zx1 zfq262_39).trans rfl : zex E (n + 6) (d + 1) 262 39 [some (.ref 84), u1, some (.int y)] [.int y, .ref 85] h = zex E (n + 5) (d + 1) 262 40 [some (.ref 84), u1, some (.int y)] [.ref 84, .int y, .ref 85] h).trans (((zx1 zfq262_40).trans rfl : zex E (n + 5) (d + 1) 262 40 [some (.ref 84), u1, some (.int y)] [.ref 84, .int y, .ref 85] h = zex E (n + 4) (d + 1) 262 42 [some (.ref 84), u1, some (.int y)] [.retAddr 39, .ref 84, .int y, .ref 85] h).trans ((zcvg (as := [.retAddr 39]) (r := [.int y, .ref 85]) zfq262_42 znq237 rfl ha rfl e1 : zex E (n + 4) (d + 1) 262 42 [some (.ref 84), u1, some (.int y)] [.retAddr 39, .ref 84, .int y, .ref 85] h = zex E (n + 3) (d + 1) 262 45 [some (.ref 84), u1, some (.int y)] [.int 1, .int y, .ref 85] h1).trans (((zx1 zfq262_45).trans rfl : zex E (n + 3) (d + 1) 262 45 [some (.ref 84), u1, some (.int y)] [.int 1, .int y, .ref 85] h1 = zex E (n + 2) (d + 1) 262 48 [some (.ref 84), u1, some (.int y)] [.int y, .ref 85] h1).trans (((zx1 zfq262_48).trans rfl : zex E (n + 2) (d + 1) 262 48 [some (.ref 84), u1, some (.int y)] [.int y, .ref 85] h1 = zex E (n + 1) (d + 1) 262 49 [some (.ref 84), u1, some (.int y)] [.int 2, .int y, .ref 85] h1).trans (((zx1 zfq262_49).trans rfl : zex E (n + 1) (d + 1) 262 49 [some (.ref 84), u1, some (.int y)] [.int 2, .int y, .ref 85] h1 = zex E n (d + 1) 262 66 [some (.ref 84), u1, some (.int y)] [.int 2, .int y, .ref 85] h1))))))
set_option maxRecDepth 100000 in
theorem xw_w_f2 {E : zE} {n d : Nat} {h h1 : zH} {y : Int32} {u1 : Option Value} (ha : zat h.1 84 = some (.inr (.inl (12, [none, some (some 85), some (some 86), some (some 87), some (some 88), some (some 89), none, none, some (some 90), none, none, none, none, none, none, some (some 91), none, some (some 92), some (some 93)])))) (e1 : zex E (n + 1) d 237 0 [some (.ref 84), some (.retAddr 39), none, none] [] h = some (.inl (some (.int 0)), h1)) : zex E (n + 4) (d + 1) 262 39 [some (.ref 84), u1, some (.int y)] [.int y, .ref 85] h = zex E n (d + 1) 262 52 [some (.ref 84), u1, some (.int y)] [.int y, .ref 85] h1 :=
  ((zx1 zfq262_39).trans rfl : zex E (n + 4) (d + 1) 262 39 [some (.ref 84), u1, some (.int y)] [.int y, .ref 85] h = zex E (n + 3) (d + 1) 262 40 [some (.ref 84), u1, some (.int y)] [.ref 84, .int y, .ref 85] h).trans (((zx1 zfq262_40).trans rfl : zex E (n + 3) (d + 1) 262 40 [some (.ref 84), u1, some (.int y)] [.ref 84, .int y, .ref 85] h = zex E (n + 2) (d + 1) 262 42 [some (.ref 84), u1, some (.int y)] [.retAddr 39, .ref 84, .int y, .ref 85] h).trans ((zcvg (as := [.retAddr 39]) (r := [.int y, .ref 85]) zfq262_42 znq237 rfl ha rfl e1 : zex E (n + 2) (d + 1) 262 42 [some (.ref 84), u1, some (.int y)] [.retAddr 39, .ref 84, .int y, .ref 85] h = zex E (n + 1) (d + 1) 262 45 [some (.ref 84), u1, some (.int y)] [.int 0, .int y, .ref 85] h1).trans (((zx1 zfq262_45).trans rfl : zex E (n + 1) (d + 1) 262 45 [some (.ref 84), u1, some (.int y)] [.int 0, .int y, .ref 85] h1 = zex E n (d + 1) 262 52 [some (.ref 84), u1, some (.int y)] [.int y, .ref 85] h1))))
set_option maxRecDepth 100000 in
theorem xw_w_t3 {E : zE} {n d : Nat} {h h1 : zH} {y : Int32} {u1 : Option Value} (ha : zat h.1 84 = some (.inr (.inl (12, [none, some (some 85), some (some 86), some (some 87), some (some 88), some (some 89), none, none, some (some 90), none, none, none, none, none, none, some (some 91), none, some (some 92), some (some 93)])))) (e1 : zex E (n + 3) d 237 0 [some (.ref 84), some (.retAddr 40), none, none] [] h = some (.inl (some (.int 1)), h1)) : zex E (n + 6) (d + 1) 262 52 [some (.ref 84), u1, some (.int y)] [.int y, .ref 85] h = zex E n (d + 1) 262 66 [some (.ref 84), u1, some (.int y)] [.int 3, .int y, .ref 85] h1 :=
  ((zx1 zfq262_52).trans rfl : zex E (n + 6) (d + 1) 262 52 [some (.ref 84), u1, some (.int y)] [.int y, .ref 85] h = zex E (n + 5) (d + 1) 262 53 [some (.ref 84), u1, some (.int y)] [.ref 84, .int y, .ref 85] h).trans (((zx1 zfq262_53).trans rfl : zex E (n + 5) (d + 1) 262 53 [some (.ref 84), u1, some (.int y)] [.ref 84, .int y, .ref 85] h = zex E (n + 4) (d + 1) 262 55 [some (.ref 84), u1, some (.int y)] [.retAddr 40, .ref 84, .int y, .ref 85] h).trans ((zcvg (as := [.retAddr 40]) (r := [.int y, .ref 85]) zfq262_55 znq237 rfl ha rfl e1 : zex E (n + 4) (d + 1) 262 55 [some (.ref 84), u1, some (.int y)] [.retAddr 40, .ref 84, .int y, .ref 85] h = zex E (n + 3) (d + 1) 262 58 [some (.ref 84), u1, some (.int y)] [.int 1, .int y, .ref 85] h1).trans (((zx1 zfq262_58).trans rfl : zex E (n + 3) (d + 1) 262 58 [some (.ref 84), u1, some (.int y)] [.int 1, .int y, .ref 85] h1 = zex E (n + 2) (d + 1) 262 61 [some (.ref 84), u1, some (.int y)] [.int y, .ref 85] h1).trans (((zx1 zfq262_61).trans rfl : zex E (n + 2) (d + 1) 262 61 [some (.ref 84), u1, some (.int y)] [.int y, .ref 85] h1 = zex E (n + 1) (d + 1) 262 62 [some (.ref 84), u1, some (.int y)] [.int 3, .int y, .ref 85] h1).trans (((zx1 zfq262_62).trans rfl : zex E (n + 1) (d + 1) 262 62 [some (.ref 84), u1, some (.int y)] [.int 3, .int y, .ref 85] h1 = zex E n (d + 1) 262 66 [some (.ref 84), u1, some (.int y)] [.int 3, .int y, .ref 85] h1))))))
set_option maxRecDepth 100000 in
theorem xw_w_f3 {E : zE} {n d : Nat} {h h1 : zH} {y : Int32} {u1 : Option Value} (ha : zat h.1 84 = some (.inr (.inl (12, [none, some (some 85), some (some 86), some (some 87), some (some 88), some (some 89), none, none, some (some 90), none, none, none, none, none, none, some (some 91), none, some (some 92), some (some 93)])))) (e1 : zex E (n + 2) d 237 0 [some (.ref 84), some (.retAddr 40), none, none] [] h = some (.inl (some (.int 0)), h1)) : zex E (n + 5) (d + 1) 262 52 [some (.ref 84), u1, some (.int y)] [.int y, .ref 85] h = zex E n (d + 1) 262 66 [some (.ref 84), u1, some (.int y)] [.int (-1), .int y, .ref 85] h1 :=
  ((zx1 zfq262_52).trans rfl : zex E (n + 5) (d + 1) 262 52 [some (.ref 84), u1, some (.int y)] [.int y, .ref 85] h = zex E (n + 4) (d + 1) 262 53 [some (.ref 84), u1, some (.int y)] [.ref 84, .int y, .ref 85] h).trans (((zx1 zfq262_53).trans rfl : zex E (n + 4) (d + 1) 262 53 [some (.ref 84), u1, some (.int y)] [.ref 84, .int y, .ref 85] h = zex E (n + 3) (d + 1) 262 55 [some (.ref 84), u1, some (.int y)] [.retAddr 40, .ref 84, .int y, .ref 85] h).trans ((zcvg (as := [.retAddr 40]) (r := [.int y, .ref 85]) zfq262_55 znq237 rfl ha rfl e1 : zex E (n + 3) (d + 1) 262 55 [some (.ref 84), u1, some (.int y)] [.retAddr 40, .ref 84, .int y, .ref 85] h = zex E (n + 2) (d + 1) 262 58 [some (.ref 84), u1, some (.int y)] [.int 0, .int y, .ref 85] h1).trans (((zx1 zfq262_58).trans rfl : zex E (n + 2) (d + 1) 262 58 [some (.ref 84), u1, some (.int y)] [.int 0, .int y, .ref 85] h1 = zex E (n + 1) (d + 1) 262 65 [some (.ref 84), u1, some (.int y)] [.int y, .ref 85] h1).trans (((zx1 zfq262_65).trans rfl : zex E (n + 1) (d + 1) 262 65 [some (.ref 84), u1, some (.int y)] [.int y, .ref 85] h1 = zex E n (d + 1) 262 66 [some (.ref 84), u1, some (.int y)] [.int (-1), .int y, .ref 85] h1)))))
set_option maxRecDepth 100000 in
theorem xw_w {E : zE} {B : Nat} {h0 h : zH} {L p b k dp q : Nat} {y : Int32} {u1 : Option Value} (hE : E.1 < 2147483648) (hsm : bSO E ctb B (60, smT)) (hL : L ≤ 400) (hp : p ≤ L) (hr : bRQ ctb wN h0 0 0 h) (hq : q ≤ L) (hpq : p = sk isLt (tp90 h0) L b) (hbq : b = sk isBl (tp90 h0) L q) (ht : MT h L p b k dp) :
    ∀ d m, 60 ≤ d → B + 1000000 ≤ m → ∃ (x : Int32) (h1 : zH) (m1 : Nat), x.toInt = (if wqs (tp90 h0) L b [98, 114, 105, 110, 103] = true then 0 else if wqs (tp90 h0) L b [100, 114, 111, 112] = true then 1 else if wqs (tp90 h0) L b [112, 105, 99, 107] = true then 2 else if wqs (tp90 h0) L b [115, 119, 101, 101, 112] = true then 3 else -1) ∧ bRQ ctb wN h0 0 0 h1 ∧ MT h1 L p b k dp ∧ m ≤ m1 ∧ zex E (m + 24) (d + 1) 262 13 [some (.ref 84), u1, some (.int y)] [.int y, .ref 85] h = zex E m1 (d + 1) 262 66 [some (.ref 84), u1, some (.int y)] (.int x :: [.int y, .ref 85]) h1 := by
  intro d m hd hm
  obtain ⟨y0, g0, e0, q0, r0, t0⟩ := x_word hE hsm hL hp hr hq hpq hbq ht (w := 37) (u := [98, 114, 105, 110, 103]) (by decide) (by decide) d (m + 21) hd (by omega)
  by_cases c0 : wqs (tp90 h0) L b [98, 114, 105, 110, 103] = true
  · rw [if_pos c0] at q0
    subst q0
    exact ⟨0, g0, m + 18, by rw [if_pos c0]; rfl, r0, t0, by omega, xw_w_t0 (q_84 hr) e0⟩
  · rw [if_neg c0] at q0
    subst q0
    obtain ⟨y1, g1, e1, q1, r1, t1⟩ := x_word hE hsm hL hp r0 hq hpq hbq t0 (w := 38) (u := [100, 114, 111, 112]) (by decide) (by decide) d (m + 17) hd (by omega)
    by_cases c1 : wqs (tp90 h0) L b [100, 114, 111, 112] = true
    · rw [if_pos c1] at q1
      subst q1
      exact ⟨1, g1, m + 14, by rw [if_neg c0, if_pos c1]; rfl, r1, t1, by omega, (xw_w_f0 (q_84 hr) e0).trans (xw_w_t1 (q_84 r0) e1)⟩
    · rw [if_neg c1] at q1
      subst q1
      obtain ⟨y2, g2, e2, q2, r2, t2⟩ := x_word hE hsm hL hp r1 hq hpq hbq t1 (w := 39) (u := [112, 105, 99, 107]) (by decide) (by decide) d (m + 13) hd (by omega)
      by_cases c2 : wqs (tp90 h0) L b [112, 105, 99, 107] = true
      · rw [if_pos c2] at q2
        subst q2
        exact ⟨2, g2, m + 10, by rw [if_neg c0, if_neg c1, if_pos c2]; rfl, r2, t2, by omega, (xw_w_f0 (q_84 hr) e0).trans ((xw_w_f1 (q_84 r0) e1).trans (xw_w_t2 (q_84 r1) e2))⟩
      · rw [if_neg c2] at q2
        subst q2
        obtain ⟨y3, g3, e3, q3, r3, t3⟩ := x_word hE hsm hL hp r2 hq hpq hbq t2 (w := 40) (u := [115, 119, 101, 101, 112]) (by decide) (by decide) d (m + 9) hd (by omega)
        by_cases c3 : wqs (tp90 h0) L b [115, 119, 101, 101, 112] = true
        · rw [if_pos c3] at q3
          subst q3
          exact ⟨3, g3, m + 6, by rw [if_neg c0, if_neg c1, if_neg c2, if_pos c3]; rfl, r3, t3, by omega, (xw_w_f0 (q_84 hr) e0).trans ((xw_w_f1 (q_84 r0) e1).trans ((xw_w_f2 (q_84 r1) e2).trans (xw_w_t3 (q_84 r2) e3)))⟩
        · rw [if_neg c3] at q3
          subst q3
          exact ⟨-1, g3, m + 7, by rw [if_neg c0, if_neg c1, if_neg c2, if_neg c3]; rfl, r3, t3, by omega, (xw_w_f0 (q_84 hr) e0).trans ((xw_w_f1 (q_84 r0) e1).trans ((xw_w_f2 (q_84 r1) e2).trans (xw_w_f3 (q_84 r2) e3)))⟩

