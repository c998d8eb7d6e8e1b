/-! rows of grains, copied exactly (wip/zab2/c/lgen43.py) -/
set_option maxRecDepth 100000 in
theorem yAal {E : zE} {n d mi pc ln w9 a1 a2 a3 : Nat} {z : Int32} {ls : zLs} {r : List Value} {h : zH} {t m a N o : Nat} {rf : List (Option Nat)} {j : Int32} (hf : zfetch mi pc = some (.aaload, ln, (a1, a2, a3), z, w9)) (ha : zat h.1 a = some (.inl (t, m, rf))) (ht : Nat.ble 3 t = true) (hj : j.toInt = (N : Int)) (hN : N < m) (ho : zat rf N = some (some o)) : zex E (n + 1) d mi pc ls (.int j :: .ref a :: r) h = zex E n d mi (pc + ln) ls (.ref o :: r) h := by
  refine (zx1 hf).trans ?_
  show zaldA (fun s => zex E n d mi (pc + ln) ls s h) h (.int j :: .ref a :: r) = _
  unfold zaldA
  simp only
  rw [ha]
  simp only
  rw [ht, cond_true, zck_i hj hN, ztc_i hj, ho]
  rfl
set_option maxRecDepth 100000 in
theorem yNnT {E : zE} {n d mi pc ln w9 a1 a2 a3 o : Nat} {z : Int32} {ls : zLs} {r : List Value} {h : zH} {i9 : Int} (hf : zfetch mi pc = some (.ifnonnull i9, ln, (a1, a2, a3), z, w9)) : zex E (n + 1) d mi pc ls (.ref o :: r) h = zex E n d mi a1 ls r h := by
  refine (zx1 hf).trans ?_
  rfl
set_option maxRecDepth 100000 in
theorem yNuF {E : zE} {n d mi pc ln w9 a1 a2 a3 o : Nat} {z : Int32} {ls : zLs} {r : List Value} {h : zH} {i9 : Int} (hf : zfetch mi pc = some (.ifnull i9, ln, (a1, a2, a3), z, w9)) : zex E (n + 1) d mi pc ls (.ref o :: r) h = zex E n d mi (pc + ln) ls r h := by
  refine (zx1 hf).trans ?_
  rfl
set_option maxRecDepth 100000 in
theorem zgr91_0 : zfetch 91 0 = some (.aload_n 1, 1, (0, 0, 0), 0, 0) := by decide +kernel
set_option maxRecDepth 100000 in
theorem zgr91_1 : zfetch 91 1 = some (.getfield 9, 3, (0, 0, 0), 0, 369) := by decide +kernel
set_option maxRecDepth 100000 in
theorem zgr91_4 : zfetch 91 4 = some (.iconst 0, 1, (0, 0, 0), 0, 0) := by decide +kernel
set_option maxRecDepth 100000 in
theorem zgr91_5 : zfetch 91 5 = some (.aload_n 0, 1, (0, 0, 0), 0, 0) := by decide +kernel
set_option maxRecDepth 100000 in
theorem zgr91_6 : zfetch 91 6 = some (.getfield 9, 3, (0, 0, 0), 0, 369) := by decide +kernel
set_option maxRecDepth 100000 in
theorem zgr91_9 : zfetch 91 9 = some (.iconst 0, 1, (0, 0, 0), 0, 0) := by decide +kernel
set_option maxRecDepth 100000 in
theorem zgr91_10 : zfetch 91 10 = some (.bipush 12, 2, (0, 0, 0), 12, 0) := by decide +kernel
set_option maxRecDepth 100000 in
theorem zgr91_12 : zfetch 91 12 = some (.invokestatic 52, 3, (6, 0, 0), 0, 634) := by decide +kernel
set_option maxRecDepth 100000 in
theorem zgr91_15 : zfetch 91 15 = some (.aload_n 1, 1, (0, 0, 0), 0, 0) := by decide +kernel
set_option maxRecDepth 100000 in
theorem zgr91_16 : zfetch 91 16 = some (.getfield 15, 3, (0, 1, 0), 0, 374) := by decide +kernel
set_option maxRecDepth 100000 in
theorem zgr91_19 : zfetch 91 19 = some (.iconst 0, 1, (0, 0, 0), 0, 0) := by decide +kernel
set_option maxRecDepth 100000 in
theorem zgr91_20 : zfetch 91 20 = some (.aload_n 0, 1, (0, 0, 0), 0, 0) := by decide +kernel
set_option maxRecDepth 100000 in
theorem zgr91_21 : zfetch 91 21 = some (.getfield 15, 3, (0, 1, 0), 0, 374) := by decide +kernel
set_option maxRecDepth 100000 in
theorem zgr91_24 : zfetch 91 24 = some (.iconst 0, 1, (0, 0, 0), 0, 0) := by decide +kernel
set_option maxRecDepth 100000 in
theorem zgr91_25 : zfetch 91 25 = some (.bipush 8, 2, (0, 0, 0), 8, 0) := by decide +kernel
set_option maxRecDepth 100000 in
theorem zgr91_27 : zfetch 91 27 = some (.invokestatic 52, 3, (6, 0, 0), 0, 634) := by decide +kernel
set_option maxRecDepth 100000 in
theorem zgr91_30 : zfetch 91 30 = some (.aload_n 1, 1, (0, 0, 0), 0, 0) := by decide +kernel
set_option maxRecDepth 100000 in
theorem zgr91_31 : zfetch 91 31 = some (.getfield 18, 3, (0, 2, 0), 0, 378) := by decide +kernel
set_option maxRecDepth 100000 in
theorem zgr91_34 : zfetch 91 34 = some (.iconst 0, 1, (0, 0, 0), 0, 0) := by decide +kernel
set_option maxRecDepth 100000 in
theorem zgr91_35 : zfetch 91 35 = some (.aload_n 0, 1, (0, 0, 0), 0, 0) := by decide +kernel
set_option maxRecDepth 100000 in
theorem zgr91_36 : zfetch 91 36 = some (.getfield 18, 3, (0, 2, 0), 0, 378) := by decide +kernel
set_option maxRecDepth 100000 in
theorem zgr91_39 : zfetch 91 39 = some (.iconst 0, 1, (0, 0, 0), 0, 0) := by decide +kernel
set_option maxRecDepth 100000 in
theorem zgr91_40 : zfetch 91 40 = some (.bipush 8, 2, (0, 0, 0), 8, 0) := by decide +kernel
set_option maxRecDepth 100000 in
theorem zgr91_42 : zfetch 91 42 = some (.invokestatic 52, 3, (6, 0, 0), 0, 634) := by decide +kernel
set_option maxRecDepth 100000 in
theorem zgr91_45 : zfetch 91 45 = some (.aload_n 1, 1, (0, 0, 0), 0, 0) := by decide +kernel
set_option maxRecDepth 100000 in
theorem zgr91_46 : zfetch 91 46 = some (.getfield 21, 3, (0, 3, 0), 0, 383) := by decide +kernel
set_option maxRecDepth 100000 in
theorem zgr91_49 : zfetch 91 49 = some (.iconst 0, 1, (0, 0, 0), 0, 0) := by decide +kernel
set_option maxRecDepth 100000 in
theorem zgr91_50 : zfetch 91 50 = some (.aload_n 0, 1, (0, 0, 0), 0, 0) := by decide +kernel
set_option maxRecDepth 100000 in
theorem zgr91_51 : zfetch 91 51 = some (.getfield 21, 3, (0, 3, 0), 0, 383) := by decide +kernel
set_option maxRecDepth 100000 in
theorem zgr91_54 : zfetch 91 54 = some (.iconst 0, 1, (0, 0, 0), 0, 0) := by decide +kernel
set_option maxRecDepth 100000 in
theorem zgr91_55 : zfetch 91 55 = some (.bipush 8, 2, (0, 0, 0), 8, 0) := by decide +kernel
set_option maxRecDepth 100000 in
theorem zgr91_57 : zfetch 91 57 = some (.invokestatic 52, 3, (6, 0, 0), 0, 634) := by decide +kernel
set_option maxRecDepth 100000 in
theorem zgr91_60 : zfetch 91 60 = some (.aload_n 1, 1, (0, 0, 0), 0, 0) := by decide +kernel
set_option maxRecDepth 100000 in
theorem zgr91_61 : zfetch 91 61 = some (.getfield 24, 3, (0, 4, 0), 0, 387) := by decide +kernel
set_option maxRecDepth 100000 in
theorem zgr91_64 : zfetch 91 64 = some (.iconst 0, 1, (0, 0, 0), 0, 0) := by decide +kernel
set_option maxRecDepth 100000 in
theorem zgr91_65 : zfetch 91 65 = some (.aload_n 0, 1, (0, 0, 0), 0, 0) := by decide +kernel
set_option maxRecDepth 100000 in
theorem zgr91_66 : zfetch 91 66 = some (.getfield 24, 3, (0, 4, 0), 0, 387) := by decide +kernel
set_option maxRecDepth 100000 in
theorem zgr91_69 : zfetch 91 69 = some (.iconst 0, 1, (0, 0, 0), 0, 0) := by decide +kernel
set_option maxRecDepth 100000 in
theorem zgr91_70 : zfetch 91 70 = some (.bipush 96, 2, (0, 0, 0), 96, 0) := by decide +kernel
set_option maxRecDepth 100000 in
theorem zgr91_72 : zfetch 91 72 = some (.invokestatic 52, 3, (6, 0, 0), 0, 634) := by decide +kernel
set_option maxRecDepth 100000 in
theorem zgr91_75 : zfetch 91 75 = some (.aload_n 1, 1, (0, 0, 0), 0, 0) := by decide +kernel
set_option maxRecDepth 100000 in
theorem zgr91_76 : zfetch 91 76 = some (.getfield 27, 3, (0, 5, 0), 0, 390) := by decide +kernel
set_option maxRecDepth 100000 in
theorem zgr91_79 : zfetch 91 79 = some (.iconst 0, 1, (0, 0, 0), 0, 0) := by decide +kernel
set_option maxRecDepth 100000 in
theorem zgr91_80 : zfetch 91 80 = some (.aload_n 0, 1, (0, 0, 0), 0, 0) := by decide +kernel
set_option maxRecDepth 100000 in
theorem zgr91_81 : zfetch 91 81 = some (.getfield 27, 3, (0, 5, 0), 0, 390) := by decide +kernel
set_option maxRecDepth 100000 in
theorem zgr91_84 : zfetch 91 84 = some (.iconst 0, 1, (0, 0, 0), 0, 0) := by decide +kernel
set_option maxRecDepth 100000 in
theorem zgr91_85 : zfetch 91 85 = some (.bipush 64, 2, (0, 0, 0), 64, 0) := by decide +kernel
set_option maxRecDepth 100000 in
theorem zgr91_87 : zfetch 91 87 = some (.invokestatic 52, 3, (6, 0, 0), 0, 634) := by decide +kernel
set_option maxRecDepth 100000 in
theorem zgr91_90 : zfetch 91 90 = some (.aload_n 0, 1, (0, 0, 0), 0, 0) := by decide +kernel
set_option maxRecDepth 100000 in
theorem zgr91_91 : zfetch 91 91 = some (.aload_n 1, 1, (0, 0, 0), 0, 0) := by decide +kernel
set_option maxRecDepth 100000 in
theorem zgr91_92 : zfetch 91 92 = some (.getfield 30, 3, (0, 6, 0), 0, 392) := by decide +kernel
set_option maxRecDepth 100000 in
theorem zgr91_95 : zfetch 91 95 = some (.putfield 30, 3, (0, 6, 0), 0, 392) := by decide +kernel
set_option maxRecDepth 100000 in
theorem zgr91_98 : zfetch 91 98 = some (.aload_n 0, 1, (0, 0, 0), 0, 0) := by decide +kernel
set_option maxRecDepth 100000 in
theorem zgr91_99 : zfetch 91 99 = some (.aload_n 1, 1, (0, 0, 0), 0, 0) := by decide +kernel
set_option maxRecDepth 100000 in
theorem zgr91_100 : zfetch 91 100 = some (.getfield 34, 3, (0, 7, 0), 0, 395) := by decide +kernel
set_option maxRecDepth 100000 in
theorem zgr91_103 : zfetch 91 103 = some (.putfield 34, 3, (0, 7, 0), 0, 395) := by decide +kernel
set_option maxRecDepth 100000 in
theorem zgr91_106 : zfetch 91 106 = some (.aload_n 0, 1, (0, 0, 0), 0, 0) := by decide +kernel
set_option maxRecDepth 100000 in
theorem zgr91_107 : zfetch 91 107 = some (.aload_n 1, 1, (0, 0, 0), 0, 0) := by decide +kernel
set_option maxRecDepth 100000 in
theorem zgr91_108 : zfetch 91 108 = some (.getfield 37, 3, (0, 8, 0), 0, 397) := by decide +kernel
set_option maxRecDepth 100000 in
theorem zgr91_111 : zfetch 91 111 = some (.putfield 37, 3, (0, 8, 0), 0, 397) := by decide +kernel
set_option maxRecDepth 100000 in
theorem zgr91_114 : zfetch 91 114 = some (.aload_n 0, 1, (0, 0, 0), 0, 0) := by decide +kernel
set_option maxRecDepth 100000 in
theorem zgr91_115 : zfetch 91 115 = some (.aload_n 1, 1, (0, 0, 0), 0, 0) := by decide +kernel
set_option maxRecDepth 100000 in
theorem zgr91_116 : zfetch 91 116 = some (.getfield 40, 3, (0, 9, 0), 0, 401) := by decide +kernel
set_option maxRecDepth 100000 in
theorem zgr91_119 : zfetch 91 119 = some (.putfield 40, 3, (0, 9, 0), 0, 401) := by decide +kernel
set_option maxRecDepth 100000 in
theorem zgr91_122 : zfetch 91 122 = some (.aload_n 0, 1, (0, 0, 0), 0, 0) := by decide +kernel
set_option maxRecDepth 100000 in
theorem zgr91_123 : zfetch 91 123 = some (.aload_n 1, 1, (0, 0, 0), 0, 0) := by decide +kernel
set_option maxRecDepth 100000 in
theorem zgr91_124 : zfetch 91 124 = some (.getfield 43, 3, (0, 10, 0), 0, 406) := by decide +kernel
set_option maxRecDepth 100000 in
theorem zgr91_127 : zfetch 91 127 = some (.putfield 43, 3, (0, 10, 0), 0, 406) := by decide +kernel
set_option maxRecDepth 100000 in
theorem zgr91_130 : zfetch 91 130 = some (.aload_n 0, 1, (0, 0, 0), 0, 0) := by decide +kernel
set_option maxRecDepth 100000 in
theorem zgr91_131 : zfetch 91 131 = some (.aload_n 1, 1, (0, 0, 0), 0, 0) := by decide +kernel
set_option maxRecDepth 100000 in
theorem zgr91_132 : zfetch 91 132 = some (.getfield 46, 3, (0, 11, 0), 0, 409) := by decide +kernel
set_option maxRecDepth 100000 in
theorem zgr91_135 : zfetch 91 135 = some (.putfield 46, 3, (0, 11, 0), 0, 409) := by decide +kernel
set_option maxRecDepth 100000 in
theorem zgr91_138 : zfetch 91 138 = some (.aload_n 0, 1, (0, 0, 0), 0, 0) := by decide +kernel
set_option maxRecDepth 100000 in
theorem zgr91_139 : zfetch 91 139 = some (.aload_n 1, 1, (0, 0, 0), 0, 0) := by decide +kernel
set_option maxRecDepth 100000 in
theorem zgr91_140 : zfetch 91 140 = some (.getfield 49, 3, (0, 12, 0), 0, 411) := by decide +kernel
set_option maxRecDepth 100000 in
theorem zgr91_143 : zfetch 91 143 = some (.putfield 49, 3, (0, 12, 0), 0, 411) := by decide +kernel
set_option maxRecDepth 100000 in
theorem zgr91_146 : zfetch 91 146 = some (.return_, 1, (0, 0, 0), 0, 0) := by decide +kernel
set_option maxRecDepth 100000 in
theorem zgr108_0 : zfetch 108 0 = some (.aload_n 1, 1, (0, 0, 0), 0, 0) := by decide +kernel
set_option maxRecDepth 100000 in
theorem zgr108_1 : zfetch 108 1 = some (.getfield 11, 3, (1, 0, 0), 0, 447) := by decide +kernel
set_option maxRecDepth 100000 in
theorem zgr108_4 : zfetch 108 4 = some (.iconst 0, 1, (0, 0, 0), 0, 0) := by decide +kernel
set_option maxRecDepth 100000 in
theorem zgr108_5 : zfetch 108 5 = some (.aload_n 0, 1, (0, 0, 0), 0, 0) := by decide +kernel
set_option maxRecDepth 100000 in
theorem zgr108_6 : zfetch 108 6 = some (.getfield 11, 3, (1, 0, 0), 0, 447) := by decide +kernel
set_option maxRecDepth 100000 in
theorem zgr108_9 : zfetch 108 9 = some (.iconst 0, 1, (0, 0, 0), 0, 0) := by decide +kernel
set_option maxRecDepth 100000 in
theorem zgr108_10 : zfetch 108 10 = some (.sipush 400, 3, (0, 0, 0), 400, 0) := by decide +kernel
set_option maxRecDepth 100000 in
theorem zgr108_13 : zfetch 108 13 = some (.invokestatic 22, 3, (6, 0, 0), 0, 759) := by decide +kernel
set_option maxRecDepth 100000 in
theorem zgr108_16 : zfetch 108 16 = some (.aload_n 0, 1, (0, 0, 0), 0, 0) := by decide +kernel
set_option maxRecDepth 100000 in
theorem zgr108_17 : zfetch 108 17 = some (.aload_n 1, 1, (0, 0, 0), 0, 0) := by decide +kernel
set_option maxRecDepth 100000 in
theorem zgr108_18 : zfetch 108 18 = some (.getfield 15, 3, (1, 1, 0), 0, 448) := by decide +kernel
set_option maxRecDepth 100000 in
theorem zgr108_21 : zfetch 108 21 = some (.putfield 15, 3, (1, 1, 0), 0, 448) := by decide +kernel
set_option maxRecDepth 100000 in
theorem zgr108_24 : zfetch 108 24 = some (.aload_n 0, 1, (0, 0, 0), 0, 0) := by decide +kernel
set_option maxRecDepth 100000 in
theorem zgr108_25 : zfetch 108 25 = some (.aload_n 1, 1, (0, 0, 0), 0, 0) := by decide +kernel
set_option maxRecDepth 100000 in
theorem zgr108_26 : zfetch 108 26 = some (.getfield 19, 3, (1, 2, 0), 0, 450) := by decide +kernel
set_option maxRecDepth 100000 in
theorem zgr108_29 : zfetch 108 29 = some (.putfield 19, 3, (1, 2, 0), 0, 450) := by decide +kernel
set_option maxRecDepth 100000 in
theorem zgr108_32 : zfetch 108 32 = some (.return_, 1, (0, 0, 0), 0, 0) := by decide +kernel
set_option maxRecDepth 100000 in
theorem zgr167_0 : zfetch 167 0 = some (.aload_n 0, 1, (0, 0, 0), 0, 0) := by decide +kernel
set_option maxRecDepth 100000 in
theorem zgr167_1 : zfetch 167 1 = some (.getfield 11, 3, (7, 0, 0), 0, 468) := by decide +kernel
set_option maxRecDepth 100000 in
theorem zgr167_4 : zfetch 167 4 = some (.aload_n 0, 1, (0, 0, 0), 0, 0) := by decide +kernel
set_option maxRecDepth 100000 in
theorem zgr167_5 : zfetch 167 5 = some (.getfield 25, 3, (7, 3, 0), 0, 472) := by decide +kernel
set_option maxRecDepth 100000 in
theorem zgr167_8 : zfetch 167 8 = some (.aaload, 1, (0, 0, 0), 0, 0) := by decide +kernel
set_option maxRecDepth 100000 in
theorem zgr167_9 : zfetch 167 9 = some (.ifnonnull 19, 3, (28, 0, 0), 0, 0) := by decide +kernel
set_option maxRecDepth 100000 in
theorem zgr167_28 : zfetch 167 28 = some (.aload_n 0, 1, (0, 0, 0), 0, 0) := by decide +kernel
set_option maxRecDepth 100000 in
theorem zgr167_29 : zfetch 167 29 = some (.getfield 17, 3, (7, 1, 0), 0, 469) := by decide +kernel
set_option maxRecDepth 100000 in
theorem zgr167_32 : zfetch 167 32 = some (.aload_n 0, 1, (0, 0, 0), 0, 0) := by decide +kernel
set_option maxRecDepth 100000 in
theorem zgr167_33 : zfetch 167 33 = some (.getfield 25, 3, (7, 3, 0), 0, 472) := by decide +kernel
set_option maxRecDepth 100000 in
theorem zgr167_36 : zfetch 167 36 = some (.aaload, 1, (0, 0, 0), 0, 0) := by decide +kernel
set_option maxRecDepth 100000 in
theorem zgr167_37 : zfetch 167 37 = some (.ifnonnull 19, 3, (56, 0, 0), 0, 0) := by decide +kernel
set_option maxRecDepth 100000 in
theorem zgr167_56 : zfetch 167 56 = some (.aload_n 0, 1, (0, 0, 0), 0, 0) := by decide +kernel
set_option maxRecDepth 100000 in
theorem zgr167_57 : zfetch 167 57 = some (.getfield 11, 3, (7, 0, 0), 0, 468) := by decide +kernel
set_option maxRecDepth 100000 in
theorem zgr167_60 : zfetch 167 60 = some (.aload_n 0, 1, (0, 0, 0), 0, 0) := by decide +kernel
set_option maxRecDepth 100000 in
theorem zgr167_61 : zfetch 167 61 = some (.getfield 25, 3, (7, 3, 0), 0, 472) := by decide +kernel
set_option maxRecDepth 100000 in
theorem zgr167_64 : zfetch 167 64 = some (.aaload, 1, (0, 0, 0), 0, 0) := by decide +kernel
set_option maxRecDepth 100000 in
theorem zgr167_65 : zfetch 167 65 = some (.aload_n 1, 1, (0, 0, 0), 0, 0) := by decide +kernel
set_option maxRecDepth 100000 in
theorem zgr167_66 : zfetch 167 66 = some (.invokevirtual 30, 3, (0, 91, 1), 0, 754) := by decide +kernel
set_option maxRecDepth 100000 in
theorem zgr167_69 : zfetch 167 69 = some (.aload_n 0, 1, (0, 0, 0), 0, 0) := by decide +kernel
set_option maxRecDepth 100000 in
theorem zgr167_70 : zfetch 167 70 = some (.getfield 17, 3, (7, 1, 0), 0, 469) := by decide +kernel
set_option maxRecDepth 100000 in
theorem zgr167_73 : zfetch 167 73 = some (.aload_n 0, 1, (0, 0, 0), 0, 0) := by decide +kernel
set_option maxRecDepth 100000 in
theorem zgr167_74 : zfetch 167 74 = some (.getfield 25, 3, (7, 3, 0), 0, 472) := by decide +kernel
set_option maxRecDepth 100000 in
theorem zgr167_77 : zfetch 167 77 = some (.aaload, 1, (0, 0, 0), 0, 0) := by decide +kernel
set_option maxRecDepth 100000 in
theorem zgr167_78 : zfetch 167 78 = some (.aload_n 2, 1, (0, 0, 0), 0, 0) := by decide +kernel
set_option maxRecDepth 100000 in
theorem zgr167_79 : zfetch 167 79 = some (.invokevirtual 34, 3, (0, 108, 1), 0, 755) := by decide +kernel
set_option maxRecDepth 100000 in
theorem zgr168_0 : zfetch 168 0 = some (.aload_n 0, 1, (0, 0, 0), 0, 0) := by decide +kernel
set_option maxRecDepth 100000 in
theorem zgr168_1 : zfetch 168 1 = some (.getfield 25, 3, (7, 3, 0), 0, 472) := by decide +kernel
set_option maxRecDepth 100000 in
theorem zgr168_4 : zfetch 168 4 = some (.ifCond .le 12, 3, (16, 0, 0), 0, 0) := by decide +kernel
set_option maxRecDepth 100000 in
theorem zgr168_7 : zfetch 168 7 = some (.aload_n 0, 1, (0, 0, 0), 0, 0) := by decide +kernel
set_option maxRecDepth 100000 in
theorem zgr168_8 : zfetch 168 8 = some (.getfield 25, 3, (7, 3, 0), 0, 472) := by decide +kernel
set_option maxRecDepth 100000 in
theorem zgr168_11 : zfetch 168 11 = some (.iconst 1, 1, (0, 0, 0), 1, 0) := by decide +kernel
set_option maxRecDepth 100000 in
theorem zgr168_12 : zfetch 168 12 = some (.isub, 1, (0, 0, 0), 0, 0) := by decide +kernel
set_option maxRecDepth 100000 in
theorem zgr168_13 : zfetch 168 13 = some (.goto 5, 3, (18, 0, 0), 0, 0) := by decide +kernel
set_option maxRecDepth 100000 in
theorem zgr168_18 : zfetch 168 18 = some (.istore_n 3, 1, (0, 0, 0), 0, 0) := by decide +kernel
set_option maxRecDepth 100000 in
theorem zgr168_19 : zfetch 168 19 = some (.aload_n 0, 1, (0, 0, 0), 0, 0) := by decide +kernel
set_option maxRecDepth 100000 in
theorem zgr168_20 : zfetch 168 20 = some (.getfield 21, 3, (7, 2, 0), 0, 470) := by decide +kernel
set_option maxRecDepth 100000 in
theorem zgr168_23 : zfetch 168 23 = some (.ifCond .eq 21, 3, (44, 0, 0), 0, 0) := by decide +kernel
set_option maxRecDepth 100000 in
theorem zgr168_26 : zfetch 168 26 = some (.aload_n 0, 1, (0, 0, 0), 0, 0) := by decide +kernel
set_option maxRecDepth 100000 in
theorem zgr168_27 : zfetch 168 27 = some (.getfield 11, 3, (7, 0, 0), 0, 468) := by decide +kernel
set_option maxRecDepth 100000 in
theorem zgr168_30 : zfetch 168 30 = some (.iload_n 3, 1, (0, 0, 0), 0, 0) := by decide +kernel
set_option maxRecDepth 100000 in
theorem zgr168_31 : zfetch 168 31 = some (.aaload, 1, (0, 0, 0), 0, 0) := by decide +kernel
set_option maxRecDepth 100000 in
theorem zgr168_32 : zfetch 168 32 = some (.ifnull 12, 3, (44, 0, 0), 0, 0) := by decide +kernel
set_option maxRecDepth 100000 in
theorem zgr168_35 : zfetch 168 35 = some (.aload_n 0, 1, (0, 0, 0), 0, 0) := by decide +kernel
set_option maxRecDepth 100000 in
theorem zgr168_36 : zfetch 168 36 = some (.getfield 17, 3, (7, 1, 0), 0, 469) := by decide +kernel
set_option maxRecDepth 100000 in
theorem zgr168_39 : zfetch 168 39 = some (.iload_n 3, 1, (0, 0, 0), 0, 0) := by decide +kernel
set_option maxRecDepth 100000 in
theorem zgr168_40 : zfetch 168 40 = some (.aaload, 1, (0, 0, 0), 0, 0) := by decide +kernel
set_option maxRecDepth 100000 in
theorem zgr168_41 : zfetch 168 41 = some (.ifnonnull 5, 3, (46, 0, 0), 0, 0) := by decide +kernel
set_option maxRecDepth 100000 in
theorem zgr168_16 : zfetch 168 16 = some (.bipush 11, 2, (0, 0, 0), 11, 0) := by decide +kernel
set_option maxRecDepth 100000 in
theorem zgr168_46 : zfetch 168 46 = some (.aload_n 1, 1, (0, 0, 0), 0, 0) := by decide +kernel
set_option maxRecDepth 100000 in
theorem zgr168_47 : zfetch 168 47 = some (.aload_n 0, 1, (0, 0, 0), 0, 0) := by decide +kernel
set_option maxRecDepth 100000 in
theorem zgr168_48 : zfetch 168 48 = some (.getfield 11, 3, (7, 0, 0), 0, 468) := by decide +kernel
set_option maxRecDepth 100000 in
theorem zgr168_51 : zfetch 168 51 = some (.iload_n 3, 1, (0, 0, 0), 0, 0) := by decide +kernel
set_option maxRecDepth 100000 in
theorem zgr168_52 : zfetch 168 52 = some (.aaload, 1, (0, 0, 0), 0, 0) := by decide +kernel
set_option maxRecDepth 100000 in
theorem zgr168_53 : zfetch 168 53 = some (.invokevirtual 30, 3, (0, 91, 1), 0, 754) := by decide +kernel
set_option maxRecDepth 100000 in
theorem zgr168_56 : zfetch 168 56 = some (.aload_n 2, 1, (0, 0, 0), 0, 0) := by decide +kernel
set_option maxRecDepth 100000 in
theorem zgr168_57 : zfetch 168 57 = some (.aload_n 0, 1, (0, 0, 0), 0, 0) := by decide +kernel
set_option maxRecDepth 100000 in
theorem zgr168_58 : zfetch 168 58 = some (.getfield 17, 3, (7, 1, 0), 0, 469) := by decide +kernel
set_option maxRecDepth 100000 in
theorem zgr168_61 : zfetch 168 61 = some (.iload_n 3, 1, (0, 0, 0), 0, 0) := by decide +kernel
set_option maxRecDepth 100000 in
theorem zgr168_62 : zfetch 168 62 = some (.aaload, 1, (0, 0, 0), 0, 0) := by decide +kernel
set_option maxRecDepth 100000 in
theorem zgr168_63 : zfetch 168 63 = some (.invokevirtual 34, 3, (0, 108, 1), 0, 755) := by decide +kernel
set_option maxRecDepth 100000 in
theorem zgr168_66 : zfetch 168 66 = some (.aload_n 0, 1, (0, 0, 0), 0, 0) := by decide +kernel
set_option maxRecDepth 100000 in
theorem zgr168_67 : zfetch 168 67 = some (.iload_n 3, 1, (0, 0, 0), 0, 0) := by decide +kernel
set_option maxRecDepth 100000 in
theorem zgr168_68 : zfetch 168 68 = some (.putfield 25, 3, (7, 3, 0), 0, 472) := by decide +kernel
set_option maxRecDepth 100000 in
theorem zgr168_71 : zfetch 168 71 = some (.aload_n 0, 1, (0, 0, 0), 0, 0) := by decide +kernel
set_option maxRecDepth 100000 in
theorem zgr168_72 : zfetch 168 72 = some (.dup, 1, (0, 0, 0), 0, 0) := by decide +kernel
set_option maxRecDepth 100000 in
theorem zgr168_73 : zfetch 168 73 = some (.getfield 21, 3, (7, 2, 0), 0, 470) := by decide +kernel
set_option maxRecDepth 100000 in
theorem zgr168_76 : zfetch 168 76 = some (.iconst 1, 1, (0, 0, 0), 1, 0) := by decide +kernel
set_option maxRecDepth 100000 in
theorem zgr168_77 : zfetch 168 77 = some (.isub, 1, (0, 0, 0), 0, 0) := by decide +kernel
set_option maxRecDepth 100000 in
theorem zgr168_78 : zfetch 168 78 = some (.putfield 21, 3, (7, 2, 0), 0, 470) := by decide +kernel
set_option maxRecDepth 100000 in
theorem zgr168_81 : zfetch 168 81 = some (.iconst 1, 1, (0, 0, 0), 1, 0) := by decide +kernel
set_option maxRecDepth 100000 in
theorem zgr168_82 : zfetch 168 82 = some (.ireturn, 1, (0, 0, 0), 0, 0) := by decide +kernel
set_option maxRecDepth 100000 in
theorem zns91 : zat zmi 91 = some (2, 2, 0, 0, 0, 0) := rfl
set_option maxRecDepth 100000 in
theorem zns108 : zat zmi 108 = some (2, 2, 0, 1, 0, 0) := rfl
set_option maxRecDepth 100000 in
theorem cg_t {E : zE} {a9 b9 : Nat} {n d : Nat} {h : zH}   (a7000 : zat h.1 b9 = some (.inr (.inl (0, [some (some (b9 + 1)), some (some (b9 + 2)), some (some (b9 + 3)), some (some (b9 + 4)), some (some (b9 + 5)), some (some (b9 + 6)), none, none, none, none, none, none, none])))) (a7001 : zat h.1 (b9 + 1) = some (.inl (0, 12, []))) (a7002 : zat h.1 (b9 + 2) = some (.inl (0, 8, []))) (a7003 : zat h.1 (b9 + 3) = some (.inl (0, 8, []))) (a7004 : zat h.1 (b9 + 4) = some (.inl (0, 8, []))) (a7005 : zat h.1 (b9 + 5) = some (.inl (0, 96, []))) (a7006 : zat h.1 (b9 + 6) = some (.inl (0, 64, []))) (a7100 : zat h.1 a9 = some (.inr (.inl (0, [some (some (a9 + 1)), some (some (a9 + 2)), some (some (a9 + 3)), some (some (a9 + 4)), some (some (a9 + 5)), some (some (a9 + 6)), none, none, none, none, none, none, none])))) (a7101 : zat h.1 (a9 + 1) = some (.inl (0, 12, []))) (a7102 : zat h.1 (a9 + 2) = some (.inl (0, 8, []))) (a7103 : zat h.1 (a9 + 3) = some (.inl (0, 8, []))) (a7104 : zat h.1 (a9 + 4) = some (.inl (0, 8, []))) (a7105 : zat h.1 (a9 + 5) = some (.inl (0, 96, []))) (a7106 : zat h.1 (a9 + 6) = some (.inl (0, 64, [])))  : zex E (n + 77) d 91 0 [some (.ref a9), some (.ref b9)] [] h = some (.inl none, (cpF (cpF (cpF (cpF (cpF (cpF (cpF (cpA (cpA (cpA (cpA (cpA (cpA h (a9 + 1) (b9 + 1) 12) (a9 + 2) (b9 + 2) 8) (a9 + 3) (b9 + 3) 8) (a9 + 4) (b9 + 4) 8) (a9 + 5) (b9 + 5) 96) (a9 + 6) (b9 + 6) 64) a9 b9 6) a9 b9 7) a9 b9 8) a9 b9 9) a9 b9 10) a9 b9 11) a9 b9 12)) :=
  ((yAn zgr91_0 rfl rfl) : zex E (n + 77) d 91 0 [some (.ref a9), some (.ref b9)] [] h = zex E (n + 76) d 91 1 [some (.ref a9), some (.ref b9)] [.ref b9] h).trans (((zgx zgr91_1 a7000 rfl) : zex E (n + 76) d 91 1 [some (.ref a9), some (.ref b9)] [.ref b9] h = zex E (n + 75) d 91 4 [some (.ref a9), some (.ref b9)] [.ref (b9 + 1)] h).trans (((yCi zgr91_4) : zex E (n + 75) d 91 4 [some (.ref a9), some (.ref b9)] [.ref (b9 + 1)] h = zex E (n + 74) d 91 5 [some (.ref a9), some (.ref b9)] [.int 0, .ref (b9 + 1)] h).trans (((yAn zgr91_5 rfl rfl) : zex E (n + 74) d 91 5 [some (.ref a9), some (.ref b9)] [.int 0, .ref (b9 + 1)] h = zex E (n + 73) d 91 6 [some (.ref a9), some (.ref b9)] [.ref a9, .int 0, .ref (b9 + 1)] h).trans (((zgx zgr91_6 a7100 rfl) : zex E (n + 73) d 91 6 [some (.ref a9), some (.ref b9)] [.ref a9, .int 0, .ref (b9 + 1)] h = zex E (n + 72) d 91 9 [some (.ref a9), some (.ref b9)] [.ref (a9 + 1), .int 0, .ref (b9 + 1)] h).trans (((yCi zgr91_9) : zex E (n + 72) d 91 9 [some (.ref a9), some (.ref b9)] [.ref (a9 + 1), .int 0, .ref (b9 + 1)] h = zex E (n + 71) d 91 10 [some (.ref a9), some (.ref b9)] [.int 0, .ref (a9 + 1), .int 0, .ref (b9 + 1)] h).trans (((yCb zgr91_10) : zex E (n + 71) d 91 10 [some (.ref a9), some (.ref b9)] [.int 0, .ref (a9 + 1), .int 0, .ref (b9 + 1)] h = zex E (n + 70) d 91 12 [some (.ref a9), some (.ref b9)] [.int 12, .int 0, .ref (a9 + 1), .int 0, .ref (b9 + 1)] h).trans (((yCpA zgr91_12 a7001 a7101 rfl (by decide) (by decide) rfl (by decide)) : zex E (n + 70) d 91 12 [some (.ref a9), some (.ref b9)] [.int 12, .int 0, .ref (a9 + 1), .int 0, .ref (b9 + 1)] h = zex E (n + 69) d 91 15 [some (.ref a9), some (.ref b9)] [] (cpA h (a9 + 1) (b9 + 1) 12)).trans (((yAn zgr91_15 rfl rfl) : zex E (n + 69) d 91 15 [some (.ref a9), some (.ref b9)] [] (cpA h (a9 + 1) (b9 + 1) 12) = zex E (n + 68) d 91 16 [some (.ref a9), some (.ref b9)] [.ref b9] (cpA h (a9 + 1) (b9 + 1) 12)).trans (((zgx zgr91_16 a7000 rfl) : zex E (n + 68) d 91 16 [some (.ref a9), some (.ref b9)] [.ref b9] (cpA h (a9 + 1) (b9 + 1) 12) = zex E (n + 67) d 91 19 [some (.ref a9), some (.ref b9)] [.ref (b9 + 2)] (cpA h (a9 + 1) (b9 + 1) 12)).trans (((yCi zgr91_19) : zex E (n + 67) d 91 19 [some (.ref a9), some (.ref b9)] [.ref (b9 + 2)] (cpA h (a9 + 1) (b9 + 1) 12) = zex E (n + 66) d 91 20 [some (.ref a9), some (.ref b9)] [.int 0, .ref (b9 + 2)] (cpA h (a9 + 1) (b9 + 1) 12)).trans (((yAn zgr91_20 rfl rfl) : zex E (n + 66) d 91 20 [some (.ref a9), some (.ref b9)] [.int 0, .ref (b9 + 2)] (cpA h (a9 + 1) (b9 + 1) 12) = zex E (n + 65) d 91 21 [some (.ref a9), some (.ref b9)] [.ref a9, .int 0, .ref (b9 + 2)] (cpA h (a9 + 1) (b9 + 1) 12)).trans (((zgx zgr91_21 a7100 rfl) : zex E (n + 65) d 91 21 [some (.ref a9), some (.ref b9)] [.ref a9, .int 0, .ref (b9 + 2)] (cpA h (a9 + 1) (b9 + 1) 12) = zex E (n + 64) d 91 24 [some (.ref a9), some (.ref b9)] [.ref (a9 + 2), .int 0, .ref (b9 + 2)] (cpA h (a9 + 1) (b9 + 1) 12)).trans (((yCi zgr91_24) : zex E (n + 64) d 91 24 [some (.ref a9), some (.ref b9)] [.ref (a9 + 2), .int 0, .ref (b9 + 2)] (cpA h (a9 + 1) (b9 + 1) 12) = zex E (n + 63) d 91 25 [some (.ref a9), some (.ref b9)] [.int 0, .ref (a9 + 2), .int 0, .ref (b9 + 2)] (cpA h (a9 + 1) (b9 + 1) 12)).trans (((yCb zgr91_25) : zex E (n + 63) d 91 25 [some (.ref a9), some (.ref b9)] [.int 0, .ref (a9 + 2), .int 0, .ref (b9 + 2)] (cpA h (a9 + 1) (b9 + 1) 12) = zex E (n + 62) d 91 27 [some (.ref a9), some (.ref b9)] [.int 8, .int 0, .ref (a9 + 2), .int 0, .ref (b9 + 2)] (cpA h (a9 + 1) (b9 + 1) 12)).trans (((yCpA zgr91_27 a7002 a7102 rfl (by decide) (by decide) rfl (by decide)) : zex E (n + 62) d 91 27 [some (.ref a9), some (.ref b9)] [.int 8, .int 0, .ref (a9 + 2), .int 0, .ref (b9 + 2)] (cpA h (a9 + 1) (b9 + 1) 12) = zex E (n + 61) d 91 30 [some (.ref a9), some (.ref b9)] [] (cpA (cpA h (a9 + 1) (b9 + 1) 12) (a9 + 2) (b9 + 2) 8)).trans (((yAn zgr91_30 rfl rfl) : zex E (n + 61) d 91 30 [some (.ref a9), some (.ref b9)] [] (cpA (cpA h (a9 + 1) (b9 + 1) 12) (a9 + 2) (b9 + 2) 8) = zex E (n + 60) d 91 31 [some (.ref a9), some (.ref b9)] [.ref b9] (cpA (cpA h (a9 + 1) (b9 + 1) 12) (a9 + 2) (b9 + 2) 8)).trans (((zgx zgr91_31 a7000 rfl) : zex E (n + 60) d 91 31 [some (.ref a9), some (.ref b9)] [.ref b9] (cpA (cpA h (a9 + 1) (b9 + 1) 12) (a9 + 2) (b9 + 2) 8) = zex E (n + 59) d 91 34 [some (.ref a9), some (.ref b9)] [.ref (b9 + 3)] (cpA (cpA h (a9 + 1) (b9 + 1) 12) (a9 + 2) (b9 + 2) 8)).trans (((yCi zgr91_34) : zex E (n + 59) d 91 34 [some (.ref a9), some (.ref b9)] [.ref (b9 + 3)] (cpA (cpA h (a9 + 1) (b9 + 1) 12) (a9 + 2) (b9 + 2) 8) = zex E (n + 58) d 91 35 [some (.ref a9), some (.ref b9)] [.int 0, .ref (b9 + 3)] (cpA (cpA h (a9 + 1) (b9 + 1) 12) (a9 + 2) (b9 + 2) 8)).trans (((yAn zgr91_35 rfl rfl) : zex E (n + 58) d 91 35 [some (.ref a9), some (.ref b9)] [.int 0, .ref (b9 + 3)] (cpA (cpA h (a9 + 1) (b9 + 1) 12) (a9 + 2) (b9 + 2) 8) = zex E (n + 57) d 91 36 [some (.ref a9), some (.ref b9)] [.ref a9, .int 0, .ref (b9 + 3)] (cpA (cpA h (a9 + 1) (b9 + 1) 12) (a9 + 2) (b9 + 2) 8)).trans (((zgx zgr91_36 a7100 rfl) : zex E (n + 57) d 91 36 [some (.ref a9), some (.ref b9)] [.ref a9, .int 0, .ref (b9 + 3)] (cpA (cpA h (a9 + 1) (b9 + 1) 12) (a9 + 2) (b9 + 2) 8) = zex E (n + 56) d 91 39 [some (.ref a9), some (.ref b9)] [.ref (a9 + 3), .int 0, .ref (b9 + 3)] (cpA (cpA h (a9 + 1) (b9 + 1) 12) (a9 + 2) (b9 + 2) 8)).trans (((yCi zgr91_39) : zex E (n + 56) d 91 39 [some (.ref a9), some (.ref b9)] [.ref (a9 + 3), .int 0, .ref (b9 + 3)] (cpA (cpA h (a9 + 1) (b9 + 1) 12) (a9 + 2) (b9 + 2) 8) = zex E (n + 55) d 91 40 [some (.ref a9), some (.ref b9)] [.int 0, .ref (a9 + 3), .int 0, .ref (b9 + 3)] (cpA (cpA h (a9 + 1) (b9 + 1) 12) (a9 + 2) (b9 + 2) 8)).trans (((yCb zgr91_40) : zex E (n + 55) d 91 40 [some (.ref a9), some (.ref b9)] [.int 0, .ref (a9 + 3), .int 0, .ref (b9 + 3)] (cpA (cpA h (a9 + 1) (b9 + 1) 12) (a9 + 2) (b9 + 2) 8) = zex E (n + 54) d 91 42 [some (.ref a9), some (.ref b9)] [.int 8, .int 0, .ref (a9 + 3), .int 0, .ref (b9 + 3)] (cpA (cpA h (a9 + 1) (b9 + 1) 12) (a9 + 2) (b9 + 2) 8)).trans (((yCpA zgr91_42 a7003 a7103 rfl (by decide) (by decide) rfl (by decide)) : zex E (n + 54) d 91 42 [some (.ref a9), some (.ref b9)] [.int 8, .int 0, .ref (a9 + 3), .int 0, .ref (b9 + 3)] (cpA (cpA h (a9 + 1) (b9 + 1) 12) (a9 + 2) (b9 + 2) 8) = zex E (n + 53) d 91 45 [some (.ref a9), some (.ref b9)] [] (cpA (cpA (cpA h (a9 + 1) (b9 + 1) 12) (a9 + 2) (b9 + 2) 8) (a9 + 3) (b9 + 3) 8)).trans (((yAn zgr91_45 rfl rfl) : zex E (n + 53) d 91 45 [some (.ref a9), some (.ref b9)] [] (cpA (cpA (cpA h (a9 + 1) (b9 + 1) 12) (a9 + 2) (b9 + 2) 8) (a9 + 3) (b9 + 3) 8) = zex E (n + 52) d 91 46 [some (.ref a9), some (.ref b9)] [.ref b9] (cpA (cpA (cpA h (a9 + 1) (b9 + 1) 12) (a9 + 2) (b9 + 2) 8) (a9 + 3) (b9 + 3) 8)).trans (((zgx zgr91_46 a7000 rfl) : zex E (n + 52) d 91 46 [some (.ref a9), some (.ref b9)] [.ref b9] (cpA (cpA (cpA h (a9 + 1) (b9 + 1) 12) (a9 + 2) (b9 + 2) 8) (a9 + 3) (b9 + 3) 8) = zex E (n + 51) d 91 49 [some (.ref a9), some (.ref b9)] [.ref (b9 + 4)] (cpA (cpA (cpA h (a9 + 1) (b9 + 1) 12) (a9 + 2) (b9 + 2) 8) (a9 + 3) (b9 + 3) 8)).trans (((yCi zgr91_49) : zex E (n + 51) d 91 49 [some (.ref a9), some (.ref b9)] [.ref (b9 + 4)] (cpA (cpA (cpA h (a9 + 1) (b9 + 1) 12) (a9 + 2) (b9 + 2) 8) (a9 + 3) (b9 + 3) 8) = zex E (n + 50) d 91 50 [some (.ref a9), some (.ref b9)] [.int 0, .ref (b9 + 4)] (cpA (cpA (cpA h (a9 + 1) (b9 + 1) 12) (a9 + 2) (b9 + 2) 8) (a9 + 3) (b9 + 3) 8)).trans (((yAn zgr91_50 rfl rfl) : zex E (n + 50) d 91 50 [some (.ref a9), some (.ref b9)] [.int 0, .ref (b9 + 4)] (cpA (cpA (cpA h (a9 + 1) (b9 + 1) 12) (a9 + 2) (b9 + 2) 8) (a9 + 3) (b9 + 3) 8) = zex E (n + 49) d 91 51 [some (.ref a9), some (.ref b9)] [.ref a9, .int 0, .ref (b9 + 4)] (cpA (cpA (cpA h (a9 + 1) (b9 + 1) 12) (a9 + 2) (b9 + 2) 8) (a9 + 3) (b9 + 3) 8)).trans (((zgx zgr91_51 a7100 rfl) : zex E (n + 49) d 91 51 [some (.ref a9), some (.ref b9)] [.ref a9, .int 0, .ref (b9 + 4)] (cpA (cpA (cpA h (a9 + 1) (b9 + 1) 12) (a9 + 2) (b9 + 2) 8) (a9 + 3) (b9 + 3) 8) = zex E (n + 48) d 91 54 [some (.ref a9), some (.ref b9)] [.ref (a9 + 4), .int 0, .ref (b9 + 4)] (cpA (cpA (cpA h (a9 + 1) (b9 + 1) 12) (a9 + 2) (b9 + 2) 8) (a9 + 3) (b9 + 3) 8)).trans (((yCi zgr91_54) : zex E (n + 48) d 91 54 [some (.ref a9), some (.ref b9)] [.ref (a9 + 4), .int 0, .ref (b9 + 4)] (cpA (cpA (cpA h (a9 + 1) (b9 + 1) 12) (a9 + 2) (b9 + 2) 8) (a9 + 3) (b9 + 3) 8) = zex E (n + 47) d 91 55 [some (.ref a9), some (.ref b9)] [.int 0, .ref (a9 + 4), .int 0, .ref (b9 + 4)] (cpA (cpA (cpA h (a9 + 1) (b9 + 1) 12) (a9 + 2) (b9 + 2) 8) (a9 + 3) (b9 + 3) 8)).trans (((yCb zgr91_55) : zex E (n + 47) d 91 55 [some (.ref a9), some (.ref b9)] [.int 0, .ref (a9 + 4), .int 0, .ref (b9 + 4)] (cpA (cpA (cpA h (a9 + 1) (b9 + 1) 12) (a9 + 2) (b9 + 2) 8) (a9 + 3) (b9 + 3) 8) = zex E (n + 46) d 91 57 [some (.ref a9), some (.ref b9)] [.int 8, .int 0, .ref (a9 + 4), .int 0, .ref (b9 + 4)] (cpA (cpA (cpA h (a9 + 1) (b9 + 1) 12) (a9 + 2) (b9 + 2) 8) (a9 + 3) (b9 + 3) 8)).trans (((yCpA zgr91_57 a7004 a7104 rfl (by decide) (by decide) rfl (by decide)) : zex E (n + 46) d 91 57 [some (.ref a9), some (.ref b9)] [.int 8, .int 0, .ref (a9 + 4), .int 0, .ref (b9 + 4)] (cpA (cpA (cpA h (a9 + 1) (b9 + 1) 12) (a9 + 2) (b9 + 2) 8) (a9 + 3) (b9 + 3) 8) = zex E (n + 45) d 91 60 [some (.ref a9), some (.ref b9)] [] (cpA (cpA (cpA (cpA h (a9 + 1) (b9 + 1) 12) (a9 + 2) (b9 + 2) 8) (a9 + 3) (b9 + 3) 8) (a9 + 4) (b9 + 4) 8)).trans (((yAn zgr91_60 rfl rfl) : zex E (n + 45) d 91 60 [some (.ref a9), some (.ref b9)] [] (cpA (cpA (cpA (cpA h (a9 + 1) (b9 + 1) 12) (a9 + 2) (b9 + 2) 8) (a9 + 3) (b9 + 3) 8) (a9 + 4) (b9 + 4) 8) = zex E (n + 44) d 91 61 [some (.ref a9), some (.ref b9)] [.ref b9] (cpA (cpA (cpA (cpA h (a9 + 1) (b9 + 1) 12) (a9 + 2) (b9 + 2) 8) (a9 + 3) (b9 + 3) 8) (a9 + 4) (b9 + 4) 8)).trans (((zgx zgr91_61 a7000 rfl) : zex E (n + 44) d 91 61 [some (.ref a9), some (.ref b9)] [.ref b9] (cpA (cpA (cpA (cpA h (a9 + 1) (b9 + 1) 12) (a9 + 2) (b9 + 2) 8) (a9 + 3) (b9 + 3) 8) (a9 + 4) (b9 + 4) 8) = zex E (n + 43) d 91 64 [some (.ref a9), some (.ref b9)] [.ref (b9 + 5)] (cpA (cpA (cpA (cpA h (a9 + 1) (b9 + 1) 12) (a9 + 2) (b9 + 2) 8) (a9 + 3) (b9 + 3) 8) (a9 + 4) (b9 + 4) 8)).trans (((yCi zgr91_64) : zex E (n + 43) d 91 64 [some (.ref a9), some (.ref b9)] [.ref (b9 + 5)] (cpA (cpA (cpA (cpA h (a9 + 1) (b9 + 1) 12) (a9 + 2) (b9 + 2) 8) (a9 + 3) (b9 + 3) 8) (a9 + 4) (b9 + 4) 8) = zex E (n + 42) d 91 65 [some (.ref a9), some (.ref b9)] [.int 0, .ref (b9 + 5)] (cpA (cpA (cpA (cpA h (a9 + 1) (b9 + 1) 12) (a9 + 2) (b9 + 2) 8) (a9 + 3) (b9 + 3) 8) (a9 + 4) (b9 + 4) 8)).trans (((yAn zgr91_65 rfl rfl) : zex E (n + 42) d 91 65 [some (.ref a9), some (.ref b9)] [.int 0, .ref (b9 + 5)] (cpA (cpA (cpA (cpA h (a9 + 1) (b9 + 1) 12) (a9 + 2) (b9 + 2) 8) (a9 + 3) (b9 + 3) 8) (a9 + 4) (b9 + 4) 8) = zex E (n + 41) d 91 66 [some (.ref a9), some (.ref b9)] [.ref a9, .int 0, .ref (b9 + 5)] (cpA (cpA (cpA (cpA h (a9 + 1) (b9 + 1) 12) (a9 + 2) (b9 + 2) 8) (a9 + 3) (b9 + 3) 8) (a9 + 4) (b9 + 4) 8)).trans (((zgx zgr91_66 a7100 rfl) : zex E (n + 41) d 91 66 [some (.ref a9), some (.ref b9)] [.ref a9, .int 0, .ref (b9 + 5)] (cpA (cpA (cpA (cpA h (a9 + 1) (b9 + 1) 12) (a9 + 2) (b9 + 2) 8) (a9 + 3) (b9 + 3) 8) (a9 + 4) (b9 + 4) 8) = zex E (n + 40) d 91 69 [some (.ref a9), some (.ref b9)] [.ref (a9 + 5), .int 0, .ref (b9 + 5)] (cpA (cpA (cpA (cpA h (a9 + 1) (b9 + 1) 12) (a9 + 2) (b9 + 2) 8) (a9 + 3) (b9 + 3) 8) (a9 + 4) (b9 + 4) 8)).trans (((yCi zgr91_69) : zex E (n + 40) d 91 69 [some (.ref a9), some (.ref b9)] [.ref (a9 + 5), .int 0, .ref (b9 + 5)] (cpA (cpA (cpA (cpA h (a9 + 1) (b9 + 1) 12) (a9 + 2) (b9 + 2) 8) (a9 + 3) (b9 + 3) 8) (a9 + 4) (b9 + 4) 8) = zex E (n + 39) d 91 70 [some (.ref a9), some (.ref b9)] [.int 0, .ref (a9 + 5), .int 0, .ref (b9 + 5)] (cpA (cpA (cpA (cpA h (a9 + 1) (b9 + 1) 12) (a9 + 2) (b9 + 2) 8) (a9 + 3) (b9 + 3) 8) (a9 + 4) (b9 + 4) 8)).trans (((yCb zgr91_70) : zex E (n + 39) d 91 70 [some (.ref a9), some (.ref b9)] [.int 0, .ref (a9 + 5), .int 0, .ref (b9 + 5)] (cpA (cpA (cpA (cpA h (a9 + 1) (b9 + 1) 12) (a9 + 2) (b9 + 2) 8) (a9 + 3) (b9 + 3) 8) (a9 + 4) (b9 + 4) 8) = zex E (n + 38) d 91 72 [some (.ref a9), some (.ref b9)] [.int 96, .int 0, .ref (a9 + 5), .int 0, .ref (b9 + 5)] (cpA (cpA (cpA (cpA h (a9 + 1) (b9 + 1) 12) (a9 + 2) (b9 + 2) 8) (a9 + 3) (b9 + 3) 8) (a9 + 4) (b9 + 4) 8)).trans (((yCpA zgr91_72 a7005 a7105 rfl (by decide) (by decide) rfl (by decide)) : zex E (n + 38) d 91 72 [some (.ref a9), some (.ref b9)] [.int 96, .int 0, .ref (a9 + 5), .int 0, .ref (b9 + 5)] (cpA (cpA (cpA (cpA h (a9 + 1) (b9 + 1) 12) (a9 + 2) (b9 + 2) 8) (a9 + 3) (b9 + 3) 8) (a9 + 4) (b9 + 4) 8) = zex E (n + 37) d 91 75 [some (.ref a9), some (.ref b9)] [] (cpA (cpA (cpA (cpA (cpA h (a9 + 1) (b9 + 1) 12) (a9 + 2) (b9 + 2) 8) (a9 + 3) (b9 + 3) 8) (a9 + 4) (b9 + 4) 8) (a9 + 5) (b9 + 5) 96)).trans (((yAn zgr91_75 rfl rfl) : zex E (n + 37) d 91 75 [some (.ref a9), some (.ref b9)] [] (cpA (cpA (cpA (cpA (cpA h (a9 + 1) (b9 + 1) 12) (a9 + 2) (b9 + 2) 8) (a9 + 3) (b9 + 3) 8) (a9 + 4) (b9 + 4) 8) (a9 + 5) (b9 + 5) 96) = zex E (n + 36) d 91 76 [some (.ref a9), some (.ref b9)] [.ref b9] (cpA (cpA (cpA (cpA (cpA h (a9 + 1) (b9 + 1) 12) (a9 + 2) (b9 + 2) 8) (a9 + 3) (b9 + 3) 8) (a9 + 4) (b9 + 4) 8) (a9 + 5) (b9 + 5) 96)).trans (((zgx zgr91_76 a7000 rfl) : zex E (n + 36) d 91 76 [some (.ref a9), some (.ref b9)] [.ref b9] (cpA (cpA (cpA (cpA (cpA h (a9 + 1) (b9 + 1) 12) (a9 + 2) (b9 + 2) 8) (a9 + 3) (b9 + 3) 8) (a9 + 4) (b9 + 4) 8) (a9 + 5) (b9 + 5) 96) = zex E (n + 35) d 91 79 [some (.ref a9), some (.ref b9)] [.ref (b9 + 6)] (cpA (cpA (cpA (cpA (cpA h (a9 + 1) (b9 + 1) 12) (a9 + 2) (b9 + 2) 8) (a9 + 3) (b9 + 3) 8) (a9 + 4) (b9 + 4) 8) (a9 + 5) (b9 + 5) 96)).trans (((yCi zgr91_79) : zex E (n + 35) d 91 79 [some (.ref a9), some (.ref b9)] [.ref (b9 + 6)] (cpA (cpA (cpA (cpA (cpA h (a9 + 1) (b9 + 1) 12) (a9 + 2) (b9 + 2) 8) (a9 + 3) (b9 + 3) 8) (a9 + 4) (b9 + 4) 8) (a9 + 5) (b9 + 5) 96) = zex E (n + 34) d 91 80 [some (.ref a9), some (.ref b9)] [.int 0, .ref (b9 + 6)] (cpA (cpA (cpA (cpA (cpA h (a9 + 1) (b9 + 1) 12) (a9 + 2) (b9 + 2) 8) (a9 + 3) (b9 + 3) 8) (a9 + 4) (b9 + 4) 8) (a9 + 5) (b9 + 5) 96)).trans (((yAn zgr91_80 rfl rfl) : zex E (n + 34) d 91 80 [some (.ref a9), some (.ref b9)] [.int 0, .ref (b9 + 6)] (cpA (cpA (cpA (cpA (cpA h (a9 + 1) (b9 + 1) 12) (a9 + 2) (b9 + 2) 8) (a9 + 3) (b9 + 3) 8) (a9 + 4) (b9 + 4) 8) (a9 + 5) (b9 + 5) 96) = zex E (n + 33) d 91 81 [some (.ref a9), some (.ref b9)] [.ref a9, .int 0, .ref (b9 + 6)] (cpA (cpA (cpA (cpA (cpA h (a9 + 1) (b9 + 1) 12) (a9 + 2) (b9 + 2) 8) (a9 + 3) (b9 + 3) 8) (a9 + 4) (b9 + 4) 8) (a9 + 5) (b9 + 5) 96)).trans (((zgx zgr91_81 a7100 rfl) : zex E (n + 33) d 91 81 [some (.ref a9), some (.ref b9)] [.ref a9, .int 0, .ref (b9 + 6)] (cpA (cpA (cpA (cpA (cpA h (a9 + 1) (b9 + 1) 12) (a9 + 2) (b9 + 2) 8) (a9 + 3) (b9 + 3) 8) (a9 + 4) (b9 + 4) 8) (a9 + 5) (b9 + 5) 96) = zex E (n + 32) d 91 84 [some (.ref a9), some (.ref b9)] [.ref (a9 + 6), .int 0, .ref (b9 + 6)] (cpA (cpA (cpA (cpA (cpA h (a9 + 1) (b9 + 1) 12) (a9 + 2) (b9 + 2) 8) (a9 + 3) (b9 + 3) 8) (a9 + 4) (b9 + 4) 8) (a9 + 5) (b9 + 5) 96)).trans (((yCi zgr91_84) : zex E (n + 32) d 91 84 [some (.ref a9), some (.ref b9)] [.ref (a9 + 6), .int 0, .ref (b9 + 6)] (cpA (cpA (cpA (cpA (cpA h (a9 + 1) (b9 + 1) 12) (a9 + 2) (b9 + 2) 8) (a9 + 3) (b9 + 3) 8) (a9 + 4) (b9 + 4) 8) (a9 + 5) (b9 + 5) 96) = zex E (n + 31) d 91 85 [some (.ref a9), some (.ref b9)] [.int 0, .ref (a9 + 6), .int 0, .ref (b9 + 6)] (cpA (cpA (cpA (cpA (cpA h (a9 + 1) (b9 + 1) 12) (a9 + 2) (b9 + 2) 8) (a9 + 3) (b9 + 3) 8) (a9 + 4) (b9 + 4) 8) (a9 + 5) (b9 + 5) 96)).trans (((yCb zgr91_85) : zex E (n + 31) d 91 85 [some (.ref a9), some (.ref b9)] [.int 0, .ref (a9 + 6), .int 0, .ref (b9 + 6)] (cpA (cpA (cpA (cpA (cpA h (a9 + 1) (b9 + 1) 12) (a9 + 2) (b9 + 2) 8) (a9 + 3) (b9 + 3) 8) (a9 + 4) (b9 + 4) 8) (a9 + 5) (b9 + 5) 96) = zex E (n + 30) d 91 87 [some (.ref a9), some (.ref b9)] [.int 64, .int 0, .ref (a9 + 6), .int 0, .ref (b9 + 6)] (cpA (cpA (cpA (cpA (cpA h (a9 + 1) (b9 + 1) 12) (a9 + 2) (b9 + 2) 8) (a9 + 3) (b9 + 3) 8) (a9 + 4) (b9 + 4) 8) (a9 + 5) (b9 + 5) 96)).trans (((yCpA zgr91_87 a7006 a7106 rfl (by decide) (by decide) rfl (by decide)) : zex E (n + 30) d 91 87 [some (.ref a9), some (.ref b9)] [.int 64, .int 0, .ref (a9 + 6), .int 0, .ref (b9 + 6)] (cpA (cpA (cpA (cpA (cpA h (a9 + 1) (b9 + 1) 12) (a9 + 2) (b9 + 2) 8) (a9 + 3) (b9 + 3) 8) (a9 + 4) (b9 + 4) 8) (a9 + 5) (b9 + 5) 96) = zex E (n + 29) d 91 90 [some (.ref a9), some (.ref b9)] [] (cpA (cpA (cpA (cpA (cpA (cpA h (a9 + 1) (b9 + 1) 12) (a9 + 2) (b9 + 2) 8) (a9 + 3) (b9 + 3) 8) (a9 + 4) (b9 + 4) 8) (a9 + 5) (b9 + 5) 96) (a9 + 6) (b9 + 6) 64)).trans (((yAn zgr91_90 rfl rfl) : zex E (n + 29) d 91 90 [some (.ref a9), some (.ref b9)] [] (cpA (cpA (cpA (cpA (cpA (cpA h (a9 + 1) (b9 + 1) 12) (a9 + 2) (b9 + 2) 8) (a9 + 3) (b9 + 3) 8) (a9 + 4) (b9 + 4) 8) (a9 + 5) (b9 + 5) 96) (a9 + 6) (b9 + 6) 64) = zex E (n + 28) d 91 91 [some (.ref a9), some (.ref b9)] [.ref a9] (cpA (cpA (cpA (cpA (cpA (cpA h (a9 + 1) (b9 + 1) 12) (a9 + 2) (b9 + 2) 8) (a9 + 3) (b9 + 3) 8) (a9 + 4) (b9 + 4) 8) (a9 + 5) (b9 + 5) 96) (a9 + 6) (b9 + 6) 64)).trans (((yAn zgr91_91 rfl rfl) : zex E (n + 28) d 91 91 [some (.ref a9), some (.ref b9)] [.ref a9] (cpA (cpA (cpA (cpA (cpA (cpA h (a9 + 1) (b9 + 1) 12) (a9 + 2) (b9 + 2) 8) (a9 + 3) (b9 + 3) 8) (a9 + 4) (b9 + 4) 8) (a9 + 5) (b9 + 5) 96) (a9 + 6) (b9 + 6) 64) = zex E (n + 27) d 91 92 [some (.ref a9), some (.ref b9)] [.ref b9, .ref a9] (cpA (cpA (cpA (cpA (cpA (cpA h (a9 + 1) (b9 + 1) 12) (a9 + 2) (b9 + 2) 8) (a9 + 3) (b9 + 3) 8) (a9 + 4) (b9 + 4) 8) (a9 + 5) (b9 + 5) 96) (a9 + 6) (b9 + 6) 64)).trans (((zgi zgr91_92 a7000 rfl) : zex E (n + 27) d 91 92 [some (.ref a9), some (.ref b9)] [.ref b9, .ref a9] (cpA (cpA (cpA (cpA (cpA (cpA h (a9 + 1) (b9 + 1) 12) (a9 + 2) (b9 + 2) 8) (a9 + 3) (b9 + 3) 8) (a9 + 4) (b9 + 4) 8) (a9 + 5) (b9 + 5) 96) (a9 + 6) (b9 + 6) 64) = zex E (n + 26) d 91 95 [some (.ref a9), some (.ref b9)] [.int ((cpA (cpA (cpA (cpA (cpA (cpA h (a9 + 1) (b9 + 1) 12) (a9 + 2) (b9 + 2) 8) (a9 + 3) (b9 + 3) 8) (a9 + 4) (b9 + 4) 8) (a9 + 5) (b9 + 5) 96) (a9 + 6) (b9 + 6) 64).2.1 b9 6), .ref a9] (cpA (cpA (cpA (cpA (cpA (cpA h (a9 + 1) (b9 + 1) 12) (a9 + 2) (b9 + 2) 8) (a9 + 3) (b9 + 3) 8) (a9 + 4) (b9 + 4) 8) (a9 + 5) (b9 + 5) 96) (a9 + 6) (b9 + 6) 64)).trans (((zpx zgr91_95 a7100 rfl) : zex E (n + 26) d 91 95 [some (.ref a9), some (.ref b9)] [.int ((cpA (cpA (cpA (cpA (cpA (cpA h (a9 + 1) (b9 + 1) 12) (a9 + 2) (b9 + 2) 8) (a9 + 3) (b9 + 3) 8) (a9 + 4) (b9 + 4) 8) (a9 + 5) (b9 + 5) 96) (a9 + 6) (b9 + 6) 64).2.1 b9 6), .ref a9] (cpA (cpA (cpA (cpA (cpA (cpA h (a9 + 1) (b9 + 1) 12) (a9 + 2) (b9 + 2) 8) (a9 + 3) (b9 + 3) 8) (a9 + 4) (b9 + 4) 8) (a9 + 5) (b9 + 5) 96) (a9 + 6) (b9 + 6) 64) = zex E (n + 25) d 91 98 [some (.ref a9), some (.ref b9)] [] (cpF (cpA (cpA (cpA (cpA (cpA (cpA h (a9 + 1) (b9 + 1) 12) (a9 + 2) (b9 + 2) 8) (a9 + 3) (b9 + 3) 8) (a9 + 4) (b9 + 4) 8) (a9 + 5) (b9 + 5) 96) (a9 + 6) (b9 + 6) 64) a9 b9 6)).trans (((yAn zgr91_98 rfl rfl) : zex E (n + 25) d 91 98 [some (.ref a9), some (.ref b9)] [] (cpF (cpA (cpA (cpA (cpA (cpA (cpA h (a9 + 1) (b9 + 1) 12) (a9 + 2) (b9 + 2) 8) (a9 + 3) (b9 + 3) 8) (a9 + 4) (b9 + 4) 8) (a9 + 5) (b9 + 5) 96) (a9 + 6) (b9 + 6) 64) a9 b9 6) = zex E (n + 24) d 91 99 [some (.ref a9), some (.ref b9)] [.ref a9] (cpF (cpA (cpA (cpA (cpA (cpA (cpA h (a9 + 1) (b9 + 1) 12) (a9 + 2) (b9 + 2) 8) (a9 + 3) (b9 + 3) 8) (a9 + 4) (b9 + 4) 8) (a9 + 5) (b9 + 5) 96) (a9 + 6) (b9 + 6) 64) a9 b9 6)).trans (((yAn zgr91_99 rfl rfl) : zex E (n + 24) d 91 99 [some (.ref a9), some (.ref b9)] [.ref a9] (cpF (cpA (cpA (cpA (cpA (cpA (cpA h (a9 + 1) (b9 + 1) 12) (a9 + 2) (b9 + 2) 8) (a9 + 3) (b9 + 3) 8) (a9 + 4) (b9 + 4) 8) (a9 + 5) (b9 + 5) 96) (a9 + 6) (b9 + 6) 64) a9 b9 6) = zex E (n + 23) d 91 100 [some (.ref a9), some (.ref b9)] [.ref b9, .ref a9] (cpF (cpA (cpA (cpA (cpA (cpA (cpA h (a9 + 1) (b9 + 1) 12) (a9 + 2) (b9 + 2) 8) (a9 + 3) (b9 + 3) 8) (a9 + 4) (b9 + 4) 8) (a9 + 5) (b9 + 5) 96) (a9 + 6) (b9 + 6) 64) a9 b9 6)).trans (((zgi zgr91_100 a7000 rfl) : zex E (n + 23) d 91 100 [some (.ref a9), some (.ref b9)] [.ref b9, .ref a9] (cpF (cpA (cpA (cpA (cpA (cpA (cpA h (a9 + 1) (b9 + 1) 12) (a9 + 2) (b9 + 2) 8) (a9 + 3) (b9 + 3) 8) (a9 + 4) (b9 + 4) 8) (a9 + 5) (b9 + 5) 96) (a9 + 6) (b9 + 6) 64) a9 b9 6) = zex E (n + 22) d 91 103 [some (.ref a9), some (.ref b9)] [.int ((cpF (cpA (cpA (cpA (cpA (cpA (cpA h (a9 + 1) (b9 + 1) 12) (a9 + 2) (b9 + 2) 8) (a9 + 3) (b9 + 3) 8) (a9 + 4) (b9 + 4) 8) (a9 + 5) (b9 + 5) 96) (a9 + 6) (b9 + 6) 64) a9 b9 6).2.1 b9 7), .ref a9] (cpF (cpA (cpA (cpA (cpA (cpA (cpA h (a9 + 1) (b9 + 1) 12) (a9 + 2) (b9 + 2) 8) (a9 + 3) (b9 + 3) 8) (a9 + 4) (b9 + 4) 8) (a9 + 5) (b9 + 5) 96) (a9 + 6) (b9 + 6) 64) a9 b9 6)).trans (((zpx zgr91_103 a7100 rfl) : zex E (n + 22) d 91 103 [some (.ref a9), some (.ref b9)] [.int ((cpF (cpA (cpA (cpA (cpA (cpA (cpA h (a9 + 1) (b9 + 1) 12) (a9 + 2) (b9 + 2) 8) (a9 + 3) (b9 + 3) 8) (a9 + 4) (b9 + 4) 8) (a9 + 5) (b9 + 5) 96) (a9 + 6) (b9 + 6) 64) a9 b9 6).2.1 b9 7), .ref a9] (cpF (cpA (cpA (cpA (cpA (cpA (cpA h (a9 + 1) (b9 + 1) 12) (a9 + 2) (b9 + 2) 8) (a9 + 3) (b9 + 3) 8) (a9 + 4) (b9 + 4) 8) (a9 + 5) (b9 + 5) 96) (a9 + 6) (b9 + 6) 64) a9 b9 6) = zex E (n + 21) d 91 106 [some (.ref a9), some (.ref b9)] [] (cpF (cpF (cpA (cpA (cpA (cpA (cpA (cpA h (a9 + 1) (b9 + 1) 12) (a9 + 2) (b9 + 2) 8) (a9 + 3) (b9 + 3) 8) (a9 + 4) (b9 + 4) 8) (a9 + 5) (b9 + 5) 96) (a9 + 6) (b9 + 6) 64) a9 b9 6) a9 b9 7)).trans (((yAn zgr91_106 rfl rfl) : zex E (n + 21) d 91 106 [some (.ref a9), some (.ref b9)] [] (cpF (cpF (cpA (cpA (cpA (cpA (cpA (cpA h (a9 + 1) (b9 + 1) 12) (a9 + 2) (b9 + 2) 8) (a9 + 3) (b9 + 3) 8) (a9 + 4) (b9 + 4) 8) (a9 + 5) (b9 + 5) 96) (a9 + 6) (b9 + 6) 64) a9 b9 6) a9 b9 7) = zex E (n + 20) d 91 107 [some (.ref a9), some (.ref b9)] [.ref a9] (cpF (cpF (cpA (cpA (cpA (cpA (cpA (cpA h (a9 + 1) (b9 + 1) 12) (a9 + 2) (b9 + 2) 8) (a9 + 3) (b9 + 3) 8) (a9 + 4) (b9 + 4) 8) (a9 + 5) (b9 + 5) 96) (a9 + 6) (b9 + 6) 64) a9 b9 6) a9 b9 7)).trans (((yAn zgr91_107 rfl rfl) : zex E (n + 20) d 91 107 [some (.ref a9), some (.ref b9)] [.ref a9] (cpF (cpF (cpA (cpA (cpA (cpA (cpA (cpA h (a9 + 1) (b9 + 1) 12) (a9 + 2) (b9 + 2) 8) (a9 + 3) (b9 + 3) 8) (a9 + 4) (b9 + 4) 8) (a9 + 5) (b9 + 5) 96) (a9 + 6) (b9 + 6) 64) a9 b9 6) a9 b9 7) = zex E (n + 19) d 91 108 [some (.ref a9), some (.ref b9)] [.ref b9, .ref a9] (cpF (cpF (cpA (cpA (cpA (cpA (cpA (cpA h (a9 + 1) (b9 + 1) 12) (a9 + 2) (b9 + 2) 8) (a9 + 3) (b9 + 3) 8) (a9 + 4) (b9 + 4) 8) (a9 + 5) (b9 + 5) 96) (a9 + 6) (b9 + 6) 64) a9 b9 6) a9 b9 7)).trans (((zgi zgr91_108 a7000 rfl) : zex E (n + 19) d 91 108 [some (.ref a9), some (.ref b9)] [.ref b9, .ref a9] (cpF (cpF (cpA (cpA (cpA (cpA (cpA (cpA h (a9 + 1) (b9 + 1) 12) (a9 + 2) (b9 + 2) 8) (a9 + 3) (b9 + 3) 8) (a9 + 4) (b9 + 4) 8) (a9 + 5) (b9 + 5) 96) (a9 + 6) (b9 + 6) 64) a9 b9 6) a9 b9 7) = zex E (n + 18) d 91 111 [some (.ref a9), some (.ref b9)] [.int ((cpF (cpF (cpA (cpA (cpA (cpA (cpA (cpA h (a9 + 1) (b9 + 1) 12) (a9 + 2) (b9 + 2) 8) (a9 + 3) (b9 + 3) 8) (a9 + 4) (b9 + 4) 8) (a9 + 5) (b9 + 5) 96) (a9 + 6) (b9 + 6) 64) a9 b9 6) a9 b9 7).2.1 b9 8), .ref a9] (cpF (cpF (cpA (cpA (cpA (cpA (cpA (cpA h (a9 + 1) (b9 + 1) 12) (a9 + 2) (b9 + 2) 8) (a9 + 3) (b9 + 3) 8) (a9 + 4) (b9 + 4) 8) (a9 + 5) (b9 + 5) 96) (a9 + 6) (b9 + 6) 64) a9 b9 6) a9 b9 7)).trans (((zpx zgr91_111 a7100 rfl) : zex E (n + 18) d 91 111 [some (.ref a9), some (.ref b9)] [.int ((cpF (cpF (cpA (cpA (cpA (cpA (cpA (cpA h (a9 + 1) (b9 + 1) 12) (a9 + 2) (b9 + 2) 8) (a9 + 3) (b9 + 3) 8) (a9 + 4) (b9 + 4) 8) (a9 + 5) (b9 + 5) 96) (a9 + 6) (b9 + 6) 64) a9 b9 6) a9 b9 7).2.1 b9 8), .ref a9] (cpF (cpF (cpA (cpA (cpA (cpA (cpA (cpA h (a9 + 1) (b9 + 1) 12) (a9 + 2) (b9 + 2) 8) (a9 + 3) (b9 + 3) 8) (a9 + 4) (b9 + 4) 8) (a9 + 5) (b9 + 5) 96) (a9 + 6) (b9 + 6) 64) a9 b9 6) a9 b9 7) = zex E (n + 17) d 91 114 [some (.ref a9), some (.ref b9)] [] (cpF (cpF (cpF (cpA (cpA (cpA (cpA (cpA (cpA h (a9 + 1) (b9 + 1) 12) (a9 + 2) (b9 + 2) 8) (a9 + 3) (b9 + 3) 8) (a9 + 4) (b9 + 4) 8) (a9 + 5) (b9 + 5) 96) (a9 + 6) (b9 + 6) 64) a9 b9 6) a9 b9 7) a9 b9 8)).trans (((yAn zgr91_114 rfl rfl) : zex E (n + 17) d 91 114 [some (.ref a9), some (.ref b9)] [] (cpF (cpF (cpF (cpA (cpA (cpA (cpA (cpA (cpA h (a9 + 1) (b9 + 1) 12) (a9 + 2) (b9 + 2) 8) (a9 + 3) (b9 + 3) 8) (a9 + 4) (b9 + 4) 8) (a9 + 5) (b9 + 5) 96) (a9 + 6) (b9 + 6) 64) a9 b9 6) a9 b9 7) a9 b9 8) = zex E (n + 16) d 91 115 [some (.ref a9), some (.ref b9)] [.ref a9] (cpF (cpF (cpF (cpA (cpA (cpA (cpA (cpA (cpA h (a9 + 1) (b9 + 1) 12) (a9 + 2) (b9 + 2) 8) (a9 + 3) (b9 + 3) 8) (a9 + 4) (b9 + 4) 8) (a9 + 5) (b9 + 5) 96) (a9 + 6) (b9 + 6) 64) a9 b9 6) a9 b9 7) a9 b9 8)).trans (((yAn zgr91_115 rfl rfl) : zex E (n + 16) d 91 115 [some (.ref a9), some (.ref b9)] [.ref a9] (cpF (cpF (cpF (cpA (cpA (cpA (cpA (cpA (cpA h (a9 + 1) (b9 + 1) 12) (a9 + 2) (b9 + 2) 8) (a9 + 3) (b9 + 3) 8) (a9 + 4) (b9 + 4) 8) (a9 + 5) (b9 + 5) 96) (a9 + 6) (b9 + 6) 64) a9 b9 6) a9 b9 7) a9 b9 8) = zex E (n + 15) d 91 116 [some (.ref a9), some (.ref b9)] [.ref b9, .ref a9] (cpF (cpF (cpF (cpA (cpA (cpA (cpA (cpA (cpA h (a9 + 1) (b9 + 1) 12) (a9 + 2) (b9 + 2) 8) (a9 + 3) (b9 + 3) 8) (a9 + 4) (b9 + 4) 8) (a9 + 5) (b9 + 5) 96) (a9 + 6) (b9 + 6) 64) a9 b9 6) a9 b9 7) a9 b9 8)).trans (((zgi zgr91_116 a7000 rfl) : zex E (n + 15) d 91 116 [some (.ref a9), some (.ref b9)] [.ref b9, .ref a9] (cpF (cpF (cpF (cpA (cpA (cpA (cpA (cpA (cpA h (a9 + 1) (b9 + 1) 12) (a9 + 2) (b9 + 2) 8) (a9 + 3) (b9 + 3) 8) (a9 + 4) (b9 + 4) 8) (a9 + 5) (b9 + 5) 96) (a9 + 6) (b9 + 6) 64) a9 b9 6) a9 b9 7) a9 b9 8) = zex E (n + 14) d 91 119 [some (.ref a9), some (.ref b9)] [.int ((cpF (cpF (cpF (cpA (cpA (cpA (cpA (cpA (cpA h (a9 + 1) (b9 + 1) 12) (a9 + 2) (b9 + 2) 8) (a9 + 3) (b9 + 3) 8) (a9 + 4) (b9 + 4) 8) (a9 + 5) (b9 + 5) 96) (a9 + 6) (b9 + 6) 64) a9 b9 6) a9 b9 7) a9 b9 8).2.1 b9 9), .ref a9] (cpF (cpF (cpF (cpA (cpA (cpA (cpA (cpA (cpA h (a9 + 1) (b9 + 1) 12) (a9 + 2) (b9 + 2) 8) (a9 + 3) (b9 + 3) 8) (a9 + 4) (b9 + 4) 8) (a9 + 5) (b9 + 5) 96) (a9 + 6) (b9 + 6) 64) a9 b9 6) a9 b9 7) a9 b9 8)).trans (((zpx zgr91_119 a7100 rfl) : zex E (n + 14) d 91 119 [some (.ref a9), some (.ref b9)] [.int ((cpF (cpF (cpF (cpA (cpA (cpA (cpA (cpA (cpA h (a9 + 1) (b9 + 1) 12) (a9 + 2) (b9 + 2) 8) (a9 + 3) (b9 + 3) 8) (a9 + 4) (b9 + 4) 8) (a9 + 5) (b9 + 5) 96) (a9 + 6) (b9 + 6) 64) a9 b9 6) a9 b9 7) a9 b9 8).2.1 b9 9), .ref a9] (cpF (cpF (cpF (cpA (cpA (cpA (cpA (cpA (cpA h (a9 + 1) (b9 + 1) 12) (a9 + 2) (b9 + 2) 8) (a9 + 3) (b9 + 3) 8) (a9 + 4) (b9 + 4) 8) (a9 + 5) (b9 + 5) 96) (a9 + 6) (b9 + 6) 64) a9 b9 6) a9 b9 7) a9 b9 8) = zex E (n + 13) d 91 122 [some (.ref a9), some (.ref b9)] [] (cpF (cpF (cpF (cpF (cpA (cpA (cpA (cpA (cpA (cpA h (a9 + 1) (b9 + 1) 12) (a9 + 2) (b9 + 2) 8) (a9 + 3) (b9 + 3) 8) (a9 + 4) (b9 + 4) 8) (a9 + 5) (b9 + 5) 96) (a9 + 6) (b9 + 6) 64) a9 b9 6) a9 b9 7) a9 b9 8) a9 b9 9)).trans (((yAn zgr91_122 rfl rfl) : zex E (n + 13) d 91 122 [some (.ref a9), some (.ref b9)] [] (cpF (cpF (cpF (cpF (cpA (cpA (cpA (cpA (cpA (cpA h (a9 + 1) (b9 + 1) 12) (a9 + 2) (b9 + 2) 8) (a9 + 3) (b9 + 3) 8) (a9 + 4) (b9 + 4) 8) (a9 + 5) (b9 + 5) 96) (a9 + 6) (b9 + 6) 64) a9 b9 6) a9 b9 7) a9 b9 8) a9 b9 9) = zex E (n + 12) d 91 123 [some (.ref a9), some (.ref b9)] [.ref a9] (cpF (cpF (cpF (cpF (cpA (cpA (cpA (cpA (cpA (cpA h (a9 + 1) (b9 + 1) 12) (a9 + 2) (b9 + 2) 8) (a9 + 3) (b9 + 3) 8) (a9 + 4) (b9 + 4) 8) (a9 + 5) (b9 + 5) 96) (a9 + 6) (b9 + 6) 64) a9 b9 6) a9 b9 7) a9 b9 8) a9 b9 9)).trans (((yAn zgr91_123 rfl rfl) : zex E (n + 12) d 91 123 [some (.ref a9), some (.ref b9)] [.ref a9] (cpF (cpF (cpF (cpF (cpA (cpA (cpA (cpA (cpA (cpA h (a9 + 1) (b9 + 1) 12) (a9 + 2) (b9 + 2) 8) (a9 + 3) (b9 + 3) 8) (a9 + 4) (b9 + 4) 8) (a9 + 5) (b9 + 5) 96) (a9 + 6) (b9 + 6) 64) a9 b9 6) a9 b9 7) a9 b9 8) a9 b9 9) = zex E (n + 11) d 91 124 [some (.ref a9), some (.ref b9)] [.ref b9, .ref a9] (cpF (cpF (cpF (cpF (cpA (cpA (cpA (cpA (cpA (cpA h (a9 + 1) (b9 + 1) 12) (a9 + 2) (b9 + 2) 8) (a9 + 3) (b9 + 3) 8) (a9 + 4) (b9 + 4) 8) (a9 + 5) (b9 + 5) 96) (a9 + 6) (b9 + 6) 64) a9 b9 6) a9 b9 7) a9 b9 8) a9 b9 9)).trans (((zgi zgr91_124 a7000 rfl) : zex E (n + 11) d 91 124 [some (.ref a9), some (.ref b9)] [.ref b9, .ref a9] (cpF (cpF (cpF (cpF (cpA (cpA (cpA (cpA (cpA (cpA h (a9 + 1) (b9 + 1) 12) (a9 + 2) (b9 + 2) 8) (a9 + 3) (b9 + 3) 8) (a9 + 4) (b9 + 4) 8) (a9 + 5) (b9 + 5) 96) (a9 + 6) (b9 + 6) 64) a9 b9 6) a9 b9 7) a9 b9 8) a9 b9 9) = zex E (n + 10) d 91 127 [some (.ref a9), some (.ref b9)] [.int ((cpF (cpF (cpF (cpF (cpA (cpA (cpA (cpA (cpA (cpA h (a9 + 1) (b9 + 1) 12) (a9 + 2) (b9 + 2) 8) (a9 + 3) (b9 + 3) 8) (a9 + 4) (b9 + 4) 8) (a9 + 5) (b9 + 5) 96) (a9 + 6) (b9 + 6) 64) a9 b9 6) a9 b9 7) a9 b9 8) a9 b9 9).2.1 b9 10), .ref a9] (cpF (cpF (cpF (cpF (cpA (cpA (cpA (cpA (cpA (cpA h (a9 + 1) (b9 + 1) 12) (a9 + 2) (b9 + 2) 8) (a9 + 3) (b9 + 3) 8) (a9 + 4) (b9 + 4) 8) (a9 + 5) (b9 + 5) 96) (a9 + 6) (b9 + 6) 64) a9 b9 6) a9 b9 7) a9 b9 8) a9 b9 9)).trans (((zpx zgr91_127 a7100 rfl) : zex E (n + 10) d 91 127 [some (.ref a9), some (.ref b9)] [.int ((cpF (cpF (cpF (cpF (cpA (cpA (cpA (cpA (cpA (cpA h (a9 + 1) (b9 + 1) 12) (a9 + 2) (b9 + 2) 8) (a9 + 3) (b9 + 3) 8) (a9 + 4) (b9 + 4) 8) (a9 + 5) (b9 + 5) 96) (a9 + 6) (b9 + 6) 64) a9 b9 6) a9 b9 7) a9 b9 8) a9 b9 9).2.1 b9 10), .ref a9] (cpF (cpF (cpF (cpF (cpA (cpA (cpA (cpA (cpA (cpA h (a9 + 1) (b9 + 1) 12) (a9 + 2) (b9 + 2) 8) (a9 + 3) (b9 + 3) 8) (a9 + 4) (b9 + 4) 8) (a9 + 5) (b9 + 5) 96) (a9 + 6) (b9 + 6) 64) a9 b9 6) a9 b9 7) a9 b9 8) a9 b9 9) = zex E (n + 9) d 91 130 [some (.ref a9), some (.ref b9)] [] (cpF (cpF (cpF (cpF (cpF (cpA (cpA (cpA (cpA (cpA (cpA h (a9 + 1) (b9 + 1) 12) (a9 + 2) (b9 + 2) 8) (a9 + 3) (b9 + 3) 8) (a9 + 4) (b9 + 4) 8) (a9 + 5) (b9 + 5) 96) (a9 + 6) (b9 + 6) 64) a9 b9 6) a9 b9 7) a9 b9 8) a9 b9 9) a9 b9 10)).trans (((yAn zgr91_130 rfl rfl) : zex E (n + 9) d 91 130 [some (.ref a9), some (.ref b9)] [] (cpF (cpF (cpF (cpF (cpF (cpA (cpA (cpA (cpA (cpA (cpA h (a9 + 1) (b9 + 1) 12) (a9 + 2) (b9 + 2) 8) (a9 + 3) (b9 + 3) 8) (a9 + 4) (b9 + 4) 8) (a9 + 5) (b9 + 5) 96) (a9 + 6) (b9 + 6) 64) a9 b9 6) a9 b9 7) a9 b9 8) a9 b9 9) a9 b9 10) = zex E (n + 8) d 91 131 [some (.ref a9), some (.ref b9)] [.ref a9] (cpF (cpF (cpF (cpF (cpF (cpA (cpA (cpA (cpA (cpA (cpA h (a9 + 1) (b9 + 1) 12) (a9 + 2) (b9 + 2) 8) (a9 + 3) (b9 + 3) 8) (a9 + 4) (b9 + 4) 8) (a9 + 5) (b9 + 5) 96) (a9 + 6) (b9 + 6) 64) a9 b9 6) a9 b9 7) a9 b9 8) a9 b9 9) a9 b9 10)).trans (((yAn zgr91_131 rfl rfl) : zex E (n + 8) d 91 131 [some (.ref a9), some (.ref b9)] [.ref a9] (cpF (cpF (cpF (cpF (cpF (cpA (cpA (cpA (cpA (cpA (cpA h (a9 + 1) (b9 + 1) 12) (a9 + 2) (b9 + 2) 8) (a9 + 3) (b9 + 3) 8) (a9 + 4) (b9 + 4) 8) (a9 + 5) (b9 + 5) 96) (a9 + 6) (b9 + 6) 64) a9 b9 6) a9 b9 7) a9 b9 8) a9 b9 9) a9 b9 10) = zex E (n + 7) d 91 132 [some (.ref a9), some (.ref b9)] [.ref b9, .ref a9] (cpF (cpF (cpF (cpF (cpF (cpA (cpA (cpA (cpA (cpA (cpA h (a9 + 1) (b9 + 1) 12) (a9 + 2) (b9 + 2) 8) (a9 + 3) (b9 + 3) 8) (a9 + 4) (b9 + 4) 8) (a9 + 5) (b9 + 5) 96) (a9 + 6) (b9 + 6) 64) a9 b9 6) a9 b9 7) a9 b9 8) a9 b9 9) a9 b9 10)).trans (((zgi zgr91_132 a7000 rfl) : zex E (n + 7) d 91 132 [some (.ref a9), some (.ref b9)] [.ref b9, .ref a9] (cpF (cpF (cpF (cpF (cpF (cpA (cpA (cpA (cpA (cpA (cpA h (a9 + 1) (b9 + 1) 12) (a9 + 2) (b9 + 2) 8) (a9 + 3) (b9 + 3) 8) (a9 + 4) (b9 + 4) 8) (a9 + 5) (b9 + 5) 96) (a9 + 6) (b9 + 6) 64) a9 b9 6) a9 b9 7) a9 b9 8) a9 b9 9) a9 b9 10) = zex E (n + 6) d 91 135 [some (.ref a9), some (.ref b9)] [.int ((cpF (cpF (cpF (cpF (cpF (cpA (cpA (cpA (cpA (cpA (cpA h (a9 + 1) (b9 + 1) 12) (a9 + 2) (b9 + 2) 8) (a9 + 3) (b9 + 3) 8) (a9 + 4) (b9 + 4) 8) (a9 + 5) (b9 + 5) 96) (a9 + 6) (b9 + 6) 64) a9 b9 6) a9 b9 7) a9 b9 8) a9 b9 9) a9 b9 10).2.1 b9 11), .ref a9] (cpF (cpF (cpF (cpF (cpF (cpA (cpA (cpA (cpA (cpA (cpA h (a9 + 1) (b9 + 1) 12) (a9 + 2) (b9 + 2) 8) (a9 + 3) (b9 + 3) 8) (a9 + 4) (b9 + 4) 8) (a9 + 5) (b9 + 5) 96) (a9 + 6) (b9 + 6) 64) a9 b9 6) a9 b9 7) a9 b9 8) a9 b9 9) a9 b9 10)).trans (((zpx zgr91_135 a7100 rfl) : zex E (n + 6) d 91 135 [some (.ref a9), some (.ref b9)] [.int ((cpF (cpF (cpF (cpF (cpF (cpA (cpA (cpA (cpA (cpA (cpA h (a9 + 1) (b9 + 1) 12) (a9 + 2) (b9 + 2) 8) (a9 + 3) (b9 + 3) 8) (a9 + 4) (b9 + 4) 8) (a9 + 5) (b9 + 5) 96) (a9 + 6) (b9 + 6) 64) a9 b9 6) a9 b9 7) a9 b9 8) a9 b9 9) a9 b9 10).2.1 b9 11), .ref a9] (cpF (cpF (cpF (cpF (cpF (cpA (cpA (cpA (cpA (cpA (cpA h (a9 + 1) (b9 + 1) 12) (a9 + 2) (b9 + 2) 8) (a9 + 3) (b9 + 3) 8) (a9 + 4) (b9 + 4) 8) (a9 + 5) (b9 + 5) 96) (a9 + 6) (b9 + 6) 64) a9 b9 6) a9 b9 7) a9 b9 8) a9 b9 9) a9 b9 10) = zex E (n + 5) d 91 138 [some (.ref a9), some (.ref b9)] [] (cpF (cpF (cpF (cpF (cpF (cpF (cpA (cpA (cpA (cpA (cpA (cpA h (a9 + 1) (b9 + 1) 12) (a9 + 2) (b9 + 2) 8) (a9 + 3) (b9 + 3) 8) (a9 + 4) (b9 + 4) 8) (a9 + 5) (b9 + 5) 96) (a9 + 6) (b9 + 6) 64) a9 b9 6) a9 b9 7) a9 b9 8) a9 b9 9) a9 b9 10) a9 b9 11)).trans (((yAn zgr91_138 rfl rfl) : zex E (n + 5) d 91 138 [some (.ref a9), some (.ref b9)] [] (cpF (cpF (cpF (cpF (cpF (cpF (cpA (cpA (cpA (cpA (cpA (cpA h (a9 + 1) (b9 + 1) 12) (a9 + 2) (b9 + 2) 8) (a9 + 3) (b9 + 3) 8) (a9 + 4) (b9 + 4) 8) (a9 + 5) (b9 + 5) 96) (a9 + 6) (b9 + 6) 64) a9 b9 6) a9 b9 7) a9 b9 8) a9 b9 9) a9 b9 10) a9 b9 11) = zex E (n + 4) d 91 139 [some (.ref a9), some (.ref b9)] [.ref a9] (cpF (cpF (cpF (cpF (cpF (cpF (cpA (cpA (cpA (cpA (cpA (cpA h (a9 + 1) (b9 + 1) 12) (a9 + 2) (b9 + 2) 8) (a9 + 3) (b9 + 3) 8) (a9 + 4) (b9 + 4) 8) (a9 + 5) (b9 + 5) 96) (a9 + 6) (b9 + 6) 64) a9 b9 6) a9 b9 7) a9 b9 8) a9 b9 9) a9 b9 10) a9 b9 11)).trans (((yAn zgr91_139 rfl rfl) : zex E (n + 4) d 91 139 [some (.ref a9), some (.ref b9)] [.ref a9] (cpF (cpF (cpF (cpF (cpF (cpF (cpA (cpA (cpA (cpA (cpA (cpA h (a9 + 1) (b9 + 1) 12) (a9 + 2) (b9 + 2) 8) (a9 + 3) (b9 + 3) 8) (a9 + 4) (b9 + 4) 8) (a9 + 5) (b9 + 5) 96) (a9 + 6) (b9 + 6) 64) a9 b9 6) a9 b9 7) a9 b9 8) a9 b9 9) a9 b9 10) a9 b9 11) = zex E (n + 3) d 91 140 [some (.ref a9), some (.ref b9)] [.ref b9, .ref a9] (cpF (cpF (cpF (cpF (cpF (cpF (cpA (cpA (cpA (cpA (cpA (cpA h (a9 + 1) (b9 + 1) 12) (a9 + 2) (b9 + 2) 8) (a9 + 3) (b9 + 3) 8) (a9 + 4) (b9 + 4) 8) (a9 + 5) (b9 + 5) 96) (a9 + 6) (b9 + 6) 64) a9 b9 6) a9 b9 7) a9 b9 8) a9 b9 9) a9 b9 10) a9 b9 11)).trans (((zgi zgr91_140 a7000 rfl) : zex E (n + 3) d 91 140 [some (.ref a9), some (.ref b9)] [.ref b9, .ref a9] (cpF (cpF (cpF (cpF (cpF (cpF (cpA (cpA (cpA (cpA (cpA (cpA h (a9 + 1) (b9 + 1) 12) (a9 + 2) (b9 + 2) 8) (a9 + 3) (b9 + 3) 8) (a9 + 4) (b9 + 4) 8) (a9 + 5) (b9 + 5) 96) (a9 + 6) (b9 + 6) 64) a9 b9 6) a9 b9 7) a9 b9 8) a9 b9 9) a9 b9 10) a9 b9 11) = zex E (n + 2) d 91 143 [some (.ref a9), some (.ref b9)] [.int ((cpF (cpF (cpF (cpF (cpF (cpF (cpA (cpA (cpA (cpA (cpA (cpA h (a9 + 1) (b9 + 1) 12) (a9 + 2) (b9 + 2) 8) (a9 + 3) (b9 + 3) 8) (a9 + 4) (b9 + 4) 8) (a9 + 5) (b9 + 5) 96) (a9 + 6) (b9 + 6) 64) a9 b9 6) a9 b9 7) a9 b9 8) a9 b9 9) a9 b9 10) a9 b9 11).2.1 b9 12), .ref a9] (cpF (cpF (cpF (cpF (cpF (cpF (cpA (cpA (cpA (cpA (cpA (cpA h (a9 + 1) (b9 + 1) 12) (a9 + 2) (b9 + 2) 8) (a9 + 3) (b9 + 3) 8) (a9 + 4) (b9 + 4) 8) (a9 + 5) (b9 + 5) 96) (a9 + 6) (b9 + 6) 64) a9 b9 6) a9 b9 7) a9 b9 8) a9 b9 9) a9 b9 10) a9 b9 11)).trans (((zpx zgr91_143 a7100 rfl) : zex E (n + 2) d 91 143 [some (.ref a9), some (.ref b9)] [.int ((cpF (cpF (cpF (cpF (cpF (cpF (cpA (cpA (cpA (cpA (cpA (cpA h (a9 + 1) (b9 + 1) 12) (a9 + 2) (b9 + 2) 8) (a9 + 3) (b9 + 3) 8) (a9 + 4) (b9 + 4) 8) (a9 + 5) (b9 + 5) 96) (a9 + 6) (b9 + 6) 64) a9 b9 6) a9 b9 7) a9 b9 8) a9 b9 9) a9 b9 10) a9 b9 11).2.1 b9 12), .ref a9] (cpF (cpF (cpF (cpF (cpF (cpF (cpA (cpA (cpA (cpA (cpA (cpA h (a9 + 1) (b9 + 1) 12) (a9 + 2) (b9 + 2) 8) (a9 + 3) (b9 + 3) 8) (a9 + 4) (b9 + 4) 8) (a9 + 5) (b9 + 5) 96) (a9 + 6) (b9 + 6) 64) a9 b9 6) a9 b9 7) a9 b9 8) a9 b9 9) a9 b9 10) a9 b9 11) = zex E (n + 1) d 91 146 [some (.ref a9), some (.ref b9)] [] (cpF (cpF (cpF (cpF (cpF (cpF (cpF (cpA (cpA (cpA (cpA (cpA (cpA h (a9 + 1) (b9 + 1) 12) (a9 + 2) (b9 + 2) 8) (a9 + 3) (b9 + 3) 8) (a9 + 4) (b9 + 4) 8) (a9 + 5) (b9 + 5) 96) (a9 + 6) (b9 + 6) 64) a9 b9 6) a9 b9 7) a9 b9 8) a9 b9 9) a9 b9 10) a9 b9 11) a9 b9 12)).trans (((yRet0 zgr91_146 rfl) : zex E (n + 1) d 91 146 [some (.ref a9), some (.ref b9)] [] (cpF (cpF (cpF (cpF (cpF (cpF (cpF (cpA (cpA (cpA (cpA (cpA (cpA h (a9 + 1) (b9 + 1) 12) (a9 + 2) (b9 + 2) 8) (a9 + 3) (b9 + 3) 8) (a9 + 4) (b9 + 4) 8) (a9 + 5) (b9 + 5) 96) (a9 + 6) (b9 + 6) 64) a9 b9 6) a9 b9 7) a9 b9 8) a9 b9 9) a9 b9 10) a9 b9 11) a9 b9 12) = some (.inl none, (cpF (cpF (cpF (cpF (cpF (cpF (cpF (cpA (cpA (cpA (cpA (cpA (cpA h (a9 + 1) (b9 + 1) 12) (a9 + 2) (b9 + 2) 8) (a9 + 3) (b9 + 3) 8) (a9 + 4) (b9 + 4) 8) (a9 + 5) (b9 + 5) 96) (a9 + 6) (b9 + 6) 64) a9 b9 6) a9 b9 7) a9 b9 8) a9 b9 9) a9 b9 10) a9 b9 11) a9 b9 12)))))))))))))))))))))))))))))))))))))))))))))))))))))))))))))))))))))))))))))))
set_option maxRecDepth 100000 in
theorem ch_t {E : zE} {a8 b8 : Nat} {n d : Nat} {h : zH}   (a7200 : zat h.1 b8 = some (.inr (.inl (1, [some (some (b8 + 1)), none, none])))) (a7201 : zat h.1 (b8 + 1) = some (.inl (0, 400, []))) (a7300 : zat h.1 a8 = some (.inr (.inl (1, [some (some (a8 + 1)), none, none])))) (a7301 : zat h.1 (a8 + 1) = some (.inl (0, 400, [])))  : zex E (n + 17) d 108 0 [some (.ref a8), some (.ref b8)] [] h = some (.inl none, (cpF (cpF (cpA h (a8 + 1) (b8 + 1) 400) a8 b8 1) a8 b8 2)) :=
  ((yAn zgr108_0 rfl rfl) : zex E (n + 17) d 108 0 [some (.ref a8), some (.ref b8)] [] h = zex E (n + 16) d 108 1 [some (.ref a8), some (.ref b8)] [.ref b8] h).trans (((zgx zgr108_1 a7200 rfl) : zex E (n + 16) d 108 1 [some (.ref a8), some (.ref b8)] [.ref b8] h = zex E (n + 15) d 108 4 [some (.ref a8), some (.ref b8)] [.ref (b8 + 1)] h).trans (((yCi zgr108_4) : zex E (n + 15) d 108 4 [some (.ref a8), some (.ref b8)] [.ref (b8 + 1)] h = zex E (n + 14) d 108 5 [some (.ref a8), some (.ref b8)] [.int 0, .ref (b8 + 1)] h).trans (((yAn zgr108_5 rfl rfl) : zex E (n + 14) d 108 5 [some (.ref a8), some (.ref b8)] [.int 0, .ref (b8 + 1)] h = zex E (n + 13) d 108 6 [some (.ref a8), some (.ref b8)] [.ref a8, .int 0, .ref (b8 + 1)] h).trans (((zgx zgr108_6 a7300 rfl) : zex E (n + 13) d 108 6 [some (.ref a8), some (.ref b8)] [.ref a8, .int 0, .ref (b8 + 1)] h = zex E (n + 12) d 108 9 [some (.ref a8), some (.ref b8)] [.ref (a8 + 1), .int 0, .ref (b8 + 1)] h).trans (((yCi zgr108_9) : zex E (n + 12) d 108 9 [some (.ref a8), some (.ref b8)] [.ref (a8 + 1), .int 0, .ref (b8 + 1)] h = zex E (n + 11) d 108 10 [some (.ref a8), some (.ref b8)] [.int 0, .ref (a8 + 1), .int 0, .ref (b8 + 1)] h).trans (((yCs zgr108_10) : zex E (n + 11) d 108 10 [some (.ref a8), some (.ref b8)] [.int 0, .ref (a8 + 1), .int 0, .ref (b8 + 1)] h = zex E (n + 10) d 108 13 [some (.ref a8), some (.ref b8)] [.int 400, .int 0, .ref (a8 + 1), .int 0, .ref (b8 + 1)] h).trans (((yCpA zgr108_13 a7201 a7301 rfl (by decide) (by decide) rfl (by decide)) : zex E (n + 10) d 108 13 [some (.ref a8), some (.ref b8)] [.int 400, .int 0, .ref (a8 + 1), .int 0, .ref (b8 + 1)] h = zex E (n + 9) d 108 16 [some (.ref a8), some (.ref b8)] [] (cpA h (a8 + 1) (b8 + 1) 400)).trans (((yAn zgr108_16 rfl rfl) : zex E (n + 9) d 108 16 [some (.ref a8), some (.ref b8)] [] (cpA h (a8 + 1) (b8 + 1) 400) = zex E (n + 8) d 108 17 [some (.ref a8), some (.ref b8)] [.ref a8] (cpA h (a8 + 1) (b8 + 1) 400)).trans (((yAn zgr108_17 rfl rfl) : zex E (n + 8) d 108 17 [some (.ref a8), some (.ref b8)] [.ref a8] (cpA h (a8 + 1) (b8 + 1) 400) = zex E (n + 7) d 108 18 [some (.ref a8), some (.ref b8)] [.ref b8, .ref a8] (cpA h (a8 + 1) (b8 + 1) 400)).trans (((zgi zgr108_18 a7200 rfl) : zex E (n + 7) d 108 18 [some (.ref a8), some (.ref b8)] [.ref b8, .ref a8] (cpA h (a8 + 1) (b8 + 1) 400) = zex E (n + 6) d 108 21 [some (.ref a8), some (.ref b8)] [.int ((cpA h (a8 + 1) (b8 + 1) 400).2.1 b8 1), .ref a8] (cpA h (a8 + 1) (b8 + 1) 400)).trans (((zpx zgr108_21 a7300 rfl) : zex E (n + 6) d 108 21 [some (.ref a8), some (.ref b8)] [.int ((cpA h (a8 + 1) (b8 + 1) 400).2.1 b8 1), .ref a8] (cpA h (a8 + 1) (b8 + 1) 400) = zex E (n + 5) d 108 24 [some (.ref a8), some (.ref b8)] [] (cpF (cpA h (a8 + 1) (b8 + 1) 400) a8 b8 1)).trans (((yAn zgr108_24 rfl rfl) : zex E (n + 5) d 108 24 [some (.ref a8), some (.ref b8)] [] (cpF (cpA h (a8 + 1) (b8 + 1) 400) a8 b8 1) = zex E (n + 4) d 108 25 [some (.ref a8), some (.ref b8)] [.ref a8] (cpF (cpA h (a8 + 1) (b8 + 1) 400) a8 b8 1)).trans (((yAn zgr108_25 rfl rfl) : zex E (n + 4) d 108 25 [some (.ref a8), some (.ref b8)] [.ref a8] (cpF (cpA h (a8 + 1) (b8 + 1) 400) a8 b8 1) = zex E (n + 3) d 108 26 [some (.ref a8), some (.ref b8)] [.ref b8, .ref a8] (cpF (cpA h (a8 + 1) (b8 + 1) 400) a8 b8 1)).trans (((zgi zgr108_26 a7200 rfl) : zex E (n + 3) d 108 26 [some (.ref a8), some (.ref b8)] [.ref b8, .ref a8] (cpF (cpA h (a8 + 1) (b8 + 1) 400) a8 b8 1) = zex E (n + 2) d 108 29 [some (.ref a8), some (.ref b8)] [.int ((cpF (cpA h (a8 + 1) (b8 + 1) 400) a8 b8 1).2.1 b8 2), .ref a8] (cpF (cpA h (a8 + 1) (b8 + 1) 400) a8 b8 1)).trans (((zpx zgr108_29 a7300 rfl) : zex E (n + 2) d 108 29 [some (.ref a8), some (.ref b8)] [.int ((cpF (cpA h (a8 + 1) (b8 + 1) 400) a8 b8 1).2.1 b8 2), .ref a8] (cpF (cpA h (a8 + 1) (b8 + 1) 400) a8 b8 1) = zex E (n + 1) d 108 32 [some (.ref a8), some (.ref b8)] [] (cpF (cpF (cpA h (a8 + 1) (b8 + 1) 400) a8 b8 1) a8 b8 2)).trans (((yRet0 zgr108_32 rfl) : zex E (n + 1) d 108 32 [some (.ref a8), some (.ref b8)] [] (cpF (cpF (cpA h (a8 + 1) (b8 + 1) 400) a8 b8 1) a8 b8 2) = some (.inl none, (cpF (cpF (cpA h (a8 + 1) (b8 + 1) 400) a8 b8 1) a8 b8 2)))))))))))))))))))
set_option maxRecDepth 100000 in
theorem pz_0 {E : zE} {a9 a8 : Nat} {n d : Nat} {h : zH} {n9 : Nat} {rG rH : List (Option Nat)} (h28 : zat h.1 28 = some (.inl (3, 12, rG))) (h29 : zat h.1 29 = some (.inl (4, 12, rH))) (hx : (h.2.1 27 3).toInt = (n9 : Int)) (hn : n9 < 12) (hrG : zat rG n9 = some (some a9)) (hrH : zat rH n9 = some (some a8)) (a27 : zat h.1 27 = some (.inr (.inl (7, [some (some 28), some (some 29), none, none]))))  : zex E (n + 12) d 167 0 [some (.ref 27), some (.ref 18), some (.ref 25)] [] h = zex E n d 167 56 [some (.ref 27), some (.ref 18), some (.ref 25)] [] h :=
  ((yAn zgr167_0 rfl rfl) : zex E (n + 12) d 167 0 [some (.ref 27), some (.ref 18), some (.ref 25)] [] h = zex E (n + 11) d 167 1 [some (.ref 27), some (.ref 18), some (.ref 25)] [.ref 27] h).trans (((zgx zgr167_1 a27 rfl) : zex E (n + 11) d 167 1 [some (.ref 27), some (.ref 18), some (.ref 25)] [.ref 27] h = zex E (n + 10) d 167 4 [some (.ref 27), some (.ref 18), some (.ref 25)] [.ref 28] h).trans (((yAn zgr167_4 rfl rfl) : zex E (n + 10) d 167 4 [some (.ref 27), some (.ref 18), some (.ref 25)] [.ref 28] h = zex E (n + 9) d 167 5 [some (.ref 27), some (.ref 18), some (.ref 25)] [.ref 27, .ref 28] h).trans (((zgi zgr167_5 a27 rfl) : zex E (n + 9) d 167 5 [some (.ref 27), some (.ref 18), some (.ref 25)] [.ref 27, .ref 28] h = zex E (n + 8) d 167 8 [some (.ref 27), some (.ref 18), some (.ref 25)] [.int (h.2.1 27 3), .ref 28] h).trans (((yAal zgr167_8 h28 (by decide) hx hn hrG) : zex E (n + 8) d 167 8 [some (.ref 27), some (.ref 18), some (.ref 25)] [.int (h.2.1 27 3), .ref 28] h = zex E (n + 7) d 167 9 [some (.ref 27), some (.ref 18), some (.ref 25)] [.ref a9] h).trans (((yNnT zgr167_9) : zex E (n + 7) d 167 9 [some (.ref 27), some (.ref 18), some (.ref 25)] [.ref a9] h = zex E (n + 6) d 167 28 [some (.ref 27), some (.ref 18), some (.ref 25)] [] h).trans (((yAn zgr167_28 rfl rfl) : zex E (n + 6) d 167 28 [some (.ref 27), some (.ref 18), some (.ref 25)] [] h = zex E (n + 5) d 167 29 [some (.ref 27), some (.ref 18), some (.ref 25)] [.ref 27] h).trans (((zgx zgr167_29 a27 rfl) : zex E (n + 5) d 167 29 [some (.ref 27), some (.ref 18), some (.ref 25)] [.ref 27] h = zex E (n + 4) d 167 32 [some (.ref 27), some (.ref 18), some (.ref 25)] [.ref 29] h).trans (((yAn zgr167_32 rfl rfl) : zex E (n + 4) d 167 32 [some (.ref 27), some (.ref 18), some (.ref 25)] [.ref 29] h = zex E (n + 3) d 167 33 [some (.ref 27), some (.ref 18), some (.ref 25)] [.ref 27, .ref 29] h).trans (((zgi zgr167_33 a27 rfl) : zex E (n + 3) d 167 33 [some (.ref 27), some (.ref 18), some (.ref 25)] [.ref 27, .ref 29] h = zex E (n + 2) d 167 36 [some (.ref 27), some (.ref 18), some (.ref 25)] [.int (h.2.1 27 3), .ref 29] h).trans (((yAal zgr167_36 h29 (by decide) hx hn hrH) : zex E (n + 2) d 167 36 [some (.ref 27), some (.ref 18), some (.ref 25)] [.int (h.2.1 27 3), .ref 29] h = zex E (n + 1) d 167 37 [some (.ref 27), some (.ref 18), some (.ref 25)] [.ref a8] h).trans (((yNnT zgr167_37) : zex E (n + 1) d 167 37 [some (.ref 27), some (.ref 18), some (.ref 25)] [.ref a8] h = zex E n d 167 56 [some (.ref 27), some (.ref 18), some (.ref 25)] [] h))))))))))))
set_option maxRecDepth 100000 in
theorem pr_5 {E : zE} {a9 a8 : Nat} {n d : Nat} {h h1 h2 : zH} {n9 : Nat} {rG rH : List (Option Nat)} (h28 : zat h.1 28 = some (.inl (3, 12, rG))) (k29 : zat h1.1 29 = some (.inl (4, 12, rH))) (hx : (h.2.1 27 3).toInt = (n9 : Int)) (kx : (h1.2.1 27 3).toInt = (n9 : Int)) (hn : n9 < 12) (hrG : zat rG n9 = some (some a9)) (hrH : zat rH n9 = some (some a8)) (a27 : zat h.1 27 = some (.inr (.inl (7, [some (some 28), some (some 29), none, none])))) (a7100 : zat h.1 a9 = some (.inr (.inl (0, [some (some (a9 + 1)), some (some (a9 + 2)), some (some (a9 + 3)), some (some (a9 + 4)), some (some (a9 + 5)), some (some (a9 + 6)), none, none, none, none, none, none, none])))) (a27_h1 : zat h1.1 27 = some (.inr (.inl (7, [some (some 28), some (some 29), none, none])))) (a7300_h1 : zat h1.1 a8 = some (.inr (.inl (1, [some (some (a8 + 1)), none, none])))) (e1 : zex E (n + 7) d 91 0 [some (.ref a9), some (.ref 18)] [] h = some (.inl none, h1)) (e2 : zex E n d 108 0 [some (.ref a8), some (.ref 25)] [] h1 = some (.inl none, h2)) : zex E (n + 14) (d + 1) 167 56 [some (.ref 27), some (.ref 18), some (.ref 25)] [] h = zex E n (d + 1) 167 82 [some (.ref 27), some (.ref 18), some (.ref 25)] [] h2 :=
  ((yAn zgr167_56 rfl rfl) : zex E (n + 14) (d + 1) 167 56 [some (.ref 27), some (.ref 18), some (.ref 25)] [] h = zex E (n + 13) (d + 1) 167 57 [some (.ref 27), some (.ref 18), some (.ref 25)] [.ref 27] h).trans (((zgx zgr167_57 a27 rfl) : zex E (n + 13) (d + 1) 167 57 [some (.ref 27), some (.ref 18), some (.ref 25)] [.ref 27] h = zex E (n + 12) (d + 1) 167 60 [some (.ref 27), some (.ref 18), some (.ref 25)] [.ref 28] h).trans (((yAn zgr167_60 rfl rfl) : zex E (n + 12) (d + 1) 167 60 [some (.ref 27), some (.ref 18), some (.ref 25)] [.ref 28] h = zex E (n + 11) (d + 1) 167 61 [some (.ref 27), some (.ref 18), some (.ref 25)] [.ref 27, .ref 28] h).trans (((zgi zgr167_61 a27 rfl) : zex E (n + 11) (d + 1) 167 61 [some (.ref 27), some (.ref 18), some (.ref 25)] [.ref 27, .ref 28] h = zex E (n + 10) (d + 1) 167 64 [some (.ref 27), some (.ref 18), some (.ref 25)] [.int (h.2.1 27 3), .ref 28] h).trans (((yAal zgr167_64 h28 (by decide) hx hn hrG) : zex E (n + 10) (d + 1) 167 64 [some (.ref 27), some (.ref 18), some (.ref 25)] [.int (h.2.1 27 3), .ref 28] h = zex E (n + 9) (d + 1) 167 65 [some (.ref 27), some (.ref 18), some (.ref 25)] [.ref a9] h).trans (((yAn zgr167_65 rfl rfl) : zex E (n + 9) (d + 1) 167 65 [some (.ref 27), some (.ref 18), some (.ref 25)] [.ref a9] h = zex E (n + 8) (d + 1) 167 66 [some (.ref 27), some (.ref 18), some (.ref 25)] [.ref 18, .ref a9] h).trans (((zcvg (v := none) (h := h) (as := [.ref 18]) (r := []) zgr167_66 zns91 rfl a7100 rfl e1) : zex E (n + 8) (d + 1) 167 66 [some (.ref 27), some (.ref 18), some (.ref 25)] [.ref 18, .ref a9] h = zex E (n + 7) (d + 1) 167 69 [some (.ref 27), some (.ref 18), some (.ref 25)] [] h1).trans (((yAn zgr167_69 rfl rfl) : zex E (n + 7) (d + 1) 167 69 [some (.ref 27), some (.ref 18), some (.ref 25)] [] h1 = zex E (n + 6) (d + 1) 167 70 [some (.ref 27), some (.ref 18), some (.ref 25)] [.ref 27] h1).trans (((zgx zgr167_70 a27_h1 rfl) : zex E (n + 6) (d + 1) 167 70 [some (.ref 27), some (.ref 18), some (.ref 25)] [.ref 27] h1 = zex E (n + 5) (d + 1) 167 73 [some (.ref 27), some (.ref 18), some (.ref 25)] [.ref 29] h1).trans (((yAn zgr167_73 rfl rfl) : zex E (n + 5) (d + 1) 167 73 [some (.ref 27), some (.ref 18), some (.ref 25)] [.ref 29] h1 = zex E (n + 4) (d + 1) 167 74 [some (.ref 27), some (.ref 18), some (.ref 25)] [.ref 27, .ref 29] h1).trans (((zgi zgr167_74 a27_h1 rfl) : zex E (n + 4) (d + 1) 167 74 [some (.ref 27), some (.ref 18), some (.ref 25)] [.ref 27, .ref 29] h1 = zex E (n + 3) (d + 1) 167 77 [some (.ref 27), some (.ref 18), some (.ref 25)] [.int (h1.2.1 27 3), .ref 29] h1).trans (((yAal zgr167_77 k29 (by decide) kx hn hrH) : zex E (n + 3) (d + 1) 167 77 [some (.ref 27), some (.ref 18), some (.ref 25)] [.int (h1.2.1 27 3), .ref 29] h1 = zex E (n + 2) (d + 1) 167 78 [some (.ref 27), some (.ref 18), some (.ref 25)] [.ref a8] h1).trans (((yAn zgr167_78 rfl rfl) : zex E (n + 2) (d + 1) 167 78 [some (.ref 27), some (.ref 18), some (.ref 25)] [.ref a8] h1 = zex E (n + 1) (d + 1) 167 79 [some (.ref 27), some (.ref 18), some (.ref 25)] [.ref 25, .ref a8] h1).trans (((zcvg (v := none) (h := h1) (as := [.ref 25]) (r := []) zgr167_79 zns108 rfl a7300_h1 rfl e2) : zex E (n + 1) (d + 1) 167 79 [some (.ref 27), some (.ref 18), some (.ref 25)] [.ref 25, .ref a8] h1 = zex E n (d + 1) 167 82 [some (.ref 27), some (.ref 18), some (.ref 25)] [] h2))))))))))))))
set_option maxRecDepth 100000 in
theorem rr_0 {E : zE} {b9 b8 : Nat} {n d : Nat} {h : zH} {n9 : Nat} {rG rH : List (Option Nat)} (h28 : zat h.1 28 = some (.inl (3, 12, rG))) (h29 : zat h.1 29 = some (.inl (4, 12, rH))) (h0 : 0 < (h.2.1 27 3).toInt) (hs : (h.2.1 27 2).toInt ≠ 0) (hx : ((h.2.1 27 3 - 1) : Int32).toInt = (n9 : Int)) (hn : n9 < 12) (hrG : zat rG n9 = some (some b9)) (hrH : zat rH n9 = some (some b8)) (a27 : zat h.1 27 = some (.inr (.inl (7, [some (some 28), some (some 29), none, none]))))  : zex E (n + 22) d 168 0 [some (.ref 27), some (.ref 18), some (.ref 25), none] [] h = zex E n d 168 46 [some (.ref 27), some (.ref 18), some (.ref 25), some (.int ((h.2.1 27 3) - 1))] [] h :=
  ((yAn zgr168_0 rfl rfl) : zex E (n + 22) d 168 0 [some (.ref 27), some (.ref 18), some (.ref 25), none] [] h = zex E (n + 21) d 168 1 [some (.ref 27), some (.ref 18), some (.ref 25), none] [.ref 27] h).trans (((zgi zgr168_1 a27 rfl) : zex E (n + 21) d 168 1 [some (.ref 27), some (.ref 18), some (.ref 25), none] [.ref 27] h = zex E (n + 20) d 168 4 [some (.ref 27), some (.ref 18), some (.ref 25), none] [.int (h.2.1 27 3)] h).trans (((zjiF zgr168_4 h0) : zex E (n + 20) d 168 4 [some (.ref 27), some (.ref 18), some (.ref 25), none] [.int (h.2.1 27 3)] h = zex E (n + 19) d 168 7 [some (.ref 27), some (.ref 18), some (.ref 25), none] [] h).trans (((yAn zgr168_7 rfl rfl) : zex E (n + 19) d 168 7 [some (.ref 27), some (.ref 18), some (.ref 25), none] [] h = zex E (n + 18) d 168 8 [some (.ref 27), some (.ref 18), some (.ref 25), none] [.ref 27] h).trans (((zgi zgr168_8 a27 rfl) : zex E (n + 18) d 168 8 [some (.ref 27), some (.ref 18), some (.ref 25), none] [.ref 27] h = zex E (n + 17) d 168 11 [some (.ref 27), some (.ref 18), some (.ref 25), none] [.int (h.2.1 27 3)] h).trans (((yCi zgr168_11) : zex E (n + 17) d 168 11 [some (.ref 27), some (.ref 18), some (.ref 25), none] [.int (h.2.1 27 3)] h = zex E (n + 16) d 168 12 [some (.ref 27), some (.ref 18), some (.ref 25), none] [.int 1, .int (h.2.1 27 3)] h).trans (((ySub zgr168_12) : zex E (n + 16) d 168 12 [some (.ref 27), some (.ref 18), some (.ref 25), none] [.int 1, .int (h.2.1 27 3)] h = zex E (n + 15) d 168 13 [some (.ref 27), some (.ref 18), some (.ref 25), none] [.int ((h.2.1 27 3) - 1)] h).trans (((yGo zgr168_13) : zex E (n + 15) d 168 13 [some (.ref 27), some (.ref 18), some (.ref 25), none] [.int ((h.2.1 27 3) - 1)] h = zex E (n + 14) d 168 18 [some (.ref 27), some (.ref 18), some (.ref 25), none] [.int ((h.2.1 27 3) - 1)] h).trans (((ySn zgr168_18) : zex E (n + 14) d 168 18 [some (.ref 27), some (.ref 18), some (.ref 25), none] [.int ((h.2.1 27 3) - 1)] h = zex E (n + 13) d 168 19 [some (.ref 27), some (.ref 18), some (.ref 25), some (.int ((h.2.1 27 3) - 1))] [] h).trans (((yAn zgr168_19 rfl rfl) : zex E (n + 13) d 168 19 [some (.ref 27), some (.ref 18), some (.ref 25), some (.int ((h.2.1 27 3) - 1))] [] h = zex E (n + 12) d 168 20 [some (.ref 27), some (.ref 18), some (.ref 25), some (.int ((h.2.1 27 3) - 1))] [.ref 27] h).trans (((zgi zgr168_20 a27 rfl) : zex E (n + 12) d 168 20 [some (.ref 27), some (.ref 18), some (.ref 25), some (.int ((h.2.1 27 3) - 1))] [.ref 27] h = zex E (n + 11) d 168 23 [some (.ref 27), some (.ref 18), some (.ref 25), some (.int ((h.2.1 27 3) - 1))] [.int (h.2.1 27 2)] h).trans (((zjeF zgr168_23 hs) : zex E (n + 11) d 168 23 [some (.ref 27), some (.ref 18), some (.ref 25), some (.int ((h.2.1 27 3) - 1))] [.int (h.2.1 27 2)] h = zex E (n + 10) d 168 26 [some (.ref 27), some (.ref 18), some (.ref 25), some (.int ((h.2.1 27 3) - 1))] [] h).trans (((yAn zgr168_26 rfl rfl) : zex E (n + 10) d 168 26 [some (.ref 27), some (.ref 18), some (.ref 25), some (.int ((h.2.1 27 3) - 1))] [] h = zex E (n + 9) d 168 27 [some (.ref 27), some (.ref 18), some (.ref 25), some (.int ((h.2.1 27 3) - 1))] [.ref 27] h).trans (((zgx zgr168_27 a27 rfl) : zex E (n + 9) d 168 27 [some (.ref 27), some (.ref 18), some (.ref 25), some (.int ((h.2.1 27 3) - 1))] [.ref 27] h = zex E (n + 8) d 168 30 [some (.ref 27), some (.ref 18), some (.ref 25), some (.int ((h.2.1 27 3) - 1))] [.ref 28] h).trans (((yIn zgr168_30 rfl) : zex E (n + 8) d 168 30 [some (.ref 27), some (.ref 18), some (.ref 25), some (.int ((h.2.1 27 3) - 1))] [.ref 28] h = zex E (n + 7) d 168 31 [some (.ref 27), some (.ref 18), some (.ref 25), some (.int ((h.2.1 27 3) - 1))] [.int ((h.2.1 27 3) - 1), .ref 28] h).trans (((yAal zgr168_31 h28 (by decide) hx hn hrG) : zex E (n + 7) d 168 31 [some (.ref 27), some (.ref 18), some (.ref 25), some (.int ((h.2.1 27 3) - 1))] [.int ((h.2.1 27 3) - 1), .ref 28] h = zex E (n + 6) d 168 32 [some (.ref 27), some (.ref 18), some (.ref 25), some (.int ((h.2.1 27 3) - 1))] [.ref b9] h).trans (((yNuF zgr168_32) : zex E (n + 6) d 168 32 [some (.ref 27), some (.ref 18), some (.ref 25), some (.int ((h.2.1 27 3) - 1))] [.ref b9] h = zex E (n + 5) d 168 35 [some (.ref 27), some (.ref 18), some (.ref 25), some (.int ((h.2.1 27 3) - 1))] [] h).trans (((yAn zgr168_35 rfl rfl) : zex E (n + 5) d 168 35 [some (.ref 27), some (.ref 18), some (.ref 25), some (.int ((h.2.1 27 3) - 1))] [] h = zex E (n + 4) d 168 36 [some (.ref 27), some (.ref 18), some (.ref 25), some (.int ((h.2.1 27 3) - 1))] [.ref 27] h).trans (((zgx zgr168_36 a27 rfl) : zex E (n + 4) d 168 36 [some (.ref 27), some (.ref 18), some (.ref 25), some (.int ((h.2.1 27 3) - 1))] [.ref 27] h = zex E (n + 3) d 168 39 [some (.ref 27), some (.ref 18), some (.ref 25), some (.int ((h.2.1 27 3) - 1))] [.ref 29] h).trans (((yIn zgr168_39 rfl) : zex E (n + 3) d 168 39 [some (.ref 27), some (.ref 18), some (.ref 25), some (.int ((h.2.1 27 3) - 1))] [.ref 29] h = zex E (n + 2) d 168 40 [some (.ref 27), some (.ref 18), some (.ref 25), some (.int ((h.2.1 27 3) - 1))] [.int ((h.2.1 27 3) - 1), .ref 29] h).trans (((yAal zgr168_40 h29 (by decide) hx hn hrH) : zex E (n + 2) d 168 40 [some (.ref 27), some (.ref 18), some (.ref 25), some (.int ((h.2.1 27 3) - 1))] [.int ((h.2.1 27 3) - 1), .ref 29] h = zex E (n + 1) d 168 41 [some (.ref 27), some (.ref 18), some (.ref 25), some (.int ((h.2.1 27 3) - 1))] [.ref b8] h).trans (((yNnT zgr168_41) : zex E (n + 1) d 168 41 [some (.ref 27), some (.ref 18), some (.ref 25), some (.int ((h.2.1 27 3) - 1))] [.ref b8] h = zex E n d 168 46 [some (.ref 27), some (.ref 18), some (.ref 25), some (.int ((h.2.1 27 3) - 1))] [] h))))))))))))))))))))))
set_option maxRecDepth 100000 in
theorem rr_1 {E : zE} {b9 b8 : Nat} {n d : Nat} {h : zH} {n9 : Nat} {rG rH : List (Option Nat)} (h28 : zat h.1 28 = some (.inl (3, 12, rG))) (h29 : zat h.1 29 = some (.inl (4, 12, rH))) (h0 : (h.2.1 27 3).toInt ≤ 0) (hs : (h.2.1 27 2).toInt ≠ 0) (hx : (11 : Int32).toInt = (n9 : Int)) (hn : n9 < 12) (hrG : zat rG n9 = some (some b9)) (hrH : zat rH n9 = some (some b8)) (a27 : zat h.1 27 = some (.inr (.inl (7, [some (some 28), some (some 29), none, none]))))  : zex E (n + 18) d 168 0 [some (.ref 27), some (.ref 18), some (.ref 25), none] [] h = zex E n d 168 46 [some (.ref 27), some (.ref 18), some (.ref 25), some (.int 11)] [] h :=
  ((yAn zgr168_0 rfl rfl) : zex E (n + 18) d 168 0 [some (.ref 27), some (.ref 18), some (.ref 25), none] [] h = zex E (n + 17) d 168 1 [some (.ref 27), some (.ref 18), some (.ref 25), none] [.ref 27] h).trans (((zgi zgr168_1 a27 rfl) : zex E (n + 17) d 168 1 [some (.ref 27), some (.ref 18), some (.ref 25), none] [.ref 27] h = zex E (n + 16) d 168 4 [some (.ref 27), some (.ref 18), some (.ref 25), none] [.int (h.2.1 27 3)] h).trans (((zjiT zgr168_4 h0) : zex E (n + 16) d 168 4 [some (.ref 27), some (.ref 18), some (.ref 25), none] [.int (h.2.1 27 3)] h = zex E (n + 15) d 168 16 [some (.ref 27), some (.ref 18), some (.ref 25), none] [] h).trans (((yCb zgr168_16) : zex E (n + 15) d 168 16 [some (.ref 27), some (.ref 18), some (.ref 25), none] [] h = zex E (n + 14) d 168 18 [some (.ref 27), some (.ref 18), some (.ref 25), none] [.int 11] h).trans (((ySn zgr168_18) : zex E (n + 14) d 168 18 [some (.ref 27), some (.ref 18), some (.ref 25), none] [.int 11] h = zex E (n + 13) d 168 19 [some (.ref 27), some (.ref 18), some (.ref 25), some (.int 11)] [] h).trans (((yAn zgr168_19 rfl rfl) : zex E (n + 13) d 168 19 [some (.ref 27), some (.ref 18), some (.ref 25), some (.int 11)] [] h = zex E (n + 12) d 168 20 [some (.ref 27), some (.ref 18), some (.ref 25), some (.int 11)] [.ref 27] h).trans (((zgi zgr168_20 a27 rfl) : zex E (n + 12) d 168 20 [some (.ref 27), some (.ref 18), some (.ref 25), some (.int 11)] [.ref 27] h = zex E (n + 11) d 168 23 [some (.ref 27), some (.ref 18), some (.ref 25), some (.int 11)] [.int (h.2.1 27 2)] h).trans (((zjeF zgr168_23 hs) : zex E (n + 11) d 168 23 [some (.ref 27), some (.ref 18), some (.ref 25), some (.int 11)] [.int (h.2.1 27 2)] h = zex E (n + 10) d 168 26 [some (.ref 27), some (.ref 18), some (.ref 25), some (.int 11)] [] h).trans (((yAn zgr168_26 rfl rfl) : zex E (n + 10) d 168 26 [some (.ref 27), some (.ref 18), some (.ref 25), some (.int 11)] [] h = zex E (n + 9) d 168 27 [some (.ref 27), some (.ref 18), some (.ref 25), some (.int 11)] [.ref 27] h).trans (((zgx zgr168_27 a27 rfl) : zex E (n + 9) d 168 27 [some (.ref 27), some (.ref 18), some (.ref 25), some (.int 11)] [.ref 27] h = zex E (n + 8) d 168 30 [some (.ref 27), some (.ref 18), some (.ref 25), some (.int 11)] [.ref 28] h).trans (((yIn zgr168_30 rfl) : zex E (n + 8) d 168 30 [some (.ref 27), some (.ref 18), some (.ref 25), some (.int 11)] [.ref 28] h = zex E (n + 7) d 168 31 [some (.ref 27), some (.ref 18), some (.ref 25), some (.int 11)] [.int 11, .ref 28] h).trans (((yAal zgr168_31 h28 (by decide) hx hn hrG) : zex E (n + 7) d 168 31 [some (.ref 27), some (.ref 18), some (.ref 25), some (.int 11)] [.int 11, .ref 28] h = zex E (n + 6) d 168 32 [some (.ref 27), some (.ref 18), some (.ref 25), some (.int 11)] [.ref b9] h).trans (((yNuF zgr168_32) : zex E (n + 6) d 168 32 [some (.ref 27), some (.ref 18), some (.ref 25), some (.int 11)] [.ref b9] h = zex E (n + 5) d 168 35 [some (.ref 27), some (.ref 18), some (.ref 25), some (.int 11)] [] h).trans (((yAn zgr168_35 rfl rfl) : zex E (n + 5) d 168 35 [some (.ref 27), some (.ref 18), some (.ref 25), some (.int 11)] [] h = zex E (n + 4) d 168 36 [some (.ref 27), some (.ref 18), some (.ref 25), some (.int 11)] [.ref 27] h).trans (((zgx zgr168_36 a27 rfl) : zex E (n + 4) d 168 36 [some (.ref 27), some (.ref 18), some (.ref 25), some (.int 11)] [.ref 27] h = zex E (n + 3) d 168 39 [some (.ref 27), some (.ref 18), some (.ref 25), some (.int 11)] [.ref 29] h).trans (((yIn zgr168_39 rfl) : zex E (n + 3) d 168 39 [some (.ref 27), some (.ref 18), some (.ref 25), some (.int 11)] [.ref 29] h = zex E (n + 2) d 168 40 [some (.ref 27), some (.ref 18), some (.ref 25), some (.int 11)] [.int 11, .ref 29] h).trans (((yAal zgr168_40 h29 (by decide) hx hn hrH) : zex E (n + 2) d 168 40 [some (.ref 27), some (.ref 18), some (.ref 25), some (.int 11)] [.int 11, .ref 29] h = zex E (n + 1) d 168 41 [some (.ref 27), some (.ref 18), some (.ref 25), some (.int 11)] [.ref b8] h).trans (((yNnT zgr168_41) : zex E (n + 1) d 168 41 [some (.ref 27), some (.ref 18), some (.ref 25), some (.int 11)] [.ref b8] h = zex E n d 168 46 [some (.ref 27), some (.ref 18), some (.ref 25), some (.int 11)] [] h))))))))))))))))))
set_option maxRecDepth 100000 in
theorem rr_2 {E : zE} {b9 b8 : Nat} {n d : Nat} {h h1 h2 : zH} {x9 : Int32} {n9 : Nat} {rG rH : List (Option Nat)} (h28 : zat h.1 28 = some (.inl (3, 12, rG))) (k29 : zat h1.1 29 = some (.inl (4, 12, rH))) (hx : x9.toInt = (n9 : Int)) (hn : n9 < 12) (hrG : zat rG n9 = some (some b9)) (hrH : zat rH n9 = some (some b8)) (a18 : zat h.1 18 = some (.inr (.inl (0, [some (some 19), some (some 20), some (some 21), some (some 22), some (some 23), some (some 24), none, none, none, none, none, none, none])))) (a27 : zat h.1 27 = some (.inr (.inl (7, [some (some 28), some (some 29), none, none])))) (a25_h1 : zat h1.1 25 = some (.inr (.inl (1, [some (some 26), none, none])))) (a27_h1 : zat h1.1 27 = some (.inr (.inl (7, [some (some 28), some (some 29), none, none])))) (e1 : zex E (n + 6) d 91 0 [some (.ref 18), some (.ref b9)] [] h = some (.inl none, h1)) (e2 : zex E n d 108 0 [some (.ref 25), some (.ref b8)] [] h1 = some (.inl none, h2)) : zex E (n + 12) (d + 1) 168 46 [some (.ref 27), some (.ref 18), some (.ref 25), some (.int x9)] [] h = zex E n (d + 1) 168 66 [some (.ref 27), some (.ref 18), some (.ref 25), some (.int x9)] [] h2 :=
  ((yAn zgr168_46 rfl rfl) : zex E (n + 12) (d + 1) 168 46 [some (.ref 27), some (.ref 18), some (.ref 25), some (.int x9)] [] h = zex E (n + 11) (d + 1) 168 47 [some (.ref 27), some (.ref 18), some (.ref 25), some (.int x9)] [.ref 18] h).trans (((yAn zgr168_47 rfl rfl) : zex E (n + 11) (d + 1) 168 47 [some (.ref 27), some (.ref 18), some (.ref 25), some (.int x9)] [.ref 18] h = zex E (n + 10) (d + 1) 168 48 [some (.ref 27), some (.ref 18), some (.ref 25), some (.int x9)] [.ref 27, .ref 18] h).trans (((zgx zgr168_48 a27 rfl) : zex E (n + 10) (d + 1) 168 48 [some (.ref 27), some (.ref 18), some (.ref 25), some (.int x9)] [.ref 27, .ref 18] h = zex E (n + 9) (d + 1) 168 51 [some (.ref 27), some (.ref 18), some (.ref 25), some (.int x9)] [.ref 28, .ref 18] h).trans (((yIn zgr168_51 rfl) : zex E (n + 9) (d + 1) 168 51 [some (.ref 27), some (.ref 18), some (.ref 25), some (.int x9)] [.ref 28, .ref 18] h = zex E (n + 8) (d + 1) 168 52 [some (.ref 27), some (.ref 18), some (.ref 25), some (.int x9)] [.int x9, .ref 28, .ref 18] h).trans (((yAal zgr168_52 h28 (by decide) hx hn hrG) : zex E (n + 8) (d + 1) 168 52 [some (.ref 27), some (.ref 18), some (.ref 25), some (.int x9)] [.int x9, .ref 28, .ref 18] h = zex E (n + 7) (d + 1) 168 53 [some (.ref 27), some (.ref 18), some (.ref 25), some (.int x9)] [.ref b9, .ref 18] h).trans (((zcvg (v := none) (h := h) (as := [.ref b9]) (r := []) zgr168_53 zns91 rfl a18 rfl e1) : zex E (n + 7) (d + 1) 168 53 [some (.ref 27), some (.ref 18), some (.ref 25), some (.int x9)] [.ref b9, .ref 18] h = zex E (n + 6) (d + 1) 168 56 [some (.ref 27), some (.ref 18), some (.ref 25), some (.int x9)] [] h1).trans (((yAn zgr168_56 rfl rfl) : zex E (n + 6) (d + 1) 168 56 [some (.ref 27), some (.ref 18), some (.ref 25), some (.int x9)] [] h1 = zex E (n + 5) (d + 1) 168 57 [some (.ref 27), some (.ref 18), some (.ref 25), some (.int x9)] [.ref 25] h1).trans (((yAn zgr168_57 rfl rfl) : zex E (n + 5) (d + 1) 168 57 [some (.ref 27), some (.ref 18), some (.ref 25), some (.int x9)] [.ref 25] h1 = zex E (n + 4) (d + 1) 168 58 [some (.ref 27), some (.ref 18), some (.ref 25), some (.int x9)] [.ref 27, .ref 25] h1).trans (((zgx zgr168_58 a27_h1 rfl) : zex E (n + 4) (d + 1) 168 58 [some (.ref 27), some (.ref 18), some (.ref 25), some (.int x9)] [.ref 27, .ref 25] h1 = zex E (n + 3) (d + 1) 168 61 [some (.ref 27), some (.ref 18), some (.ref 25), some (.int x9)] [.ref 29, .ref 25] h1).trans (((yIn zgr168_61 rfl) : zex E (n + 3) (d + 1) 168 61 [some (.ref 27), some (.ref 18), some (.ref 25), some (.int x9)] [.ref 29, .ref 25] h1 = zex E (n + 2) (d + 1) 168 62 [some (.ref 27), some (.ref 18), some (.ref 25), some (.int x9)] [.int x9, .ref 29, .ref 25] h1).trans (((yAal zgr168_62 k29 (by decide) hx hn hrH) : zex E (n + 2) (d + 1) 168 62 [some (.ref 27), some (.ref 18), some (.ref 25), some (.int x9)] [.int x9, .ref 29, .ref 25] h1 = zex E (n + 1) (d + 1) 168 63 [some (.ref 27), some (.ref 18), some (.ref 25), some (.int x9)] [.ref b8, .ref 25] h1).trans (((zcvg (v := none) (h := h1) (as := [.ref b8]) (r := []) zgr168_63 zns108 rfl a25_h1 rfl e2) : zex E (n + 1) (d + 1) 168 63 [some (.ref 27), some (.ref 18), some (.ref 25), some (.int x9)] [.ref b8, .ref 25] h1 = zex E n (d + 1) 168 66 [some (.ref 27), some (.ref 18), some (.ref 25), some (.int x9)] [] h2))))))))))))
set_option maxRecDepth 100000 in
theorem rr_3 {E : zE} {n d : Nat} {h : zH} {x9 : Int32}  (a27 : zat h.1 27 = some (.inr (.inl (7, [some (some 28), some (some 29), none, none]))))  : zex E (n + 11) d 168 66 [some (.ref 27), some (.ref 18), some (.ref 25), some (.int x9)] [] h = some (.inl (some (.int 1)), (zsetI (zsetI h 27 (upd (h.2.1 27) 3 x9)) 27 (upd ((zsetI h 27 (upd (h.2.1 27) 3 x9)).2.1 27) 2 (((zsetI h 27 (upd (h.2.1 27) 3 x9)).2.1 27 2) - 1)))) :=
  ((yAn zgr168_66 rfl rfl) : zex E (n + 11) d 168 66 [some (.ref 27), some (.ref 18), some (.ref 25), some (.int x9)] [] h = zex E (n + 10) d 168 67 [some (.ref 27), some (.ref 18), some (.ref 25), some (.int x9)] [.ref 27] h).trans (((yIn zgr168_67 rfl) : zex E (n + 10) d 168 67 [some (.ref 27), some (.ref 18), some (.ref 25), some (.int x9)] [.ref 27] h = zex E (n + 9) d 168 68 [some (.ref 27), some (.ref 18), some (.ref 25), some (.int x9)] [.int x9, .ref 27] h).trans (((zpx zgr168_68 a27 rfl) : zex E (n + 9) d 168 68 [some (.ref 27), some (.ref 18), some (.ref 25), some (.int x9)] [.int x9, .ref 27] h = zex E (n + 8) d 168 71 [some (.ref 27), some (.ref 18), some (.ref 25), some (.int x9)] [] (zsetI h 27 (upd (h.2.1 27) 3 x9))).trans (((yAn zgr168_71 rfl rfl) : zex E (n + 8) d 168 71 [some (.ref 27), some (.ref 18), some (.ref 25), some (.int x9)] [] (zsetI h 27 (upd (h.2.1 27) 3 x9)) = zex E (n + 7) d 168 72 [some (.ref 27), some (.ref 18), some (.ref 25), some (.int x9)] [.ref 27] (zsetI h 27 (upd (h.2.1 27) 3 x9))).trans (((yDup zgr168_72 rfl) : zex E (n + 7) d 168 72 [some (.ref 27), some (.ref 18), some (.ref 25), some (.int x9)] [.ref 27] (zsetI h 27 (upd (h.2.1 27) 3 x9)) = zex E (n + 6) d 168 73 [some (.ref 27), some (.ref 18), some (.ref 25), some (.int x9)] [.ref 27, .ref 27] (zsetI h 27 (upd (h.2.1 27) 3 x9))).trans (((zgi zgr168_73 a27 rfl) : zex E (n + 6) d 168 73 [some (.ref 27), some (.ref 18), some (.ref 25), some (.int x9)] [.ref 27, .ref 27] (zsetI h 27 (upd (h.2.1 27) 3 x9)) = zex E (n + 5) d 168 76 [some (.ref 27), some (.ref 18), some (.ref 25), some (.int x9)] [.int ((zsetI h 27 (upd (h.2.1 27) 3 x9)).2.1 27 2), .ref 27] (zsetI h 27 (upd (h.2.1 27) 3 x9))).trans (((yCi zgr168_76) : zex E (n + 5) d 168 76 [some (.ref 27), some (.ref 18), some (.ref 25), some (.int x9)] [.int ((zsetI h 27 (upd (h.2.1 27) 3 x9)).2.1 27 2), .ref 27] (zsetI h 27 (upd (h.2.1 27) 3 x9)) = zex E (n + 4) d 168 77 [some (.ref 27), some (.ref 18), some (.ref 25), some (.int x9)] [.int 1, .int ((zsetI h 27 (upd (h.2.1 27) 3 x9)).2.1 27 2), .ref 27] (zsetI h 27 (upd (h.2.1 27) 3 x9))).trans (((ySub zgr168_77) : zex E (n + 4) d 168 77 [some (.ref 27), some (.ref 18), some (.ref 25), some (.int x9)] [.int 1, .int ((zsetI h 27 (upd (h.2.1 27) 3 x9)).2.1 27 2), .ref 27] (zsetI h 27 (upd (h.2.1 27) 3 x9)) = zex E (n + 3) d 168 78 [some (.ref 27), some (.ref 18), some (.ref 25), some (.int x9)] [.int (((zsetI h 27 (upd (h.2.1 27) 3 x9)).2.1 27 2) - 1), .ref 27] (zsetI h 27 (upd (h.2.1 27) 3 x9))).trans (((zpx zgr168_78 a27 rfl) : zex E (n + 3) d 168 78 [some (.ref 27), some (.ref 18), some (.ref 25), some (.int x9)] [.int (((zsetI h 27 (upd (h.2.1 27) 3 x9)).2.1 27 2) - 1), .ref 27] (zsetI h 27 (upd (h.2.1 27) 3 x9)) = zex E (n + 2) d 168 81 [some (.ref 27), some (.ref 18), some (.ref 25), some (.int x9)] [] (zsetI (zsetI h 27 (upd (h.2.1 27) 3 x9)) 27 (upd ((zsetI h 27 (upd (h.2.1 27) 3 x9)).2.1 27) 2 (((zsetI h 27 (upd (h.2.1 27) 3 x9)).2.1 27 2) - 1)))).trans (((yCi zgr168_81) : zex E (n + 2) d 168 81 [some (.ref 27), some (.ref 18), some (.ref 25), some (.int x9)] [] (zsetI (zsetI h 27 (upd (h.2.1 27) 3 x9)) 27 (upd ((zsetI h 27 (upd (h.2.1 27) 3 x9)).2.1 27) 2 (((zsetI h 27 (upd (h.2.1 27) 3 x9)).2.1 27 2) - 1))) = zex E (n + 1) d 168 82 [some (.ref 27), some (.ref 18), some (.ref 25), some (.int x9)] [.int 1] (zsetI (zsetI h 27 (upd (h.2.1 27) 3 x9)) 27 (upd ((zsetI h 27 (upd (h.2.1 27) 3 x9)).2.1 27) 2 (((zsetI h 27 (upd (h.2.1 27) 3 x9)).2.1 27 2) - 1)))).trans (((yRet2 zgr168_82 rfl (Or.inr rfl)) : zex E (n + 1) d 168 82 [some (.ref 27), some (.ref 18), some (.ref 25), some (.int x9)] [.int 1] (zsetI (zsetI h 27 (upd (h.2.1 27) 3 x9)) 27 (upd ((zsetI h 27 (upd (h.2.1 27) 3 x9)).2.1 27) 2 (((zsetI h 27 (upd (h.2.1 27) 3 x9)).2.1 27 2) - 1))) = some (.inl (some (.int 1)), (zsetI (zsetI h 27 (upd (h.2.1 27) 3 x9)) 27 (upd ((zsetI h 27 (upd (h.2.1 27) 3 x9)).2.1 27) 2 (((zsetI h 27 (upd (h.2.1 27) 3 x9)).2.1 27 2) - 1)))))))))))))))

def cgH (h : zH) (a b : Nat) : zH := (cpF (cpF (cpF (cpF (cpF (cpF (cpF (cpA (cpA (cpA (cpA (cpA (cpA h (a + 1) (b + 1) 12) (a + 2) (b + 2) 8) (a + 3) (b + 3) 8) (a + 4) (b + 4) 8) (a + 5) (b + 5) 96) (a + 6) (b + 6) 64) a b 6) a b 7) a b 8) a b 9) a b 10) a b 11) a b 12)
def chH (h : zH) (a b : Nat) : zH := (cpF (cpF (cpA h (a + 1) (b + 1) 400) a b 1) a b 2)
section CG
variable {h : zH} {a b : Nat}
set_option maxRecDepth 100000 in
theorem cpA_o {h : zH} {b a N c : Nat} (hc : c ≠ b) : (cpA h b a N).2.1 c = h.2.1 c := zrow_ne _ _ hc
set_option maxRecDepth 100000 in
theorem cpA_i {h : zH} {b a N k : Nat} (hk : k < N) : (cpA h b a N).2.1 b k = h.2.1 a k := by
  show zrow h.2.1 b (va_cpy (h.2.1 a) (h.2.1 b) 0 0 N) b k = _
  rw [zrow_at]
  exact cpy_in hk
set_option maxRecDepth 100000 in
theorem cpF_o {h : zH} {p q k c : Nat} (hc : c ≠ p) : (cpF h p q k).2.1 c = h.2.1 c := zrow_ne _ _ hc
set_option maxRecDepth 100000 in
theorem cpF_i {h : zH} {p q k : Nat} : (cpF h p q k).2.1 p k = h.2.1 q k := by
  show zrow h.2.1 p (upd (h.2.1 p) k (h.2.1 q k)) p k = _
  rw [zrow_at, upd_e]
set_option maxRecDepth 100000 in
theorem cpF_n {h : zH} {p q k j : Nat} (hj : j ≠ k) : (cpF h p q k).2.1 p j = h.2.1 p j := by
  show zrow h.2.1 p (upd (h.2.1 p) k (h.2.1 q k)) p j = _
  rw [zrow_at, upd_n hj]
set_option maxRecDepth 100000 in
theorem cg_o {c : Nat} (hc : c < a ∨ a + 7 ≤ c) : (cgH h a b).2.1 c = h.2.1 c := by
  unfold cgH
  rw [cpF_o (c := c) (by omega)]
  rw [cpF_o (c := c) (by omega)]
  rw [cpF_o (c := c) (by omega)]
  rw [cpF_o (c := c) (by omega)]
  rw [cpF_o (c := c) (by omega)]
  rw [cpF_o (c := c) (by omega)]
  rw [cpF_o (c := c) (by omega)]
  rw [cpA_o (c := c) (by omega)]
  rw [cpA_o (c := c) (by omega)]
  rw [cpA_o (c := c) (by omega)]
  rw [cpA_o (c := c) (by omega)]
  rw [cpA_o (c := c) (by omega)]
  rw [cpA_o (c := c) (by omega)]
set_option maxRecDepth 100000 in
theorem ch_o {c : Nat} (hc : c < a ∨ a + 2 ≤ c) : (chH h a b).2.1 c = h.2.1 c := by
  unfold chH
  rw [cpF_o (c := c) (by omega)]
  rw [cpF_o (c := c) (by omega)]
  rw [cpA_o (c := c) (by omega)]
set_option maxRecDepth 100000 in
theorem cg_v1 (hd : a + 7 ≤ b ∨ b + 7 ≤ a) (k : Nat) (hk : k < 12) : (cgH h a b).2.1 (a + 1) k = h.2.1 (b + 1) k := by
  unfold cgH
  rw [cpF_o (c := a + 1) (by omega)]
  rw [cpF_o (c := a + 1) (by omega)]
  rw [cpF_o (c := a + 1) (by omega)]
  rw [cpF_o (c := a + 1) (by omega)]
  rw [cpF_o (c := a + 1) (by omega)]
  rw [cpF_o (c := a + 1) (by omega)]
  rw [cpF_o (c := a + 1) (by omega)]
  rw [cpA_o (c := a + 1) (by omega)]
  rw [cpA_o (c := a + 1) (by omega)]
  rw [cpA_o (c := a + 1) (by omega)]
  rw [cpA_o (c := a + 1) (by omega)]
  rw [cpA_o (c := a + 1) (by omega)]
  rw [cpA_i hk]
set_option maxRecDepth 100000 in
theorem cg_v2 (hd : a + 7 ≤ b ∨ b + 7 ≤ a) (k : Nat) (hk : k < 8) : (cgH h a b).2.1 (a + 2) k = h.2.1 (b + 2) k := by
  unfold cgH
  rw [cpF_o (c := a + 2) (by omega)]
  rw [cpF_o (c := a + 2) (by omega)]
  rw [cpF_o (c := a + 2) (by omega)]
  rw [cpF_o (c := a + 2) (by omega)]
  rw [cpF_o (c := a + 2) (by omega)]
  rw [cpF_o (c := a + 2) (by omega)]
  rw [cpF_o (c := a + 2) (by omega)]
  rw [cpA_o (c := a + 2) (by omega)]
  rw [cpA_o (c := a + 2) (by omega)]
  rw [cpA_o (c := a + 2) (by omega)]
  rw [cpA_o (c := a + 2) (by omega)]
  rw [cpA_i hk]
  rw [cpA_o (c := b + 2) (by omega)]
set_option maxRecDepth 100000 in
theorem cg_v3 (hd : a + 7 ≤ b ∨ b + 7 ≤ a) (k : Nat) (hk : k < 8) : (cgH h a b).2.1 (a + 3) k = h.2.1 (b + 3) k := by
  unfold cgH
  rw [cpF_o (c := a + 3) (by omega)]
  rw [cpF_o (c := a + 3) (by omega)]
  rw [cpF_o (c := a + 3) (by omega)]
  rw [cpF_o (c := a + 3) (by omega)]
  rw [cpF_o (c := a + 3) (by omega)]
  rw [cpF_o (c := a + 3) (by omega)]
  rw [cpF_o (c := a + 3) (by omega)]
  rw [cpA_o (c := a + 3) (by omega)]
  rw [cpA_o (c := a + 3) (by omega)]
  rw [cpA_o (c := a + 3) (by omega)]
  rw [cpA_i hk]
  rw [cpA_o (c := b + 3) (by omega)]
  rw [cpA_o (c := b + 3) (by omega)]
set_option maxRecDepth 100000 in
theorem cg_v4 (hd : a + 7 ≤ b ∨ b + 7 ≤ a) (k : Nat) (hk : k < 8) : (cgH h a b).2.1 (a + 4) k = h.2.1 (b + 4) k := by
  unfold cgH
  rw [cpF_o (c := a + 4) (by omega)]
  rw [cpF_o (c := a + 4) (by omega)]
  rw [cpF_o (c := a + 4) (by omega)]
  rw [cpF_o (c := a + 4) (by omega)]
  rw [cpF_o (c := a + 4) (by omega)]
  rw [cpF_o (c := a + 4) (by omega)]
  rw [cpF_o (c := a + 4) (by omega)]
  rw [cpA_o (c := a + 4) (by omega)]
  rw [cpA_o (c := a + 4) (by omega)]
  rw [cpA_i hk]
  rw [cpA_o (c := b + 4) (by omega)]
  rw [cpA_o (c := b + 4) (by omega)]
  rw [cpA_o (c := b + 4) (by omega)]
set_option maxRecDepth 100000 in
theorem cg_v5 (hd : a + 7 ≤ b ∨ b + 7 ≤ a) (k : Nat) (hk : k < 96) : (cgH h a b).2.1 (a + 5) k = h.2.1 (b + 5) k := by
  unfold cgH
  rw [cpF_o (c := a + 5) (by omega)]
  rw [cpF_o (c := a + 5) (by omega)]
  rw [cpF_o (c := a + 5) (by omega)]
  rw [cpF_o (c := a + 5) (by omega)]
  rw [cpF_o (c := a + 5) (by omega)]
  rw [cpF_o (c := a + 5) (by omega)]
  rw [cpF_o (c := a + 5) (by omega)]
  rw [cpA_o (c := a + 5) (by omega)]
  rw [cpA_i hk]
  rw [cpA_o (c := b + 5) (by omega)]
  rw [cpA_o (c := b + 5) (by omega)]
  rw [cpA_o (c := b + 5) (by omega)]
  rw [cpA_o (c := b + 5) (by omega)]
set_option maxRecDepth 100000 in
theorem cg_v6 (hd : a + 7 ≤ b ∨ b + 7 ≤ a) (k : Nat) (hk : k < 64) : (cgH h a b).2.1 (a + 6) k = h.2.1 (b + 6) k := by
  unfold cgH
  rw [cpF_o (c := a + 6) (by omega)]
  rw [cpF_o (c := a + 6) (by omega)]
  rw [cpF_o (c := a + 6) (by omega)]
  rw [cpF_o (c := a + 6) (by omega)]
  rw [cpF_o (c := a + 6) (by omega)]
  rw [cpF_o (c := a + 6) (by omega)]
  rw [cpF_o (c := a + 6) (by omega)]
  rw [cpA_i hk]
  rw [cpA_o (c := b + 6) (by omega)]
  rw [cpA_o (c := b + 6) (by omega)]
  rw [cpA_o (c := b + 6) (by omega)]
  rw [cpA_o (c := b + 6) (by omega)]
  rw [cpA_o (c := b + 6) (by omega)]
set_option maxRecDepth 100000 in
theorem cg_f6 (hd : a + 7 ≤ b ∨ b + 7 ≤ a) : (cgH h a b).2.1 a 6 = h.2.1 b 6 := by
  unfold cgH
  rw [cpF_n (by decide)]
  rw [cpF_n (by decide)]
  rw [cpF_n (by decide)]
  rw [cpF_n (by decide)]
  rw [cpF_n (by decide)]
  rw [cpF_n (by decide)]
  rw [cpF_i]
  rw [cpA_o (c := b) (by omega)]
  rw [cpA_o (c := b) (by omega)]
  rw [cpA_o (c := b) (by omega)]
  rw [cpA_o (c := b) (by omega)]
  rw [cpA_o (c := b) (by omega)]
  rw [cpA_o (c := b) (by omega)]
set_option maxRecDepth 100000 in
theorem cg_f7 (hd : a + 7 ≤ b ∨ b + 7 ≤ a) : (cgH h a b).2.1 a 7 = h.2.1 b 7 := by
  unfold cgH
  rw [cpF_n (by decide)]
  rw [cpF_n (by decide)]
  rw [cpF_n (by decide)]
  rw [cpF_n (by decide)]
  rw [cpF_n (by decide)]
  rw [cpF_i]
  rw [cpF_o (c := b) (by omega)]
  rw [cpA_o (c := b) (by omega)]
  rw [cpA_o (c := b) (by omega)]
  rw [cpA_o (c := b) (by omega)]
  rw [cpA_o (c := b) (by omega)]
  rw [cpA_o (c := b) (by omega)]
  rw [cpA_o (c := b) (by omega)]
set_option maxRecDepth 100000 in
theorem cg_f8 (hd : a + 7 ≤ b ∨ b + 7 ≤ a) : (cgH h a b).2.1 a 8 = h.2.1 b 8 := by
  unfold cgH
  rw [cpF_n (by decide)]
  rw [cpF_n (by decide)]
  rw [cpF_n (by decide)]
  rw [cpF_n (by decide)]
  rw [cpF_i]
  rw [cpF_o (c := b) (by omega)]
  rw [cpF_o (c := b) (by omega)]
  rw [cpA_o (c := b) (by omega)]
  rw [cpA_o (c := b) (by omega)]
  rw [cpA_o (c := b) (by omega)]
  rw [cpA_o (c := b) (by omega)]
  rw [cpA_o (c := b) (by omega)]
  rw [cpA_o (c := b) (by omega)]
set_option maxRecDepth 100000 in
theorem cg_f9 (hd : a + 7 ≤ b ∨ b + 7 ≤ a) : (cgH h a b).2.1 a 9 = h.2.1 b 9 := by
  unfold cgH
  rw [cpF_n (by decide)]
  rw [cpF_n (by decide)]
  rw [cpF_n (by decide)]
  rw [cpF_i]
  rw [cpF_o (c := b) (by omega)]
  rw [cpF_o (c := b) (by omega)]
  rw [cpF_o (c := b) (by omega)]
  rw [cpA_o (c := b) (by omega)]
  rw [cpA_o (c := b) (by omega)]
  rw [cpA_o (c := b) (by omega)]
  rw [cpA_o (c := b) (by omega)]
  rw [cpA_o (c := b) (by omega)]
  rw [cpA_o (c := b) (by omega)]
set_option maxRecDepth 100000 in
theorem cg_f10 (hd : a + 7 ≤ b ∨ b + 7 ≤ a) : (cgH h a b).2.1 a 10 = h.2.1 b 10 := by
  unfold cgH
  rw [cpF_n (by decide)]
  rw [cpF_n (by decide)]
  rw [cpF_i]
  rw [cpF_o (c := b) (by omega)]
  rw [cpF_o (c := b) (by omega)]
  rw [cpF_o (c := b) (by omega)]
  rw [cpF_o (c := b) (by omega)]
  rw [cpA_o (c := b) (by omega)]
  rw [cpA_o (c := b) (by omega)]
  rw [cpA_o (c := b) (by omega)]
  rw [cpA_o (c := b) (by omega)]
  rw [cpA_o (c := b) (by omega)]
  rw [cpA_o (c := b) (by omega)]
set_option maxRecDepth 100000 in
theorem cg_f11 (hd : a + 7 ≤ b ∨ b + 7 ≤ a) : (cgH h a b).2.1 a 11 = h.2.1 b 11 := by
  unfold cgH
  rw [cpF_n (by decide)]
  rw [cpF_i]
  rw [cpF_o (c := b) (by omega)]
  rw [cpF_o (c := b) (by omega)]
  rw [cpF_o (c := b) (by omega)]
  rw [cpF_o (c := b) (by omega)]
  rw [cpF_o (c := b) (by omega)]
  rw [cpA_o (c := b) (by omega)]
  rw [cpA_o (c := b) (by omega)]
  rw [cpA_o (c := b) (by omega)]
  rw [cpA_o (c := b) (by omega)]
  rw [cpA_o (c := b) (by omega)]
  rw [cpA_o (c := b) (by omega)]
set_option maxRecDepth 100000 in
theorem cg_f12 (hd : a + 7 ≤ b ∨ b + 7 ≤ a) : (cgH h a b).2.1 a 12 = h.2.1 b 12 := by
  unfold cgH
  rw [cpF_i]
  rw [cpF_o (c := b) (by omega)]
  rw [cpF_o (c := b) (by omega)]
  rw [cpF_o (c := b) (by omega)]
  rw [cpF_o (c := b) (by omega)]
  rw [cpF_o (c := b) (by omega)]
  rw [cpF_o (c := b) (by omega)]
  rw [cpA_o (c := b) (by omega)]
  rw [cpA_o (c := b) (by omega)]
  rw [cpA_o (c := b) (by omega)]
  rw [cpA_o (c := b) (by omega)]
  rw [cpA_o (c := b) (by omega)]
  rw [cpA_o (c := b) (by omega)]
end CG
def rowB (r n : Nat) : Bool := zse (zat (bsT r) (95 + 9 * n)) (some (.inr (.inl (0, [some (some ((95 + 9 * n) + 1)), some (some ((95 + 9 * n) + 2)), some (some ((95 + 9 * n) + 3)), some (some ((95 + 9 * n) + 4)), some (some ((95 + 9 * n) + 5)), some (some ((95 + 9 * n) + 6)), none, none, none, none, none, none, none])))) && zse (zat (bsT r) ((95 + 9 * n) + 1)) (some (.inl (0, 12, []))) && zse (zat (bsT r) ((95 + 9 * n) + 2)) (some (.inl (0, 8, []))) && zse (zat (bsT r) ((95 + 9 * n) + 3)) (some (.inl (0, 8, []))) && zse (zat (bsT r) ((95 + 9 * n) + 4)) (some (.inl (0, 8, []))) && zse (zat (bsT r) ((95 + 9 * n) + 5)) (some (.inl (0, 96, []))) && zse (zat (bsT r) ((95 + 9 * n) + 6)) (some (.inl (0, 64, []))) && zse (zat (bsT r) (102 + 9 * n)) (some (.inr (.inl (1, [some (some ((102 + 9 * n) + 1)), none, none])))) && zse (zat (bsT r) ((102 + 9 * n) + 1)) (some (.inl (0, 400, []))) && zse (zat (bsT r) 28) (some (.inl (3, 12, rfG r))) && zse (zat (bsT r) 29) (some (.inl (4, 12, rfH r))) && (match zat (rfG r) n with | some (some o) => Nat.beq o (95 + 9 * n) | _ => false) && (match zat (rfH r) n with | some (some o) => Nat.beq o (102 + 9 * n) | _ => false)
set_option maxRecDepth 100000 in
set_option maxRecDepth 100000 in
theorem rowB_t : ∀ r : Nat, r < 13 → ∀ n : Nat, n < r → rowB r n = true := by decide +kernel
set_option maxRecDepth 100000 in
theorem zso {x : Option (Option Nat)} {c : Nat} (e : (match x with | some (some o) => Nat.beq o c | _ => false) = true) : x = some (some c) := by
  match x, e with
  | some (some o), e => rw [Nat.eq_of_beq_eq_true e]
/-- a row of the pasts -/
def rowS (s : List zS) (r n : Nat) : Prop := zat s (95 + 9 * n) = some (.inr (.inl (0, [some (some ((95 + 9 * n) + 1)), some (some ((95 + 9 * n) + 2)), some (some ((95 + 9 * n) + 3)), some (some ((95 + 9 * n) + 4)), some (some ((95 + 9 * n) + 5)), some (some ((95 + 9 * n) + 6)), none, none, none, none, none, none, none]))) ∧ zat s ((95 + 9 * n) + 1) = some (.inl (0, 12, [])) ∧ zat s ((95 + 9 * n) + 2) = some (.inl (0, 8, [])) ∧ zat s ((95 + 9 * n) + 3) = some (.inl (0, 8, [])) ∧ zat s ((95 + 9 * n) + 4) = some (.inl (0, 8, [])) ∧ zat s ((95 + 9 * n) + 5) = some (.inl (0, 96, [])) ∧ zat s ((95 + 9 * n) + 6) = some (.inl (0, 64, [])) ∧ zat s (102 + 9 * n) = some (.inr (.inl (1, [some (some ((102 + 9 * n) + 1)), none, none]))) ∧ zat s ((102 + 9 * n) + 1) = some (.inl (0, 400, [])) ∧ zat s 28 = some (.inl (3, 12, rfG r)) ∧ zat s 29 = some (.inl (4, 12, rfH r)) ∧ zat (rfG r) n = some (some (95 + 9 * n)) ∧ zat (rfH r) n = some (some (102 + 9 * n))
set_option maxRecDepth 100000 in
theorem row_s {r n : Nat} (hr : r < 13) (hn : n < r) : rowS (bsT r) r n := by
  have e := rowB_t r hr n hn
  unfold rowB at e
  simp only [Bool.and_eq_true] at e
  obtain ⟨⟨⟨⟨⟨⟨⟨⟨⟨⟨⟨⟨x0, x1⟩, x2⟩, x3⟩, x4⟩, x5⟩, x6⟩, x7⟩, x8⟩, x9⟩, x10⟩, x11⟩, x12⟩ := e
  exact ⟨zse_s x0, zse_s x1, zse_s x2, zse_s x3, zse_s x4, zse_s x5, zse_s x6, zse_s x7, zse_s x8, zse_s x9, zse_s x10, zso x11, zso x12⟩
/-- the places of one state of grains: which of its cells, which place there -/
def gqP (c k : Nat) : Prop := (c = 0 ∧ 6 ≤ k ∧ k ≤ 12) ∨ (c = 1 ∧ k < 12) ∨ (c = 2 ∧ k < 8) ∨ (c = 3 ∧ k < 8) ∨ (c = 4 ∧ k < 8) ∨ (c = 5 ∧ k < 96) ∨ (c = 6 ∧ k < 64)
set_option maxRecDepth 100000 in
theorem cg_v {h : zH} {a b : Nat} (hd : a + 7 ≤ b ∨ b + 7 ≤ a) {c k : Nat} (hq : gqP c k) : (cgH h a b).2.1 (a + c) k = h.2.1 (b + c) k := by
  rcases hq with ⟨h1, h2, h3⟩ | ⟨h1, h2⟩ | ⟨h1, h2⟩ | ⟨h1, h2⟩ | ⟨h1, h2⟩ | ⟨h1, h2⟩ | ⟨h1, h2⟩
  · subst h1
    rw [Nat.add_zero, Nat.add_zero]
    rcases (show k = 6 ∨ k = 7 ∨ k = 8 ∨ k = 9 ∨ k = 10 ∨ k = 11 ∨ k = 12 by omega) with z | z | z | z | z | z | z
    · subst z; exact cg_f6 hd
    · subst z; exact cg_f7 hd
    · subst z; exact cg_f8 hd
    · subst z; exact cg_f9 hd
    · subst z; exact cg_f10 hd
    · subst z; exact cg_f11 hd
    · subst z; exact cg_f12 hd
  · subst h1; exact cg_v1 hd k h2
  · subst h1; exact cg_v2 hd k h2
  · subst h1; exact cg_v3 hd k h2
  · subst h1; exact cg_v4 hd k h2
  · subst h1; exact cg_v5 hd k h2
  · subst h1; exact cg_v6 hd k h2
set_option maxRecDepth 100000 in
theorem x_clr {h : zH} {c k : Nat} {x : Int32} {d : Nat} (hd : d ≠ c) : (zsetI h c (upd (h.2.1 c) k x)).2.1 d = h.2.1 d := zrow_ne _ _ hd
/-- what remember leaves in rows: n is the place -/
def rmX (h0 : zH) (n : Nat) (o : Option zR) : Prop := ∃ h1 : zH, o = some (.inl none, h1) ∧ (h1.2.1 27 3).toInt = (if n = 11 then 0 else (n : Int) + 1) ∧ (∀ c k, gqP c k → h1.2.1 (95 + 9 * n + c) k = h0.2.1 (18 + c) k) ∧ ∀ c, c ≠ 27 → (c < 95 + 9 * n ∨ 104 + 9 * n ≤ c) → h1.2.1 c = h0.2.1 c
def rcX (h0 : zH) (z9 : Nat) (o : Option zR) : Prop := ∃ h1 : zH, o = some (.inl (some (.int 1)), h1) ∧ (h1.2.1 27 3).toInt = (z9 : Int) ∧ (∀ c k, gqP c k → h1.2.1 (18 + c) k = h0.2.1 (95 + 9 * z9 + c) k) ∧ ∀ c, c ≠ 27 → (c < 18 ∨ 27 ≤ c) → h1.2.1 c = h0.2.1 c
section RX
variable {E : zE} {h : zH} {r n : Nat}
set_option maxRecDepth 100000 in
theorem rmx_56 (hr : r ≤ 12) (hn : n < r) (hs : h.1 = bsT r) (hx : (h.2.1 27 3).toInt = (n : Int)) : ∀ d f, 3 ≤ d → 400 ≤ f → rmX h n (zex E f d 167 56 paLs [] h) := by
  intro d f hd hf
  obtain ⟨m, hm⟩ : ∃ m, f = m + 200 := ⟨f - 200, by omega⟩
  obtain ⟨d, hd'⟩ : ∃ d', d = d' + 1 := ⟨d - 1, by omega⟩
  subst hm hd'
  have hR := row_s (by omega : r < 13) hn
  have gT : bTB ctb (bsT r) := ctb_B hr
  rw [← hs] at hR gT
  have e1 := cg_t (E := E) (a9 := 95 + 9 * n) (b9 := 18) (n := m + 116) (d := d) (h := h) (gT 18 _ (show bg2 ctb 18 = some (.inr (.inl (0, [some (some 19), some (some 20), some (some 21), some (some 22), some (some 23), some (some 24), none, none, none, none, none, none, none]))) from rfl) (by intro z; cases z)) (gT 19 _ (show bg2 ctb 19 = some (.inl (0, 12, [])) from rfl) (by intro z; cases z)) (gT 20 _ (show bg2 ctb 20 = some (.inl (0, 8, [])) from rfl) (by intro z; cases z)) (gT 21 _ (show bg2 ctb 21 = some (.inl (0, 8, [])) from rfl) (by intro z; cases z)) (gT 22 _ (show bg2 ctb 22 = some (.inl (0, 8, [])) from rfl) (by intro z; cases z)) (gT 23 _ (show bg2 ctb 23 = some (.inl (0, 96, [])) from rfl) (by intro z; cases z)) (gT 24 _ (show bg2 ctb 24 = some (.inl (0, 64, [])) from rfl) (by intro z; cases z)) hR.1 hR.2.1 hR.2.2.1 hR.2.2.2.1 hR.2.2.2.2.1 hR.2.2.2.2.2.1 hR.2.2.2.2.2.2.1
  have e1 : zex E (m + 193) d 91 0 [some (.ref (95 + 9 * n)), some (.ref 18)] [] h = some (.inl none, cgH h (95 + 9 * n) 18) := e1
  obtain ⟨g, hg⟩ : ∃ g, g = cgH h (95 + 9 * n) 18 := ⟨_, rfl⟩
  have g1 : g.1 = h.1 := by rw [hg]; rfl
  have go : ∀ c, (c < 95 + 9 * n ∨ 102 + 9 * n ≤ c) → g.2.1 c = h.2.1 c := fun c hc => by rw [hg]; exact cg_o (by omega)
  have gv : ∀ c k, gqP c k → g.2.1 (95 + 9 * n + c) k = h.2.1 (18 + c) k := fun c k q => by rw [hg]; exact cg_v (by omega) q
  rw [← hg] at e1
  have hRg := hR
  have gTg := gT
  rw [← g1] at hRg gTg
  have e2 := ch_t (E := E) (a8 := 102 + 9 * n) (b8 := 25) (n := m + 169) (d := d) (h := g) (gTg 25 _ (show bg2 ctb 25 = some (.inr (.inl (1, [some (some 26), none, none]))) from rfl) (by intro z; cases z)) (gTg 26 _ (show bg2 ctb 26 = some (.inl (0, 400, [])) from rfl) (by intro z; cases z)) hRg.2.2.2.2.2.2.2.1 hRg.2.2.2.2.2.2.2.2.1
  have e2 : zex E (m + 186) d 108 0 [some (.ref (102 + 9 * n)), some (.ref 25)] [] g = some (.inl none, chH g (102 + 9 * n) 25) := e2
  obtain ⟨q, hq⟩ : ∃ q, q = chH g (102 + 9 * n) 25 := ⟨_, rfl⟩
  have q1 : q.1 = h.1 := by rw [hq, ← g1]; rfl
  have qo : ∀ c, (c < 102 + 9 * n ∨ 104 + 9 * n ≤ c) → q.2.1 c = g.2.1 c := fun c hc => by rw [hq]; exact ch_o (by omega)
  rw [← hq] at e2
  have x27 : q.2.1 27 = h.2.1 27 := (qo 27 (by omega)).trans (go 27 (by omega))
  have kx : (g.2.1 27 3).toInt = (n : Int) := by rw [go 27 (by omega)]; exact hx
  have hP : zat q.1 27 = some (.inr (.inl (7, [some (some 28), some (some 29), none, none]))) := pa27 hr (q1.trans hs)
  have e3 := pr_5 (E := E) (a9 := 95 + 9 * n) (a8 := 102 + 9 * n) (n := m + 186) (d := d) (h := h) (h1 := g) (h2 := q) (n9 := n) (rG := rfG r) (rH := rfH r) hR.2.2.2.2.2.2.2.2.2.1 hRg.2.2.2.2.2.2.2.2.2.2.1 hx kx (by omega) hR.2.2.2.2.2.2.2.2.2.2.2.1 hR.2.2.2.2.2.2.2.2.2.2.2.2 (pa27 hr hs) hR.1 (pa27 hr (g1.trans hs)) hRg.2.2.2.2.2.2.2.1 e1 e2
  have e3 : zex E (m + 200) (d + 1) 167 56 paLs [] h = zex E (m + 186) (d + 1) 167 82 paLs [] q := e3
  rw [e3]
  have hx1 : (q.2.1 27 3 + 1).toInt = (n : Int) + 1 := by rw [x27, i32_add (by rw [hx, int1]; omega) (by rw [hx, int1]; omega), hx, int1]
  have z12 : (12 : Int32).toInt = 12 := by decide
  have fin : ∀ (y : Int32) (j : Nat), 40 ≤ j → y.toInt = (if n = 11 then 0 else (n : Int) + 1) → rmX h n (zex E j (d + 1) 167 107 paLs [] (zsetI q 27 (upd (q.2.1 27) 3 y))) := fun y j hj hy => by
    obtain ⟨j, hj'⟩ : ∃ j', j = j' + 9 := ⟨j - 9, by omega⟩
    subst hj'
    have e := pe_t (E := E) (n := j) (d := d + 1) (h := zsetI q 27 (upd (q.2.1 27) 3 y)) (pa27 hr (q1.trans hs))
    refine ⟨_, e, ?_, fun c k hc => ?_, fun c h27 hc => ?_⟩
    · rw [zs_at, upd_n (by decide), zs_at, upd_e]; exact hy
    · have c6 : c ≤ 6 := by rcases hc with z | z | z | z | z | z | z <;> omega
      rw [x_clr (by omega), x_clr (by omega), qo _ (by omega)]
      exact gv c k hc
    · rw [x_clr h27, x_clr h27, qo c (by omega), go c (by omega)]
  by_cases h11 : n = 11
  · obtain ⟨j, hj⟩ : ∃ j, m + 186 = j + 9 := ⟨m + 186 - 9, by omega⟩
    have hc : (12 : Int32) ≤ q.2.1 27 3 + 1 := by rw [Int32.le_iff_toInt_le, hx1, z12]; omega
    have e : zex E (j + 9) (d + 1) 167 82 paLs [] q = zex E j (d + 1) 167 107 paLs [] (zsetI q 27 (upd (q.2.1 27) 3 0)) := (zk167_82 (j + 8)).trans ((zk167_83 (j + 7)).trans ((zk167_84 hP (j + 6)).trans ((zk167_87 (j + 5)).trans ((zk167_88 (j + 4)).trans ((zk167_89 (j + 3)).trans ((zk167_91a hc (j + 2)).trans ((zk167_103 (j + 1)).trans (zk167_104 hP j))))))))
    rw [hj, e]
    exact fin 0 j (by omega) (by rw [if_pos h11]; rfl)
  · obtain ⟨j, hj⟩ : ∃ j, m + 186 = j + 13 := ⟨m + 186 - 13, by omega⟩
    have hc : ¬ (12 : Int32) ≤ q.2.1 27 3 + 1 := by rw [Int32.le_iff_toInt_le, hx1, z12]; omega
    have e : zex E (j + 13) (d + 1) 167 82 paLs [] q = zex E j (d + 1) 167 107 paLs [] (zsetI q 27 (upd (q.2.1 27) 3 (q.2.1 27 3 + 1))) := (zk167_82 (j + 12)).trans ((zk167_83 (j + 11)).trans ((zk167_84 hP (j + 10)).trans ((zk167_87 (j + 9)).trans ((zk167_88 (j + 8)).trans ((zk167_89 (j + 7)).trans ((zk167_91b hc (j + 6)).trans ((zk167_94 (j + 5)).trans ((zk167_95 hP (j + 4)).trans ((zk167_98 (j + 3)).trans ((zk167_99 (j + 2)).trans ((zk167_100 (j + 1)).trans (zk167_104 hP j))))))))))))
    rw [hj, e]
    exact fin _ j (by omega) (by rw [if_neg h11]; exact hx1)
set_option maxRecDepth 100000 in
theorem rememX (hI : bHI h) (hP : bPS h) (hA : paQ h) : ∃ n : Nat, (h.2.1 27 3).toInt = (n : Int) ∧ n < 12 ∧ ∀ d f, 4 ≤ d → 1000 ≤ f → rmX h n (zex E f d 167 0 paLs [] h) := by
  obtain ⟨r, r2, r1, rz⟩ := id hA
  have r3 : (h.2.1 27 3).toInt ≤ (r : Int) := by
    obtain ⟨r', a1, a2, a3⟩ := hP
    have : r = r' := bsTi r1 a1 (r2.symm.trans a2)
    rw [this]; exact a3
  have hb := hI.1 27 3
  rw [biv273] at hb
  have hb1 : 0 ≤ (h.2.1 27 3).toInt := hb.1
  have hb2 : (h.2.1 27 3).toInt ≤ 11 := hb.2
  obtain ⟨n, hn⟩ : ∃ n : Nat, (h.2.1 27 3).toInt = (n : Int) := ⟨_, (Int.toNat_of_nonneg hb1).symm⟩
  refine ⟨n, hn, by omega, fun d f hd hf => ?_⟩
  by_cases hnr : n < r
  · obtain ⟨m, hm⟩ : ∃ m, f = m + 12 := ⟨f - 12, by omega⟩
    subst hm
    have hR := row_s (by omega : r < 13) hnr
    rw [← r2] at hR
    have e := pz_0 (E := E) (a9 := 95 + 9 * n) (a8 := 102 + 9 * n) (n := m) (d := d) (h := h) (n9 := n) (rG := rfG r) (rH := rfH r) hR.2.2.2.2.2.2.2.2.2.1 hR.2.2.2.2.2.2.2.2.2.2.1 hn (by omega) hR.2.2.2.2.2.2.2.2.2.2.2.1 hR.2.2.2.2.2.2.2.2.2.2.2.2 (pa27 r1 r2)
    have e : zex E (m + 12) d 167 0 paLs [] h = zex E m d 167 56 paLs [] h := e
    rw [e]
    exact rmx_56 r1 hnr r2 hn d m (by omega) (by omega)
  · have hrn : r = n := by omega
    subst hrn
    obtain ⟨d', hd'⟩ : ∃ d', d = d' + 1 := ⟨d - 1, by omega⟩
    obtain ⟨m, hm⟩ : ∃ m, f = m + 62 := ⟨f - 62, by omega⟩
    obtain ⟨h4, g1, g2, g3, g4, g5, g6, g7⟩ := pmake (E := E) (d := d') (r := r) (by omega) r2 hn
    subst hd'
    rw [hm, g7]
    have hx4 : (h4.2.1 27 3).toInt = (r : Int) := by rw [g2 27 (by omega)]; exact hn
    obtain ⟨h1, k1, k2, k3, k4⟩ := rmx_56 (E := E) (by omega : r + 1 ≤ 12) (Nat.lt_succ_self r) g1 hx4 (d' + 1) (m + 34) (by omega) (by omega)
    refine ⟨h1, k1, k2, fun c k hc => ?_, fun c h27 hc => ?_⟩
    · have c6 : c ≤ 6 := by rcases hc with z | z | z | z | z | z | z <;> omega
      rw [k3 c k hc, g2 _ (by omega)]
    · rw [k4 c h27 hc]
      rcases hc with hc | hc
      · exact g2 c hc
      · exact g3 c (by omega)
set_option maxRecDepth 100000 in
theorem rcx_46 (hr : r ≤ 12) (hn : n < r) (hs : h.1 = bsT r) {x9 : Int32} (hx : x9.toInt = (n : Int)) : ∀ d f, 3 ≤ d → 400 ≤ f → rcX h n (zex E f d 168 46 (reLs (some (.int x9))) [] h) := by
  intro d f hd hf
  obtain ⟨m, hm⟩ : ∃ m, f = m + 200 := ⟨f - 200, by omega⟩
  obtain ⟨d, hd'⟩ : ∃ d', d = d' + 1 := ⟨d - 1, by omega⟩
  subst hm hd'
  have hR := row_s (by omega : r < 13) hn
  have gT : bTB ctb (bsT r) := ctb_B hr
  rw [← hs] at hR gT
  have e1 := cg_t (E := E) (a9 := 18) (b9 := 95 + 9 * n) (n := m + 117) (d := d) (h := h) hR.1 hR.2.1 hR.2.2.1 hR.2.2.2.1 hR.2.2.2.2.1 hR.2.2.2.2.2.1 hR.2.2.2.2.2.2.1 (gT 18 _ (show bg2 ctb 18 = some (.inr (.inl (0, [some (some 19), some (some 20), some (some 21), some (some 22), some (some 23), some (some 24), none, none, none, none, none, none, none]))) from rfl) (by intro z; cases z)) (gT 19 _ (show bg2 ctb 19 = some (.inl (0, 12, [])) from rfl) (by intro z; cases z)) (gT 20 _ (show bg2 ctb 20 = some (.inl (0, 8, [])) from rfl) (by intro z; cases z)) (gT 21 _ (show bg2 ctb 21 = some (.inl (0, 8, [])) from rfl) (by intro z; cases z)) (gT 22 _ (show bg2 ctb 22 = some (.inl (0, 8, [])) from rfl) (by intro z; cases z)) (gT 23 _ (show bg2 ctb 23 = some (.inl (0, 96, [])) from rfl) (by intro z; cases z)) (gT 24 _ (show bg2 ctb 24 = some (.inl (0, 64, [])) from rfl) (by intro z; cases z))
  have e1 : zex E (m + 194) d 91 0 [some (.ref 18), some (.ref (95 + 9 * n))] [] h = some (.inl none, cgH h 18 (95 + 9 * n)) := e1
  obtain ⟨g, hg⟩ : ∃ g, g = cgH h 18 (95 + 9 * n) := ⟨_, rfl⟩
  have g1 : g.1 = h.1 := by rw [hg]; rfl
  have go : ∀ c, (c < 18 ∨ 25 ≤ c) → g.2.1 c = h.2.1 c := fun c hc => by rw [hg]; exact cg_o (by omega)
  have gv : ∀ c k, gqP c k → g.2.1 (18 + c) k = h.2.1 (95 + 9 * n + c) k := fun c k q => by rw [hg]; exact cg_v (by omega) q
  rw [← hg] at e1
  have hRg := hR
  have gTg := gT
  rw [← g1] at hRg gTg
  have e2 := ch_t (E := E) (a8 := 25) (b8 := 102 + 9 * n) (n := m + 171) (d := d) (h := g) hRg.2.2.2.2.2.2.2.1 hRg.2.2.2.2.2.2.2.2.1 (gTg 25 _ (show bg2 ctb 25 = some (.inr (.inl (1, [some (some 26), none, none]))) from rfl) (by intro z; cases z)) (gTg 26 _ (show bg2 ctb 26 = some (.inl (0, 400, [])) from rfl) (by intro z; cases z))
  have e2 : zex E (m + 188) d 108 0 [some (.ref 25), some (.ref (102 + 9 * n))] [] g = some (.inl none, chH g 25 (102 + 9 * n)) := e2
  obtain ⟨q, hq⟩ : ∃ q, q = chH g 25 (102 + 9 * n) := ⟨_, rfl⟩
  have q1 : q.1 = h.1 := by rw [hq, ← g1]; rfl
  have qo : ∀ c, (c < 25 ∨ 27 ≤ c) → q.2.1 c = g.2.1 c := fun c hc => by rw [hq]; exact ch_o (by omega)
  rw [← hq] at e2
  have e3 := rr_2 (E := E) (b9 := 95 + 9 * n) (b8 := 102 + 9 * n) (n := m + 188) (d := d) (h := h) (h1 := g) (h2 := q) (x9 := x9) (n9 := n) (rG := rfG r) (rH := rfH r) hR.2.2.2.2.2.2.2.2.2.1 hRg.2.2.2.2.2.2.2.2.2.2.1 hx (by omega) hR.2.2.2.2.2.2.2.2.2.2.2.1 hR.2.2.2.2.2.2.2.2.2.2.2.2 (gT 18 _ (show bg2 ctb 18 = some (.inr (.inl (0, [some (some 19), some (some 20), some (some 21), some (some 22), some (some 23), some (some 24), none, none, none, none, none, none, none]))) from rfl) (by intro z; cases z)) (pa27 hr hs) (gTg 25 _ (show bg2 ctb 25 = some (.inr (.inl (1, [some (some 26), none, none]))) from rfl) (by intro z; cases z)) (pa27 hr (g1.trans hs)) e1 e2
  have e3 : zex E (m + 200) (d + 1) 168 46 (reLs (some (.int x9))) [] h = zex E (m + 188) (d + 1) 168 66 (reLs (some (.int x9))) [] q := e3
  rw [e3]
  obtain ⟨j, hj⟩ : ∃ j, m + 188 = j + 11 := ⟨m + 188 - 11, by omega⟩
  rw [hj]
  refine ⟨_, rr_3 (E := E) (n := j) (d := d + 1) (h := q) (x9 := x9) (pa27 hr (q1.trans hs)), ?_, fun c k hc => ?_, fun c h27 hc => ?_⟩
  · rw [zs_at, upd_n (by decide), zs_at, upd_e]; exact hx
  · have c6 : c ≤ 6 := by rcases hc with z | z | z | z | z | z | z <;> omega
    rw [x_clr (by omega), x_clr (by omega), qo _ (by omega)]
    exact gv c k hc
  · rw [x_clr h27, x_clr h27, qo c (by omega), go c (by omega)]
set_option maxRecDepth 100000 in
theorem recalX (hI : bHI h) (hP : bPS h) (hA : paQ h) (h0 : (h.2.1 27 2).toInt ≠ 0) : ∃ z9 : Nat, z9 < 12 ∧ (h.2.1 27 3).toInt = (if z9 = 11 then 0 else (z9 : Int) + 1) ∧ ∀ d f, 4 ≤ d → 1000 ≤ f → rcX h z9 (zex E f d 168 0 (reLs none) [] h) := by
  obtain ⟨r, r2, r1, rz⟩ := id hA
  have r3 : (h.2.1 27 3).toInt ≤ (r : Int) := by
    obtain ⟨r', a1, a2, a3⟩ := hP
    have : r = r' := bsTi r1 a1 (r2.symm.trans a2)
    rw [this]; exact a3
  have hb := hI.1 27 3
  rw [biv273] at hb
  have hb1 : 0 ≤ (h.2.1 27 3).toInt := hb.1
  have hb2 : (h.2.1 27 3).toInt ≤ 11 := hb.2
  have b2 := hI.1 27 2
  rw [biv272] at b2
  have b21 : 0 ≤ (h.2.1 27 2).toInt := b2.1
  by_cases hz : (h.2.1 27 3).toInt ≤ 0
  · have h12 : r = 12 := by
      rcases Nat.lt_or_ge r 12 with z | z
      · have := rz z
        omega
      · omega
    subst h12
    refine ⟨11, by decide, by rw [if_pos rfl]; omega, fun d f hd hf => ?_⟩
    obtain ⟨m, hm⟩ : ∃ m, f = m + 18 := ⟨f - 18, by omega⟩
    subst hm
    have hR := row_s (by omega : 12 < 13) (by omega : 11 < 12)
    rw [← r2] at hR
    have e := rr_1 (E := E) (b9 := 95 + 9 * 11) (b8 := 102 + 9 * 11) (n := m) (d := d) (h := h) (n9 := 11) (rG := rfG 12) (rH := rfH 12) hR.2.2.2.2.2.2.2.2.2.1 hR.2.2.2.2.2.2.2.2.2.2.1 hz h0 (by decide) (by decide) hR.2.2.2.2.2.2.2.2.2.2.2.1 hR.2.2.2.2.2.2.2.2.2.2.2.2 (pa27 r1 r2)
    have e : zex E (m + 18) d 168 0 (reLs none) [] h = zex E m d 168 46 (reLs (some (.int 11))) [] h := e
    rw [e]
    exact rcx_46 r1 (by omega) r2 (by decide) d m (by omega) (by omega)
  · obtain ⟨z, hz9⟩ : ∃ z : Nat, (h.2.1 27 3).toInt = (z : Int) + 1 := ⟨((h.2.1 27 3).toInt - 1).toNat, by omega⟩
    refine ⟨z, by omega, by rw [if_neg (by omega)]; exact hz9, fun d f hd hf => ?_⟩
    obtain ⟨m, hm⟩ : ∃ m, f = m + 22 := ⟨f - 22, by omega⟩
    subst hm
    have hR := row_s (by omega : r < 13) (by omega : z < r)
    rw [← r2] at hR
    have hx1 : (h.2.1 27 3 - 1).toInt = (z : Int) := by rw [i32_sub (by rw [hz9, int1]; omega) (by rw [hz9, int1]; omega), hz9, int1]; omega
    have e := rr_0 (E := E) (b9 := 95 + 9 * z) (b8 := 102 + 9 * z) (n := m) (d := d) (h := h) (n9 := z) (rG := rfG r) (rH := rfH r) hR.2.2.2.2.2.2.2.2.2.1 hR.2.2.2.2.2.2.2.2.2.2.1 (by omega) h0 hx1 (by omega) hR.2.2.2.2.2.2.2.2.2.2.2.1 hR.2.2.2.2.2.2.2.2.2.2.2.2 (pa27 r1 r2)
    have e : zex E (m + 22) d 168 0 (reLs none) [] h = zex E m d 168 46 (reLs (some (.int (h.2.1 27 3 - 1)))) [] h := e
    rw [e]
    exact rcx_46 r1 (by omega) r2 hx1 d m (by omega) (by omega)
end RX
