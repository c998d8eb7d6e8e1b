/-! turns of the law at each call that touches the plan (wip/zab2/c/lgen29.py) -/
set_option maxRecDepth 100000 in
theorem zgc0_767 : zfetch 0 767 = some (.aload_n 1, 1, (0, 0, 0), 0, 0) := by decide +kernel
set_option maxRecDepth 100000 in
theorem zgc0_768 : zfetch 0 768 = some (.aload_n 0, 1, (0, 0, 0), 0, 0) := by decide +kernel
set_option maxRecDepth 100000 in
theorem zgc0_769 : zfetch 0 769 = some (.iload 4, 2, (0, 0, 0), 0, 0) := by decide +kernel
set_option maxRecDepth 100000 in
theorem zgc0_771 : zfetch 0 771 = some (.iconst 1, 1, (0, 0, 0), 1, 0) := by decide +kernel
set_option maxRecDepth 100000 in
theorem zgc0_772 : zfetch 0 772 = some (.iadd, 1, (0, 0, 0), 0, 0) := by decide +kernel
set_option maxRecDepth 100000 in
theorem zgc0_773 : zfetch 0 773 = some (.iaload, 1, (0, 0, 0), 0, 0) := by decide +kernel
set_option maxRecDepth 100000 in
theorem zgc0_774 : zfetch 0 774 = some (.aload_n 0, 1, (0, 0, 0), 0, 0) := by decide +kernel
set_option maxRecDepth 100000 in
theorem zgc0_775 : zfetch 0 775 = some (.iload 4, 2, (0, 0, 0), 0, 0) := by decide +kernel
set_option maxRecDepth 100000 in
theorem zgc0_777 : zfetch 0 777 = some (.iconst 2, 1, (0, 0, 0), 2, 0) := by decide +kernel
set_option maxRecDepth 100000 in
theorem zgc0_778 : zfetch 0 778 = some (.iadd, 1, (0, 0, 0), 0, 0) := by decide +kernel
set_option maxRecDepth 100000 in
theorem zgc0_779 : zfetch 0 779 = some (.iaload, 1, (0, 0, 0), 0, 0) := by decide +kernel
set_option maxRecDepth 100000 in
theorem zgc0_780 : zfetch 0 780 = some (.aload_n 3, 1, (0, 0, 0), 0, 0) := by decide +kernel
set_option maxRecDepth 100000 in
theorem zgc0_781 : zfetch 0 781 = some (.invokestatic 194, 3, (0, 13, 0), 0, 1285) := by decide +kernel
set_option maxRecDepth 100000 in
theorem zgc0_784 : zfetch 0 784 = some (.istore 5, 2, (0, 0, 0), 0, 0) := by decide +kernel
set_option maxRecDepth 100000 in
theorem zgc0_786 : zfetch 0 786 = some (.aload_n 2, 1, (0, 0, 0), 0, 0) := by decide +kernel
set_option maxRecDepth 100000 in
theorem zgc0_787 : zfetch 0 787 = some (.aload_n 0, 1, (0, 0, 0), 0, 0) := by decide +kernel
set_option maxRecDepth 100000 in
theorem zgc0_788 : zfetch 0 788 = some (.iload 4, 2, (0, 0, 0), 0, 0) := by decide +kernel
set_option maxRecDepth 100000 in
theorem zgc0_790 : zfetch 0 790 = some (.iconst 1, 1, (0, 0, 0), 1, 0) := by decide +kernel
set_option maxRecDepth 100000 in
theorem zgc0_791 : zfetch 0 791 = some (.iadd, 1, (0, 0, 0), 0, 0) := by decide +kernel
set_option maxRecDepth 100000 in
theorem zgc0_792 : zfetch 0 792 = some (.iaload, 1, (0, 0, 0), 0, 0) := by decide +kernel
set_option maxRecDepth 100000 in
theorem zgc0_793 : zfetch 0 793 = some (.aload_n 0, 1, (0, 0, 0), 0, 0) := by decide +kernel
set_option maxRecDepth 100000 in
theorem zgc0_794 : zfetch 0 794 = some (.iload 4, 2, (0, 0, 0), 0, 0) := by decide +kernel
set_option maxRecDepth 100000 in
theorem zgc0_796 : zfetch 0 796 = some (.iconst 2, 1, (0, 0, 0), 2, 0) := by decide +kernel
set_option maxRecDepth 100000 in
theorem zgc0_797 : zfetch 0 797 = some (.iadd, 1, (0, 0, 0), 0, 0) := by decide +kernel
set_option maxRecDepth 100000 in
theorem zgc0_798 : zfetch 0 798 = some (.iaload, 1, (0, 0, 0), 0, 0) := by decide +kernel
set_option maxRecDepth 100000 in
theorem zgc0_799 : zfetch 0 799 = some (.invokevirtual 196, 3, (0, 291, 0), 0, 2023) := by decide +kernel
set_option maxRecDepth 100000 in
theorem zgc0_802 : zfetch 0 802 = some (.istore 6, 2, (0, 0, 0), 0, 0) := by decide +kernel
set_option maxRecDepth 100000 in
theorem zgc0_804 : zfetch 0 804 = some (.aload_n 2, 1, (0, 0, 0), 0, 0) := by decide +kernel
set_option maxRecDepth 100000 in
theorem zgc0_805 : zfetch 0 805 = some (.invokevirtual 197, 3, (0, 338, 0), 0, 1607) := by decide +kernel
set_option maxRecDepth 100000 in
theorem zgc0_808 : zfetch 0 808 = some (.iload 5, 2, (0, 0, 0), 0, 0) := by decide +kernel
set_option maxRecDepth 100000 in
theorem zgc0_810 : zfetch 0 810 = some (.if_icmp .eq 5, 3, (815, 0, 0), 0, 0) := by decide +kernel
set_option maxRecDepth 100000 in
theorem zgc0_815 : zfetch 0 815 = some (.iload 5, 2, (0, 0, 0), 0, 0) := by decide +kernel
set_option maxRecDepth 100000 in
theorem zgc0_817 : zfetch 0 817 = some (.ifCond .ne 15, 3, (832, 0, 0), 0, 0) := by decide +kernel
set_option maxRecDepth 100000 in
theorem zgc0_820 : zfetch 0 820 = some (.aload_n 3, 1, (0, 0, 0), 0, 0) := by decide +kernel
set_option maxRecDepth 100000 in
theorem zgc0_821 : zfetch 0 821 = some (.iconst 0, 1, (0, 0, 0), 0, 0) := by decide +kernel
set_option maxRecDepth 100000 in
theorem zgc0_822 : zfetch 0 822 = some (.laload, 1, (0, 0, 0), 0, 0) := by decide +kernel
set_option maxRecDepth 100000 in
theorem zgc0_823 : zfetch 0 823 = some (.iload 6, 2, (0, 0, 0), 0, 0) := by decide +kernel
set_option maxRecDepth 100000 in
theorem zgc0_825 : zfetch 0 825 = some (.i2l, 1, (0, 0, 0), 0, 0) := by decide +kernel
set_option maxRecDepth 100000 in
theorem zgc0_826 : zfetch 0 826 = some (.lcmp, 1, (0, 0, 0), 0, 0) := by decide +kernel
set_option maxRecDepth 100000 in
theorem zgc0_827 : zfetch 0 827 = some (.ifCond .eq 5, 3, (832, 0, 0), 0, 0) := by decide +kernel
set_option maxRecDepth 100000 in
theorem zgc0_832 : zfetch 0 832 = some (.goto 1117, 3, (1949, 0, 0), 0, 0) := by decide +kernel
set_option maxRecDepth 100000 in
theorem zgc0_1949 : zfetch 0 1949 = some (.iinc 4 6, 3, (0, 0, 0), 6, 0) := by decide +kernel
set_option maxRecDepth 100000 in
theorem zgc0_1952 : zfetch 0 1952 = some (.goto (-1929), 3, (23, 0, 0), 0, 0) := by decide +kernel
set_option maxRecDepth 100000 in
theorem zgc338_0 : zfetch 338 0 = some (.aload_n 0, 1, (0, 0, 0), 0, 0) := by decide +kernel
set_option maxRecDepth 100000 in
theorem zgc338_1 : zfetch 338 1 = some (.getfield 3, 3, (12, 0, 0), 0, 1617) := by decide +kernel
set_option maxRecDepth 100000 in
theorem zgc338_4 : zfetch 338 4 = some (.ireturn, 1, (0, 0, 0), 0, 0) := by decide +kernel
set_option maxRecDepth 100000 in
theorem zgc0_248 : zfetch 0 248 = some (.aload_n 1, 1, (0, 0, 0), 0, 0) := by decide +kernel
set_option maxRecDepth 100000 in
theorem zgc0_249 : zfetch 0 249 = some (.aload_n 0, 1, (0, 0, 0), 0, 0) := by decide +kernel
set_option maxRecDepth 100000 in
theorem zgc0_250 : zfetch 0 250 = some (.iload 4, 2, (0, 0, 0), 0, 0) := by decide +kernel
set_option maxRecDepth 100000 in
theorem zgc0_252 : zfetch 0 252 = some (.iconst 1, 1, (0, 0, 0), 1, 0) := by decide +kernel
set_option maxRecDepth 100000 in
theorem zgc0_253 : zfetch 0 253 = some (.iadd, 1, (0, 0, 0), 0, 0) := by decide +kernel
set_option maxRecDepth 100000 in
theorem zgc0_254 : zfetch 0 254 = some (.iaload, 1, (0, 0, 0), 0, 0) := by decide +kernel
set_option maxRecDepth 100000 in
theorem zgc0_255 : zfetch 0 255 = some (.aload_n 0, 1, (0, 0, 0), 0, 0) := by decide +kernel
set_option maxRecDepth 100000 in
theorem zgc0_256 : zfetch 0 256 = some (.iload 4, 2, (0, 0, 0), 0, 0) := by decide +kernel
set_option maxRecDepth 100000 in
theorem zgc0_258 : zfetch 0 258 = some (.iconst 2, 1, (0, 0, 0), 2, 0) := by decide +kernel
set_option maxRecDepth 100000 in
theorem zgc0_259 : zfetch 0 259 = some (.iadd, 1, (0, 0, 0), 0, 0) := by decide +kernel
set_option maxRecDepth 100000 in
theorem zgc0_260 : zfetch 0 260 = some (.iaload, 1, (0, 0, 0), 0, 0) := by decide +kernel
set_option maxRecDepth 100000 in
theorem zgc0_261 : zfetch 0 261 = some (.aload_n 0, 1, (0, 0, 0), 0, 0) := by decide +kernel
set_option maxRecDepth 100000 in
theorem zgc0_262 : zfetch 0 262 = some (.iload 4, 2, (0, 0, 0), 0, 0) := by decide +kernel
set_option maxRecDepth 100000 in
theorem zgc0_264 : zfetch 0 264 = some (.iconst 3, 1, (0, 0, 0), 3, 0) := by decide +kernel
set_option maxRecDepth 100000 in
theorem zgc0_265 : zfetch 0 265 = some (.iadd, 1, (0, 0, 0), 0, 0) := by decide +kernel
set_option maxRecDepth 100000 in
theorem zgc0_266 : zfetch 0 266 = some (.iaload, 1, (0, 0, 0), 0, 0) := by decide +kernel
set_option maxRecDepth 100000 in
theorem zgc0_267 : zfetch 0 267 = some (.aload_n 0, 1, (0, 0, 0), 0, 0) := by decide +kernel
set_option maxRecDepth 100000 in
theorem zgc0_268 : zfetch 0 268 = some (.iload 4, 2, (0, 0, 0), 0, 0) := by decide +kernel
set_option maxRecDepth 100000 in
theorem zgc0_270 : zfetch 0 270 = some (.iconst 4, 1, (0, 0, 0), 4, 0) := by decide +kernel
set_option maxRecDepth 100000 in
theorem zgc0_271 : zfetch 0 271 = some (.iadd, 1, (0, 0, 0), 0, 0) := by decide +kernel
set_option maxRecDepth 100000 in
theorem zgc0_272 : zfetch 0 272 = some (.iaload, 1, (0, 0, 0), 0, 0) := by decide +kernel
set_option maxRecDepth 100000 in
theorem zgc0_273 : zfetch 0 273 = some (.aload_n 0, 1, (0, 0, 0), 0, 0) := by decide +kernel
set_option maxRecDepth 100000 in
theorem zgc0_274 : zfetch 0 274 = some (.iload 4, 2, (0, 0, 0), 0, 0) := by decide +kernel
set_option maxRecDepth 100000 in
theorem zgc0_276 : zfetch 0 276 = some (.iconst 5, 1, (0, 0, 0), 5, 0) := by decide +kernel
set_option maxRecDepth 100000 in
theorem zgc0_277 : zfetch 0 277 = some (.iadd, 1, (0, 0, 0), 0, 0) := by decide +kernel
set_option maxRecDepth 100000 in
theorem zgc0_278 : zfetch 0 278 = some (.iaload, 1, (0, 0, 0), 0, 0) := by decide +kernel
set_option maxRecDepth 100000 in
theorem zgc0_279 : zfetch 0 279 = some (.invokevirtual 138, 3, (0, 39, 0), 0, 606) := by decide +kernel
set_option maxRecDepth 100000 in
theorem zgc0_282 : zfetch 0 282 = some (.pop, 1, (0, 0, 0), 0, 0) := by decide +kernel
set_option maxRecDepth 100000 in
theorem zgc0_283 : zfetch 0 283 = some (.aload_n 2, 1, (0, 0, 0), 0, 0) := by decide +kernel
set_option maxRecDepth 100000 in
theorem zgc0_284 : zfetch 0 284 = some (.aload_n 0, 1, (0, 0, 0), 0, 0) := by decide +kernel
set_option maxRecDepth 100000 in
theorem zgc0_285 : zfetch 0 285 = some (.iload 4, 2, (0, 0, 0), 0, 0) := by decide +kernel
set_option maxRecDepth 100000 in
theorem zgc0_287 : zfetch 0 287 = some (.iconst 1, 1, (0, 0, 0), 1, 0) := by decide +kernel
set_option maxRecDepth 100000 in
theorem zgc0_288 : zfetch 0 288 = some (.iadd, 1, (0, 0, 0), 0, 0) := by decide +kernel
set_option maxRecDepth 100000 in
theorem zgc0_289 : zfetch 0 289 = some (.iaload, 1, (0, 0, 0), 0, 0) := by decide +kernel
set_option maxRecDepth 100000 in
theorem zgc0_290 : zfetch 0 290 = some (.aload_n 0, 1, (0, 0, 0), 0, 0) := by decide +kernel
set_option maxRecDepth 100000 in
theorem zgc0_291 : zfetch 0 291 = some (.iload 4, 2, (0, 0, 0), 0, 0) := by decide +kernel
set_option maxRecDepth 100000 in
theorem zgc0_293 : zfetch 0 293 = some (.iconst 2, 1, (0, 0, 0), 2, 0) := by decide +kernel
set_option maxRecDepth 100000 in
theorem zgc0_294 : zfetch 0 294 = some (.iadd, 1, (0, 0, 0), 0, 0) := by decide +kernel
set_option maxRecDepth 100000 in
theorem zgc0_295 : zfetch 0 295 = some (.iaload, 1, (0, 0, 0), 0, 0) := by decide +kernel
set_option maxRecDepth 100000 in
theorem zgc0_296 : zfetch 0 296 = some (.aload_n 0, 1, (0, 0, 0), 0, 0) := by decide +kernel
set_option maxRecDepth 100000 in
theorem zgc0_297 : zfetch 0 297 = some (.iload 4, 2, (0, 0, 0), 0, 0) := by decide +kernel
set_option maxRecDepth 100000 in
theorem zgc0_299 : zfetch 0 299 = some (.iconst 3, 1, (0, 0, 0), 3, 0) := by decide +kernel
set_option maxRecDepth 100000 in
theorem zgc0_300 : zfetch 0 300 = some (.iadd, 1, (0, 0, 0), 0, 0) := by decide +kernel
set_option maxRecDepth 100000 in
theorem zgc0_301 : zfetch 0 301 = some (.iaload, 1, (0, 0, 0), 0, 0) := by decide +kernel
set_option maxRecDepth 100000 in
theorem zgc0_302 : zfetch 0 302 = some (.aload_n 0, 1, (0, 0, 0), 0, 0) := by decide +kernel
set_option maxRecDepth 100000 in
theorem zgc0_303 : zfetch 0 303 = some (.iload 4, 2, (0, 0, 0), 0, 0) := by decide +kernel
set_option maxRecDepth 100000 in
theorem zgc0_305 : zfetch 0 305 = some (.iconst 4, 1, (0, 0, 0), 4, 0) := by decide +kernel
set_option maxRecDepth 100000 in
theorem zgc0_306 : zfetch 0 306 = some (.iadd, 1, (0, 0, 0), 0, 0) := by decide +kernel
set_option maxRecDepth 100000 in
theorem zgc0_307 : zfetch 0 307 = some (.iaload, 1, (0, 0, 0), 0, 0) := by decide +kernel
set_option maxRecDepth 100000 in
theorem zgc0_308 : zfetch 0 308 = some (.aload_n 0, 1, (0, 0, 0), 0, 0) := by decide +kernel
set_option maxRecDepth 100000 in
theorem zgc0_309 : zfetch 0 309 = some (.iload 4, 2, (0, 0, 0), 0, 0) := by decide +kernel
set_option maxRecDepth 100000 in
theorem zgc0_311 : zfetch 0 311 = some (.iconst 5, 1, (0, 0, 0), 5, 0) := by decide +kernel
set_option maxRecDepth 100000 in
theorem zgc0_312 : zfetch 0 312 = some (.iadd, 1, (0, 0, 0), 0, 0) := by decide +kernel
set_option maxRecDepth 100000 in
theorem zgc0_313 : zfetch 0 313 = some (.iaload, 1, (0, 0, 0), 0, 0) := by decide +kernel
set_option maxRecDepth 100000 in
theorem zgc0_314 : zfetch 0 314 = some (.invokevirtual 142, 3, (0, 232, 0), 0, 1687) := by decide +kernel
set_option maxRecDepth 100000 in
theorem zgc0_317 : zfetch 0 317 = some (.pop, 1, (0, 0, 0), 0, 0) := by decide +kernel
set_option maxRecDepth 100000 in
theorem zgc0_318 : zfetch 0 318 = some (.goto 1631, 3, (1949, 0, 0), 0, 0) := by decide +kernel
set_option maxRecDepth 100000 in
theorem znc13 : zat zmi 13 = some (4, 5, 1, 99, 1, 1) := rfl
set_option maxRecDepth 100000 in
theorem znc39 : zat zmi 39 = some (6, 6, 0, 11, 1, 0) := rfl
set_option maxRecDepth 100000 in
theorem znc232 : zat zmi 232 = some (6, 7, 0, 12, 1, 0) := rfl
set_option maxRecDepth 100000 in
theorem znc291 : zat zmi 291 = some (3, 3, 0, 12, 1, 0) := rfl
set_option maxRecDepth 100000 in
theorem znc338 : zat zmi 338 = some (1, 1, 0, 12, 1, 0) := rfl
set_option maxRecDepth 100000 in
theorem tp_h0 {E : zE} {n d : Nat} {h h1 h2 : zH} {i y t : Int32} {u5 u6 : Option Value} {v : Int64} {I : Nat} (hi : ∀ k : Nat, k < 6 → (i + Int32.ofNat k).toInt = ((I + k : Nat) : Int)) (hI : I + 6 ≤ E.1) (ht : t.toInt = (0 : Int32).toInt) (hw : h2.2.2.1 94 0 = v) (hv : (lg_cmp v ((y).toInt64)).toInt = 0) (a84_h1 : zat h1.1 84 = some (.inr (.inl (12, [none, some (some 85), some (some 86), some (some 87), some (some 88), some (some 89), none, none, some (some 90), none, none, none, none, none, none, some (some 91), none, some (some 92), some (some 93)])))) (a84_h2 : zat h2.1 84 = some (.inr (.inl (12, [none, some (some 85), some (some 86), some (some 87), some (some 88), some (some 89), none, none, some (some 90), none, none, none, none, none, none, some (some 91), none, some (some 92), some (some 93)])))) (a94_h2 : zat h2.1 94 = some (.inl (2, 1, []))) (e1 : zex E (n + 30) d 13 0 [some (.ref 0), some (.int (E.2 (I + 1))), some (.int (E.2 (I + 2))), some (.ref 94), none] [] h = some (.inl (some (.int 0)), h1)) (e2 : zex E (n + 17) d 291 0 [some (.ref 84), some (.int (E.2 (I + 1))), some (.int (E.2 (I + 2)))] [] h1 = some (.inl (some (.int y)), h2)) (e3 : zex E (n + 14) d 338 0 [some (.ref 84)] [] h2 = some (.inl (some (.int t)), h2)) : zex E (n + 43) (d + 1) 0 767 [some (.float 0), some (.ref 0), some (.ref 84), some (.ref 94), some (.int i), u5, u6] [] h = zex E n (d + 1) 0 23 [some (.float 0), some (.ref 0), some (.ref 84), some (.ref 94), some (.int (i + 6)), some (.int 0), some (.int y)] [] h2 :=
  ((yAn zgc0_767 rfl rfl) : zex E (n + 43) (d + 1) 0 767 [some (.float 0), some (.ref 0), some (.ref 84), some (.ref 94), some (.int i), u5, u6] [] h = zex E (n + 42) (d + 1) 0 768 [some (.float 0), some (.ref 0), some (.ref 84), some (.ref 94), some (.int i), u5, u6] [.ref 0] h).trans (((yAn zgc0_768 rfl rfl) : zex E (n + 42) (d + 1) 0 768 [some (.float 0), some (.ref 0), some (.ref 84), some (.ref 94), some (.int i), u5, u6] [.ref 0] h = zex E (n + 41) (d + 1) 0 769 [some (.float 0), some (.ref 0), some (.ref 84), some (.ref 94), some (.int i), u5, u6] [.float 0, .ref 0] h).trans (((yI zgc0_769 rfl) : zex E (n + 41) (d + 1) 0 769 [some (.float 0), some (.ref 0), some (.ref 84), some (.ref 94), some (.int i), u5, u6] [.float 0, .ref 0] h = zex E (n + 40) (d + 1) 0 771 [some (.float 0), some (.ref 0), some (.ref 84), some (.ref 94), some (.int i), u5, u6] [.int i, .float 0, .ref 0] h).trans (((yCi zgc0_771) : zex E (n + 40) (d + 1) 0 771 [some (.float 0), some (.ref 0), some (.ref 84), some (.ref 94), some (.int i), u5, u6] [.int i, .float 0, .ref 0] h = zex E (n + 39) (d + 1) 0 772 [some (.float 0), some (.ref 0), some (.ref 84), some (.ref 94), some (.int i), u5, u6] [.int 1, .int i, .float 0, .ref 0] h).trans (((yAdd zgc0_772) : zex E (n + 39) (d + 1) 0 772 [some (.float 0), some (.ref 0), some (.ref 84), some (.ref 94), some (.int i), u5, u6] [.int 1, .int i, .float 0, .ref 0] h = zex E (n + 38) (d + 1) 0 773 [some (.float 0), some (.ref 0), some (.ref 84), some (.ref 94), some (.int i), u5, u6] [.int (i + 1), .float 0, .ref 0] h).trans (((zlF9 zgc0_773 (hi 1 (by decide)) (by omega)) : zex E (n + 38) (d + 1) 0 773 [some (.float 0), some (.ref 0), some (.ref 84), some (.ref 94), some (.int i), u5, u6] [.int (i + 1), .float 0, .ref 0] h = zex E (n + 37) (d + 1) 0 774 [some (.float 0), some (.ref 0), some (.ref 84), some (.ref 94), some (.int i), u5, u6] [.int (E.2 (I + 1)), .ref 0] h).trans (((yAn zgc0_774 rfl rfl) : zex E (n + 37) (d + 1) 0 774 [some (.float 0), some (.ref 0), some (.ref 84), some (.ref 94), some (.int i), u5, u6] [.int (E.2 (I + 1)), .ref 0] h = zex E (n + 36) (d + 1) 0 775 [some (.float 0), some (.ref 0), some (.ref 84), some (.ref 94), some (.int i), u5, u6] [.float 0, .int (E.2 (I + 1)), .ref 0] h).trans (((yI zgc0_775 rfl) : zex E (n + 36) (d + 1) 0 775 [some (.float 0), some (.ref 0), some (.ref 84), some (.ref 94), some (.int i), u5, u6] [.float 0, .int (E.2 (I + 1)), .ref 0] h = zex E (n + 35) (d + 1) 0 777 [some (.float 0), some (.ref 0), some (.ref 84), some (.ref 94), some (.int i), u5, u6] [.int i, .float 0, .int (E.2 (I + 1)), .ref 0] h).trans (((yCi zgc0_777) : zex E (n + 35) (d + 1) 0 777 [some (.float 0), some (.ref 0), some (.ref 84), some (.ref 94), some (.int i), u5, u6] [.int i, .float 0, .int (E.2 (I + 1)), .ref 0] h = zex E (n + 34) (d + 1) 0 778 [some (.float 0), some (.ref 0), some (.ref 84), some (.ref 94), some (.int i), u5, u6] [.int 2, .int i, .float 0, .int (E.2 (I + 1)), .ref 0] h).trans (((yAdd zgc0_778) : zex E (n + 34) (d + 1) 0 778 [some (.float 0), some (.ref 0), some (.ref 84), some (.ref 94), some (.int i), u5, u6] [.int 2, .int i, .float 0, .int (E.2 (I + 1)), .ref 0] h = zex E (n + 33) (d + 1) 0 779 [some (.float 0), some (.ref 0), some (.ref 84), some (.ref 94), some (.int i), u5, u6] [.int (i + 2), .float 0, .int (E.2 (I + 1)), .ref 0] h).trans (((zlF9 zgc0_779 (hi 2 (by decide)) (by omega)) : zex E (n + 33) (d + 1) 0 779 [some (.float 0), some (.ref 0), some (.ref 84), some (.ref 94), some (.int i), u5, u6] [.int (i + 2), .float 0, .int (E.2 (I + 1)), .ref 0] h = zex E (n + 32) (d + 1) 0 780 [some (.float 0), some (.ref 0), some (.ref 84), some (.ref 94), some (.int i), u5, u6] [.int (E.2 (I + 2)), .int (E.2 (I + 1)), .ref 0] h).trans (((yAn zgc0_780 rfl rfl) : zex E (n + 32) (d + 1) 0 780 [some (.float 0), some (.ref 0), some (.ref 84), some (.ref 94), some (.int i), u5, u6] [.int (E.2 (I + 2)), .int (E.2 (I + 1)), .ref 0] h = zex E (n + 31) (d + 1) 0 781 [some (.float 0), some (.ref 0), some (.ref 84), some (.ref 94), some (.int i), u5, u6] [.ref 94, .int (E.2 (I + 2)), .int (E.2 (I + 1)), .ref 0] h).trans (((zcvs (as := [.ref 0, .int (E.2 (I + 1)), .int (E.2 (I + 2)), .ref 94]) (r := []) zgc0_781 znc13 rfl rfl e1) : zex E (n + 31) (d + 1) 0 781 [some (.float 0), some (.ref 0), some (.ref 84), some (.ref 94), some (.int i), u5, u6] [.ref 94, .int (E.2 (I + 2)), .int (E.2 (I + 1)), .ref 0] h = zex E (n + 30) (d + 1) 0 784 [some (.float 0), some (.ref 0), some (.ref 84), some (.ref 94), some (.int i), u5, u6] [.int 0] h1).trans (((yS zgc0_784) : zex E (n + 30) (d + 1) 0 784 [some (.float 0), some (.ref 0), some (.ref 84), some (.ref 94), some (.int i), u5, u6] [.int 0] h1 = zex E (n + 29) (d + 1) 0 786 [some (.float 0), some (.ref 0), some (.ref 84), some (.ref 94), some (.int i), some (.int 0), u6] [] h1).trans (((yAn zgc0_786 rfl rfl) : zex E (n + 29) (d + 1) 0 786 [some (.float 0), some (.ref 0), some (.ref 84), some (.ref 94), some (.int i), some (.int 0), u6] [] h1 = zex E (n + 28) (d + 1) 0 787 [some (.float 0), some (.ref 0), some (.ref 84), some (.ref 94), some (.int i), some (.int 0), u6] [.ref 84] h1).trans (((yAn zgc0_787 rfl rfl) : zex E (n + 28) (d + 1) 0 787 [some (.float 0), some (.ref 0), some (.ref 84), some (.ref 94), some (.int i), some (.int 0), u6] [.ref 84] h1 = zex E (n + 27) (d + 1) 0 788 [some (.float 0), some (.ref 0), some (.ref 84), some (.ref 94), some (.int i), some (.int 0), u6] [.float 0, .ref 84] h1).trans (((yI zgc0_788 rfl) : zex E (n + 27) (d + 1) 0 788 [some (.float 0), some (.ref 0), some (.ref 84), some (.ref 94), some (.int i), some (.int 0), u6] [.float 0, .ref 84] h1 = zex E (n + 26) (d + 1) 0 790 [some (.float 0), some (.ref 0), some (.ref 84), some (.ref 94), some (.int i), some (.int 0), u6] [.int i, .float 0, .ref 84] h1).trans (((yCi zgc0_790) : zex E (n + 26) (d + 1) 0 790 [some (.float 0), some (.ref 0), some (.ref 84), some (.ref 94), some (.int i), some (.int 0), u6] [.int i, .float 0, .ref 84] h1 = zex E (n + 25) (d + 1) 0 791 [some (.float 0), some (.ref 0), some (.ref 84), some (.ref 94), some (.int i), some (.int 0), u6] [.int 1, .int i, .float 0, .ref 84] h1).trans (((yAdd zgc0_791) : zex E (n + 25) (d + 1) 0 791 [some (.float 0), some (.ref 0), some (.ref 84), some (.ref 94), some (.int i), some (.int 0), u6] [.int 1, .int i, .float 0, .ref 84] h1 = zex E (n + 24) (d + 1) 0 792 [some (.float 0), some (.ref 0), some (.ref 84), some (.ref 94), some (.int i), some (.int 0), u6] [.int (i + 1), .float 0, .ref 84] h1).trans (((zlF9 zgc0_792 (hi 1 (by decide)) (by omega)) : zex E (n + 24) (d + 1) 0 792 [some (.float 0), some (.ref 0), some (.ref 84), some (.ref 94), some (.int i), some (.int 0), u6] [.int (i + 1), .float 0, .ref 84] h1 = zex E (n + 23) (d + 1) 0 793 [some (.float 0), some (.ref 0), some (.ref 84), some (.ref 94), some (.int i), some (.int 0), u6] [.int (E.2 (I + 1)), .ref 84] h1).trans (((yAn zgc0_793 rfl rfl) : zex E (n + 23) (d + 1) 0 793 [some (.float 0), some (.ref 0), some (.ref 84), some (.ref 94), some (.int i), some (.int 0), u6] [.int (E.2 (I + 1)), .ref 84] h1 = zex E (n + 22) (d + 1) 0 794 [some (.float 0), some (.ref 0), some (.ref 84), some (.ref 94), some (.int i), some (.int 0), u6] [.float 0, .int (E.2 (I + 1)), .ref 84] h1).trans (((yI zgc0_794 rfl) : zex E (n + 22) (d + 1) 0 794 [some (.float 0), some (.ref 0), some (.ref 84), some (.ref 94), some (.int i), some (.int 0), u6] [.float 0, .int (E.2 (I + 1)), .ref 84] h1 = zex E (n + 21) (d + 1) 0 796 [some (.float 0), some (.ref 0), some (.ref 84), some (.ref 94), some (.int i), some (.int 0), u6] [.int i, .float 0, .int (E.2 (I + 1)), .ref 84] h1).trans (((yCi zgc0_796) : zex E (n + 21) (d + 1) 0 796 [some (.float 0), some (.ref 0), some (.ref 84), some (.ref 94), some (.int i), some (.int 0), u6] [.int i, .float 0, .int (E.2 (I + 1)), .ref 84] h1 = zex E (n + 20) (d + 1) 0 797 [some (.float 0), some (.ref 0), some (.ref 84), some (.ref 94), some (.int i), some (.int 0), u6] [.int 2, .int i, .float 0, .int (E.2 (I + 1)), .ref 84] h1).trans (((yAdd zgc0_797) : zex E (n + 20) (d + 1) 0 797 [some (.float 0), some (.ref 0), some (.ref 84), some (.ref 94), some (.int i), some (.int 0), u6] [.int 2, .int i, .float 0, .int (E.2 (I + 1)), .ref 84] h1 = zex E (n + 19) (d + 1) 0 798 [some (.float 0), some (.ref 0), some (.ref 84), some (.ref 94), some (.int i), some (.int 0), u6] [.int (i + 2), .float 0, .int (E.2 (I + 1)), .ref 84] h1).trans (((zlF9 zgc0_798 (hi 2 (by decide)) (by omega)) : zex E (n + 19) (d + 1) 0 798 [some (.float 0), some (.ref 0), some (.ref 84), some (.ref 94), some (.int i), some (.int 0), u6] [.int (i + 2), .float 0, .int (E.2 (I + 1)), .ref 84] h1 = zex E (n + 18) (d + 1) 0 799 [some (.float 0), some (.ref 0), some (.ref 84), some (.ref 94), some (.int i), some (.int 0), u6] [.int (E.2 (I + 2)), .int (E.2 (I + 1)), .ref 84] h1).trans (((zcvg (h := h1) (as := [.int (E.2 (I + 1)), .int (E.2 (I + 2))]) (r := []) zgc0_799 znc291 rfl a84_h1 rfl e2) : zex E (n + 18) (d + 1) 0 799 [some (.float 0), some (.ref 0), some (.ref 84), some (.ref 94), some (.int i), some (.int 0), u6] [.int (E.2 (I + 2)), .int (E.2 (I + 1)), .ref 84] h1 = zex E (n + 17) (d + 1) 0 802 [some (.float 0), some (.ref 0), some (.ref 84), some (.ref 94), some (.int i), some (.int 0), u6] [.int y] h2).trans (((yS zgc0_802) : zex E (n + 17) (d + 1) 0 802 [some (.float 0), some (.ref 0), some (.ref 84), some (.ref 94), some (.int i), some (.int 0), u6] [.int y] h2 = zex E (n + 16) (d + 1) 0 804 [some (.float 0), some (.ref 0), some (.ref 84), some (.ref 94), some (.int i), some (.int 0), some (.int y)] [] h2).trans (((yAn zgc0_804 rfl rfl) : zex E (n + 16) (d + 1) 0 804 [some (.float 0), some (.ref 0), some (.ref 84), some (.ref 94), some (.int i), some (.int 0), some (.int y)] [] h2 = zex E (n + 15) (d + 1) 0 805 [some (.float 0), some (.ref 0), some (.ref 84), some (.ref 94), some (.int i), some (.int 0), some (.int y)] [.ref 84] h2).trans (((zcvg (h := h2) (as := []) (r := []) zgc0_805 znc338 rfl a84_h2 rfl e3) : zex E (n + 15) (d + 1) 0 805 [some (.float 0), some (.ref 0), some (.ref 84), some (.ref 94), some (.int i), some (.int 0), some (.int y)] [.ref 84] h2 = zex E (n + 14) (d + 1) 0 808 [some (.float 0), some (.ref 0), some (.ref 84), some (.ref 94), some (.int i), some (.int 0), some (.int y)] [.int t] h2).trans (((yI zgc0_808 rfl) : zex E (n + 14) (d + 1) 0 808 [some (.float 0), some (.ref 0), some (.ref 84), some (.ref 94), some (.int i), some (.int 0), some (.int y)] [.int t] h2 = zex E (n + 13) (d + 1) 0 810 [some (.float 0), some (.ref 0), some (.ref 84), some (.ref 94), some (.int i), some (.int 0), some (.int y)] [.int 0, .int t] h2).trans (((zkeT zgc0_810 ht) : zex E (n + 13) (d + 1) 0 810 [some (.float 0), some (.ref 0), some (.ref 84), some (.ref 94), some (.int i), some (.int 0), some (.int y)] [.int 0, .int t] h2 = zex E (n + 12) (d + 1) 0 815 [some (.float 0), some (.ref 0), some (.ref 84), some (.ref 94), some (.int i), some (.int 0), some (.int y)] [] h2).trans (((yI zgc0_815 rfl) : zex E (n + 12) (d + 1) 0 815 [some (.float 0), some (.ref 0), some (.ref 84), some (.ref 94), some (.int i), some (.int 0), some (.int y)] [] h2 = zex E (n + 11) (d + 1) 0 817 [some (.float 0), some (.ref 0), some (.ref 84), some (.ref 94), some (.int i), some (.int 0), some (.int y)] [.int 0] h2).trans (((zjnF zgc0_817 (by decide)) : zex E (n + 11) (d + 1) 0 817 [some (.float 0), some (.ref 0), some (.ref 84), some (.ref 94), some (.int i), some (.int 0), some (.int y)] [.int 0] h2 = zex E (n + 10) (d + 1) 0 820 [some (.float 0), some (.ref 0), some (.ref 84), some (.ref 94), some (.int i), some (.int 0), some (.int y)] [] h2).trans (((yAn zgc0_820 rfl rfl) : zex E (n + 10) (d + 1) 0 820 [some (.float 0), some (.ref 0), some (.ref 84), some (.ref 94), some (.int i), some (.int 0), some (.int y)] [] h2 = zex E (n + 9) (d + 1) 0 821 [some (.float 0), some (.ref 0), some (.ref 84), some (.ref 94), some (.int i), some (.int 0), some (.int y)] [.ref 94] h2).trans (((yCi zgc0_821) : zex E (n + 9) (d + 1) 0 821 [some (.float 0), some (.ref 0), some (.ref 84), some (.ref 94), some (.int i), some (.int 0), some (.int y)] [.ref 94] h2 = zex E (n + 8) (d + 1) 0 822 [some (.float 0), some (.ref 0), some (.ref 84), some (.ref 94), some (.int i), some (.int 0), some (.int y)] [.int 0, .ref 94] h2).trans (((zlj zgc0_822 a94_h2 (zi0 : (0 : Int32).toInt = ((0 : Nat) : Int)) (by decide) hw) : zex E (n + 8) (d + 1) 0 822 [some (.float 0), some (.ref 0), some (.ref 84), some (.ref 94), some (.int i), some (.int 0), some (.int y)] [.int 0, .ref 94] h2 = zex E (n + 7) (d + 1) 0 823 [some (.float 0), some (.ref 0), some (.ref 84), some (.ref 94), some (.int i), some (.int 0), some (.int y)] [.long v] h2).trans (((yI zgc0_823 rfl) : zex E (n + 7) (d + 1) 0 823 [some (.float 0), some (.ref 0), some (.ref 84), some (.ref 94), some (.int i), some (.int 0), some (.int y)] [.long v] h2 = zex E (n + 6) (d + 1) 0 825 [some (.float 0), some (.ref 0), some (.ref 84), some (.ref 94), some (.int i), some (.int 0), some (.int y)] [.int y, .long v] h2).trans (((yI2l zgc0_825) : zex E (n + 6) (d + 1) 0 825 [some (.float 0), some (.ref 0), some (.ref 84), some (.ref 94), some (.int i), some (.int 0), some (.int y)] [.int y, .long v] h2 = zex E (n + 5) (d + 1) 0 826 [some (.float 0), some (.ref 0), some (.ref 84), some (.ref 94), some (.int i), some (.int 0), some (.int y)] [.long (y).toInt64, .long v] h2).trans (((yLcmp zgc0_826) : zex E (n + 5) (d + 1) 0 826 [some (.float 0), some (.ref 0), some (.ref 84), some (.ref 94), some (.int i), some (.int 0), some (.int y)] [.long (y).toInt64, .long v] h2 = zex E (n + 4) (d + 1) 0 827 [some (.float 0), some (.ref 0), some (.ref 84), some (.ref 94), some (.int i), some (.int 0), some (.int y)] [.int (lg_cmp v (y).toInt64)] h2).trans (((zjeT zgc0_827 hv) : zex E (n + 4) (d + 1) 0 827 [some (.float 0), some (.ref 0), some (.ref 84), some (.ref 94), some (.int i), some (.int 0), some (.int y)] [.int (lg_cmp v (y).toInt64)] h2 = zex E (n + 3) (d + 1) 0 832 [some (.float 0), some (.ref 0), some (.ref 84), some (.ref 94), some (.int i), some (.int 0), some (.int y)] [] h2).trans (((yGo zgc0_832) : zex E (n + 3) (d + 1) 0 832 [some (.float 0), some (.ref 0), some (.ref 84), some (.ref 94), some (.int i), some (.int 0), some (.int y)] [] h2 = zex E (n + 2) (d + 1) 0 1949 [some (.float 0), some (.ref 0), some (.ref 84), some (.ref 94), some (.int i), some (.int 0), some (.int y)] [] h2).trans (((yInc zgc0_1949 rfl) : zex E (n + 2) (d + 1) 0 1949 [some (.float 0), some (.ref 0), some (.ref 84), some (.ref 94), some (.int i), some (.int 0), some (.int y)] [] h2 = zex E (n + 1) (d + 1) 0 1952 [some (.float 0), some (.ref 0), some (.ref 84), some (.ref 94), some (.int (i + 6)), some (.int 0), some (.int y)] [] h2).trans (((yGo zgc0_1952) : zex E (n + 1) (d + 1) 0 1952 [some (.float 0), some (.ref 0), some (.ref 84), some (.ref 94), some (.int (i + 6)), some (.int 0), some (.int y)] [] h2 = zex E n (d + 1) 0 23 [some (.float 0), some (.ref 0), some (.ref 84), some (.ref 94), some (.int (i + 6)), some (.int 0), some (.int y)] [] h2)))))))))))))))))))))))))))))))))))))))))))
set_option maxRecDepth 100000 in
theorem tp_h1 {E : zE} {n d : Nat} {h h1 h2 : zH} {i y t : Int32} {u5 u6 : Option Value} {I : Nat} (hi : ∀ k : Nat, k < 6 → (i + Int32.ofNat k).toInt = ((I + k : Nat) : Int)) (hI : I + 6 ≤ E.1) (ht : t.toInt = (1 : Int32).toInt) (a84_h1 : zat h1.1 84 = some (.inr (.inl (12, [none, some (some 85), some (some 86), some (some 87), some (some 88), some (some 89), none, none, some (some 90), none, none, none, none, none, none, some (some 91), none, some (some 92), some (some 93)])))) (a84_h2 : zat h2.1 84 = some (.inr (.inl (12, [none, some (some 85), some (some 86), some (some 87), some (some 88), some (some 89), none, none, some (some 90), none, none, none, none, none, none, some (some 91), none, some (some 92), some (some 93)])))) (e1 : zex E (n + 23) d 13 0 [some (.ref 0), some (.int (E.2 (I + 1))), some (.int (E.2 (I + 2))), some (.ref 94), none] [] h = some (.inl (some (.int 1)), h1)) (e2 : zex E (n + 10) d 291 0 [some (.ref 84), some (.int (E.2 (I + 1))), some (.int (E.2 (I + 2)))] [] h1 = some (.inl (some (.int y)), h2)) (e3 : zex E (n + 7) d 338 0 [some (.ref 84)] [] h2 = some (.inl (some (.int t)), h2)) : zex E (n + 36) (d + 1) 0 767 [some (.float 0), some (.ref 0), some (.ref 84), some (.ref 94), some (.int i), u5, u6] [] h = zex E n (d + 1) 0 23 [some (.float 0), some (.ref 0), some (.ref 84), some (.ref 94), some (.int (i + 6)), some (.int 1), some (.int y)] [] h2 :=
  ((yAn zgc0_767 rfl rfl) : zex E (n + 36) (d + 1) 0 767 [some (.float 0), some (.ref 0), some (.ref 84), some (.ref 94), some (.int i), u5, u6] [] h = zex E (n + 35) (d + 1) 0 768 [some (.float 0), some (.ref 0), some (.ref 84), some (.ref 94), some (.int i), u5, u6] [.ref 0] h).trans (((yAn zgc0_768 rfl rfl) : zex E (n + 35) (d + 1) 0 768 [some (.float 0), some (.ref 0), some (.ref 84), some (.ref 94), some (.int i), u5, u6] [.ref 0] h = zex E (n + 34) (d + 1) 0 769 [some (.float 0), some (.ref 0), some (.ref 84), some (.ref 94), some (.int i), u5, u6] [.float 0, .ref 0] h).trans (((yI zgc0_769 rfl) : zex E (n + 34) (d + 1) 0 769 [some (.float 0), some (.ref 0), some (.ref 84), some (.ref 94), some (.int i), u5, u6] [.float 0, .ref 0] h = zex E (n + 33) (d + 1) 0 771 [some (.float 0), some (.ref 0), some (.ref 84), some (.ref 94), some (.int i), u5, u6] [.int i, .float 0, .ref 0] h).trans (((yCi zgc0_771) : zex E (n + 33) (d + 1) 0 771 [some (.float 0), some (.ref 0), some (.ref 84), some (.ref 94), some (.int i), u5, u6] [.int i, .float 0, .ref 0] h = zex E (n + 32) (d + 1) 0 772 [some (.float 0), some (.ref 0), some (.ref 84), some (.ref 94), some (.int i), u5, u6] [.int 1, .int i, .float 0, .ref 0] h).trans (((yAdd zgc0_772) : zex E (n + 32) (d + 1) 0 772 [some (.float 0), some (.ref 0), some (.ref 84), some (.ref 94), some (.int i), u5, u6] [.int 1, .int i, .float 0, .ref 0] h = zex E (n + 31) (d + 1) 0 773 [some (.float 0), some (.ref 0), some (.ref 84), some (.ref 94), some (.int i), u5, u6] [.int (i + 1), .float 0, .ref 0] h).trans (((zlF9 zgc0_773 (hi 1 (by decide)) (by omega)) : zex E (n + 31) (d + 1) 0 773 [some (.float 0), some (.ref 0), some (.ref 84), some (.ref 94), some (.int i), u5, u6] [.int (i + 1), .float 0, .ref 0] h = zex E (n + 30) (d + 1) 0 774 [some (.float 0), some (.ref 0), some (.ref 84), some (.ref 94), some (.int i), u5, u6] [.int (E.2 (I + 1)), .ref 0] h).trans (((yAn zgc0_774 rfl rfl) : zex E (n + 30) (d + 1) 0 774 [some (.float 0), some (.ref 0), some (.ref 84), some (.ref 94), some (.int i), u5, u6] [.int (E.2 (I + 1)), .ref 0] h = zex E (n + 29) (d + 1) 0 775 [some (.float 0), some (.ref 0), some (.ref 84), some (.ref 94), some (.int i), u5, u6] [.float 0, .int (E.2 (I + 1)), .ref 0] h).trans (((yI zgc0_775 rfl) : zex E (n + 29) (d + 1) 0 775 [some (.float 0), some (.ref 0), some (.ref 84), some (.ref 94), some (.int i), u5, u6] [.float 0, .int (E.2 (I + 1)), .ref 0] h = zex E (n + 28) (d + 1) 0 777 [some (.float 0), some (.ref 0), some (.ref 84), some (.ref 94), some (.int i), u5, u6] [.int i, .float 0, .int (E.2 (I + 1)), .ref 0] h).trans (((yCi zgc0_777) : zex E (n + 28) (d + 1) 0 777 [some (.float 0), some (.ref 0), some (.ref 84), some (.ref 94), some (.int i), u5, u6] [.int i, .float 0, .int (E.2 (I + 1)), .ref 0] h = zex E (n + 27) (d + 1) 0 778 [some (.float 0), some (.ref 0), some (.ref 84), some (.ref 94), some (.int i), u5, u6] [.int 2, .int i, .float 0, .int (E.2 (I + 1)), .ref 0] h).trans (((yAdd zgc0_778) : zex E (n + 27) (d + 1) 0 778 [some (.float 0), some (.ref 0), some (.ref 84), some (.ref 94), some (.int i), u5, u6] [.int 2, .int i, .float 0, .int (E.2 (I + 1)), .ref 0] h = zex E (n + 26) (d + 1) 0 779 [some (.float 0), some (.ref 0), some (.ref 84), some (.ref 94), some (.int i), u5, u6] [.int (i + 2), .float 0, .int (E.2 (I + 1)), .ref 0] h).trans (((zlF9 zgc0_779 (hi 2 (by decide)) (by omega)) : zex E (n + 26) (d + 1) 0 779 [some (.float 0), some (.ref 0), some (.ref 84), some (.ref 94), some (.int i), u5, u6] [.int (i + 2), .float 0, .int (E.2 (I + 1)), .ref 0] h = zex E (n + 25) (d + 1) 0 780 [some (.float 0), some (.ref 0), some (.ref 84), some (.ref 94), some (.int i), u5, u6] [.int (E.2 (I + 2)), .int (E.2 (I + 1)), .ref 0] h).trans (((yAn zgc0_780 rfl rfl) : zex E (n + 25) (d + 1) 0 780 [some (.float 0), some (.ref 0), some (.ref 84), some (.ref 94), some (.int i), u5, u6] [.int (E.2 (I + 2)), .int (E.2 (I + 1)), .ref 0] h = zex E (n + 24) (d + 1) 0 781 [some (.float 0), some (.ref 0), some (.ref 84), some (.ref 94), some (.int i), u5, u6] [.ref 94, .int (E.2 (I + 2)), .int (E.2 (I + 1)), .ref 0] h).trans (((zcvs (as := [.ref 0, .int (E.2 (I + 1)), .int (E.2 (I + 2)), .ref 94]) (r := []) zgc0_781 znc13 rfl rfl e1) : zex E (n + 24) (d + 1) 0 781 [some (.float 0), some (.ref 0), some (.ref 84), some (.ref 94), some (.int i), u5, u6] [.ref 94, .int (E.2 (I + 2)), .int (E.2 (I + 1)), .ref 0] h = zex E (n + 23) (d + 1) 0 784 [some (.float 0), some (.ref 0), some (.ref 84), some (.ref 94), some (.int i), u5, u6] [.int 1] h1).trans (((yS zgc0_784) : zex E (n + 23) (d + 1) 0 784 [some (.float 0), some (.ref 0), some (.ref 84), some (.ref 94), some (.int i), u5, u6] [.int 1] h1 = zex E (n + 22) (d + 1) 0 786 [some (.float 0), some (.ref 0), some (.ref 84), some (.ref 94), some (.int i), some (.int 1), u6] [] h1).trans (((yAn zgc0_786 rfl rfl) : zex E (n + 22) (d + 1) 0 786 [some (.float 0), some (.ref 0), some (.ref 84), some (.ref 94), some (.int i), some (.int 1), u6] [] h1 = zex E (n + 21) (d + 1) 0 787 [some (.float 0), some (.ref 0), some (.ref 84), some (.ref 94), some (.int i), some (.int 1), u6] [.ref 84] h1).trans (((yAn zgc0_787 rfl rfl) : zex E (n + 21) (d + 1) 0 787 [some (.float 0), some (.ref 0), some (.ref 84), some (.ref 94), some (.int i), some (.int 1), u6] [.ref 84] h1 = zex E (n + 20) (d + 1) 0 788 [some (.float 0), some (.ref 0), some (.ref 84), some (.ref 94), some (.int i), some (.int 1), u6] [.float 0, .ref 84] h1).trans (((yI zgc0_788 rfl) : zex E (n + 20) (d + 1) 0 788 [some (.float 0), some (.ref 0), some (.ref 84), some (.ref 94), some (.int i), some (.int 1), u6] [.float 0, .ref 84] h1 = zex E (n + 19) (d + 1) 0 790 [some (.float 0), some (.ref 0), some (.ref 84), some (.ref 94), some (.int i), some (.int 1), u6] [.int i, .float 0, .ref 84] h1).trans (((yCi zgc0_790) : zex E (n + 19) (d + 1) 0 790 [some (.float 0), some (.ref 0), some (.ref 84), some (.ref 94), some (.int i), some (.int 1), u6] [.int i, .float 0, .ref 84] h1 = zex E (n + 18) (d + 1) 0 791 [some (.float 0), some (.ref 0), some (.ref 84), some (.ref 94), some (.int i), some (.int 1), u6] [.int 1, .int i, .float 0, .ref 84] h1).trans (((yAdd zgc0_791) : zex E (n + 18) (d + 1) 0 791 [some (.float 0), some (.ref 0), some (.ref 84), some (.ref 94), some (.int i), some (.int 1), u6] [.int 1, .int i, .float 0, .ref 84] h1 = zex E (n + 17) (d + 1) 0 792 [some (.float 0), some (.ref 0), some (.ref 84), some (.ref 94), some (.int i), some (.int 1), u6] [.int (i + 1), .float 0, .ref 84] h1).trans (((zlF9 zgc0_792 (hi 1 (by decide)) (by omega)) : zex E (n + 17) (d + 1) 0 792 [some (.float 0), some (.ref 0), some (.ref 84), some (.ref 94), some (.int i), some (.int 1), u6] [.int (i + 1), .float 0, .ref 84] h1 = zex E (n + 16) (d + 1) 0 793 [some (.float 0), some (.ref 0), some (.ref 84), some (.ref 94), some (.int i), some (.int 1), u6] [.int (E.2 (I + 1)), .ref 84] h1).trans (((yAn zgc0_793 rfl rfl) : zex E (n + 16) (d + 1) 0 793 [some (.float 0), some (.ref 0), some (.ref 84), some (.ref 94), some (.int i), some (.int 1), u6] [.int (E.2 (I + 1)), .ref 84] h1 = zex E (n + 15) (d + 1) 0 794 [some (.float 0), some (.ref 0), some (.ref 84), some (.ref 94), some (.int i), some (.int 1), u6] [.float 0, .int (E.2 (I + 1)), .ref 84] h1).trans (((yI zgc0_794 rfl) : zex E (n + 15) (d + 1) 0 794 [some (.float 0), some (.ref 0), some (.ref 84), some (.ref 94), some (.int i), some (.int 1), u6] [.float 0, .int (E.2 (I + 1)), .ref 84] h1 = zex E (n + 14) (d + 1) 0 796 [some (.float 0), some (.ref 0), some (.ref 84), some (.ref 94), some (.int i), some (.int 1), u6] [.int i, .float 0, .int (E.2 (I + 1)), .ref 84] h1).trans (((yCi zgc0_796) : zex E (n + 14) (d + 1) 0 796 [some (.float 0), some (.ref 0), some (.ref 84), some (.ref 94), some (.int i), some (.int 1), u6] [.int i, .float 0, .int (E.2 (I + 1)), .ref 84] h1 = zex E (n + 13) (d + 1) 0 797 [some (.float 0), some (.ref 0), some (.ref 84), some (.ref 94), some (.int i), some (.int 1), u6] [.int 2, .int i, .float 0, .int (E.2 (I + 1)), .ref 84] h1).trans (((yAdd zgc0_797) : zex E (n + 13) (d + 1) 0 797 [some (.float 0), some (.ref 0), some (.ref 84), some (.ref 94), some (.int i), some (.int 1), u6] [.int 2, .int i, .float 0, .int (E.2 (I + 1)), .ref 84] h1 = zex E (n + 12) (d + 1) 0 798 [some (.float 0), some (.ref 0), some (.ref 84), some (.ref 94), some (.int i), some (.int 1), u6] [.int (i + 2), .float 0, .int (E.2 (I + 1)), .ref 84] h1).trans (((zlF9 zgc0_798 (hi 2 (by decide)) (by omega)) : zex E (n + 12) (d + 1) 0 798 [some (.float 0), some (.ref 0), some (.ref 84), some (.ref 94), some (.int i), some (.int 1), u6] [.int (i + 2), .float 0, .int (E.2 (I + 1)), .ref 84] h1 = zex E (n + 11) (d + 1) 0 799 [some (.float 0), some (.ref 0), some (.ref 84), some (.ref 94), some (.int i), some (.int 1), u6] [.int (E.2 (I + 2)), .int (E.2 (I + 1)), .ref 84] h1).trans (((zcvg (h := h1) (as := [.int (E.2 (I + 1)), .int (E.2 (I + 2))]) (r := []) zgc0_799 znc291 rfl a84_h1 rfl e2) : zex E (n + 11) (d + 1) 0 799 [some (.float 0), some (.ref 0), some (.ref 84), some (.ref 94), some (.int i), some (.int 1), u6] [.int (E.2 (I + 2)), .int (E.2 (I + 1)), .ref 84] h1 = zex E (n + 10) (d + 1) 0 802 [some (.float 0), some (.ref 0), some (.ref 84), some (.ref 94), some (.int i), some (.int 1), u6] [.int y] h2).trans (((yS zgc0_802) : zex E (n + 10) (d + 1) 0 802 [some (.float 0), some (.ref 0), some (.ref 84), some (.ref 94), some (.int i), some (.int 1), u6] [.int y] h2 = zex E (n + 9) (d + 1) 0 804 [some (.float 0), some (.ref 0), some (.ref 84), some (.ref 94), some (.int i), some (.int 1), some (.int y)] [] h2).trans (((yAn zgc0_804 rfl rfl) : zex E (n + 9) (d + 1) 0 804 [some (.float 0), some (.ref 0), some (.ref 84), some (.ref 94), some (.int i), some (.int 1), some (.int y)] [] h2 = zex E (n + 8) (d + 1) 0 805 [some (.float 0), some (.ref 0), some (.ref 84), some (.ref 94), some (.int i), some (.int 1), some (.int y)] [.ref 84] h2).trans (((zcvg (h := h2) (as := []) (r := []) zgc0_805 znc338 rfl a84_h2 rfl e3) : zex E (n + 8) (d + 1) 0 805 [some (.float 0), some (.ref 0), some (.ref 84), some (.ref 94), some (.int i), some (.int 1), some (.int y)] [.ref 84] h2 = zex E (n + 7) (d + 1) 0 808 [some (.float 0), some (.ref 0), some (.ref 84), some (.ref 94), some (.int i), some (.int 1), some (.int y)] [.int t] h2).trans (((yI zgc0_808 rfl) : zex E (n + 7) (d + 1) 0 808 [some (.float 0), some (.ref 0), some (.ref 84), some (.ref 94), some (.int i), some (.int 1), some (.int y)] [.int t] h2 = zex E (n + 6) (d + 1) 0 810 [some (.float 0), some (.ref 0), some (.ref 84), some (.ref 94), some (.int i), some (.int 1), some (.int y)] [.int 1, .int t] h2).trans (((zkeT zgc0_810 ht) : zex E (n + 6) (d + 1) 0 810 [some (.float 0), some (.ref 0), some (.ref 84), some (.ref 94), some (.int i), some (.int 1), some (.int y)] [.int 1, .int t] h2 = zex E (n + 5) (d + 1) 0 815 [some (.float 0), some (.ref 0), some (.ref 84), some (.ref 94), some (.int i), some (.int 1), some (.int y)] [] h2).trans (((yI zgc0_815 rfl) : zex E (n + 5) (d + 1) 0 815 [some (.float 0), some (.ref 0), some (.ref 84), some (.ref 94), some (.int i), some (.int 1), some (.int y)] [] h2 = zex E (n + 4) (d + 1) 0 817 [some (.float 0), some (.ref 0), some (.ref 84), some (.ref 94), some (.int i), some (.int 1), some (.int y)] [.int 1] h2).trans (((zjnT zgc0_817 (by decide)) : zex E (n + 4) (d + 1) 0 817 [some (.float 0), some (.ref 0), some (.ref 84), some (.ref 94), some (.int i), some (.int 1), some (.int y)] [.int 1] h2 = zex E (n + 3) (d + 1) 0 832 [some (.float 0), some (.ref 0), some (.ref 84), some (.ref 94), some (.int i), some (.int 1), some (.int y)] [] h2).trans (((yGo zgc0_832) : zex E (n + 3) (d + 1) 0 832 [some (.float 0), some (.ref 0), some (.ref 84), some (.ref 94), some (.int i), some (.int 1), some (.int y)] [] h2 = zex E (n + 2) (d + 1) 0 1949 [some (.float 0), some (.ref 0), some (.ref 84), some (.ref 94), some (.int i), some (.int 1), some (.int y)] [] h2).trans (((yInc zgc0_1949 rfl) : zex E (n + 2) (d + 1) 0 1949 [some (.float 0), some (.ref 0), some (.ref 84), some (.ref 94), some (.int i), some (.int 1), some (.int y)] [] h2 = zex E (n + 1) (d + 1) 0 1952 [some (.float 0), some (.ref 0), some (.ref 84), some (.ref 94), some (.int (i + 6)), some (.int 1), some (.int y)] [] h2).trans (((yGo zgc0_1952) : zex E (n + 1) (d + 1) 0 1952 [some (.float 0), some (.ref 0), some (.ref 84), some (.ref 94), some (.int (i + 6)), some (.int 1), some (.int y)] [] h2 = zex E n (d + 1) 0 23 [some (.float 0), some (.ref 0), some (.ref 84), some (.ref 94), some (.int (i + 6)), some (.int 1), some (.int y)] [] h2))))))))))))))))))))))))))))))))))))
set_option maxRecDepth 100000 in
theorem tp_h2 {E : zE} {n d : Nat} {h h1 h2 : zH} {i y t : Int32} {u5 u6 : Option Value} {I : Nat} (hi : ∀ k : Nat, k < 6 → (i + Int32.ofNat k).toInt = ((I + k : Nat) : Int)) (hI : I + 6 ≤ E.1) (ht : t.toInt = (2 : Int32).toInt) (a84_h1 : zat h1.1 84 = some (.inr (.inl (12, [none, some (some 85), some (some 86), some (some 87), some (some 88), some (some 89), none, none, some (some 90), none, none, none, none, none, none, some (some 91), none, some (some 92), some (some 93)])))) (a84_h2 : zat h2.1 84 = some (.inr (.inl (12, [none, some (some 85), some (some 86), some (some 87), some (some 88), some (some 89), none, none, some (some 90), none, none, none, none, none, none, some (some 91), none, some (some 92), some (some 93)])))) (e1 : zex E (n + 23) d 13 0 [some (.ref 0), some (.int (E.2 (I + 1))), some (.int (E.2 (I + 2))), some (.ref 94), none] [] h = some (.inl (some (.int 2)), h1)) (e2 : zex E (n + 10) d 291 0 [some (.ref 84), some (.int (E.2 (I + 1))), some (.int (E.2 (I + 2)))] [] h1 = some (.inl (some (.int y)), h2)) (e3 : zex E (n + 7) d 338 0 [some (.ref 84)] [] h2 = some (.inl (some (.int t)), h2)) : zex E (n + 36) (d + 1) 0 767 [some (.float 0), some (.ref 0), some (.ref 84), some (.ref 94), some (.int i), u5, u6] [] h = zex E n (d + 1) 0 23 [some (.float 0), some (.ref 0), some (.ref 84), some (.ref 94), some (.int (i + 6)), some (.int 2), some (.int y)] [] h2 :=
  ((yAn zgc0_767 rfl rfl) : zex E (n + 36) (d + 1) 0 767 [some (.float 0), some (.ref 0), some (.ref 84), some (.ref 94), some (.int i), u5, u6] [] h = zex E (n + 35) (d + 1) 0 768 [some (.float 0), some (.ref 0), some (.ref 84), some (.ref 94), some (.int i), u5, u6] [.ref 0] h).trans (((yAn zgc0_768 rfl rfl) : zex E (n + 35) (d + 1) 0 768 [some (.float 0), some (.ref 0), some (.ref 84), some (.ref 94), some (.int i), u5, u6] [.ref 0] h = zex E (n + 34) (d + 1) 0 769 [some (.float 0), some (.ref 0), some (.ref 84), some (.ref 94), some (.int i), u5, u6] [.float 0, .ref 0] h).trans (((yI zgc0_769 rfl) : zex E (n + 34) (d + 1) 0 769 [some (.float 0), some (.ref 0), some (.ref 84), some (.ref 94), some (.int i), u5, u6] [.float 0, .ref 0] h = zex E (n + 33) (d + 1) 0 771 [some (.float 0), some (.ref 0), some (.ref 84), some (.ref 94), some (.int i), u5, u6] [.int i, .float 0, .ref 0] h).trans (((yCi zgc0_771) : zex E (n + 33) (d + 1) 0 771 [some (.float 0), some (.ref 0), some (.ref 84), some (.ref 94), some (.int i), u5, u6] [.int i, .float 0, .ref 0] h = zex E (n + 32) (d + 1) 0 772 [some (.float 0), some (.ref 0), some (.ref 84), some (.ref 94), some (.int i), u5, u6] [.int 1, .int i, .float 0, .ref 0] h).trans (((yAdd zgc0_772) : zex E (n + 32) (d + 1) 0 772 [some (.float 0), some (.ref 0), some (.ref 84), some (.ref 94), some (.int i), u5, u6] [.int 1, .int i, .float 0, .ref 0] h = zex E (n + 31) (d + 1) 0 773 [some (.float 0), some (.ref 0), some (.ref 84), some (.ref 94), some (.int i), u5, u6] [.int (i + 1), .float 0, .ref 0] h).trans (((zlF9 zgc0_773 (hi 1 (by decide)) (by omega)) : zex E (n + 31) (d + 1) 0 773 [some (.float 0), some (.ref 0), some (.ref 84), some (.ref 94), some (.int i), u5, u6] [.int (i + 1), .float 0, .ref 0] h = zex E (n + 30) (d + 1) 0 774 [some (.float 0), some (.ref 0), some (.ref 84), some (.ref 94), some (.int i), u5, u6] [.int (E.2 (I + 1)), .ref 0] h).trans (((yAn zgc0_774 rfl rfl) : zex E (n + 30) (d + 1) 0 774 [some (.float 0), some (.ref 0), some (.ref 84), some (.ref 94), some (.int i), u5, u6] [.int (E.2 (I + 1)), .ref 0] h = zex E (n + 29) (d + 1) 0 775 [some (.float 0), some (.ref 0), some (.ref 84), some (.ref 94), some (.int i), u5, u6] [.float 0, .int (E.2 (I + 1)), .ref 0] h).trans (((yI zgc0_775 rfl) : zex E (n + 29) (d + 1) 0 775 [some (.float 0), some (.ref 0), some (.ref 84), some (.ref 94), some (.int i), u5, u6] [.float 0, .int (E.2 (I + 1)), .ref 0] h = zex E (n + 28) (d + 1) 0 777 [some (.float 0), some (.ref 0), some (.ref 84), some (.ref 94), some (.int i), u5, u6] [.int i, .float 0, .int (E.2 (I + 1)), .ref 0] h).trans (((yCi zgc0_777) : zex E (n + 28) (d + 1) 0 777 [some (.float 0), some (.ref 0), some (.ref 84), some (.ref 94), some (.int i), u5, u6] [.int i, .float 0, .int (E.2 (I + 1)), .ref 0] h = zex E (n + 27) (d + 1) 0 778 [some (.float 0), some (.ref 0), some (.ref 84), some (.ref 94), some (.int i), u5, u6] [.int 2, .int i, .float 0, .int (E.2 (I + 1)), .ref 0] h).trans (((yAdd zgc0_778) : zex E (n + 27) (d + 1) 0 778 [some (.float 0), some (.ref 0), some (.ref 84), some (.ref 94), some (.int i), u5, u6] [.int 2, .int i, .float 0, .int (E.2 (I + 1)), .ref 0] h = zex E (n + 26) (d + 1) 0 779 [some (.float 0), some (.ref 0), some (.ref 84), some (.ref 94), some (.int i), u5, u6] [.int (i + 2), .float 0, .int (E.2 (I + 1)), .ref 0] h).trans (((zlF9 zgc0_779 (hi 2 (by decide)) (by omega)) : zex E (n + 26) (d + 1) 0 779 [some (.float 0), some (.ref 0), some (.ref 84), some (.ref 94), some (.int i), u5, u6] [.int (i + 2), .float 0, .int (E.2 (I + 1)), .ref 0] h = zex E (n + 25) (d + 1) 0 780 [some (.float 0), some (.ref 0), some (.ref 84), some (.ref 94), some (.int i), u5, u6] [.int (E.2 (I + 2)), .int (E.2 (I + 1)), .ref 0] h).trans (((yAn zgc0_780 rfl rfl) : zex E (n + 25) (d + 1) 0 780 [some (.float 0), some (.ref 0), some (.ref 84), some (.ref 94), some (.int i), u5, u6] [.int (E.2 (I + 2)), .int (E.2 (I + 1)), .ref 0] h = zex E (n + 24) (d + 1) 0 781 [some (.float 0), some (.ref 0), some (.ref 84), some (.ref 94), some (.int i), u5, u6] [.ref 94, .int (E.2 (I + 2)), .int (E.2 (I + 1)), .ref 0] h).trans (((zcvs (as := [.ref 0, .int (E.2 (I + 1)), .int (E.2 (I + 2)), .ref 94]) (r := []) zgc0_781 znc13 rfl rfl e1) : zex E (n + 24) (d + 1) 0 781 [some (.float 0), some (.ref 0), some (.ref 84), some (.ref 94), some (.int i), u5, u6] [.ref 94, .int (E.2 (I + 2)), .int (E.2 (I + 1)), .ref 0] h = zex E (n + 23) (d + 1) 0 784 [some (.float 0), some (.ref 0), some (.ref 84), some (.ref 94), some (.int i), u5, u6] [.int 2] h1).trans (((yS zgc0_784) : zex E (n + 23) (d + 1) 0 784 [some (.float 0), some (.ref 0), some (.ref 84), some (.ref 94), some (.int i), u5, u6] [.int 2] h1 = zex E (n + 22) (d + 1) 0 786 [some (.float 0), some (.ref 0), some (.ref 84), some (.ref 94), some (.int i), some (.int 2), u6] [] h1).trans (((yAn zgc0_786 rfl rfl) : zex E (n + 22) (d + 1) 0 786 [some (.float 0), some (.ref 0), some (.ref 84), some (.ref 94), some (.int i), some (.int 2), u6] [] h1 = zex E (n + 21) (d + 1) 0 787 [some (.float 0), some (.ref 0), some (.ref 84), some (.ref 94), some (.int i), some (.int 2), u6] [.ref 84] h1).trans (((yAn zgc0_787 rfl rfl) : zex E (n + 21) (d + 1) 0 787 [some (.float 0), some (.ref 0), some (.ref 84), some (.ref 94), some (.int i), some (.int 2), u6] [.ref 84] h1 = zex E (n + 20) (d + 1) 0 788 [some (.float 0), some (.ref 0), some (.ref 84), some (.ref 94), some (.int i), some (.int 2), u6] [.float 0, .ref 84] h1).trans (((yI zgc0_788 rfl) : zex E (n + 20) (d + 1) 0 788 [some (.float 0), some (.ref 0), some (.ref 84), some (.ref 94), some (.int i), some (.int 2), u6] [.float 0, .ref 84] h1 = zex E (n + 19) (d + 1) 0 790 [some (.float 0), some (.ref 0), some (.ref 84), some (.ref 94), some (.int i), some (.int 2), u6] [.int i, .float 0, .ref 84] h1).trans (((yCi zgc0_790) : zex E (n + 19) (d + 1) 0 790 [some (.float 0), some (.ref 0), some (.ref 84), some (.ref 94), some (.int i), some (.int 2), u6] [.int i, .float 0, .ref 84] h1 = zex E (n + 18) (d + 1) 0 791 [some (.float 0), some (.ref 0), some (.ref 84), some (.ref 94), some (.int i), some (.int 2), u6] [.int 1, .int i, .float 0, .ref 84] h1).trans (((yAdd zgc0_791) : zex E (n + 18) (d + 1) 0 791 [some (.float 0), some (.ref 0), some (.ref 84), some (.ref 94), some (.int i), some (.int 2), u6] [.int 1, .int i, .float 0, .ref 84] h1 = zex E (n + 17) (d + 1) 0 792 [some (.float 0), some (.ref 0), some (.ref 84), some (.ref 94), some (.int i), some (.int 2), u6] [.int (i + 1), .float 0, .ref 84] h1).trans (((zlF9 zgc0_792 (hi 1 (by decide)) (by omega)) : zex E (n + 17) (d + 1) 0 792 [some (.float 0), some (.ref 0), some (.ref 84), some (.ref 94), some (.int i), some (.int 2), u6] [.int (i + 1), .float 0, .ref 84] h1 = zex E (n + 16) (d + 1) 0 793 [some (.float 0), some (.ref 0), some (.ref 84), some (.ref 94), some (.int i), some (.int 2), u6] [.int (E.2 (I + 1)), .ref 84] h1).trans (((yAn zgc0_793 rfl rfl) : zex E (n + 16) (d + 1) 0 793 [some (.float 0), some (.ref 0), some (.ref 84), some (.ref 94), some (.int i), some (.int 2), u6] [.int (E.2 (I + 1)), .ref 84] h1 = zex E (n + 15) (d + 1) 0 794 [some (.float 0), some (.ref 0), some (.ref 84), some (.ref 94), some (.int i), some (.int 2), u6] [.float 0, .int (E.2 (I + 1)), .ref 84] h1).trans (((yI zgc0_794 rfl) : zex E (n + 15) (d + 1) 0 794 [some (.float 0), some (.ref 0), some (.ref 84), some (.ref 94), some (.int i), some (.int 2), u6] [.float 0, .int (E.2 (I + 1)), .ref 84] h1 = zex E (n + 14) (d + 1) 0 796 [some (.float 0), some (.ref 0), some (.ref 84), some (.ref 94), some (.int i), some (.int 2), u6] [.int i, .float 0, .int (E.2 (I + 1)), .ref 84] h1).trans (((yCi zgc0_796) : zex E (n + 14) (d + 1) 0 796 [some (.float 0), some (.ref 0), some (.ref 84), some (.ref 94), some (.int i), some (.int 2), u6] [.int i, .float 0, .int (E.2 (I + 1)), .ref 84] h1 = zex E (n + 13) (d + 1) 0 797 [some (.float 0), some (.ref 0), some (.ref 84), some (.ref 94), some (.int i), some (.int 2), u6] [.int 2, .int i, .float 0, .int (E.2 (I + 1)), .ref 84] h1).trans (((yAdd zgc0_797) : zex E (n + 13) (d + 1) 0 797 [some (.float 0), some (.ref 0), some (.ref 84), some (.ref 94), some (.int i), some (.int 2), u6] [.int 2, .int i, .float 0, .int (E.2 (I + 1)), .ref 84] h1 = zex E (n + 12) (d + 1) 0 798 [some (.float 0), some (.ref 0), some (.ref 84), some (.ref 94), some (.int i), some (.int 2), u6] [.int (i + 2), .float 0, .int (E.2 (I + 1)), .ref 84] h1).trans (((zlF9 zgc0_798 (hi 2 (by decide)) (by omega)) : zex E (n + 12) (d + 1) 0 798 [some (.float 0), some (.ref 0), some (.ref 84), some (.ref 94), some (.int i), some (.int 2), u6] [.int (i + 2), .float 0, .int (E.2 (I + 1)), .ref 84] h1 = zex E (n + 11) (d + 1) 0 799 [some (.float 0), some (.ref 0), some (.ref 84), some (.ref 94), some (.int i), some (.int 2), u6] [.int (E.2 (I + 2)), .int (E.2 (I + 1)), .ref 84] h1).trans (((zcvg (h := h1) (as := [.int (E.2 (I + 1)), .int (E.2 (I + 2))]) (r := []) zgc0_799 znc291 rfl a84_h1 rfl e2) : zex E (n + 11) (d + 1) 0 799 [some (.float 0), some (.ref 0), some (.ref 84), some (.ref 94), some (.int i), some (.int 2), u6] [.int (E.2 (I + 2)), .int (E.2 (I + 1)), .ref 84] h1 = zex E (n + 10) (d + 1) 0 802 [some (.float 0), some (.ref 0), some (.ref 84), some (.ref 94), some (.int i), some (.int 2), u6] [.int y] h2).trans (((yS zgc0_802) : zex E (n + 10) (d + 1) 0 802 [some (.float 0), some (.ref 0), some (.ref 84), some (.ref 94), some (.int i), some (.int 2), u6] [.int y] h2 = zex E (n + 9) (d + 1) 0 804 [some (.float 0), some (.ref 0), some (.ref 84), some (.ref 94), some (.int i), some (.int 2), some (.int y)] [] h2).trans (((yAn zgc0_804 rfl rfl) : zex E (n + 9) (d + 1) 0 804 [some (.float 0), some (.ref 0), some (.ref 84), some (.ref 94), some (.int i), some (.int 2), some (.int y)] [] h2 = zex E (n + 8) (d + 1) 0 805 [some (.float 0), some (.ref 0), some (.ref 84), some (.ref 94), some (.int i), some (.int 2), some (.int y)] [.ref 84] h2).trans (((zcvg (h := h2) (as := []) (r := []) zgc0_805 znc338 rfl a84_h2 rfl e3) : zex E (n + 8) (d + 1) 0 805 [some (.float 0), some (.ref 0), some (.ref 84), some (.ref 94), some (.int i), some (.int 2), some (.int y)] [.ref 84] h2 = zex E (n + 7) (d + 1) 0 808 [some (.float 0), some (.ref 0), some (.ref 84), some (.ref 94), some (.int i), some (.int 2), some (.int y)] [.int t] h2).trans (((yI zgc0_808 rfl) : zex E (n + 7) (d + 1) 0 808 [some (.float 0), some (.ref 0), some (.ref 84), some (.ref 94), some (.int i), some (.int 2), some (.int y)] [.int t] h2 = zex E (n + 6) (d + 1) 0 810 [some (.float 0), some (.ref 0), some (.ref 84), some (.ref 94), some (.int i), some (.int 2), some (.int y)] [.int 2, .int t] h2).trans (((zkeT zgc0_810 ht) : zex E (n + 6) (d + 1) 0 810 [some (.float 0), some (.ref 0), some (.ref 84), some (.ref 94), some (.int i), some (.int 2), some (.int y)] [.int 2, .int t] h2 = zex E (n + 5) (d + 1) 0 815 [some (.float 0), some (.ref 0), some (.ref 84), some (.ref 94), some (.int i), some (.int 2), some (.int y)] [] h2).trans (((yI zgc0_815 rfl) : zex E (n + 5) (d + 1) 0 815 [some (.float 0), some (.ref 0), some (.ref 84), some (.ref 94), some (.int i), some (.int 2), some (.int y)] [] h2 = zex E (n + 4) (d + 1) 0 817 [some (.float 0), some (.ref 0), some (.ref 84), some (.ref 94), some (.int i), some (.int 2), some (.int y)] [.int 2] h2).trans (((zjnT zgc0_817 (by decide)) : zex E (n + 4) (d + 1) 0 817 [some (.float 0), some (.ref 0), some (.ref 84), some (.ref 94), some (.int i), some (.int 2), some (.int y)] [.int 2] h2 = zex E (n + 3) (d + 1) 0 832 [some (.float 0), some (.ref 0), some (.ref 84), some (.ref 94), some (.int i), some (.int 2), some (.int y)] [] h2).trans (((yGo zgc0_832) : zex E (n + 3) (d + 1) 0 832 [some (.float 0), some (.ref 0), some (.ref 84), some (.ref 94), some (.int i), some (.int 2), some (.int y)] [] h2 = zex E (n + 2) (d + 1) 0 1949 [some (.float 0), some (.ref 0), some (.ref 84), some (.ref 94), some (.int i), some (.int 2), some (.int y)] [] h2).trans (((yInc zgc0_1949 rfl) : zex E (n + 2) (d + 1) 0 1949 [some (.float 0), some (.ref 0), some (.ref 84), some (.ref 94), some (.int i), some (.int 2), some (.int y)] [] h2 = zex E (n + 1) (d + 1) 0 1952 [some (.float 0), some (.ref 0), some (.ref 84), some (.ref 94), some (.int (i + 6)), some (.int 2), some (.int y)] [] h2).trans (((yGo zgc0_1952) : zex E (n + 1) (d + 1) 0 1952 [some (.float 0), some (.ref 0), some (.ref 84), some (.ref 94), some (.int (i + 6)), some (.int 2), some (.int y)] [] h2 = zex E n (d + 1) 0 23 [some (.float 0), some (.ref 0), some (.ref 84), some (.ref 94), some (.int (i + 6)), some (.int 2), some (.int y)] [] h2))))))))))))))))))))))))))))))))))))
set_option maxRecDepth 100000 in
theorem tp_th {E : zE} {n d : Nat} {h : zH}   (a84 : zat h.1 84 = some (.inr (.inl (12, [none, some (some 85), some (some 86), some (some 87), some (some 88), some (some 89), none, none, some (some 90), none, none, none, none, none, none, some (some 91), none, some (some 92), some (some 93)]))))  : zex E (n + 3) d 338 0 [some (.ref 84)] [] h = some (.inl (some (.int (h.2.1 84 0))), h) :=
  ((yAn zgc338_0 rfl rfl) : zex E (n + 3) d 338 0 [some (.ref 84)] [] h = zex E (n + 2) d 338 1 [some (.ref 84)] [.ref 84] h).trans (((zgi zgc338_1 a84 rfl) : zex E (n + 2) d 338 1 [some (.ref 84)] [.ref 84] h = zex E (n + 1) d 338 4 [some (.ref 84)] [.int (h.2.1 84 0)] h).trans (((yRet1 zgc338_4 rfl) : zex E (n + 1) d 338 4 [some (.ref 84)] [.int (h.2.1 84 0)] h = some (.inl (some (.int (h.2.1 84 0))), h))))
set_option maxRecDepth 100000 in
theorem tp_feed {E : zE} {n d : Nat} {h h1 h2 : zH} {i x y : Int32} {u5 u6 : Option Value} {I : Nat} (hi : ∀ k : Nat, k < 6 → (i + Int32.ofNat k).toInt = ((I + k : Nat) : Int)) (hI : I + 6 ≤ E.1) (a0 : zat h.1 0 = some (.inr (.inl (11, [some (some 1), some (some 3), some (some 18), some (some 25), some (some 27), some (some 30), some (some 53), some (some 62), some (some 76), none])))) (a84_h1 : zat h1.1 84 = some (.inr (.inl (12, [none, some (some 85), some (some 86), some (some 87), some (some 88), some (some 89), none, none, some (some 90), none, none, none, none, none, none, some (some 91), none, some (some 92), some (some 93)])))) (e1 : zex E (n + 32) d 39 0 [some (.ref 0), some (.int (E.2 (I + 1))), some (.int (E.2 (I + 2))), some (.int (E.2 (I + 3))), some (.int (E.2 (I + 4))), some (.int (E.2 (I + 5)))] [] h = some (.inl (some (.int x)), h1)) (e2 : zex E (n + 4) d 232 0 [some (.ref 84), some (.int (E.2 (I + 1))), some (.int (E.2 (I + 2))), some (.int (E.2 (I + 3))), some (.int (E.2 (I + 4))), some (.int (E.2 (I + 5))), none] [] h1 = some (.inl (some (.int y)), h2)) : zex E (n + 59) (d + 1) 0 248 [some (.float 0), some (.ref 0), some (.ref 84), some (.ref 94), some (.int i), u5, u6] [] h = zex E n (d + 1) 0 23 [some (.float 0), some (.ref 0), some (.ref 84), some (.ref 94), some (.int (i + 6)), u5, u6] [] h2 :=
  ((yAn zgc0_248 rfl rfl) : zex E (n + 59) (d + 1) 0 248 [some (.float 0), some (.ref 0), some (.ref 84), some (.ref 94), some (.int i), u5, u6] [] h = zex E (n + 58) (d + 1) 0 249 [some (.float 0), some (.ref 0), some (.ref 84), some (.ref 94), some (.int i), u5, u6] [.ref 0] h).trans (((yAn zgc0_249 rfl rfl) : zex E (n + 58) (d + 1) 0 249 [some (.float 0), some (.ref 0), some (.ref 84), some (.ref 94), some (.int i), u5, u6] [.ref 0] h = zex E (n + 57) (d + 1) 0 250 [some (.float 0), some (.ref 0), some (.ref 84), some (.ref 94), some (.int i), u5, u6] [.float 0, .ref 0] h).trans (((yI zgc0_250 rfl) : zex E (n + 57) (d + 1) 0 250 [some (.float 0), some (.ref 0), some (.ref 84), some (.ref 94), some (.int i), u5, u6] [.float 0, .ref 0] h = zex E (n + 56) (d + 1) 0 252 [some (.float 0), some (.ref 0), some (.ref 84), some (.ref 94), some (.int i), u5, u6] [.int i, .float 0, .ref 0] h).trans (((yCi zgc0_252) : zex E (n + 56) (d + 1) 0 252 [some (.float 0), some (.ref 0), some (.ref 84), some (.ref 94), some (.int i), u5, u6] [.int i, .float 0, .ref 0] h = zex E (n + 55) (d + 1) 0 253 [some (.float 0), some (.ref 0), some (.ref 84), some (.ref 94), some (.int i), u5, u6] [.int 1, .int i, .float 0, .ref 0] h).trans (((yAdd zgc0_253) : zex E (n + 55) (d + 1) 0 253 [some (.float 0), some (.ref 0), some (.ref 84), some (.ref 94), some (.int i), u5, u6] [.int 1, .int i, .float 0, .ref 0] h = zex E (n + 54) (d + 1) 0 254 [some (.float 0), some (.ref 0), some (.ref 84), some (.ref 94), some (.int i), u5, u6] [.int (i + 1), .float 0, .ref 0] h).trans (((zlF9 zgc0_254 (hi 1 (by decide)) (by omega)) : zex E (n + 54) (d + 1) 0 254 [some (.float 0), some (.ref 0), some (.ref 84), some (.ref 94), some (.int i), u5, u6] [.int (i + 1), .float 0, .ref 0] h = zex E (n + 53) (d + 1) 0 255 [some (.float 0), some (.ref 0), some (.ref 84), some (.ref 94), some (.int i), u5, u6] [.int (E.2 (I + 1)), .ref 0] h).trans (((yAn zgc0_255 rfl rfl) : zex E (n + 53) (d + 1) 0 255 [some (.float 0), some (.ref 0), some (.ref 84), some (.ref 94), some (.int i), u5, u6] [.int (E.2 (I + 1)), .ref 0] h = zex E (n + 52) (d + 1) 0 256 [some (.float 0), some (.ref 0), some (.ref 84), some (.ref 94), some (.int i), u5, u6] [.float 0, .int (E.2 (I + 1)), .ref 0] h).trans (((yI zgc0_256 rfl) : zex E (n + 52) (d + 1) 0 256 [some (.float 0), some (.ref 0), some (.ref 84), some (.ref 94), some (.int i), u5, u6] [.float 0, .int (E.2 (I + 1)), .ref 0] h = zex E (n + 51) (d + 1) 0 258 [some (.float 0), some (.ref 0), some (.ref 84), some (.ref 94), some (.int i), u5, u6] [.int i, .float 0, .int (E.2 (I + 1)), .ref 0] h).trans (((yCi zgc0_258) : zex E (n + 51) (d + 1) 0 258 [some (.float 0), some (.ref 0), some (.ref 84), some (.ref 94), some (.int i), u5, u6] [.int i, .float 0, .int (E.2 (I + 1)), .ref 0] h = zex E (n + 50) (d + 1) 0 259 [some (.float 0), some (.ref 0), some (.ref 84), some (.ref 94), some (.int i), u5, u6] [.int 2, .int i, .float 0, .int (E.2 (I + 1)), .ref 0] h).trans (((yAdd zgc0_259) : zex E (n + 50) (d + 1) 0 259 [some (.float 0), some (.ref 0), some (.ref 84), some (.ref 94), some (.int i), u5, u6] [.int 2, .int i, .float 0, .int (E.2 (I + 1)), .ref 0] h = zex E (n + 49) (d + 1) 0 260 [some (.float 0), some (.ref 0), some (.ref 84), some (.ref 94), some (.int i), u5, u6] [.int (i + 2), .float 0, .int (E.2 (I + 1)), .ref 0] h).trans (((zlF9 zgc0_260 (hi 2 (by decide)) (by omega)) : zex E (n + 49) (d + 1) 0 260 [some (.float 0), some (.ref 0), some (.ref 84), some (.ref 94), some (.int i), u5, u6] [.int (i + 2), .float 0, .int (E.2 (I + 1)), .ref 0] h = zex E (n + 48) (d + 1) 0 261 [some (.float 0), some (.ref 0), some (.ref 84), some (.ref 94), some (.int i), u5, u6] [.int (E.2 (I + 2)), .int (E.2 (I + 1)), .ref 0] h).trans (((yAn zgc0_261 rfl rfl) : zex E (n + 48) (d + 1) 0 261 [some (.float 0), some (.ref 0), some (.ref 84), some (.ref 94), some (.int i), u5, u6] [.int (E.2 (I + 2)), .int (E.2 (I + 1)), .ref 0] h = zex E (n + 47) (d + 1) 0 262 [some (.float 0), some (.ref 0), some (.ref 84), some (.ref 94), some (.int i), u5, u6] [.float 0, .int (E.2 (I + 2)), .int (E.2 (I + 1)), .ref 0] h).trans (((yI zgc0_262 rfl) : zex E (n + 47) (d + 1) 0 262 [some (.float 0), some (.ref 0), some (.ref 84), some (.ref 94), some (.int i), u5, u6] [.float 0, .int (E.2 (I + 2)), .int (E.2 (I + 1)), .ref 0] h = zex E (n + 46) (d + 1) 0 264 [some (.float 0), some (.ref 0), some (.ref 84), some (.ref 94), some (.int i), u5, u6] [.int i, .float 0, .int (E.2 (I + 2)), .int (E.2 (I + 1)), .ref 0] h).trans (((yCi zgc0_264) : zex E (n + 46) (d + 1) 0 264 [some (.float 0), some (.ref 0), some (.ref 84), some (.ref 94), some (.int i), u5, u6] [.int i, .float 0, .int (E.2 (I + 2)), .int (E.2 (I + 1)), .ref 0] h = zex E (n + 45) (d + 1) 0 265 [some (.float 0), some (.ref 0), some (.ref 84), some (.ref 94), some (.int i), u5, u6] [.int 3, .int i, .float 0, .int (E.2 (I + 2)), .int (E.2 (I + 1)), .ref 0] h).trans (((yAdd zgc0_265) : zex E (n + 45) (d + 1) 0 265 [some (.float 0), some (.ref 0), some (.ref 84), some (.ref 94), some (.int i), u5, u6] [.int 3, .int i, .float 0, .int (E.2 (I + 2)), .int (E.2 (I + 1)), .ref 0] h = zex E (n + 44) (d + 1) 0 266 [some (.float 0), some (.ref 0), some (.ref 84), some (.ref 94), some (.int i), u5, u6] [.int (i + 3), .float 0, .int (E.2 (I + 2)), .int (E.2 (I + 1)), .ref 0] h).trans (((zlF9 zgc0_266 (hi 3 (by decide)) (by omega)) : zex E (n + 44) (d + 1) 0 266 [some (.float 0), some (.ref 0), some (.ref 84), some (.ref 94), some (.int i), u5, u6] [.int (i + 3), .float 0, .int (E.2 (I + 2)), .int (E.2 (I + 1)), .ref 0] h = zex E (n + 43) (d + 1) 0 267 [some (.float 0), some (.ref 0), some (.ref 84), some (.ref 94), some (.int i), u5, u6] [.int (E.2 (I + 3)), .int (E.2 (I + 2)), .int (E.2 (I + 1)), .ref 0] h).trans (((yAn zgc0_267 rfl rfl) : zex E (n + 43) (d + 1) 0 267 [some (.float 0), some (.ref 0), some (.ref 84), some (.ref 94), some (.int i), u5, u6] [.int (E.2 (I + 3)), .int (E.2 (I + 2)), .int (E.2 (I + 1)), .ref 0] h = zex E (n + 42) (d + 1) 0 268 [some (.float 0), some (.ref 0), some (.ref 84), some (.ref 94), some (.int i), u5, u6] [.float 0, .int (E.2 (I + 3)), .int (E.2 (I + 2)), .int (E.2 (I + 1)), .ref 0] h).trans (((yI zgc0_268 rfl) : zex E (n + 42) (d + 1) 0 268 [some (.float 0), some (.ref 0), some (.ref 84), some (.ref 94), some (.int i), u5, u6] [.float 0, .int (E.2 (I + 3)), .int (E.2 (I + 2)), .int (E.2 (I + 1)), .ref 0] h = zex E (n + 41) (d + 1) 0 270 [some (.float 0), some (.ref 0), some (.ref 84), some (.ref 94), some (.int i), u5, u6] [.int i, .float 0, .int (E.2 (I + 3)), .int (E.2 (I + 2)), .int (E.2 (I + 1)), .ref 0] h).trans (((yCi zgc0_270) : zex E (n + 41) (d + 1) 0 270 [some (.float 0), some (.ref 0), some (.ref 84), some (.ref 94), some (.int i), u5, u6] [.int i, .float 0, .int (E.2 (I + 3)), .int (E.2 (I + 2)), .int (E.2 (I + 1)), .ref 0] h = zex E (n + 40) (d + 1) 0 271 [some (.float 0), some (.ref 0), some (.ref 84), some (.ref 94), some (.int i), u5, u6] [.int 4, .int i, .float 0, .int (E.2 (I + 3)), .int (E.2 (I + 2)), .int (E.2 (I + 1)), .ref 0] h).trans (((yAdd zgc0_271) : zex E (n + 40) (d + 1) 0 271 [some (.float 0), some (.ref 0), some (.ref 84), some (.ref 94), some (.int i), u5, u6] [.int 4, .int i, .float 0, .int (E.2 (I + 3)), .int (E.2 (I + 2)), .int (E.2 (I + 1)), .ref 0] h = zex E (n + 39) (d + 1) 0 272 [some (.float 0), some (.ref 0), some (.ref 84), some (.ref 94), some (.int i), u5, u6] [.int (i + 4), .float 0, .int (E.2 (I + 3)), .int (E.2 (I + 2)), .int (E.2 (I + 1)), .ref 0] h).trans (((zlF9 zgc0_272 (hi 4 (by decide)) (by omega)) : zex E (n + 39) (d + 1) 0 272 [some (.float 0), some (.ref 0), some (.ref 84), some (.ref 94), some (.int i), u5, u6] [.int (i + 4), .float 0, .int (E.2 (I + 3)), .int (E.2 (I + 2)), .int (E.2 (I + 1)), .ref 0] h = zex E (n + 38) (d + 1) 0 273 [some (.float 0), some (.ref 0), some (.ref 84), some (.ref 94), some (.int i), u5, u6] [.int (E.2 (I + 4)), .int (E.2 (I + 3)), .int (E.2 (I + 2)), .int (E.2 (I + 1)), .ref 0] h).trans (((yAn zgc0_273 rfl rfl) : zex E (n + 38) (d + 1) 0 273 [some (.float 0), some (.ref 0), some (.ref 84), some (.ref 94), some (.int i), u5, u6] [.int (E.2 (I + 4)), .int (E.2 (I + 3)), .int (E.2 (I + 2)), .int (E.2 (I + 1)), .ref 0] h = zex E (n + 37) (d + 1) 0 274 [some (.float 0), some (.ref 0), some (.ref 84), some (.ref 94), some (.int i), u5, u6] [.float 0, .int (E.2 (I + 4)), .int (E.2 (I + 3)), .int (E.2 (I + 2)), .int (E.2 (I + 1)), .ref 0] h).trans (((yI zgc0_274 rfl) : zex E (n + 37) (d + 1) 0 274 [some (.float 0), some (.ref 0), some (.ref 84), some (.ref 94), some (.int i), u5, u6] [.float 0, .int (E.2 (I + 4)), .int (E.2 (I + 3)), .int (E.2 (I + 2)), .int (E.2 (I + 1)), .ref 0] h = zex E (n + 36) (d + 1) 0 276 [some (.float 0), some (.ref 0), some (.ref 84), some (.ref 94), some (.int i), u5, u6] [.int i, .float 0, .int (E.2 (I + 4)), .int (E.2 (I + 3)), .int (E.2 (I + 2)), .int (E.2 (I + 1)), .ref 0] h).trans (((yCi zgc0_276) : zex E (n + 36) (d + 1) 0 276 [some (.float 0), some (.ref 0), some (.ref 84), some (.ref 94), some (.int i), u5, u6] [.int i, .float 0, .int (E.2 (I + 4)), .int (E.2 (I + 3)), .int (E.2 (I + 2)), .int (E.2 (I + 1)), .ref 0] h = zex E (n + 35) (d + 1) 0 277 [some (.float 0), some (.ref 0), some (.ref 84), some (.ref 94), some (.int i), u5, u6] [.int 5, .int i, .float 0, .int (E.2 (I + 4)), .int (E.2 (I + 3)), .int (E.2 (I + 2)), .int (E.2 (I + 1)), .ref 0] h).trans (((yAdd zgc0_277) : zex E (n + 35) (d + 1) 0 277 [some (.float 0), some (.ref 0), some (.ref 84), some (.ref 94), some (.int i), u5, u6] [.int 5, .int i, .float 0, .int (E.2 (I + 4)), .int (E.2 (I + 3)), .int (E.2 (I + 2)), .int (E.2 (I + 1)), .ref 0] h = zex E (n + 34) (d + 1) 0 278 [some (.float 0), some (.ref 0), some (.ref 84), some (.ref 94), some (.int i), u5, u6] [.int (i + 5), .float 0, .int (E.2 (I + 4)), .int (E.2 (I + 3)), .int (E.2 (I + 2)), .int (E.2 (I + 1)), .ref 0] h).trans (((zlF9 zgc0_278 (hi 5 (by decide)) (by omega)) : zex E (n + 34) (d + 1) 0 278 [some (.float 0), some (.ref 0), some (.ref 84), some (.ref 94), some (.int i), u5, u6] [.int (i + 5), .float 0, .int (E.2 (I + 4)), .int (E.2 (I + 3)), .int (E.2 (I + 2)), .int (E.2 (I + 1)), .ref 0] h = zex E (n + 33) (d + 1) 0 279 [some (.float 0), some (.ref 0), some (.ref 84), some (.ref 94), some (.int i), u5, u6] [.int (E.2 (I + 5)), .int (E.2 (I + 4)), .int (E.2 (I + 3)), .int (E.2 (I + 2)), .int (E.2 (I + 1)), .ref 0] h).trans (((zcvg (h := h) (as := [.int (E.2 (I + 1)), .int (E.2 (I + 2)), .int (E.2 (I + 3)), .int (E.2 (I + 4)), .int (E.2 (I + 5))]) (r := []) zgc0_279 znc39 rfl a0 rfl e1) : zex E (n + 33) (d + 1) 0 279 [some (.float 0), some (.ref 0), some (.ref 84), some (.ref 94), some (.int i), u5, u6] [.int (E.2 (I + 5)), .int (E.2 (I + 4)), .int (E.2 (I + 3)), .int (E.2 (I + 2)), .int (E.2 (I + 1)), .ref 0] h = zex E (n + 32) (d + 1) 0 282 [some (.float 0), some (.ref 0), some (.ref 84), some (.ref 94), some (.int i), u5, u6] [.int x] h1).trans (((yPop zgc0_282 rfl) : zex E (n + 32) (d + 1) 0 282 [some (.float 0), some (.ref 0), some (.ref 84), some (.ref 94), some (.int i), u5, u6] [.int x] h1 = zex E (n + 31) (d + 1) 0 283 [some (.float 0), some (.ref 0), some (.ref 84), some (.ref 94), some (.int i), u5, u6] [] h1).trans (((yAn zgc0_283 rfl rfl) : zex E (n + 31) (d + 1) 0 283 [some (.float 0), some (.ref 0), some (.ref 84), some (.ref 94), some (.int i), u5, u6] [] h1 = zex E (n + 30) (d + 1) 0 284 [some (.float 0), some (.ref 0), some (.ref 84), some (.ref 94), some (.int i), u5, u6] [.ref 84] h1).trans (((yAn zgc0_284 rfl rfl) : zex E (n + 30) (d + 1) 0 284 [some (.float 0), some (.ref 0), some (.ref 84), some (.ref 94), some (.int i), u5, u6] [.ref 84] h1 = zex E (n + 29) (d + 1) 0 285 [some (.float 0), some (.ref 0), some (.ref 84), some (.ref 94), some (.int i), u5, u6] [.float 0, .ref 84] h1).trans (((yI zgc0_285 rfl) : zex E (n + 29) (d + 1) 0 285 [some (.float 0), some (.ref 0), some (.ref 84), some (.ref 94), some (.int i), u5, u6] [.float 0, .ref 84] h1 = zex E (n + 28) (d + 1) 0 287 [some (.float 0), some (.ref 0), some (.ref 84), some (.ref 94), some (.int i), u5, u6] [.int i, .float 0, .ref 84] h1).trans (((yCi zgc0_287) : zex E (n + 28) (d + 1) 0 287 [some (.float 0), some (.ref 0), some (.ref 84), some (.ref 94), some (.int i), u5, u6] [.int i, .float 0, .ref 84] h1 = zex E (n + 27) (d + 1) 0 288 [some (.float 0), some (.ref 0), some (.ref 84), some (.ref 94), some (.int i), u5, u6] [.int 1, .int i, .float 0, .ref 84] h1).trans (((yAdd zgc0_288) : zex E (n + 27) (d + 1) 0 288 [some (.float 0), some (.ref 0), some (.ref 84), some (.ref 94), some (.int i), u5, u6] [.int 1, .int i, .float 0, .ref 84] h1 = zex E (n + 26) (d + 1) 0 289 [some (.float 0), some (.ref 0), some (.ref 84), some (.ref 94), some (.int i), u5, u6] [.int (i + 1), .float 0, .ref 84] h1).trans (((zlF9 zgc0_289 (hi 1 (by decide)) (by omega)) : zex E (n + 26) (d + 1) 0 289 [some (.float 0), some (.ref 0), some (.ref 84), some (.ref 94), some (.int i), u5, u6] [.int (i + 1), .float 0, .ref 84] h1 = zex E (n + 25) (d + 1) 0 290 [some (.float 0), some (.ref 0), some (.ref 84), some (.ref 94), some (.int i), u5, u6] [.int (E.2 (I + 1)), .ref 84] h1).trans (((yAn zgc0_290 rfl rfl) : zex E (n + 25) (d + 1) 0 290 [some (.float 0), some (.ref 0), some (.ref 84), some (.ref 94), some (.int i), u5, u6] [.int (E.2 (I + 1)), .ref 84] h1 = zex E (n + 24) (d + 1) 0 291 [some (.float 0), some (.ref 0), some (.ref 84), some (.ref 94), some (.int i), u5, u6] [.float 0, .int (E.2 (I + 1)), .ref 84] h1).trans (((yI zgc0_291 rfl) : zex E (n + 24) (d + 1) 0 291 [some (.float 0), some (.ref 0), some (.ref 84), some (.ref 94), some (.int i), u5, u6] [.float 0, .int (E.2 (I + 1)), .ref 84] h1 = zex E (n + 23) (d + 1) 0 293 [some (.float 0), some (.ref 0), some (.ref 84), some (.ref 94), some (.int i), u5, u6] [.int i, .float 0, .int (E.2 (I + 1)), .ref 84] h1).trans (((yCi zgc0_293) : zex E (n + 23) (d + 1) 0 293 [some (.float 0), some (.ref 0), some (.ref 84), some (.ref 94), some (.int i), u5, u6] [.int i, .float 0, .int (E.2 (I + 1)), .ref 84] h1 = zex E (n + 22) (d + 1) 0 294 [some (.float 0), some (.ref 0), some (.ref 84), some (.ref 94), some (.int i), u5, u6] [.int 2, .int i, .float 0, .int (E.2 (I + 1)), .ref 84] h1).trans (((yAdd zgc0_294) : zex E (n + 22) (d + 1) 0 294 [some (.float 0), some (.ref 0), some (.ref 84), some (.ref 94), some (.int i), u5, u6] [.int 2, .int i, .float 0, .int (E.2 (I + 1)), .ref 84] h1 = zex E (n + 21) (d + 1) 0 295 [some (.float 0), some (.ref 0), some (.ref 84), some (.ref 94), some (.int i), u5, u6] [.int (i + 2), .float 0, .int (E.2 (I + 1)), .ref 84] h1).trans (((zlF9 zgc0_295 (hi 2 (by decide)) (by omega)) : zex E (n + 21) (d + 1) 0 295 [some (.float 0), some (.ref 0), some (.ref 84), some (.ref 94), some (.int i), u5, u6] [.int (i + 2), .float 0, .int (E.2 (I + 1)), .ref 84] h1 = zex E (n + 20) (d + 1) 0 296 [some (.float 0), some (.ref 0), some (.ref 84), some (.ref 94), some (.int i), u5, u6] [.int (E.2 (I + 2)), .int (E.2 (I + 1)), .ref 84] h1).trans (((yAn zgc0_296 rfl rfl) : zex E (n + 20) (d + 1) 0 296 [some (.float 0), some (.ref 0), some (.ref 84), some (.ref 94), some (.int i), u5, u6] [.int (E.2 (I + 2)), .int (E.2 (I + 1)), .ref 84] h1 = zex E (n + 19) (d + 1) 0 297 [some (.float 0), some (.ref 0), some (.ref 84), some (.ref 94), some (.int i), u5, u6] [.float 0, .int (E.2 (I + 2)), .int (E.2 (I + 1)), .ref 84] h1).trans (((yI zgc0_297 rfl) : zex E (n + 19) (d + 1) 0 297 [some (.float 0), some (.ref 0), some (.ref 84), some (.ref 94), some (.int i), u5, u6] [.float 0, .int (E.2 (I + 2)), .int (E.2 (I + 1)), .ref 84] h1 = zex E (n + 18) (d + 1) 0 299 [some (.float 0), some (.ref 0), some (.ref 84), some (.ref 94), some (.int i), u5, u6] [.int i, .float 0, .int (E.2 (I + 2)), .int (E.2 (I + 1)), .ref 84] h1).trans (((yCi zgc0_299) : zex E (n + 18) (d + 1) 0 299 [some (.float 0), some (.ref 0), some (.ref 84), some (.ref 94), some (.int i), u5, u6] [.int i, .float 0, .int (E.2 (I + 2)), .int (E.2 (I + 1)), .ref 84] h1 = zex E (n + 17) (d + 1) 0 300 [some (.float 0), some (.ref 0), some (.ref 84), some (.ref 94), some (.int i), u5, u6] [.int 3, .int i, .float 0, .int (E.2 (I + 2)), .int (E.2 (I + 1)), .ref 84] h1).trans (((yAdd zgc0_300) : zex E (n + 17) (d + 1) 0 300 [some (.float 0), some (.ref 0), some (.ref 84), some (.ref 94), some (.int i), u5, u6] [.int 3, .int i, .float 0, .int (E.2 (I + 2)), .int (E.2 (I + 1)), .ref 84] h1 = zex E (n + 16) (d + 1) 0 301 [some (.float 0), some (.ref 0), some (.ref 84), some (.ref 94), some (.int i), u5, u6] [.int (i + 3), .float 0, .int (E.2 (I + 2)), .int (E.2 (I + 1)), .ref 84] h1).trans (((zlF9 zgc0_301 (hi 3 (by decide)) (by omega)) : zex E (n + 16) (d + 1) 0 301 [some (.float 0), some (.ref 0), some (.ref 84), some (.ref 94), some (.int i), u5, u6] [.int (i + 3), .float 0, .int (E.2 (I + 2)), .int (E.2 (I + 1)), .ref 84] h1 = zex E (n + 15) (d + 1) 0 302 [some (.float 0), some (.ref 0), some (.ref 84), some (.ref 94), some (.int i), u5, u6] [.int (E.2 (I + 3)), .int (E.2 (I + 2)), .int (E.2 (I + 1)), .ref 84] h1).trans (((yAn zgc0_302 rfl rfl) : zex E (n + 15) (d + 1) 0 302 [some (.float 0), some (.ref 0), some (.ref 84), some (.ref 94), some (.int i), u5, u6] [.int (E.2 (I + 3)), .int (E.2 (I + 2)), .int (E.2 (I + 1)), .ref 84] h1 = zex E (n + 14) (d + 1) 0 303 [some (.float 0), some (.ref 0), some (.ref 84), some (.ref 94), some (.int i), u5, u6] [.float 0, .int (E.2 (I + 3)), .int (E.2 (I + 2)), .int (E.2 (I + 1)), .ref 84] h1).trans (((yI zgc0_303 rfl) : zex E (n + 14) (d + 1) 0 303 [some (.float 0), some (.ref 0), some (.ref 84), some (.ref 94), some (.int i), u5, u6] [.float 0, .int (E.2 (I + 3)), .int (E.2 (I + 2)), .int (E.2 (I + 1)), .ref 84] h1 = zex E (n + 13) (d + 1) 0 305 [some (.float 0), some (.ref 0), some (.ref 84), some (.ref 94), some (.int i), u5, u6] [.int i, .float 0, .int (E.2 (I + 3)), .int (E.2 (I + 2)), .int (E.2 (I + 1)), .ref 84] h1).trans (((yCi zgc0_305) : zex E (n + 13) (d + 1) 0 305 [some (.float 0), some (.ref 0), some (.ref 84), some (.ref 94), some (.int i), u5, u6] [.int i, .float 0, .int (E.2 (I + 3)), .int (E.2 (I + 2)), .int (E.2 (I + 1)), .ref 84] h1 = zex E (n + 12) (d + 1) 0 306 [some (.float 0), some (.ref 0), some (.ref 84), some (.ref 94), some (.int i), u5, u6] [.int 4, .int i, .float 0, .int (E.2 (I + 3)), .int (E.2 (I + 2)), .int (E.2 (I + 1)), .ref 84] h1).trans (((yAdd zgc0_306) : zex E (n + 12) (d + 1) 0 306 [some (.float 0), some (.ref 0), some (.ref 84), some (.ref 94), some (.int i), u5, u6] [.int 4, .int i, .float 0, .int (E.2 (I + 3)), .int (E.2 (I + 2)), .int (E.2 (I + 1)), .ref 84] h1 = zex E (n + 11) (d + 1) 0 307 [some (.float 0), some (.ref 0), some (.ref 84), some (.ref 94), some (.int i), u5, u6] [.int (i + 4), .float 0, .int (E.2 (I + 3)), .int (E.2 (I + 2)), .int (E.2 (I + 1)), .ref 84] h1).trans (((zlF9 zgc0_307 (hi 4 (by decide)) (by omega)) : zex E (n + 11) (d + 1) 0 307 [some (.float 0), some (.ref 0), some (.ref 84), some (.ref 94), some (.int i), u5, u6] [.int (i + 4), .float 0, .int (E.2 (I + 3)), .int (E.2 (I + 2)), .int (E.2 (I + 1)), .ref 84] h1 = zex E (n + 10) (d + 1) 0 308 [some (.float 0), some (.ref 0), some (.ref 84), some (.ref 94), some (.int i), u5, u6] [.int (E.2 (I + 4)), .int (E.2 (I + 3)), .int (E.2 (I + 2)), .int (E.2 (I + 1)), .ref 84] h1).trans (((yAn zgc0_308 rfl rfl) : zex E (n + 10) (d + 1) 0 308 [some (.float 0), some (.ref 0), some (.ref 84), some (.ref 94), some (.int i), u5, u6] [.int (E.2 (I + 4)), .int (E.2 (I + 3)), .int (E.2 (I + 2)), .int (E.2 (I + 1)), .ref 84] h1 = zex E (n + 9) (d + 1) 0 309 [some (.float 0), some (.ref 0), some (.ref 84), some (.ref 94), some (.int i), u5, u6] [.float 0, .int (E.2 (I + 4)), .int (E.2 (I + 3)), .int (E.2 (I + 2)), .int (E.2 (I + 1)), .ref 84] h1).trans (((yI zgc0_309 rfl) : zex E (n + 9) (d + 1) 0 309 [some (.float 0), some (.ref 0), some (.ref 84), some (.ref 94), some (.int i), u5, u6] [.float 0, .int (E.2 (I + 4)), .int (E.2 (I + 3)), .int (E.2 (I + 2)), .int (E.2 (I + 1)), .ref 84] h1 = zex E (n + 8) (d + 1) 0 311 [some (.float 0), some (.ref 0), some (.ref 84), some (.ref 94), some (.int i), u5, u6] [.int i, .float 0, .int (E.2 (I + 4)), .int (E.2 (I + 3)), .int (E.2 (I + 2)), .int (E.2 (I + 1)), .ref 84] h1).trans (((yCi zgc0_311) : zex E (n + 8) (d + 1) 0 311 [some (.float 0), some (.ref 0), some (.ref 84), some (.ref 94), some (.int i), u5, u6] [.int i, .float 0, .int (E.2 (I + 4)), .int (E.2 (I + 3)), .int (E.2 (I + 2)), .int (E.2 (I + 1)), .ref 84] h1 = zex E (n + 7) (d + 1) 0 312 [some (.float 0), some (.ref 0), some (.ref 84), some (.ref 94), some (.int i), u5, u6] [.int 5, .int i, .float 0, .int (E.2 (I + 4)), .int (E.2 (I + 3)), .int (E.2 (I + 2)), .int (E.2 (I + 1)), .ref 84] h1).trans (((yAdd zgc0_312) : zex E (n + 7) (d + 1) 0 312 [some (.float 0), some (.ref 0), some (.ref 84), some (.ref 94), some (.int i), u5, u6] [.int 5, .int i, .float 0, .int (E.2 (I + 4)), .int (E.2 (I + 3)), .int (E.2 (I + 2)), .int (E.2 (I + 1)), .ref 84] h1 = zex E (n + 6) (d + 1) 0 313 [some (.float 0), some (.ref 0), some (.ref 84), some (.ref 94), some (.int i), u5, u6] [.int (i + 5), .float 0, .int (E.2 (I + 4)), .int (E.2 (I + 3)), .int (E.2 (I + 2)), .int (E.2 (I + 1)), .ref 84] h1).trans (((zlF9 zgc0_313 (hi 5 (by decide)) (by omega)) : zex E (n + 6) (d + 1) 0 313 [some (.float 0), some (.ref 0), some (.ref 84), some (.ref 94), some (.int i), u5, u6] [.int (i + 5), .float 0, .int (E.2 (I + 4)), .int (E.2 (I + 3)), .int (E.2 (I + 2)), .int (E.2 (I + 1)), .ref 84] h1 = zex E (n + 5) (d + 1) 0 314 [some (.float 0), some (.ref 0), some (.ref 84), some (.ref 94), some (.int i), u5, u6] [.int (E.2 (I + 5)), .int (E.2 (I + 4)), .int (E.2 (I + 3)), .int (E.2 (I + 2)), .int (E.2 (I + 1)), .ref 84] h1).trans (((zcvg (h := h1) (as := [.int (E.2 (I + 1)), .int (E.2 (I + 2)), .int (E.2 (I + 3)), .int (E.2 (I + 4)), .int (E.2 (I + 5))]) (r := []) zgc0_314 znc232 rfl a84_h1 rfl e2) : zex E (n + 5) (d + 1) 0 314 [some (.float 0), some (.ref 0), some (.ref 84), some (.ref 94), some (.int i), u5, u6] [.int (E.2 (I + 5)), .int (E.2 (I + 4)), .int (E.2 (I + 3)), .int (E.2 (I + 2)), .int (E.2 (I + 1)), .ref 84] h1 = zex E (n + 4) (d + 1) 0 317 [some (.float 0), some (.ref 0), some (.ref 84), some (.ref 94), some (.int i), u5, u6] [.int y] h2).trans (((yPop zgc0_317 rfl) : zex E (n + 4) (d + 1) 0 317 [some (.float 0), some (.ref 0), some (.ref 84), some (.ref 94), some (.int i), u5, u6] [.int y] h2 = zex E (n + 3) (d + 1) 0 318 [some (.float 0), some (.ref 0), some (.ref 84), some (.ref 94), some (.int i), u5, u6] [] h2).trans (((yGo zgc0_318) : zex E (n + 3) (d + 1) 0 318 [some (.float 0), some (.ref 0), some (.ref 84), some (.ref 94), some (.int i), u5, u6] [] h2 = zex E (n + 2) (d + 1) 0 1949 [some (.float 0), some (.ref 0), some (.ref 84), some (.ref 94), some (.int i), u5, u6] [] h2).trans (((yInc zgc0_1949 rfl) : zex E (n + 2) (d + 1) 0 1949 [some (.float 0), some (.ref 0), some (.ref 84), some (.ref 94), some (.int i), u5, u6] [] h2 = zex E (n + 1) (d + 1) 0 1952 [some (.float 0), some (.ref 0), some (.ref 84), some (.ref 94), some (.int (i + 6)), u5, u6] [] h2).trans (((yGo zgc0_1952) : zex E (n + 1) (d + 1) 0 1952 [some (.float 0), some (.ref 0), some (.ref 84), some (.ref 94), some (.int (i + 6)), u5, u6] [] h2 = zex E n (d + 1) 0 23 [some (.float 0), some (.ref 0), some (.ref 84), some (.ref 94), some (.int (i + 6)), u5, u6] [] h2)))))))))))))))))))))))))))))))))))))))))))))))))))))))))))
def t5A (f : bI) : bLs := [some (.inr (.inl (.float 0))), some (.inr (.inl (.ref 0))), some (.inr (.inl (.ref 84))), some (.inr (.inl (.ref 94))), some (.inl f), none, none]
/-- what holds at the head of each turn -/
def LI (h : zH) (L im : Nat) : Prop := bHI h ∧ bPS h ∧ bTB ctb h.1 ∧ ((h.2.1 1 1).toInt = (L : Int) ∧ (h.2.1 84 9).toInt = (L : Int) ∧ (h.2.1 30 4).toInt = (im : Int) ∧ (h.2.1 84 6).toInt = (im : Int)) ∧ L ≤ 400 ∧ im ≤ 1 ∧ (∀ i, 0 ≤ tp2 h i ∧ tp2 h i ≤ 255) ∧ ∀ i, tp90 h i = sg8 (tp2 h i)
set_option maxRecDepth 100000 in
theorem wD90 : Nat.testBit wD (bun 90 0) = false := by decide +kernel
set_option maxRecDepth 100000 in
theorem wL2 : Nat.testBit wL (bun 2 0) = false := by decide +kernel
set_option maxRecDepth 100000 in
theorem wL11 : Nat.testBit wL (bun 1 1) = false := by decide +kernel
set_option maxRecDepth 100000 in
theorem wL09 : Nat.testBit wL (bun 0 9) = false := by decide +kernel
set_option maxRecDepth 100000 in
theorem wL304 : Nat.testBit wL (bun 30 4) = false := by decide +kernel
set_option maxRecDepth 100000 in
theorem wL846 : Nat.testBit wL (bun 84 6) = false := by decide +kernel
set_option maxRecDepth 100000 in
theorem wD304 : Nat.testBit wD (bun 30 4) = false := by decide +kernel
set_option maxRecDepth 100000 in
theorem wD846 : Nat.testBit wD (bun 84 6) = false := by decide +kernel
set_option maxRecDepth 100000 in
theorem wD849 : Nat.testBit wD (bun 84 9) = false := by decide +kernel
set_option maxRecDepth 100000 in
theorem sg8_R {T U : Nat → Int} {L : Nat} (h1 : ∀ i, 0 ≤ T i ∧ T i ≤ 255) (h2 : ∀ i, U i = sg8 (T i)) : tpR T U L ∧ ∀ i, -128 ≤ U i ∧ U i ≤ 127 := by
  refine ⟨fun i _ => ?_, fun i => ?_⟩
  · have := h1 i
    rw [h2 i]
    unfold sg8
    split <;> omega
  · have := h1 i
    rw [h2 i]
    unfold sg8
    split <;> omega
set_option maxRecDepth 100000 in
theorem bHI_fr {h h' : zH} (hI : bHI h) (hc : ∀ c, 85 ≤ c → c ≤ 89 → h'.2.1 c = h.2.1 c) (hh : ∀ c, bhc c = true → h'.2.1 c = h.2.1 c) (hb : ∀ c k, (biv c k).1 ≤ (h'.2.1 c k).toInt ∧ (h'.2.1 c k).toInt ≤ (biv c k).2) : bHI h' := by
  obtain ⟨-, g2, ⟨⟨g3, g4, g5, g6⟩, g7, g8, g9⟩, g10⟩ := hI
  have e85 : h'.2.1 bWc = h.2.1 bWc := hc 85 (by decide) (by decide)
  have f85 : h'.2.1 85 = h.2.1 85 := hc 85 (by decide) (by decide)
  have f86 := hc 86 (by decide) (by decide)
  have f87 := hc 87 (by decide) (by decide)
  have f88 := hc 88 (by decide) (by decide)
  have f89 := hc 89 (by decide) (by decide)
  refine ⟨hb, ?_, ⟨⟨?_, ?_, ?_, ?_⟩, ?_, ?_, ?_⟩, ?_⟩
  · rw [e85]; exact g2
  · rw [f86]; exact g3
  · rw [f87]; exact g4
  · rw [f88]; exact g5
  · rw [f89]; exact g6
  · rw [f85]; exact g7
  · rw [f86]; exact g8
  · rw [f87]; exact g9
  · intro c hz k
    rw [hh c hz]
    exact g10 c hz k
set_option maxRecDepth 100000 in
theorem bivF (c k : Nat) (h : biv c k = (-2147483648, 2147483647)) (x : Int32) : (biv c k).1 ≤ x.toInt ∧ x.toInt ≤ (biv c k).2 := by
  rw [h]
  exact bi32 x
set_option maxRecDepth 100000 in
theorem biv2F (k : Nat) : biv 2 k = (-2147483648, 2147483647) := rfl
set_option maxRecDepth 100000 in
theorem biv91F (k : Nat) : biv 91 k = (-2147483648, 2147483647) := rfl
set_option maxRecDepth 100000 in
theorem biv90F (k : Nat) : biv 90 k = (-128, 127) := rfl
set_option maxRecDepth 100000 in
theorem biv11F : biv 1 1 = (0, 400) := rfl
set_option maxRecDepth 100000 in
theorem biv849F : biv 84 9 = (0, 400) := rfl
set_option maxRecDepth 100000 in
theorem biv840F : biv 84 0 = (-2147483648, 2147483647) := rfl
def t5K (iv : Int32) (u5 u6 : Option Value) : zLs := [some (.float 0), some (.ref 0), some (.ref 84), some (.ref 94), some (.int iv), u5, u6]
set_option maxRecDepth 100000 in
theorem t5A_s {V : List Int} {f : bI} {ls : zLs} (h : bLR V (t5A f) ls) : ∃ iv u5 u6, ls = t5K iv u5 u6 ∧ iv.toInt = bvx V f := by
  match ls, h with
  | [p0, p1, p2, p3, p4, p5, p6], ⟨⟨v0, e0, f0⟩, ⟨v1, e1, f1⟩, ⟨v2, e2, f2⟩, ⟨v3, e3, f3⟩, ⟨v4, e4, x, f4, f5⟩, _, _, _⟩ =>
    have f0 : v0 = _ := f0
    have f1 : v1 = _ := f1
    have f2 : v2 = _ := f2
    have f3 : v3 = _ := f3
    refine ⟨x, p5, p6, ?_, brel_x f5⟩
    rw [e0, e1, e2, e3, e4, f0, f1, f2, f3, f4]
    rfl
set_option maxRecDepth 100000 in
theorem t5A_m {V : List Int} {f : bI} {iv : Int32} {u5 u6 : Option Value} (h : brel V f iv.toInt) : bLR V (t5A f) (t5K iv u5 u6) := ⟨⟨_, rfl, rfl⟩, ⟨_, rfl, rfl⟩, ⟨_, rfl, rfl⟩, ⟨_, rfl, rfl⟩, ⟨_, rfl, iv, rfl, h⟩, trivial, trivial, trivial⟩
set_option maxRecDepth 100000 in
theorem t5_feed {h : zH} {L im : Nat} (hI : LI h L im) (w0 w1 w2 w3 w4 : Int32) : ∃ (x y : Int32) (h1 h2 : zH) (L' : Nat), (∀ (E : zE) f d, zex E (f + 1000) (d + 1) 39 0 [some (.ref 0), some (.int w0), some (.int w1), some (.int w2), some (.int w3), some (.int w4)] [] h = some (.inl (some (.int x)), h1)) ∧ (∀ (E : zE) f d, zex E (f + 1000) (d + 1) 232 0 [some (.ref 84), some (.int w0), some (.int w1), some (.int w2), some (.int w3), some (.int w4), none] [] h1 = some (.inl (some (.int y)), h2)) ∧ h1.1 = h.1 ∧ h2.1 = h.1 ∧ h2.2.2 = h.2.2 ∧ LI h2 L' im ∧ (∀ c, c ≠ 1 → c ≠ 2 → c ≠ 84 → c ≠ 90 → c ≠ 91 → ∀ k, h2.2.1 c k = h.2.1 c k) ∧ (∀ k, k ≠ 0 → k ≠ 9 → h2.2.1 84 k = h.2.1 84 k) := by
  obtain ⟨gI, gP, gT, ⟨p1, p2, p3, p4⟩, p5, p6, p7, p8⟩ := hI
  have a0 := gT 0 _ ks0 (by intro z; cases z)
  have a1 := gT 1 _ cs1 (by intro z; cases z)
  have a2 := gT 2 _ (show bg2 ctb 2 = some (.inl (0, 400, [])) from rfl) (by intro z; cases z)
  have a84 := gT 84 _ cs84 (by intro z; cases z)
  have a90 := gT 90 _ (show bg2 ctb 90 = some (.inl (1, 400, [])) from rfl) (by intro z; cases z)
  have a91 := gT 91 _ (show bg2 ctb 91 = some (.inl (0, 5, [])) from rfl) (by intro z; cases z)
  by_cases hL : L ≤ 380
  · obtain ⟨x, h1, e1, q1, q2, q3, q4, q5, q6⟩ := feedC (w0 := w0) (w1 := w1) (w2 := w2) (w3 := w3) (w4 := w4) p1 hL a0 a1 a2
    obtain ⟨y, h2, e2, r1, r2, r3, r4, r5, r6, r7⟩ := feedM (h := h1) (w0 := w0) (w1 := w1) (w2 := w2) (w3 := w3) (w4 := w4) (u6 := none) (by rw [q3 84 (by decide) (by decide)]; exact p2) hL (by rw [q1]; exact a84) (by rw [q1]; exact a90) (by rw [q1]; exact a91)
    have s1 : h2.1 = h.1 := r1.trans q1
    have c2 : ∀ i, h2.2.1 2 i = if L ≤ i ∧ i < L + 20 then fbC (w5 w0 w1 w2 w3 w4) (i - L) else h.2.1 2 i := fun i => by rw [r3 2 (by decide) (by decide) (by decide)]; exact q6 i
    have c90 : ∀ i, h2.2.1 90 i = if L ≤ i ∧ i < L + 20 then fbM (w5 w0 w1 w2 w3 w4) (i - L) else h.2.1 90 i := fun i => by rw [r7 i, q3 90 (by decide) (by decide)]
    have co : ∀ c, c ≠ 1 → c ≠ 2 → c ≠ 84 → c ≠ 90 → c ≠ 91 → h2.2.1 c = h.2.1 c := fun c z1 z2 z3 z4 z5 => (r3 c z3 z4 z5).trans (q3 c z1 z2)
    have t7 : ∀ i, 0 ≤ tp2 h2 i ∧ tp2 h2 i ≤ 255 := by
      intro i
      show 0 ≤ (h2.2.1 2 i).toInt ∧ (h2.2.1 2 i).toInt ≤ 255
      rw [c2 i]
      split
      · exact (by_eq _ _).2
      · exact p7 i
    have t8 : ∀ i, tp90 h2 i = sg8 (tp2 h2 i) := by
      intro i
      show (h2.2.1 90 i).toInt = sg8 (h2.2.1 2 i).toInt
      rw [c2 i, c90 i]
      split
      · exact (by_eq _ _).1
      · exact p8 i
    have t11 : (h2.2.1 1 1).toInt = ((L + 20 : Nat) : Int) := by rw [r3 1 (by decide) (by decide) (by decide)]; exact q5
    refine ⟨x, y, h1, h2, L + 20, e1, fun E f d => e2 E f (d + 1), q1, s1, r2.trans q2, ⟨?_, ?_, by rw [s1]; exact gT, ⟨t11, r6, ?_, ?_⟩, by omega, p6, t7, t8⟩, fun c z1 z2 z3 z4 z5 k => by rw [co c z1 z2 z3 z4 z5], fun k k0 k9 => by rw [r4 k k0 k9, q3 84 (by decide) (by decide)]⟩
    · refine bHI_fr gI (fun c z1 z2 => co c (by omega) (by omega) (by omega) (by omega) (by omega)) (fun c hz => ?_) fun c k => ?_
      · have hc : c = 15 ∨ c = 42 ∨ c = 82 := by
          unfold bhc at hz
          cases g1 : Nat.beq c 15 with
          | true => exact Or.inl (abq g1)
          | false =>
            rw [g1, cond_false] at hz
            cases g2 : Nat.beq c 42 with
            | true => exact Or.inr (Or.inl (abq g2))
            | false =>
              rw [g2, cond_false] at hz
              exact Or.inr (Or.inr (abq hz))
        exact co c (by omega) (by omega) (by omega) (by omega) (by omega)
      · by_cases z1 : c = 1
        · subst z1
          by_cases zk : k = 1
          · subst zk
            rw [t11, biv11F]
            exact ⟨by show (0 : Int) ≤ _; omega, by show _ ≤ (400 : Int); omega⟩
          · rw [r3 1 (by decide) (by decide) (by decide), q4 k zk]
            exact gI.1 1 k
        · by_cases z2 : c = 2
          · subst z2
            exact bivF 2 k (biv2F k) _
          · by_cases z91 : c = 91
            · subst z91
              exact bivF 91 k (biv91F k) _
            · by_cases z90 : c = 90
              · subst z90
                rw [biv90F]
                have w1 := t8 k
                have w2 := t7 k
                have w3 : (h2.2.1 90 k).toInt = sg8 (tp2 h2 k) := w1
                rw [w3]
                unfold sg8
                split
                · exact ⟨by show (-128 : Int) ≤ _; omega, by show _ ≤ (127 : Int); omega⟩
                · exact ⟨by show (-128 : Int) ≤ _; omega, by show _ ≤ (127 : Int); omega⟩
              · by_cases z84 : c = 84
                · subst z84
                  by_cases zk : k = 0
                  · subst zk
                    exact bivF 84 0 biv840F _
                  · by_cases zk9 : k = 9
                    · subst zk9
                      rw [r6, biv849F]
                      exact ⟨by show (0 : Int) ≤ _; omega, by show _ ≤ (400 : Int); omega⟩
                    · rw [r4 k zk zk9, q3 84 (by decide) (by decide)]
                      exact gI.1 84 k
                · rw [co c z1 z2 z84 z90 z91]
                  exact gI.1 c k
    · obtain ⟨r, g1, g2, g3⟩ := gP
      exact ⟨r, g1, by rw [s1]; exact g2, by rw [co 27 (by decide) (by decide) (by decide) (by decide) (by decide)]; exact g3⟩
    · rw [co 30 (by decide) (by decide) (by decide) (by decide) (by decide)]
      exact p3
    · rw [r4 6 (by decide) (by decide), q3 84 (by decide) (by decide)]
      exact p4
  · have e1 := feedCn (h := h) (T := L) (w0 := w0) (w1 := w1) (w2 := w2) (w3 := w3) (w4 := w4) p1 (by omega) p5 a0 a1
    have e2 := feedMn (h := h) (T := L) (w0 := w0) (w1 := w1) (w2 := w2) (w3 := w3) (w4 := w4) (u6 := none) p2 (by omega) p5 a84
    refine ⟨-1, -1, h, zsetI h 84 (upd (h.2.1 84) 0 0), L, fun E f d => e1 E (f + 991) (d + 1), fun E f d => e2 E (f + 989) (d + 1), rfl, rfl, rfl, ⟨?_, ?_, gT, ⟨?_, ?_, ?_, ?_⟩, p5, p6, ?_, ?_⟩, fun c _ _ z3 _ _ k => zs_ne z3, fun k k0 _ => by rw [zs_at, upd_n k0]⟩
    · refine bHI_fr gI (fun c z1 z2 => zs_nc (by omega)) (fun c hz => zs_nc (fun z => by rw [z] at hz; exact absurd hz (by decide))) fun c k => ?_
      by_cases z84 : c = 84
      · subst z84
        by_cases zk : k = 0
        · subst zk
          exact bivF 84 0 biv840F _
        · rw [zs_at, upd_n zk]
          exact gI.1 84 k
      · rw [zs_ne z84]
        exact gI.1 c k
    · obtain ⟨r, g1, g2, g3⟩ := gP
      exact ⟨r, g1, g2, by rw [zs_ne (by decide)]; exact g3⟩
    · rw [zs_ne (by decide)]; exact p1
    · rw [zs_at, upd_n (by decide)]; exact p2
    · rw [zs_ne (by decide)]; exact p3
    · rw [zs_at, upd_n (by decide)]; exact p4
    · intro i
      show 0 ≤ ((zsetI h 84 (upd (h.2.1 84) 0 0)).2.1 2 i).toInt ∧ ((zsetI h 84 (upd (h.2.1 84) 0 0)).2.1 2 i).toInt ≤ 255
      rw [zs_ne (by decide)]
      exact p7 i
    · intro i
      show ((zsetI h 84 (upd (h.2.1 84) 0 0)).2.1 90 i).toInt = sg8 ((zsetI h 84 (upd (h.2.1 84) 0 0)).2.1 2 i).toInt
      rw [zs_ne (by decide), zs_ne (by decide)]
      exact p8 i
def EX (h : zH) : Prop := h.2.1 27 2 = h.2.1 84 7 ∧ paQ h ∧ QX h
def lE : List (Nat × Nat) := [(27, 2), (27, 3), (84, 7), (21, 0), (4, 0), (4, 2), (8, 0), (47, 0), (30, 4), (31, 0), (31, 2), (35, 0), (86, 0), (89, 0)]
def LX (h : zH) (L im : Nat) : Prop := LI h L im ∧ PX h im ∧ EX h
set_option maxRecDepth 100000 in
theorem gq6 {c k : Nat} (q : gqP c k) : c ≤ 6 := by
  rcases q with z | z | z | z | z | z | z <;> omega
def lNq : List (Nat × Nat) := [(21, 0), (4, 0), (4, 2), (8, 0)]
def lQI : List (Nat × Nat) := [(47, 0), (30, 4), (31, 0), (31, 2), (35, 0), (86, 0)]
def l85 : List (Nat × Nat) := [(85, 186)]
def lQG : List (Nat × Nat) := [(47, 0)]
set_option maxRecDepth 100000 in
theorem qn_f {W : Nat} {h h' : zH} (hW : wF W lNq = true) (f : Fr W h h') : ∀ c k m, qk c k m → h'.2.1 (18 + c) k = h.2.1 (18 + c) k := by
  intro c k m hq
  rcases hq with ⟨z, h1, h2, h3⟩ | ⟨z, h1, h2, h3⟩ | ⟨z, h1, h2, h3⟩ | ⟨z, h1, h2, h3⟩ | ⟨z, h1, h2, h3⟩ | ⟨z, h1, h2, h3⟩
  · exact (show False from z).elim
  · exact (show False from z).elim
  · subst h1; exact f 21 k (wF_m hW 21 0 (by decide))
  · exact (show False from z).elim
  · exact (show False from z).elim
  · exact (show False from z).elim
set_option maxRecDepth 100000 in
theorem qg_f {W : Nat} {h h' : zH} (hW : wF W lQG = true) (f : Fr W h h') : ∀ c k m, qk c k m → h'.2.1 (44 + c) k = h.2.1 (44 + c) k := by
  intro c k m hq
  rcases hq with ⟨z, h1, h2, h3⟩ | ⟨z, h1, h2, h3⟩ | ⟨z, h1, h2, h3⟩ | ⟨z, h1, h2, h3⟩ | ⟨z, h1, h2, h3⟩ | ⟨z, h1, h2, h3⟩
  · exact (show False from z).elim
  · exact (show False from z).elim
  · subst h1; exact f 47 k (wF_m hW 47 0 (by decide))
  · exact (show False from z).elim
  · exact (show False from z).elim
  · exact (show False from z).elim
set_option maxRecDepth 100000 in
theorem b186 : ∀ k, k < 8 → bun 85 (186 + 24 * k) = bun 85 186 := by decide +kernel
set_option maxRecDepth 100000 in
theorem Q85_w {W : Nat} {h h' : zH} (hW : wF W l85 = true) (f : Fr W h h') : ∀ c k m, qk c k m → h'.2.1 85 m = h.2.1 85 m := by
  intro c k m hq
  rcases hq with ⟨z, h1, h2, h3⟩ | ⟨z, h1, h2, h3⟩ | ⟨z, h1, h2, h3⟩ | ⟨z, h1, h2, h3⟩ | ⟨z, h1, h2, h3⟩ | ⟨z, h1, h2, h3⟩
  · exact (show False from z).elim
  · exact (show False from z).elim
  · subst h3; exact f 85 _ (by rw [b186 k h2]; exact wF_m hW 85 186 (by decide))
  · exact (show False from z).elim
  · exact (show False from z).elim
  · exact (show False from z).elim
set_option maxRecDepth 100000 in
theorem wF_s {W : Nat} {l l2 : List (Nat × Nat)} (h : wF W l = true) (hs : ∀ x, x ∈ l2 → x ∈ l) : wF W l2 = true := by
  unfold wF at h ⊢
  rw [List.all_eq_true] at h ⊢
  exact fun x hx => h x (hs x hx)
set_option maxRecDepth 100000 in
theorem lQG_I : ∀ x, x ∈ lQG → x ∈ lQI := by decide
set_option maxRecDepth 100000 in
theorem SXn_w {W : Nat} {h h' : zH} (hW : wF W lNq = true) (f : Fr W h h') (r5 : ∀ c k m, qk c k m → h'.2.1 85 m = h.2.1 85 m) (q : SX h 4 18 85 0) : SX h' 4 18 85 0 := SX_f (f 4 0 (wF_m hW 4 0 (by decide))) (f 4 2 (wF_m hW 4 2 (by decide))) (fun k _ _ => f 8 k (wF_m hW 8 0 (by decide))) (qn_f hW f) (fun c k m hq => by rw [Nat.zero_add]; exact r5 c k m hq) q
set_option maxRecDepth 100000 in
theorem QI_w {W : Nat} {h h' : zH} (hW : wF W lQI = true) (f : Fr W h h') (q : QI h) : QI h' := QI_f (f 30 4 (wF_m hW 30 4 (by decide))) (f 31 0 (wF_m hW 31 0 (by decide))) (f 31 2 (wF_m hW 31 2 (by decide))) (fun k _ _ => f 35 k (wF_m hW 35 0 (by decide))) (qg_f (wF_s hW lQG_I) f) (fun k => f 86 k (wF_m hW 86 0 (by decide))) q
set_option maxRecDepth 100000 in
theorem lNq_E : ∀ x, x ∈ lNq → x ∈ lE := by decide
set_option maxRecDepth 100000 in
theorem lQI_E : ∀ x, x ∈ lQI → x ∈ lE := by decide
set_option maxRecDepth 100000 in
theorem QX_z {W : Nat} {h h' : zH} (hW : wF W lE = true) (hp : wF W lPa = true) (f : Fr W h h') (r5 : ∀ c k m, qk c k m → h'.2.1 85 m = h.2.1 85 m) (q : QX h) : QX h' := ⟨SXn_w (wF_s hW lNq_E) f r5 q.1, QI_w (wF_s hW lQI_E) f q.2.1, QP_f (f 4 0 (wF_m hW 4 0 (by decide))) (f 4 2 (wF_m hW 4 2 (by decide))) (fun k _ _ => f 8 k (wF_m hW 8 0 (by decide))) (f 27 2 (wF_m hW 27 2 (by decide))) (f 27 3 (wF_m hW 27 3 (by decide))) (fun r hr c hc k => (RS9_w hp (f 27 3 (wF_m hW 27 3 (by decide))) f).1 _ (by omega) (by omega) k) (fun k => f 89 k (wF_m hW 89 0 (by decide))) q.2.2⟩
set_option maxRecDepth 100000 in
theorem EX_z {E : zE} {n d mi pc : Nat} {ls : zLs} {st : List Value} {h h' : zH} {r : Option Value ⊕ Nat} {W : Nat} (e : zex E n d mi pc ls st h = some (r, h')) (hP : bPS h') (hW : wF W lE = true) (hp : wF W lPa = true) (f : Fr W h h') (r5 : ∀ c k m, qk c k m → h'.2.1 85 m = h.2.1 85 m) (x : EX h) : EX h' := ⟨by rw [f 27 2 (wF_m hW 27 2 (by decide)), f 84 7 (wF_m hW 84 7 (by decide))]; exact x.1, paQ_f e hP (f 27 2 (wF_m hW 27 2 (by decide))) (f 27 3 (wF_m hW 27 3 (by decide))) x.2.1, QX_z hW hp f r5 x.2.2⟩
def lRow : List (Nat × Nat) := (List.range 777).map fun i => (85, i)
set_option maxRecDepth 100000 in
theorem row_w {W : Nat} {h h' : zH} (hW : wF W lRow = true) (f : Fr W h h') : ∀ k, k < 777 → h'.2.1 85 k = h.2.1 85 k := fun k hk => f 85 k (wF_m hW 85 k (List.mem_map.mpr ⟨k, List.mem_range.mpr hk, rfl⟩))
set_option maxRecDepth 100000 in
theorem SX_told {h h2 : zH} {c0 K M : Nat} {v : Int32} (e1 : h2.2.1 4 0 = h.2.1 4 0) (e2 : h2.2.1 4 2 = h.2.1 4 2) (e3 : ∀ k : Nat, k < 8 → (k : Int) < (h.2.1 4 2).toInt → h2.2.1 8 k = h.2.1 8 k) (hM : ∀ k m, qk c0 k m → (k = K ↔ m = M)) (a1 : ∀ k, h2.2.1 (18 + c0) k = upd (h.2.1 (18 + c0)) K v k) (a2 : ∀ k m, qk c0 k m → h2.2.1 85 m = upd (h.2.1 85) M v m)
    (o1 : ∀ c k m, qk c k m → c ≠ c0 → h2.2.1 (18 + c) k = h.2.1 (18 + c) k ∧ h2.2.1 85 m = h.2.1 85 m) (hc0 : c0 = 1 ∧ (K : Int) < (h.2.1 4 0).toInt ∨ c0 = 3 ∨ c0 = 4 ∧ (K : Int) < (h.2.1 4 2).toInt) (s : SX h 4 18 85 0) : SX h2 4 18 85 0 := by
  refine ⟨fun c k m q hc => ?_, fun hk r hr h0 => ?_, fun q hq => ⟨fun h2 => ⟨fun hk => ?_, fun hk => ?_⟩, fun h2 hk => ?_⟩⟩
  · rw [Nat.zero_add]
    by_cases hcc : c = c0
    · subst hcc
      rw [a1 k, a2 k m q]
      by_cases hkK : k = K
      · rw [hkK, upd_e, (hM k m q).mp hkK, upd_e]
      · rw [upd_n hkK, upd_n (fun z => hkK ((hM k m q).mpr z))]
        have := s.1 c k m q (fun z => by rw [← e2]; exact hc z)
        rw [Nat.zero_add] at this
        exact this
    · rw [(o1 c k m q hcc).1, (o1 c k m q hcc).2]
      have := s.1 c k m q (fun z => by rw [← e2]; exact hc z)
      rw [Nat.zero_add] at this
      exact this
  · rw [e1] at h0
    have hq : qk 1 r (15 + 11 * r) := Or.inl ⟨hk, rfl, hr, rfl⟩
    by_cases hcc : 1 = c0
    · subst hcc
      rw [a1 r, upd_n (by omega)]
      exact s.2.1 hk r hr h0
    · rw [(o1 1 r _ hq hcc).1]
      exact s.2.1 hk r hr h0
  · rw [e2] at h2
    rw [(o1 2 q _ (Or.inr (Or.inl ⟨hk, rfl, hq, rfl⟩)) (by omega)).1]
    exact ((s.2.2 q hq).1 h2).1 hk
  · rw [e2] at h2
    have hq4 : qk 4 q (187 + 24 * q) := Or.inr (Or.inr (Or.inr (Or.inl ⟨hk, rfl, hq, rfl⟩)))
    by_cases hcc : 4 = c0
    · subst hcc
      rw [a1 q, upd_n (by omega)]
      exact ((s.2.2 q hq).1 h2).2 hk
    · rw [(o1 4 q _ hq4 hcc).1]
      exact ((s.2.2 q hq).1 h2).2 hk
  · rw [e2] at h2
    rw [(o1 2 q _ (Or.inr (Or.inl ⟨hk, rfl, hq, rfl⟩)) (by omega)).1, e3 q hq h2]
    exact (s.2.2 q hq).2 h2 hk
set_option maxRecDepth 100000 in
theorem upd_d {f g : Nat → Int32} {K : Nat} {v : Int32} (e : ∀ k, k < 777 → f k = g k) {k : Nat} (hk : k < 777) : upd f K v k = upd g K v k := by
  by_cases z : k = K
  · rw [z, upd_e, upd_e]
  · rw [upd_n z, upd_n z]; exact e k hk
set_option maxRecDepth 100000 in
theorem qk_m {c k m : Nat} (h : qk c k m) : (c = 1 ∧ m = 15 + 11 * k) ∨ (c = 2 ∧ m = 185 + 24 * k) ∨ (c = 3 ∧ m = 186 + 24 * k) ∨ (c = 4 ∧ m = 187 + 24 * k) ∨ c = 0 := by
  rcases h with ⟨_, h⟩ | ⟨_, h⟩ | ⟨_, h⟩ | ⟨_, h⟩ | ⟨_, h⟩ | ⟨_, h⟩ <;> omega
set_option maxRecDepth 100000 in
theorem RC_eq {h h' : zH} {σ : hSt} (hR : RC h 4 18 σ) (h1 : ∀ k, k < 3 → h'.2.1 4 k = h.2.1 4 k) (h2 : ∀ k, h'.2.1 (4 + 3) k = h.2.1 (4 + 3) k) (h3 : ∀ k, h'.2.1 (4 + 4) k = h.2.1 (4 + 4) k) (h4 : ∀ k, h'.2.1 (4 + 5) k = h.2.1 (4 + 5) k) (h5 : ∀ k, h'.2.1 (18 + 1) k = h.2.1 (18 + 1) k) (h6 : ∀ k, h'.2.1 (18 + 2) k = h.2.1 (18 + 2) k) (h7 : ∀ k, h'.2.1 (18 + 3) k = h.2.1 (18 + 3) k) (h8 : ∀ k, h'.2.1 (18 + 4) k = h.2.1 (18 + 4) k) : RC h' 4 18 σ := by
  obtain ⟨⟨r1, r2, r3⟩, r4, r5, r6, r7, r8, r9, r10⟩ := hR
  exact ⟨⟨by rw [h1 0 (by decide)]; exact r1, by rw [h1 1 (by decide)]; exact r2, by rw [h1 2 (by decide)]; exact r3⟩, fun a ha => by rw [h2 a]; exact r4 a ha, fun q hq => by rw [h3 q]; exact r5 q hq, fun q hq k hk => by rw [h4]; exact r6 q hq k hk, fun r hr => by rw [h5]; exact r7 r hr, fun q hq => by rw [h6]; exact r8 q hq, fun q hq => by rw [h7]; exact r9 q hq, fun q hq => by rw [h8]; exact r10 q hq⟩
set_option maxRecDepth 100000 in
theorem RN_of_SX {h : zH} {σ : hSt} (hR : RC h 4 18 σ) (hW : WF σ) (s : SX h 4 18 85 0) : RN h σ ∧ WZ σ := by
  obtain ⟨⟨r1, r2, r3⟩, r4, r5, r6, r7, r8, r9, r10⟩ := hR
  have w3 := hW.2.2.1
  refine ⟨⟨fun hc r hr => ?_, fun p hp => ⟨fun hc => ?_, fun hc hs => ?_, fun hc => ?_⟩⟩, fun hc r hr h12 => ?_, fun p hp h8 => ⟨fun hc => ?_, fun hc => ?_⟩, fun p hp hc => ?_⟩
  · have t := s.1 1 r (15 + 11 * r) (Or.inl ⟨hc, rfl, hr, rfl⟩) (fun z => absurd z (by decide))
    rw [Nat.zero_add] at t
    rw [← t]
    exact r7 r hr
  · have t := s.1 2 p (185 + 24 * p) (Or.inr (Or.inl ⟨hc, rfl, hp, rfl⟩)) (fun z => absurd z (by decide))
    rw [Nat.zero_add] at t
    rw [← t]
    exact r8 p hp
  · have t := s.1 3 p (186 + 24 * p) (Or.inr (Or.inr (Or.inl ⟨hc, rfl, hp, rfl⟩))) (fun _ => by rw [r3]; omega)
    rw [Nat.zero_add] at t
    rw [← t]
    exact r9 p hs
  · have t := s.1 4 p (187 + 24 * p) (Or.inr (Or.inr (Or.inr (Or.inl ⟨hc, rfl, hp, rfl⟩)))) (fun z => absurd z (by decide))
    rw [Nat.zero_add] at t
    rw [← t]
    exact r10 p hp
  · rw [← r7 r h12]; exact s.2.1 hc r h12 (by rw [r1]; omega)
  · rw [← r8 p h8]; exact ((s.2.2 p h8).1 (by rw [r3]; omega)).1 hc
  · rw [← r10 p h8]; exact ((s.2.2 p h8).1 (by rw [r3]; omega)).2 hc
  · have t := (s.2.2 p (by omega)).2 (by rw [r3]; omega) hc
    rw [← r8 p (by omega), ← r5 p hp]
    exact t
set_option maxRecDepth 100000 in
theorem SX_of_RN {h : zH} {σ : hSt} (hR : RC h 4 18 σ) (hW : WF σ) (n : RN h σ) (z : WZ σ) (eS : kdS → h.2.1 18 12 = h.2.1 85 12) (eR : kdR → h.2.1 18 10 = h.2.1 85 5) : SX h 4 18 85 0 := by
  obtain ⟨⟨r1, r2, r3⟩, r4, r5, r6, r7, r8, r9, r10⟩ := hR
  have w3 := hW.2.2.1
  refine ⟨fun c k m q hc => ?_, fun hk r hr h0 => ?_, fun q hq => ⟨fun h2 => ⟨fun hk => ?_, fun hk => ?_⟩, fun h2 hk => ?_⟩⟩
  · rw [Nat.zero_add]
    rcases q with ⟨x0, x1, x2, x3⟩ | ⟨x0, x1, x2, x3⟩ | ⟨x0, x1, x2, x3⟩ | ⟨x0, x1, x2, x3⟩ | ⟨x0, x1, x2, x3⟩ | ⟨x0, x1, x2, x3⟩
    · subst x1; subst x3; exact Int32.toInt_inj.mp ((r7 k x2).trans (n.1 x0 k x2).symm)
    · subst x1; subst x3; exact Int32.toInt_inj.mp ((r8 k x2).trans ((n.2 k x2).1 x0).symm)
    · subst x1; subst x3
      have hs : k < sP σ := by have := hc rfl; rw [r3] at this; omega
      exact Int32.toInt_inj.mp ((r9 k hs).trans ((n.2 k x2).2.1 x0 hs).symm)
    · subst x1; subst x3; exact Int32.toInt_inj.mp ((r10 k x2).trans ((n.2 k x2).2.2 x0).symm)
    · subst x1; subst x2; subst x3; exact eS x0
    · subst x1; subst x2; subst x3; exact eR x0
  · rw [r7 r hr]; exact z.1 hk r (by rw [r1] at h0; omega) hr
  · rw [r8 q hq]; exact (z.2.1 q (by rw [r3] at h2; omega) hq).1 hk
  · rw [r10 q hq]; exact (z.2.1 q (by rw [r3] at h2; omega) hq).2 hk
  · have hs : q < sP σ := by rw [r3] at h2; omega
    rw [r8 q hq, r5 q hs]
    exact z.2.2 q hs hk
set_option maxRecDepth 100000 in
theorem QX_c {h h' : zH} (e : ∀ c, (c ≠ 1 ∧ c ≠ 2 ∧ c ≠ 84 ∧ c ≠ 90 ∧ c ≠ 91) → ∀ k, h'.2.1 c k = h.2.1 c k) (q : QX h) : QX h' := ⟨SX_f (e 4 (by decide) 0) (e 4 (by decide) 2) (fun k _ _ => e 8 (by decide) k) (fun c k m hq => e _ (by have := (qk_g hq).2.2; omega) k) (fun _ _ _ _ => e 85 (by decide) _) q.1, QI_f (e 30 (by decide) 4) (e 31 (by decide) 0) (e 31 (by decide) 2) (fun k _ _ => e 35 (by decide) k) (fun c k m hq => e _ (by have := (qk_g hq).2.2; omega) k) (fun k => e 86 (by decide) k) q.2.1, QP_f (e 4 (by decide) 0) (e 4 (by decide) 2) (fun k _ _ => e 8 (by decide) k) (e 27 (by decide) 2) (e 27 (by decide) 3) (fun r hr c hc k => e _ (by omega) k) (fun k => e 89 (by decide) k) q.2.2⟩
set_option maxRecDepth 100000 in
theorem bPR_z {E : zE} {e0 : Int × Int} {f : Option bV} {c k : Nat} {p : bPo} {v : Option Value} {h' : zH} (hm : p ∈ [(([e0, (0, 0)], [], f, [(c, k, (0, [(1, 1)]))]) : bPo)]) (hc : Nat.blt c 900 = true) (hb : bPR E [] p v h') : (h'.2.1 c k).toInt = 0 := by
  cases hm with
  | tail _ hm => exact absurd hm List.not_mem_nil
  | head =>
    obtain ⟨U, u1, u2, u3, u4⟩ := hb
    obtain ⟨a, z1, z2, z3⟩ := u1.2 1 0 0 rfl
    have key := bpv_v u4 (c := c) (k := k) (i := 1) hc (List.Mem.head _)
    match U, z1, key with
    | [], z1, _ => exact nomatch (show (none : Option Int) = some a from z1)
    | [w], z1, _ => exact nomatch (show (none : Option Int) = some a from z1)
    | w :: x :: U, z1, key =>
      have z1 : x = a := Option.some.inj z1
      have key : (h'.2.1 c k).toInt = x := key
      omega
def FrT (h h' : zH) : Prop := (∀ k, h'.2.1 2 k = h.2.1 2 k) ∧ (∀ k, h'.2.1 90 k = h.2.1 90 k) ∧ h'.2.1 1 1 = h.2.1 1 1 ∧ h'.2.1 84 9 = h.2.1 84 9 ∧ h'.2.1 30 4 = h.2.1 30 4 ∧ h'.2.1 84 6 = h.2.1 84 6
set_option maxRecDepth 100000 in
theorem FrT_w {W : Nat} {h h' : zH} (hW : wF W lT = true) (f : Fr W h h') : FrT h h' := ⟨fun k => f 2 k (wF_m hW 2 0 (by decide)), fun k => f 90 k (wF_m hW 90 0 (by decide)), f 1 1 (wF_m hW 1 1 (by decide)), f 84 9 (wF_m hW 84 9 (by decide)), f 30 4 (wF_m hW 30 4 (by decide)), f 84 6 (wF_m hW 84 6 (by decide))⟩
set_option maxRecDepth 100000 in
theorem FrT_t {a b c : zH} (x : FrT a b) (y : FrT b c) : FrT a c := ⟨fun k => (y.1 k).trans (x.1 k), fun k => (y.2.1 k).trans (x.2.1 k), y.2.2.1.trans x.2.2.1, y.2.2.2.1.trans x.2.2.2.1, y.2.2.2.2.1.trans x.2.2.2.2.1, y.2.2.2.2.2.trans x.2.2.2.2.2⟩
set_option maxRecDepth 100000 in
theorem LI_f {h h' : zH} {L im : Nat} (hI : bHI h') (hP : bPS h') (hT : bTB ctb h'.1) (f : FrT h h') (l : LI h L im) : LI h' L im := by
  obtain ⟨-, -, -, ⟨p1, p2, p3, p4⟩, p5, p6, p7, p8⟩ := l
  have t2 : tp2 h' = tp2 h := tp2_e fun i => f.1 i
  have t9 : tp90 h' = tp90 h := tp90_e fun i => f.2.1 i
  exact ⟨hI, hP, hT, ⟨by rw [f.2.2.1]; exact p1, by rw [f.2.2.2.1]; exact p2, by rw [f.2.2.2.2.1]; exact p3, by rw [f.2.2.2.2.2]; exact p4⟩, p5, p6, by rw [t2]; exact p7, by rw [t2, t9]; exact p8⟩
set_option maxRecDepth 100000 in
theorem LI_u {h h2 : zH} {L im : Nat} (hI : bHI h2) (hP : bPS h2) (hT : bTB ctb h2.1) (a2 : ∀ k, h2.2.1 2 k = h.2.1 2 k) (a90 : ∀ k, h2.2.1 90 k = h.2.1 90 k) (z1 : (h2.2.1 1 1).toInt = 0) (z9 : (h2.2.1 84 9).toInt = 0) (a3 : h2.2.1 30 4 = h.2.1 30 4) (a4 : h2.2.1 84 6 = h.2.1 84 6) (l : LI h L im) : LI h2 0 im := by
  obtain ⟨-, -, -, ⟨p1, p2, p3, p4⟩, p5, p6, p7, p8⟩ := l
  have t2 : tp2 h2 = tp2 h := tp2_e fun i => a2 i
  have t9 : tp90 h2 = tp90 h := tp90_e fun i => a90 i
  exact ⟨hI, hP, hT, ⟨z1, z9, by rw [a3]; exact p3, by rw [a4]; exact p4⟩, Nat.zero_le _, p6, by rw [t2]; exact p7, by rw [t2, t9]; exact p8⟩
def opS (E : zE) (d : Nat) (iv : Int32) (f : Nat) (h : zH) (o : Option zR) : Prop := ∃ (h2 : zH) (v5 v6 : Option Value) (f9 L' im' : Nat), f ≤ f9 ∧ o = zex E f9 d 0 23 (t5K (iv + 6) v5 v6) [] h2 ∧ LX h2 L' im' ∧ h2.2.2.2.1 ≤ h.2.2.2.1 + 24 ∧ h2.2.2.2.2 ≤ h.2.2.2.2 + 2400
set_option maxRecDepth 100000 in
theorem AI_7 {h h' : zH} (z : (h'.2.1 84 7).toInt = 0 ∨ h'.2.1 84 7 = h.2.1 84 7) (r89 : ∀ k, h'.2.1 89 k = h.2.1 89 k) (r : ∀ k, plk k → h'.2.1 85 k = h.2.1 85 k) (a : AI h) : AI h' := by
  rcases z with z | z
  · intro b hb; rw [z] at hb; omega
  · exact AI_f ⟨r89, z⟩ r a
section OP
variable {E : zE} {B : Nat} {h : zH} {L im : Nat}
set_option maxRecDepth 100000 in
theorem op_trial (hE : E.1 ≤ 3072) (hsm : bSO E ctb B (60, smT)) (hX : LX h L im) {iv : Int32} {I : Nat} (hiv : iv.toInt = (I : Int)) (hI6 : I + 6 ≤ E.1) {u5 u6 : Option Value} : ∀ d f, 100 ≤ d → B + 6000000 ≤ f → opS E d iv f h (zex E (f + 100) d 0 875 (t5K iv u5 u6) [] h) := by
  intro d f hd hf
  obtain ⟨d', hd'⟩ : ∃ d', d = d' + 1 := ⟨d - 1, by omega⟩
  subst hd'
  obtain ⟨hL9, pX, pE⟩ := id hX
  obtain ⟨gI, gP, gT, q4⟩ := id hL9
  have w1 := bi32 (E.2 (I + 1))
  have w2 := bi32 (E.2 (I + 2))
  obtain ⟨v1, h1, c1, c2, ⟨c3, c4⟩, c5, c6, c7, p1, m1, b1⟩ := hsm 15 [sc14] rfl sc14 (List.Mem.head _) (by decide) [(E.2 (I + 1)).toInt, (E.2 (I + 2)).toInt] [.ref 0, .int (E.2 (I + 1)), .int (E.2 (I + 2)), .ref 94] h d' (f + 87) (4, 5, 1, 99, 1, 1) rfl (by show 7 ≤ d'; omega) (by omega) ⟨rfl, ⟨_, rfl, brel_v rfl⟩, ⟨_, rfl, brel_v rfl⟩, rfl, trivial⟩ (benv_c w1.1 w1.2 (benv_c w2.1 w2.2 benv_n)) bcs_n (fun e he => absurd he List.not_mem_nil) gI gP gT
  obtain ⟨x, hx⟩ := bPR_i m1 (by decide) b1
  subst hx
  have c1 : zex E (f + 87) d' 15 0 [some (.ref 0), some (.int (E.2 (I + 1))), some (.int (E.2 (I + 2))), some (.ref 94), none] [] h = some (.inl (some (.int x)), h1) := c1
  obtain ⟨v2, h2, g1, g2, ⟨g3, g4⟩, g5, g6, g7, p2, m2, b2⟩ := hsm 299 [sc379] rfl sc379 (List.Mem.head _) (by decide) [(E.2 (I + 1)).toInt, (E.2 (I + 2)).toInt] [.ref 84, .int (E.2 (I + 1)), .int (E.2 (I + 2))] h1 d' (f + 74) (3, 4, 0, 12, 1, 0) rfl (by show 8 ≤ d'; omega) (by omega) ⟨rfl, ⟨_, rfl, brel_v rfl⟩, ⟨_, rfl, brel_v rfl⟩, trivial⟩ (benv_c w1.1 w1.2 (benv_c w2.1 w2.2 benv_n)) bcs_n (fun e he => absurd he List.not_mem_nil) c2 c3 c4
  obtain ⟨y, hy⟩ := bPR_i m2 (by decide) b2
  subst hy
  have g1 : zex E (f + 74) d' 299 0 [some (.ref 84), some (.int (E.2 (I + 1))), some (.int (E.2 (I + 2))), none] [] h1 = some (.inl (some (.int y)), h2) := g1
  have e := tp_trial (E := E) (n := f + 70) (d := d') (I := I) (i := iv) (u5 := u5) (u6 := u6) (fun k hk => baddk hiv (by omega) (by omega)) hI6 (c4 84 _ cs84 (by intro z; cases z)) c1 g1
  have T9 := trial_T (E := E) c4 (show 299 ∈ fOps by decide) g1
  have c8 : h1.2.2.2.1 ≤ h.2.2.2.1 + 1 := c6
  have c9 : h1.2.2.2.2 ≤ h.2.2.2.2 + 6 := c7
  have g8 : h2.2.2.2.1 ≤ h1.2.2.2.1 + 0 := g6
  have g9 : h2.2.2.2.2 ≤ h1.2.2.2.2 + 0 := g7
  exact ⟨h2, _, _, f + 70, L, im, by omega, e, ⟨LI_f g2 g3 g4 (FrT_t (FrT_w (by decide +kernel : wF sc14.2.1 lT = true) c5) (FrT_w (by decide +kernel : wF sc379.2.1 lT = true) g5)) hL9, PX_f (FrP_t (FrP_w (by decide +kernel : wF sc14.2.1 lP = true) c5) (FrP_C (FrC_w (by decide +kernel : wF sc379.2.1 lC = true) g5) (fun k hk => T9 k hk.1))) (FrA_t (FrA_w (by decide +kernel : wF sc14.2.1 lA = true) c5) (FrA_w (by decide +kernel : wF sc379.2.1 lA = true) g5)) (FrI_t (FrI_w (by decide +kernel : wF sc14.2.1 lI = true) c5) (FrI_w (by decide +kernel : wF sc379.2.1 lI = true) g5)) pX, EX_z g1 g3 (by decide +kernel : wF sc379.2.1 lE = true) (by decide +kernel : wF sc379.2.1 lPa = true) g5 (fun c k m hq => T9 m (qk_g hq).2.1) (EX_z c1 c3 (by decide +kernel : wF sc14.2.1 lE = true) (by decide +kernel : wF sc14.2.1 lPa = true) c5 (Q85_w (by decide +kernel : wF sc14.2.1 l85 = true) c5) pE)⟩, by omega, by omega⟩
set_option maxRecDepth 100000 in
theorem op_worth (hE : E.1 ≤ 3072) (hsm : bSO E ctb B (60, smT)) (hX : LX h L im) {iv : Int32} {I : Nat} (hiv : iv.toInt = (I : Int)) (hI6 : I + 6 ≤ E.1) {u5 u6 : Option Value} : ∀ d f, 100 ≤ d → B + 6000000 ≤ f → opS E d iv f h (zex E (f + 100) d 0 915 (t5K iv u5 u6) [] h) := by
  intro d f hd hf
  obtain ⟨d', hd'⟩ : ∃ d', d = d' + 1 := ⟨d - 1, by omega⟩
  subst hd'
  obtain ⟨hL9, pX, pE⟩ := id hX
  obtain ⟨gI, gP, gT, q4⟩ := id hL9
  have w1 := bi32 (E.2 (I + 1))
  have w2 := bi32 (E.2 (I + 2))
  have w3 := bi32 (E.2 (I + 3))
  obtain ⟨v1, h1, c1, c2, ⟨c3, c4⟩, c5, c6, c7, p1, m1, b1⟩ := hsm 16 [sc15] rfl sc15 (List.Mem.head _) (by decide) [(E.2 (I + 1)).toInt, (E.2 (I + 2)).toInt, (E.2 (I + 3)).toInt] [.ref 0, .int (E.2 (I + 1)), .int (E.2 (I + 2)), .int (E.2 (I + 3)), .ref 94] h d' (f + 82) (5, 6, 1, 99, 1, 1) rfl (by show 7 ≤ d'; omega) (by omega) ⟨rfl, ⟨_, rfl, brel_v rfl⟩, ⟨_, rfl, brel_v rfl⟩, ⟨_, rfl, brel_v rfl⟩, rfl, trivial⟩ (benv_c w1.1 w1.2 (benv_c w2.1 w2.2 (benv_c w3.1 w3.2 benv_n))) bcs_n (fun e he => absurd he List.not_mem_nil) gI gP gT
  obtain ⟨x, hx⟩ := bPR_i m1 (by decide) b1
  subst hx
  have c1 : zex E (f + 82) d' 16 0 [some (.ref 0), some (.int (E.2 (I + 1))), some (.int (E.2 (I + 2))), some (.int (E.2 (I + 3))), some (.ref 94), none] [] h = some (.inl (some (.int x)), h1) := c1
  obtain ⟨v2, h2, g1, g2, ⟨g3, g4⟩, g5, g6, g7, p2, m2, b2⟩ := hsm 301 [sc380] rfl sc380 (List.Mem.head _) (by decide) [(E.2 (I + 1)).toInt, (E.2 (I + 2)).toInt, (E.2 (I + 3)).toInt] [.ref 84, .int (E.2 (I + 1)), .int (E.2 (I + 2)), .int (E.2 (I + 3))] h1 d' (f + 64) (4, 5, 0, 12, 1, 0) rfl (by show 9 ≤ d'; omega) (by omega) ⟨rfl, ⟨_, rfl, brel_v rfl⟩, ⟨_, rfl, brel_v rfl⟩, ⟨_, rfl, brel_v rfl⟩, trivial⟩ (benv_c w1.1 w1.2 (benv_c w2.1 w2.2 (benv_c w3.1 w3.2 benv_n))) bcs_n (fun e he => absurd he List.not_mem_nil) c2 c3 c4
  obtain ⟨y, hy⟩ := bPR_i m2 (by decide) b2
  subst hy
  have g1 : zex E (f + 64) d' 301 0 [some (.ref 84), some (.int (E.2 (I + 1))), some (.int (E.2 (I + 2))), some (.int (E.2 (I + 3))), none] [] h1 = some (.inl (some (.int y)), h2) := g1
  have e := tp_worth (E := E) (n := f + 60) (d := d') (I := I) (i := iv) (u5 := u5) (u6 := u6) (fun k hk => baddk hiv (by omega) (by omega)) hI6 (c4 84 _ cs84 (by intro z; cases z)) c1 g1
  have T9 := trial_T (E := E) c4 (show 301 ∈ fOps by decide) g1
  have c8 : h1.2.2.2.1 ≤ h.2.2.2.1 + 1 := c6
  have c9 : h1.2.2.2.2 ≤ h.2.2.2.2 + 6 := c7
  have g8 : h2.2.2.2.1 ≤ h1.2.2.2.1 + 0 := g6
  have g9 : h2.2.2.2.2 ≤ h1.2.2.2.2 + 0 := g7
  exact ⟨h2, _, _, f + 60, L, im, by omega, e, ⟨LI_f g2 g3 g4 (FrT_t (FrT_w (by decide +kernel : wF sc15.2.1 lT = true) c5) (FrT_w (by decide +kernel : wF sc380.2.1 lT = true) g5)) hL9, PX_f (FrP_t (FrP_w (by decide +kernel : wF sc15.2.1 lP = true) c5) (FrP_C (FrC_w (by decide +kernel : wF sc380.2.1 lC = true) g5) (fun k hk => T9 k hk.1))) (FrA_t (FrA_w (by decide +kernel : wF sc15.2.1 lA = true) c5) (FrA_w (by decide +kernel : wF sc380.2.1 lA = true) g5)) (FrI_t (FrI_w (by decide +kernel : wF sc15.2.1 lI = true) c5) (FrI_w (by decide +kernel : wF sc380.2.1 lI = true) g5)) pX, EX_z g1 g3 (by decide +kernel : wF sc380.2.1 lE = true) (by decide +kernel : wF sc380.2.1 lPa = true) g5 (fun c k m hq => T9 m (qk_g hq).2.1) (EX_z c1 c3 (by decide +kernel : wF sc15.2.1 lE = true) (by decide +kernel : wF sc15.2.1 lPa = true) c5 (Q85_w (by decide +kernel : wF sc15.2.1 l85 = true) c5) pE)⟩, by omega, by omega⟩
set_option maxRecDepth 100000 in
theorem op_stand (hE : E.1 ≤ 3072) (hsm : bSO E ctb B (60, smT)) (hX : LX h L im) {iv : Int32} {I : Nat} (hiv : iv.toInt = (I : Int)) (hI6 : I + 6 ≤ E.1) {u5 u6 : Option Value} : ∀ d f, 100 ≤ d → B + 6000000 ≤ f → opS E d iv f h (zex E (f + 100) d 0 967 (t5K iv u5 u6) [] h) := by
  intro d f hd hf
  obtain ⟨d', hd'⟩ : ∃ d', d = d' + 1 := ⟨d - 1, by omega⟩
  subst hd'
  obtain ⟨hL9, pX, pE⟩ := id hX
  obtain ⟨gI, gP, gT, q4⟩ := id hL9
  have w1 := bi32 (E.2 (I + 1))
  have w2 := bi32 (E.2 (I + 2))
  by_cases hb : (E.2 (I + 3)).toInt = 0
  · skip
    obtain ⟨v1, h1, c1, c2, ⟨c3, c4⟩, c5, c6, c7, p1, m1, b1⟩ := hsm 17 [sc16] rfl sc16 (List.Mem.head _) (by decide) [(E.2 (I + 1)).toInt, (E.2 (I + 2)).toInt, (0 : Int32).toInt] [.ref 0, .int (E.2 (I + 1)), .int (E.2 (I + 2)), .int 0, .ref 94] h d' (f + 80) (5, 6, 1, 99, 1, 1) rfl (by show 7 ≤ d'; omega) (by omega) ⟨rfl, ⟨_, rfl, brel_v rfl⟩, ⟨_, rfl, brel_v rfl⟩, ⟨_, rfl, brel_v rfl⟩, rfl, trivial⟩ (benv_c w1.1 w1.2 (benv_c w2.1 w2.2 (benv_c (by decide) (by decide) benv_n))) bcs_n (fun e he => absurd he List.not_mem_nil) gI gP gT
    obtain ⟨x, hx⟩ := bPR_i m1 (by decide) b1
    subst hx
    have c1 : zex E (f + 80) d' 17 0 [some (.ref 0), some (.int (E.2 (I + 1))), some (.int (E.2 (I + 2))), some (.int 0), some (.ref 94), none] [] h = some (.inl (some (.int x)), h1) := c1
    obtain ⟨v2, h2, g1, g2, ⟨g3, g4⟩, g5, g6, g7, p2, m2, b2⟩ := hsm 303 [sc381] rfl sc381 (List.Mem.head _) (by decide) [(E.2 (I + 1)).toInt, (E.2 (I + 2)).toInt, (0 : Int32).toInt] [.ref 84, .int (E.2 (I + 1)), .int (E.2 (I + 2)), .int 0] h1 d' (f + 60) (4, 8, 0, 12, 1, 0) rfl (by show 9 ≤ d'; omega) (by omega) ⟨rfl, ⟨_, rfl, brel_v rfl⟩, ⟨_, rfl, brel_v rfl⟩, ⟨_, rfl, brel_v rfl⟩, trivial⟩ (benv_c w1.1 w1.2 (benv_c w2.1 w2.2 (benv_c (by decide) (by decide) benv_n))) bcs_n (fun e he => absurd he List.not_mem_nil) c2 c3 c4
    obtain ⟨y, hy⟩ := bPR_i m2 (by decide) b2
    subst hy
    have g1 : zex E (f + 60) d' 303 0 [some (.ref 84), some (.int (E.2 (I + 1))), some (.int (E.2 (I + 2))), some (.int 0), none, none, none, none] [] h1 = some (.inl (some (.int y)), h2) := g1
    have e := tp_stand0 (E := E) (n := f + 56) (d := d') (I := I) (i := iv) (u5 := u5) (u6 := u6) (fun k hk => baddk hiv (by omega) (by omega)) hI6 hb (c4 84 _ cs84 (by intro z; cases z)) c1 g1
    have T9 := trial_T (E := E) c4 (show 303 ∈ fOps by decide) g1
    have c8 : h1.2.2.2.1 ≤ h.2.2.2.1 + 1 := c6
    have c9 : h1.2.2.2.2 ≤ h.2.2.2.2 + 6 := c7
    have g8 : h2.2.2.2.1 ≤ h1.2.2.2.1 + 0 := g6
    have g9 : h2.2.2.2.2 ≤ h1.2.2.2.2 + 0 := g7
    exact ⟨h2, _, _, f + 56, L, im, by omega, e, ⟨LI_f g2 g3 g4 (FrT_t (FrT_w (by decide +kernel : wF sc16.2.1 lT = true) c5) (FrT_w (by decide +kernel : wF sc381.2.1 lT = true) g5)) hL9, PX_f (FrP_t (FrP_w (by decide +kernel : wF sc16.2.1 lP = true) c5) (FrP_C (FrC_w (by decide +kernel : wF sc381.2.1 lC = true) g5) (fun k hk => T9 k hk.1))) (FrA_t (FrA_w (by decide +kernel : wF sc16.2.1 lA = true) c5) (FrA_w (by decide +kernel : wF sc381.2.1 lA = true) g5)) (FrI_t (FrI_w (by decide +kernel : wF sc16.2.1 lI = true) c5) (FrI_w (by decide +kernel : wF sc381.2.1 lI = true) g5)) pX, EX_z g1 g3 (by decide +kernel : wF sc381.2.1 lE = true) (by decide +kernel : wF sc381.2.1 lPa = true) g5 (fun c k m hq => T9 m (qk_g hq).2.1) (EX_z c1 c3 (by decide +kernel : wF sc16.2.1 lE = true) (by decide +kernel : wF sc16.2.1 lPa = true) c5 (Q85_w (by decide +kernel : wF sc16.2.1 l85 = true) c5) pE)⟩, by omega, by omega⟩
  · skip
    obtain ⟨v1, h1, c1, c2, ⟨c3, c4⟩, c5, c6, c7, p1, m1, b1⟩ := hsm 17 [sc16] rfl sc16 (List.Mem.head _) (by decide) [(E.2 (I + 1)).toInt, (E.2 (I + 2)).toInt, (1 : Int32).toInt] [.ref 0, .int (E.2 (I + 1)), .int (E.2 (I + 2)), .int 1, .ref 94] h d' (f + 79) (5, 6, 1, 99, 1, 1) rfl (by show 7 ≤ d'; omega) (by omega) ⟨rfl, ⟨_, rfl, brel_v rfl⟩, ⟨_, rfl, brel_v rfl⟩, ⟨_, rfl, brel_v rfl⟩, rfl, trivial⟩ (benv_c w1.1 w1.2 (benv_c w2.1 w2.2 (benv_c (by decide) (by decide) benv_n))) bcs_n (fun e he => absurd he List.not_mem_nil) gI gP gT
    obtain ⟨x, hx⟩ := bPR_i m1 (by decide) b1
    subst hx
    have c1 : zex E (f + 79) d' 17 0 [some (.ref 0), some (.int (E.2 (I + 1))), some (.int (E.2 (I + 2))), some (.int 1), some (.ref 94), none] [] h = some (.inl (some (.int x)), h1) := c1
    obtain ⟨v2, h2, g1, g2, ⟨g3, g4⟩, g5, g6, g7, p2, m2, b2⟩ := hsm 303 [sc381] rfl sc381 (List.Mem.head _) (by decide) [(E.2 (I + 1)).toInt, (E.2 (I + 2)).toInt, (1 : Int32).toInt] [.ref 84, .int (E.2 (I + 1)), .int (E.2 (I + 2)), .int 1] h1 d' (f + 58) (4, 8, 0, 12, 1, 0) rfl (by show 9 ≤ d'; omega) (by omega) ⟨rfl, ⟨_, rfl, brel_v rfl⟩, ⟨_, rfl, brel_v rfl⟩, ⟨_, rfl, brel_v rfl⟩, trivial⟩ (benv_c w1.1 w1.2 (benv_c w2.1 w2.2 (benv_c (by decide) (by decide) benv_n))) bcs_n (fun e he => absurd he List.not_mem_nil) c2 c3 c4
    obtain ⟨y, hy⟩ := bPR_i m2 (by decide) b2
    subst hy
    have g1 : zex E (f + 58) d' 303 0 [some (.ref 84), some (.int (E.2 (I + 1))), some (.int (E.2 (I + 2))), some (.int 1), none, none, none, none] [] h1 = some (.inl (some (.int y)), h2) := g1
    have e := tp_stand1 (E := E) (n := f + 54) (d := d') (I := I) (i := iv) (u5 := u5) (u6 := u6) (fun k hk => baddk hiv (by omega) (by omega)) hI6 hb (c4 84 _ cs84 (by intro z; cases z)) c1 g1
    have T9 := trial_T (E := E) c4 (show 303 ∈ fOps by decide) g1
    have c8 : h1.2.2.2.1 ≤ h.2.2.2.1 + 1 := c6
    have c9 : h1.2.2.2.2 ≤ h.2.2.2.2 + 6 := c7
    have g8 : h2.2.2.2.1 ≤ h1.2.2.2.1 + 0 := g6
    have g9 : h2.2.2.2.2 ≤ h1.2.2.2.2 + 0 := g7
    exact ⟨h2, _, _, f + 54, L, im, by omega, e, ⟨LI_f g2 g3 g4 (FrT_t (FrT_w (by decide +kernel : wF sc16.2.1 lT = true) c5) (FrT_w (by decide +kernel : wF sc381.2.1 lT = true) g5)) hL9, PX_f (FrP_t (FrP_w (by decide +kernel : wF sc16.2.1 lP = true) c5) (FrP_C (FrC_w (by decide +kernel : wF sc381.2.1 lC = true) g5) (fun k hk => T9 k hk.1))) (FrA_t (FrA_w (by decide +kernel : wF sc16.2.1 lA = true) c5) (FrA_w (by decide +kernel : wF sc381.2.1 lA = true) g5)) (FrI_t (FrI_w (by decide +kernel : wF sc16.2.1 lI = true) c5) (FrI_w (by decide +kernel : wF sc381.2.1 lI = true) g5)) pX, EX_z g1 g3 (by decide +kernel : wF sc381.2.1 lE = true) (by decide +kernel : wF sc381.2.1 lPa = true) g5 (fun c k m hq => T9 m (qk_g hq).2.1) (EX_z c1 c3 (by decide +kernel : wF sc16.2.1 lE = true) (by decide +kernel : wF sc16.2.1 lPa = true) c5 (Q85_w (by decide +kernel : wF sc16.2.1 l85 = true) c5) pE)⟩, by omega, by omega⟩
set_option maxRecDepth 100000 in
theorem op_two (hE : E.1 ≤ 3072) (hsm : bSO E ctb B (60, smT)) (hX : LX h L im) {iv : Int32} {I : Nat} (hiv : iv.toInt = (I : Int)) (hI6 : I + 6 ≤ E.1) {u5 u6 : Option Value} : ∀ d f, 100 ≤ d → B + 6000000 ≤ f → opS E d iv f h (zex E (f + 100) d 0 1035 (t5K iv u5 u6) [] h) := by
  intro d f hd hf
  obtain ⟨d', hd'⟩ : ∃ d', d = d' + 1 := ⟨d - 1, by omega⟩
  subst hd'
  obtain ⟨hL9, pX, pE⟩ := id hX
  obtain ⟨gI, gP, gT, q4⟩ := id hL9
  have w1 := bi32 (E.2 (I + 1))
  have w2 := bi32 (E.2 (I + 2))
  obtain ⟨v1, h1, c1, c2, ⟨c3, c4⟩, c5, c6, c7, p1, m1, b1⟩ := hsm 18 [sc17] rfl sc17 (List.Mem.head _) (by decide) [(E.2 (I + 1)).toInt, (E.2 (I + 2)).toInt] [.ref 0, .int (E.2 (I + 1)), .int (E.2 (I + 2)), .ref 94] h d' (f + 87) (4, 5, 1, 99, 1, 1) rfl (by show 7 ≤ d'; omega) (by omega) ⟨rfl, ⟨_, rfl, brel_v rfl⟩, ⟨_, rfl, brel_v rfl⟩, rfl, trivial⟩ (benv_c w1.1 w1.2 (benv_c w2.1 w2.2 benv_n)) bcs_n (fun e he => absurd he List.not_mem_nil) gI gP gT
  obtain ⟨x, hx⟩ := bPR_i m1 (by decide) b1
  subst hx
  have c1 : zex E (f + 87) d' 18 0 [some (.ref 0), some (.int (E.2 (I + 1))), some (.int (E.2 (I + 2))), some (.ref 94), none] [] h = some (.inl (some (.int x)), h1) := c1
  obtain ⟨v2, h2, g1, g2, ⟨g3, g4⟩, g5, g6, g7, p2, m2, b2⟩ := hsm 304 [sc382] rfl sc382 (List.Mem.head _) (by decide) [(E.2 (I + 1)).toInt, (E.2 (I + 2)).toInt] [.ref 84, .int (E.2 (I + 1)), .int (E.2 (I + 2))] h1 d' (f + 74) (3, 8, 0, 12, 1, 0) rfl (by show 9 ≤ d'; omega) (by omega) ⟨rfl, ⟨_, rfl, brel_v rfl⟩, ⟨_, rfl, brel_v rfl⟩, trivial⟩ (benv_c w1.1 w1.2 (benv_c w2.1 w2.2 benv_n)) bcs_n (fun e he => absurd he List.not_mem_nil) c2 c3 c4
  obtain ⟨y, hy⟩ := bPR_i m2 (by decide) b2
  subst hy
  have g1 : zex E (f + 74) d' 304 0 [some (.ref 84), some (.int (E.2 (I + 1))), some (.int (E.2 (I + 2))), none, none, none, none, none] [] h1 = some (.inl (some (.int y)), h2) := g1
  have e := tp_two (E := E) (n := f + 70) (d := d') (I := I) (i := iv) (u5 := u5) (u6 := u6) (fun k hk => baddk hiv (by omega) (by omega)) hI6 (c4 84 _ cs84 (by intro z; cases z)) c1 g1
  have T9 := trial_T (E := E) c4 (show 304 ∈ fOps by decide) g1
  have c8 : h1.2.2.2.1 ≤ h.2.2.2.1 + 1 := c6
  have c9 : h1.2.2.2.2 ≤ h.2.2.2.2 + 6 := c7
  have g8 : h2.2.2.2.1 ≤ h1.2.2.2.1 + 0 := g6
  have g9 : h2.2.2.2.2 ≤ h1.2.2.2.2 + 0 := g7
  exact ⟨h2, _, _, f + 70, L, im, by omega, e, ⟨LI_f g2 g3 g4 (FrT_t (FrT_w (by decide +kernel : wF sc17.2.1 lT = true) c5) (FrT_w (by decide +kernel : wF sc382.2.1 lT = true) g5)) hL9, PX_f (FrP_t (FrP_w (by decide +kernel : wF sc17.2.1 lP = true) c5) (FrP_C (FrC_w (by decide +kernel : wF sc382.2.1 lC = true) g5) (fun k hk => T9 k hk.1))) (FrA_t (FrA_w (by decide +kernel : wF sc17.2.1 lA = true) c5) (FrA_w (by decide +kernel : wF sc382.2.1 lA = true) g5)) (FrI_t (FrI_w (by decide +kernel : wF sc17.2.1 lI = true) c5) (FrI_w (by decide +kernel : wF sc382.2.1 lI = true) g5)) pX, EX_z g1 g3 (by decide +kernel : wF sc382.2.1 lE = true) (by decide +kernel : wF sc382.2.1 lPa = true) g5 (fun c k m hq => T9 m (qk_g hq).2.1) (EX_z c1 c3 (by decide +kernel : wF sc17.2.1 lE = true) (by decide +kernel : wF sc17.2.1 lPa = true) c5 (Q85_w (by decide +kernel : wF sc17.2.1 l85 = true) c5) pE)⟩, by omega, by omega⟩
set_option maxRecDepth 100000 in
theorem op_keepers (hE : E.1 ≤ 3072) (hsm : bSO E ctb B (60, smT)) (hX : LX h L im) {iv : Int32} {I : Nat} (hiv : iv.toInt = (I : Int)) (hI6 : I + 6 ≤ E.1) {u5 u6 : Option Value} : ∀ d f, 100 ≤ d → B + 6000000 ≤ f → opS E d iv f h (zex E (f + 100) d 0 1075 (t5K iv u5 u6) [] h) := by
  intro d f hd hf
  obtain ⟨d', hd'⟩ : ∃ d', d = d' + 1 := ⟨d - 1, by omega⟩
  subst hd'
  obtain ⟨hL9, pX, pE⟩ := id hX
  obtain ⟨gI, gP, gT, q4⟩ := id hL9
  have w1 := bi32 (E.2 (I + 1))
  have w2 := bi32 (E.2 (I + 2))
  obtain ⟨v1, h1, c1, c2, ⟨c3, c4⟩, c5, c6, c7, p1, m1, b1⟩ := hsm 19 [sc18] rfl sc18 (List.Mem.head _) (by decide) [(E.2 (I + 1)).toInt, (E.2 (I + 2)).toInt] [.ref 0, .int (E.2 (I + 1)), .int (E.2 (I + 2)), .ref 94] h d' (f + 87) (4, 5, 1, 99, 1, 1) rfl (by show 7 ≤ d'; omega) (by omega) ⟨rfl, ⟨_, rfl, brel_v rfl⟩, ⟨_, rfl, brel_v rfl⟩, rfl, trivial⟩ (benv_c w1.1 w1.2 (benv_c w2.1 w2.2 benv_n)) bcs_n (fun e he => absurd he List.not_mem_nil) gI gP gT
  obtain ⟨x, hx⟩ := bPR_i m1 (by decide) b1
  subst hx
  have c1 : zex E (f + 87) d' 19 0 [some (.ref 0), some (.int (E.2 (I + 1))), some (.int (E.2 (I + 2))), some (.ref 94), none] [] h = some (.inl (some (.int x)), h1) := c1
  obtain ⟨v2, h2, g1, g2, ⟨g3, g4⟩, g5, g6, g7, p2, m2, b2⟩ := hsm 306 [sc383] rfl sc383 (List.Mem.head _) (by decide) [(E.2 (I + 1)).toInt, (E.2 (I + 2)).toInt] [.ref 84, .int (E.2 (I + 1)), .int (E.2 (I + 2))] h1 d' (f + 74) (3, 6, 0, 12, 1, 0) rfl (by show 9 ≤ d'; omega) (by omega) ⟨rfl, ⟨_, rfl, brel_v rfl⟩, ⟨_, rfl, brel_v rfl⟩, trivial⟩ (benv_c w1.1 w1.2 (benv_c w2.1 w2.2 benv_n)) bcs_n (fun e he => absurd he List.not_mem_nil) c2 c3 c4
  obtain ⟨y, hy⟩ := bPR_i m2 (by decide) b2
  subst hy
  have g1 : zex E (f + 74) d' 306 0 [some (.ref 84), some (.int (E.2 (I + 1))), some (.int (E.2 (I + 2))), none, none, none] [] h1 = some (.inl (some (.int y)), h2) := g1
  have e := tp_keepers (E := E) (n := f + 70) (d := d') (I := I) (i := iv) (u5 := u5) (u6 := u6) (fun k hk => baddk hiv (by omega) (by omega)) hI6 (c4 84 _ cs84 (by intro z; cases z)) c1 g1
  have T9 := trial_T (E := E) c4 (show 306 ∈ fOps by decide) g1
  have c8 : h1.2.2.2.1 ≤ h.2.2.2.1 + 1 := c6
  have c9 : h1.2.2.2.2 ≤ h.2.2.2.2 + 6 := c7
  have g8 : h2.2.2.2.1 ≤ h1.2.2.2.1 + 0 := g6
  have g9 : h2.2.2.2.2 ≤ h1.2.2.2.2 + 0 := g7
  exact ⟨h2, _, _, f + 70, L, im, by omega, e, ⟨LI_f g2 g3 g4 (FrT_t (FrT_w (by decide +kernel : wF sc18.2.1 lT = true) c5) (FrT_w (by decide +kernel : wF sc383.2.1 lT = true) g5)) hL9, PX_f (FrP_t (FrP_w (by decide +kernel : wF sc18.2.1 lP = true) c5) (FrP_C (FrC_w (by decide +kernel : wF sc383.2.1 lC = true) g5) (fun k hk => T9 k hk.1))) (FrA_t (FrA_w (by decide +kernel : wF sc18.2.1 lA = true) c5) (FrA_w (by decide +kernel : wF sc383.2.1 lA = true) g5)) (FrI_t (FrI_w (by decide +kernel : wF sc18.2.1 lI = true) c5) (FrI_w (by decide +kernel : wF sc383.2.1 lI = true) g5)) pX, EX_z g1 g3 (by decide +kernel : wF sc383.2.1 lE = true) (by decide +kernel : wF sc383.2.1 lPa = true) g5 (fun c k m hq => T9 m (qk_g hq).2.1) (EX_z c1 c3 (by decide +kernel : wF sc18.2.1 lE = true) (by decide +kernel : wF sc18.2.1 lPa = true) c5 (Q85_w (by decide +kernel : wF sc18.2.1 l85 = true) c5) pE)⟩, by omega, by omega⟩
set_option maxRecDepth 100000 in
theorem op_often (hE : E.1 ≤ 3072) (hsm : bSO E ctb B (60, smT)) (hX : LX h L im) {iv : Int32} {I : Nat} (hiv : iv.toInt = (I : Int)) (hI6 : I + 6 ≤ E.1) {u5 u6 : Option Value} : ∀ d f, 100 ≤ d → B + 6000000 ≤ f → opS E d iv f h (zex E (f + 100) d 0 1171 (t5K iv u5 u6) [] h) := by
  intro d f hd hf
  obtain ⟨d', hd'⟩ : ∃ d', d = d' + 1 := ⟨d - 1, by omega⟩
  subst hd'
  obtain ⟨hL9, pX, pE⟩ := id hX
  obtain ⟨gI, gP, gT, q4⟩ := id hL9
  have w1 := bi32 (E.2 (I + 1))
  have w2 := bi32 (E.2 (I + 2))
  obtain ⟨v1, h1, c1, c2, ⟨c3, c4⟩, c5, c6, c7, p1, m1, b1⟩ := hsm 21 [sc20] rfl sc20 (List.Mem.head _) (by decide) [(E.2 (I + 1)).toInt, (E.2 (I + 2)).toInt] [.ref 0, .int (E.2 (I + 1)), .int (E.2 (I + 2)), .ref 94] h d' (f + 87) (4, 5, 1, 99, 1, 1) rfl (by show 8 ≤ d'; omega) (by omega) ⟨rfl, ⟨_, rfl, brel_v rfl⟩, ⟨_, rfl, brel_v rfl⟩, rfl, trivial⟩ (benv_c w1.1 w1.2 (benv_c w2.1 w2.2 benv_n)) bcs_n (fun e he => absurd he List.not_mem_nil) gI gP gT
  obtain ⟨x, hx⟩ := bPR_i m1 (by decide) b1
  subst hx
  have c1 : zex E (f + 87) d' 21 0 [some (.ref 0), some (.int (E.2 (I + 1))), some (.int (E.2 (I + 2))), some (.ref 94), none] [] h = some (.inl (some (.int x)), h1) := c1
  obtain ⟨v2, h2, g1, g2, ⟨g3, g4⟩, g5, g6, g7, p2, m2, b2⟩ := hsm 310 [sc387] rfl sc387 (List.Mem.head _) (by decide) [(E.2 (I + 1)).toInt, (E.2 (I + 2)).toInt] [.ref 84, .int (E.2 (I + 1)), .int (E.2 (I + 2))] h1 d' (f + 74) (3, 4, 0, 12, 1, 0) rfl (by show 8 ≤ d'; omega) (by omega) ⟨rfl, ⟨_, rfl, brel_v rfl⟩, ⟨_, rfl, brel_v rfl⟩, trivial⟩ (benv_c w1.1 w1.2 (benv_c w2.1 w2.2 benv_n)) bcs_n (fun e he => absurd he List.not_mem_nil) c2 c3 c4
  obtain ⟨y, hy⟩ := bPR_i m2 (by decide) b2
  subst hy
  have g1 : zex E (f + 74) d' 310 0 [some (.ref 84), some (.int (E.2 (I + 1))), some (.int (E.2 (I + 2))), none] [] h1 = some (.inl (some (.int y)), h2) := g1
  have e := tp_often (E := E) (n := f + 70) (d := d') (I := I) (i := iv) (u5 := u5) (u6 := u6) (fun k hk => baddk hiv (by omega) (by omega)) hI6 (c4 84 _ cs84 (by intro z; cases z)) c1 g1
  have T9 := trial_T (E := E) c4 (show 310 ∈ fOps by decide) g1
  have c8 : h1.2.2.2.1 ≤ h.2.2.2.1 + 1 := c6
  have c9 : h1.2.2.2.2 ≤ h.2.2.2.2 + 6 := c7
  have g8 : h2.2.2.2.1 ≤ h1.2.2.2.1 + 0 := g6
  have g9 : h2.2.2.2.2 ≤ h1.2.2.2.2 + 0 := g7
  exact ⟨h2, _, _, f + 70, L, im, by omega, e, ⟨LI_f g2 g3 g4 (FrT_t (FrT_w (by decide +kernel : wF sc20.2.1 lT = true) c5) (FrT_w (by decide +kernel : wF sc387.2.1 lT = true) g5)) hL9, PX_f (FrP_t (FrP_w (by decide +kernel : wF sc20.2.1 lP = true) c5) (FrP_C (FrC_w (by decide +kernel : wF sc387.2.1 lC = true) g5) (fun k hk => T9 k hk.1))) (FrA_t (FrA_w (by decide +kernel : wF sc20.2.1 lA = true) c5) (FrA_w (by decide +kernel : wF sc387.2.1 lA = true) g5)) (FrI_t (FrI_w (by decide +kernel : wF sc20.2.1 lI = true) c5) (FrI_w (by decide +kernel : wF sc387.2.1 lI = true) g5)) pX, EX_z g1 g3 (by decide +kernel : wF sc387.2.1 lE = true) (by decide +kernel : wF sc387.2.1 lPa = true) g5 (fun c k m hq => T9 m (qk_g hq).2.1) (EX_z c1 c3 (by decide +kernel : wF sc20.2.1 lE = true) (by decide +kernel : wF sc20.2.1 lPa = true) c5 (Q85_w (by decide +kernel : wF sc20.2.1 l85 = true) c5) pE)⟩, by omega, by omega⟩
set_option maxRecDepth 100000 in
theorem op_when (hE : E.1 ≤ 3072) (hsm : bSO E ctb B (60, smT)) (hX : LX h L im) {iv : Int32} {I : Nat} (hiv : iv.toInt = (I : Int)) (hI6 : I + 6 ≤ E.1) {u5 u6 : Option Value} : ∀ d f, 100 ≤ d → B + 6000000 ≤ f → opS E d iv f h (zex E (f + 100) d 0 1211 (t5K iv u5 u6) [] h) := by
  intro d f hd hf
  obtain ⟨d', hd'⟩ : ∃ d', d = d' + 1 := ⟨d - 1, by omega⟩
  subst hd'
  obtain ⟨hL9, pX, pE⟩ := id hX
  obtain ⟨gI, gP, gT, q4⟩ := id hL9
  have w1 := bi32 (E.2 (I + 1))
  obtain ⟨v1, h1, c1, c2, ⟨c3, c4⟩, c5, c6, c7, p1, m1, b1⟩ := hsm 22 [sc21] rfl sc21 (List.Mem.head _) (by decide) [(E.2 (I + 1)).toInt] [.ref 0, .int (E.2 (I + 1)), .ref 94] h d' (f + 92) (3, 4, 1, 99, 1, 1) rfl (by show 6 ≤ d'; omega) (by omega) ⟨rfl, ⟨_, rfl, brel_v rfl⟩, rfl, trivial⟩ (benv_c w1.1 w1.2 benv_n) bcs_n (fun e he => absurd he List.not_mem_nil) gI gP gT
  obtain ⟨x, hx⟩ := bPR_i m1 (by decide) b1
  subst hx
  have c1 : zex E (f + 92) d' 22 0 [some (.ref 0), some (.int (E.2 (I + 1))), some (.ref 94), none] [] h = some (.inl (some (.int x)), h1) := c1
  obtain ⟨v2, h2, g1, g2, ⟨g3, g4⟩, g5, g6, g7, p2, m2, b2⟩ := hsm 311 [sc388] rfl sc388 (List.Mem.head _) (by decide) [(E.2 (I + 1)).toInt] [.ref 84, .int (E.2 (I + 1))] h1 d' (f + 84) (2, 3, 0, 12, 1, 0) rfl (by show 7 ≤ d'; omega) (by omega) ⟨rfl, ⟨_, rfl, brel_v rfl⟩, trivial⟩ (benv_c w1.1 w1.2 benv_n) bcs_n (fun e he => absurd he List.not_mem_nil) c2 c3 c4
  obtain ⟨y, hy⟩ := bPR_i m2 (by decide) b2
  subst hy
  have g1 : zex E (f + 84) d' 311 0 [some (.ref 84), some (.int (E.2 (I + 1))), none] [] h1 = some (.inl (some (.int y)), h2) := g1
  have e := tp_when (E := E) (n := f + 80) (d := d') (I := I) (i := iv) (u5 := u5) (u6 := u6) (fun k hk => baddk hiv (by omega) (by omega)) hI6 (c4 84 _ cs84 (by intro z; cases z)) c1 g1
  have T9 := trial_T (E := E) c4 (show 311 ∈ fOps by decide) g1
  have c8 : h1.2.2.2.1 ≤ h.2.2.2.1 + 1 := c6
  have c9 : h1.2.2.2.2 ≤ h.2.2.2.2 + 6 := c7
  have g8 : h2.2.2.2.1 ≤ h1.2.2.2.1 + 0 := g6
  have g9 : h2.2.2.2.2 ≤ h1.2.2.2.2 + 0 := g7
  exact ⟨h2, _, _, f + 80, L, im, by omega, e, ⟨LI_f g2 g3 g4 (FrT_t (FrT_w (by decide +kernel : wF sc21.2.1 lT = true) c5) (FrT_w (by decide +kernel : wF sc388.2.1 lT = true) g5)) hL9, PX_f (FrP_t (FrP_w (by decide +kernel : wF sc21.2.1 lP = true) c5) (FrP_C (FrC_w (by decide +kernel : wF sc388.2.1 lC = true) g5) (fun k hk => T9 k hk.1))) (FrA_t (FrA_w (by decide +kernel : wF sc21.2.1 lA = true) c5) (FrA_w (by decide +kernel : wF sc388.2.1 lA = true) g5)) (FrI_t (FrI_w (by decide +kernel : wF sc21.2.1 lI = true) c5) (FrI_w (by decide +kernel : wF sc388.2.1 lI = true) g5)) pX, EX_z g1 g3 (by decide +kernel : wF sc388.2.1 lE = true) (by decide +kernel : wF sc388.2.1 lPa = true) g5 (fun c k m hq => T9 m (qk_g hq).2.1) (EX_z c1 c3 (by decide +kernel : wF sc21.2.1 lE = true) (by decide +kernel : wF sc21.2.1 lPa = true) c5 (Q85_w (by decide +kernel : wF sc21.2.1 l85 = true) c5) pE)⟩, by omega, by omega⟩
set_option maxRecDepth 100000 in
theorem op_clogs (hE : E.1 ≤ 3072) (hsm : bSO E ctb B (60, smT)) (hX : LX h L im) {iv : Int32} {I : Nat} (hiv : iv.toInt = (I : Int)) (hI6 : I + 6 ≤ E.1) {u5 u6 : Option Value} : ∀ d f, 100 ≤ d → B + 6000000 ≤ f → opS E d iv f h (zex E (f + 100) d 0 1239 (t5K iv u5 u6) [] h) := by
  intro d f hd hf
  obtain ⟨d', hd'⟩ : ∃ d', d = d' + 1 := ⟨d - 1, by omega⟩
  subst hd'
  obtain ⟨hL9, pX, pE⟩ := id hX
  obtain ⟨gI, gP, gT, q4⟩ := id hL9
  obtain ⟨v1, h1, c1, c2, ⟨c3, c4⟩, c5, c6, c7, p1, m1, b1⟩ := hsm 64 [sc38] rfl sc38 (List.Mem.head _) (by decide) [] [.ref 0] h d' (f + 98) (1, 1, 0, 11, 1, 0) rfl (by show 5 ≤ d'; omega) (by omega) ⟨rfl, trivial⟩ benv_n bcs_n (fun e he => absurd he List.not_mem_nil) gI gP gT
  obtain ⟨x, hx⟩ := bPR_i m1 (by decide) b1
  subst hx
  have c1 : zex E (f + 98) d' 64 0 [some (.ref 0)] [] h = some (.inl (some (.int x)), h1) := c1
  obtain ⟨v2, h2, g1, g2, ⟨g3, g4⟩, g5, g6, g7, p2, m2, b2⟩ := hsm 312 [sc389] rfl sc389 (List.Mem.head _) (by decide) [] [.ref 84] h1 d' (f + 95) (1, 2, 0, 12, 1, 0) rfl (by show 7 ≤ d'; omega) (by omega) ⟨rfl, trivial⟩ benv_n bcs_n (fun e he => absurd he List.not_mem_nil) c2 c3 c4
  obtain ⟨y, hy⟩ := bPR_i m2 (by decide) b2
  subst hy
  have g1 : zex E (f + 95) d' 312 0 [some (.ref 84), none] [] h1 = some (.inl (some (.int y)), h2) := g1
  have e := tp_clogs (E := E) (n := f + 91) (d := d') (I := I) (i := iv) (u5 := u5) (u6 := u6) (fun k hk => baddk hiv (by omega) (by omega)) hI6 (gT 0 _ ks0 (by intro z; cases z)) (c4 84 _ cs84 (by intro z; cases z)) c1 g1
  have T9 := trial_T (E := E) c4 (show 312 ∈ fOps by decide) g1
  have c8 : h1.2.2.2.1 ≤ h.2.2.2.1 + 0 := c6
  have c9 : h1.2.2.2.2 ≤ h.2.2.2.2 + 0 := c7
  have g8 : h2.2.2.2.1 ≤ h1.2.2.2.1 + 0 := g6
  have g9 : h2.2.2.2.2 ≤ h1.2.2.2.2 + 0 := g7
  exact ⟨h2, _, _, f + 91, L, im, by omega, e, ⟨LI_f g2 g3 g4 (FrT_t (FrT_w (by decide +kernel : wF sc38.2.1 lT = true) c5) (FrT_w (by decide +kernel : wF sc389.2.1 lT = true) g5)) hL9, PX_f (FrP_t (FrP_w (by decide +kernel : wF sc38.2.1 lP = true) c5) (FrP_C (FrC_w (by decide +kernel : wF sc389.2.1 lC = true) g5) (fun k hk => T9 k hk.1))) (FrA_t (FrA_w (by decide +kernel : wF sc38.2.1 lA = true) c5) (FrA_w (by decide +kernel : wF sc389.2.1 lA = true) g5)) (FrI_t (FrI_w (by decide +kernel : wF sc38.2.1 lI = true) c5) (FrI_w (by decide +kernel : wF sc389.2.1 lI = true) g5)) pX, EX_z g1 g3 (by decide +kernel : wF sc389.2.1 lE = true) (by decide +kernel : wF sc389.2.1 lPa = true) g5 (fun c k m hq => T9 m (qk_g hq).2.1) (EX_z c1 c3 (by decide +kernel : wF sc38.2.1 lE = true) (by decide +kernel : wF sc38.2.1 lPa = true) c5 (Q85_w (by decide +kernel : wF sc38.2.1 l85 = true) c5) pE)⟩, by omega, by omega⟩
set_option maxRecDepth 100000 in
theorem op_fades (hE : E.1 ≤ 3072) (hsm : bSO E ctb B (60, smT)) (hX : LX h L im) {iv : Int32} {I : Nat} (hiv : iv.toInt = (I : Int)) (hI6 : I + 6 ≤ E.1) {u5 u6 : Option Value} : ∀ d f, 100 ≤ d → B + 6000000 ≤ f → opS E d iv f h (zex E (f + 100) d 0 1252 (t5K iv u5 u6) [] h) := by
  intro d f hd hf
  obtain ⟨d', hd'⟩ : ∃ d', d = d' + 1 := ⟨d - 1, by omega⟩
  subst hd'
  obtain ⟨hL9, pX, pE⟩ := id hX
  obtain ⟨gI, gP, gT, q4⟩ := id hL9
  have w1 := bi32 (E.2 (I + 1))
  obtain ⟨v1, h1, c1, c2, ⟨c3, c4⟩, c5, c6, c7, p1, m1, b1⟩ := hsm 23 [sc22] rfl sc22 (List.Mem.head _) (by decide) [(E.2 (I + 1)).toInt] [.ref 0, .int (E.2 (I + 1)), .ref 94] h d' (f + 92) (3, 4, 1, 99, 1, 1) rfl (by show 7 ≤ d'; omega) (by omega) ⟨rfl, ⟨_, rfl, brel_v rfl⟩, rfl, trivial⟩ (benv_c w1.1 w1.2 benv_n) bcs_n (fun e he => absurd he List.not_mem_nil) gI gP gT
  obtain ⟨x, hx⟩ := bPR_i m1 (by decide) b1
  subst hx
  have c1 : zex E (f + 92) d' 23 0 [some (.ref 0), some (.int (E.2 (I + 1))), some (.ref 94), none] [] h = some (.inl (some (.int x)), h1) := c1
  obtain ⟨v2, h2, g1, g2, ⟨g3, g4⟩, g5, g6, g7, p2, m2, b2⟩ := hsm 313 [sc390] rfl sc390 (List.Mem.head _) (by decide) [(E.2 (I + 1)).toInt] [.ref 84, .int (E.2 (I + 1))] h1 d' (f + 84) (2, 3, 0, 12, 1, 0) rfl (by show 7 ≤ d'; omega) (by omega) ⟨rfl, ⟨_, rfl, brel_v rfl⟩, trivial⟩ (benv_c w1.1 w1.2 benv_n) bcs_n (fun e he => absurd he List.not_mem_nil) c2 c3 c4
  obtain ⟨y, hy⟩ := bPR_i m2 (by decide) b2
  subst hy
  have g1 : zex E (f + 84) d' 313 0 [some (.ref 84), some (.int (E.2 (I + 1))), none] [] h1 = some (.inl (some (.int y)), h2) := g1
  have e := tp_fades (E := E) (n := f + 80) (d := d') (I := I) (i := iv) (u5 := u5) (u6 := u6) (fun k hk => baddk hiv (by omega) (by omega)) hI6 (c4 84 _ cs84 (by intro z; cases z)) c1 g1
  have T9 := trial_T (E := E) c4 (show 313 ∈ fOps by decide) g1
  have c8 : h1.2.2.2.1 ≤ h.2.2.2.1 + 1 := c6
  have c9 : h1.2.2.2.2 ≤ h.2.2.2.2 + 6 := c7
  have g8 : h2.2.2.2.1 ≤ h1.2.2.2.1 + 0 := g6
  have g9 : h2.2.2.2.2 ≤ h1.2.2.2.2 + 0 := g7
  exact ⟨h2, _, _, f + 80, L, im, by omega, e, ⟨LI_f g2 g3 g4 (FrT_t (FrT_w (by decide +kernel : wF sc22.2.1 lT = true) c5) (FrT_w (by decide +kernel : wF sc390.2.1 lT = true) g5)) hL9, PX_f (FrP_t (FrP_w (by decide +kernel : wF sc22.2.1 lP = true) c5) (FrP_C (FrC_w (by decide +kernel : wF sc390.2.1 lC = true) g5) (fun k hk => T9 k hk.1))) (FrA_t (FrA_w (by decide +kernel : wF sc22.2.1 lA = true) c5) (FrA_w (by decide +kernel : wF sc390.2.1 lA = true) g5)) (FrI_t (FrI_w (by decide +kernel : wF sc22.2.1 lI = true) c5) (FrI_w (by decide +kernel : wF sc390.2.1 lI = true) g5)) pX, EX_z g1 g3 (by decide +kernel : wF sc390.2.1 lE = true) (by decide +kernel : wF sc390.2.1 lPa = true) g5 (fun c k m hq => T9 m (qk_g hq).2.1) (EX_z c1 c3 (by decide +kernel : wF sc22.2.1 lE = true) (by decide +kernel : wF sc22.2.1 lPa = true) c5 (Q85_w (by decide +kernel : wF sc22.2.1 l85 = true) c5) pE)⟩, by omega, by omega⟩
set_option maxRecDepth 100000 in
theorem op_later (hE : E.1 ≤ 3072) (hsm : bSO E ctb B (60, smT)) (hX : LX h L im) {iv : Int32} {I : Nat} (hiv : iv.toInt = (I : Int)) (hI6 : I + 6 ≤ E.1) {u5 u6 : Option Value} : ∀ d f, 100 ≤ d → B + 6000000 ≤ f → opS E d iv f h (zex E (f + 100) d 0 1280 (t5K iv u5 u6) [] h) := by
  intro d f hd hf
  obtain ⟨d', hd'⟩ : ∃ d', d = d' + 1 := ⟨d - 1, by omega⟩
  subst hd'
  obtain ⟨hL9, pX, pE⟩ := id hX
  obtain ⟨gI, gP, gT, q4⟩ := id hL9
  have w1 := bi32 (E.2 (I + 1))
  have w2 := bi32 (E.2 (I + 2))
  obtain ⟨v1, h1, c1, c2, ⟨c3, c4⟩, c5, c6, c7, p1, m1, b1⟩ := hsm 24 [sc23] rfl sc23 (List.Mem.head _) (by decide) [(E.2 (I + 1)).toInt, (E.2 (I + 2)).toInt] [.ref 0, .int (E.2 (I + 1)), .int (E.2 (I + 2)), .ref 94] h d' (f + 87) (4, 5, 1, 99, 1, 1) rfl (by show 7 ≤ d'; omega) (by omega) ⟨rfl, ⟨_, rfl, brel_v rfl⟩, ⟨_, rfl, brel_v rfl⟩, rfl, trivial⟩ (benv_c w1.1 w1.2 (benv_c w2.1 w2.2 benv_n)) bcs_n (fun e he => absurd he List.not_mem_nil) gI gP gT
  obtain ⟨x, hx⟩ := bPR_i m1 (by decide) b1
  subst hx
  have c1 : zex E (f + 87) d' 24 0 [some (.ref 0), some (.int (E.2 (I + 1))), some (.int (E.2 (I + 2))), some (.ref 94), none] [] h = some (.inl (some (.int x)), h1) := c1
  obtain ⟨v2, h2, g1, g2, ⟨g3, g4⟩, g5, g6, g7, p2, m2, b2⟩ := hsm 314 [sc391] rfl sc391 (List.Mem.head _) (by decide) [(E.2 (I + 1)).toInt, (E.2 (I + 2)).toInt] [.ref 84, .int (E.2 (I + 1)), .int (E.2 (I + 2))] h1 d' (f + 74) (3, 7, 0, 12, 1, 0) rfl (by show 8 ≤ d'; omega) (by omega) ⟨rfl, ⟨_, rfl, brel_v rfl⟩, ⟨_, rfl, brel_v rfl⟩, trivial⟩ (benv_c w1.1 w1.2 (benv_c w2.1 w2.2 benv_n)) bcs_n (fun e he => absurd he List.not_mem_nil) c2 c3 c4
  obtain ⟨y, hy⟩ := bPR_i m2 (by decide) b2
  subst hy
  have g1 : zex E (f + 74) d' 314 0 [some (.ref 84), some (.int (E.2 (I + 1))), some (.int (E.2 (I + 2))), none, none, none, none] [] h1 = some (.inl (some (.int y)), h2) := g1
  have e := tp_later (E := E) (n := f + 70) (d := d') (I := I) (i := iv) (u5 := u5) (u6 := u6) (fun k hk => baddk hiv (by omega) (by omega)) hI6 (c4 84 _ cs84 (by intro z; cases z)) c1 g1
  have T9 := trial_T (E := E) c4 (show 314 ∈ fOps by decide) g1
  have c8 : h1.2.2.2.1 ≤ h.2.2.2.1 + 1 := c6
  have c9 : h1.2.2.2.2 ≤ h.2.2.2.2 + 6 := c7
  have g8 : h2.2.2.2.1 ≤ h1.2.2.2.1 + 0 := g6
  have g9 : h2.2.2.2.2 ≤ h1.2.2.2.2 + 0 := g7
  exact ⟨h2, _, _, f + 70, L, im, by omega, e, ⟨LI_f g2 g3 g4 (FrT_t (FrT_w (by decide +kernel : wF sc23.2.1 lT = true) c5) (FrT_w (by decide +kernel : wF sc391.2.1 lT = true) g5)) hL9, PX_f (FrP_t (FrP_w (by decide +kernel : wF sc23.2.1 lP = true) c5) (FrP_C (FrC_w (by decide +kernel : wF sc391.2.1 lC = true) g5) (fun k hk => T9 k hk.1))) (FrA_t (FrA_w (by decide +kernel : wF sc23.2.1 lA = true) c5) (FrA_w (by decide +kernel : wF sc391.2.1 lA = true) g5)) (FrI_t (FrI_w (by decide +kernel : wF sc23.2.1 lI = true) c5) (FrI_w (by decide +kernel : wF sc391.2.1 lI = true) g5)) pX, EX_z g1 g3 (by decide +kernel : wF sc391.2.1 lE = true) (by decide +kernel : wF sc391.2.1 lPa = true) g5 (fun c k m hq => T9 m (qk_g hq).2.1) (EX_z c1 c3 (by decide +kernel : wF sc23.2.1 lE = true) (by decide +kernel : wF sc23.2.1 lPa = true) c5 (Q85_w (by decide +kernel : wF sc23.2.1 l85 = true) c5) pE)⟩, by omega, by omega⟩
set_option maxRecDepth 100000 in
theorem op_towel (hE : E.1 ≤ 3072) (hsm : bSO E ctb B (60, smT)) (hX : LX h L im) {iv : Int32} {I : Nat} (hiv : iv.toInt = (I : Int)) (hI6 : I + 6 ≤ E.1) {u5 u6 : Option Value} : ∀ d f, 100 ≤ d → B + 6000000 ≤ f → opS E d iv f h (zex E (f + 100) d 0 1320 (t5K iv u5 u6) [] h) := by
  intro d f hd hf
  obtain ⟨d', hd'⟩ : ∃ d', d = d' + 1 := ⟨d - 1, by omega⟩
  subst hd'
  obtain ⟨hL9, pX, pE⟩ := id hX
  obtain ⟨gI, gP, gT, q4⟩ := id hL9
  have w1 := bi32 (E.2 (I + 1))
  have w2 := bi32 (E.2 (I + 2))
  have w3 := bi32 (E.2 (I + 3))
  obtain ⟨v1, h1, c1, c2, ⟨c3, c4⟩, c5, c6, c7, p1, m1, b1⟩ := hsm 25 [sc24] rfl sc24 (List.Mem.head _) (by decide) [(E.2 (I + 1)).toInt, (E.2 (I + 2)).toInt, (E.2 (I + 3)).toInt] [.ref 0, .int (E.2 (I + 1)), .int (E.2 (I + 2)), .int (E.2 (I + 3)), .ref 94] h d' (f + 82) (5, 6, 1, 99, 1, 1) rfl (by show 7 ≤ d'; omega) (by omega) ⟨rfl, ⟨_, rfl, brel_v rfl⟩, ⟨_, rfl, brel_v rfl⟩, ⟨_, rfl, brel_v rfl⟩, rfl, trivial⟩ (benv_c w1.1 w1.2 (benv_c w2.1 w2.2 (benv_c w3.1 w3.2 benv_n))) bcs_n (fun e he => absurd he List.not_mem_nil) gI gP gT
  obtain ⟨x, hx⟩ := bPR_i m1 (by decide) b1
  subst hx
  have c1 : zex E (f + 82) d' 25 0 [some (.ref 0), some (.int (E.2 (I + 1))), some (.int (E.2 (I + 2))), some (.int (E.2 (I + 3))), some (.ref 94), none] [] h = some (.inl (some (.int x)), h1) := c1
  obtain ⟨v2, h2, g1, g2, ⟨g3, g4⟩, g5, g6, g7, p2, m2, b2⟩ := hsm 316 [sc393] rfl sc393 (List.Mem.head _) (by decide) [(E.2 (I + 1)).toInt, (E.2 (I + 2)).toInt, (E.2 (I + 3)).toInt] [.ref 84, .int (E.2 (I + 1)), .int (E.2 (I + 2)), .int (E.2 (I + 3))] h1 d' (f + 64) (4, 4, 0, 12, 1, 0) rfl (by show 10 ≤ d'; omega) (by omega) ⟨rfl, ⟨_, rfl, brel_v rfl⟩, ⟨_, rfl, brel_v rfl⟩, ⟨_, rfl, brel_v rfl⟩, trivial⟩ (benv_c w1.1 w1.2 (benv_c w2.1 w2.2 (benv_c w3.1 w3.2 benv_n))) bcs_n (fun e he => absurd he List.not_mem_nil) c2 c3 c4
  obtain ⟨y, hy⟩ := bPR_i m2 (by decide) b2
  subst hy
  have g1 : zex E (f + 64) d' 316 0 [some (.ref 84), some (.int (E.2 (I + 1))), some (.int (E.2 (I + 2))), some (.int (E.2 (I + 3)))] [] h1 = some (.inl (some (.int y)), h2) := g1
  have e := tp_towel (E := E) (n := f + 60) (d := d') (I := I) (i := iv) (u5 := u5) (u6 := u6) (fun k hk => baddk hiv (by omega) (by omega)) hI6 (c4 84 _ cs84 (by intro z; cases z)) c1 g1
  have T9 := trial_T (E := E) c4 (show 316 ∈ fOps by decide) g1
  have c8 : h1.2.2.2.1 ≤ h.2.2.2.1 + 1 := c6
  have c9 : h1.2.2.2.2 ≤ h.2.2.2.2 + 6 := c7
  have g8 : h2.2.2.2.1 ≤ h1.2.2.2.1 + 0 := g6
  have g9 : h2.2.2.2.2 ≤ h1.2.2.2.2 + 0 := g7
  exact ⟨h2, _, _, f + 60, L, im, by omega, e, ⟨LI_f g2 g3 g4 (FrT_t (FrT_w (by decide +kernel : wF sc24.2.1 lT = true) c5) (FrT_w (by decide +kernel : wF sc393.2.1 lT = true) g5)) hL9, PX_f (FrP_t (FrP_w (by decide +kernel : wF sc24.2.1 lP = true) c5) (FrP_C (FrC_w (by decide +kernel : wF sc393.2.1 lC = true) g5) (fun k hk => T9 k hk.1))) (FrA_t (FrA_w (by decide +kernel : wF sc24.2.1 lA = true) c5) (FrA_w (by decide +kernel : wF sc393.2.1 lA = true) g5)) (FrI_t (FrI_w (by decide +kernel : wF sc24.2.1 lI = true) c5) (FrI_w (by decide +kernel : wF sc393.2.1 lI = true) g5)) pX, EX_z g1 g3 (by decide +kernel : wF sc393.2.1 lE = true) (by decide +kernel : wF sc393.2.1 lPa = true) g5 (fun c k m hq => T9 m (qk_g hq).2.1) (EX_z c1 c3 (by decide +kernel : wF sc24.2.1 lE = true) (by decide +kernel : wF sc24.2.1 lPa = true) c5 (Q85_w (by decide +kernel : wF sc24.2.1 l85 = true) c5) pE)⟩, by omega, by omega⟩
set_option maxRecDepth 100000 in
theorem op_towelled (hE : E.1 ≤ 3072) (hsm : bSO E ctb B (60, smT)) (hX : LX h L im) {iv : Int32} {I : Nat} (hiv : iv.toInt = (I : Int)) (hI6 : I + 6 ≤ E.1) {u5 u6 : Option Value} : ∀ d f, 100 ≤ d → B + 6000000 ≤ f → opS E d iv f h (zex E (f + 100) d 0 1372 (t5K iv u5 u6) [] h) := by
  intro d f hd hf
  obtain ⟨d', hd'⟩ : ∃ d', d = d' + 1 := ⟨d - 1, by omega⟩
  subst hd'
  obtain ⟨hL9, pX, pE⟩ := id hX
  obtain ⟨gI, gP, gT, q4⟩ := id hL9
  have w1 := bi32 (E.2 (I + 1))
  have w2 := bi32 (E.2 (I + 2))
  obtain ⟨v1, h1, c1, c2, ⟨c3, c4⟩, c5, c6, c7, p1, m1, b1⟩ := hsm 26 [sc25] rfl sc25 (List.Mem.head _) (by decide) [(E.2 (I + 1)).toInt, (E.2 (I + 2)).toInt] [.ref 0, .int (E.2 (I + 1)), .int (E.2 (I + 2)), .ref 94] h d' (f + 87) (4, 5, 1, 99, 1, 1) rfl (by show 8 ≤ d'; omega) (by omega) ⟨rfl, ⟨_, rfl, brel_v rfl⟩, ⟨_, rfl, brel_v rfl⟩, rfl, trivial⟩ (benv_c w1.1 w1.2 (benv_c w2.1 w2.2 benv_n)) bcs_n (fun e he => absurd he List.not_mem_nil) gI gP gT
  obtain ⟨x, hx⟩ := bPR_i m1 (by decide) b1
  subst hx
  have c1 : zex E (f + 87) d' 26 0 [some (.ref 0), some (.int (E.2 (I + 1))), some (.int (E.2 (I + 2))), some (.ref 94), none] [] h = some (.inl (some (.int x)), h1) := c1
  obtain ⟨v2, h2, g1, g2, ⟨g3, g4⟩, g5, g6, g7, p2, m2, b2⟩ := hsm 317 [sc394] rfl sc394 (List.Mem.head _) (by decide) [(E.2 (I + 1)).toInt, (E.2 (I + 2)).toInt] [.ref 84, .int (E.2 (I + 1)), .int (E.2 (I + 2))] h1 d' (f + 74) (3, 8, 0, 12, 1, 0) rfl (by show 10 ≤ d'; omega) (by omega) ⟨rfl, ⟨_, rfl, brel_v rfl⟩, ⟨_, rfl, brel_v rfl⟩, trivial⟩ (benv_c w1.1 w1.2 (benv_c w2.1 w2.2 benv_n)) bcs_n (fun e he => absurd he List.not_mem_nil) c2 c3 c4
  obtain ⟨y, hy⟩ := bPR_i m2 (by decide) b2
  subst hy
  have g1 : zex E (f + 74) d' 317 0 [some (.ref 84), some (.int (E.2 (I + 1))), some (.int (E.2 (I + 2))), none, none, none, none, none] [] h1 = some (.inl (some (.int y)), h2) := g1
  have e := tp_towelled (E := E) (n := f + 70) (d := d') (I := I) (i := iv) (u5 := u5) (u6 := u6) (fun k hk => baddk hiv (by omega) (by omega)) hI6 (c4 84 _ cs84 (by intro z; cases z)) c1 g1
  have T9 := trial_T (E := E) c4 (show 317 ∈ fOps by decide) g1
  have c8 : h1.2.2.2.1 ≤ h.2.2.2.1 + 1 := c6
  have c9 : h1.2.2.2.2 ≤ h.2.2.2.2 + 6 := c7
  have g8 : h2.2.2.2.1 ≤ h1.2.2.2.1 + 0 := g6
  have g9 : h2.2.2.2.2 ≤ h1.2.2.2.2 + 0 := g7
  exact ⟨h2, _, _, f + 70, L, im, by omega, e, ⟨LI_f g2 g3 g4 (FrT_t (FrT_w (by decide +kernel : wF sc25.2.1 lT = true) c5) (FrT_w (by decide +kernel : wF sc394.2.1 lT = true) g5)) hL9, PX_f (FrP_t (FrP_w (by decide +kernel : wF sc25.2.1 lP = true) c5) (FrP_C (FrC_w (by decide +kernel : wF sc394.2.1 lC = true) g5) (fun k hk => T9 k hk.1))) (FrA_t (FrA_w (by decide +kernel : wF sc25.2.1 lA = true) c5) (FrA_w (by decide +kernel : wF sc394.2.1 lA = true) g5)) (FrI_t (FrI_w (by decide +kernel : wF sc25.2.1 lI = true) c5) (FrI_w (by decide +kernel : wF sc394.2.1 lI = true) g5)) pX, EX_z g1 g3 (by decide +kernel : wF sc394.2.1 lE = true) (by decide +kernel : wF sc394.2.1 lPa = true) g5 (fun c k m hq => T9 m (qk_g hq).2.1) (EX_z c1 c3 (by decide +kernel : wF sc25.2.1 lE = true) (by decide +kernel : wF sc25.2.1 lPa = true) c5 (Q85_w (by decide +kernel : wF sc25.2.1 l85 = true) c5) pE)⟩, by omega, by omega⟩
set_option maxRecDepth 100000 in
theorem op_span (hE : E.1 ≤ 3072) (hsm : bSO E ctb B (60, smT)) (hX : LX h L im) {iv : Int32} {I : Nat} (hiv : iv.toInt = (I : Int)) (hI6 : I + 6 ≤ E.1) {u5 u6 : Option Value} : ∀ d f, 100 ≤ d → B + 6000000 ≤ f → opS E d iv f h (zex E (f + 100) d 0 1412 (t5K iv u5 u6) [] h) := by
  intro d f hd hf
  obtain ⟨d', hd'⟩ : ∃ d', d = d' + 1 := ⟨d - 1, by omega⟩
  subst hd'
  obtain ⟨hL9, pX, pE⟩ := id hX
  obtain ⟨gI, gP, gT, q4⟩ := id hL9
  have w1 := bi32 (E.2 (I + 1))
  by_cases hb : (E.2 (I + 2)).toInt = 0
  · skip
    obtain ⟨v1, h1, c1, c2, ⟨c3, c4⟩, c5, c6, c7, p1, m1, b1⟩ := hsm 27 [sc26] rfl sc26 (List.Mem.head _) (by decide) [(E.2 (I + 1)).toInt, (0 : Int32).toInt] [.ref 0, .int (E.2 (I + 1)), .int 0, .ref 94] h d' (f + 85) (4, 5, 1, 99, 1, 1) rfl (by show 7 ≤ d'; omega) (by omega) ⟨rfl, ⟨_, rfl, brel_v rfl⟩, ⟨_, rfl, brel_v rfl⟩, rfl, trivial⟩ (benv_c w1.1 w1.2 (benv_c (by decide) (by decide) benv_n)) bcs_n (fun e he => absurd he List.not_mem_nil) gI gP gT
    obtain ⟨x, hx⟩ := bPR_i m1 (by decide) b1
    subst hx
    have c1 : zex E (f + 85) d' 27 0 [some (.ref 0), some (.int (E.2 (I + 1))), some (.int 0), some (.ref 94), none] [] h = some (.inl (some (.int x)), h1) := c1
    obtain ⟨v2, h2, g1, g2, ⟨g3, g4⟩, g5, g6, g7, p2, m2, b2⟩ := hsm 318 [sc395] rfl sc395 (List.Mem.head _) (by decide) [(E.2 (I + 1)).toInt, (0 : Int32).toInt] [.ref 84, .int (E.2 (I + 1)), .int 0] h1 d' (f + 70) (3, 6, 0, 12, 1, 0) rfl (by show 9 ≤ d'; omega) (by omega) ⟨rfl, ⟨_, rfl, brel_v rfl⟩, ⟨_, rfl, brel_v rfl⟩, trivial⟩ (benv_c w1.1 w1.2 (benv_c (by decide) (by decide) benv_n)) bcs_n (fun e he => absurd he List.not_mem_nil) c2 c3 c4
    obtain ⟨y, hy⟩ := bPR_i m2 (by decide) b2
    subst hy
    have g1 : zex E (f + 70) d' 318 0 [some (.ref 84), some (.int (E.2 (I + 1))), some (.int 0), none, none, none] [] h1 = some (.inl (some (.int y)), h2) := g1
    have e := tp_span0 (E := E) (n := f + 66) (d := d') (I := I) (i := iv) (u5 := u5) (u6 := u6) (fun k hk => baddk hiv (by omega) (by omega)) hI6 hb (c4 84 _ cs84 (by intro z; cases z)) c1 g1
    have T9 := trial_T (E := E) c4 (show 318 ∈ fOps by decide) g1
    have c8 : h1.2.2.2.1 ≤ h.2.2.2.1 + 1 := c6
    have c9 : h1.2.2.2.2 ≤ h.2.2.2.2 + 6 := c7
    have g8 : h2.2.2.2.1 ≤ h1.2.2.2.1 + 0 := g6
    have g9 : h2.2.2.2.2 ≤ h1.2.2.2.2 + 0 := g7
    exact ⟨h2, _, _, f + 66, L, im, by omega, e, ⟨LI_f g2 g3 g4 (FrT_t (FrT_w (by decide +kernel : wF sc26.2.1 lT = true) c5) (FrT_w (by decide +kernel : wF sc395.2.1 lT = true) g5)) hL9, PX_f (FrP_t (FrP_w (by decide +kernel : wF sc26.2.1 lP = true) c5) (FrP_C (FrC_w (by decide +kernel : wF sc395.2.1 lC = true) g5) (fun k hk => T9 k hk.1))) (FrA_t (FrA_w (by decide +kernel : wF sc26.2.1 lA = true) c5) (FrA_w (by decide +kernel : wF sc395.2.1 lA = true) g5)) (FrI_t (FrI_w (by decide +kernel : wF sc26.2.1 lI = true) c5) (FrI_w (by decide +kernel : wF sc395.2.1 lI = true) g5)) pX, EX_z g1 g3 (by decide +kernel : wF sc395.2.1 lE = true) (by decide +kernel : wF sc395.2.1 lPa = true) g5 (fun c k m hq => T9 m (qk_g hq).2.1) (EX_z c1 c3 (by decide +kernel : wF sc26.2.1 lE = true) (by decide +kernel : wF sc26.2.1 lPa = true) c5 (Q85_w (by decide +kernel : wF sc26.2.1 l85 = true) c5) pE)⟩, by omega, by omega⟩
  · skip
    obtain ⟨v1, h1, c1, c2, ⟨c3, c4⟩, c5, c6, c7, p1, m1, b1⟩ := hsm 27 [sc26] rfl sc26 (List.Mem.head _) (by decide) [(E.2 (I + 1)).toInt, (1 : Int32).toInt] [.ref 0, .int (E.2 (I + 1)), .int 1, .ref 94] h d' (f + 84) (4, 5, 1, 99, 1, 1) rfl (by show 7 ≤ d'; omega) (by omega) ⟨rfl, ⟨_, rfl, brel_v rfl⟩, ⟨_, rfl, brel_v rfl⟩, rfl, trivial⟩ (benv_c w1.1 w1.2 (benv_c (by decide) (by decide) benv_n)) bcs_n (fun e he => absurd he List.not_mem_nil) gI gP gT
    obtain ⟨x, hx⟩ := bPR_i m1 (by decide) b1
    subst hx
    have c1 : zex E (f + 84) d' 27 0 [some (.ref 0), some (.int (E.2 (I + 1))), some (.int 1), some (.ref 94), none] [] h = some (.inl (some (.int x)), h1) := c1
    obtain ⟨v2, h2, g1, g2, ⟨g3, g4⟩, g5, g6, g7, p2, m2, b2⟩ := hsm 318 [sc395] rfl sc395 (List.Mem.head _) (by decide) [(E.2 (I + 1)).toInt, (1 : Int32).toInt] [.ref 84, .int (E.2 (I + 1)), .int 1] h1 d' (f + 68) (3, 6, 0, 12, 1, 0) rfl (by show 9 ≤ d'; omega) (by omega) ⟨rfl, ⟨_, rfl, brel_v rfl⟩, ⟨_, rfl, brel_v rfl⟩, trivial⟩ (benv_c w1.1 w1.2 (benv_c (by decide) (by decide) benv_n)) bcs_n (fun e he => absurd he List.not_mem_nil) c2 c3 c4
    obtain ⟨y, hy⟩ := bPR_i m2 (by decide) b2
    subst hy
    have g1 : zex E (f + 68) d' 318 0 [some (.ref 84), some (.int (E.2 (I + 1))), some (.int 1), none, none, none] [] h1 = some (.inl (some (.int y)), h2) := g1
    have e := tp_span1 (E := E) (n := f + 64) (d := d') (I := I) (i := iv) (u5 := u5) (u6 := u6) (fun k hk => baddk hiv (by omega) (by omega)) hI6 hb (c4 84 _ cs84 (by intro z; cases z)) c1 g1
    have T9 := trial_T (E := E) c4 (show 318 ∈ fOps by decide) g1
    have c8 : h1.2.2.2.1 ≤ h.2.2.2.1 + 1 := c6
    have c9 : h1.2.2.2.2 ≤ h.2.2.2.2 + 6 := c7
    have g8 : h2.2.2.2.1 ≤ h1.2.2.2.1 + 0 := g6
    have g9 : h2.2.2.2.2 ≤ h1.2.2.2.2 + 0 := g7
    exact ⟨h2, _, _, f + 64, L, im, by omega, e, ⟨LI_f g2 g3 g4 (FrT_t (FrT_w (by decide +kernel : wF sc26.2.1 lT = true) c5) (FrT_w (by decide +kernel : wF sc395.2.1 lT = true) g5)) hL9, PX_f (FrP_t (FrP_w (by decide +kernel : wF sc26.2.1 lP = true) c5) (FrP_C (FrC_w (by decide +kernel : wF sc395.2.1 lC = true) g5) (fun k hk => T9 k hk.1))) (FrA_t (FrA_w (by decide +kernel : wF sc26.2.1 lA = true) c5) (FrA_w (by decide +kernel : wF sc395.2.1 lA = true) g5)) (FrI_t (FrI_w (by decide +kernel : wF sc26.2.1 lI = true) c5) (FrI_w (by decide +kernel : wF sc395.2.1 lI = true) g5)) pX, EX_z g1 g3 (by decide +kernel : wF sc395.2.1 lE = true) (by decide +kernel : wF sc395.2.1 lPa = true) g5 (fun c k m hq => T9 m (qk_g hq).2.1) (EX_z c1 c3 (by decide +kernel : wF sc26.2.1 lE = true) (by decide +kernel : wF sc26.2.1 lPa = true) c5 (Q85_w (by decide +kernel : wF sc26.2.1 l85 = true) c5) pE)⟩, by omega, by omega⟩
set_option maxRecDepth 100000 in
theorem op_peak (hE : E.1 ≤ 3072) (hsm : bSO E ctb B (60, smT)) (hX : LX h L im) {iv : Int32} {I : Nat} (hiv : iv.toInt = (I : Int)) (hI6 : I + 6 ≤ E.1) {u5 u6 : Option Value} : ∀ d f, 100 ≤ d → B + 6000000 ≤ f → opS E d iv f h (zex E (f + 100) d 0 1468 (t5K iv u5 u6) [] h) := by
  intro d f hd hf
  obtain ⟨d', hd'⟩ : ∃ d', d = d' + 1 := ⟨d - 1, by omega⟩
  subst hd'
  obtain ⟨hL9, pX, pE⟩ := id hX
  obtain ⟨gI, gP, gT, q4⟩ := id hL9
  have w1 := bi32 (E.2 (I + 1))
  obtain ⟨v1, h1, c1, c2, ⟨c3, c4⟩, c5, c6, c7, p1, m1, b1⟩ := hsm 28 [sc27] rfl sc27 (List.Mem.head _) (by decide) [(E.2 (I + 1)).toInt] [.ref 0, .int (E.2 (I + 1)), .ref 94] h d' (f + 92) (3, 4, 1, 99, 1, 1) rfl (by show 7 ≤ d'; omega) (by omega) ⟨rfl, ⟨_, rfl, brel_v rfl⟩, rfl, trivial⟩ (benv_c w1.1 w1.2 benv_n) bcs_n (fun e he => absurd he List.not_mem_nil) gI gP gT
  obtain ⟨x, hx⟩ := bPR_i m1 (by decide) b1
  subst hx
  have c1 : zex E (f + 92) d' 28 0 [some (.ref 0), some (.int (E.2 (I + 1))), some (.ref 94), none] [] h = some (.inl (some (.int x)), h1) := c1
  obtain ⟨v2, h2, g1, g2, ⟨g3, g4⟩, g5, g6, g7, p2, m2, b2⟩ := hsm 319 [sc396] rfl sc396 (List.Mem.head _) (by decide) [(E.2 (I + 1)).toInt] [.ref 84, .int (E.2 (I + 1))] h1 d' (f + 84) (2, 7, 0, 12, 1, 0) rfl (by show 7 ≤ d'; omega) (by omega) ⟨rfl, ⟨_, rfl, brel_v rfl⟩, trivial⟩ (benv_c w1.1 w1.2 benv_n) bcs_n (fun e he => absurd he List.not_mem_nil) c2 c3 c4
  obtain ⟨y, hy⟩ := bPR_i m2 (by decide) b2
  subst hy
  have g1 : zex E (f + 84) d' 319 0 [some (.ref 84), some (.int (E.2 (I + 1))), none, none, none, none, none] [] h1 = some (.inl (some (.int y)), h2) := g1
  have e := tp_peak (E := E) (n := f + 80) (d := d') (I := I) (i := iv) (u5 := u5) (u6 := u6) (fun k hk => baddk hiv (by omega) (by omega)) hI6 (c4 84 _ cs84 (by intro z; cases z)) c1 g1
  have T9 := trial_T (E := E) c4 (show 319 ∈ fOps by decide) g1
  have c8 : h1.2.2.2.1 ≤ h.2.2.2.1 + 1 := c6
  have c9 : h1.2.2.2.2 ≤ h.2.2.2.2 + 6 := c7
  have g8 : h2.2.2.2.1 ≤ h1.2.2.2.1 + 0 := g6
  have g9 : h2.2.2.2.2 ≤ h1.2.2.2.2 + 0 := g7
  exact ⟨h2, _, _, f + 80, L, im, by omega, e, ⟨LI_f g2 g3 g4 (FrT_t (FrT_w (by decide +kernel : wF sc27.2.1 lT = true) c5) (FrT_w (by decide +kernel : wF sc396.2.1 lT = true) g5)) hL9, PX_f (FrP_t (FrP_w (by decide +kernel : wF sc27.2.1 lP = true) c5) (FrP_C (FrC_w (by decide +kernel : wF sc396.2.1 lC = true) g5) (fun k hk => T9 k hk.1))) (FrA_t (FrA_w (by decide +kernel : wF sc27.2.1 lA = true) c5) (FrA_w (by decide +kernel : wF sc396.2.1 lA = true) g5)) (FrI_t (FrI_w (by decide +kernel : wF sc27.2.1 lI = true) c5) (FrI_w (by decide +kernel : wF sc396.2.1 lI = true) g5)) pX, EX_z g1 g3 (by decide +kernel : wF sc396.2.1 lE = true) (by decide +kernel : wF sc396.2.1 lPa = true) g5 (fun c k m hq => T9 m (qk_g hq).2.1) (EX_z c1 c3 (by decide +kernel : wF sc27.2.1 lE = true) (by decide +kernel : wF sc27.2.1 lPa = true) c5 (Q85_w (by decide +kernel : wF sc27.2.1 l85 = true) c5) pE)⟩, by omega, by omega⟩
set_option maxRecDepth 100000 in
theorem op_rounds (hE : E.1 ≤ 3072) (hsm : bSO E ctb B (60, smT)) (hX : LX h L im) {iv : Int32} {I : Nat} (hiv : iv.toInt = (I : Int)) (hI6 : I + 6 ≤ E.1) {u5 u6 : Option Value} : ∀ d f, 100 ≤ d → B + 30000000000 ≤ f → opS E d iv f h (zex E (f + 100) d 0 643 (t5K iv u5 u6) [] h) := by
  intro d f hd hf
  obtain ⟨d', hd'⟩ : ∃ d', d = d' + 1 := ⟨d - 1, by omega⟩
  subst hd'
  obtain ⟨hL9, pX, pE⟩ := id hX
  obtain ⟨gI, gP, gT, q4⟩ := id hL9
  have w1 := bi32 (E.2 (I + 1))
  obtain ⟨v1, h1, c1, c2, ⟨c3, c4⟩, c5, c6, c7, p1, m1, b1⟩ := hsm 9 [sc8] rfl sc8 (List.Mem.head _) (by decide) [(E.2 (I + 1)).toInt] [.ref 0, .int (E.2 (I + 1)), .ref 94] h d' (f + 92) (3, 4, 1, 99, 1, 1) rfl (by show 5 ≤ d'; omega) (by omega) ⟨rfl, ⟨_, rfl, brel_v rfl⟩, rfl, trivial⟩ (benv_c w1.1 w1.2 benv_n) bcs_n (fun e he => absurd he List.not_mem_nil) gI gP gT
  obtain ⟨x, hx⟩ := bPR_i m1 (by decide) b1
  subst hx
  have c1 : zex E (f + 92) d' 9 0 [some (.ref 0), some (.int (E.2 (I + 1))), some (.ref 94), none] [] h = some (.inl (some (.int x)), h1) := c1
  obtain ⟨v2, h2, g1, g2, ⟨g3, g4⟩, g5, g6, g7, p2, m2, b2⟩ := hsm 284 [sc367] rfl sc367 (List.Mem.head _) (by decide) [(E.2 (I + 1)).toInt] [.ref 84, .int (E.2 (I + 1))] h1 d' (f + 84) (2, 4, 0, 12, 1, 0) rfl (by show 7 ≤ d'; omega) (by omega) ⟨rfl, ⟨_, rfl, brel_v rfl⟩, trivial⟩ (benv_c w1.1 w1.2 benv_n) bcs_n (fun e he => absurd he List.not_mem_nil) c2 c3 c4
  obtain ⟨y, hy⟩ := bPR_i m2 (by decide) b2
  subst hy
  have g1 : zex E (f + 84) d' 284 0 [some (.ref 84), some (.int (E.2 (I + 1))), none, none] [] h1 = some (.inl (some (.int y)), h2) := g1
  have e := tp_rounds (E := E) (n := f + 80) (d := d') (I := I) (i := iv) (u5 := u5) (u6 := u6) (fun k hk => baddk hiv (by omega) (by omega)) hI6 (c4 84 _ cs84 (by intro z; cases z)) c1 g1
  obtain ⟨y9, h9, z1, z2⟩ := acRo (E := E) (by omega) hsm c2 c3 c4 d' (f + 84) (by omega) (by omega)
  have z4 : h2 = h9 := (inl_j g1 z1).2
  have fP := FrP_w (by decide +kernel : wF sc8.2.1 lP = true) c5
  have c8 : h1.2.2.2.1 ≤ h.2.2.2.1 + 9 := c6
  have c9 : h1.2.2.2.2 ≤ h.2.2.2.2 + 1200 := c7
  have g8 : h2.2.2.2.1 ≤ h1.2.2.2.1 + 0 := g6
  have g9 : h2.2.2.2.2 ≤ h1.2.2.2.2 + 0 := g7
  obtain ⟨σ, hR, hM, hW, h39⟩ := id pX.1
  obtain ⟨xc, hc9, k1, k2, k3⟩ := caRo (E := E) (by omega) hsm gI gP gT pE.2.1 hR hW (k9 := E.2 (I + 1)) d' (f + 92) (by omega) (by omega)
  have z5 := (inl_j c1 k1).2
  rw [← z5] at k2 k3
  obtain ⟨ym, hm9, l1, l2⟩ := maRo (E := E) (h := h1) (by omega) hsm c2 c3 c4 (RMf_p hM hW fP.2.2.2.2) hW (k9 := E.2 (I + 1)) d' (f + 84) (by omega) (by omega)
  have z7 := (inl_j g1 l1).2
  rw [← z7] at l2
  have x27 : h2.2.1 27 2 = h1.2.1 27 2 := g5 27 2 (by decide +kernel)
  have x84 : h1.2.1 84 7 = h.2.1 84 7 := c5 84 7 (by decide +kernel)
  have d5 := row_w (by decide +kernel : wF sc8.2.1 lRow = true) c5
  have b27 := gI.1 27 2
  rw [biv272] at b27
  have b27a : 0 ≤ (h.2.1 27 2).toInt := b27.1
  have b27b : (h.2.1 27 2).toInt ≤ 12 := b27.2
  have E1 : h2.2.1 4 0 = h.2.1 4 0 := (g5 4 0 (by decide +kernel)).trans (c5 4 0 (by decide +kernel))
  have E2 : h2.2.1 4 2 = h.2.1 4 2 := (g5 4 2 (by decide +kernel)).trans (c5 4 2 (by decide +kernel))
  have E3 : ∀ k : Nat, k < 8 → (k : Int) < (h.2.1 4 2).toInt → h2.2.1 8 k = h.2.1 8 k := fun k _ _ => (g5 8 k (show Nat.testBit sc367.2.1 (bun 8 0) = false by decide +kernel)).trans (c5 8 k (show Nat.testBit sc8.2.1 (bun 8 0) = false by decide +kernel))
  have hWr := hW.1
  have hWp := hW.2.2.1
  have rsg : RS9 h1 h2 := RS9_w (by decide +kernel : wF sc367.2.1 lPa = true) (g5 27 3 (by decide +kernel)) g5
  obtain ⟨xb, hb9, bq1, bc, bn⟩ := cbRo (E := E) (by omega) hsm gI gP gT pE.2.1 hR hW (k9 := E.2 (I + 1)) d' (f + 92) (by omega) (by omega)
  have z51 := (inl_j c1 bq1).2
  rw [← z51] at bc bn
  obtain ⟨yb, hm8, mq1, mc, mn⟩ := mbRo (E := E) (h := h1) (by omega) hsm c2 c3 c4 (RMf_p hM hW fP.2.2.2.2) hW (k9 := E.2 (I + 1)) d' (f + 84) (by omega) (by omega)
  have z52 := (inl_j g1 mq1).2
  rw [← z52] at mc mn
  have d9 : ∀ k, h1.2.1 89 k = h.2.1 89 k := fun k => c5 89 k (show Nat.testBit sc8.2.1 (bun 89 0) = false by decide +kernel)
  have s7 : (h1.2.1 84 7).toInt = (h.2.1 27 2).toInt := by rw [x84, pE.1]
  have qp2 : QP h2 := by
    by_cases hcc : 1 ≤ (E.2 (I + 1)).toInt ∧ (E.2 (I + 1)).toInt ≤ 100
    · obtain ⟨n9, hn9, hn12, rx1, rx2, rx3⟩ := bc hcc
      have mz := mc hcc
      exact QP_act hn9 hn12 ⟨b27a, b27b⟩ E1 E2 E3 (by rw [x27, k2, if_pos hcc]; rfl) (by rw [g5 27 3 (by decide +kernel)]; exact rx1) (fun c k q => (rsg.1 _ (by omega) (by have c6 := gq6 q; omega) k).trans (rx2 c k q)) (fun r hr hrn c hc k => (rsg.1 _ (by omega) (by omega) k).trans (rx3 r hr hrn c hc k)) (fun z => ⟨fun b k hb hk => ((mz.1 (by rw [s7]; exact z)).1 b k hb hk).trans (d9 _), fun k hk => ((mz.1 (by rw [s7]; exact z)).2 k hk).trans (d5 k hk)⟩) (fun s z h12 => ⟨fun b k hb hk => ((mz.2 s (by rw [s7]; exact z) h12).1 b k hb hk).trans (d9 _), fun k hk => ((mz.2 s (by rw [s7]; exact z) h12).2 k hk).trans (d5 k hk)⟩) pE.2.2.1 pE.2.2.2.2
    · have bn9 := bn hcc
      have mn9 := mn hcc
      exact QP_f E1 E2 E3 (by rw [x27, bn9]) (by rw [g5 27 3 (by decide +kernel), bn9]) (fun r hr c hc k => (rsg.1 _ (by omega) (by omega) k).trans (by rw [bn9])) (fun k => (mn9 k).trans (d9 k)) pE.2.2.2.2
  have sx2 : SX h2 4 18 85 0 := SXn_w (by decide +kernel : wF sc367.2.1 lNq = true) g5 (Q85_w (by decide +kernel : wF sc367.2.1 l85 = true) g5) (SXn_w (by decide +kernel : wF sc8.2.1 lNq = true) c5 (Q85_w (by decide +kernel : wF sc8.2.1 l85 = true) c5) pE.2.2.1)
  have qx2 : QX h2 := ⟨sx2, QI_w (by decide +kernel : wF sc367.2.1 lQI = true) g5 (QI_w (by decide +kernel : wF sc8.2.1 lQI = true) c5 pE.2.2.2.1), qp2⟩
  exact ⟨h2, _, _, f + 80, L, im, by omega, e, ⟨LI_f g2 g3 g4 (FrT_t (FrT_w (by decide +kernel : wF sc8.2.1 lT = true) c5) (FrT_w (by decide +kernel : wF sc367.2.1 lT = true) g5)) hL9, PX_a (FrP_t fP (FrP_w (by decide +kernel : wF sc367.2.1 lP = true) g5)) (fun a => by rw [z4]; exact z2 (AI_f (FrA_w (by decide +kernel : wF sc8.2.1 lA = true) c5) fP.2.2.2.2 a)) (FrI_t (FrI_w (by decide +kernel : wF sc8.2.1 lI = true) c5) (FrI_w (by decide +kernel : wF sc367.2.1 lI = true) g5)) pX, ⟨Int32.toInt_inj.mp (by rw [x27, k2, l2, x84, pE.1]), paQ_f g1 g3 x27 (g5 27 3 (by decide +kernel)) k3, qx2⟩⟩, by omega, by omega⟩
set_option maxRecDepth 100000 in
theorem op_sweep (hE : E.1 ≤ 3072) (hsm : bSO E ctb B (60, smT)) (hX : LX h L im) {iv : Int32} {I : Nat} (hiv : iv.toInt = (I : Int)) (hI6 : I + 6 ≤ E.1) {u5 u6 : Option Value} : ∀ d f, 100 ≤ d → B + 6000000 ≤ f → opS E d iv f h (zex E (f + 100) d 0 671 (t5K iv u5 u6) [] h) := by
  intro d f hd hf
  obtain ⟨d', hd'⟩ : ∃ d', d = d' + 1 := ⟨d - 1, by omega⟩
  subst hd'
  obtain ⟨hL9, pX, pE⟩ := id hX
  obtain ⟨gI, gP, gT, q4⟩ := id hL9
  have w1 := bi32 (E.2 (I + 1))
  obtain ⟨v1, h1, c1, c2, ⟨c3, c4⟩, c5, c6, c7, p1, m1, b1⟩ := hsm 10 [sc9] rfl sc9 (List.Mem.head _) (by decide) [(E.2 (I + 1)).toInt] [.ref 0, .int (E.2 (I + 1)), .ref 94] h d' (f + 92) (3, 4, 1, 99, 1, 1) rfl (by show 5 ≤ d'; omega) (by omega) ⟨rfl, ⟨_, rfl, brel_v rfl⟩, rfl, trivial⟩ (benv_c w1.1 w1.2 benv_n) bcs_n (fun e he => absurd he List.not_mem_nil) gI gP gT
  obtain ⟨x, hx⟩ := bPR_i m1 (by decide) b1
  subst hx
  have c1 : zex E (f + 92) d' 10 0 [some (.ref 0), some (.int (E.2 (I + 1))), some (.ref 94), none] [] h = some (.inl (some (.int x)), h1) := c1
  obtain ⟨v2, h2, g1, g2, ⟨g3, g4⟩, g5, g6, g7, p2, m2, b2⟩ := hsm 287 [sc368] rfl sc368 (List.Mem.head _) (by decide) [(E.2 (I + 1)).toInt] [.ref 84, .int (E.2 (I + 1))] h1 d' (f + 84) (2, 2, 0, 12, 1, 0) rfl (by show 6 ≤ d'; omega) (by omega) ⟨rfl, ⟨_, rfl, brel_v rfl⟩, trivial⟩ (benv_c w1.1 w1.2 benv_n) bcs_n (fun e he => absurd he List.not_mem_nil) c2 c3 c4
  obtain ⟨y, hy⟩ := bPR_i m2 (by decide) b2
  subst hy
  have g1 : zex E (f + 84) d' 287 0 [some (.ref 84), some (.int (E.2 (I + 1)))] [] h1 = some (.inl (some (.int y)), h2) := g1
  have e := tp_sweep (E := E) (n := f + 80) (d := d') (I := I) (i := iv) (u5 := u5) (u6 := u6) (fun k hk => baddk hiv (by omega) (by omega)) hI6 (c4 84 _ cs84 (by intro z; cases z)) c1 g1
  obtain ⟨y9, h9, z1, z2⟩ := acSw (E := E) (by omega) hsm c2 c3 c4 d' (f + 84) (by omega) (by omega)
  have z4 : h2 = h9 := (inl_j g1 z1).2
  have fP := FrP_w (by decide +kernel : wF sc9.2.1 lP = true) c5
  have c8 : h1.2.2.2.1 ≤ h.2.2.2.1 + 9 := c6
  have c9 : h1.2.2.2.2 ≤ h.2.2.2.2 + 1200 := c7
  have g8 : h2.2.2.2.1 ≤ h1.2.2.2.1 + 0 := g6
  have g9 : h2.2.2.2.2 ≤ h1.2.2.2.2 + 0 := g7
  obtain ⟨σ, hR, hM, hW, h39⟩ := id pX.1
  obtain ⟨xc, hc9, k1, k2, k3⟩ := caSw (E := E) (by omega) hsm gI gP gT pE.2.1 hR hW (k9 := E.2 (I + 1)) d' (f + 92) (by omega) (by omega)
  have z5 := (inl_j c1 k1).2
  rw [← z5] at k2 k3
  obtain ⟨ym, hm9, l1, l2⟩ := maSw (E := E) (h := h1) (by omega) hsm c2 c3 c4 (RMf_p hM hW fP.2.2.2.2) hW (k9 := E.2 (I + 1)) d' (f + 84) (by omega) (by omega)
  have z7 := (inl_j g1 l1).2
  rw [← z7] at l2
  have x27 : h2.2.1 27 2 = h1.2.1 27 2 := g5 27 2 (by decide +kernel)
  have x84 : h1.2.1 84 7 = h.2.1 84 7 := c5 84 7 (by decide +kernel)
  have d5 := row_w (by decide +kernel : wF sc9.2.1 lRow = true) c5
  have b27 := gI.1 27 2
  rw [biv272] at b27
  have b27a : 0 ≤ (h.2.1 27 2).toInt := b27.1
  have b27b : (h.2.1 27 2).toInt ≤ 12 := b27.2
  have E1 : h2.2.1 4 0 = h.2.1 4 0 := (g5 4 0 (by decide +kernel)).trans (c5 4 0 (by decide +kernel))
  have E2 : h2.2.1 4 2 = h.2.1 4 2 := (g5 4 2 (by decide +kernel)).trans (c5 4 2 (by decide +kernel))
  have E3 : ∀ k : Nat, k < 8 → (k : Int) < (h.2.1 4 2).toInt → h2.2.1 8 k = h.2.1 8 k := fun k _ _ => (g5 8 k (show Nat.testBit sc368.2.1 (bun 8 0) = false by decide +kernel)).trans (c5 8 k (show Nat.testBit sc9.2.1 (bun 8 0) = false by decide +kernel))
  have hWr := hW.1
  have hWp := hW.2.2.1
  have rsg : RS9 h1 h2 := RS9_w (by decide +kernel : wF sc368.2.1 lPa = true) (g5 27 3 (by decide +kernel)) g5
  obtain ⟨xb, hb9, bq1, bc, bn⟩ := cbSw (E := E) (by omega) hsm gI gP gT pE.2.1 hR hW (k9 := E.2 (I + 1)) d' (f + 92) (by omega) (by omega)
  have z51 := (inl_j c1 bq1).2
  rw [← z51] at bc bn
  obtain ⟨yb, hm8, mq1, mc, mn⟩ := mbSw (E := E) (h := h1) (by omega) hsm c2 c3 c4 (RMf_p hM hW fP.2.2.2.2) hW (k9 := E.2 (I + 1)) d' (f + 84) (by omega) (by omega)
  have z52 := (inl_j g1 mq1).2
  rw [← z52] at mc mn
  have d9 : ∀ k, h1.2.1 89 k = h.2.1 89 k := fun k => c5 89 k (show Nat.testBit sc9.2.1 (bun 89 0) = false by decide +kernel)
  have s7 : (h1.2.1 84 7).toInt = (h.2.1 27 2).toInt := by rw [x84, pE.1]
  have qp2 : QP h2 := by
    by_cases hcc : 0 ≤ (E.2 (I + 1)).toInt ∧ (E.2 (I + 1)).toInt < (sR σ : Int)
    · obtain ⟨n9, hn9, hn12, rx1, rx2, rx3⟩ := bc hcc
      have mz := mc hcc
      exact QP_act hn9 hn12 ⟨b27a, b27b⟩ E1 E2 E3 (by rw [x27, k2, if_pos hcc]; rfl) (by rw [g5 27 3 (by decide +kernel)]; exact rx1) (fun c k q => (rsg.1 _ (by omega) (by have c6 := gq6 q; omega) k).trans (rx2 c k q)) (fun r hr hrn c hc k => (rsg.1 _ (by omega) (by omega) k).trans (rx3 r hr hrn c hc k)) (fun z => ⟨fun b k hb hk => ((mz.1 (by rw [s7]; exact z)).1 b k hb hk).trans (d9 _), fun k hk => ((mz.1 (by rw [s7]; exact z)).2 k hk).trans (d5 k hk)⟩) (fun s z h12 => ⟨fun b k hb hk => ((mz.2 s (by rw [s7]; exact z) h12).1 b k hb hk).trans (d9 _), fun k hk => ((mz.2 s (by rw [s7]; exact z) h12).2 k hk).trans (d5 k hk)⟩) pE.2.2.1 pE.2.2.2.2
    · have bn9 := bn hcc
      have mn9 := mn hcc
      exact QP_f E1 E2 E3 (by rw [x27, bn9]) (by rw [g5 27 3 (by decide +kernel), bn9]) (fun r hr c hc k => (rsg.1 _ (by omega) (by omega) k).trans (by rw [bn9])) (fun k => (mn9 k).trans (d9 k)) pE.2.2.2.2
  have sx2 : SX h2 4 18 85 0 := SXn_w (by decide +kernel : wF sc368.2.1 lNq = true) g5 (Q85_w (by decide +kernel : wF sc368.2.1 l85 = true) g5) (SXn_w (by decide +kernel : wF sc9.2.1 lNq = true) c5 (Q85_w (by decide +kernel : wF sc9.2.1 l85 = true) c5) pE.2.2.1)
  have qx2 : QX h2 := ⟨sx2, QI_w (by decide +kernel : wF sc368.2.1 lQI = true) g5 (QI_w (by decide +kernel : wF sc9.2.1 lQI = true) c5 pE.2.2.2.1), qp2⟩
  exact ⟨h2, _, _, f + 80, L, im, by omega, e, ⟨LI_f g2 g3 g4 (FrT_t (FrT_w (by decide +kernel : wF sc9.2.1 lT = true) c5) (FrT_w (by decide +kernel : wF sc368.2.1 lT = true) g5)) hL9, PX_a (FrP_t fP (FrP_w (by decide +kernel : wF sc368.2.1 lP = true) g5)) (fun a => by rw [z4]; exact z2 (AI_f (FrA_w (by decide +kernel : wF sc9.2.1 lA = true) c5) fP.2.2.2.2 a)) (FrI_t (FrI_w (by decide +kernel : wF sc9.2.1 lI = true) c5) (FrI_w (by decide +kernel : wF sc368.2.1 lI = true) g5)) pX, ⟨Int32.toInt_inj.mp (by rw [x27, k2, l2, x84, pE.1]), paQ_f g1 g3 x27 (g5 27 3 (by decide +kernel)) k3, qx2⟩⟩, by omega, by omega⟩
set_option maxRecDepth 100000 in
theorem op_beat (hE : E.1 ≤ 3072) (hsm : bSO E ctb B (60, smT)) (hX : LX h L im) {iv : Int32} {I : Nat} (hiv : iv.toInt = (I : Int)) (hI6 : I + 6 ≤ E.1) {u5 u6 : Option Value} : ∀ d f, 100 ≤ d → B + 6000000 ≤ f → opS E d iv f h (zex E (f + 100) d 0 699 (t5K iv u5 u6) [] h) := by
  intro d f hd hf
  obtain ⟨d', hd'⟩ : ∃ d', d = d' + 1 := ⟨d - 1, by omega⟩
  subst hd'
  obtain ⟨hL9, pX, pE⟩ := id hX
  obtain ⟨gI, gP, gT, q4⟩ := id hL9
  have w1 := bi32 (E.2 (I + 1))
  obtain ⟨v1, h1, c1, c2, ⟨c3, c4⟩, c5, c6, c7, p1, m1, b1⟩ := hsm 11 [sc10] rfl sc10 (List.Mem.head _) (by decide) [(E.2 (I + 1)).toInt] [.ref 0, .int (E.2 (I + 1)), .ref 94] h d' (f + 92) (3, 4, 1, 99, 1, 1) rfl (by show 5 ≤ d'; omega) (by omega) ⟨rfl, ⟨_, rfl, brel_v rfl⟩, rfl, trivial⟩ (benv_c w1.1 w1.2 benv_n) bcs_n (fun e he => absurd he List.not_mem_nil) gI gP gT
  obtain ⟨x, hx⟩ := bPR_i m1 (by decide) b1
  subst hx
  have c1 : zex E (f + 92) d' 11 0 [some (.ref 0), some (.int (E.2 (I + 1))), some (.ref 94), none] [] h = some (.inl (some (.int x)), h1) := c1
  obtain ⟨v2, h2, g1, g2, ⟨g3, g4⟩, g5, g6, g7, p2, m2, b2⟩ := hsm 288 [sc369] rfl sc369 (List.Mem.head _) (by decide) [(E.2 (I + 1)).toInt] [.ref 84, .int (E.2 (I + 1))] h1 d' (f + 84) (2, 2, 0, 12, 1, 0) rfl (by show 2 ≤ d'; omega) (by omega) ⟨rfl, ⟨_, rfl, brel_v rfl⟩, trivial⟩ (benv_c w1.1 w1.2 benv_n) bcs_n (fun e he => absurd he List.not_mem_nil) c2 c3 c4
  obtain ⟨y, hy⟩ := bPR_i m2 (by decide) b2
  subst hy
  have g1 : zex E (f + 84) d' 288 0 [some (.ref 84), some (.int (E.2 (I + 1)))] [] h1 = some (.inl (some (.int y)), h2) := g1
  have e := tp_beat (E := E) (n := f + 80) (d := d') (I := I) (i := iv) (u5 := u5) (u6 := u6) (fun k hk => baddk hiv (by omega) (by omega)) hI6 (c4 84 _ cs84 (by intro z; cases z)) c1 g1
  obtain ⟨y9, h9, z1, z2⟩ := acBe (E := E) (by omega) hsm c2 c3 c4 d' (f + 84) (by omega) (by omega)
  have z4 : h2 = h9 := (inl_j g1 z1).2
  have fP := FrP_w (by decide +kernel : wF sc10.2.1 lP = true) c5
  have c8 : h1.2.2.2.1 ≤ h.2.2.2.1 + 9 := c6
  have c9 : h1.2.2.2.2 ≤ h.2.2.2.2 + 1200 := c7
  have g8 : h2.2.2.2.1 ≤ h1.2.2.2.1 + 0 := g6
  have g9 : h2.2.2.2.2 ≤ h1.2.2.2.2 + 0 := g7
  obtain ⟨σ, hR, hM, hW, h39⟩ := id pX.1
  obtain ⟨xc, hc9, k1, k2, k3⟩ := caBe (E := E) (by omega) hsm gI gP gT pE.2.1 hR hW (k9 := E.2 (I + 1)) d' (f + 92) (by omega) (by omega)
  have z5 := (inl_j c1 k1).2
  rw [← z5] at k2 k3
  obtain ⟨ym, hm9, l1, l2⟩ := maBe (E := E) (h := h1) (by omega) hsm c2 c3 c4 (RMf_p hM hW fP.2.2.2.2) hW (k9 := E.2 (I + 1)) d' (f + 84) (by omega) (by omega)
  have z7 := (inl_j g1 l1).2
  rw [← z7] at l2
  have x27 : h2.2.1 27 2 = h1.2.1 27 2 := g5 27 2 (by decide +kernel)
  have x84 : h1.2.1 84 7 = h.2.1 84 7 := c5 84 7 (by decide +kernel)
  have d5 := row_w (by decide +kernel : wF sc10.2.1 lRow = true) c5
  have b27 := gI.1 27 2
  rw [biv272] at b27
  have b27a : 0 ≤ (h.2.1 27 2).toInt := b27.1
  have b27b : (h.2.1 27 2).toInt ≤ 12 := b27.2
  have E1 : h2.2.1 4 0 = h.2.1 4 0 := (g5 4 0 (by decide +kernel)).trans (c5 4 0 (by decide +kernel))
  have E2 : h2.2.1 4 2 = h.2.1 4 2 := (g5 4 2 (by decide +kernel)).trans (c5 4 2 (by decide +kernel))
  have E3 : ∀ k : Nat, k < 8 → (k : Int) < (h.2.1 4 2).toInt → h2.2.1 8 k = h.2.1 8 k := fun k _ _ => (g5 8 k (show Nat.testBit sc369.2.1 (bun 8 0) = false by decide +kernel)).trans (c5 8 k (show Nat.testBit sc10.2.1 (bun 8 0) = false by decide +kernel))
  have hWr := hW.1
  have hWp := hW.2.2.1
  have rsg : RS9 h1 h2 := RS9_w (by decide +kernel : wF sc369.2.1 lPa = true) (g5 27 3 (by decide +kernel)) g5
  obtain ⟨xb, hb9, bq1, bc, bn⟩ := cbBe (E := E) (by omega) hsm gI gP gT pE.2.1 hR hW (k9 := E.2 (I + 1)) d' (f + 92) (by omega) (by omega)
  have z51 := (inl_j c1 bq1).2
  rw [← z51] at bc bn
  obtain ⟨yb, hm8, mq1, mc, mn⟩ := mbBe (E := E) (h := h1) (by omega) hsm c2 c3 c4 (RMf_p hM hW fP.2.2.2.2) hW (k9 := E.2 (I + 1)) d' (f + 84) (by omega) (by omega)
  have z52 := (inl_j g1 mq1).2
  rw [← z52] at mc mn
  have d9 : ∀ k, h1.2.1 89 k = h.2.1 89 k := fun k => c5 89 k (show Nat.testBit sc10.2.1 (bun 89 0) = false by decide +kernel)
  have s7 : (h1.2.1 84 7).toInt = (h.2.1 27 2).toInt := by rw [x84, pE.1]
  have qp2 : QP h2 := by
    by_cases hcc : 0 ≤ (E.2 (I + 1)).toInt ∧ (E.2 (I + 1)).toInt < (sP σ : Int)
    · obtain ⟨n9, hn9, hn12, rx1, rx2, rx3⟩ := bc hcc
      have mz := mc hcc
      exact QP_act hn9 hn12 ⟨b27a, b27b⟩ E1 E2 E3 (by rw [x27, k2, if_pos hcc]; rfl) (by rw [g5 27 3 (by decide +kernel)]; exact rx1) (fun c k q => (rsg.1 _ (by omega) (by have c6 := gq6 q; omega) k).trans (rx2 c k q)) (fun r hr hrn c hc k => (rsg.1 _ (by omega) (by omega) k).trans (rx3 r hr hrn c hc k)) (fun z => ⟨fun b k hb hk => ((mz.1 (by rw [s7]; exact z)).1 b k hb hk).trans (d9 _), fun k hk => ((mz.1 (by rw [s7]; exact z)).2 k hk).trans (d5 k hk)⟩) (fun s z h12 => ⟨fun b k hb hk => ((mz.2 s (by rw [s7]; exact z) h12).1 b k hb hk).trans (d9 _), fun k hk => ((mz.2 s (by rw [s7]; exact z) h12).2 k hk).trans (d5 k hk)⟩) pE.2.2.1 pE.2.2.2.2
    · have bn9 := bn hcc
      have mn9 := mn hcc
      exact QP_f E1 E2 E3 (by rw [x27, bn9]) (by rw [g5 27 3 (by decide +kernel), bn9]) (fun r hr c hc k => (rsg.1 _ (by omega) (by omega) k).trans (by rw [bn9])) (fun k => (mn9 k).trans (d9 k)) pE.2.2.2.2
  have sx2 : SX h2 4 18 85 0 := SXn_w (by decide +kernel : wF sc369.2.1 lNq = true) g5 (Q85_w (by decide +kernel : wF sc369.2.1 l85 = true) g5) (SXn_w (by decide +kernel : wF sc10.2.1 lNq = true) c5 (Q85_w (by decide +kernel : wF sc10.2.1 l85 = true) c5) pE.2.2.1)
  have qx2 : QX h2 := ⟨sx2, QI_w (by decide +kernel : wF sc369.2.1 lQI = true) g5 (QI_w (by decide +kernel : wF sc10.2.1 lQI = true) c5 pE.2.2.2.1), qp2⟩
  exact ⟨h2, _, _, f + 80, L, im, by omega, e, ⟨LI_f g2 g3 g4 (FrT_t (FrT_w (by decide +kernel : wF sc10.2.1 lT = true) c5) (FrT_w (by decide +kernel : wF sc369.2.1 lT = true) g5)) hL9, PX_a (FrP_t fP (FrP_w (by decide +kernel : wF sc369.2.1 lP = true) g5)) (fun a => by rw [z4]; exact z2 (AI_f (FrA_w (by decide +kernel : wF sc10.2.1 lA = true) c5) fP.2.2.2.2 a)) (FrI_t (FrI_w (by decide +kernel : wF sc10.2.1 lI = true) c5) (FrI_w (by decide +kernel : wF sc369.2.1 lI = true) g5)) pX, ⟨Int32.toInt_inj.mp (by rw [x27, k2, l2, x84, pE.1]), paQ_f g1 g3 x27 (g5 27 3 (by decide +kernel)) k3, qx2⟩⟩, by omega, by omega⟩
set_option maxRecDepth 100000 in
theorem op_tool (hE : E.1 ≤ 3072) (hsm : bSO E ctb B (60, smT)) (hX : LX h L im) {iv : Int32} {I : Nat} (hiv : iv.toInt = (I : Int)) (hI6 : I + 6 ≤ E.1) {u5 u6 : Option Value} : ∀ d f, 100 ≤ d → B + 6000000 ≤ f → opS E d iv f h (zex E (f + 100) d 0 727 (t5K iv u5 u6) [] h) := by
  intro d f hd hf
  obtain ⟨d', hd'⟩ : ∃ d', d = d' + 1 := ⟨d - 1, by omega⟩
  subst hd'
  obtain ⟨hL9, pX, pE⟩ := id hX
  obtain ⟨gI, gP, gT, q4⟩ := id hL9
  have w1 := bi32 (E.2 (I + 1))
  have w2 := bi32 (E.2 (I + 2))
  obtain ⟨v1, h1, c1, c2, ⟨c3, c4⟩, c5, c6, c7, p1, m1, b1⟩ := hsm 12 [sc11] rfl sc11 (List.Mem.head _) (by decide) [(E.2 (I + 1)).toInt, (E.2 (I + 2)).toInt] [.ref 0, .int (E.2 (I + 1)), .int (E.2 (I + 2)), .ref 94] h d' (f + 87) (4, 5, 1, 99, 1, 1) rfl (by show 5 ≤ d'; omega) (by omega) ⟨rfl, ⟨_, rfl, brel_v rfl⟩, ⟨_, rfl, brel_v rfl⟩, rfl, trivial⟩ (benv_c w1.1 w1.2 (benv_c w2.1 w2.2 benv_n)) bcs_n (fun e he => absurd he List.not_mem_nil) gI gP gT
  obtain ⟨x, hx⟩ := bPR_i m1 (by decide) b1
  subst hx
  have c1 : zex E (f + 87) d' 12 0 [some (.ref 0), some (.int (E.2 (I + 1))), some (.int (E.2 (I + 2))), some (.ref 94), none] [] h = some (.inl (some (.int x)), h1) := c1
  obtain ⟨v2, h2, g1, g2, ⟨g3, g4⟩, g5, g6, g7, p2, m2, b2⟩ := hsm 290 [sc370] rfl sc370 (List.Mem.head _) (by decide) [(E.2 (I + 1)).toInt, (E.2 (I + 2)).toInt] [.ref 84, .int (E.2 (I + 1)), .int (E.2 (I + 2))] h1 d' (f + 74) (3, 3, 0, 12, 1, 0) rfl (by show 2 ≤ d'; omega) (by omega) ⟨rfl, ⟨_, rfl, brel_v rfl⟩, ⟨_, rfl, brel_v rfl⟩, trivial⟩ (benv_c w1.1 w1.2 (benv_c w2.1 w2.2 benv_n)) bcs_n (fun e he => absurd he List.not_mem_nil) c2 c3 c4
  obtain ⟨y, hy⟩ := bPR_i m2 (by decide) b2
  subst hy
  have g1 : zex E (f + 74) d' 290 0 [some (.ref 84), some (.int (E.2 (I + 1))), some (.int (E.2 (I + 2)))] [] h1 = some (.inl (some (.int y)), h2) := g1
  have e := tp_tool (E := E) (n := f + 70) (d := d') (I := I) (i := iv) (u5 := u5) (u6 := u6) (fun k hk => baddk hiv (by omega) (by omega)) hI6 (c4 84 _ cs84 (by intro z; cases z)) c1 g1
  obtain ⟨y9, h9, z1, z2⟩ := acTo (E := E) (by omega) hsm c2 c3 c4 d' (f + 74) (by omega) (by omega)
  have z4 : h2 = h9 := (inl_j g1 z1).2
  have fP := FrP_w (by decide +kernel : wF sc11.2.1 lP = true) c5
  have c8 : h1.2.2.2.1 ≤ h.2.2.2.1 + 9 := c6
  have c9 : h1.2.2.2.2 ≤ h.2.2.2.2 + 1200 := c7
  have g8 : h2.2.2.2.1 ≤ h1.2.2.2.1 + 0 := g6
  have g9 : h2.2.2.2.2 ≤ h1.2.2.2.2 + 0 := g7
  obtain ⟨σ, hR, hM, hW, h39⟩ := id pX.1
  obtain ⟨xc, hc9, k1, k2, k3⟩ := caTo (E := E) (by omega) hsm gI gP gT pE.2.1 hR hW (k9 := E.2 (I + 1)) (x9 := E.2 (I + 2)) d' (f + 87) (by omega) (by omega)
  have z5 := (inl_j c1 k1).2
  rw [← z5] at k2 k3
  obtain ⟨ym, hm9, l1, l2⟩ := maTo (E := E) (h := h1) (by omega) hsm c2 c3 c4 (RMf_p hM hW fP.2.2.2.2) hW (k9 := E.2 (I + 1)) (x9 := E.2 (I + 2)) d' (f + 74) (by omega) (by omega)
  have z7 := (inl_j g1 l1).2
  rw [← z7] at l2
  have x27 : h2.2.1 27 2 = h1.2.1 27 2 := g5 27 2 (by decide +kernel)
  have x84 : h1.2.1 84 7 = h.2.1 84 7 := c5 84 7 (by decide +kernel)
  have d5 := row_w (by decide +kernel : wF sc11.2.1 lRow = true) c5
  have b27 := gI.1 27 2
  rw [biv272] at b27
  have b27a : 0 ≤ (h.2.1 27 2).toInt := b27.1
  have b27b : (h.2.1 27 2).toInt ≤ 12 := b27.2
  have E1 : h2.2.1 4 0 = h.2.1 4 0 := (g5 4 0 (by decide +kernel)).trans (c5 4 0 (by decide +kernel))
  have E2 : h2.2.1 4 2 = h.2.1 4 2 := (g5 4 2 (by decide +kernel)).trans (c5 4 2 (by decide +kernel))
  have E3 : ∀ k : Nat, k < 8 → (k : Int) < (h.2.1 4 2).toInt → h2.2.1 8 k = h.2.1 8 k := fun k _ _ => (g5 8 k (show Nat.testBit sc370.2.1 (bun 8 0) = false by decide +kernel)).trans (c5 8 k (show Nat.testBit sc11.2.1 (bun 8 0) = false by decide +kernel))
  have hWr := hW.1
  have hWp := hW.2.2.1
  have rsg : RS9 h1 h2 := RS9_w (by decide +kernel : wF sc370.2.1 lPa = true) (g5 27 3 (by decide +kernel)) g5
  obtain ⟨xb, hb9, bq1, bc, bn⟩ := cbTo (E := E) (by omega) hsm gI gP gT pE.2.1 hR hW (k9 := E.2 (I + 1)) (x9 := E.2 (I + 2)) d' (f + 87) (by omega) (by omega)
  have z51 := (inl_j c1 bq1).2
  rw [← z51] at bc bn
  obtain ⟨yb, hm8, mq1, mc, mn⟩ := mbTo (E := E) (h := h1) (by omega) hsm c2 c3 c4 (RMf_p hM hW fP.2.2.2.2) hW (k9 := E.2 (I + 1)) (x9 := E.2 (I + 2)) d' (f + 74) (by omega) (by omega)
  have z52 := (inl_j g1 mq1).2
  rw [← z52] at mc mn
  have d9 : ∀ k, h1.2.1 89 k = h.2.1 89 k := fun k => c5 89 k (show Nat.testBit sc11.2.1 (bun 89 0) = false by decide +kernel)
  have s7 : (h1.2.1 84 7).toInt = (h.2.1 27 2).toInt := by rw [x84, pE.1]
  have qp2 : QP h2 := by
    by_cases hcc : (0 ≤ (E.2 (I + 1)).toInt ∧ (E.2 (I + 1)).toInt < (sR σ : Int)) ∧ (0 ≤ (E.2 (I + 2)).toInt ∧ (E.2 (I + 2)).toInt ≤ 100)
    · obtain ⟨n9, hn9, hn12, rx1, rx2, rx3⟩ := bc hcc
      have mz := mc hcc
      exact QP_act hn9 hn12 ⟨b27a, b27b⟩ E1 E2 E3 (by rw [x27, k2, if_pos hcc]; rfl) (by rw [g5 27 3 (by decide +kernel)]; exact rx1) (fun c k q => (rsg.1 _ (by omega) (by have c6 := gq6 q; omega) k).trans (rx2 c k q)) (fun r hr hrn c hc k => (rsg.1 _ (by omega) (by omega) k).trans (rx3 r hr hrn c hc k)) (fun z => ⟨fun b k hb hk => ((mz.1 (by rw [s7]; exact z)).1 b k hb hk).trans (d9 _), fun k hk => ((mz.1 (by rw [s7]; exact z)).2 k hk).trans (d5 k hk)⟩) (fun s z h12 => ⟨fun b k hb hk => ((mz.2 s (by rw [s7]; exact z) h12).1 b k hb hk).trans (d9 _), fun k hk => ((mz.2 s (by rw [s7]; exact z) h12).2 k hk).trans (d5 k hk)⟩) pE.2.2.1 pE.2.2.2.2
    · have bn9 := bn hcc
      have mn9 := mn hcc
      exact QP_f E1 E2 E3 (by rw [x27, bn9]) (by rw [g5 27 3 (by decide +kernel), bn9]) (fun r hr c hc k => (rsg.1 _ (by omega) (by omega) k).trans (by rw [bn9])) (fun k => (mn9 k).trans (d9 k)) pE.2.2.2.2
  have sx2 : SX h2 4 18 85 0 := SXn_w (by decide +kernel : wF sc370.2.1 lNq = true) g5 (Q85_w (by decide +kernel : wF sc370.2.1 l85 = true) g5) (SXn_w (by decide +kernel : wF sc11.2.1 lNq = true) c5 (Q85_w (by decide +kernel : wF sc11.2.1 l85 = true) c5) pE.2.2.1)
  have qx2 : QX h2 := ⟨sx2, QI_w (by decide +kernel : wF sc370.2.1 lQI = true) g5 (QI_w (by decide +kernel : wF sc11.2.1 lQI = true) c5 pE.2.2.2.1), qp2⟩
  exact ⟨h2, _, _, f + 70, L, im, by omega, e, ⟨LI_f g2 g3 g4 (FrT_t (FrT_w (by decide +kernel : wF sc11.2.1 lT = true) c5) (FrT_w (by decide +kernel : wF sc370.2.1 lT = true) g5)) hL9, PX_a (FrP_t fP (FrP_w (by decide +kernel : wF sc370.2.1 lP = true) g5)) (fun a => by rw [z4]; exact z2 (AI_f (FrA_w (by decide +kernel : wF sc11.2.1 lA = true) c5) fP.2.2.2.2 a)) (FrI_t (FrI_w (by decide +kernel : wF sc11.2.1 lI = true) c5) (FrI_w (by decide +kernel : wF sc370.2.1 lI = true) g5)) pX, ⟨Int32.toInt_inj.mp (by rw [x27, k2, l2, x84, pE.1]), paQ_f g1 g3 x27 (g5 27 3 (by decide +kernel)) k3, qx2⟩⟩, by omega, by omega⟩
set_option maxRecDepth 100000 in
theorem op_soak (hE : E.1 ≤ 3072) (hsm : bSO E ctb B (60, smT)) (hX : LX h L im) {iv : Int32} {I : Nat} (hiv : iv.toInt = (I : Int)) (hI6 : I + 6 ≤ E.1) {u5 u6 : Option Value} : ∀ d f, 100 ≤ d → B + 6000000 ≤ f → opS E d iv f h (zex E (f + 100) d 0 835 (t5K iv u5 u6) [] h) := by
  intro d f hd hf
  obtain ⟨d', hd'⟩ : ∃ d', d = d' + 1 := ⟨d - 1, by omega⟩
  subst hd'
  obtain ⟨hL9, pX, pE⟩ := id hX
  obtain ⟨gI, gP, gT, q4⟩ := id hL9
  have w1 := bi32 (E.2 (I + 1))
  have w2 := bi32 (E.2 (I + 2))
  obtain ⟨v1, h1, c1, c2, ⟨c3, c4⟩, c5, c6, c7, p1, m1, b1⟩ := hsm 14 [sc13] rfl sc13 (List.Mem.head _) (by decide) [(E.2 (I + 1)).toInt, (E.2 (I + 2)).toInt] [.ref 0, .int (E.2 (I + 1)), .int (E.2 (I + 2)), .ref 94] h d' (f + 87) (4, 5, 1, 99, 1, 1) rfl (by show 5 ≤ d'; omega) (by omega) ⟨rfl, ⟨_, rfl, brel_v rfl⟩, ⟨_, rfl, brel_v rfl⟩, rfl, trivial⟩ (benv_c w1.1 w1.2 (benv_c w2.1 w2.2 benv_n)) bcs_n (fun e he => absurd he List.not_mem_nil) gI gP gT
  obtain ⟨x, hx⟩ := bPR_i m1 (by decide) b1
  subst hx
  have c1 : zex E (f + 87) d' 14 0 [some (.ref 0), some (.int (E.2 (I + 1))), some (.int (E.2 (I + 2))), some (.ref 94), none] [] h = some (.inl (some (.int x)), h1) := c1
  obtain ⟨v2, h2, g1, g2, ⟨g3, g4⟩, g5, g6, g7, p2, m2, b2⟩ := hsm 292 [sc372] rfl sc372 (List.Mem.head _) (by decide) [(E.2 (I + 1)).toInt, (E.2 (I + 2)).toInt] [.ref 84, .int (E.2 (I + 1)), .int (E.2 (I + 2))] h1 d' (f + 74) (3, 3, 0, 12, 1, 0) rfl (by show 2 ≤ d'; omega) (by omega) ⟨rfl, ⟨_, rfl, brel_v rfl⟩, ⟨_, rfl, brel_v rfl⟩, trivial⟩ (benv_c w1.1 w1.2 (benv_c w2.1 w2.2 benv_n)) bcs_n (fun e he => absurd he List.not_mem_nil) c2 c3 c4
  obtain ⟨y, hy⟩ := bPR_i m2 (by decide) b2
  subst hy
  have g1 : zex E (f + 74) d' 292 0 [some (.ref 84), some (.int (E.2 (I + 1))), some (.int (E.2 (I + 2)))] [] h1 = some (.inl (some (.int y)), h2) := g1
  have e := tp_soak (E := E) (n := f + 70) (d := d') (I := I) (i := iv) (u5 := u5) (u6 := u6) (fun k hk => baddk hiv (by omega) (by omega)) hI6 (c4 84 _ cs84 (by intro z; cases z)) c1 g1
  obtain ⟨y9, h9, z1, z2⟩ := acSo (E := E) (by omega) hsm c2 c3 c4 d' (f + 74) (by omega) (by omega)
  have z4 : h2 = h9 := (inl_j g1 z1).2
  have fP := FrP_w (by decide +kernel : wF sc13.2.1 lP = true) c5
  have c8 : h1.2.2.2.1 ≤ h.2.2.2.1 + 9 := c6
  have c9 : h1.2.2.2.2 ≤ h.2.2.2.2 + 1200 := c7
  have g8 : h2.2.2.2.1 ≤ h1.2.2.2.1 + 0 := g6
  have g9 : h2.2.2.2.2 ≤ h1.2.2.2.2 + 0 := g7
  obtain ⟨σ, hR, hM, hW, h39⟩ := id pX.1
  obtain ⟨xc, hc9, k1, k2, k3⟩ := caSo (E := E) (by omega) hsm gI gP gT pE.2.1 hR hW (k9 := E.2 (I + 1)) (x9 := E.2 (I + 2)) d' (f + 87) (by omega) (by omega)
  have z5 := (inl_j c1 k1).2
  rw [← z5] at k2 k3
  obtain ⟨ym, hm9, l1, l2⟩ := maSo (E := E) (h := h1) (by omega) hsm c2 c3 c4 (RMf_p hM hW fP.2.2.2.2) hW (k9 := E.2 (I + 1)) (x9 := E.2 (I + 2)) d' (f + 74) (by omega) (by omega)
  have z7 := (inl_j g1 l1).2
  rw [← z7] at l2
  have x27 : h2.2.1 27 2 = h1.2.1 27 2 := g5 27 2 (by decide +kernel)
  have x84 : h1.2.1 84 7 = h.2.1 84 7 := c5 84 7 (by decide +kernel)
  have d5 := row_w (by decide +kernel : wF sc13.2.1 lRow = true) c5
  have b27 := gI.1 27 2
  rw [biv272] at b27
  have b27a : 0 ≤ (h.2.1 27 2).toInt := b27.1
  have b27b : (h.2.1 27 2).toInt ≤ 12 := b27.2
  have E1 : h2.2.1 4 0 = h.2.1 4 0 := (g5 4 0 (by decide +kernel)).trans (c5 4 0 (by decide +kernel))
  have E2 : h2.2.1 4 2 = h.2.1 4 2 := (g5 4 2 (by decide +kernel)).trans (c5 4 2 (by decide +kernel))
  have E3 : ∀ k : Nat, k < 8 → (k : Int) < (h.2.1 4 2).toInt → h2.2.1 8 k = h.2.1 8 k := fun k _ _ => (g5 8 k (show Nat.testBit sc372.2.1 (bun 8 0) = false by decide +kernel)).trans (c5 8 k (show Nat.testBit sc13.2.1 (bun 8 0) = false by decide +kernel))
  have hWr := hW.1
  have hWp := hW.2.2.1
  have rsg : RS9 h1 h2 := RS9_w (by decide +kernel : wF sc372.2.1 lPa = true) (g5 27 3 (by decide +kernel)) g5
  obtain ⟨xb, hb9, bq1, bc, bn⟩ := cbSo (E := E) (by omega) hsm gI gP gT pE.2.1 hR hW (k9 := E.2 (I + 1)) (x9 := E.2 (I + 2)) d' (f + 87) (by omega) (by omega)
  have z51 := (inl_j c1 bq1).2
  rw [← z51] at bc bn
  obtain ⟨yb, hm8, mq1, mc, mn⟩ := mbSo (E := E) (h := h1) (by omega) hsm c2 c3 c4 (RMf_p hM hW fP.2.2.2.2) hW (k9 := E.2 (I + 1)) (x9 := E.2 (I + 2)) d' (f + 74) (by omega) (by omega)
  have z52 := (inl_j g1 mq1).2
  rw [← z52] at mc mn
  have d9 : ∀ k, h1.2.1 89 k = h.2.1 89 k := fun k => c5 89 k (show Nat.testBit sc13.2.1 (bun 89 0) = false by decide +kernel)
  have s7 : (h1.2.1 84 7).toInt = (h.2.1 27 2).toInt := by rw [x84, pE.1]
  have qp2 : QP h2 := by
    by_cases hcc : (0 ≤ (E.2 (I + 1)).toInt ∧ (E.2 (I + 1)).toInt < (sP σ : Int)) ∧ (0 ≤ (E.2 (I + 2)).toInt ∧ (E.2 (I + 2)).toInt ≤ 99)
    · obtain ⟨n9, hn9, hn12, rx1, rx2, rx3⟩ := bc hcc
      have mz := mc hcc
      exact QP_act hn9 hn12 ⟨b27a, b27b⟩ E1 E2 E3 (by rw [x27, k2, if_pos hcc]; rfl) (by rw [g5 27 3 (by decide +kernel)]; exact rx1) (fun c k q => (rsg.1 _ (by omega) (by have c6 := gq6 q; omega) k).trans (rx2 c k q)) (fun r hr hrn c hc k => (rsg.1 _ (by omega) (by omega) k).trans (rx3 r hr hrn c hc k)) (fun z => ⟨fun b k hb hk => ((mz.1 (by rw [s7]; exact z)).1 b k hb hk).trans (d9 _), fun k hk => ((mz.1 (by rw [s7]; exact z)).2 k hk).trans (d5 k hk)⟩) (fun s z h12 => ⟨fun b k hb hk => ((mz.2 s (by rw [s7]; exact z) h12).1 b k hb hk).trans (d9 _), fun k hk => ((mz.2 s (by rw [s7]; exact z) h12).2 k hk).trans (d5 k hk)⟩) pE.2.2.1 pE.2.2.2.2
    · have bn9 := bn hcc
      have mn9 := mn hcc
      exact QP_f E1 E2 E3 (by rw [x27, bn9]) (by rw [g5 27 3 (by decide +kernel), bn9]) (fun r hr c hc k => (rsg.1 _ (by omega) (by omega) k).trans (by rw [bn9])) (fun k => (mn9 k).trans (d9 k)) pE.2.2.2.2
  have sx2 : SX h2 4 18 85 0 := SXn_w (by decide +kernel : wF sc372.2.1 lNq = true) g5 (Q85_w (by decide +kernel : wF sc372.2.1 l85 = true) g5) (SXn_w (by decide +kernel : wF sc13.2.1 lNq = true) c5 (Q85_w (by decide +kernel : wF sc13.2.1 l85 = true) c5) pE.2.2.1)
  have qx2 : QX h2 := ⟨sx2, QI_w (by decide +kernel : wF sc372.2.1 lQI = true) g5 (QI_w (by decide +kernel : wF sc13.2.1 lQI = true) c5 pE.2.2.2.1), qp2⟩
  exact ⟨h2, _, _, f + 70, L, im, by omega, e, ⟨LI_f g2 g3 g4 (FrT_t (FrT_w (by decide +kernel : wF sc13.2.1 lT = true) c5) (FrT_w (by decide +kernel : wF sc372.2.1 lT = true) g5)) hL9, PX_a (FrP_t fP (FrP_w (by decide +kernel : wF sc372.2.1 lP = true) g5)) (fun a => by rw [z4]; exact z2 (AI_f (FrA_w (by decide +kernel : wF sc13.2.1 lA = true) c5) fP.2.2.2.2 a)) (FrI_t (FrI_w (by decide +kernel : wF sc13.2.1 lI = true) c5) (FrI_w (by decide +kernel : wF sc372.2.1 lI = true) g5)) pX, ⟨Int32.toInt_inj.mp (by rw [x27, k2, l2, x84, pE.1]), paQ_f g1 g3 x27 (g5 27 3 (by decide +kernel)) k3, qx2⟩⟩, by omega, by omega⟩
set_option maxRecDepth 100000 in
theorem op_undo (hE : E.1 ≤ 3072) (hsm : bSO E ctb B (60, smT)) (hX : LX h L im) {iv : Int32} {I : Nat} (hiv : iv.toInt = (I : Int)) (hI6 : I + 6 ≤ E.1) {u5 u6 : Option Value} : ∀ d f, 100 ≤ d → B + 6000000 ≤ f → opS E d iv f h (zex E (f + 100) d 0 1887 (t5K iv u5 u6) [] h) := by
  intro d f hd hf
  obtain ⟨d', hd'⟩ : ∃ d', d = d' + 1 := ⟨d - 1, by omega⟩
  subst hd'
  obtain ⟨hL9, pX, pE⟩ := id hX
  obtain ⟨gI, gP, gT, q4⟩ := id hL9
  obtain ⟨v1, h1, c1, c2, ⟨c3, c4⟩, c5, c6, c7, p1, m1, b1⟩ := hsm 83 [sc42] rfl sc42 (List.Mem.head _) (by decide) [] [.ref 0] h d' (f + 98) (1, 1, 0, 11, 2, 0) rfl (by show 4 ≤ d'; omega) (by omega) ⟨rfl, trivial⟩ benv_n bcs_n (fun e he => absurd he List.not_mem_nil) gI gP gT
  obtain ⟨x, hx⟩ := bPR_i m1 (by decide) b1
  subst hx
  have c1 : zex E (f + 98) d' 83 0 [some (.ref 0)] [] h = some (.inl (some (.int x)), h1) := c1
  obtain ⟨v2, h2, g1, g2, ⟨g3, g4⟩, g5, g6, g7, p2, m2, b2⟩ := hsm 215 [sc235] rfl sc235 (List.Mem.head _) (by decide) [] [.ref 84] h1 d' (f + 95) (1, 2, 0, 12, 2, 0) rfl (by show 0 ≤ d'; omega) (by omega) ⟨rfl, trivial⟩ benv_n bcs_n (fun e he => absurd he List.not_mem_nil) c2 c3 c4
  obtain ⟨y, hy⟩ := bPR_i m2 (by decide) b2
  subst hy
  have g1 : zex E (f + 95) d' 215 0 [some (.ref 84), none] [] h1 = some (.inl (some (.int y)), h2) := g1
  have e := tp_undo (E := E) (n := f + 91) (d := d') (I := I) (i := iv) (u5 := u5) (u6 := u6) (fun k hk => baddk hiv (by omega) (by omega)) hI6 (gT 0 _ ks0 (by intro z; cases z)) (c4 84 _ cs84 (by intro z; cases z)) c1 g1
  obtain ⟨y9, h9, z1, z2, z3, z4, z5⟩ := undoM (E := E) c2 c4 (u1 := none) d' (f + 95) (by omega)
  have z6 : h2 = h9 := (inl_j g1 z1).2
  subst z6
  have fP := FrP_w (by decide +kernel : wF sc42.2.1 lP = true) c5
  have a1 : AI h1 := AI_f (FrA_w (by decide +kernel : wF sc42.2.1 lA = true) c5) fP.2.2.2.2 pX.2.1
  obtain ⟨r1, r2⟩ := z5 a1
  have c8 : h1.2.2.2.1 ≤ h.2.2.2.1 + 0 := c6
  have c9 : h1.2.2.2.2 ≤ h.2.2.2.2 + 0 := c7
  have g8 : h2.2.2.2.1 ≤ h1.2.2.2.1 + 0 := g6
  have g9 : h2.2.2.2.2 ≤ h1.2.2.2.2 + 0 := g7
  obtain ⟨xe, k2, k3⟩ := rQ_e c1 (undoC (E := E) (by omega) gI gP gT pE.2.1 d' (f + 98) (by omega) (by omega))
  obtain ⟨ym, hm9, l1, ye, l2⟩ := undoM7 (E := E) (h := h1) c2 c4 (u1 := none) d' (f + 95) (by omega)
  have z7 := (inl_j g1 l1).2
  rw [← z7] at l2
  have x27 : h2.2.1 27 2 = h1.2.1 27 2 := g5 27 2 (by decide +kernel)
  have x84 : h1.2.1 84 7 = h.2.1 84 7 := c5 84 7 (by decide +kernel)
  have d5 := row_w (by decide +kernel : wF sc42.2.1 lRow = true) c5
  have b27 := gI.1 27 2
  rw [biv272] at b27
  have b27a : 0 ≤ (h.2.1 27 2).toInt := b27.1
  have b27b : (h.2.1 27 2).toInt ≤ 12 := b27.2
  have E1 : h2.2.1 4 0 = h.2.1 4 0 := (g5 4 0 (by decide +kernel)).trans (c5 4 0 (by decide +kernel))
  have E2 : h2.2.1 4 2 = h.2.1 4 2 := (g5 4 2 (by decide +kernel)).trans (c5 4 2 (by decide +kernel))
  have E3 : ∀ k : Nat, k < 8 → (k : Int) < (h.2.1 4 2).toInt → h2.2.1 8 k = h.2.1 8 k := fun k _ _ => (g5 8 k (show Nat.testBit sc235.2.1 (bun 8 0) = false by decide +kernel)).trans (c5 8 k (show Nat.testBit sc42.2.1 (bun 8 0) = false by decide +kernel))
  have rsg : RS9 h1 h2 := RS9_w (by decide +kernel : wF sc235.2.1 lPa = true) (g5 27 3 (by decide +kernel)) g5
  have d9 : ∀ k, h2.2.1 89 k = h.2.1 89 k := fun k => (g5 89 k (show Nat.testBit sc235.2.1 (bun 89 0) = false by decide +kernel)).trans (c5 89 k (show Nat.testBit sc42.2.1 (bun 89 0) = false by decide +kernel))
  obtain ⟨yu, hu9, uq1, u0, u1⟩ := undoM8 (E := E) (h := h1) c2 c4 (u1 := none) d' (f + 95) (by omega)
  have z52 := (inl_j g1 uq1).2
  rw [← z52] at u0 u1
  have s7 : (h1.2.1 84 7).toInt = (h.2.1 27 2).toInt := by rw [x84, pE.1]
  have g18 : ∀ c k, gqP c k → h2.2.1 (18 + c) k = h1.2.1 (18 + c) k := fun c k q => by
    rcases q with ⟨q1, q2, q3⟩ | ⟨q1, q2⟩ | ⟨q1, q2⟩ | ⟨q1, q2⟩ | ⟨q1, q2⟩ | ⟨q1, q2⟩ | ⟨q1, q2⟩ <;> subst q1
    · rcases (show k = 6 ∨ k = 7 ∨ k = 8 ∨ k = 9 ∨ k = 10 ∨ k = 11 ∨ k = 12 by omega) with z | z | z | z | z | z | z <;> subst z <;> exact g5 18 _ (by decide +kernel)
    · exact g5 19 k (show Nat.testBit sc235.2.1 (bun 19 0) = false by decide +kernel)
    · exact g5 20 k (show Nat.testBit sc235.2.1 (bun 20 0) = false by decide +kernel)
    · exact g5 21 k (show Nat.testBit sc235.2.1 (bun 21 0) = false by decide +kernel)
    · exact g5 22 k (show Nat.testBit sc235.2.1 (bun 22 0) = false by decide +kernel)
    · exact g5 23 k (show Nat.testBit sc235.2.1 (bun 23 0) = false by decide +kernel)
    · exact g5 24 k (show Nat.testBit sc235.2.1 (bun 24 0) = false by decide +kernel)
  have uc0 : (h.2.1 27 2).toInt = 0 → h1.2.1 = h.2.1 := fun z => undo0 (E := E) gT z (by omega) (by omega) c1
  have qx2 : QX h2 := by
    by_cases h0 : (h.2.1 27 2).toInt = 0
    · have cs := uc0 h0
      refine ⟨SX_f E1 E2 E3 (fun c k m q => (g18 c k (qk_g q).1).trans (by rw [cs])) (fun c k m q => by rw [Nat.zero_add]; exact (u0 (by rw [s7]; exact h0) 85 (by decide) m).trans (d5 m (qk_g q).2.1)) pE.2.2.1, QI_w (by decide +kernel : wF sc235.2.1 lQI = true) g5 (QI_w (by decide +kernel : wF sc42.2.1 lQI = true) c5 pE.2.2.2.1), QP_0 ?_⟩
      rw [x27, k2, if_pos h0]
    · obtain ⟨z9, z91, z92, z93, z94, z95⟩ := undoX (E := E) gI gP gT pE.2.1 h0 (by omega) (by omega) c1
      obtain ⟨t1, t2⟩ := QX_undo (h := h) (h' := h2) (z := z9) ⟨by omega, b27b⟩ z91 z92 E1 E2 E3 (by rw [x27, k2, if_neg h0]) (by rw [g5 27 3 (by decide +kernel)]; exact z93) (fun c k q => (g18 c k q).trans (z94 c k q)) (fun r hr c hc k => (rsg.1 _ (by omega) (by omega) k).trans (by rw [z95 _ (by omega) (by omega)])) d9 (fun s hs k hk => (u1 s (by rw [s7]; exact hs) k hk).trans (c5 89 _ (show Nat.testBit sc42.2.1 (bun 89 0) = false by decide +kernel))) pE.2.2.2.2
      exact ⟨t1, QI_w (by decide +kernel : wF sc235.2.1 lQI = true) g5 (QI_w (by decide +kernel : wF sc42.2.1 lQI = true) c5 pE.2.2.2.1), t2⟩
  exact ⟨h2, _, _, f + 91, L, im, by omega, e, ⟨LI_f g2 g3 g4 (FrT_t (FrT_w (by decide +kernel : wF sc42.2.1 lT = true) c5) (FrT_w (by decide +kernel : wF sc235.2.1 lT = true) g5)) hL9, PX_a (FrP_t fP (FrP_C (FrC_w (by decide +kernel : wF sc235.2.1 lC = true) g5) r1)) (fun _ => r2) (FrI_t (FrI_w (by decide +kernel : wF sc42.2.1 lI = true) c5) (FrI_w (by decide +kernel : wF sc235.2.1 lI = true) g5)) pX, ⟨Int32.toInt_inj.mp (by rw [x27, k2, l2, x84, pE.1]), paQ_f g1 g3 x27 (g5 27 3 (by decide +kernel)) k3, qx2⟩⟩, by omega, by omega⟩
set_option maxRecDepth 100000 in
theorem op_fault (hE : E.1 ≤ 3072) (hsm : bSO E ctb B (60, smT)) (hX : LX h L im) {iv : Int32} {I : Nat} (hiv : iv.toInt = (I : Int)) (hI6 : I + 6 ≤ E.1) {u5 u6 : Option Value} : ∀ d f, 100 ≤ d → B + 6000000 ≤ f → opS E d iv f h (zex E (f + 100) d 0 378 (t5K iv u5 u6) [] h) := by
  intro d f hd hf
  obtain ⟨d', hd'⟩ : ∃ d', d = d' + 1 := ⟨d - 1, by omega⟩
  subst hd'
  obtain ⟨hL9, pX, pE⟩ := id hX
  obtain ⟨gI, gP, gT, q4⟩ := id hL9
  obtain ⟨v1, h1, c1, c2, ⟨c3, c4⟩, c5, c6, c7, p1, m1, b1⟩ := hsm 43 [sc37] rfl sc37 (List.Mem.head _) (by decide) [] [.ref 0] h d' (f + 98) (1, 1, 0, 11, 1, 0) rfl (by show 0 ≤ d'; omega) (by omega) ⟨rfl, trivial⟩ benv_n bcs_n (fun e he => absurd he List.not_mem_nil) gI gP gT
  obtain ⟨x, hx⟩ := bPR_i m1 (by decide) b1
  subst hx
  have c1 : zex E (f + 98) d' 43 0 [some (.ref 0)] [] h = some (.inl (some (.int x)), h1) := c1
  obtain ⟨v2, h2, g1, g2, ⟨g3, g4⟩, g5, g6, g7, p2, m2, b2⟩ := hsm 243 [sc274] rfl sc274 (List.Mem.head _) (by decide) [] [.ref 84] h1 d' (f + 95) (1, 1, 0, 12, 1, 0) rfl (by show 0 ≤ d'; omega) (by omega) ⟨rfl, trivial⟩ benv_n bcs_n (fun e he => absurd he List.not_mem_nil) c2 c3 c4
  obtain ⟨y, hy⟩ := bPR_i m2 (by decide) b2
  subst hy
  have g1 : zex E (f + 95) d' 243 0 [some (.ref 84)] [] h1 = some (.inl (some (.int y)), h2) := g1
  have e := tp_fault (E := E) (n := f + 91) (d := d') (I := I) (i := iv) (u5 := u5) (u6 := u6) (fun k hk => baddk hiv (by omega) (by omega)) hI6 (gT 0 _ ks0 (by intro z; cases z)) (c4 84 _ cs84 (by intro z; cases z)) c1 g1
  have c8 : h1.2.2.2.1 ≤ h.2.2.2.1 + 0 := c6
  have c9 : h1.2.2.2.2 ≤ h.2.2.2.2 + 0 := c7
  have g8 : h2.2.2.2.1 ≤ h1.2.2.2.1 + 0 := g6
  have g9 : h2.2.2.2.2 ≤ h1.2.2.2.2 + 0 := g7
  exact ⟨h2, _, _, f + 91, L, im, by omega, e, ⟨LI_f g2 g3 g4 (FrT_t (FrT_w (by decide +kernel : wF sc37.2.1 lT = true) c5) (FrT_w (by decide +kernel : wF sc274.2.1 lT = true) g5)) hL9, PX_f (FrP_t (FrP_w (by decide +kernel : wF sc37.2.1 lP = true) c5) (FrP_w (by decide +kernel : wF sc274.2.1 lP = true) g5)) (FrA_t (FrA_w (by decide +kernel : wF sc37.2.1 lA = true) c5) (FrA_w (by decide +kernel : wF sc274.2.1 lA = true) g5)) (FrI_t (FrI_w (by decide +kernel : wF sc37.2.1 lI = true) c5) (FrI_w (by decide +kernel : wF sc274.2.1 lI = true) g5)) pX, EX_z g1 g3 (by decide +kernel : wF sc274.2.1 lE = true) (by decide +kernel : wF sc274.2.1 lPa = true) g5 (Q85_w (by decide +kernel : wF sc274.2.1 l85 = true) g5) (EX_z c1 c3 (by decide +kernel : wF sc37.2.1 lE = true) (by decide +kernel : wF sc37.2.1 lPa = true) c5 (Q85_w (by decide +kernel : wF sc37.2.1 l85 = true) c5) pE)⟩, by omega, by omega⟩
set_option maxRecDepth 100000 in
theorem op_room (hE : E.1 ≤ 3072) (hsm : bSO E ctb B (60, smT)) (hX : LX h L im) {iv : Int32} {I : Nat} (hiv : iv.toInt = (I : Int)) (hI6 : I + 6 ≤ E.1) {u5 u6 : Option Value} : ∀ d f, 100 ≤ d → B + 6000000 ≤ f → opS E d iv f h (zex E (f + 100) d 0 391 (t5K iv u5 u6) [] h) := by
  intro d f hd hf
  obtain ⟨d', hd'⟩ : ∃ d', d = d' + 1 := ⟨d - 1, by omega⟩
  subst hd'
  obtain ⟨hL9, pX, pE⟩ := id hX
  obtain ⟨gI, gP, gT, q4⟩ := id hL9
  have w1 := bi32 (E.2 (I + 1))
  have w2 := bi32 (E.2 (I + 2))
  obtain ⟨v1, h1, c1, c2, ⟨c3, c4⟩, c5, c6, c7, p1, m1, b1⟩ := hsm 3 [sc2] rfl sc2 (List.Mem.head _) (by decide) [(E.2 (I + 1)).toInt, (E.2 (I + 2)).toInt] [.ref 0, .int (E.2 (I + 1)), .int (E.2 (I + 2)), .ref 94] h d' (f + 87) (4, 5, 1, 99, 1, 1) rfl (by show 5 ≤ d'; omega) (by omega) ⟨rfl, ⟨_, rfl, brel_v rfl⟩, ⟨_, rfl, brel_v rfl⟩, rfl, trivial⟩ (benv_c w1.1 w1.2 (benv_c w2.1 w2.2 benv_n)) bcs_n (fun e he => absurd he List.not_mem_nil) gI gP gT
  obtain ⟨x, hx⟩ := bPR_i m1 (by decide) b1
  subst hx
  have c1 : zex E (f + 87) d' 3 0 [some (.ref 0), some (.int (E.2 (I + 1))), some (.int (E.2 (I + 2))), some (.ref 94), none] [] h = some (.inl (some (.int x)), h1) := c1
  obtain ⟨v2, h2, g1, g2, ⟨g3, g4⟩, g5, g6, g7, p2, m2, b2⟩ := hsm 272 [sc352] rfl sc352 (List.Mem.head _) (by decide) [(E.2 (I + 1)).toInt, (E.2 (I + 2)).toInt] [.ref 84, .int (E.2 (I + 1)), .int (E.2 (I + 2))] h1 d' (f + 74) (3, 3, 0, 12, 1, 0) rfl (by show 5 ≤ d'; omega) (by omega) ⟨rfl, ⟨_, rfl, brel_v rfl⟩, ⟨_, rfl, brel_v rfl⟩, trivial⟩ (benv_c w1.1 w1.2 (benv_c w2.1 w2.2 benv_n)) bcs_n (fun e he => absurd he List.not_mem_nil) c2 c3 c4
  obtain ⟨y, hy⟩ := bPR_i m2 (by decide) b2
  subst hy
  have g1 : zex E (f + 74) d' 272 0 [some (.ref 84), some (.int (E.2 (I + 1))), some (.int (E.2 (I + 2)))] [] h1 = some (.inl (some (.int y)), h2) := g1
  have e := tp_room (E := E) (n := f + 70) (d := d') (I := I) (i := iv) (u5 := u5) (u6 := u6) (fun k hk => baddk hiv (by omega) (by omega)) hI6 (c4 84 _ cs84 (by intro z; cases z)) c1 g1
  have c8 : h1.2.2.2.1 ≤ h.2.2.2.1 + 1 := c6
  have c9 : h1.2.2.2.2 ≤ h.2.2.2.2 + 6 := c7
  have g8 : h2.2.2.2.1 ≤ h1.2.2.2.1 + 0 := g6
  have g9 : h2.2.2.2.2 ≤ h1.2.2.2.2 + 0 := g7
  exact ⟨h2, _, _, f + 70, L, im, by omega, e, ⟨LI_f g2 g3 g4 (FrT_t (FrT_w (by decide +kernel : wF sc2.2.1 lT = true) c5) (FrT_w (by decide +kernel : wF sc352.2.1 lT = true) g5)) hL9, PX_f (FrP_t (FrP_w (by decide +kernel : wF sc2.2.1 lP = true) c5) (FrP_w (by decide +kernel : wF sc352.2.1 lP = true) g5)) (FrA_t (FrA_w (by decide +kernel : wF sc2.2.1 lA = true) c5) (FrA_w (by decide +kernel : wF sc352.2.1 lA = true) g5)) (FrI_t (FrI_w (by decide +kernel : wF sc2.2.1 lI = true) c5) (FrI_w (by decide +kernel : wF sc352.2.1 lI = true) g5)) pX, EX_z g1 g3 (by decide +kernel : wF sc352.2.1 lE = true) (by decide +kernel : wF sc352.2.1 lPa = true) g5 (Q85_w (by decide +kernel : wF sc352.2.1 l85 = true) g5) (EX_z c1 c3 (by decide +kernel : wF sc2.2.1 lE = true) (by decide +kernel : wF sc2.2.1 lPa = true) c5 (Q85_w (by decide +kernel : wF sc2.2.1 l85 = true) c5) pE)⟩, by omega, by omega⟩
set_option maxRecDepth 100000 in
theorem op_sand (hE : E.1 ≤ 3072) (hsm : bSO E ctb B (60, smT)) (hX : LX h L im) {iv : Int32} {I : Nat} (hiv : iv.toInt = (I : Int)) (hI6 : I + 6 ≤ E.1) {u5 u6 : Option Value} : ∀ d f, 100 ≤ d → B + 6000000 ≤ f → opS E d iv f h (zex E (f + 100) d 0 431 (t5K iv u5 u6) [] h) := by
  intro d f hd hf
  obtain ⟨d', hd'⟩ : ∃ d', d = d' + 1 := ⟨d - 1, by omega⟩
  subst hd'
  obtain ⟨hL9, pX, pE⟩ := id hX
  obtain ⟨gI, gP, gT, q4⟩ := id hL9
  have w1 := bi32 (E.2 (I + 1))
  have w2 := bi32 (E.2 (I + 2))
  obtain ⟨v1, h1, c1, c2, ⟨c3, c4⟩, c5, c6, c7, p1, m1, b1⟩ := hsm 4 [sc3] rfl sc3 (List.Mem.head _) (by decide) [(E.2 (I + 1)).toInt, (E.2 (I + 2)).toInt] [.ref 0, .int (E.2 (I + 1)), .int (E.2 (I + 2)), .ref 94] h d' (f + 87) (4, 5, 1, 99, 1, 1) rfl (by show 2 ≤ d'; omega) (by omega) ⟨rfl, ⟨_, rfl, brel_v rfl⟩, ⟨_, rfl, brel_v rfl⟩, rfl, trivial⟩ (benv_c w1.1 w1.2 (benv_c w2.1 w2.2 benv_n)) bcs_n (fun e he => absurd he List.not_mem_nil) gI gP gT
  obtain ⟨x, hx⟩ := bPR_i m1 (by decide) b1
  subst hx
  have c1 : zex E (f + 87) d' 4 0 [some (.ref 0), some (.int (E.2 (I + 1))), some (.int (E.2 (I + 2))), some (.ref 94), none] [] h = some (.inl (some (.int x)), h1) := c1
  obtain ⟨v2, h2, g1, g2, ⟨g3, g4⟩, g5, g6, g7, p2, m2, b2⟩ := hsm 273 [sc353] rfl sc353 (List.Mem.head _) (by decide) [(E.2 (I + 1)).toInt, (E.2 (I + 2)).toInt] [.ref 84, .int (E.2 (I + 1)), .int (E.2 (I + 2))] h1 d' (f + 74) (3, 3, 0, 12, 1, 0) rfl (by show 2 ≤ d'; omega) (by omega) ⟨rfl, ⟨_, rfl, brel_v rfl⟩, ⟨_, rfl, brel_v rfl⟩, trivial⟩ (benv_c w1.1 w1.2 (benv_c w2.1 w2.2 benv_n)) bcs_n (fun e he => absurd he List.not_mem_nil) c2 c3 c4
  obtain ⟨y, hy⟩ := bPR_i m2 (by decide) b2
  subst hy
  have g1 : zex E (f + 74) d' 273 0 [some (.ref 84), some (.int (E.2 (I + 1))), some (.int (E.2 (I + 2)))] [] h1 = some (.inl (some (.int y)), h2) := g1
  have e := tp_sand (E := E) (n := f + 70) (d := d') (I := I) (i := iv) (u5 := u5) (u6 := u6) (fun k hk => baddk hiv (by omega) (by omega)) hI6 (c4 84 _ cs84 (by intro z; cases z)) c1 g1
  have c8 : h1.2.2.2.1 ≤ h.2.2.2.1 + 1 := c6
  have c9 : h1.2.2.2.2 ≤ h.2.2.2.2 + 6 := c7
  have g8 : h2.2.2.2.1 ≤ h1.2.2.2.1 + 0 := g6
  have g9 : h2.2.2.2.2 ≤ h1.2.2.2.2 + 0 := g7
  exact ⟨h2, _, _, f + 70, L, im, by omega, e, ⟨LI_f g2 g3 g4 (FrT_t (FrT_w (by decide +kernel : wF sc3.2.1 lT = true) c5) (FrT_w (by decide +kernel : wF sc353.2.1 lT = true) g5)) hL9, PX_f (FrP_t (FrP_w (by decide +kernel : wF sc3.2.1 lP = true) c5) (FrP_w (by decide +kernel : wF sc353.2.1 lP = true) g5)) (FrA_t (FrA_w (by decide +kernel : wF sc3.2.1 lA = true) c5) (FrA_w (by decide +kernel : wF sc353.2.1 lA = true) g5)) (FrI_t (FrI_w (by decide +kernel : wF sc3.2.1 lI = true) c5) (FrI_w (by decide +kernel : wF sc353.2.1 lI = true) g5)) pX, EX_z g1 g3 (by decide +kernel : wF sc353.2.1 lE = true) (by decide +kernel : wF sc353.2.1 lPa = true) g5 (Q85_w (by decide +kernel : wF sc353.2.1 l85 = true) g5) (EX_z c1 c3 (by decide +kernel : wF sc3.2.1 lE = true) (by decide +kernel : wF sc3.2.1 lPa = true) c5 (Q85_w (by decide +kernel : wF sc3.2.1 l85 = true) c5) pE)⟩, by omega, by omega⟩
set_option maxRecDepth 100000 in
theorem op_person (hE : E.1 ≤ 3072) (hsm : bSO E ctb B (60, smT)) (hX : LX h L im) {iv : Int32} {I : Nat} (hiv : iv.toInt = (I : Int)) (hI6 : I + 6 ≤ E.1) {u5 u6 : Option Value} : ∀ d f, 100 ≤ d → B + 6000000 ≤ f → opS E d iv f h (zex E (f + 100) d 0 471 (t5K iv u5 u6) [] h) := by
  intro d f hd hf
  obtain ⟨d', hd'⟩ : ∃ d', d = d' + 1 := ⟨d - 1, by omega⟩
  subst hd'
  obtain ⟨hL9, pX, pE⟩ := id hX
  obtain ⟨gI, gP, gT, q4⟩ := id hL9
  have w1 := bi32 (E.2 (I + 1))
  have w2 := bi32 (E.2 (I + 2))
  obtain ⟨v1, h1, c1, c2, ⟨c3, c4⟩, c5, c6, c7, p1, m1, b1⟩ := hsm 5 [sc4] rfl sc4 (List.Mem.head _) (by decide) [(E.2 (I + 1)).toInt, (E.2 (I + 2)).toInt] [.ref 0, .int (E.2 (I + 1)), .int (E.2 (I + 2)), .ref 94] h d' (f + 87) (4, 5, 1, 99, 1, 1) rfl (by show 2 ≤ d'; omega) (by omega) ⟨rfl, ⟨_, rfl, brel_v rfl⟩, ⟨_, rfl, brel_v rfl⟩, rfl, trivial⟩ (benv_c w1.1 w1.2 (benv_c w2.1 w2.2 benv_n)) bcs_n (fun e he => absurd he List.not_mem_nil) gI gP gT
  obtain ⟨x, hx⟩ := bPR_i m1 (by decide) b1
  subst hx
  have c1 : zex E (f + 87) d' 5 0 [some (.ref 0), some (.int (E.2 (I + 1))), some (.int (E.2 (I + 2))), some (.ref 94), none] [] h = some (.inl (some (.int x)), h1) := c1
  obtain ⟨v2, h2, g1, g2, ⟨g3, g4⟩, g5, g6, g7, p2, m2, b2⟩ := hsm 275 [sc355] rfl sc355 (List.Mem.head _) (by decide) [(E.2 (I + 1)).toInt, (E.2 (I + 2)).toInt] [.ref 84, .int (E.2 (I + 1)), .int (E.2 (I + 2))] h1 d' (f + 74) (3, 3, 0, 12, 1, 0) rfl (by show 3 ≤ d'; omega) (by omega) ⟨rfl, ⟨_, rfl, brel_v rfl⟩, ⟨_, rfl, brel_v rfl⟩, trivial⟩ (benv_c w1.1 w1.2 (benv_c w2.1 w2.2 benv_n)) bcs_n (fun e he => absurd he List.not_mem_nil) c2 c3 c4
  obtain ⟨y, hy⟩ := bPR_i m2 (by decide) b2
  subst hy
  have g1 : zex E (f + 74) d' 275 0 [some (.ref 84), some (.int (E.2 (I + 1))), some (.int (E.2 (I + 2)))] [] h1 = some (.inl (some (.int y)), h2) := g1
  have e := tp_person (E := E) (n := f + 70) (d := d') (I := I) (i := iv) (u5 := u5) (u6 := u6) (fun k hk => baddk hiv (by omega) (by omega)) hI6 (c4 84 _ cs84 (by intro z; cases z)) c1 g1
  have c8 : h1.2.2.2.1 ≤ h.2.2.2.1 + 1 := c6
  have c9 : h1.2.2.2.2 ≤ h.2.2.2.2 + 6 := c7
  have g8 : h2.2.2.2.1 ≤ h1.2.2.2.1 + 0 := g6
  have g9 : h2.2.2.2.2 ≤ h1.2.2.2.2 + 0 := g7
  exact ⟨h2, _, _, f + 70, L, im, by omega, e, ⟨LI_f g2 g3 g4 (FrT_t (FrT_w (by decide +kernel : wF sc4.2.1 lT = true) c5) (FrT_w (by decide +kernel : wF sc355.2.1 lT = true) g5)) hL9, PX_f (FrP_t (FrP_w (by decide +kernel : wF sc4.2.1 lP = true) c5) (FrP_w (by decide +kernel : wF sc355.2.1 lP = true) g5)) (FrA_t (FrA_w (by decide +kernel : wF sc4.2.1 lA = true) c5) (FrA_w (by decide +kernel : wF sc355.2.1 lA = true) g5)) (FrI_t (FrI_w (by decide +kernel : wF sc4.2.1 lI = true) c5) (FrI_w (by decide +kernel : wF sc355.2.1 lI = true) g5)) pX, EX_z g1 g3 (by decide +kernel : wF sc355.2.1 lE = true) (by decide +kernel : wF sc355.2.1 lPa = true) g5 (Q85_w (by decide +kernel : wF sc355.2.1 l85 = true) g5) (EX_z c1 c3 (by decide +kernel : wF sc4.2.1 lE = true) (by decide +kernel : wF sc4.2.1 lPa = true) c5 (Q85_w (by decide +kernel : wF sc4.2.1 l85 = true) c5) pE)⟩, by omega, by omega⟩
set_option maxRecDepth 100000 in
theorem op_load (hE : E.1 ≤ 3072) (hsm : bSO E ctb B (60, smT)) (hX : LX h L im) {iv : Int32} {I : Nat} (hiv : iv.toInt = (I : Int)) (hI6 : I + 6 ≤ E.1) {u5 u6 : Option Value} : ∀ d f, 100 ≤ d → B + 6000000 ≤ f → opS E d iv f h (zex E (f + 100) d 0 511 (t5K iv u5 u6) [] h) := by
  intro d f hd hf
  obtain ⟨d', hd'⟩ : ∃ d', d = d' + 1 := ⟨d - 1, by omega⟩
  subst hd'
  obtain ⟨hL9, pX, pE⟩ := id hX
  obtain ⟨gI, gP, gT, q4⟩ := id hL9
  have w1 := bi32 (E.2 (I + 1))
  have w2 := bi32 (E.2 (I + 2))
  obtain ⟨v1, h1, c1, c2, ⟨c3, c4⟩, c5, c6, c7, p1, m1, b1⟩ := hsm 6 [sc5] rfl sc5 (List.Mem.head _) (by decide) [(E.2 (I + 1)).toInt, (E.2 (I + 2)).toInt] [.ref 0, .int (E.2 (I + 1)), .int (E.2 (I + 2)), .ref 94] h d' (f + 87) (4, 5, 1, 99, 1, 1) rfl (by show 2 ≤ d'; omega) (by omega) ⟨rfl, ⟨_, rfl, brel_v rfl⟩, ⟨_, rfl, brel_v rfl⟩, rfl, trivial⟩ (benv_c w1.1 w1.2 (benv_c w2.1 w2.2 benv_n)) bcs_n (fun e he => absurd he List.not_mem_nil) gI gP gT
  obtain ⟨x, hx⟩ := bPR_i m1 (by decide) b1
  subst hx
  have c1 : zex E (f + 87) d' 6 0 [some (.ref 0), some (.int (E.2 (I + 1))), some (.int (E.2 (I + 2))), some (.ref 94), none] [] h = some (.inl (some (.int x)), h1) := c1
  obtain ⟨v2, h2, g1, g2, ⟨g3, g4⟩, g5, g6, g7, p2, m2, b2⟩ := hsm 276 [sc356] rfl sc356 (List.Mem.head _) (by decide) [(E.2 (I + 1)).toInt, (E.2 (I + 2)).toInt] [.ref 84, .int (E.2 (I + 1)), .int (E.2 (I + 2))] h1 d' (f + 74) (3, 3, 0, 12, 1, 0) rfl (by show 2 ≤ d'; omega) (by omega) ⟨rfl, ⟨_, rfl, brel_v rfl⟩, ⟨_, rfl, brel_v rfl⟩, trivial⟩ (benv_c w1.1 w1.2 (benv_c w2.1 w2.2 benv_n)) bcs_n (fun e he => absurd he List.not_mem_nil) c2 c3 c4
  obtain ⟨y, hy⟩ := bPR_i m2 (by decide) b2
  subst hy
  have g1 : zex E (f + 74) d' 276 0 [some (.ref 84), some (.int (E.2 (I + 1))), some (.int (E.2 (I + 2)))] [] h1 = some (.inl (some (.int y)), h2) := g1
  have e := tp_load (E := E) (n := f + 70) (d := d') (I := I) (i := iv) (u5 := u5) (u6 := u6) (fun k hk => baddk hiv (by omega) (by omega)) hI6 (c4 84 _ cs84 (by intro z; cases z)) c1 g1
  have c8 : h1.2.2.2.1 ≤ h.2.2.2.1 + 1 := c6
  have c9 : h1.2.2.2.2 ≤ h.2.2.2.2 + 6 := c7
  have g8 : h2.2.2.2.1 ≤ h1.2.2.2.1 + 0 := g6
  have g9 : h2.2.2.2.2 ≤ h1.2.2.2.2 + 0 := g7
  exact ⟨h2, _, _, f + 70, L, im, by omega, e, ⟨LI_f g2 g3 g4 (FrT_t (FrT_w (by decide +kernel : wF sc5.2.1 lT = true) c5) (FrT_w (by decide +kernel : wF sc356.2.1 lT = true) g5)) hL9, PX_f (FrP_t (FrP_w (by decide +kernel : wF sc5.2.1 lP = true) c5) (FrP_w (by decide +kernel : wF sc356.2.1 lP = true) g5)) (FrA_t (FrA_w (by decide +kernel : wF sc5.2.1 lA = true) c5) (FrA_w (by decide +kernel : wF sc356.2.1 lA = true) g5)) (FrI_t (FrI_w (by decide +kernel : wF sc5.2.1 lI = true) c5) (FrI_w (by decide +kernel : wF sc356.2.1 lI = true) g5)) pX, EX_z g1 g3 (by decide +kernel : wF sc356.2.1 lE = true) (by decide +kernel : wF sc356.2.1 lPa = true) g5 (Q85_w (by decide +kernel : wF sc356.2.1 l85 = true) g5) (EX_z c1 c3 (by decide +kernel : wF sc5.2.1 lE = true) (by decide +kernel : wF sc5.2.1 lPa = true) c5 (Q85_w (by decide +kernel : wF sc5.2.1 l85 = true) c5) pE)⟩, by omega, by omega⟩
set_option maxRecDepth 100000 in
theorem op_habit (hE : E.1 ≤ 3072) (hsm : bSO E ctb B (60, smT)) (hX : LX h L im) {iv : Int32} {I : Nat} (hiv : iv.toInt = (I : Int)) (hI6 : I + 6 ≤ E.1) {u5 u6 : Option Value} : ∀ d f, 100 ≤ d → B + 6000000 ≤ f → opS E d iv f h (zex E (f + 100) d 0 551 (t5K iv u5 u6) [] h) := by
  intro d f hd hf
  obtain ⟨d', hd'⟩ : ∃ d', d = d' + 1 := ⟨d - 1, by omega⟩
  subst hd'
  obtain ⟨hL9, pX, pE⟩ := id hX
  obtain ⟨gI, gP, gT, q4⟩ := id hL9
  have w1 := bi32 (E.2 (I + 1))
  have w2 := bi32 (E.2 (I + 2))
  obtain ⟨v1, h1, c1, c2, ⟨c3, c4⟩, c5, c6, c7, p1, m1, b1⟩ := hsm 7 [sc6] rfl sc6 (List.Mem.head _) (by decide) [(E.2 (I + 1)).toInt, (E.2 (I + 2)).toInt] [.ref 0, .int (E.2 (I + 1)), .int (E.2 (I + 2)), .ref 94] h d' (f + 87) (4, 5, 1, 99, 1, 1) rfl (by show 2 ≤ d'; omega) (by omega) ⟨rfl, ⟨_, rfl, brel_v rfl⟩, ⟨_, rfl, brel_v rfl⟩, rfl, trivial⟩ (benv_c w1.1 w1.2 (benv_c w2.1 w2.2 benv_n)) bcs_n (fun e he => absurd he List.not_mem_nil) gI gP gT
  obtain ⟨x, hx⟩ := bPR_i m1 (by decide) b1
  subst hx
  have c1 : zex E (f + 87) d' 7 0 [some (.ref 0), some (.int (E.2 (I + 1))), some (.int (E.2 (I + 2))), some (.ref 94), none] [] h = some (.inl (some (.int x)), h1) := c1
  obtain ⟨v2, h2, g1, g2, ⟨g3, g4⟩, g5, g6, g7, p2, m2, b2⟩ := hsm 277 [sc357] rfl sc357 (List.Mem.head _) (by decide) [(E.2 (I + 1)).toInt, (E.2 (I + 2)).toInt] [.ref 84, .int (E.2 (I + 1)), .int (E.2 (I + 2))] h1 d' (f + 74) (3, 3, 0, 12, 1, 0) rfl (by show 2 ≤ d'; omega) (by omega) ⟨rfl, ⟨_, rfl, brel_v rfl⟩, ⟨_, rfl, brel_v rfl⟩, trivial⟩ (benv_c w1.1 w1.2 (benv_c w2.1 w2.2 benv_n)) bcs_n (fun e he => absurd he List.not_mem_nil) c2 c3 c4
  obtain ⟨y, hy⟩ := bPR_i m2 (by decide) b2
  subst hy
  have g1 : zex E (f + 74) d' 277 0 [some (.ref 84), some (.int (E.2 (I + 1))), some (.int (E.2 (I + 2)))] [] h1 = some (.inl (some (.int y)), h2) := g1
  have e := tp_habit (E := E) (n := f + 70) (d := d') (I := I) (i := iv) (u5 := u5) (u6 := u6) (fun k hk => baddk hiv (by omega) (by omega)) hI6 (c4 84 _ cs84 (by intro z; cases z)) c1 g1
  have c8 : h1.2.2.2.1 ≤ h.2.2.2.1 + 1 := c6
  have c9 : h1.2.2.2.2 ≤ h.2.2.2.2 + 6 := c7
  have g8 : h2.2.2.2.1 ≤ h1.2.2.2.1 + 0 := g6
  have g9 : h2.2.2.2.2 ≤ h1.2.2.2.2 + 0 := g7
  exact ⟨h2, _, _, f + 70, L, im, by omega, e, ⟨LI_f g2 g3 g4 (FrT_t (FrT_w (by decide +kernel : wF sc6.2.1 lT = true) c5) (FrT_w (by decide +kernel : wF sc357.2.1 lT = true) g5)) hL9, PX_f (FrP_t (FrP_w (by decide +kernel : wF sc6.2.1 lP = true) c5) (FrP_w (by decide +kernel : wF sc357.2.1 lP = true) g5)) (FrA_t (FrA_w (by decide +kernel : wF sc6.2.1 lA = true) c5) (FrA_w (by decide +kernel : wF sc357.2.1 lA = true) g5)) (FrI_t (FrI_w (by decide +kernel : wF sc6.2.1 lI = true) c5) (FrI_w (by decide +kernel : wF sc357.2.1 lI = true) g5)) pX, EX_z g1 g3 (by decide +kernel : wF sc357.2.1 lE = true) (by decide +kernel : wF sc357.2.1 lPa = true) g5 (Q85_w (by decide +kernel : wF sc357.2.1 l85 = true) g5) (EX_z c1 c3 (by decide +kernel : wF sc6.2.1 lE = true) (by decide +kernel : wF sc6.2.1 lPa = true) c5 (Q85_w (by decide +kernel : wF sc6.2.1 l85 = true) c5) pE)⟩, by omega, by omega⟩
set_option maxRecDepth 100000 in
theorem op_rule (hE : E.1 ≤ 3072) (hsm : bSO E ctb B (60, smT)) (hX : LX h L im) {iv : Int32} {I : Nat} (hiv : iv.toInt = (I : Int)) (hI6 : I + 6 ≤ E.1) {u5 u6 : Option Value} : ∀ d f, 100 ≤ d → B + 6000000 ≤ f → opS E d iv f h (zex E (f + 100) d 0 591 (t5K iv u5 u6) [] h) := by
  intro d f hd hf
  obtain ⟨d', hd'⟩ : ∃ d', d = d' + 1 := ⟨d - 1, by omega⟩
  subst hd'
  obtain ⟨hL9, pX, pE⟩ := id hX
  obtain ⟨gI, gP, gT, q4⟩ := id hL9
  have w1 := bi32 (E.2 (I + 1))
  have w2 := bi32 (E.2 (I + 2))
  have w3 := bi32 (E.2 (I + 3))
  obtain ⟨v1, h1, c1, c2, ⟨c3, c4⟩, c5, c6, c7, p1, m1, b1⟩ := hsm 8 [sc7] rfl sc7 (List.Mem.head _) (by decide) [(E.2 (I + 1)).toInt, (E.2 (I + 2)).toInt, (E.2 (I + 3)).toInt] [.ref 0, .int (E.2 (I + 1)), .int (E.2 (I + 2)), .int (E.2 (I + 3)), .ref 94] h d' (f + 82) (5, 6, 1, 99, 1, 1) rfl (by show 4 ≤ d'; omega) (by omega) ⟨rfl, ⟨_, rfl, brel_v rfl⟩, ⟨_, rfl, brel_v rfl⟩, ⟨_, rfl, brel_v rfl⟩, rfl, trivial⟩ (benv_c w1.1 w1.2 (benv_c w2.1 w2.2 (benv_c w3.1 w3.2 benv_n))) bcs_n (fun e he => absurd he List.not_mem_nil) gI gP gT
  obtain ⟨x, hx⟩ := bPR_i m1 (by decide) b1
  subst hx
  have c1 : zex E (f + 82) d' 8 0 [some (.ref 0), some (.int (E.2 (I + 1))), some (.int (E.2 (I + 2))), some (.int (E.2 (I + 3))), some (.ref 94), none] [] h = some (.inl (some (.int x)), h1) := c1
  obtain ⟨v2, h2, g1, g2, ⟨g3, g4⟩, g5, g6, g7, p2, m2, b2⟩ := hsm 278 [sc358] rfl sc358 (List.Mem.head _) (by decide) [(E.2 (I + 1)).toInt, (E.2 (I + 2)).toInt, (E.2 (I + 3)).toInt] [.ref 84, .int (E.2 (I + 1)), .int (E.2 (I + 2)), .int (E.2 (I + 3))] h1 d' (f + 64) (4, 4, 0, 12, 1, 0) rfl (by show 5 ≤ d'; omega) (by omega) ⟨rfl, ⟨_, rfl, brel_v rfl⟩, ⟨_, rfl, brel_v rfl⟩, ⟨_, rfl, brel_v rfl⟩, trivial⟩ (benv_c w1.1 w1.2 (benv_c w2.1 w2.2 (benv_c w3.1 w3.2 benv_n))) bcs_n (fun e he => absurd he List.not_mem_nil) c2 c3 c4
  obtain ⟨y, hy⟩ := bPR_i m2 (by decide) b2
  subst hy
  have g1 : zex E (f + 64) d' 278 0 [some (.ref 84), some (.int (E.2 (I + 1))), some (.int (E.2 (I + 2))), some (.int (E.2 (I + 3)))] [] h1 = some (.inl (some (.int y)), h2) := g1
  have e := tp_rule (E := E) (n := f + 60) (d := d') (I := I) (i := iv) (u5 := u5) (u6 := u6) (fun k hk => baddk hiv (by omega) (by omega)) hI6 (c4 84 _ cs84 (by intro z; cases z)) c1 g1
  have c8 : h1.2.2.2.1 ≤ h.2.2.2.1 + 1 := c6
  have c9 : h1.2.2.2.2 ≤ h.2.2.2.2 + 6 := c7
  have g8 : h2.2.2.2.1 ≤ h1.2.2.2.1 + 0 := g6
  have g9 : h2.2.2.2.2 ≤ h1.2.2.2.2 + 0 := g7
  exact ⟨h2, _, _, f + 60, L, im, by omega, e, ⟨LI_f g2 g3 g4 (FrT_t (FrT_w (by decide +kernel : wF sc7.2.1 lT = true) c5) (FrT_w (by decide +kernel : wF sc358.2.1 lT = true) g5)) hL9, PX_f (FrP_t (FrP_w (by decide +kernel : wF sc7.2.1 lP = true) c5) (FrP_w (by decide +kernel : wF sc358.2.1 lP = true) g5)) (FrA_t (FrA_w (by decide +kernel : wF sc7.2.1 lA = true) c5) (FrA_w (by decide +kernel : wF sc358.2.1 lA = true) g5)) (FrI_t (FrI_w (by decide +kernel : wF sc7.2.1 lI = true) c5) (FrI_w (by decide +kernel : wF sc358.2.1 lI = true) g5)) pX, EX_z g1 g3 (by decide +kernel : wF sc358.2.1 lE = true) (by decide +kernel : wF sc358.2.1 lPa = true) g5 (Q85_w (by decide +kernel : wF sc358.2.1 l85 = true) g5) (EX_z c1 c3 (by decide +kernel : wF sc7.2.1 lE = true) (by decide +kernel : wF sc7.2.1 lPa = true) c5 (Q85_w (by decide +kernel : wF sc7.2.1 l85 = true) c5) pE)⟩, by omega, by omega⟩
set_option maxRecDepth 100000 in
theorem op_chores (hE : E.1 ≤ 3072) (hsm : bSO E ctb B (60, smT)) (hX : LX h L im) {iv : Int32} {I : Nat} (hiv : iv.toInt = (I : Int)) (hI6 : I + 6 ≤ E.1) {u5 u6 : Option Value} : ∀ d f, 100 ≤ d → B + 6000000 ≤ f → opS E d iv f h (zex E (f + 100) d 0 1115 (t5K iv u5 u6) [] h) := by
  intro d f hd hf
  obtain ⟨d', hd'⟩ : ∃ d', d = d' + 1 := ⟨d - 1, by omega⟩
  subst hd'
  obtain ⟨hL9, pX, pE⟩ := id hX
  obtain ⟨gI, gP, gT, q4⟩ := id hL9
  have w1 := bi32 (E.2 (I + 1))
  by_cases hb : (E.2 (I + 2)).toInt = 0
  · skip
    obtain ⟨v1, h1, c1, c2, ⟨c3, c4⟩, c5, c6, c7, p1, m1, b1⟩ := hsm 20 [sc19] rfl sc19 (List.Mem.head _) (by decide) [(E.2 (I + 1)).toInt, (0 : Int32).toInt] [.ref 0, .int (E.2 (I + 1)), .int 0, .ref 94] h d' (f + 85) (4, 5, 1, 99, 1, 1) rfl (by show 6 ≤ d'; omega) (by omega) ⟨rfl, ⟨_, rfl, brel_v rfl⟩, ⟨_, rfl, brel_v rfl⟩, rfl, trivial⟩ (benv_c w1.1 w1.2 (benv_c (by decide) (by decide) benv_n)) bcs_n (fun e he => absurd he List.not_mem_nil) gI gP gT
    obtain ⟨x, hx⟩ := bPR_i m1 (by decide) b1
    subst hx
    have c1 : zex E (f + 85) d' 20 0 [some (.ref 0), some (.int (E.2 (I + 1))), some (.int 0), some (.ref 94), none] [] h = some (.inl (some (.int x)), h1) := c1
    obtain ⟨v2, h2, g1, g2, ⟨g3, g4⟩, g5, g6, g7, p2, m2, b2⟩ := hsm 307 [sc384] rfl sc384 (List.Mem.head _) (by decide) [(E.2 (I + 1)).toInt, (0 : Int32).toInt] [.ref 84, .int (E.2 (I + 1)), .int 0] h1 d' (f + 70) (3, 11, 0, 12, 1, 0) rfl (by show 5 ≤ d'; omega) (by omega) ⟨rfl, ⟨_, rfl, brel_v rfl⟩, ⟨_, rfl, brel_v rfl⟩, trivial⟩ (benv_c w1.1 w1.2 (benv_c (by decide) (by decide) benv_n)) bcs_n (fun e he => absurd he List.not_mem_nil) c2 c3 c4
    obtain ⟨y, hy⟩ := bPR_i m2 (by decide) b2
    subst hy
    have g1 : zex E (f + 70) d' 307 0 [some (.ref 84), some (.int (E.2 (I + 1))), some (.int 0), none, none, none, none, none, none, none, none] [] h1 = some (.inl (some (.int y)), h2) := g1
    have e := tp_chores0 (E := E) (n := f + 66) (d := d') (I := I) (i := iv) (u5 := u5) (u6 := u6) (fun k hk => baddk hiv (by omega) (by omega)) hI6 hb (c4 84 _ cs84 (by intro z; cases z)) c1 g1
    have c8 : h1.2.2.2.1 ≤ h.2.2.2.1 + 1 := c6
    have c9 : h1.2.2.2.2 ≤ h.2.2.2.2 + 6 := c7
    have g8 : h2.2.2.2.1 ≤ h1.2.2.2.1 + 0 := g6
    have g9 : h2.2.2.2.2 ≤ h1.2.2.2.2 + 0 := g7
    exact ⟨h2, _, _, f + 66, L, im, by omega, e, ⟨LI_f g2 g3 g4 (FrT_t (FrT_w (by decide +kernel : wF sc19.2.1 lT = true) c5) (FrT_w (by decide +kernel : wF sc384.2.1 lT = true) g5)) hL9, PX_f (FrP_t (FrP_w (by decide +kernel : wF sc19.2.1 lP = true) c5) (FrP_w (by decide +kernel : wF sc384.2.1 lP = true) g5)) (FrA_t (FrA_w (by decide +kernel : wF sc19.2.1 lA = true) c5) (FrA_w (by decide +kernel : wF sc384.2.1 lA = true) g5)) (FrI_t (FrI_w (by decide +kernel : wF sc19.2.1 lI = true) c5) (FrI_w (by decide +kernel : wF sc384.2.1 lI = true) g5)) pX, EX_z g1 g3 (by decide +kernel : wF sc384.2.1 lE = true) (by decide +kernel : wF sc384.2.1 lPa = true) g5 (Q85_w (by decide +kernel : wF sc384.2.1 l85 = true) g5) (EX_z c1 c3 (by decide +kernel : wF sc19.2.1 lE = true) (by decide +kernel : wF sc19.2.1 lPa = true) c5 (Q85_w (by decide +kernel : wF sc19.2.1 l85 = true) c5) pE)⟩, by omega, by omega⟩
  · skip
    obtain ⟨v1, h1, c1, c2, ⟨c3, c4⟩, c5, c6, c7, p1, m1, b1⟩ := hsm 20 [sc19] rfl sc19 (List.Mem.head _) (by decide) [(E.2 (I + 1)).toInt, (1 : Int32).toInt] [.ref 0, .int (E.2 (I + 1)), .int 1, .ref 94] h d' (f + 84) (4, 5, 1, 99, 1, 1) rfl (by show 6 ≤ d'; omega) (by omega) ⟨rfl, ⟨_, rfl, brel_v rfl⟩, ⟨_, rfl, brel_v rfl⟩, rfl, trivial⟩ (benv_c w1.1 w1.2 (benv_c (by decide) (by decide) benv_n)) bcs_n (fun e he => absurd he List.not_mem_nil) gI gP gT
    obtain ⟨x, hx⟩ := bPR_i m1 (by decide) b1
    subst hx
    have c1 : zex E (f + 84) d' 20 0 [some (.ref 0), some (.int (E.2 (I + 1))), some (.int 1), some (.ref 94), none] [] h = some (.inl (some (.int x)), h1) := c1
    obtain ⟨v2, h2, g1, g2, ⟨g3, g4⟩, g5, g6, g7, p2, m2, b2⟩ := hsm 307 [sc384] rfl sc384 (List.Mem.head _) (by decide) [(E.2 (I + 1)).toInt, (1 : Int32).toInt] [.ref 84, .int (E.2 (I + 1)), .int 1] h1 d' (f + 68) (3, 11, 0, 12, 1, 0) rfl (by show 5 ≤ d'; omega) (by omega) ⟨rfl, ⟨_, rfl, brel_v rfl⟩, ⟨_, rfl, brel_v rfl⟩, trivial⟩ (benv_c w1.1 w1.2 (benv_c (by decide) (by decide) benv_n)) bcs_n (fun e he => absurd he List.not_mem_nil) c2 c3 c4
    obtain ⟨y, hy⟩ := bPR_i m2 (by decide) b2
    subst hy
    have g1 : zex E (f + 68) d' 307 0 [some (.ref 84), some (.int (E.2 (I + 1))), some (.int 1), none, none, none, none, none, none, none, none] [] h1 = some (.inl (some (.int y)), h2) := g1
    have e := tp_chores1 (E := E) (n := f + 64) (d := d') (I := I) (i := iv) (u5 := u5) (u6 := u6) (fun k hk => baddk hiv (by omega) (by omega)) hI6 hb (c4 84 _ cs84 (by intro z; cases z)) c1 g1
    have c8 : h1.2.2.2.1 ≤ h.2.2.2.1 + 1 := c6
    have c9 : h1.2.2.2.2 ≤ h.2.2.2.2 + 6 := c7
    have g8 : h2.2.2.2.1 ≤ h1.2.2.2.1 + 0 := g6
    have g9 : h2.2.2.2.2 ≤ h1.2.2.2.2 + 0 := g7
    exact ⟨h2, _, _, f + 64, L, im, by omega, e, ⟨LI_f g2 g3 g4 (FrT_t (FrT_w (by decide +kernel : wF sc19.2.1 lT = true) c5) (FrT_w (by decide +kernel : wF sc384.2.1 lT = true) g5)) hL9, PX_f (FrP_t (FrP_w (by decide +kernel : wF sc19.2.1 lP = true) c5) (FrP_w (by decide +kernel : wF sc384.2.1 lP = true) g5)) (FrA_t (FrA_w (by decide +kernel : wF sc19.2.1 lA = true) c5) (FrA_w (by decide +kernel : wF sc384.2.1 lA = true) g5)) (FrI_t (FrI_w (by decide +kernel : wF sc19.2.1 lI = true) c5) (FrI_w (by decide +kernel : wF sc384.2.1 lI = true) g5)) pX, EX_z g1 g3 (by decide +kernel : wF sc384.2.1 lE = true) (by decide +kernel : wF sc384.2.1 lPa = true) g5 (Q85_w (by decide +kernel : wF sc384.2.1 l85 = true) g5) (EX_z c1 c3 (by decide +kernel : wF sc19.2.1 lE = true) (by decide +kernel : wF sc19.2.1 lPa = true) c5 (Q85_w (by decide +kernel : wF sc19.2.1 l85 = true) c5) pE)⟩, by omega, by omega⟩
set_option maxRecDepth 100000 in
theorem op_carries (hE : E.1 ≤ 3072) (hsm : bSO E ctb B (60, smT)) (hX : LX h L im) {iv : Int32} {I : Nat} (hiv : iv.toInt = (I : Int)) (hI6 : I + 6 ≤ E.1) {u5 u6 : Option Value} : ∀ d f, 100 ≤ d → B + 6000000 ≤ f → opS E d iv f h (zex E (f + 100) d 0 1496 (t5K iv u5 u6) [] h) := by
  intro d f hd hf
  obtain ⟨d', hd'⟩ : ∃ d', d = d' + 1 := ⟨d - 1, by omega⟩
  subst hd'
  obtain ⟨hL9, pX, pE⟩ := id hX
  obtain ⟨gI, gP, gT, q4⟩ := id hL9
  have w1 := bi32 (E.2 (I + 1))
  by_cases hb : (E.2 (I + 2)).toInt = 0
  · skip
    obtain ⟨v1, h1, c1, c2, ⟨c3, c4⟩, c5, c6, c7, p1, m1, b1⟩ := hsm 29 [sc28] rfl sc28 (List.Mem.head _) (by decide) [(E.2 (I + 1)).toInt, (0 : Int32).toInt] [.ref 0, .int (E.2 (I + 1)), .int 0, .ref 94] h d' (f + 85) (4, 5, 1, 99, 1, 1) rfl (by show 2 ≤ d'; omega) (by omega) ⟨rfl, ⟨_, rfl, brel_v rfl⟩, ⟨_, rfl, brel_v rfl⟩, rfl, trivial⟩ (benv_c w1.1 w1.2 (benv_c (by decide) (by decide) benv_n)) bcs_n (fun e he => absurd he List.not_mem_nil) gI gP gT
    obtain ⟨x, hx⟩ := bPR_i m1 (by decide) b1
    subst hx
    have c1 : zex E (f + 85) d' 29 0 [some (.ref 0), some (.int (E.2 (I + 1))), some (.int 0), some (.ref 94), none] [] h = some (.inl (some (.int x)), h1) := c1
    obtain ⟨v2, h2, g1, g2, ⟨g3, g4⟩, g5, g6, g7, p2, m2, b2⟩ := hsm 321 [sc399] rfl sc399 (List.Mem.head _) (by decide) [(E.2 (I + 1)).toInt, (0 : Int32).toInt] [.ref 84, .int (E.2 (I + 1)), .int 0] h1 d' (f + 70) (3, 5, 0, 12, 1, 0) rfl (by show 2 ≤ d'; omega) (by omega) ⟨rfl, ⟨_, rfl, brel_v rfl⟩, ⟨_, rfl, brel_v rfl⟩, trivial⟩ (benv_c w1.1 w1.2 (benv_c (by decide) (by decide) benv_n)) bcs_n (fun e he => absurd he List.not_mem_nil) c2 c3 c4
    obtain ⟨y, hy⟩ := bPR_i m2 (by decide) b2
    subst hy
    have g1 : zex E (f + 70) d' 321 0 [some (.ref 84), some (.int (E.2 (I + 1))), some (.int 0), none, none] [] h1 = some (.inl (some (.int y)), h2) := g1
    have e := tp_carries0 (E := E) (n := f + 66) (d := d') (I := I) (i := iv) (u5 := u5) (u6 := u6) (fun k hk => baddk hiv (by omega) (by omega)) hI6 hb (c4 84 _ cs84 (by intro z; cases z)) c1 g1
    have c8 : h1.2.2.2.1 ≤ h.2.2.2.1 + 1 := c6
    have c9 : h1.2.2.2.2 ≤ h.2.2.2.2 + 6 := c7
    have g8 : h2.2.2.2.1 ≤ h1.2.2.2.1 + 0 := g6
    have g9 : h2.2.2.2.2 ≤ h1.2.2.2.2 + 0 := g7
    exact ⟨h2, _, _, f + 66, L, im, by omega, e, ⟨LI_f g2 g3 g4 (FrT_t (FrT_w (by decide +kernel : wF sc28.2.1 lT = true) c5) (FrT_w (by decide +kernel : wF sc399.2.1 lT = true) g5)) hL9, PX_f (FrP_t (FrP_w (by decide +kernel : wF sc28.2.1 lP = true) c5) (FrP_w (by decide +kernel : wF sc399.2.1 lP = true) g5)) (FrA_t (FrA_w (by decide +kernel : wF sc28.2.1 lA = true) c5) (FrA_w (by decide +kernel : wF sc399.2.1 lA = true) g5)) (FrI_t (FrI_w (by decide +kernel : wF sc28.2.1 lI = true) c5) (FrI_w (by decide +kernel : wF sc399.2.1 lI = true) g5)) pX, EX_z g1 g3 (by decide +kernel : wF sc399.2.1 lE = true) (by decide +kernel : wF sc399.2.1 lPa = true) g5 (Q85_w (by decide +kernel : wF sc399.2.1 l85 = true) g5) (EX_z c1 c3 (by decide +kernel : wF sc28.2.1 lE = true) (by decide +kernel : wF sc28.2.1 lPa = true) c5 (Q85_w (by decide +kernel : wF sc28.2.1 l85 = true) c5) pE)⟩, by omega, by omega⟩
  · skip
    obtain ⟨v1, h1, c1, c2, ⟨c3, c4⟩, c5, c6, c7, p1, m1, b1⟩ := hsm 29 [sc28] rfl sc28 (List.Mem.head _) (by decide) [(E.2 (I + 1)).toInt, (1 : Int32).toInt] [.ref 0, .int (E.2 (I + 1)), .int 1, .ref 94] h d' (f + 84) (4, 5, 1, 99, 1, 1) rfl (by show 2 ≤ d'; omega) (by omega) ⟨rfl, ⟨_, rfl, brel_v rfl⟩, ⟨_, rfl, brel_v rfl⟩, rfl, trivial⟩ (benv_c w1.1 w1.2 (benv_c (by decide) (by decide) benv_n)) bcs_n (fun e he => absurd he List.not_mem_nil) gI gP gT
    obtain ⟨x, hx⟩ := bPR_i m1 (by decide) b1
    subst hx
    have c1 : zex E (f + 84) d' 29 0 [some (.ref 0), some (.int (E.2 (I + 1))), some (.int 1), some (.ref 94), none] [] h = some (.inl (some (.int x)), h1) := c1
    obtain ⟨v2, h2, g1, g2, ⟨g3, g4⟩, g5, g6, g7, p2, m2, b2⟩ := hsm 321 [sc399] rfl sc399 (List.Mem.head _) (by decide) [(E.2 (I + 1)).toInt, (1 : Int32).toInt] [.ref 84, .int (E.2 (I + 1)), .int 1] h1 d' (f + 68) (3, 5, 0, 12, 1, 0) rfl (by show 2 ≤ d'; omega) (by omega) ⟨rfl, ⟨_, rfl, brel_v rfl⟩, ⟨_, rfl, brel_v rfl⟩, trivial⟩ (benv_c w1.1 w1.2 (benv_c (by decide) (by decide) benv_n)) bcs_n (fun e he => absurd he List.not_mem_nil) c2 c3 c4
    obtain ⟨y, hy⟩ := bPR_i m2 (by decide) b2
    subst hy
    have g1 : zex E (f + 68) d' 321 0 [some (.ref 84), some (.int (E.2 (I + 1))), some (.int 1), none, none] [] h1 = some (.inl (some (.int y)), h2) := g1
    have e := tp_carries1 (E := E) (n := f + 64) (d := d') (I := I) (i := iv) (u5 := u5) (u6 := u6) (fun k hk => baddk hiv (by omega) (by omega)) hI6 hb (c4 84 _ cs84 (by intro z; cases z)) c1 g1
    have c8 : h1.2.2.2.1 ≤ h.2.2.2.1 + 1 := c6
    have c9 : h1.2.2.2.2 ≤ h.2.2.2.2 + 6 := c7
    have g8 : h2.2.2.2.1 ≤ h1.2.2.2.1 + 0 := g6
    have g9 : h2.2.2.2.2 ≤ h1.2.2.2.2 + 0 := g7
    exact ⟨h2, _, _, f + 64, L, im, by omega, e, ⟨LI_f g2 g3 g4 (FrT_t (FrT_w (by decide +kernel : wF sc28.2.1 lT = true) c5) (FrT_w (by decide +kernel : wF sc399.2.1 lT = true) g5)) hL9, PX_f (FrP_t (FrP_w (by decide +kernel : wF sc28.2.1 lP = true) c5) (FrP_w (by decide +kernel : wF sc399.2.1 lP = true) g5)) (FrA_t (FrA_w (by decide +kernel : wF sc28.2.1 lA = true) c5) (FrA_w (by decide +kernel : wF sc399.2.1 lA = true) g5)) (FrI_t (FrI_w (by decide +kernel : wF sc28.2.1 lI = true) c5) (FrI_w (by decide +kernel : wF sc399.2.1 lI = true) g5)) pX, EX_z g1 g3 (by decide +kernel : wF sc399.2.1 lE = true) (by decide +kernel : wF sc399.2.1 lPa = true) g5 (Q85_w (by decide +kernel : wF sc399.2.1 l85 = true) g5) (EX_z c1 c3 (by decide +kernel : wF sc28.2.1 lE = true) (by decide +kernel : wF sc28.2.1 lPa = true) c5 (Q85_w (by decide +kernel : wF sc28.2.1 l85 = true) c5) pE)⟩, by omega, by omega⟩
set_option maxRecDepth 100000 in
theorem op_whose (hE : E.1 ≤ 3072) (hsm : bSO E ctb B (60, smT)) (hX : LX h L im) {iv : Int32} {I : Nat} (hiv : iv.toInt = (I : Int)) (hI6 : I + 6 ≤ E.1) {u5 u6 : Option Value} : ∀ d f, 100 ≤ d → B + 6000000 ≤ f → opS E d iv f h (zex E (f + 100) d 0 1552 (t5K iv u5 u6) [] h) := by
  intro d f hd hf
  obtain ⟨d', hd'⟩ : ∃ d', d = d' + 1 := ⟨d - 1, by omega⟩
  subst hd'
  obtain ⟨hL9, pX, pE⟩ := id hX
  obtain ⟨gI, gP, gT, q4⟩ := id hL9
  have w1 := bi32 (E.2 (I + 1))
  obtain ⟨v1, h1, c1, c2, ⟨c3, c4⟩, c5, c6, c7, p1, m1, b1⟩ := hsm 30 [sc29] rfl sc29 (List.Mem.head _) (by decide) [(E.2 (I + 1)).toInt] [.ref 0, .int (E.2 (I + 1)), .ref 94] h d' (f + 92) (3, 4, 1, 99, 1, 1) rfl (by show 2 ≤ d'; omega) (by omega) ⟨rfl, ⟨_, rfl, brel_v rfl⟩, rfl, trivial⟩ (benv_c w1.1 w1.2 benv_n) bcs_n (fun e he => absurd he List.not_mem_nil) gI gP gT
  obtain ⟨x, hx⟩ := bPR_i m1 (by decide) b1
  subst hx
  have c1 : zex E (f + 92) d' 30 0 [some (.ref 0), some (.int (E.2 (I + 1))), some (.ref 94), none] [] h = some (.inl (some (.int x)), h1) := c1
  obtain ⟨v2, h2, g1, g2, ⟨g3, g4⟩, g5, g6, g7, p2, m2, b2⟩ := hsm 322 [sc400] rfl sc400 (List.Mem.head _) (by decide) [(E.2 (I + 1)).toInt] [.ref 84, .int (E.2 (I + 1))] h1 d' (f + 84) (2, 2, 0, 12, 1, 0) rfl (by show 2 ≤ d'; omega) (by omega) ⟨rfl, ⟨_, rfl, brel_v rfl⟩, trivial⟩ (benv_c w1.1 w1.2 benv_n) bcs_n (fun e he => absurd he List.not_mem_nil) c2 c3 c4
  obtain ⟨y, hy⟩ := bPR_i m2 (by decide) b2
  subst hy
  have g1 : zex E (f + 84) d' 322 0 [some (.ref 84), some (.int (E.2 (I + 1)))] [] h1 = some (.inl (some (.int y)), h2) := g1
  have e := tp_whose (E := E) (n := f + 80) (d := d') (I := I) (i := iv) (u5 := u5) (u6 := u6) (fun k hk => baddk hiv (by omega) (by omega)) hI6 (c4 84 _ cs84 (by intro z; cases z)) c1 g1
  have c8 : h1.2.2.2.1 ≤ h.2.2.2.1 + 1 := c6
  have c9 : h1.2.2.2.2 ≤ h.2.2.2.2 + 6 := c7
  have g8 : h2.2.2.2.1 ≤ h1.2.2.2.1 + 0 := g6
  have g9 : h2.2.2.2.2 ≤ h1.2.2.2.2 + 0 := g7
  exact ⟨h2, _, _, f + 80, L, im, by omega, e, ⟨LI_f g2 g3 g4 (FrT_t (FrT_w (by decide +kernel : wF sc29.2.1 lT = true) c5) (FrT_w (by decide +kernel : wF sc400.2.1 lT = true) g5)) hL9, PX_f (FrP_t (FrP_w (by decide +kernel : wF sc29.2.1 lP = true) c5) (FrP_w (by decide +kernel : wF sc400.2.1 lP = true) g5)) (FrA_t (FrA_w (by decide +kernel : wF sc29.2.1 lA = true) c5) (FrA_w (by decide +kernel : wF sc400.2.1 lA = true) g5)) (FrI_t (FrI_w (by decide +kernel : wF sc29.2.1 lI = true) c5) (FrI_w (by decide +kernel : wF sc400.2.1 lI = true) g5)) pX, EX_z g1 g3 (by decide +kernel : wF sc400.2.1 lE = true) (by decide +kernel : wF sc400.2.1 lPa = true) g5 (Q85_w (by decide +kernel : wF sc400.2.1 l85 = true) g5) (EX_z c1 c3 (by decide +kernel : wF sc29.2.1 lE = true) (by decide +kernel : wF sc29.2.1 lPa = true) c5 (Q85_w (by decide +kernel : wF sc29.2.1 l85 = true) c5) pE)⟩, by omega, by omega⟩
set_option maxRecDepth 100000 in
theorem op_share (hE : E.1 ≤ 3072) (hsm : bSO E ctb B (60, smT)) (hX : LX h L im) {iv : Int32} {I : Nat} (hiv : iv.toInt = (I : Int)) (hI6 : I + 6 ≤ E.1) {u5 u6 : Option Value} : ∀ d f, 100 ≤ d → B + 6000000 ≤ f → opS E d iv f h (zex E (f + 100) d 0 1580 (t5K iv u5 u6) [] h) := by
  intro d f hd hf
  obtain ⟨d', hd'⟩ : ∃ d', d = d' + 1 := ⟨d - 1, by omega⟩
  subst hd'
  obtain ⟨hL9, pX, pE⟩ := id hX
  obtain ⟨gI, gP, gT, q4⟩ := id hL9
  have w1 := bi32 (E.2 (I + 1))
  have w2 := bi32 (E.2 (I + 2))
  obtain ⟨v1, h1, c1, c2, ⟨c3, c4⟩, c5, c6, c7, p1, m1, b1⟩ := hsm 31 [sc30] rfl sc30 (List.Mem.head _) (by decide) [(E.2 (I + 1)).toInt, (E.2 (I + 2)).toInt] [.ref 0, .int (E.2 (I + 1)), .int (E.2 (I + 2)), .ref 94] h d' (f + 87) (4, 5, 1, 99, 1, 1) rfl (by show 2 ≤ d'; omega) (by omega) ⟨rfl, ⟨_, rfl, brel_v rfl⟩, ⟨_, rfl, brel_v rfl⟩, rfl, trivial⟩ (benv_c w1.1 w1.2 (benv_c w2.1 w2.2 benv_n)) bcs_n (fun e he => absurd he List.not_mem_nil) gI gP gT
  obtain ⟨x, hx⟩ := bPR_i m1 (by decide) b1
  subst hx
  have c1 : zex E (f + 87) d' 31 0 [some (.ref 0), some (.int (E.2 (I + 1))), some (.int (E.2 (I + 2))), some (.ref 94), none] [] h = some (.inl (some (.int x)), h1) := c1
  obtain ⟨v2, h2, g1, g2, ⟨g3, g4⟩, g5, g6, g7, p2, m2, b2⟩ := hsm 323 [sc401] rfl sc401 (List.Mem.head _) (by decide) [(E.2 (I + 1)).toInt, (E.2 (I + 2)).toInt] [.ref 84, .int (E.2 (I + 1)), .int (E.2 (I + 2))] h1 d' (f + 74) (3, 4, 0, 12, 1, 0) rfl (by show 2 ≤ d'; omega) (by omega) ⟨rfl, ⟨_, rfl, brel_v rfl⟩, ⟨_, rfl, brel_v rfl⟩, trivial⟩ (benv_c w1.1 w1.2 (benv_c w2.1 w2.2 benv_n)) bcs_n (fun e he => absurd he List.not_mem_nil) c2 c3 c4
  obtain ⟨y, hy⟩ := bPR_i m2 (by decide) b2
  subst hy
  have g1 : zex E (f + 74) d' 323 0 [some (.ref 84), some (.int (E.2 (I + 1))), some (.int (E.2 (I + 2))), none] [] h1 = some (.inl (some (.int y)), h2) := g1
  have e := tp_share (E := E) (n := f + 70) (d := d') (I := I) (i := iv) (u5 := u5) (u6 := u6) (fun k hk => baddk hiv (by omega) (by omega)) hI6 (c4 84 _ cs84 (by intro z; cases z)) c1 g1
  have c8 : h1.2.2.2.1 ≤ h.2.2.2.1 + 1 := c6
  have c9 : h1.2.2.2.2 ≤ h.2.2.2.2 + 6 := c7
  have g8 : h2.2.2.2.1 ≤ h1.2.2.2.1 + 0 := g6
  have g9 : h2.2.2.2.2 ≤ h1.2.2.2.2 + 0 := g7
  exact ⟨h2, _, _, f + 70, L, im, by omega, e, ⟨LI_f g2 g3 g4 (FrT_t (FrT_w (by decide +kernel : wF sc30.2.1 lT = true) c5) (FrT_w (by decide +kernel : wF sc401.2.1 lT = true) g5)) hL9, PX_f (FrP_t (FrP_w (by decide +kernel : wF sc30.2.1 lP = true) c5) (FrP_w (by decide +kernel : wF sc401.2.1 lP = true) g5)) (FrA_t (FrA_w (by decide +kernel : wF sc30.2.1 lA = true) c5) (FrA_w (by decide +kernel : wF sc401.2.1 lA = true) g5)) (FrI_t (FrI_w (by decide +kernel : wF sc30.2.1 lI = true) c5) (FrI_w (by decide +kernel : wF sc401.2.1 lI = true) g5)) pX, EX_z g1 g3 (by decide +kernel : wF sc401.2.1 lE = true) (by decide +kernel : wF sc401.2.1 lPa = true) g5 (Q85_w (by decide +kernel : wF sc401.2.1 l85 = true) g5) (EX_z c1 c3 (by decide +kernel : wF sc30.2.1 lE = true) (by decide +kernel : wF sc30.2.1 lPa = true) c5 (Q85_w (by decide +kernel : wF sc30.2.1 l85 = true) c5) pE)⟩, by omega, by omega⟩
set_option maxRecDepth 100000 in
theorem op_blame (hE : E.1 ≤ 3072) (hsm : bSO E ctb B (60, smT)) (hX : LX h L im) {iv : Int32} {I : Nat} (hiv : iv.toInt = (I : Int)) (hI6 : I + 6 ≤ E.1) {u5 u6 : Option Value} : ∀ d f, 100 ≤ d → B + 6000000 ≤ f → opS E d iv f h (zex E (f + 100) d 0 1620 (t5K iv u5 u6) [] h) := by
  intro d f hd hf
  obtain ⟨d', hd'⟩ : ∃ d', d = d' + 1 := ⟨d - 1, by omega⟩
  subst hd'
  obtain ⟨hL9, pX, pE⟩ := id hX
  obtain ⟨gI, gP, gT, q4⟩ := id hL9
  obtain ⟨v1, h1, c1, c2, ⟨c3, c4⟩, c5, c6, c7, p1, m1, b1⟩ := hsm 74 [sc39] rfl sc39 (List.Mem.head _) (by decide) [] [.ref 0] h d' (f + 98) (1, 1, 0, 11, 1, 0) rfl (by show 1 ≤ d'; omega) (by omega) ⟨rfl, trivial⟩ benv_n bcs_n (fun e he => absurd he List.not_mem_nil) gI gP gT
  obtain ⟨x, hx⟩ := bPR_i m1 (by decide) b1
  subst hx
  have c1 : zex E (f + 98) d' 74 0 [some (.ref 0)] [] h = some (.inl (some (.int x)), h1) := c1
  obtain ⟨v2, h2, g1, g2, ⟨g3, g4⟩, g5, g6, g7, p2, m2, b2⟩ := hsm 324 [sc402] rfl sc402 (List.Mem.head _) (by decide) [] [.ref 84] h1 d' (f + 95) (1, 6, 0, 12, 1, 0) rfl (by show 2 ≤ d'; omega) (by omega) ⟨rfl, trivial⟩ benv_n bcs_n (fun e he => absurd he List.not_mem_nil) c2 c3 c4
  obtain ⟨y, hy⟩ := bPR_i m2 (by decide) b2
  subst hy
  have g1 : zex E (f + 95) d' 324 0 [some (.ref 84), none, none, none, none, none] [] h1 = some (.inl (some (.int y)), h2) := g1
  have e := tp_blame (E := E) (n := f + 91) (d := d') (I := I) (i := iv) (u5 := u5) (u6 := u6) (fun k hk => baddk hiv (by omega) (by omega)) hI6 (gT 0 _ ks0 (by intro z; cases z)) (c4 84 _ cs84 (by intro z; cases z)) c1 g1
  have c8 : h1.2.2.2.1 ≤ h.2.2.2.1 + 0 := c6
  have c9 : h1.2.2.2.2 ≤ h.2.2.2.2 + 0 := c7
  have g8 : h2.2.2.2.1 ≤ h1.2.2.2.1 + 0 := g6
  have g9 : h2.2.2.2.2 ≤ h1.2.2.2.2 + 0 := g7
  exact ⟨h2, _, _, f + 91, L, im, by omega, e, ⟨LI_f g2 g3 g4 (FrT_t (FrT_w (by decide +kernel : wF sc39.2.1 lT = true) c5) (FrT_w (by decide +kernel : wF sc402.2.1 lT = true) g5)) hL9, PX_f (FrP_t (FrP_w (by decide +kernel : wF sc39.2.1 lP = true) c5) (FrP_w (by decide +kernel : wF sc402.2.1 lP = true) g5)) (FrA_t (FrA_w (by decide +kernel : wF sc39.2.1 lA = true) c5) (FrA_w (by decide +kernel : wF sc402.2.1 lA = true) g5)) (FrI_t (FrI_w (by decide +kernel : wF sc39.2.1 lI = true) c5) (FrI_w (by decide +kernel : wF sc402.2.1 lI = true) g5)) pX, EX_z g1 g3 (by decide +kernel : wF sc402.2.1 lE = true) (by decide +kernel : wF sc402.2.1 lPa = true) g5 (Q85_w (by decide +kernel : wF sc402.2.1 l85 = true) g5) (EX_z c1 c3 (by decide +kernel : wF sc39.2.1 lE = true) (by decide +kernel : wF sc39.2.1 lPa = true) c5 (Q85_w (by decide +kernel : wF sc39.2.1 l85 = true) c5) pE)⟩, by omega, by omega⟩
set_option maxRecDepth 100000 in
theorem op_itch (hE : E.1 ≤ 3072) (hsm : bSO E ctb B (60, smT)) (hX : LX h L im) {iv : Int32} {I : Nat} (hiv : iv.toInt = (I : Int)) (hI6 : I + 6 ≤ E.1) {u5 u6 : Option Value} : ∀ d f, 100 ≤ d → B + 6000000 ≤ f → opS E d iv f h (zex E (f + 100) d 0 1633 (t5K iv u5 u6) [] h) := by
  intro d f hd hf
  obtain ⟨d', hd'⟩ : ∃ d', d = d' + 1 := ⟨d - 1, by omega⟩
  subst hd'
  obtain ⟨hL9, pX, pE⟩ := id hX
  obtain ⟨gI, gP, gT, q4⟩ := id hL9
  have w1 := bi32 (E.2 (I + 1))
  obtain ⟨v1, h1, c1, c2, ⟨c3, c4⟩, c5, c6, c7, p1, m1, b1⟩ := hsm 32 [sc31] rfl sc31 (List.Mem.head _) (by decide) [(E.2 (I + 1)).toInt] [.ref 0, .int (E.2 (I + 1)), .ref 94] h d' (f + 92) (3, 4, 1, 99, 1, 1) rfl (by show 3 ≤ d'; omega) (by omega) ⟨rfl, ⟨_, rfl, brel_v rfl⟩, rfl, trivial⟩ (benv_c w1.1 w1.2 benv_n) bcs_n (fun e he => absurd he List.not_mem_nil) gI gP gT
  obtain ⟨x, hx⟩ := bPR_i m1 (by decide) b1
  subst hx
  have c1 : zex E (f + 92) d' 32 0 [some (.ref 0), some (.int (E.2 (I + 1))), some (.ref 94), none] [] h = some (.inl (some (.int x)), h1) := c1
  obtain ⟨v2, h2, g1, g2, ⟨g3, g4⟩, g5, g6, g7, p2, m2, b2⟩ := hsm 325 [sc403] rfl sc403 (List.Mem.head _) (by decide) [(E.2 (I + 1)).toInt] [.ref 84, .int (E.2 (I + 1))] h1 d' (f + 84) (2, 4, 0, 12, 1, 0) rfl (by show 2 ≤ d'; omega) (by omega) ⟨rfl, ⟨_, rfl, brel_v rfl⟩, trivial⟩ (benv_c w1.1 w1.2 benv_n) bcs_n (fun e he => absurd he List.not_mem_nil) c2 c3 c4
  obtain ⟨y, hy⟩ := bPR_i m2 (by decide) b2
  subst hy
  have g1 : zex E (f + 84) d' 325 0 [some (.ref 84), some (.int (E.2 (I + 1))), none, none] [] h1 = some (.inl (some (.int y)), h2) := g1
  have e := tp_itch (E := E) (n := f + 80) (d := d') (I := I) (i := iv) (u5 := u5) (u6 := u6) (fun k hk => baddk hiv (by omega) (by omega)) hI6 (c4 84 _ cs84 (by intro z; cases z)) c1 g1
  have c8 : h1.2.2.2.1 ≤ h.2.2.2.1 + 1 := c6
  have c9 : h1.2.2.2.2 ≤ h.2.2.2.2 + 6 := c7
  have g8 : h2.2.2.2.1 ≤ h1.2.2.2.1 + 0 := g6
  have g9 : h2.2.2.2.2 ≤ h1.2.2.2.2 + 0 := g7
  exact ⟨h2, _, _, f + 80, L, im, by omega, e, ⟨LI_f g2 g3 g4 (FrT_t (FrT_w (by decide +kernel : wF sc31.2.1 lT = true) c5) (FrT_w (by decide +kernel : wF sc403.2.1 lT = true) g5)) hL9, PX_f (FrP_t (FrP_w (by decide +kernel : wF sc31.2.1 lP = true) c5) (FrP_w (by decide +kernel : wF sc403.2.1 lP = true) g5)) (FrA_t (FrA_w (by decide +kernel : wF sc31.2.1 lA = true) c5) (FrA_w (by decide +kernel : wF sc403.2.1 lA = true) g5)) (FrI_t (FrI_w (by decide +kernel : wF sc31.2.1 lI = true) c5) (FrI_w (by decide +kernel : wF sc403.2.1 lI = true) g5)) pX, EX_z g1 g3 (by decide +kernel : wF sc403.2.1 lE = true) (by decide +kernel : wF sc403.2.1 lPa = true) g5 (Q85_w (by decide +kernel : wF sc403.2.1 l85 = true) g5) (EX_z c1 c3 (by decide +kernel : wF sc31.2.1 lE = true) (by decide +kernel : wF sc31.2.1 lPa = true) c5 (Q85_w (by decide +kernel : wF sc31.2.1 l85 = true) c5) pE)⟩, by omega, by omega⟩
set_option maxRecDepth 100000 in
theorem op_ways (hE : E.1 ≤ 3072) (hsm : bSO E ctb B (60, smT)) (hX : LX h L im) {iv : Int32} {I : Nat} (hiv : iv.toInt = (I : Int)) (hI6 : I + 6 ≤ E.1) {u5 u6 : Option Value} : ∀ d f, 100 ≤ d → B + 6000000 ≤ f → opS E d iv f h (zex E (f + 100) d 0 1661 (t5K iv u5 u6) [] h) := by
  intro d f hd hf
  obtain ⟨d', hd'⟩ : ∃ d', d = d' + 1 := ⟨d - 1, by omega⟩
  subst hd'
  obtain ⟨hL9, pX, pE⟩ := id hX
  obtain ⟨gI, gP, gT, q4⟩ := id hL9
  have w1 := bi32 (E.2 (I + 1))
  have w2 := bi32 (E.2 (I + 2))
  obtain ⟨v1, h1, c1, c2, ⟨c3, c4⟩, c5, c6, c7, p1, m1, b1⟩ := hsm 33 [sc32] rfl sc32 (List.Mem.head _) (by decide) [(E.2 (I + 1)).toInt, (E.2 (I + 2)).toInt] [.ref 0, .int (E.2 (I + 1)), .int (E.2 (I + 2)), .ref 94] h d' (f + 87) (4, 5, 1, 99, 1, 1) rfl (by show 2 ≤ d'; omega) (by omega) ⟨rfl, ⟨_, rfl, brel_v rfl⟩, ⟨_, rfl, brel_v rfl⟩, rfl, trivial⟩ (benv_c w1.1 w1.2 (benv_c w2.1 w2.2 benv_n)) bcs_n (fun e he => absurd he List.not_mem_nil) gI gP gT
  obtain ⟨x, hx⟩ := bPR_i m1 (by decide) b1
  subst hx
  have c1 : zex E (f + 87) d' 33 0 [some (.ref 0), some (.int (E.2 (I + 1))), some (.int (E.2 (I + 2))), some (.ref 94), none] [] h = some (.inl (some (.int x)), h1) := c1
  obtain ⟨v2, h2, g1, g2, ⟨g3, g4⟩, g5, g6, g7, p2, m2, b2⟩ := hsm 326 [sc404] rfl sc404 (List.Mem.head _) (by decide) [(E.2 (I + 1)).toInt, (E.2 (I + 2)).toInt] [.ref 84, .int (E.2 (I + 1)), .int (E.2 (I + 2))] h1 d' (f + 74) (3, 7, 0, 12, 1, 0) rfl (by show 2 ≤ d'; omega) (by omega) ⟨rfl, ⟨_, rfl, brel_v rfl⟩, ⟨_, rfl, brel_v rfl⟩, trivial⟩ (benv_c w1.1 w1.2 (benv_c w2.1 w2.2 benv_n)) bcs_n (fun e he => absurd he List.not_mem_nil) c2 c3 c4
  obtain ⟨y, hy⟩ := bPR_i m2 (by decide) b2
  subst hy
  have g1 : zex E (f + 74) d' 326 0 [some (.ref 84), some (.int (E.2 (I + 1))), some (.int (E.2 (I + 2))), none, none, none, none] [] h1 = some (.inl (some (.int y)), h2) := g1
  have e := tp_ways (E := E) (n := f + 70) (d := d') (I := I) (i := iv) (u5 := u5) (u6 := u6) (fun k hk => baddk hiv (by omega) (by omega)) hI6 (c4 84 _ cs84 (by intro z; cases z)) c1 g1
  have c8 : h1.2.2.2.1 ≤ h.2.2.2.1 + 1 := c6
  have c9 : h1.2.2.2.2 ≤ h.2.2.2.2 + 6 := c7
  have g8 : h2.2.2.2.1 ≤ h1.2.2.2.1 + 0 := g6
  have g9 : h2.2.2.2.2 ≤ h1.2.2.2.2 + 0 := g7
  exact ⟨h2, _, _, f + 70, L, im, by omega, e, ⟨LI_f g2 g3 g4 (FrT_t (FrT_w (by decide +kernel : wF sc32.2.1 lT = true) c5) (FrT_w (by decide +kernel : wF sc404.2.1 lT = true) g5)) hL9, PX_f (FrP_t (FrP_w (by decide +kernel : wF sc32.2.1 lP = true) c5) (FrP_w (by decide +kernel : wF sc404.2.1 lP = true) g5)) (FrA_t (FrA_w (by decide +kernel : wF sc32.2.1 lA = true) c5) (FrA_w (by decide +kernel : wF sc404.2.1 lA = true) g5)) (FrI_t (FrI_w (by decide +kernel : wF sc32.2.1 lI = true) c5) (FrI_w (by decide +kernel : wF sc404.2.1 lI = true) g5)) pX, EX_z g1 g3 (by decide +kernel : wF sc404.2.1 lE = true) (by decide +kernel : wF sc404.2.1 lPa = true) g5 (Q85_w (by decide +kernel : wF sc404.2.1 l85 = true) g5) (EX_z c1 c3 (by decide +kernel : wF sc32.2.1 lE = true) (by decide +kernel : wF sc32.2.1 lPa = true) c5 (Q85_w (by decide +kernel : wF sc32.2.1 l85 = true) c5) pE)⟩, by omega, by omega⟩
set_option maxRecDepth 100000 in
theorem op_cross (hE : E.1 ≤ 3072) (hsm : bSO E ctb B (60, smT)) (hX : LX h L im) {iv : Int32} {I : Nat} (hiv : iv.toInt = (I : Int)) (hI6 : I + 6 ≤ E.1) {u5 u6 : Option Value} : ∀ d f, 100 ≤ d → B + 6000000 ≤ f → opS E d iv f h (zex E (f + 100) d 0 1701 (t5K iv u5 u6) [] h) := by
  intro d f hd hf
  obtain ⟨d', hd'⟩ : ∃ d', d = d' + 1 := ⟨d - 1, by omega⟩
  subst hd'
  obtain ⟨hL9, pX, pE⟩ := id hX
  obtain ⟨gI, gP, gT, q4⟩ := id hL9
  have w1 := bi32 (E.2 (I + 1))
  have w2 := bi32 (E.2 (I + 2))
  obtain ⟨v1, h1, c1, c2, ⟨c3, c4⟩, c5, c6, c7, p1, m1, b1⟩ := hsm 34 [sc33] rfl sc33 (List.Mem.head _) (by decide) [(E.2 (I + 1)).toInt, (E.2 (I + 2)).toInt] [.ref 0, .int (E.2 (I + 1)), .int (E.2 (I + 2)), .ref 94] h d' (f + 87) (4, 5, 1, 99, 1, 1) rfl (by show 4 ≤ d'; omega) (by omega) ⟨rfl, ⟨_, rfl, brel_v rfl⟩, ⟨_, rfl, brel_v rfl⟩, rfl, trivial⟩ (benv_c w1.1 w1.2 (benv_c w2.1 w2.2 benv_n)) bcs_n (fun e he => absurd he List.not_mem_nil) gI gP gT
  obtain ⟨x, hx⟩ := bPR_i m1 (by decide) b1
  subst hx
  have c1 : zex E (f + 87) d' 34 0 [some (.ref 0), some (.int (E.2 (I + 1))), some (.int (E.2 (I + 2))), some (.ref 94), none] [] h = some (.inl (some (.int x)), h1) := c1
  obtain ⟨v2, h2, g1, g2, ⟨g3, g4⟩, g5, g6, g7, p2, m2, b2⟩ := hsm 328 [sc405] rfl sc405 (List.Mem.head _) (by decide) [(E.2 (I + 1)).toInt, (E.2 (I + 2)).toInt] [.ref 84, .int (E.2 (I + 1)), .int (E.2 (I + 2))] h1 d' (f + 74) (3, 4, 0, 12, 1, 0) rfl (by show 3 ≤ d'; omega) (by omega) ⟨rfl, ⟨_, rfl, brel_v rfl⟩, ⟨_, rfl, brel_v rfl⟩, trivial⟩ (benv_c w1.1 w1.2 (benv_c w2.1 w2.2 benv_n)) bcs_n (fun e he => absurd he List.not_mem_nil) c2 c3 c4
  obtain ⟨y, hy⟩ := bPR_i m2 (by decide) b2
  subst hy
  have g1 : zex E (f + 74) d' 328 0 [some (.ref 84), some (.int (E.2 (I + 1))), some (.int (E.2 (I + 2))), none] [] h1 = some (.inl (some (.int y)), h2) := g1
  have e := tp_cross (E := E) (n := f + 70) (d := d') (I := I) (i := iv) (u5 := u5) (u6 := u6) (fun k hk => baddk hiv (by omega) (by omega)) hI6 (c4 84 _ cs84 (by intro z; cases z)) c1 g1
  have c8 : h1.2.2.2.1 ≤ h.2.2.2.1 + 1 := c6
  have c9 : h1.2.2.2.2 ≤ h.2.2.2.2 + 6 := c7
  have g8 : h2.2.2.2.1 ≤ h1.2.2.2.1 + 0 := g6
  have g9 : h2.2.2.2.2 ≤ h1.2.2.2.2 + 0 := g7
  exact ⟨h2, _, _, f + 70, L, im, by omega, e, ⟨LI_f g2 g3 g4 (FrT_t (FrT_w (by decide +kernel : wF sc33.2.1 lT = true) c5) (FrT_w (by decide +kernel : wF sc405.2.1 lT = true) g5)) hL9, PX_f (FrP_t (FrP_w (by decide +kernel : wF sc33.2.1 lP = true) c5) (FrP_w (by decide +kernel : wF sc405.2.1 lP = true) g5)) (FrA_t (FrA_w (by decide +kernel : wF sc33.2.1 lA = true) c5) (FrA_w (by decide +kernel : wF sc405.2.1 lA = true) g5)) (FrI_t (FrI_w (by decide +kernel : wF sc33.2.1 lI = true) c5) (FrI_w (by decide +kernel : wF sc405.2.1 lI = true) g5)) pX, EX_z g1 g3 (by decide +kernel : wF sc405.2.1 lE = true) (by decide +kernel : wF sc405.2.1 lPa = true) g5 (Q85_w (by decide +kernel : wF sc405.2.1 l85 = true) g5) (EX_z c1 c3 (by decide +kernel : wF sc33.2.1 lE = true) (by decide +kernel : wF sc33.2.1 lPa = true) c5 (Q85_w (by decide +kernel : wF sc33.2.1 l85 = true) c5) pE)⟩, by omega, by omega⟩
set_option maxRecDepth 100000 in
theorem op_noon (hE : E.1 ≤ 3072) (hsm : bSO E ctb B (60, smT)) (hX : LX h L im) {iv : Int32} {I : Nat} (hiv : iv.toInt = (I : Int)) (hI6 : I + 6 ≤ E.1) {u5 u6 : Option Value} : ∀ d f, 100 ≤ d → B + 6000000 ≤ f → opS E d iv f h (zex E (f + 100) d 0 1741 (t5K iv u5 u6) [] h) := by
  intro d f hd hf
  obtain ⟨d', hd'⟩ : ∃ d', d = d' + 1 := ⟨d - 1, by omega⟩
  subst hd'
  obtain ⟨hL9, pX, pE⟩ := id hX
  obtain ⟨gI, gP, gT, q4⟩ := id hL9
  obtain ⟨v1, h1, c1, c2, ⟨c3, c4⟩, c5, c6, c7, p1, m1, b1⟩ := hsm 35 [sc34] rfl sc34 (List.Mem.head _) (by decide) [] [.ref 0, .ref 94] h d' (f + 97) (2, 3, 1, 99, 1, 1) rfl (by show 4 ≤ d'; omega) (by omega) ⟨rfl, rfl, trivial⟩ benv_n bcs_n (fun e he => absurd he List.not_mem_nil) gI gP gT
  obtain ⟨x, hx⟩ := bPR_i m1 (by decide) b1
  subst hx
  have c1 : zex E (f + 97) d' 35 0 [some (.ref 0), some (.ref 94), none] [] h = some (.inl (some (.int x)), h1) := c1
  obtain ⟨v2, h2, g1, g2, ⟨g3, g4⟩, g5, g6, g7, p2, m2, b2⟩ := hsm 330 [sc406] rfl sc406 (List.Mem.head _) (by decide) [] [.ref 84] h1 d' (f + 94) (1, 5, 0, 12, 1, 0) rfl (by show 3 ≤ d'; omega) (by omega) ⟨rfl, trivial⟩ benv_n bcs_n (fun e he => absurd he List.not_mem_nil) c2 c3 c4
  obtain ⟨y, hy⟩ := bPR_i m2 (by decide) b2
  subst hy
  have g1 : zex E (f + 94) d' 330 0 [some (.ref 84), none, none, none, none] [] h1 = some (.inl (some (.int y)), h2) := g1
  have e := tp_noon (E := E) (n := f + 90) (d := d') (I := I) (i := iv) (u5 := u5) (u6 := u6) (fun k hk => baddk hiv (by omega) (by omega)) hI6 (c4 84 _ cs84 (by intro z; cases z)) c1 g1
  have c8 : h1.2.2.2.1 ≤ h.2.2.2.1 + 1 := c6
  have c9 : h1.2.2.2.2 ≤ h.2.2.2.2 + 6 := c7
  have g8 : h2.2.2.2.1 ≤ h1.2.2.2.1 + 0 := g6
  have g9 : h2.2.2.2.2 ≤ h1.2.2.2.2 + 0 := g7
  have z1 : (h2.2.1 1 1).toInt = 0 := by rw [g5 1 1 (by decide +kernel)]; exact bPR_z m1 rfl b1
  have z9 : (h2.2.1 84 9).toInt = 0 := bPR_z m2 rfl b2
  exact ⟨h2, _, _, f + 90, 0, im, by omega, e, ⟨LI_u g2 g3 g4 (fun k => (g5 2 k (show Nat.testBit sc406.2.1 (bun 2 0) = false by decide +kernel)).trans (c5 2 k (show Nat.testBit sc34.2.1 (bun 2 0) = false by decide +kernel))) (fun k => (g5 90 k (show Nat.testBit sc406.2.1 (bun 90 0) = false by decide +kernel)).trans (c5 90 k (show Nat.testBit sc34.2.1 (bun 90 0) = false by decide +kernel))) z1 z9 ((g5 30 4 (by decide +kernel)).trans (c5 30 4 (by decide +kernel))) ((g5 84 6 (by decide +kernel)).trans (c5 84 6 (by decide +kernel))) hL9, PX_f (FrP_t (FrP_w (by decide +kernel : wF sc34.2.1 lP = true) c5) (FrP_w (by decide +kernel : wF sc406.2.1 lP = true) g5)) (FrA_t (FrA_w (by decide +kernel : wF sc34.2.1 lA = true) c5) (FrA_w (by decide +kernel : wF sc406.2.1 lA = true) g5)) (FrI_t (FrI_w (by decide +kernel : wF sc34.2.1 lI = true) c5) (FrI_w (by decide +kernel : wF sc406.2.1 lI = true) g5)) pX, EX_z g1 g3 (by decide +kernel : wF sc406.2.1 lE = true) (by decide +kernel : wF sc406.2.1 lPa = true) g5 (Q85_w (by decide +kernel : wF sc406.2.1 l85 = true) g5) (EX_z c1 c3 (by decide +kernel : wF sc34.2.1 lE = true) (by decide +kernel : wF sc34.2.1 lPa = true) c5 (Q85_w (by decide +kernel : wF sc34.2.1 l85 = true) c5) pE)⟩, by omega, by omega⟩
set_option maxRecDepth 100000 in
theorem op_heels (hE : E.1 ≤ 3072) (hsm : bSO E ctb B (60, smT)) (hX : LX h L im) {iv : Int32} {I : Nat} (hiv : iv.toInt = (I : Int)) (hI6 : I + 6 ≤ E.1) {u5 u6 : Option Value} : ∀ d f, 100 ≤ d → B + 6000000 ≤ f → opS E d iv f h (zex E (f + 100) d 0 1757 (t5K iv u5 u6) [] h) := by
  intro d f hd hf
  obtain ⟨d', hd'⟩ : ∃ d', d = d' + 1 := ⟨d - 1, by omega⟩
  subst hd'
  obtain ⟨hL9, pX, pE⟩ := id hX
  obtain ⟨gI, gP, gT, q4⟩ := id hL9
  have w1 := bi32 (E.2 (I + 1))
  obtain ⟨v1, h1, c1, c2, ⟨c3, c4⟩, c5, c6, c7, p1, m1, b1⟩ := hsm 79 [sc40] rfl sc40 (List.Mem.head _) (by decide) [(E.2 (I + 1)).toInt] [.ref 0, .int (E.2 (I + 1))] h d' (f + 93) (2, 4, 0, 11, 1, 0) rfl (by show 3 ≤ d'; omega) (by omega) ⟨rfl, ⟨_, rfl, brel_v rfl⟩, trivial⟩ (benv_c w1.1 w1.2 benv_n) bcs_n (fun e he => absurd he List.not_mem_nil) gI gP gT
  obtain ⟨x, hx⟩ := bPR_i m1 (by decide) b1
  subst hx
  have c1 : zex E (f + 93) d' 79 0 [some (.ref 0), some (.int (E.2 (I + 1))), none, none] [] h = some (.inl (some (.int x)), h1) := c1
  obtain ⟨v2, h2, g1, g2, ⟨g3, g4⟩, g5, g6, g7, p2, m2, b2⟩ := hsm 331 [sc407] rfl sc407 (List.Mem.head _) (by decide) [(E.2 (I + 1)).toInt] [.ref 84, .int (E.2 (I + 1))] h1 d' (f + 85) (2, 6, 0, 12, 1, 0) rfl (by show 1 ≤ d'; omega) (by omega) ⟨rfl, ⟨_, rfl, brel_v rfl⟩, trivial⟩ (benv_c w1.1 w1.2 benv_n) bcs_n (fun e he => absurd he List.not_mem_nil) c2 c3 c4
  obtain ⟨y, hy⟩ := bPR_i m2 (by decide) b2
  subst hy
  have g1 : zex E (f + 85) d' 331 0 [some (.ref 84), some (.int (E.2 (I + 1))), none, none, none, none] [] h1 = some (.inl (some (.int y)), h2) := g1
  have e := tp_heels (E := E) (n := f + 81) (d := d') (I := I) (i := iv) (u5 := u5) (u6 := u6) (fun k hk => baddk hiv (by omega) (by omega)) hI6 (gT 0 _ ks0 (by intro z; cases z)) (c4 84 _ cs84 (by intro z; cases z)) c1 g1
  have c8 : h1.2.2.2.1 ≤ h.2.2.2.1 + 0 := c6
  have c9 : h1.2.2.2.2 ≤ h.2.2.2.2 + 0 := c7
  have g8 : h2.2.2.2.1 ≤ h1.2.2.2.1 + 0 := g6
  have g9 : h2.2.2.2.2 ≤ h1.2.2.2.2 + 0 := g7
  exact ⟨h2, _, _, f + 81, L, im, by omega, e, ⟨LI_f g2 g3 g4 (FrT_t (FrT_w (by decide +kernel : wF sc40.2.1 lT = true) c5) (FrT_w (by decide +kernel : wF sc407.2.1 lT = true) g5)) hL9, PX_f (FrP_t (FrP_w (by decide +kernel : wF sc40.2.1 lP = true) c5) (FrP_w (by decide +kernel : wF sc407.2.1 lP = true) g5)) (FrA_t (FrA_w (by decide +kernel : wF sc40.2.1 lA = true) c5) (FrA_w (by decide +kernel : wF sc407.2.1 lA = true) g5)) (FrI_t (FrI_w (by decide +kernel : wF sc40.2.1 lI = true) c5) (FrI_w (by decide +kernel : wF sc407.2.1 lI = true) g5)) pX, EX_z g1 g3 (by decide +kernel : wF sc407.2.1 lE = true) (by decide +kernel : wF sc407.2.1 lPa = true) g5 (Q85_w (by decide +kernel : wF sc407.2.1 l85 = true) g5) (EX_z c1 c3 (by decide +kernel : wF sc40.2.1 lE = true) (by decide +kernel : wF sc40.2.1 lPa = true) c5 (Q85_w (by decide +kernel : wF sc40.2.1 l85 = true) c5) pE)⟩, by omega, by omega⟩
set_option maxRecDepth 100000 in
theorem op_log (hE : E.1 ≤ 3072) (hsm : bSO E ctb B (60, smT)) (hX : LX h L im) {iv : Int32} {I : Nat} (hiv : iv.toInt = (I : Int)) (hI6 : I + 6 ≤ E.1) {u5 u6 : Option Value} : ∀ d f, 100 ≤ d → B + 6000000 ≤ f → opS E d iv f h (zex E (f + 100) d 0 1782 (t5K iv u5 u6) [] h) := by
  intro d f hd hf
  obtain ⟨d', hd'⟩ : ∃ d', d = d' + 1 := ⟨d - 1, by omega⟩
  subst hd'
  obtain ⟨hL9, pX, pE⟩ := id hX
  obtain ⟨gI, gP, gT, q4⟩ := id hL9
  have w1 := bi32 (E.2 (I + 1))
  have w2 := bi32 (E.2 (I + 2))
  obtain ⟨v1, h1, c1, c2, ⟨c3, c4⟩, c5, c6, c7, p1, m1, b1⟩ := hsm 36 [sc35] rfl sc35 (List.Mem.head _) (by decide) [(E.2 (I + 1)).toInt, (E.2 (I + 2)).toInt] [.ref 0, .int (E.2 (I + 1)), .int (E.2 (I + 2)), .ref 94] h d' (f + 87) (4, 5, 1, 99, 1, 1) rfl (by show 3 ≤ d'; omega) (by omega) ⟨rfl, ⟨_, rfl, brel_v rfl⟩, ⟨_, rfl, brel_v rfl⟩, rfl, trivial⟩ (benv_c w1.1 w1.2 (benv_c w2.1 w2.2 benv_n)) bcs_n (fun e he => absurd he List.not_mem_nil) gI gP gT
  obtain ⟨x, hx⟩ := bPR_i m1 (by decide) b1
  subst hx
  have c1 : zex E (f + 87) d' 36 0 [some (.ref 0), some (.int (E.2 (I + 1))), some (.int (E.2 (I + 2))), some (.ref 94), none] [] h = some (.inl (some (.int x)), h1) := c1
  obtain ⟨v2, h2, g1, g2, ⟨g3, g4⟩, g5, g6, g7, p2, m2, b2⟩ := hsm 332 [sc408] rfl sc408 (List.Mem.head _) (by decide) [(E.2 (I + 1)).toInt, (E.2 (I + 2)).toInt] [.ref 84, .int (E.2 (I + 1)), .int (E.2 (I + 2))] h1 d' (f + 74) (3, 3, 0, 12, 1, 0) rfl (by show 1 ≤ d'; omega) (by omega) ⟨rfl, ⟨_, rfl, brel_v rfl⟩, ⟨_, rfl, brel_v rfl⟩, trivial⟩ (benv_c w1.1 w1.2 (benv_c w2.1 w2.2 benv_n)) bcs_n (fun e he => absurd he List.not_mem_nil) c2 c3 c4
  obtain ⟨y, hy⟩ := bPR_i m2 (by decide) b2
  subst hy
  have g1 : zex E (f + 74) d' 332 0 [some (.ref 84), some (.int (E.2 (I + 1))), some (.int (E.2 (I + 2)))] [] h1 = some (.inl (some (.int y)), h2) := g1
  have e := tp_log (E := E) (n := f + 70) (d := d') (I := I) (i := iv) (u5 := u5) (u6 := u6) (fun k hk => baddk hiv (by omega) (by omega)) hI6 (c4 84 _ cs84 (by intro z; cases z)) c1 g1
  have c8 : h1.2.2.2.1 ≤ h.2.2.2.1 + 1 := c6
  have c9 : h1.2.2.2.2 ≤ h.2.2.2.2 + 6 := c7
  have g8 : h2.2.2.2.1 ≤ h1.2.2.2.1 + 0 := g6
  have g9 : h2.2.2.2.2 ≤ h1.2.2.2.2 + 0 := g7
  exact ⟨h2, _, _, f + 70, L, im, by omega, e, ⟨LI_f g2 g3 g4 (FrT_t (FrT_w (by decide +kernel : wF sc35.2.1 lT = true) c5) (FrT_w (by decide +kernel : wF sc408.2.1 lT = true) g5)) hL9, PX_f (FrP_t (FrP_w (by decide +kernel : wF sc35.2.1 lP = true) c5) (FrP_w (by decide +kernel : wF sc408.2.1 lP = true) g5)) (FrA_t (FrA_w (by decide +kernel : wF sc35.2.1 lA = true) c5) (FrA_w (by decide +kernel : wF sc408.2.1 lA = true) g5)) (FrI_t (FrI_w (by decide +kernel : wF sc35.2.1 lI = true) c5) (FrI_w (by decide +kernel : wF sc408.2.1 lI = true) g5)) pX, EX_z g1 g3 (by decide +kernel : wF sc408.2.1 lE = true) (by decide +kernel : wF sc408.2.1 lPa = true) g5 (Q85_w (by decide +kernel : wF sc408.2.1 l85 = true) g5) (EX_z c1 c3 (by decide +kernel : wF sc35.2.1 lE = true) (by decide +kernel : wF sc35.2.1 lPa = true) c5 (Q85_w (by decide +kernel : wF sc35.2.1 l85 = true) c5) pE)⟩, by omega, by omega⟩
set_option maxRecDepth 100000 in
theorem op_led (hE : E.1 ≤ 3072) (hsm : bSO E ctb B (60, smT)) (hX : LX h L im) {iv : Int32} {I : Nat} (hiv : iv.toInt = (I : Int)) (hI6 : I + 6 ≤ E.1) {u5 u6 : Option Value} : ∀ d f, 100 ≤ d → B + 6000000 ≤ f → opS E d iv f h (zex E (f + 100) d 0 1822 (t5K iv u5 u6) [] h) := by
  intro d f hd hf
  obtain ⟨d', hd'⟩ : ∃ d', d = d' + 1 := ⟨d - 1, by omega⟩
  subst hd'
  obtain ⟨hL9, pX, pE⟩ := id hX
  obtain ⟨gI, gP, gT, q4⟩ := id hL9
  have w1 := bi32 (E.2 (I + 1))
  have w2 := bi32 (E.2 (I + 2))
  obtain ⟨v1, h1, c1, c2, ⟨c3, c4⟩, c5, c6, c7, p1, m1, b1⟩ := hsm 37 [sc36] rfl sc36 (List.Mem.head _) (by decide) [(E.2 (I + 1)).toInt, (E.2 (I + 2)).toInt] [.ref 0, .int (E.2 (I + 1)), .int (E.2 (I + 2)), .ref 94] h d' (f + 87) (4, 5, 1, 99, 1, 1) rfl (by show 4 ≤ d'; omega) (by omega) ⟨rfl, ⟨_, rfl, brel_v rfl⟩, ⟨_, rfl, brel_v rfl⟩, rfl, trivial⟩ (benv_c w1.1 w1.2 (benv_c w2.1 w2.2 benv_n)) bcs_n (fun e he => absurd he List.not_mem_nil) gI gP gT
  obtain ⟨x, hx⟩ := bPR_i m1 (by decide) b1
  subst hx
  have c1 : zex E (f + 87) d' 37 0 [some (.ref 0), some (.int (E.2 (I + 1))), some (.int (E.2 (I + 2))), some (.ref 94), none] [] h = some (.inl (some (.int x)), h1) := c1
  obtain ⟨v2, h2, g1, g2, ⟨g3, g4⟩, g5, g6, g7, p2, m2, b2⟩ := hsm 333 [sc409] rfl sc409 (List.Mem.head _) (by decide) [(E.2 (I + 1)).toInt, (E.2 (I + 2)).toInt] [.ref 84, .int (E.2 (I + 1)), .int (E.2 (I + 2))] h1 d' (f + 74) (3, 6, 0, 12, 1, 0) rfl (by show 2 ≤ d'; omega) (by omega) ⟨rfl, ⟨_, rfl, brel_v rfl⟩, ⟨_, rfl, brel_v rfl⟩, trivial⟩ (benv_c w1.1 w1.2 (benv_c w2.1 w2.2 benv_n)) bcs_n (fun e he => absurd he List.not_mem_nil) c2 c3 c4
  obtain ⟨y, hy⟩ := bPR_i m2 (by decide) b2
  subst hy
  have g1 : zex E (f + 74) d' 333 0 [some (.ref 84), some (.int (E.2 (I + 1))), some (.int (E.2 (I + 2))), none, none, none] [] h1 = some (.inl (some (.int y)), h2) := g1
  have e := tp_led (E := E) (n := f + 70) (d := d') (I := I) (i := iv) (u5 := u5) (u6 := u6) (fun k hk => baddk hiv (by omega) (by omega)) hI6 (c4 84 _ cs84 (by intro z; cases z)) c1 g1
  have c8 : h1.2.2.2.1 ≤ h.2.2.2.1 + 1 := c6
  have c9 : h1.2.2.2.2 ≤ h.2.2.2.2 + 6 := c7
  have g8 : h2.2.2.2.1 ≤ h1.2.2.2.1 + 0 := g6
  have g9 : h2.2.2.2.2 ≤ h1.2.2.2.2 + 0 := g7
  exact ⟨h2, _, _, f + 70, L, im, by omega, e, ⟨LI_f g2 g3 g4 (FrT_t (FrT_w (by decide +kernel : wF sc36.2.1 lT = true) c5) (FrT_w (by decide +kernel : wF sc409.2.1 lT = true) g5)) hL9, PX_f (FrP_t (FrP_w (by decide +kernel : wF sc36.2.1 lP = true) c5) (FrP_w (by decide +kernel : wF sc409.2.1 lP = true) g5)) (FrA_t (FrA_w (by decide +kernel : wF sc36.2.1 lA = true) c5) (FrA_w (by decide +kernel : wF sc409.2.1 lA = true) g5)) (FrI_t (FrI_w (by decide +kernel : wF sc36.2.1 lI = true) c5) (FrI_w (by decide +kernel : wF sc409.2.1 lI = true) g5)) pX, EX_z g1 g3 (by decide +kernel : wF sc409.2.1 lE = true) (by decide +kernel : wF sc409.2.1 lPa = true) g5 (Q85_w (by decide +kernel : wF sc409.2.1 l85 = true) g5) (EX_z c1 c3 (by decide +kernel : wF sc36.2.1 lE = true) (by decide +kernel : wF sc36.2.1 lPa = true) c5 (Q85_w (by decide +kernel : wF sc36.2.1 l85 = true) c5) pE)⟩, by omega, by omega⟩
set_option maxRecDepth 100000 in
theorem op_seed (hE : E.1 ≤ 3072) (hsm : bSO E ctb B (60, smT)) (hX : LX h L im) {iv : Int32} {I : Nat} (hiv : iv.toInt = (I : Int)) (hI6 : I + 6 ≤ E.1) {u5 u6 : Option Value} : ∀ d f, 100 ≤ d → B + 6000000 ≤ f → opS E d iv f h (zex E (f + 100) d 0 1862 (t5K iv u5 u6) [] h) := by
  intro d f hd hf
  obtain ⟨d', hd'⟩ : ∃ d', d = d' + 1 := ⟨d - 1, by omega⟩
  subst hd'
  obtain ⟨hL9, pX, pE⟩ := id hX
  obtain ⟨gI, gP, gT, q4⟩ := id hL9
  have w1 := bi32 (E.2 (I + 1))
  obtain ⟨v1, h1, c1, c2, ⟨c3, c4⟩, c5, c6, c7, p1, m1, b1⟩ := hsm 82 [sc41] rfl sc41 (List.Mem.head _) (by decide) [(E.2 (I + 1)).toInt] [.ref 0, .int (E.2 (I + 1))] h d' (f + 93) (2, 3, 0, 11, 1, 0) rfl (by show 0 ≤ d'; omega) (by omega) ⟨rfl, ⟨_, rfl, brel_v rfl⟩, trivial⟩ (benv_c w1.1 w1.2 benv_n) bcs_n (fun e he => absurd he List.not_mem_nil) gI gP gT
  obtain ⟨x, hx⟩ := bPR_i m1 (by decide) b1
  subst hx
  have c1 : zex E (f + 93) d' 82 0 [some (.ref 0), some (.int (E.2 (I + 1))), none] [] h = some (.inl (some (.int x)), h1) := c1
  obtain ⟨v2, h2, g1, g2, ⟨g3, g4⟩, g5, g6, g7, p2, m2, b2⟩ := hsm 334 [sc410] rfl sc410 (List.Mem.head _) (by decide) [(E.2 (I + 1)).toInt] [.ref 84, .int (E.2 (I + 1))] h1 d' (f + 85) (2, 3, 0, 12, 1, 0) rfl (by show 0 ≤ d'; omega) (by omega) ⟨rfl, ⟨_, rfl, brel_v rfl⟩, trivial⟩ (benv_c w1.1 w1.2 benv_n) bcs_n (fun e he => absurd he List.not_mem_nil) c2 c3 c4
  obtain ⟨y, hy⟩ := bPR_i m2 (by decide) b2
  subst hy
  have g1 : zex E (f + 85) d' 334 0 [some (.ref 84), some (.int (E.2 (I + 1))), none] [] h1 = some (.inl (some (.int y)), h2) := g1
  have e := tp_seed (E := E) (n := f + 81) (d := d') (I := I) (i := iv) (u5 := u5) (u6 := u6) (fun k hk => baddk hiv (by omega) (by omega)) hI6 (gT 0 _ ks0 (by intro z; cases z)) (c4 84 _ cs84 (by intro z; cases z)) c1 g1
  have c8 : h1.2.2.2.1 ≤ h.2.2.2.1 + 0 := c6
  have c9 : h1.2.2.2.2 ≤ h.2.2.2.2 + 0 := c7
  have g8 : h2.2.2.2.1 ≤ h1.2.2.2.1 + 0 := g6
  have g9 : h2.2.2.2.2 ≤ h1.2.2.2.2 + 0 := g7
  exact ⟨h2, _, _, f + 81, L, im, by omega, e, ⟨LI_f g2 g3 g4 (FrT_t (FrT_w (by decide +kernel : wF sc41.2.1 lT = true) c5) (FrT_w (by decide +kernel : wF sc410.2.1 lT = true) g5)) hL9, PX_f (FrP_t (FrP_w (by decide +kernel : wF sc41.2.1 lP = true) c5) (FrP_w (by decide +kernel : wF sc410.2.1 lP = true) g5)) (FrA_t (FrA_w (by decide +kernel : wF sc41.2.1 lA = true) c5) (FrA_w (by decide +kernel : wF sc410.2.1 lA = true) g5)) (FrI_t (FrI_w (by decide +kernel : wF sc41.2.1 lI = true) c5) (FrI_w (by decide +kernel : wF sc410.2.1 lI = true) g5)) pX, EX_z g1 g3 (by decide +kernel : wF sc410.2.1 lE = true) (by decide +kernel : wF sc410.2.1 lPa = true) g5 (Q85_w (by decide +kernel : wF sc410.2.1 l85 = true) g5) (EX_z c1 c3 (by decide +kernel : wF sc41.2.1 lE = true) (by decide +kernel : wF sc41.2.1 lPa = true) c5 (Q85_w (by decide +kernel : wF sc41.2.1 l85 = true) c5) pE)⟩, by omega, by omega⟩
set_option maxRecDepth 100000 in
theorem op_count (hE : E.1 ≤ 3072) (hsm : bSO E ctb B (60, smT)) (hX : LX h L im) {iv : Int32} {I : Nat} (hiv : iv.toInt = (I : Int)) (hI6 : I + 6 ≤ E.1) {u5 u6 : Option Value} : ∀ d f, 100 ≤ d → B + 6000000 ≤ f → opS E d iv f h (zex E (f + 100) d 0 1924 (t5K iv u5 u6) [] h) := by
  intro d f hd hf
  obtain ⟨d', hd'⟩ : ∃ d', d = d' + 1 := ⟨d - 1, by omega⟩
  subst hd'
  obtain ⟨hL9, pX, pE⟩ := id hX
  obtain ⟨gI, gP, gT, q4⟩ := id hL9
  have w1 := bi32 (E.2 (I + 1))
  obtain ⟨v1, h1, c1, c2, ⟨c3, c4⟩, c5, c6, c7, p1, m1, b1⟩ := hsm 86 [sc45] rfl sc45 (List.Mem.head _) (by decide) [(E.2 (I + 1)).toInt] [.ref 0, .int (E.2 (I + 1))] h d' (f + 93) (2, 2, 0, 11, 1, 0) rfl (by show 2 ≤ d'; omega) (by omega) ⟨rfl, ⟨_, rfl, brel_v rfl⟩, trivial⟩ (benv_c w1.1 w1.2 benv_n) bcs_n (fun e he => absurd he List.not_mem_nil) gI gP gT
  obtain ⟨x, hx⟩ := bPR_i m1 (by decide) b1
  subst hx
  have c1 : zex E (f + 93) d' 86 0 [some (.ref 0), some (.int (E.2 (I + 1)))] [] h = some (.inl (some (.int x)), h1) := c1
  obtain ⟨v2, h2, g1, g2, ⟨g3, g4⟩, g5, g6, g7, p2, m2, b2⟩ := hsm 335 [sc411] rfl sc411 (List.Mem.head _) (by decide) [(E.2 (I + 1)).toInt] [.ref 84, .int (E.2 (I + 1))] h1 d' (f + 85) (2, 4, 0, 12, 1, 0) rfl (by show 3 ≤ d'; omega) (by omega) ⟨rfl, ⟨_, rfl, brel_v rfl⟩, trivial⟩ (benv_c w1.1 w1.2 benv_n) bcs_n (fun e he => absurd he List.not_mem_nil) c2 c3 c4
  obtain ⟨y, hy⟩ := bPR_i m2 (by decide) b2
  subst hy
  have g1 : zex E (f + 85) d' 335 0 [some (.ref 84), some (.int (E.2 (I + 1))), none, none] [] h1 = some (.inl (some (.int y)), h2) := g1
  have e := tp_count (E := E) (n := f + 81) (d := d') (I := I) (i := iv) (u5 := u5) (u6 := u6) (fun k hk => baddk hiv (by omega) (by omega)) hI6 (gT 0 _ ks0 (by intro z; cases z)) (c4 84 _ cs84 (by intro z; cases z)) c1 g1
  have c8 : h1.2.2.2.1 ≤ h.2.2.2.1 + 0 := c6
  have c9 : h1.2.2.2.2 ≤ h.2.2.2.2 + 0 := c7
  have g8 : h2.2.2.2.1 ≤ h1.2.2.2.1 + 0 := g6
  have g9 : h2.2.2.2.2 ≤ h1.2.2.2.2 + 0 := g7
  exact ⟨h2, _, _, f + 81, L, im, by omega, e, ⟨LI_f g2 g3 g4 (FrT_t (FrT_w (by decide +kernel : wF sc45.2.1 lT = true) c5) (FrT_w (by decide +kernel : wF sc411.2.1 lT = true) g5)) hL9, PX_f (FrP_t (FrP_w (by decide +kernel : wF sc45.2.1 lP = true) c5) (FrP_w (by decide +kernel : wF sc411.2.1 lP = true) g5)) (FrA_t (FrA_w (by decide +kernel : wF sc45.2.1 lA = true) c5) (FrA_w (by decide +kernel : wF sc411.2.1 lA = true) g5)) (FrI_t (FrI_w (by decide +kernel : wF sc45.2.1 lI = true) c5) (FrI_w (by decide +kernel : wF sc411.2.1 lI = true) g5)) pX, EX_z g1 g3 (by decide +kernel : wF sc411.2.1 lE = true) (by decide +kernel : wF sc411.2.1 lPa = true) g5 (Q85_w (by decide +kernel : wF sc411.2.1 l85 = true) g5) (EX_z c1 c3 (by decide +kernel : wF sc45.2.1 lE = true) (by decide +kernel : wF sc45.2.1 lPa = true) c5 (Q85_w (by decide +kernel : wF sc45.2.1 l85 = true) c5) pE)⟩, by omega, by omega⟩
end OP
