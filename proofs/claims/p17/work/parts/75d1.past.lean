/-! p46: the class's pasts exactly (wip/zab2/c/lgen35.py) -/
set_option maxRecDepth 100000 in
theorem zgj167_107 : zfetch 167 107 = some (.aload_n 0, 1, (0, 0, 0), 0, 0) := by decide +kernel
set_option maxRecDepth 100000 in
theorem zgj167_108 : zfetch 167 108 = some (.aload_n 0, 1, (0, 0, 0), 0, 0) := by decide +kernel
set_option maxRecDepth 100000 in
theorem zgj167_109 : zfetch 167 109 = some (.getfield 21, 3, (7, 2, 0), 0, 470) := by decide +kernel
set_option maxRecDepth 100000 in
theorem zgj167_112 : zfetch 167 112 = some (.iconst 1, 1, (0, 0, 0), 1, 0) := by decide +kernel
set_option maxRecDepth 100000 in
theorem zgj167_113 : zfetch 167 113 = some (.iadd, 1, (0, 0, 0), 0, 0) := by decide +kernel
set_option maxRecDepth 100000 in
theorem zgj167_114 : zfetch 167 114 = some (.bipush 12, 2, (0, 0, 0), 12, 0) := by decide +kernel
set_option maxRecDepth 100000 in
theorem zgj167_116 : zfetch 167 116 = some (.invokestatic 37, 3, (2, 0, 0), 0, 1252) := by decide +kernel
set_option maxRecDepth 100000 in
theorem zgj167_119 : zfetch 167 119 = some (.putfield 21, 3, (7, 2, 0), 0, 470) := by decide +kernel
set_option maxRecDepth 100000 in
theorem zgj167_122 : zfetch 167 122 = some (.return_, 1, (0, 0, 0), 0, 0) := by decide +kernel
set_option maxRecDepth 100000 in
theorem zgj168_0 : zfetch 168 0 = some (.aload_n 0, 1, (0, 0, 0), 0, 0) := by decide +kernel
set_option maxRecDepth 100000 in
theorem zgj168_1 : zfetch 168 1 = some (.getfield 25, 3, (7, 3, 0), 0, 472) := by decide +kernel
set_option maxRecDepth 100000 in
theorem zgj168_4 : zfetch 168 4 = some (.ifCond .le 12, 3, (16, 0, 0), 0, 0) := by decide +kernel
set_option maxRecDepth 100000 in
theorem zgj168_16 : zfetch 168 16 = some (.bipush 11, 2, (0, 0, 0), 11, 0) := by decide +kernel
set_option maxRecDepth 100000 in
theorem zgj168_18 : zfetch 168 18 = some (.istore_n 3, 1, (0, 0, 0), 0, 0) := by decide +kernel
set_option maxRecDepth 100000 in
theorem zgj168_19 : zfetch 168 19 = some (.aload_n 0, 1, (0, 0, 0), 0, 0) := by decide +kernel
set_option maxRecDepth 100000 in
theorem zgj168_20 : zfetch 168 20 = some (.getfield 21, 3, (7, 2, 0), 0, 470) := by decide +kernel
set_option maxRecDepth 100000 in
theorem zgj168_23 : zfetch 168 23 = some (.ifCond .eq 21, 3, (44, 0, 0), 0, 0) := by decide +kernel
set_option maxRecDepth 100000 in
theorem zgj168_44 : zfetch 168 44 = some (.iconst 0, 1, (0, 0, 0), 0, 0) := by decide +kernel
set_option maxRecDepth 100000 in
theorem zgj168_45 : zfetch 168 45 = some (.ireturn, 1, (0, 0, 0), 0, 0) := by decide +kernel
set_option maxRecDepth 100000 in
theorem zgj168_7 : zfetch 168 7 = some (.aload_n 0, 1, (0, 0, 0), 0, 0) := by decide +kernel
set_option maxRecDepth 100000 in
theorem zgj168_8 : zfetch 168 8 = some (.getfield 25, 3, (7, 3, 0), 0, 472) := by decide +kernel
set_option maxRecDepth 100000 in
theorem zgj168_11 : zfetch 168 11 = some (.iconst 1, 1, (0, 0, 0), 1, 0) := by decide +kernel
set_option maxRecDepth 100000 in
theorem zgj168_12 : zfetch 168 12 = some (.isub, 1, (0, 0, 0), 0, 0) := by decide +kernel
set_option maxRecDepth 100000 in
theorem zgj168_13 : zfetch 168 13 = some (.goto 5, 3, (18, 0, 0), 0, 0) := by decide +kernel
set_option maxRecDepth 100000 in
theorem zgj168_71 : zfetch 168 71 = some (.aload_n 0, 1, (0, 0, 0), 0, 0) := by decide +kernel
set_option maxRecDepth 100000 in
theorem zgj168_72 : zfetch 168 72 = some (.dup, 1, (0, 0, 0), 0, 0) := by decide +kernel
set_option maxRecDepth 100000 in
theorem zgj168_73 : zfetch 168 73 = some (.getfield 21, 3, (7, 2, 0), 0, 470) := by decide +kernel
set_option maxRecDepth 100000 in
theorem zgj168_76 : zfetch 168 76 = some (.iconst 1, 1, (0, 0, 0), 1, 0) := by decide +kernel
set_option maxRecDepth 100000 in
theorem zgj168_77 : zfetch 168 77 = some (.isub, 1, (0, 0, 0), 0, 0) := by decide +kernel
set_option maxRecDepth 100000 in
theorem zgj168_78 : zfetch 168 78 = some (.putfield 21, 3, (7, 2, 0), 0, 470) := by decide +kernel
set_option maxRecDepth 100000 in
theorem zgj168_81 : zfetch 168 81 = some (.iconst 1, 1, (0, 0, 0), 1, 0) := by decide +kernel
set_option maxRecDepth 100000 in
theorem zgj168_82 : zfetch 168 82 = some (.ireturn, 1, (0, 0, 0), 0, 0) := by decide +kernel
set_option maxRecDepth 100000 in
theorem pe_t {E : zE} {n d : Nat} {h : zH}   (a27 : zat h.1 27 = some (.inr (.inl (7, [some (some 28), some (some 29), none, none]))))  : zex E (n + 9) d 167 107 [some (.ref 27), some (.ref 18), some (.ref 25)] [] h = some (.inl none, (zsetI h 27 (upd (h.2.1 27) 2 (if 12 < ((h.2.1 27 2) + 1) then 12 else ((h.2.1 27 2) + 1))))) :=
  ((yAn zgj167_107 rfl rfl) : zex E (n + 9) d 167 107 [some (.ref 27), some (.ref 18), some (.ref 25)] [] h = zex E (n + 8) d 167 108 [some (.ref 27), some (.ref 18), some (.ref 25)] [.ref 27] h).trans (((yAn zgj167_108 rfl rfl) : zex E (n + 8) d 167 108 [some (.ref 27), some (.ref 18), some (.ref 25)] [.ref 27] h = zex E (n + 7) d 167 109 [some (.ref 27), some (.ref 18), some (.ref 25)] [.ref 27, .ref 27] h).trans (((zgi zgj167_109 a27 rfl) : zex E (n + 7) d 167 109 [some (.ref 27), some (.ref 18), some (.ref 25)] [.ref 27, .ref 27] h = zex E (n + 6) d 167 112 [some (.ref 27), some (.ref 18), some (.ref 25)] [.int (h.2.1 27 2), .ref 27] h).trans (((yCi zgj167_112) : zex E (n + 6) d 167 112 [some (.ref 27), some (.ref 18), some (.ref 25)] [.int (h.2.1 27 2), .ref 27] h = zex E (n + 5) d 167 113 [some (.ref 27), some (.ref 18), some (.ref 25)] [.int 1, .int (h.2.1 27 2), .ref 27] h).trans (((yAdd zgj167_113) : zex E (n + 5) d 167 113 [some (.ref 27), some (.ref 18), some (.ref 25)] [.int 1, .int (h.2.1 27 2), .ref 27] h = zex E (n + 4) d 167 114 [some (.ref 27), some (.ref 18), some (.ref 25)] [.int ((h.2.1 27 2) + 1), .ref 27] h).trans (((yCb zgj167_114) : zex E (n + 4) d 167 114 [some (.ref 27), some (.ref 18), some (.ref 25)] [.int ((h.2.1 27 2) + 1), .ref 27] h = zex E (n + 3) d 167 116 [some (.ref 27), some (.ref 18), some (.ref 25)] [.int 12, .int ((h.2.1 27 2) + 1), .ref 27] h).trans (((yMin zgj167_116 rfl) : zex E (n + 3) d 167 116 [some (.ref 27), some (.ref 18), some (.ref 25)] [.int 12, .int ((h.2.1 27 2) + 1), .ref 27] h = zex E (n + 2) d 167 119 [some (.ref 27), some (.ref 18), some (.ref 25)] [.int (if 12 < ((h.2.1 27 2) + 1) then 12 else ((h.2.1 27 2) + 1)), .ref 27] h).trans (((zpx zgj167_119 a27 rfl) : zex E (n + 2) d 167 119 [some (.ref 27), some (.ref 18), some (.ref 25)] [.int (if 12 < ((h.2.1 27 2) + 1) then 12 else ((h.2.1 27 2) + 1)), .ref 27] h = zex E (n + 1) d 167 122 [some (.ref 27), some (.ref 18), some (.ref 25)] [] (zsetI h 27 (upd (h.2.1 27) 2 (if 12 < ((h.2.1 27 2) + 1) then 12 else ((h.2.1 27 2) + 1))))).trans (((yRet0 zgj167_122 rfl) : zex E (n + 1) d 167 122 [some (.ref 27), some (.ref 18), some (.ref 25)] [] (zsetI h 27 (upd (h.2.1 27) 2 (if 12 < ((h.2.1 27 2) + 1) then 12 else ((h.2.1 27 2) + 1)))) = some (.inl none, (zsetI h 27 (upd (h.2.1 27) 2 (if 12 < ((h.2.1 27 2) + 1) then 12 else ((h.2.1 27 2) + 1))))))))))))))
set_option maxRecDepth 100000 in
theorem pe_0 {E : zE} {n d : Nat} {h : zH}  (h0 : (h.2.1 27 3).toInt ≤ 0) (h1 : (h.2.1 27 2).toInt = 0) (a27 : zat h.1 27 = some (.inr (.inl (7, [some (some 28), some (some 29), none, none]))))  : zex E (n + 10) d 168 0 [some (.ref 27), some (.ref 18), some (.ref 25), none] [] h = some (.inl (some (.int 0)), h) :=
  ((yAn zgj168_0 rfl rfl) : zex E (n + 10) d 168 0 [some (.ref 27), some (.ref 18), some (.ref 25), none] [] h = zex E (n + 9) d 168 1 [some (.ref 27), some (.ref 18), some (.ref 25), none] [.ref 27] h).trans (((zgi zgj168_1 a27 rfl) : zex E (n + 9) d 168 1 [some (.ref 27), some (.ref 18), some (.ref 25), none] [.ref 27] h = zex E (n + 8) d 168 4 [some (.ref 27), some (.ref 18), some (.ref 25), none] [.int (h.2.1 27 3)] h).trans (((zjiT zgj168_4 h0) : zex E (n + 8) d 168 4 [some (.ref 27), some (.ref 18), some (.ref 25), none] [.int (h.2.1 27 3)] h = zex E (n + 7) d 168 16 [some (.ref 27), some (.ref 18), some (.ref 25), none] [] h).trans (((yCb zgj168_16) : zex E (n + 7) d 168 16 [some (.ref 27), some (.ref 18), some (.ref 25), none] [] h = zex E (n + 6) d 168 18 [some (.ref 27), some (.ref 18), some (.ref 25), none] [.int 11] h).trans (((ySn zgj168_18) : zex E (n + 6) d 168 18 [some (.ref 27), some (.ref 18), some (.ref 25), none] [.int 11] h = zex E (n + 5) d 168 19 [some (.ref 27), some (.ref 18), some (.ref 25), some (.int 11)] [] h).trans (((yAn zgj168_19 rfl rfl) : zex E (n + 5) d 168 19 [some (.ref 27), some (.ref 18), some (.ref 25), some (.int 11)] [] h = zex E (n + 4) d 168 20 [some (.ref 27), some (.ref 18), some (.ref 25), some (.int 11)] [.ref 27] h).trans (((zgi zgj168_20 a27 rfl) : zex E (n + 4) d 168 20 [some (.ref 27), some (.ref 18), some (.ref 25), some (.int 11)] [.ref 27] h = zex E (n + 3) d 168 23 [some (.ref 27), some (.ref 18), some (.ref 25), some (.int 11)] [.int (h.2.1 27 2)] h).trans (((zjeT zgj168_23 h1) : zex E (n + 3) d 168 23 [some (.ref 27), some (.ref 18), some (.ref 25), some (.int 11)] [.int (h.2.1 27 2)] h = zex E (n + 2) d 168 44 [some (.ref 27), some (.ref 18), some (.ref 25), some (.int 11)] [] h).trans (((yCi zgj168_44) : zex E (n + 2) d 168 44 [some (.ref 27), some (.ref 18), some (.ref 25), some (.int 11)] [] h = zex E (n + 1) d 168 45 [some (.ref 27), some (.ref 18), some (.ref 25), some (.int 11)] [.int 0] h).trans (((yRet2 zgj168_45 rfl (Or.inl rfl)) : zex E (n + 1) d 168 45 [some (.ref 27), some (.ref 18), some (.ref 25), some (.int 11)] [.int 0] h = some (.inl (some (.int 0)), h)))))))))))
set_option maxRecDepth 100000 in
theorem pe_1 {E : zE} {n d : Nat} {h : zH}  (h0 : 0 < (h.2.1 27 3).toInt) (h1 : (h.2.1 27 2).toInt = 0) (a27 : zat h.1 27 = some (.inr (.inl (7, [some (some 28), some (some 29), none, none]))))  : zex E (n + 14) d 168 0 [some (.ref 27), some (.ref 18), some (.ref 25), none] [] h = some (.inl (some (.int 0)), h) :=
  ((yAn zgj168_0 rfl rfl) : zex E (n + 14) d 168 0 [some (.ref 27), some (.ref 18), some (.ref 25), none] [] h = zex E (n + 13) d 168 1 [some (.ref 27), some (.ref 18), some (.ref 25), none] [.ref 27] h).trans (((zgi zgj168_1 a27 rfl) : zex E (n + 13) d 168 1 [some (.ref 27), some (.ref 18), some (.ref 25), none] [.ref 27] h = zex E (n + 12) d 168 4 [some (.ref 27), some (.ref 18), some (.ref 25), none] [.int (h.2.1 27 3)] h).trans (((zjiF zgj168_4 h0) : zex E (n + 12) d 168 4 [some (.ref 27), some (.ref 18), some (.ref 25), none] [.int (h.2.1 27 3)] h = zex E (n + 11) d 168 7 [some (.ref 27), some (.ref 18), some (.ref 25), none] [] h).trans (((yAn zgj168_7 rfl rfl) : zex E (n + 11) d 168 7 [some (.ref 27), some (.ref 18), some (.ref 25), none] [] h = zex E (n + 10) d 168 8 [some (.ref 27), some (.ref 18), some (.ref 25), none] [.ref 27] h).trans (((zgi zgj168_8 a27 rfl) : zex E (n + 10) d 168 8 [some (.ref 27), some (.ref 18), some (.ref 25), none] [.ref 27] h = zex E (n + 9) d 168 11 [some (.ref 27), some (.ref 18), some (.ref 25), none] [.int (h.2.1 27 3)] h).trans (((yCi zgj168_11) : zex E (n + 9) d 168 11 [some (.ref 27), some (.ref 18), some (.ref 25), none] [.int (h.2.1 27 3)] h = zex E (n + 8) d 168 12 [some (.ref 27), some (.ref 18), some (.ref 25), none] [.int 1, .int (h.2.1 27 3)] h).trans (((ySub zgj168_12) : zex E (n + 8) d 168 12 [some (.ref 27), some (.ref 18), some (.ref 25), none] [.int 1, .int (h.2.1 27 3)] h = zex E (n + 7) d 168 13 [some (.ref 27), some (.ref 18), some (.ref 25), none] [.int ((h.2.1 27 3) - 1)] h).trans (((yGo zgj168_13) : zex E (n + 7) d 168 13 [some (.ref 27), some (.ref 18), some (.ref 25), none] [.int ((h.2.1 27 3) - 1)] h = zex E (n + 6) d 168 18 [some (.ref 27), some (.ref 18), some (.ref 25), none] [.int ((h.2.1 27 3) - 1)] h).trans (((ySn zgj168_18) : zex E (n + 6) d 168 18 [some (.ref 27), some (.ref 18), some (.ref 25), none] [.int ((h.2.1 27 3) - 1)] h = zex E (n + 5) d 168 19 [some (.ref 27), some (.ref 18), some (.ref 25), some (.int ((h.2.1 27 3) - 1))] [] h).trans (((yAn zgj168_19 rfl rfl) : zex E (n + 5) d 168 19 [some (.ref 27), some (.ref 18), some (.ref 25), some (.int ((h.2.1 27 3) - 1))] [] h = zex E (n + 4) d 168 20 [some (.ref 27), some (.ref 18), some (.ref 25), some (.int ((h.2.1 27 3) - 1))] [.ref 27] h).trans (((zgi zgj168_20 a27 rfl) : zex E (n + 4) d 168 20 [some (.ref 27), some (.ref 18), some (.ref 25), some (.int ((h.2.1 27 3) - 1))] [.ref 27] h = zex E (n + 3) d 168 23 [some (.ref 27), some (.ref 18), some (.ref 25), some (.int ((h.2.1 27 3) - 1))] [.int (h.2.1 27 2)] h).trans (((zjeT zgj168_23 h1) : zex E (n + 3) d 168 23 [some (.ref 27), some (.ref 18), some (.ref 25), some (.int ((h.2.1 27 3) - 1))] [.int (h.2.1 27 2)] h = zex E (n + 2) d 168 44 [some (.ref 27), some (.ref 18), some (.ref 25), some (.int ((h.2.1 27 3) - 1))] [] h).trans (((yCi zgj168_44) : zex E (n + 2) d 168 44 [some (.ref 27), some (.ref 18), some (.ref 25), some (.int ((h.2.1 27 3) - 1))] [] h = zex E (n + 1) d 168 45 [some (.ref 27), some (.ref 18), some (.ref 25), some (.int ((h.2.1 27 3) - 1))] [.int 0] h).trans (((yRet2 zgj168_45 rfl (Or.inl rfl)) : zex E (n + 1) d 168 45 [some (.ref 27), some (.ref 18), some (.ref 25), some (.int ((h.2.1 27 3) - 1))] [.int 0] h = some (.inl (some (.int 0)), h)))))))))))))))
set_option maxRecDepth 100000 in
theorem pe_2 {E : zE} {n d : Nat} {h : zH} {u3 : Option Value}  (a27 : zat h.1 27 = some (.inr (.inl (7, [some (some 28), some (some 29), none, none]))))  : zex E (n + 8) d 168 71 [some (.ref 27), some (.ref 18), some (.ref 25), u3] [] h = some (.inl (some (.int 1)), (zsetI h 27 (upd (h.2.1 27) 2 ((h.2.1 27 2) - 1)))) :=
  ((yAn zgj168_71 rfl rfl) : zex E (n + 8) d 168 71 [some (.ref 27), some (.ref 18), some (.ref 25), u3] [] h = zex E (n + 7) d 168 72 [some (.ref 27), some (.ref 18), some (.ref 25), u3] [.ref 27] h).trans (((yDup zgj168_72 rfl) : zex E (n + 7) d 168 72 [some (.ref 27), some (.ref 18), some (.ref 25), u3] [.ref 27] h = zex E (n + 6) d 168 73 [some (.ref 27), some (.ref 18), some (.ref 25), u3] [.ref 27, .ref 27] h).trans (((zgi zgj168_73 a27 rfl) : zex E (n + 6) d 168 73 [some (.ref 27), some (.ref 18), some (.ref 25), u3] [.ref 27, .ref 27] h = zex E (n + 5) d 168 76 [some (.ref 27), some (.ref 18), some (.ref 25), u3] [.int (h.2.1 27 2), .ref 27] h).trans (((yCi zgj168_76) : zex E (n + 5) d 168 76 [some (.ref 27), some (.ref 18), some (.ref 25), u3] [.int (h.2.1 27 2), .ref 27] h = zex E (n + 4) d 168 77 [some (.ref 27), some (.ref 18), some (.ref 25), u3] [.int 1, .int (h.2.1 27 2), .ref 27] h).trans (((ySub zgj168_77) : zex E (n + 4) d 168 77 [some (.ref 27), some (.ref 18), some (.ref 25), u3] [.int 1, .int (h.2.1 27 2), .ref 27] h = zex E (n + 3) d 168 78 [some (.ref 27), some (.ref 18), some (.ref 25), u3] [.int ((h.2.1 27 2) - 1), .ref 27] h).trans (((zpx zgj168_78 a27 rfl) : zex E (n + 3) d 168 78 [some (.ref 27), some (.ref 18), some (.ref 25), u3] [.int ((h.2.1 27 2) - 1), .ref 27] h = zex E (n + 2) d 168 81 [some (.ref 27), some (.ref 18), some (.ref 25), u3] [] (zsetI h 27 (upd (h.2.1 27) 2 ((h.2.1 27 2) - 1)))).trans (((yCi zgj168_81) : zex E (n + 2) d 168 81 [some (.ref 27), some (.ref 18), some (.ref 25), u3] [] (zsetI h 27 (upd (h.2.1 27) 2 ((h.2.1 27 2) - 1))) = zex E (n + 1) d 168 82 [some (.ref 27), some (.ref 18), some (.ref 25), u3] [.int 1] (zsetI h 27 (upd (h.2.1 27) 2 ((h.2.1 27 2) - 1)))).trans (((yRet2 zgj168_82 rfl (Or.inr rfl)) : zex E (n + 1) d 168 82 [some (.ref 27), some (.ref 18), some (.ref 25), u3] [.int 1] (zsetI h 27 (upd (h.2.1 27) 2 ((h.2.1 27 2) - 1))) = some (.inl (some (.int 1)), (zsetI h 27 (upd (h.2.1 27) 2 ((h.2.1 27 2) - 1))))))))))))
/-- all rows that the latest acts want are there -/
def paQ (h : zH) : Prop := ∃ r : Nat, h.1 = bsT r ∧ r ≤ 12 ∧ (r < 12 → (h.2.1 27 2).toInt ≤ (h.2.1 27 3).toInt)
def pQ (h0 : zH) (o : Option zR) : Prop := ∃ h1 : zH, o = some (.inl none, h1) ∧ (h1.2.1 27 2).toInt = (if (h0.2.1 27 2).toInt = 12 then 12 else (h0.2.1 27 2).toInt + 1) ∧ paQ h1
def rQ (h0 : zH) (o : Option zR) : Prop := if (h0.2.1 27 2).toInt = 0 then ∃ h1 : zH, o = some (.inl (some (.int 0)), h1) ∧ (h1.2.1 27 2).toInt = 0 ∧ paQ h1 else ∃ h1 : zH, o = some (.inl (some (.int 1)), h1) ∧ (h1.2.1 27 2).toInt = (h0.2.1 27 2).toInt - 1 ∧ paQ h1
def wP9 : Nat := 1122971408828356370965435143654255095790028353384858376519942397475046212241324461532101593784944705801927055658282665637162577011738051469836764981027605187657728
def wR9 : Nat := 42501297782876853501952
set_option maxRecDepth 100000 in
theorem wP9_z : Nat.testBit wP9 (bun 27 2) = false := by decide +kernel
set_option maxRecDepth 100000 in
theorem wR9_z : Nat.testBit wR9 (bun 27 2) = false := by decide +kernel
noncomputable def pa9 (pc r n : Nat) : Bool := bfo (.ofNat n) fun z => btz wP9 (0, []) (cst r) (fun _ _ => false) 3 167 1000000 0 [paN z] (paS z) pc paL
set_option maxRecDepth 100000 in
set_option maxRecDepth 100000 in
theorem pa9_all : ∀ r : Nat, r < 13 → ∀ n : Nat, n < r → pa9 0 r n = true := by decide +kernel
set_option maxRecDepth 100000 in
set_option maxRecDepth 100000 in
theorem pa9_56 : ∀ r : Nat, r < 12 → pa9 56 (r + 1) r = true := by decide +kernel
def reS9 (z : Int) : bS := (1, [(1, 12)], [], [(27, (3, []), (z, [])), (27, (2, []), (0, [(0, 1)]))], (0, []), (0, []))
noncomputable def re9 (r n z9 : Nat) : Bool := bfo (.ofNat n) fun z => bfo (.ofNat z9) fun y => btz wR9 (0, []) (cst r) (fun _ _ => false) 3 168 1000000 1 [reN y] (reS9 z) 0 (reL none)
set_option maxRecDepth 100000 in
set_option maxRecDepth 100000 in
theorem re9_all : ∀ r : Nat, r < 13 → ∀ n : Nat, n < 11 → n + 1 ≤ r → re9 r (n + 1) n = true := by decide +kernel
set_option maxRecDepth 100000 in
set_option maxRecDepth 100000 in
theorem re9_c : re9 12 0 11 = true := by decide +kernel
set_option maxRecDepth 100000 in
theorem bsTi {r q : Nat} (hr : r ≤ 12) (hq : q ≤ 12) (h : bsT r = bsT q) : r = q := by
  obtain ⟨g1, g2, g3⟩ := cst_28 r (by omega)
  have e := cst_B hr 28 _ (zse_s g1) (fun z => zse_n g2 (congrArg some z))
  rw [h] at e
  exact (g3 q (by omega) (zse_r e)).symm
section PE
variable {E : zE} {h : zH} {r n : Nat}
set_option maxRecDepth 100000 in
theorem pp_tail {h0 : zH} (hq : bRQ ctb wP9 h0 9 1200 h) (hr : r ≤ 12) (hn : n < r) (hs : h.1 = bsT r) (hx : (h.2.1 27 3).toInt = (n : Int)) (hz : r < 12 → (h.2.1 27 2).toInt ≤ (n : Int)) : ∀ d f, 60 ≤ f → pQ h0 (zex E f d 167 82 paLs [] h) := by
  intro d f hf
  have hP := pa27 hr hs
  have z1 : (1 : Int32).toInt = 1 := by decide
  have z12 : (12 : Int32).toInt = 12 := by decide
  have hx1 : (h.2.1 27 3 + 1).toInt = (n : Int) + 1 := by rw [Int32.toInt_add, hx, z1, bbm (by omega) (by omega)]
  have sz : h.2.1 27 2 = h0.2.1 27 2 := hq.2.2.2.1 27 2 wP9_z
  have b2 := hq.1.1 27 2
  rw [biv272] at b2
  have b21 : 0 ≤ (h.2.1 27 2).toInt := b2.1
  have b22 : (h.2.1 27 2).toInt ≤ 12 := b2.2
  have fin : ∀ (y : Int32) (m : Nat), 40 ≤ m → (r < 12 → y.toInt = (n : Int) + 1) → pQ h0 (zex E m d 167 107 paLs [] (zsetI h 27 (upd (h.2.1 27) 3 y))) := fun y m hm hy => by
    obtain ⟨m, hm'⟩ : ∃ m', m = m' + 9 := ⟨m - 9, by omega⟩
    subst hm'
    obtain ⟨g, hg⟩ : ∃ g, g = zsetI h 27 (upd (h.2.1 27) 3 y) := ⟨_, rfl⟩
    rw [← hg]
    have g1 : g.1 = bsT r := by rw [hg]; exact hs
    have e := pe_t (E := E) (n := m) (d := d) (h := g) (pa27 hr g1)
    have g2 : g.2.1 27 2 = h.2.1 27 2 := by rw [hg, zs_at, upd_n (by decide)]
    have g3 : g.2.1 27 3 = y := by rw [hg, zs_at, upd_e]
    have x1 : (g.2.1 27 2 + 1).toInt = (h.2.1 27 2).toInt + 1 := by rw [g2, i32_add (by rw [int1]; omega) (by rw [int1]; omega), int1]
    have sv : (if (12 : Int32) < g.2.1 27 2 + 1 then (12 : Int32) else g.2.1 27 2 + 1).toInt = if (h.2.1 27 2).toInt = 12 then 12 else (h.2.1 27 2).toInt + 1 := by
      by_cases c : (12 : Int32) < g.2.1 27 2 + 1
      · have c1 := Int32.lt_iff_toInt_lt.mp c
        rw [x1, z12] at c1
        rw [if_pos c, if_pos (by omega), z12]
      · have c1 : ¬ (12 : Int32).toInt < (g.2.1 27 2 + 1).toInt := fun z => c (Int32.lt_iff_toInt_lt.mpr z)
        rw [x1, z12] at c1
        rw [if_neg c, if_neg (by omega), x1]
    refine ⟨_, e, ?_, r, g1, hr, fun h12 => ?_⟩
    · rw [zs_at, upd_e, sv, sz]
    · rw [zs_at, upd_e, sv, zs_at, upd_n (by decide), g3, hy h12]
      have := hz h12
      split <;> omega
  by_cases h11 : 11 ≤ n
  · obtain ⟨m, hm⟩ : ∃ m, f = m + 9 := ⟨f - 9, by omega⟩
    have hc : (12 : Int32) ≤ h.2.1 27 3 + 1 := by rw [Int32.le_iff_toInt_le, hx1, z12]; omega
    have e : zex E (m + 9) d 167 82 paLs [] h = zex E m d 167 107 paLs [] (zsetI h 27 (upd (h.2.1 27) 3 0)) := (zk167_82 (m + 8)).trans ((zk167_83 (m + 7)).trans ((zk167_84 hP (m + 6)).trans ((zk167_87 (m + 5)).trans ((zk167_88 (m + 4)).trans ((zk167_89 (m + 3)).trans ((zk167_91a hc (m + 2)).trans ((zk167_103 (m + 1)).trans (zk167_104 hP m))))))))
    rw [hm, e]
    exact fin 0 m (by omega) (fun h12 => absurd h12 (by omega))
  · obtain ⟨m, hm⟩ : ∃ m, f = m + 13 := ⟨f - 13, by omega⟩
    have hc : ¬ (12 : Int32) ≤ h.2.1 27 3 + 1 := by rw [Int32.le_iff_toInt_le, hx1, z12]; omega
    have e : zex E (m + 13) d 167 82 paLs [] h = zex E m d 167 107 paLs [] (zsetI h 27 (upd (h.2.1 27) 3 (h.2.1 27 3 + 1))) := (zk167_82 (m + 12)).trans ((zk167_83 (m + 11)).trans ((zk167_84 hP (m + 10)).trans ((zk167_87 (m + 9)).trans ((zk167_88 (m + 8)).trans ((zk167_89 (m + 7)).trans ((zk167_91b hc (m + 6)).trans ((zk167_94 (m + 5)).trans ((zk167_95 hP (m + 4)).trans ((zk167_98 (m + 3)).trans ((zk167_99 (m + 2)).trans ((zk167_100 (m + 1)).trans (zk167_104 hP m))))))))))))
    rw [hm, e]
    exact fin _ m (by omega) (fun _ => hx1)
set_option maxRecDepth 100000 in
theorem pp_run (hE : E.1 < 2147483648) {pc : Nat} (e : pa9 pc r n = true) (hI : bHI h) (hP : bPS h) (hr : r ≤ 12) (hn : n < r) (hs : h.1 = bsT r) (hx : (h.2.1 27 3).toInt = (n : Int)) (hz : r < 12 → (h.2.1 27 2).toInt ≤ (n : Int)) : ∀ d f, 3 ≤ d → 2000013 ≤ f → pQ h (zex E f d 167 pc paLs [] h) := by
  intro d f hd hf
  have hq : bRQ ctb wP9 h 9 1200 h := ⟨hI, hP, by rw [hs]; exact ctb_B hr, fun _ _ _ => rfl, Nat.le_add_right _ _, Nat.le_add_right _ _⟩
  unfold pa9 at e
  rw [bfo_eq] at e
  refine btz_s (V := []) (V0 := []) (B := 0) (B' := 1000013) (sm := (0, [])) (fin := fun _ _ => false) (D := 3) (MI := 167) (F := 1000000) (tb := cst r) (h0 := h) (Q := pQ h) hE bSO_0 (fun V S v w h _ _ _ z => nomatch (show false = true from z)) (bxt_refl []) rfl (bSS_ofQ (bRQ_tb hq (by rw [hs]; exact cst_B hr)) benv_n rfl (fun C hC => absurd hC List.not_mem_nil) (ov273 hx)) (paLR []) e (Nat.zero_le _) ?_ d f hd (by omega)
  intro N hN V' ls' h' hR d f hd hf
  cases hN with
  | tail _ hN => exact absurd hN List.not_mem_nil
  | head =>
    obtain ⟨-, k1, k2, k3⟩ := hR
    have q1 := bRQ_of (a := 9) (b := 1200) k2
    have s1 := cst_inj hr q1.2.2.1 q1.2.1
    have x1 := k3 _ (List.Mem.head _)
    have x1 : bvl E h' 27 3 = (n : Int) := brel_k x1
    rw [bvl_n (show Nat.blt 27 900 = true from rfl)] at x1
    rw [paLR_s k1]
    have sz : h'.2.1 27 2 = h.2.1 27 2 := q1.2.2.2.1 27 2 wP9_z
    exact pp_tail (bRQ_tb q1 (by rw [s1]; exact ctb_B hr)) hr hn s1 x1 (fun h12 => by rw [sz]; exact hz h12) d f (by omega)
set_option maxRecDepth 100000 in
theorem rememC (hE : E.1 < 2147483648) (hI : bHI h) (hP : bPS h) (hA : paQ h) : ∀ d f, 3 ≤ d → 3000000 ≤ f → pQ h (zex E f d 167 0 paLs [] h) := by
  intro d f hd hf
  obtain ⟨r, r2, r1, rz⟩ := hA
  have r3 : (h.2.1 27 3).toInt ≤ (r : Int) := by
    obtain ⟨r', a1, a2, a3⟩ := hP
    have : r = r' := bsTi r1 a1 (r2.symm.trans a2)
    rw [this]; exact a3
  have hb := hI.1 27 3
  rw [biv273] at hb
  have hb1 : 0 ≤ (h.2.1 27 3).toInt := hb.1
  have hb2 : (h.2.1 27 3).toInt ≤ 11 := hb.2
  obtain ⟨n, hn⟩ : ∃ n : Nat, (h.2.1 27 3).toInt = (n : Int) := ⟨_, (Int.toNat_of_nonneg hb1).symm⟩
  rw [hn] at rz
  by_cases hnr : n < r
  · exact pp_run hE (pa9_all r (by omega) n hnr) hI hP r1 hnr r2 hn rz d f hd (by omega)
  · have hrn : r = n := by omega
    subst hrn
    obtain ⟨d', hd'⟩ : ∃ d', d = d' + 1 := ⟨d - 1, by omega⟩
    obtain ⟨m, hm⟩ : ∃ m, f = m + 62 := ⟨f - 62, by omega⟩
    obtain ⟨h4, g1, g2, g3, g4, g5, g6, g7⟩ := pmake (E := E) (d := d') (r := r) (by omega) r2 hn
    subst hd'
    rw [hm, g7]
    have hI4 := pmake_I hI (r := r) (by omega) g2 g3 g4
    have hx4 : (h4.2.1 27 3).toInt = (r : Int) := by rw [g2 27 (by omega)]; exact hn
    have sz : h4.2.1 27 2 = h.2.1 27 2 := by rw [g2 27 (by omega)]
    have := pp_run (E := E) hE (pa9_56 r (by omega)) hI4 ⟨r + 1, by omega, g1, by omega⟩ (by omega) (Nat.lt_succ_self r) g1 hx4 (fun h12 => by rw [sz]; exact rz (by omega)) (d' + 1) (m + 34) hd (by omega)
    unfold pQ at this ⊢
    rw [sz] at this
    exact this
set_option maxRecDepth 100000 in
theorem rr_tail {h0 : zH} {z9 : Nat} (hq : bRQ ctb wR9 h0 0 0 h) (hr : r ≤ 12) (hz : z9 < r) (hs : h.1 = bsT r) {x : Int32} (hx : x.toInt = (z9 : Int)) (h1 : 1 ≤ (h.2.1 27 2).toInt) (hz9 : r < 12 → (h.2.1 27 2).toInt ≤ (z9 : Int) + 1) : ∀ d f, 60 ≤ f → ∃ h1 : zH, zex E f d 168 66 (reLs (some (.int x))) [] h = some (.inl (some (.int 1)), h1) ∧ (h1.2.1 27 2).toInt = (h0.2.1 27 2).toInt - 1 ∧ paQ h1 := by
  intro d f hf
  obtain ⟨m, hm⟩ : ∃ m, f = m + 8 + 3 := ⟨f - 8 - 3, by omega⟩
  subst hm
  have sz : h.2.1 27 2 = h0.2.1 27 2 := hq.2.2.2.1 27 2 wR9_z
  have b2 := hq.1.1 27 2
  rw [biv272] at b2
  have b22 : (h.2.1 27 2).toInt ≤ 12 := b2.2
  obtain ⟨g, hg⟩ : ∃ g, g = zsetI h 27 (upd (h.2.1 27) 3 x) := ⟨_, rfl⟩
  have g1 : g.1 = bsT r := by rw [hg]; exact hs
  have e2 : zex E (m + 8 + 3) d 168 66 (reLs (some (.int x))) [] h = zex E (m + 8) d 168 71 (reLs (some (.int x))) [] (zsetI h 27 (upd (h.2.1 27) 3 x)) := (zk168_66 (m + 8 + 2)).trans ((zk168_67 (m + 8 + 1)).trans (zk168_68 (pa27 hr hs) (m + 8)))
  have e := pe_2 (E := E) (n := m) (d := d) (h := g) (u3 := some (.int x)) (pa27 hr g1)
  have g2 : g.2.1 27 2 = h.2.1 27 2 := by rw [hg, zs_at, upd_n (by decide)]
  have g3 : g.2.1 27 3 = x := by rw [hg, zs_at, upd_e]
  have x1 : (g.2.1 27 2 - 1).toInt = (h.2.1 27 2).toInt - 1 := by rw [g2, i32_sub (by rw [int1]; omega) (by rw [int1]; omega), int1]
  rw [← hg] at e2
  refine ⟨_, e2.trans e, ?_, r, g1, hr, fun h12 => ?_⟩
  · rw [zs_at, upd_e, x1, sz]
  · rw [zs_at, upd_e, x1, zs_at, upd_n (by decide), g3, hx]
    have := hz9 h12
    omega
set_option maxRecDepth 100000 in
theorem rr_run (hE : E.1 < 2147483648) {z9 : Nat} (e : re9 r n z9 = true) (hI : bHI h) (hP : bPS h) (hr : r ≤ 12) (hz : z9 < r) (hs : h.1 = bsT r) (hx : (h.2.1 27 3).toInt = (n : Int)) (h1 : 1 ≤ (h.2.1 27 2).toInt) (hz9 : r < 12 → (h.2.1 27 2).toInt ≤ (z9 : Int) + 1) : ∀ d f, 3 ≤ d → 2000013 ≤ f → ∃ h1 : zH, zex E f d 168 0 (reLs none) [] h = some (.inl (some (.int 1)), h1) ∧ (h1.2.1 27 2).toInt = (h.2.1 27 2).toInt - 1 ∧ paQ h1 := by
  intro d f hd hf
  have hq : bRQ ctb wR9 h 0 0 h := ⟨hI, hP, by rw [hs]; exact ctb_B hr, fun _ _ _ => rfl, Nat.le_refl _, Nat.le_refl _⟩
  have b2 := hI.1 27 2
  rw [biv272] at b2
  have b22 : (h.2.1 27 2).toInt ≤ 12 := b2.2
  unfold re9 at e
  rw [bfo_eq, bfo_eq] at e
  refine btz_s (V := [(h.2.1 27 2).toInt]) (V0 := []) (B := 0) (B' := 1000013) (sm := (0, [])) (fin := fun _ _ => false) (D := 3) (MI := 168) (F := 1000000) (tb := cst r) (h0 := h) (Q := fun o => ∃ h1 : zH, o = some (.inl (some (.int 1)), h1) ∧ (h1.2.1 27 2).toInt = (h.2.1 27 2).toInt - 1 ∧ paQ h1) hE bSO_0 (fun V S v w h _ _ _ z => nomatch (show false = true from z)) ⟨[(h.2.1 27 2).toInt], rfl⟩ rfl (bSS_ofQ (bRQ_tb hq (by rw [hs]; exact cst_B hr)) (benv_c h1 b22 benv_n) rfl (fun C hC => absurd hC List.not_mem_nil) ?_) (reLR (v := none) trivial) e (Nat.zero_le _) ?_ d f hd (by omega)
  · intro q hq
    cases hq with
    | head => exact ov273 (V := [(h.2.1 27 2).toInt]) hx _ (List.Mem.head _)
    | tail _ hq =>
      cases hq with
      | tail _ hq => exact absurd hq List.not_mem_nil
      | head =>
        refine ⟨2, brel_c _ 2, ?_⟩
        show brel _ (0, [(0, 1)]) (bvl E h 27 2)
        rw [bvl_n (show Nat.blt 27 900 = true from rfl)]
        exact brel_v rfl
  intro N hN V' ls' h' hR d f hd hf
  cases hN with
  | tail _ hN => exact absurd hN List.not_mem_nil
  | head =>
    obtain ⟨-, k1, k2, k3⟩ := hR
    have q1 := bRQ_of (a := 0) (b := 0) k2
    have s1 := cst_inj hr q1.2.2.1 q1.2.1
    obtain ⟨y, y1, y2⟩ := reLR_s k1
    obtain ⟨w, w1, x, w2, w3⟩ := y2
    subst y1
    subst w1
    subst w2
    have w3 : x.toInt = (z9 : Int) := brel_k w3
    have sz : h'.2.1 27 2 = h.2.1 27 2 := q1.2.2.2.1 27 2 wR9_z
    exact rr_tail (E := E) (bRQ_tb q1 (by rw [s1]; exact ctb_B hr)) hr hz s1 w3 (by rw [sz]; exact h1) (fun h12 => by rw [sz]; exact hz9 h12) d f (by omega)
set_option maxRecDepth 100000 in
theorem recalC (hE : E.1 < 2147483648) (hI : bHI h) (hP : bPS h) (hA : paQ h) : ∀ d f, 3 ≤ d → 3000000 ≤ f → rQ h (zex E f d 168 0 (reLs none) [] h) := by
  intro d f hd hf
  obtain ⟨r, r2, r1, rz⟩ := id hA
  have hT := pa27 r1 r2
  have r3 : (h.2.1 27 3).toInt ≤ (r : Int) := by
    obtain ⟨r', a1, a2, a3⟩ := hP
    have : r = r' := bsTi r1 a1 (r2.symm.trans a2)
    rw [this]; exact a3
  have hb := hI.1 27 3
  rw [biv273] at hb
  have hb1 : 0 ≤ (h.2.1 27 3).toInt := hb.1
  have hb2 : (h.2.1 27 3).toInt ≤ 11 := hb.2
  have b2 := hI.1 27 2
  rw [biv272] at b2
  have b21 : 0 ≤ (h.2.1 27 2).toInt := b2.1
  obtain ⟨n, hn⟩ : ∃ n : Nat, (h.2.1 27 3).toInt = (n : Int) := ⟨_, (Int.toNat_of_nonneg hb1).symm⟩
  unfold rQ
  by_cases h0 : (h.2.1 27 2).toInt = 0
  · rw [if_pos h0]
    by_cases n0 : (h.2.1 27 3).toInt ≤ 0
    · obtain ⟨m, hm⟩ : ∃ m, f = m + 10 := ⟨f - 10, by omega⟩
      subst hm
      exact ⟨h, pe_0 (E := E) (n := m) (d := d) n0 h0 hT, h0, hA⟩
    · obtain ⟨m, hm⟩ : ∃ m, f = m + 14 := ⟨f - 14, by omega⟩
      subst hm
      exact ⟨h, pe_1 (E := E) (n := m) (d := d) (by omega) h0 hT, h0, hA⟩
  · rw [if_neg h0]
    rw [hn] at rz
    cases n with
    | zero =>
      have h12 : r = 12 := by
        rcases Nat.lt_or_ge r 12 with z | z
        · have := rz z
          omega
        · omega
      subst h12
      exact rr_run hE (z9 := 11) re9_c hI hP r1 (by omega) r2 hn (by omega) (fun z => absurd z (by omega)) d f hd (by omega)
    | succ n => exact rr_run hE (z9 := n) (re9_all r (by omega) n (by omega) (by omega)) hI hP r1 (by omega) r2 hn (by omega) (fun z => by have := rz z; omega) d f hd (by omega)
end PE
