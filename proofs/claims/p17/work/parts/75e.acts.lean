/-! the plan stays: acts, undo, image, back of the model (wip/zab2/c/geng26.py) -/
set_option maxRecDepth 100000 in
theorem zpb {E : zE} {n d mi pc ln w9 a3 : Nat} {ls : zLs} {r : List Value} {h : zH} {ci fk i9 a : Nat} {sl : List (Option (Option Nat))} {y : Int32} (hf : zfetch mi pc = some (.putfield i9, ln, (ci, fk, a3), 1, w9)) (ha : zat h.1 a = some (.inr (.inl (ci, sl)))) (hs : zat sl fk = some none) (hy : y = 0 ∨ y = 1) : zex E (n + 1) d mi pc ls (.int y :: .ref a :: r) h = zex E n d mi (pc + ln) ls r (zsetI h a (upd (h.2.1 a) fk y)) := by
  refine (zx1 hf).trans ?_
  show zput (fun s h' => zex E n d mi (pc + ln) ls s h') h ci fk 1 (.int y :: .ref a :: r) = _
  unfold zput
  simp only
  rw [ha]
  simp only
  rw [Nat.beq_refl, cond_true, hs]
  rcases hy with rfl | rfl <;> rfl
set_option maxRecDepth 100000 in
theorem zfz214_0 : zfetch 214 0 = some (.aload_n 0, 1, (0, 0, 0), 0, 0) := by decide +kernel
set_option maxRecDepth 100000 in
theorem zfz214_1 : zfetch 214 1 = some (.getfield 49, 3, (12, 7, 0), 0, 1624) := by decide +kernel
set_option maxRecDepth 100000 in
theorem zfz214_4 : zfetch 214 4 = some (.bipush 12, 2, (0, 0, 0), 12, 0) := by decide +kernel
set_option maxRecDepth 100000 in
theorem zfz214_6 : zfetch 214 6 = some (.if_icmp .ne 37, 3, (43, 0, 0), 0, 0) := by decide +kernel
set_option maxRecDepth 100000 in
theorem zfz214_9 : zfetch 214 9 = some (.iconst 0, 1, (0, 0, 0), 0, 0) := by decide +kernel
set_option maxRecDepth 100000 in
theorem zfz214_10 : zfetch 214 10 = some (.istore_n 1, 1, (0, 0, 0), 0, 0) := by decide +kernel
set_option maxRecDepth 100000 in
theorem zfz214_40 : zfetch 214 40 = some (.goto 13, 3, (53, 0, 0), 0, 0) := by decide +kernel
set_option maxRecDepth 100000 in
theorem zfz214_53 : zfetch 214 53 = some (.iconst 0, 1, (0, 0, 0), 0, 0) := by decide +kernel
set_option maxRecDepth 100000 in
theorem zfz214_54 : zfetch 214 54 = some (.istore_n 1, 1, (0, 0, 0), 0, 0) := by decide +kernel
set_option maxRecDepth 100000 in
theorem zfz214_43 : zfetch 214 43 = some (.aload_n 0, 1, (0, 0, 0), 0, 0) := by decide +kernel
set_option maxRecDepth 100000 in
theorem zfz214_44 : zfetch 214 44 = some (.dup, 1, (0, 0, 0), 0, 0) := by decide +kernel
set_option maxRecDepth 100000 in
theorem zfz214_45 : zfetch 214 45 = some (.getfield 49, 3, (12, 7, 0), 0, 1624) := by decide +kernel
set_option maxRecDepth 100000 in
theorem zfz214_48 : zfetch 214 48 = some (.iconst 1, 1, (0, 0, 0), 1, 0) := by decide +kernel
set_option maxRecDepth 100000 in
theorem zfz214_49 : zfetch 214 49 = some (.iadd, 1, (0, 0, 0), 0, 0) := by decide +kernel
set_option maxRecDepth 100000 in
theorem zfz214_50 : zfetch 214 50 = some (.putfield 49, 3, (12, 7, 0), 0, 1624) := by decide +kernel
set_option maxRecDepth 100000 in
theorem zfz214_91 : zfetch 214 91 = some (.return_, 1, (0, 0, 0), 0, 0) := by decide +kernel
set_option maxRecDepth 100000 in
theorem zfz215_0 : zfetch 215 0 = some (.aload_n 0, 1, (0, 0, 0), 0, 0) := by decide +kernel
set_option maxRecDepth 100000 in
theorem zfz215_1 : zfetch 215 1 = some (.iconst 0, 1, (0, 0, 0), 0, 0) := by decide +kernel
set_option maxRecDepth 100000 in
theorem zfz215_2 : zfetch 215 2 = some (.putfield 3, 3, (12, 0, 0), 0, 1617) := by decide +kernel
set_option maxRecDepth 100000 in
theorem zfz215_5 : zfetch 215 5 = some (.aload_n 0, 1, (0, 0, 0), 0, 0) := by decide +kernel
set_option maxRecDepth 100000 in
theorem zfz215_6 : zfetch 215 6 = some (.getfield 49, 3, (12, 7, 0), 0, 1624) := by decide +kernel
set_option maxRecDepth 100000 in
theorem zfz215_9 : zfetch 215 9 = some (.ifCond .ne 5, 3, (14, 0, 0), 0, 0) := by decide +kernel
set_option maxRecDepth 100000 in
theorem zfz215_12 : zfetch 215 12 = some (.iconst 0, 1, (0, 0, 0), 0, 0) := by decide +kernel
set_option maxRecDepth 100000 in
theorem zfz215_13 : zfetch 215 13 = some (.ireturn, 1, (0, 0, 0), 0, 0) := by decide +kernel
set_option maxRecDepth 100000 in
theorem zfz215_14 : zfetch 215 14 = some (.aload_n 0, 1, (0, 0, 0), 0, 0) := by decide +kernel
set_option maxRecDepth 100000 in
theorem zfz215_15 : zfetch 215 15 = some (.dup, 1, (0, 0, 0), 0, 0) := by decide +kernel
set_option maxRecDepth 100000 in
theorem zfz215_16 : zfetch 215 16 = some (.getfield 49, 3, (12, 7, 0), 0, 1624) := by decide +kernel
set_option maxRecDepth 100000 in
theorem zfz215_19 : zfetch 215 19 = some (.iconst 1, 1, (0, 0, 0), 1, 0) := by decide +kernel
set_option maxRecDepth 100000 in
theorem zfz215_20 : zfetch 215 20 = some (.isub, 1, (0, 0, 0), 0, 0) := by decide +kernel
set_option maxRecDepth 100000 in
theorem zfz215_21 : zfetch 215 21 = some (.putfield 49, 3, (12, 7, 0), 0, 1624) := by decide +kernel
set_option maxRecDepth 100000 in
theorem zfz215_24 : zfetch 215 24 = some (.iconst 0, 1, (0, 0, 0), 0, 0) := by decide +kernel
set_option maxRecDepth 100000 in
theorem zfz215_25 : zfetch 215 25 = some (.istore_n 1, 1, (0, 0, 0), 0, 0) := by decide +kernel
set_option maxRecDepth 100000 in
theorem zfz215_60 : zfetch 215 60 = some (.iconst 1, 1, (0, 0, 0), 1, 0) := by decide +kernel
set_option maxRecDepth 100000 in
theorem zfz215_61 : zfetch 215 61 = some (.ireturn, 1, (0, 0, 0), 0, 0) := by decide +kernel
set_option maxRecDepth 100000 in
theorem zfz212_0 : zfetch 212 0 = some (.aload_n 0, 1, (0, 0, 0), 0, 0) := by decide +kernel
set_option maxRecDepth 100000 in
theorem zfz212_1 : zfetch 212 1 = some (.iconst 0, 1, (0, 0, 0), 0, 0) := by decide +kernel
set_option maxRecDepth 100000 in
theorem zfz212_2 : zfetch 212 2 = some (.putfield 3, 3, (12, 0, 0), 0, 1617) := by decide +kernel
set_option maxRecDepth 100000 in
theorem zfz212_5 : zfetch 212 5 = some (.iconst 0, 1, (0, 0, 0), 0, 0) := by decide +kernel
set_option maxRecDepth 100000 in
theorem zfz212_6 : zfetch 212 6 = some (.istore_n 1, 1, (0, 0, 0), 0, 0) := by decide +kernel
set_option maxRecDepth 100000 in
theorem zfz212_32 : zfetch 212 32 = some (.aload_n 0, 1, (0, 0, 0), 0, 0) := by decide +kernel
set_option maxRecDepth 100000 in
theorem zfz212_33 : zfetch 212 33 = some (.iconst 1, 1, (0, 0, 0), 1, 0) := by decide +kernel
set_option maxRecDepth 100000 in
theorem zfz212_34 : zfetch 212 34 = some (.putfield 45, 3, (12, 6, 0), 1, 1623) := by decide +kernel
set_option maxRecDepth 100000 in
theorem zfz212_37 : zfetch 212 37 = some (.return_, 1, (0, 0, 0), 0, 0) := by decide +kernel
set_option maxRecDepth 100000 in
theorem zfz213_0 : zfetch 213 0 = some (.aload_n 0, 1, (0, 0, 0), 0, 0) := by decide +kernel
set_option maxRecDepth 100000 in
theorem zfz213_1 : zfetch 213 1 = some (.iconst 0, 1, (0, 0, 0), 0, 0) := by decide +kernel
set_option maxRecDepth 100000 in
theorem zfz213_2 : zfetch 213 2 = some (.putfield 3, 3, (12, 0, 0), 0, 1617) := by decide +kernel
set_option maxRecDepth 100000 in
theorem zfz213_5 : zfetch 213 5 = some (.aload_n 0, 1, (0, 0, 0), 0, 0) := by decide +kernel
set_option maxRecDepth 100000 in
theorem zfz213_6 : zfetch 213 6 = some (.getfield 45, 3, (12, 6, 0), 1, 1623) := by decide +kernel
set_option maxRecDepth 100000 in
theorem zfz213_9 : zfetch 213 9 = some (.ifCond .ne 5, 3, (14, 0, 0), 0, 0) := by decide +kernel
set_option maxRecDepth 100000 in
theorem zfz213_12 : zfetch 213 12 = some (.iconst 0, 1, (0, 0, 0), 0, 0) := by decide +kernel
set_option maxRecDepth 100000 in
theorem zfz213_13 : zfetch 213 13 = some (.ireturn, 1, (0, 0, 0), 0, 0) := by decide +kernel
set_option maxRecDepth 100000 in
theorem zfz213_14 : zfetch 213 14 = some (.iconst 0, 1, (0, 0, 0), 0, 0) := by decide +kernel
set_option maxRecDepth 100000 in
theorem zfz213_15 : zfetch 213 15 = some (.istore_n 1, 1, (0, 0, 0), 0, 0) := by decide +kernel
set_option maxRecDepth 100000 in
theorem zfz213_41 : zfetch 213 41 = some (.aload_n 0, 1, (0, 0, 0), 0, 0) := by decide +kernel
set_option maxRecDepth 100000 in
theorem zfz213_42 : zfetch 213 42 = some (.iconst 0, 1, (0, 0, 0), 0, 0) := by decide +kernel
set_option maxRecDepth 100000 in
theorem zfz213_43 : zfetch 213 43 = some (.putfield 49, 3, (12, 7, 0), 0, 1624) := by decide +kernel
set_option maxRecDepth 100000 in
theorem zfz213_46 : zfetch 213 46 = some (.iconst 1, 1, (0, 0, 0), 1, 0) := by decide +kernel
set_option maxRecDepth 100000 in
theorem zfz213_47 : zfetch 213 47 = some (.ireturn, 1, (0, 0, 0), 0, 0) := by decide +kernel
set_option maxRecDepth 100000 in
theorem rm_f {E : zE} {n d : Nat} {h : zH} {u1 : Option Value} (hq : (h.2.1 84 7).toInt = (12 : Int32).toInt) (a84 : zat h.1 84 = some (.inr (.inl (12, [none, some (some 85), some (some 86), some (some 87), some (some 88), some (some 89), none, none, some (some 90), none, none, none, none, none, none, some (some 91), none, some (some 92), some (some 93)]))))  : zex E (n + 6) d 214 0 [some (.ref 84), u1] [] h = zex E n d 214 11 [some (.ref 84), some (.int 0)] [] h :=
  ((yAn zfz214_0 rfl rfl) : zex E (n + 6) d 214 0 [some (.ref 84), u1] [] h = zex E (n + 5) d 214 1 [some (.ref 84), u1] [.ref 84] h).trans (((zgi zfz214_1 a84 rfl) : zex E (n + 5) d 214 1 [some (.ref 84), u1] [.ref 84] h = zex E (n + 4) d 214 4 [some (.ref 84), u1] [.int (h.2.1 84 7)] h).trans (((yCb zfz214_4) : zex E (n + 4) d 214 4 [some (.ref 84), u1] [.int (h.2.1 84 7)] h = zex E (n + 3) d 214 6 [some (.ref 84), u1] [.int 12, .int (h.2.1 84 7)] h).trans (((zknF zfz214_6 hq) : zex E (n + 3) d 214 6 [some (.ref 84), u1] [.int 12, .int (h.2.1 84 7)] h = zex E (n + 2) d 214 9 [some (.ref 84), u1] [] h).trans (((yCi zfz214_9) : zex E (n + 2) d 214 9 [some (.ref 84), u1] [] h = zex E (n + 1) d 214 10 [some (.ref 84), u1] [.int 0] h).trans (((ySn zfz214_10) : zex E (n + 1) d 214 10 [some (.ref 84), u1] [.int 0] h = zex E n d 214 11 [some (.ref 84), some (.int 0)] [] h))))))
set_option maxRecDepth 100000 in
theorem rm_g {E : zE} {n d : Nat} {h : zH} {u1 : Option Value}    : zex E (n + 3) d 214 40 [some (.ref 84), u1] [] h = zex E n d 214 55 [some (.ref 84), some (.int 0)] [] h :=
  ((yGo zfz214_40) : zex E (n + 3) d 214 40 [some (.ref 84), u1] [] h = zex E (n + 2) d 214 53 [some (.ref 84), u1] [] h).trans (((yCi zfz214_53) : zex E (n + 2) d 214 53 [some (.ref 84), u1] [] h = zex E (n + 1) d 214 54 [some (.ref 84), u1] [.int 0] h).trans (((ySn zfz214_54) : zex E (n + 1) d 214 54 [some (.ref 84), u1] [.int 0] h = zex E n d 214 55 [some (.ref 84), some (.int 0)] [] h)))
set_option maxRecDepth 100000 in
theorem rm_n {E : zE} {n d : Nat} {h : zH} {u1 : Option Value} (hq : (h.2.1 84 7).toInt ≠ (12 : Int32).toInt) (a84 : zat h.1 84 = some (.inr (.inl (12, [none, some (some 85), some (some 86), some (some 87), some (some 88), some (some 89), none, none, some (some 90), none, none, none, none, none, none, some (some 91), none, some (some 92), some (some 93)]))))  : zex E (n + 12) d 214 0 [some (.ref 84), u1] [] h = zex E n d 214 55 [some (.ref 84), some (.int 0)] [] (zsetI h 84 (upd (h.2.1 84) 7 ((h.2.1 84 7) + 1))) :=
  ((yAn zfz214_0 rfl rfl) : zex E (n + 12) d 214 0 [some (.ref 84), u1] [] h = zex E (n + 11) d 214 1 [some (.ref 84), u1] [.ref 84] h).trans (((zgi zfz214_1 a84 rfl) : zex E (n + 11) d 214 1 [some (.ref 84), u1] [.ref 84] h = zex E (n + 10) d 214 4 [some (.ref 84), u1] [.int (h.2.1 84 7)] h).trans (((yCb zfz214_4) : zex E (n + 10) d 214 4 [some (.ref 84), u1] [.int (h.2.1 84 7)] h = zex E (n + 9) d 214 6 [some (.ref 84), u1] [.int 12, .int (h.2.1 84 7)] h).trans (((zknT zfz214_6 hq) : zex E (n + 9) d 214 6 [some (.ref 84), u1] [.int 12, .int (h.2.1 84 7)] h = zex E (n + 8) d 214 43 [some (.ref 84), u1] [] h).trans (((yAn zfz214_43 rfl rfl) : zex E (n + 8) d 214 43 [some (.ref 84), u1] [] h = zex E (n + 7) d 214 44 [some (.ref 84), u1] [.ref 84] h).trans (((yDup zfz214_44 rfl) : zex E (n + 7) d 214 44 [some (.ref 84), u1] [.ref 84] h = zex E (n + 6) d 214 45 [some (.ref 84), u1] [.ref 84, .ref 84] h).trans (((zgi zfz214_45 a84 rfl) : zex E (n + 6) d 214 45 [some (.ref 84), u1] [.ref 84, .ref 84] h = zex E (n + 5) d 214 48 [some (.ref 84), u1] [.int (h.2.1 84 7), .ref 84] h).trans (((yCi zfz214_48) : zex E (n + 5) d 214 48 [some (.ref 84), u1] [.int (h.2.1 84 7), .ref 84] h = zex E (n + 4) d 214 49 [some (.ref 84), u1] [.int 1, .int (h.2.1 84 7), .ref 84] h).trans (((yAdd zfz214_49) : zex E (n + 4) d 214 49 [some (.ref 84), u1] [.int 1, .int (h.2.1 84 7), .ref 84] h = zex E (n + 3) d 214 50 [some (.ref 84), u1] [.int ((h.2.1 84 7) + 1), .ref 84] h).trans (((zpx zfz214_50 a84 rfl) : zex E (n + 3) d 214 50 [some (.ref 84), u1] [.int ((h.2.1 84 7) + 1), .ref 84] h = zex E (n + 2) d 214 53 [some (.ref 84), u1] [] (zsetI h 84 (upd (h.2.1 84) 7 ((h.2.1 84 7) + 1)))).trans (((yCi zfz214_53) : zex E (n + 2) d 214 53 [some (.ref 84), u1] [] (zsetI h 84 (upd (h.2.1 84) 7 ((h.2.1 84 7) + 1))) = zex E (n + 1) d 214 54 [some (.ref 84), u1] [.int 0] (zsetI h 84 (upd (h.2.1 84) 7 ((h.2.1 84 7) + 1)))).trans (((ySn zfz214_54) : zex E (n + 1) d 214 54 [some (.ref 84), u1] [.int 0] (zsetI h 84 (upd (h.2.1 84) 7 ((h.2.1 84 7) + 1))) = zex E n d 214 55 [some (.ref 84), some (.int 0)] [] (zsetI h 84 (upd (h.2.1 84) 7 ((h.2.1 84 7) + 1)))))))))))))))
set_option maxRecDepth 100000 in
theorem rm_e {E : zE} {n d : Nat} {h : zH} {u1 : Option Value}    : zex E (n + 1) d 214 91 [some (.ref 84), u1] [] h = some (.inl none, h) :=
  ((yRet0 zfz214_91 rfl) : zex E (n + 1) d 214 91 [some (.ref 84), u1] [] h = some (.inl none, h))
set_option maxRecDepth 100000 in
theorem un_0 {E : zE} {n d : Nat} {h : zH} {u1 : Option Value} (hq : ((zsetI h 84 (upd (h.2.1 84) 0 0)).2.1 84 7).toInt = 0) (a84 : zat h.1 84 = some (.inr (.inl (12, [none, some (some 85), some (some 86), some (some 87), some (some 88), some (some 89), none, none, some (some 90), none, none, none, none, none, none, some (some 91), none, some (some 92), some (some 93)]))))  : zex E (n + 8) d 215 0 [some (.ref 84), u1] [] h = some (.inl (some (.int 0)), (zsetI h 84 (upd (h.2.1 84) 0 0))) :=
  ((yAn zfz215_0 rfl rfl) : zex E (n + 8) d 215 0 [some (.ref 84), u1] [] h = zex E (n + 7) d 215 1 [some (.ref 84), u1] [.ref 84] h).trans (((yCi zfz215_1) : zex E (n + 7) d 215 1 [some (.ref 84), u1] [.ref 84] h = zex E (n + 6) d 215 2 [some (.ref 84), u1] [.int 0, .ref 84] h).trans (((zpx zfz215_2 a84 rfl) : zex E (n + 6) d 215 2 [some (.ref 84), u1] [.int 0, .ref 84] h = zex E (n + 5) d 215 5 [some (.ref 84), u1] [] (zsetI h 84 (upd (h.2.1 84) 0 0))).trans (((yAn zfz215_5 rfl rfl) : zex E (n + 5) d 215 5 [some (.ref 84), u1] [] (zsetI h 84 (upd (h.2.1 84) 0 0)) = zex E (n + 4) d 215 6 [some (.ref 84), u1] [.ref 84] (zsetI h 84 (upd (h.2.1 84) 0 0))).trans (((zgi zfz215_6 a84 rfl) : zex E (n + 4) d 215 6 [some (.ref 84), u1] [.ref 84] (zsetI h 84 (upd (h.2.1 84) 0 0)) = zex E (n + 3) d 215 9 [some (.ref 84), u1] [.int ((zsetI h 84 (upd (h.2.1 84) 0 0)).2.1 84 7)] (zsetI h 84 (upd (h.2.1 84) 0 0))).trans (((zjnF zfz215_9 hq) : zex E (n + 3) d 215 9 [some (.ref 84), u1] [.int ((zsetI h 84 (upd (h.2.1 84) 0 0)).2.1 84 7)] (zsetI h 84 (upd (h.2.1 84) 0 0)) = zex E (n + 2) d 215 12 [some (.ref 84), u1] [] (zsetI h 84 (upd (h.2.1 84) 0 0))).trans (((yCi zfz215_12) : zex E (n + 2) d 215 12 [some (.ref 84), u1] [] (zsetI h 84 (upd (h.2.1 84) 0 0)) = zex E (n + 1) d 215 13 [some (.ref 84), u1] [.int 0] (zsetI h 84 (upd (h.2.1 84) 0 0))).trans (((yRet2 zfz215_13 rfl (Or.inl rfl)) : zex E (n + 1) d 215 13 [some (.ref 84), u1] [.int 0] (zsetI h 84 (upd (h.2.1 84) 0 0)) = some (.inl (some (.int 0)), (zsetI h 84 (upd (h.2.1 84) 0 0)))))))))))
set_option maxRecDepth 100000 in
theorem un_1 {E : zE} {n d : Nat} {h : zH} {u1 : Option Value} (hq : ((zsetI h 84 (upd (h.2.1 84) 0 0)).2.1 84 7).toInt ≠ 0) (a84 : zat h.1 84 = some (.inr (.inl (12, [none, some (some 85), some (some 86), some (some 87), some (some 88), some (some 89), none, none, some (some 90), none, none, none, none, none, none, some (some 91), none, some (some 92), some (some 93)]))))  : zex E (n + 14) d 215 0 [some (.ref 84), u1] [] h = zex E n d 215 26 [some (.ref 84), some (.int 0)] [] (zsetI (zsetI h 84 (upd (h.2.1 84) 0 0)) 84 (upd ((zsetI h 84 (upd (h.2.1 84) 0 0)).2.1 84) 7 (((zsetI h 84 (upd (h.2.1 84) 0 0)).2.1 84 7) - 1))) :=
  ((yAn zfz215_0 rfl rfl) : zex E (n + 14) d 215 0 [some (.ref 84), u1] [] h = zex E (n + 13) d 215 1 [some (.ref 84), u1] [.ref 84] h).trans (((yCi zfz215_1) : zex E (n + 13) d 215 1 [some (.ref 84), u1] [.ref 84] h = zex E (n + 12) d 215 2 [some (.ref 84), u1] [.int 0, .ref 84] h).trans (((zpx zfz215_2 a84 rfl) : zex E (n + 12) d 215 2 [some (.ref 84), u1] [.int 0, .ref 84] h = zex E (n + 11) d 215 5 [some (.ref 84), u1] [] (zsetI h 84 (upd (h.2.1 84) 0 0))).trans (((yAn zfz215_5 rfl rfl) : zex E (n + 11) d 215 5 [some (.ref 84), u1] [] (zsetI h 84 (upd (h.2.1 84) 0 0)) = zex E (n + 10) d 215 6 [some (.ref 84), u1] [.ref 84] (zsetI h 84 (upd (h.2.1 84) 0 0))).trans (((zgi zfz215_6 a84 rfl) : zex E (n + 10) d 215 6 [some (.ref 84), u1] [.ref 84] (zsetI h 84 (upd (h.2.1 84) 0 0)) = zex E (n + 9) d 215 9 [some (.ref 84), u1] [.int ((zsetI h 84 (upd (h.2.1 84) 0 0)).2.1 84 7)] (zsetI h 84 (upd (h.2.1 84) 0 0))).trans (((zjnT zfz215_9 hq) : zex E (n + 9) d 215 9 [some (.ref 84), u1] [.int ((zsetI h 84 (upd (h.2.1 84) 0 0)).2.1 84 7)] (zsetI h 84 (upd (h.2.1 84) 0 0)) = zex E (n + 8) d 215 14 [some (.ref 84), u1] [] (zsetI h 84 (upd (h.2.1 84) 0 0))).trans (((yAn zfz215_14 rfl rfl) : zex E (n + 8) d 215 14 [some (.ref 84), u1] [] (zsetI h 84 (upd (h.2.1 84) 0 0)) = zex E (n + 7) d 215 15 [some (.ref 84), u1] [.ref 84] (zsetI h 84 (upd (h.2.1 84) 0 0))).trans (((yDup zfz215_15 rfl) : zex E (n + 7) d 215 15 [some (.ref 84), u1] [.ref 84] (zsetI h 84 (upd (h.2.1 84) 0 0)) = zex E (n + 6) d 215 16 [some (.ref 84), u1] [.ref 84, .ref 84] (zsetI h 84 (upd (h.2.1 84) 0 0))).trans (((zgi zfz215_16 a84 rfl) : zex E (n + 6) d 215 16 [some (.ref 84), u1] [.ref 84, .ref 84] (zsetI h 84 (upd (h.2.1 84) 0 0)) = zex E (n + 5) d 215 19 [some (.ref 84), u1] [.int ((zsetI h 84 (upd (h.2.1 84) 0 0)).2.1 84 7), .ref 84] (zsetI h 84 (upd (h.2.1 84) 0 0))).trans (((yCi zfz215_19) : zex E (n + 5) d 215 19 [some (.ref 84), u1] [.int ((zsetI h 84 (upd (h.2.1 84) 0 0)).2.1 84 7), .ref 84] (zsetI h 84 (upd (h.2.1 84) 0 0)) = zex E (n + 4) d 215 20 [some (.ref 84), u1] [.int 1, .int ((zsetI h 84 (upd (h.2.1 84) 0 0)).2.1 84 7), .ref 84] (zsetI h 84 (upd (h.2.1 84) 0 0))).trans (((ySub zfz215_20) : zex E (n + 4) d 215 20 [some (.ref 84), u1] [.int 1, .int ((zsetI h 84 (upd (h.2.1 84) 0 0)).2.1 84 7), .ref 84] (zsetI h 84 (upd (h.2.1 84) 0 0)) = zex E (n + 3) d 215 21 [some (.ref 84), u1] [.int (((zsetI h 84 (upd (h.2.1 84) 0 0)).2.1 84 7) - 1), .ref 84] (zsetI h 84 (upd (h.2.1 84) 0 0))).trans (((zpx zfz215_21 a84 rfl) : zex E (n + 3) d 215 21 [some (.ref 84), u1] [.int (((zsetI h 84 (upd (h.2.1 84) 0 0)).2.1 84 7) - 1), .ref 84] (zsetI h 84 (upd (h.2.1 84) 0 0)) = zex E (n + 2) d 215 24 [some (.ref 84), u1] [] (zsetI (zsetI h 84 (upd (h.2.1 84) 0 0)) 84 (upd ((zsetI h 84 (upd (h.2.1 84) 0 0)).2.1 84) 7 (((zsetI h 84 (upd (h.2.1 84) 0 0)).2.1 84 7) - 1)))).trans (((yCi zfz215_24) : zex E (n + 2) d 215 24 [some (.ref 84), u1] [] (zsetI (zsetI h 84 (upd (h.2.1 84) 0 0)) 84 (upd ((zsetI h 84 (upd (h.2.1 84) 0 0)).2.1 84) 7 (((zsetI h 84 (upd (h.2.1 84) 0 0)).2.1 84 7) - 1))) = zex E (n + 1) d 215 25 [some (.ref 84), u1] [.int 0] (zsetI (zsetI h 84 (upd (h.2.1 84) 0 0)) 84 (upd ((zsetI h 84 (upd (h.2.1 84) 0 0)).2.1 84) 7 (((zsetI h 84 (upd (h.2.1 84) 0 0)).2.1 84 7) - 1)))).trans (((ySn zfz215_25) : zex E (n + 1) d 215 25 [some (.ref 84), u1] [.int 0] (zsetI (zsetI h 84 (upd (h.2.1 84) 0 0)) 84 (upd ((zsetI h 84 (upd (h.2.1 84) 0 0)).2.1 84) 7 (((zsetI h 84 (upd (h.2.1 84) 0 0)).2.1 84 7) - 1))) = zex E n d 215 26 [some (.ref 84), some (.int 0)] [] (zsetI (zsetI h 84 (upd (h.2.1 84) 0 0)) 84 (upd ((zsetI h 84 (upd (h.2.1 84) 0 0)).2.1 84) 7 (((zsetI h 84 (upd (h.2.1 84) 0 0)).2.1 84 7) - 1)))))))))))))))))
set_option maxRecDepth 100000 in
theorem un_e {E : zE} {n d : Nat} {h : zH} {u1 : Option Value}    : zex E (n + 2) d 215 60 [some (.ref 84), u1] [] h = some (.inl (some (.int 1)), h) :=
  ((yCi zfz215_60) : zex E (n + 2) d 215 60 [some (.ref 84), u1] [] h = zex E (n + 1) d 215 61 [some (.ref 84), u1] [.int 1] h).trans (((yRet2 zfz215_61 rfl (Or.inr rfl)) : zex E (n + 1) d 215 61 [some (.ref 84), u1] [.int 1] h = some (.inl (some (.int 1)), h)))
set_option maxRecDepth 100000 in
theorem im_0 {E : zE} {n d : Nat} {h : zH} {u1 : Option Value}  (a84 : zat h.1 84 = some (.inr (.inl (12, [none, some (some 85), some (some 86), some (some 87), some (some 88), some (some 89), none, none, some (some 90), none, none, none, none, none, none, some (some 91), none, some (some 92), some (some 93)]))))  : zex E (n + 5) d 212 0 [some (.ref 84), u1] [] h = zex E n d 212 7 [some (.ref 84), some (.int 0)] [] (zsetI h 84 (upd (h.2.1 84) 0 0)) :=
  ((yAn zfz212_0 rfl rfl) : zex E (n + 5) d 212 0 [some (.ref 84), u1] [] h = zex E (n + 4) d 212 1 [some (.ref 84), u1] [.ref 84] h).trans (((yCi zfz212_1) : zex E (n + 4) d 212 1 [some (.ref 84), u1] [.ref 84] h = zex E (n + 3) d 212 2 [some (.ref 84), u1] [.int 0, .ref 84] h).trans (((zpx zfz212_2 a84 rfl) : zex E (n + 3) d 212 2 [some (.ref 84), u1] [.int 0, .ref 84] h = zex E (n + 2) d 212 5 [some (.ref 84), u1] [] (zsetI h 84 (upd (h.2.1 84) 0 0))).trans (((yCi zfz212_5) : zex E (n + 2) d 212 5 [some (.ref 84), u1] [] (zsetI h 84 (upd (h.2.1 84) 0 0)) = zex E (n + 1) d 212 6 [some (.ref 84), u1] [.int 0] (zsetI h 84 (upd (h.2.1 84) 0 0))).trans (((ySn zfz212_6) : zex E (n + 1) d 212 6 [some (.ref 84), u1] [.int 0] (zsetI h 84 (upd (h.2.1 84) 0 0)) = zex E n d 212 7 [some (.ref 84), some (.int 0)] [] (zsetI h 84 (upd (h.2.1 84) 0 0)))))))
set_option maxRecDepth 100000 in
theorem im_e {E : zE} {n d : Nat} {h : zH} {u1 : Option Value}  (a84 : zat h.1 84 = some (.inr (.inl (12, [none, some (some 85), some (some 86), some (some 87), some (some 88), some (some 89), none, none, some (some 90), none, none, none, none, none, none, some (some 91), none, some (some 92), some (some 93)]))))  : zex E (n + 4) d 212 32 [some (.ref 84), u1] [] h = some (.inl none, (zsetI h 84 (upd (h.2.1 84) 6 1))) :=
  ((yAn zfz212_32 rfl rfl) : zex E (n + 4) d 212 32 [some (.ref 84), u1] [] h = zex E (n + 3) d 212 33 [some (.ref 84), u1] [.ref 84] h).trans (((yCi zfz212_33) : zex E (n + 3) d 212 33 [some (.ref 84), u1] [.ref 84] h = zex E (n + 2) d 212 34 [some (.ref 84), u1] [.int 1, .ref 84] h).trans (((zpb zfz212_34 a84 rfl (Or.inr rfl)) : zex E (n + 2) d 212 34 [some (.ref 84), u1] [.int 1, .ref 84] h = zex E (n + 1) d 212 37 [some (.ref 84), u1] [] (zsetI h 84 (upd (h.2.1 84) 6 1))).trans (((yRet0 zfz212_37 rfl) : zex E (n + 1) d 212 37 [some (.ref 84), u1] [] (zsetI h 84 (upd (h.2.1 84) 6 1)) = some (.inl none, (zsetI h 84 (upd (h.2.1 84) 6 1)))))))
set_option maxRecDepth 100000 in
theorem bk_0 {E : zE} {n d : Nat} {h : zH} {u1 : Option Value} (hq : ((zsetI h 84 (upd (h.2.1 84) 0 0)).2.1 84 6).toInt = 0) (a84 : zat h.1 84 = some (.inr (.inl (12, [none, some (some 85), some (some 86), some (some 87), some (some 88), some (some 89), none, none, some (some 90), none, none, none, none, none, none, some (some 91), none, some (some 92), some (some 93)]))))  : zex E (n + 8) d 213 0 [some (.ref 84), u1] [] h = some (.inl (some (.int 0)), (zsetI h 84 (upd (h.2.1 84) 0 0))) :=
  ((yAn zfz213_0 rfl rfl) : zex E (n + 8) d 213 0 [some (.ref 84), u1] [] h = zex E (n + 7) d 213 1 [some (.ref 84), u1] [.ref 84] h).trans (((yCi zfz213_1) : zex E (n + 7) d 213 1 [some (.ref 84), u1] [.ref 84] h = zex E (n + 6) d 213 2 [some (.ref 84), u1] [.int 0, .ref 84] h).trans (((zpx zfz213_2 a84 rfl) : zex E (n + 6) d 213 2 [some (.ref 84), u1] [.int 0, .ref 84] h = zex E (n + 5) d 213 5 [some (.ref 84), u1] [] (zsetI h 84 (upd (h.2.1 84) 0 0))).trans (((yAn zfz213_5 rfl rfl) : zex E (n + 5) d 213 5 [some (.ref 84), u1] [] (zsetI h 84 (upd (h.2.1 84) 0 0)) = zex E (n + 4) d 213 6 [some (.ref 84), u1] [.ref 84] (zsetI h 84 (upd (h.2.1 84) 0 0))).trans (((zgi zfz213_6 a84 rfl) : zex E (n + 4) d 213 6 [some (.ref 84), u1] [.ref 84] (zsetI h 84 (upd (h.2.1 84) 0 0)) = zex E (n + 3) d 213 9 [some (.ref 84), u1] [.int ((zsetI h 84 (upd (h.2.1 84) 0 0)).2.1 84 6)] (zsetI h 84 (upd (h.2.1 84) 0 0))).trans (((zjnF zfz213_9 hq) : zex E (n + 3) d 213 9 [some (.ref 84), u1] [.int ((zsetI h 84 (upd (h.2.1 84) 0 0)).2.1 84 6)] (zsetI h 84 (upd (h.2.1 84) 0 0)) = zex E (n + 2) d 213 12 [some (.ref 84), u1] [] (zsetI h 84 (upd (h.2.1 84) 0 0))).trans (((yCi zfz213_12) : zex E (n + 2) d 213 12 [some (.ref 84), u1] [] (zsetI h 84 (upd (h.2.1 84) 0 0)) = zex E (n + 1) d 213 13 [some (.ref 84), u1] [.int 0] (zsetI h 84 (upd (h.2.1 84) 0 0))).trans (((yRet2 zfz213_13 rfl (Or.inl rfl)) : zex E (n + 1) d 213 13 [some (.ref 84), u1] [.int 0] (zsetI h 84 (upd (h.2.1 84) 0 0)) = some (.inl (some (.int 0)), (zsetI h 84 (upd (h.2.1 84) 0 0)))))))))))
set_option maxRecDepth 100000 in
theorem bk_1 {E : zE} {n d : Nat} {h : zH} {u1 : Option Value} (hq : ((zsetI h 84 (upd (h.2.1 84) 0 0)).2.1 84 6).toInt ≠ 0) (a84 : zat h.1 84 = some (.inr (.inl (12, [none, some (some 85), some (some 86), some (some 87), some (some 88), some (some 89), none, none, some (some 90), none, none, none, none, none, none, some (some 91), none, some (some 92), some (some 93)]))))  : zex E (n + 8) d 213 0 [some (.ref 84), u1] [] h = zex E n d 213 16 [some (.ref 84), some (.int 0)] [] (zsetI h 84 (upd (h.2.1 84) 0 0)) :=
  ((yAn zfz213_0 rfl rfl) : zex E (n + 8) d 213 0 [some (.ref 84), u1] [] h = zex E (n + 7) d 213 1 [some (.ref 84), u1] [.ref 84] h).trans (((yCi zfz213_1) : zex E (n + 7) d 213 1 [some (.ref 84), u1] [.ref 84] h = zex E (n + 6) d 213 2 [some (.ref 84), u1] [.int 0, .ref 84] h).trans (((zpx zfz213_2 a84 rfl) : zex E (n + 6) d 213 2 [some (.ref 84), u1] [.int 0, .ref 84] h = zex E (n + 5) d 213 5 [some (.ref 84), u1] [] (zsetI h 84 (upd (h.2.1 84) 0 0))).trans (((yAn zfz213_5 rfl rfl) : zex E (n + 5) d 213 5 [some (.ref 84), u1] [] (zsetI h 84 (upd (h.2.1 84) 0 0)) = zex E (n + 4) d 213 6 [some (.ref 84), u1] [.ref 84] (zsetI h 84 (upd (h.2.1 84) 0 0))).trans (((zgi zfz213_6 a84 rfl) : zex E (n + 4) d 213 6 [some (.ref 84), u1] [.ref 84] (zsetI h 84 (upd (h.2.1 84) 0 0)) = zex E (n + 3) d 213 9 [some (.ref 84), u1] [.int ((zsetI h 84 (upd (h.2.1 84) 0 0)).2.1 84 6)] (zsetI h 84 (upd (h.2.1 84) 0 0))).trans (((zjnT zfz213_9 hq) : zex E (n + 3) d 213 9 [some (.ref 84), u1] [.int ((zsetI h 84 (upd (h.2.1 84) 0 0)).2.1 84 6)] (zsetI h 84 (upd (h.2.1 84) 0 0)) = zex E (n + 2) d 213 14 [some (.ref 84), u1] [] (zsetI h 84 (upd (h.2.1 84) 0 0))).trans (((yCi zfz213_14) : zex E (n + 2) d 213 14 [some (.ref 84), u1] [] (zsetI h 84 (upd (h.2.1 84) 0 0)) = zex E (n + 1) d 213 15 [some (.ref 84), u1] [.int 0] (zsetI h 84 (upd (h.2.1 84) 0 0))).trans (((ySn zfz213_15) : zex E (n + 1) d 213 15 [some (.ref 84), u1] [.int 0] (zsetI h 84 (upd (h.2.1 84) 0 0)) = zex E n d 213 16 [some (.ref 84), some (.int 0)] [] (zsetI h 84 (upd (h.2.1 84) 0 0))))))))))
set_option maxRecDepth 100000 in
theorem bk_e {E : zE} {n d : Nat} {h : zH} {u1 : Option Value}  (a84 : zat h.1 84 = some (.inr (.inl (12, [none, some (some 85), some (some 86), some (some 87), some (some 88), some (some 89), none, none, some (some 90), none, none, none, none, none, none, some (some 91), none, some (some 92), some (some 93)]))))  : zex E (n + 5) d 213 41 [some (.ref 84), u1] [] h = some (.inl (some (.int 1)), (zsetI h 84 (upd (h.2.1 84) 7 0))) :=
  ((yAn zfz213_41 rfl rfl) : zex E (n + 5) d 213 41 [some (.ref 84), u1] [] h = zex E (n + 4) d 213 42 [some (.ref 84), u1] [.ref 84] h).trans (((yCi zfz213_42) : zex E (n + 4) d 213 42 [some (.ref 84), u1] [.ref 84] h = zex E (n + 3) d 213 43 [some (.ref 84), u1] [.int 0, .ref 84] h).trans (((zpx zfz213_43 a84 rfl) : zex E (n + 3) d 213 43 [some (.ref 84), u1] [.int 0, .ref 84] h = zex E (n + 2) d 213 46 [some (.ref 84), u1] [] (zsetI h 84 (upd (h.2.1 84) 7 0))).trans (((yCi zfz213_46) : zex E (n + 2) d 213 46 [some (.ref 84), u1] [] (zsetI h 84 (upd (h.2.1 84) 7 0)) = zex E (n + 1) d 213 47 [some (.ref 84), u1] [.int 1] (zsetI h 84 (upd (h.2.1 84) 7 0))).trans (((yRet2 zfz213_47 rfl (Or.inr rfl)) : zex E (n + 1) d 213 47 [some (.ref 84), u1] [.int 1] (zsetI h 84 (upd (h.2.1 84) 7 0)) = some (.inl (some (.int 1)), (zsetI h 84 (upd (h.2.1 84) 7 0))))))))
/-- places of the plan in the model's row -/
def plk (k : Nat) : Prop := k < 777 ∧ bun 85 k = bun 85 0
set_option maxRecDepth 100000 in
theorem plk_n : plk 0 ∧ plk 1 ∧ plk 2 ∧ plk 3 := ⟨⟨by decide, by decide +kernel⟩, ⟨by decide, by decide +kernel⟩, ⟨by decide, by decide +kernel⟩, ⟨by decide, by decide +kernel⟩⟩
set_option maxRecDepth 100000 in
theorem plk_d0 : ∀ i, i < 40 → bun 85 (145 + i) = bun 85 0 := by decide +kernel
set_option maxRecDepth 100000 in
theorem plk_d {i : Nat} (h : i < 40) : plk (145 + i) := ⟨by omega, plk_d0 i h⟩
set_option maxRecDepth 100000 in
theorem plk_h0 : ∀ p, p < 8 → ∀ j, j < 13 → bun 85 (188 + 24 * p + j) = bun 85 0 := by decide +kernel
set_option maxRecDepth 100000 in
theorem plk_h {p j : Nat} (h : p < 8) (hj : j < 13) : plk (188 + 24 * p + j) := ⟨by omega, plk_h0 p h j hj⟩
set_option maxRecDepth 100000 in
theorem RMf_p {f g : Nat → Int32} {σ : hSt} (hR : RMf f σ) (hW : WF σ) (hw : ∀ k, plk k → g k = f k) : RMf g σ := by
  obtain ⟨⟨r1, r2, r3⟩, r4, r5⟩ := hR
  have w2 := hW.2.1
  have w3 := hW.2.2.1
  have w4 := hW.2.2.2.1
  have w6 := hW.2.2.2.2.2
  refine ⟨⟨by rw [hw 0 plk_n.1]; exact r1, by rw [hw 1 plk_n.2.1]; exact r2, by rw [hw 2 plk_n.2.2.1]; exact r3⟩, fun i q hi => ?_, fun p hp => ?_⟩
  · have hl := (List.getElem?_eq_some_iff.mp hi).1
    have e1 := hw (145 + 2 * i) (plk_d (by omega))
    have e2 := hw (146 + 2 * i) (by rw [show 146 + 2 * i = 145 + (2 * i + 1) by omega]; exact plk_d (by omega))
    rw [e1, e2]
    exact r4 i q hi
  · have w7 := w6 p hp
    have e1 := hw (188 + 24 * p) (plk_h (j := 0) (by omega) (by decide))
    rw [e1]
    refine ⟨(r5 p hp).1, fun i hi => ?_⟩
    have e2 := hw (189 + 24 * p + i) (by rw [show 189 + 24 * p + i = 188 + 24 * p + (i + 1) by omega]; exact plk_h (by omega) (by omega))
    rw [e2]
    exact (r5 p hp).2 i hi
def PL (h : zH) (σ : hSt) : Prop := RC h 4 18 σ ∧ RM h σ ∧ WF σ ∧ h.2.1 4 3 = h.2.1 85 3
def PI (h : zH) (σ : hSt) : Prop := RC h 31 44 σ ∧ RMf (h.2.1 86) σ ∧ WF σ ∧ h.2.1 31 3 = h.2.1 86 3
def AI (h : zH) : Prop := ∀ b : Nat, (b : Int) < (h.2.1 84 7).toInt → ∀ k, plk k → h.2.1 89 (777 * b + k) = h.2.1 85 k
def PX (h : zH) (im : Nat) : Prop := (∃ σ, PL h σ) ∧ AI h ∧ (im = 1 → ∃ σ, PI h σ)
/-- the same plan, and in the rest what the heap holds -/
def sσ (h : zH) (g : Nat) (σ : hSt) : hSt := (σ.1, sdl σ, ssl σ, swk σ, (fun r => (h.2.1 (g + 1) r).toInt), (fun r => (h.2.1 (g + 2) r).toInt), (fun r => (h.2.1 (g + 3) r).toInt), (fun r => (h.2.1 (g + 4) r).toInt))
set_option maxRecDepth 100000 in
theorem RC_new {h h' : zH} {p g g' : Nat} {σ : hSt} (hR : RC h p g σ) (h1 : ∀ k, k < 3 → h'.2.1 p k = h.2.1 p k) (h2 : ∀ k, h'.2.1 (p + 3) k = h.2.1 (p + 3) k) (h3 : ∀ k, h'.2.1 (p + 4) k = h.2.1 (p + 4) k) (h4 : ∀ k, h'.2.1 (p + 5) k = h.2.1 (p + 5) k) : RC h' p g' (sσ h' g' σ) := by
  obtain ⟨⟨r1, r2, r3⟩, r4, r5, r6, _⟩ := hR
  exact ⟨⟨by rw [h1 0 (by decide)]; exact r1, by rw [h1 1 (by decide)]; exact r2, by rw [h1 2 (by decide)]; exact r3⟩, fun a ha => by rw [h2 a]; exact r4 a ha, fun q hq => by rw [h3 q]; exact r5 q hq, fun q hq k hk => by rw [h4]; exact r6 q hq k hk, fun _ _ => rfl, fun _ _ => rfl, fun _ _ => rfl, fun _ _ => rfl⟩
set_option maxRecDepth 100000 in
theorem RC_to {h h' : zH} {p q g g' : Nat} {σ : hSt} (hR : RC h p g σ) (hW : WF σ) (h1 : ∀ k, k < 3 → h'.2.1 q k = h.2.1 p k) (h2 : ∀ k, k < 12 → h'.2.1 (q + 3) k = h.2.1 (p + 3) k) (h3 : ∀ k, k < 8 → h'.2.1 (q + 4) k = h.2.1 (p + 4) k) (h4 : ∀ k, k < 96 → h'.2.1 (q + 5) k = h.2.1 (p + 5) k) : RC h' q g' (sσ h' g' σ) := by
  obtain ⟨⟨r1, r2, r3⟩, r4, r5, r6, _⟩ := hR
  have w3 := hW.2.2.1
  have w6 := hW.2.2.2.2.2
  exact ⟨⟨by rw [h1 0 (by decide)]; exact r1, by rw [h1 1 (by decide)]; exact r2, by rw [h1 2 (by decide)]; exact r3⟩, fun a ha => by rw [h2 a ha]; exact r4 a ha, fun a ha => by have ha : a < sP σ := ha; rw [h3 a (by omega)]; exact r5 a ha, fun a ha k hk => by have ha : a < sP σ := ha; have hk : k < ssl σ a := hk; have := w6 a ha; rw [h4 _ (by omega)]; exact r6 a ha k hk, fun _ _ => rfl, fun _ _ => rfl, fun _ _ => rfl, fun _ _ => rfl⟩
def lP : List (Nat × Nat) := [(4, 0), (4, 1), (4, 2), (4, 3), (7, 0), (8, 0), (9, 0), (85, 0)]
def lI : List (Nat × Nat) := [(31, 0), (31, 1), (31, 2), (31, 3), (34, 0), (35, 0), (36, 0), (86, 0)]
def lA : List (Nat × Nat) := [(89, 0), (84, 7)]
def lT : List (Nat × Nat) := [(2, 0), (90, 0), (1, 1), (84, 9), (30, 4), (84, 6)]
noncomputable def wF (W : Nat) (l : List (Nat × Nat)) : Bool := l.all fun q => !(Nat.testBit W (bun q.1 q.2))
set_option maxRecDepth 100000 in
theorem wF_m {W : Nat} {l : List (Nat × Nat)} (h : wF W l = true) (c k : Nat) (hq : (c, k) ∈ l) : Nat.testBit W (bun c k) = false := by
  have := List.all_eq_true.mp h (c, k) hq
  cases hb : Nat.testBit W (bun c k) with
  | false => rfl
  | true =>
    have this : (!(Nat.testBit W (bun c k))) = true := this
    rw [hb] at this
    cases this
def Fr (W : Nat) (h h' : zH) : Prop := ∀ a k, Nat.testBit W (bun a k) = false → h'.2.1 a k = h.2.1 a k
def FrP (h h' : zH) : Prop := (∀ k, k < 4 → h'.2.1 4 k = h.2.1 4 k) ∧ (∀ k, h'.2.1 7 k = h.2.1 7 k) ∧ (∀ k, h'.2.1 8 k = h.2.1 8 k) ∧ (∀ k, h'.2.1 9 k = h.2.1 9 k) ∧ ∀ k, plk k → h'.2.1 85 k = h.2.1 85 k
def FrI (h h' : zH) : Prop := (∀ k, k < 4 → h'.2.1 31 k = h.2.1 31 k) ∧ (∀ k, h'.2.1 34 k = h.2.1 34 k) ∧ (∀ k, h'.2.1 35 k = h.2.1 35 k) ∧ (∀ k, h'.2.1 36 k = h.2.1 36 k) ∧ ∀ k, h'.2.1 86 k = h.2.1 86 k
def FrA (h h' : zH) : Prop := (∀ k, h'.2.1 89 k = h.2.1 89 k) ∧ h'.2.1 84 7 = h.2.1 84 7
/-- places of the plan of the class alone -/
def FrC (h h' : zH) : Prop := (∀ k, k < 4 → h'.2.1 4 k = h.2.1 4 k) ∧ (∀ k, h'.2.1 7 k = h.2.1 7 k) ∧ (∀ k, h'.2.1 8 k = h.2.1 8 k) ∧ ∀ k, h'.2.1 9 k = h.2.1 9 k
def lC : List (Nat × Nat) := [(4, 0), (4, 1), (4, 2), (4, 3), (7, 0), (8, 0), (9, 0)]
set_option maxRecDepth 100000 in
theorem lt4 {P : Nat → Prop} (h0 : P 0) (h1 : P 1) (h2 : P 2) (h3 : P 3) : ∀ k, k < 4 → P k
  | 0, _ => h0
  | 1, _ => h1
  | 2, _ => h2
  | 3, _ => h3
  | n + 4, h => absurd h (by omega)
set_option maxRecDepth 100000 in
theorem FrC_w {W : Nat} {h h' : zH} (hW : wF W lC = true) (f : Fr W h h') : FrC h h' :=
  ⟨lt4 (f 4 0 (wF_m hW 4 0 (by decide))) (f 4 1 (wF_m hW 4 1 (by decide))) (f 4 2 (wF_m hW 4 2 (by decide))) (f 4 3 (wF_m hW 4 3 (by decide))), fun k => f 7 k (wF_m hW 7 0 (by decide)), fun k => f 8 k (wF_m hW 8 0 (by decide)), fun k => f 9 k (wF_m hW 9 0 (by decide))⟩
set_option maxRecDepth 100000 in
theorem FrP_w {W : Nat} {h h' : zH} (hW : wF W lP = true) (f : Fr W h h') : FrP h h' :=
  ⟨lt4 (f 4 0 (wF_m hW 4 0 (by decide))) (f 4 1 (wF_m hW 4 1 (by decide))) (f 4 2 (wF_m hW 4 2 (by decide))) (f 4 3 (wF_m hW 4 3 (by decide))), fun k => f 7 k (wF_m hW 7 0 (by decide)), fun k => f 8 k (wF_m hW 8 0 (by decide)), fun k => f 9 k (wF_m hW 9 0 (by decide)), fun k hk => f 85 k (by rw [hk.2]; exact wF_m hW 85 0 (by decide))⟩
set_option maxRecDepth 100000 in
theorem FrI_w {W : Nat} {h h' : zH} (hW : wF W lI = true) (f : Fr W h h') : FrI h h' :=
  ⟨lt4 (f 31 0 (wF_m hW 31 0 (by decide))) (f 31 1 (wF_m hW 31 1 (by decide))) (f 31 2 (wF_m hW 31 2 (by decide))) (f 31 3 (wF_m hW 31 3 (by decide))), fun k => f 34 k (wF_m hW 34 0 (by decide)), fun k => f 35 k (wF_m hW 35 0 (by decide)), fun k => f 36 k (wF_m hW 36 0 (by decide)), fun k => f 86 k (wF_m hW 86 0 (by decide))⟩
set_option maxRecDepth 100000 in
theorem FrA_w {W : Nat} {h h' : zH} (hW : wF W lA = true) (f : Fr W h h') : FrA h h' := ⟨fun k => f 89 k (wF_m hW 89 0 (by decide)), f 84 7 (wF_m hW 84 7 (by decide))⟩
set_option maxRecDepth 100000 in
theorem FrP_C {h h' : zH} (c : FrC h h') (r : ∀ k, plk k → h'.2.1 85 k = h.2.1 85 k) : FrP h h' := ⟨c.1, c.2.1, c.2.2.1, c.2.2.2, r⟩
set_option maxRecDepth 100000 in
theorem FrP_t {a b c : zH} (x : FrP a b) (y : FrP b c) : FrP a c := ⟨fun k hk => (y.1 k hk).trans (x.1 k hk), fun k => (y.2.1 k).trans (x.2.1 k), fun k => (y.2.2.1 k).trans (x.2.2.1 k), fun k => (y.2.2.2.1 k).trans (x.2.2.2.1 k), fun k hk => (y.2.2.2.2 k hk).trans (x.2.2.2.2 k hk)⟩
set_option maxRecDepth 100000 in
theorem FrI_t {a b c : zH} (x : FrI a b) (y : FrI b c) : FrI a c := ⟨fun k hk => (y.1 k hk).trans (x.1 k hk), fun k => (y.2.1 k).trans (x.2.1 k), fun k => (y.2.2.1 k).trans (x.2.2.1 k), fun k => (y.2.2.2.1 k).trans (x.2.2.2.1 k), fun k => (y.2.2.2.2 k).trans (x.2.2.2.2 k)⟩
set_option maxRecDepth 100000 in
theorem FrA_t {a b c : zH} (x : FrA a b) (y : FrA b c) : FrA a c := ⟨fun k => (y.1 k).trans (x.1 k), y.2.trans x.2⟩
set_option maxRecDepth 100000 in
theorem PL_f {h h' : zH} (f : FrP h h') : (∃ σ, PL h σ) → ∃ σ, PL h' σ := by
  intro ⟨σ, hR, hM, hW, h3⟩
  exact ⟨sσ h' 18 σ, RC_new hR (fun k hk => f.1 k (by omega)) f.2.1 f.2.2.1 f.2.2.2.1, RMf_p hM hW f.2.2.2.2, hW, by rw [f.1 3 (by decide), f.2.2.2.2 3 plk_n.2.2.2]; exact h3⟩
set_option maxRecDepth 100000 in
theorem PI_f {h h' : zH} (f : FrI h h') : (∃ σ, PI h σ) → ∃ σ, PI h' σ := by
  intro ⟨σ, hR, hM, hW, h3⟩
  exact ⟨sσ h' 44 σ, RC_new hR (fun k hk => f.1 k (by omega)) f.2.1 f.2.2.1 f.2.2.2.1, RMf_p hM hW (fun k _ => f.2.2.2.2 k), hW, by rw [f.1 3 (by decide), f.2.2.2.2 3]; exact h3⟩
set_option maxRecDepth 100000 in
theorem AI_f {h h' : zH} (f : FrA h h') (r : ∀ k, plk k → h'.2.1 85 k = h.2.1 85 k) (a : AI h) : AI h' := by
  intro b hb k hk
  rw [f.2] at hb
  rw [f.1, r k hk]
  exact a b hb k hk
set_option maxRecDepth 100000 in
theorem PX_f {h h' : zH} {im : Nat} (f : FrP h h') (g : FrA h h') (i : FrI h h') (p : PX h im) : PX h' im := ⟨PL_f f p.1, AI_f g f.2.2.2.2 p.2.1, fun z => PI_f i (p.2.2 z)⟩
set_option maxRecDepth 100000 in
theorem PX_a {h h' : zH} {im : Nat} (f : FrP h h') (a : AI h → AI h') (i : FrI h h') (p : PX h im) : PX h' im := ⟨PL_f f p.1, a p.2.1, fun z => PI_f i (p.2.2 z)⟩
section RE
variable {E : zE} {h : zH}
set_option maxRecDepth 100000 in
theorem w847b {h : zH} (hI : bHI h) : 0 ≤ (h.2.1 84 7).toInt ∧ (h.2.1 84 7).toInt ≤ 12 := hI.1 84 7
/-- what remembers leaves -/
def rmQ (h : zH) (o : Option zR) : Prop := ∃ h', o = some (.inl none, h') ∧ bHI h' ∧ h'.1 = h.1 ∧ (∀ c, c ≠ 84 → c ≠ 89 → ∀ k, h'.2.1 c k = h.2.1 c k) ∧ (∀ k, k ≠ 7 → h'.2.1 84 k = h.2.1 84 k) ∧ (AI h → AI h')
set_option maxRecDepth 100000 in
theorem ri_8 {r : Int32} {n : Nat} (hr : r.toInt = (n : Int)) (hn : n ≤ 12) : (777 * r).toInt = ((777 * n : Nat) : Int) := by
  rw [i32_nat hr]
  have : ∀ n, n ≤ 12 → (777 * Int32.ofNat n).toInt = ((777 * n : Nat) : Int) := by decide +kernel
  exact this n hn
set_option maxRecDepth 100000 in
theorem wY847 : Nat.testBit wY (bun 84 7) = true := by decide +kernel
set_option maxRecDepth 100000 in
theorem remE (hI : bHI h) (hP : bPS h) (hT : bTB ctb h.1) {u1 : Option Value} : ∀ d f, 1000000 ≤ f → rmQ h (zex E f d 214 0 [some (.ref 84), u1] [] h) := by
  intro d f hf
  have a84 := hT 84 _ cs84 (by intro z; cases z)
  have a85 := hT 85 _ cs85 (by intro z; cases z)
  have a89 := hT 89 _ cs89 (by intro z; cases z)
  have b7 := w847b hI
  -- the second half, from a heap with the number told
  have half : ∀ (g : zH) (r : Nat) (u : Option Value) (n : Nat), g.1 = h.1 → bHI g → r < 12 → (g.2.1 84 7).toInt = ((r + 1 : Nat) : Int) → zex E (n + 1 + 3 + 20 * 777) d 214 55 [some (.ref 84), some (.int 0)] [] g = some (.inl none, (g.1, zcpg g.2.1 89 85 (777 * r) 0 777, g.2.2)) := by
    intro g r u n hg gI hr h7
    have c84 : zat g.1 84 = some (.inr (.inl (12, [none, some (some 85), some (some 86), some (some 87), some (some 88), some (some 89), none, none, some (some 90), none, none, none, none, none, none, some (some 91), none, some (some 92), some (some 93)]))) := by rw [hg]; exact a84
    have c85 : zat g.1 85 = some (.inl (0, 2475, [])) := by rw [hg]; exact a85
    have c89 : zat g.1 89 = some (.inl (0, 9324, [])) := by rw [hg]; exact a89
    have m1 : (g.2.1 84 7 - 1).toInt = (r : Int) := by rw [i32_sub (by rw [h7, int1]; omega) (by rw [h7, int1]; omega), h7, int1]; omega
    have m2 := ri_8 m1 (by omega)
    have e := zlrem2_loop (E := E) (d := d) (a := 84) (t := 89) (w := 85) (rho := g.2.1 84 7) (sh := g.1) (v := g.2.1) (rest := g.2.2) c84 rfl rfl c89 c85 rfl rfl (by decide) (o := 777 * r) (q := 0) (fun k hk => baddk m2 (by omega) (by omega)) (fun k hk => by rw [zof9 (by omega), Nat.zero_add]) (by omega) (by omega) (Or.inl (by decide)) 777 0 (n + 1) rfl
    rw [zcpg_0] at e
    exact e.trans (rm_e (n := n) (d := d))
  have Bd : ∀ (g : zH) (r : Nat), bHI g → r < 12 → bHI (g.1, zcpg g.2.1 89 85 (777 * r) 0 777, g.2.2) := fun g r gI hr => bcp_rem2 gI hr
  by_cases hq : (h.2.1 84 7).toInt = 12
  · obtain ⟨m, hm⟩ : ∃ m, f = ((m + 1 + 3 + 20 * 777) + 3) + 3 + 15 * 8547 + 6 := ⟨f - (1 + 3 + 20 * 777 + 3 + 3 + 15 * 8547 + 6), by omega⟩
    subst hm
    have e0 := rm_f (E := E) (n := ((m + 1 + 3 + 20 * 777) + 3) + 3 + 15 * 8547) (d := d) (u1 := u1) (by rw [hq, int12]) a84
    have e1 := zlrem1_loop (E := E) (d := d) (a := 84) (t := 89) (w := 89) (sh := h.1) (v := h.2.1) (rest := h.2.2) a84 rfl rfl a89 a89 (o := 0) (q := 777) (fun k hk => by rw [zof9 (by omega), Nat.zero_add]) (fun k hk => baddk2 (by decide) (by omega) (by omega)) (by omega) (by omega) (Or.inr (by omega)) 8547 0 ((m + 1 + 3 + 20 * 777) + 3) rfl
    rw [zcpg_0] at e1
    have I1 := bcp_rem1 hI
    obtain ⟨g, hg⟩ : ∃ g : zH, g = (h.1, zcpg h.2.1 89 89 0 777 8547, h.2.2) := ⟨_, rfl⟩
    have g1 : g.1 = h.1 := by rw [hg]
    have g89 : ∀ i, i < 8547 → g.2.1 89 i = h.2.1 89 (777 + i) := fun i hi => by
      rw [hg]
      show zcpg h.2.1 89 89 0 777 8547 89 i = _
      rw [zcpg_t, if_pos ⟨by omega, by omega⟩, show 777 + (i - 0) = 777 + i by omega]
    have go : ∀ c, c ≠ 89 → ∀ k, g.2.1 c k = h.2.1 c k := fun c hc k => by rw [hg]; exact zcpg_a _ hc
    rw [← hg] at e1 I1
    have e2 := rm_g (E := E) (n := m + 1 + 3 + 20 * 777) (d := d) (u1 := some (.int (Int32.ofNat 8547))) (h := g)
    have e3 := half g 11 none m g1 I1 (by decide) (by rw [go 84 (by decide), hq]; rfl)
    refine ⟨_, (e0.trans (e1.trans (e2.trans e3))), Bd g 11 I1 (by decide), g1, fun c h4 h9 k => (show zcpg g.2.1 89 85 (777 * 11) 0 777 c k = g.2.1 c k from zcpg_a _ h9).trans (go c h9 k), fun k _ => (show zcpg g.2.1 89 85 (777 * 11) 0 777 84 k = g.2.1 84 k from zcpg_a _ (by decide)).trans (go 84 (by decide) k), fun a b hb k hk => ?_⟩
    have hb : (b : Int) < (zcpg g.2.1 89 85 (777 * 11) 0 777 84 7).toInt := hb
    rw [zcpg_a _ (by decide), go 84 (by decide), hq] at hb
    show zcpg g.2.1 89 85 (777 * 11) 0 777 89 (777 * b + k) = zcpg g.2.1 89 85 (777 * 11) 0 777 85 k
    have k7 := hk.1
    rw [zcpg_a _ (show (85 : Nat) ≠ 89 by decide), zcpg_t]
    by_cases hb11 : b = 11
    · rw [hb11, if_pos ⟨by omega, by omega⟩, show 0 + (777 * 11 + k - 777 * 11) = k by omega]
    · rw [if_neg (by omega), g89 _ (by omega), go 85 (by decide), show 777 + (777 * b + k) = 777 * (b + 1) + k by omega]
      exact a (b + 1) (by rw [hq]; omega) k hk
  · obtain ⟨r, hr⟩ : ∃ r : Nat, (h.2.1 84 7).toInt = (r : Int) := ⟨(h.2.1 84 7).toInt.toNat, by omega⟩
    obtain ⟨m, hm⟩ : ∃ m, f = (m + 1 + 3 + 20 * 777) + 12 := ⟨f - (1 + 3 + 20 * 777 + 12), by omega⟩
    subst hm
    have e0 := rm_n (E := E) (n := m + 1 + 3 + 20 * 777) (d := d) (u1 := u1) (by rw [int12]; exact hq) a84
    have v7 : (h.2.1 84 7 + 1).toInt = ((r + 1 : Nat) : Int) := by rw [i32_add (by rw [hr, int1]; omega) (by rw [hr, int1]; omega), hr, int1]; omega
    have hr0 : bRQ ctb wY h 0 0 h := ⟨hI, hP, hT, fun _ _ _ => rfl, Nat.le_refl _, Nat.le_refl _⟩
    have I1 := (bRQ_set (c := 84) (j := 7) (y := h.2.1 84 7 + 1) hr0 wY847 (by rw [show biv 84 7 = (0, 12) from rfl, v7]; exact ⟨by show (0 : Int) ≤ _; omega, by show _ ≤ (12 : Int); omega⟩) rfl rfl (by decide) (by decide)).1
    have g7 : ((zsetI h 84 (upd (h.2.1 84) 7 (h.2.1 84 7 + 1))).2.1 84 7).toInt = ((r + 1 : Nat) : Int) := by rw [zs_at, upd_e]; exact v7
    have go : ∀ c, c ≠ 84 → ∀ k, (zsetI h 84 (upd (h.2.1 84) 7 (h.2.1 84 7 + 1))).2.1 c k = h.2.1 c k := fun c hc k => zs_ne hc
    have g4 : ∀ k, k ≠ 7 → (zsetI h 84 (upd (h.2.1 84) 7 (h.2.1 84 7 + 1))).2.1 84 k = h.2.1 84 k := fun k hk => by rw [zs_at, upd_n hk]
    have g1 : (zsetI h 84 (upd (h.2.1 84) 7 (h.2.1 84 7 + 1))).1 = h.1 := rfl
    obtain ⟨g, hg⟩ : ∃ g : zH, g = zsetI h 84 (upd (h.2.1 84) 7 (h.2.1 84 7 + 1)) := ⟨_, rfl⟩
    rw [← hg] at e0 I1 g7 go g4 g1
    have e3 := half g r none m g1 I1 (by omega) g7
    refine ⟨_, e0.trans e3, Bd g r I1 (by omega), g1, fun c h4 h9 k => (show zcpg g.2.1 89 85 (777 * r) 0 777 c k = g.2.1 c k from zcpg_a _ h9).trans (go c h4 k), fun k hk => (show zcpg g.2.1 89 85 (777 * r) 0 777 84 k = g.2.1 84 k from zcpg_a _ (by decide)).trans (g4 k hk), fun a b hb k hk => ?_⟩
    have hb : (b : Int) < (zcpg g.2.1 89 85 (777 * r) 0 777 84 7).toInt := hb
    rw [zcpg_a _ (by decide), g7] at hb
    show zcpg g.2.1 89 85 (777 * r) 0 777 89 (777 * b + k) = zcpg g.2.1 89 85 (777 * r) 0 777 85 k
    have k7 := hk.1
    rw [zcpg_a _ (show (85 : Nat) ≠ 89 by decide), zcpg_t]
    by_cases hbr : b = r
    · rw [hbr, if_pos ⟨by omega, by omega⟩, show 0 + (777 * r + k - 777 * r) = k by omega]
    · rw [if_neg (by omega), go 89 (by decide), go 85 (by decide)]
      exact a b (by rw [hr]; omega) k hk
/-- what undo leaves -/
def unQ (h : zH) (o : Option zR) : Prop := ∃ (x : Int32) (h' : zH), o = some (.inl (some (.int x)), h') ∧ (∀ c, c ≠ 84 → c ≠ 85 → ∀ k, h'.2.1 c k = h.2.1 c k) ∧ (∀ k, k ≠ 0 → k ≠ 7 → h'.2.1 84 k = h.2.1 84 k) ∧ (∀ k, 777 ≤ k → h'.2.1 85 k = h.2.1 85 k) ∧ (AI h → (∀ k, plk k → h'.2.1 85 k = h.2.1 85 k) ∧ AI h')
set_option maxRecDepth 100000 in
theorem undoM (hI : bHI h) (hT : bTB ctb h.1) {u1 : Option Value} : ∀ d f, 1000000 ≤ f → unQ h (zex E f d 215 0 [some (.ref 84), u1] [] h) := by
  intro d f hf
  have a84 := hT 84 _ cs84 (by intro z; cases z)
  have a85 := hT 85 _ cs85 (by intro z; cases z)
  have a89 := hT 89 _ cs89 (by intro z; cases z)
  have b7 := w847b hI
  by_cases hq : (h.2.1 84 7).toInt = 0
  · obtain ⟨m, hm⟩ : ∃ m, f = m + 8 := ⟨f - 8, by omega⟩
    subst hm
    refine ⟨0, _, un_0 (n := m) (d := d) (by rw [zs_at, upd_n (by decide)]; exact hq) a84, fun c h4 h5 k => zs_ne h4, fun k h0 h7 => by rw [zs_at, upd_n h0], fun k _ => zs_ne (by decide), fun a => ⟨fun k _ => zs_ne (by decide), fun b hb k hk => ?_⟩⟩
    have hb : (b : Int) < ((zsetI h 84 (upd (h.2.1 84) 0 0)).2.1 84 7).toInt := hb
    rw [zs_at, upd_n (by decide), hq] at hb
    omega
  · obtain ⟨r, hr⟩ : ∃ r : Nat, (h.2.1 84 7).toInt = ((r + 1 : Nat) : Int) := ⟨(h.2.1 84 7).toInt.toNat - 1, by omega⟩
    obtain ⟨m, hm⟩ : ∃ m, f = (m + 2 + 3 + 18 * 777) + 14 := ⟨f - (2 + 3 + 18 * 777 + 14), by omega⟩
    subst hm
    have e0 := un_1 (E := E) (n := m + 2 + 3 + 18 * 777) (d := d) (u1 := u1) (by rw [zs_at, upd_n (by decide)]; exact hq) a84
    have v7 : ((zsetI h 84 (upd (h.2.1 84) 0 0)).2.1 84 7 - 1).toInt = (r : Int) := by rw [zs_at, upd_n (by decide), i32_sub (by rw [hr, int1]; omega) (by rw [hr, int1]; omega), hr, int1]; omega
    obtain ⟨g, hg⟩ : ∃ g : zH, g = zsetI (zsetI h 84 (upd (h.2.1 84) 0 0)) 84 (upd ((zsetI h 84 (upd (h.2.1 84) 0 0)).2.1 84) 7 ((zsetI h 84 (upd (h.2.1 84) 0 0)).2.1 84 7 - 1)) := ⟨_, rfl⟩
    have g7 : (g.2.1 84 7).toInt = (r : Int) := by rw [hg, zs_at, upd_e]; exact v7
    have go : ∀ c, c ≠ 84 → ∀ k, g.2.1 c k = h.2.1 c k := fun c hc k => by rw [hg, zs_ne hc, zs_ne hc]
    have g4 : ∀ k, k ≠ 0 → k ≠ 7 → g.2.1 84 k = h.2.1 84 k := fun k k0 k7 => by rw [hg, zs_at, upd_n k7, zs_at, upd_n k0]
    have g1 : g.1 = h.1 := by rw [hg]; rfl
    rw [← hg] at e0
    have c84 : zat g.1 84 = some (.inr (.inl (12, [none, some (some 85), some (some 86), some (some 87), some (some 88), some (some 89), none, none, some (some 90), none, none, none, none, none, none, some (some 91), none, some (some 92), some (some 93)]))) := by rw [g1]; exact a84
    have c85 : zat g.1 85 = some (.inl (0, 2475, [])) := by rw [g1]; exact a85
    have c89 : zat g.1 89 = some (.inl (0, 9324, [])) := by rw [g1]; exact a89
    have m2 := ri_8 g7 (by omega)
    have e := zlundo_loop (E := E) (d := d) (a := 84) (t := 85) (w := 89) (rho := g.2.1 84 7) (sh := g.1) (v := g.2.1) (rest := g.2.2) c84 rfl rfl c85 c89 rfl rfl (by decide) (o := 0) (q := 777 * r) (fun k hk => by rw [zof9 (by omega), Nat.zero_add]) (fun k hk => baddk m2 (by omega) (by omega)) (by omega) (by omega) (Or.inl (by decide)) 777 0 (m + 2) rfl
    rw [zcpg_0] at e
    refine ⟨1, _, (e0.trans (e.trans (un_e (n := m) (d := d)))), fun c h4 h5 k => (show zcpg g.2.1 85 89 0 (777 * r) 777 c k = g.2.1 c k from zcpg_a _ h5).trans (go c h4 k), fun k h0 h7 => (show zcpg g.2.1 85 89 0 (777 * r) 777 84 k = g.2.1 84 k from zcpg_a _ (by decide)).trans (g4 k h0 h7), fun k hk => ?_, fun a => ?_⟩
    · show zcpg g.2.1 85 89 0 (777 * r) 777 85 k = _
      rw [zcpg_t, if_neg (by omega)]
      exact go 85 (by decide) k
    · have row : ∀ k, plk k → zcpg g.2.1 85 89 0 (777 * r) 777 85 k = h.2.1 85 k := fun k hk => by
        have k7 := hk.1
        rw [zcpg_t, if_pos ⟨by omega, by omega⟩, go 89 (by decide), show 777 * r + (k - 0) = 777 * r + k by omega]
        exact a r (by rw [hr]; omega) k hk
      refine ⟨row, fun b hb k hk => ?_⟩
      have hb : (b : Int) < (zcpg g.2.1 85 89 0 (777 * r) 777 84 7).toInt := hb
      rw [zcpg_a _ (by decide), g7] at hb
      show zcpg g.2.1 85 89 0 (777 * r) 777 89 (777 * b + k) = zcpg g.2.1 85 89 0 (777 * r) 777 85 k
      rw [zcpg_a _ (show (89 : Nat) ≠ 85 by decide), row k hk, go 89 (by decide)]
      exact a b (by rw [hr]; omega) k hk
def imQ (h : zH) (o : Option zR) : Prop := ∃ h' : zH, o = some (.inl none, h') ∧ (∀ c, c ≠ 84 → c ≠ 86 → ∀ k, h'.2.1 c k = h.2.1 c k) ∧ (∀ k, k ≠ 0 → k ≠ 6 → h'.2.1 84 k = h.2.1 84 k) ∧ (∀ k, k < 1626 → h'.2.1 86 k = h.2.1 85 k) ∧ (h'.2.1 84 6).toInt = 1
set_option maxRecDepth 100000 in
theorem imageM (hI : bHI h) (hT : bTB ctb h.1) {u1 : Option Value} : ∀ d f, 1000000 ≤ f → imQ h (zex E f d 212 0 [some (.ref 84), u1] [] h) := by
  intro d f hf
  have a84 := hT 84 _ cs84 (by intro z; cases z)
  have a85 := hT 85 _ cs85 (by intro z; cases z)
  have a86 := hT 86 _ cs86 (by intro z; cases z)
  obtain ⟨m, hm⟩ : ∃ m, f = (m + 4 + 3 + 13 * 1626) + 5 := ⟨f - (4 + 3 + 13 * 1626 + 5), by omega⟩
  subst hm
  have e0 := im_0 (E := E) (n := m + 4 + 3 + 13 * 1626) (d := d) (u1 := u1) (h := h) a84
  obtain ⟨g, hg⟩ : ∃ g : zH, g = zsetI h 84 (upd (h.2.1 84) 0 0) := ⟨_, rfl⟩
  have go : ∀ c, c ≠ 84 → ∀ k, g.2.1 c k = h.2.1 c k := fun c hc k => by rw [hg, zs_ne hc]
  have g4 : ∀ k, k ≠ 0 → g.2.1 84 k = h.2.1 84 k := fun k k0 => by rw [hg, zs_at, upd_n k0]
  have g1 : g.1 = h.1 := by rw [hg]; rfl
  rw [← hg] at e0
  have c84 : zat g.1 84 = some (.inr (.inl (12, [none, some (some 85), some (some 86), some (some 87), some (some 88), some (some 89), none, none, some (some 90), none, none, none, none, none, none, some (some 91), none, some (some 92), some (some 93)]))) := by rw [g1]; exact a84
  have c85 : zat g.1 85 = some (.inl (0, 2475, [])) := by rw [g1]; exact a85
  have c86 : zat g.1 86 = some (.inl (0, 1626, [])) := by rw [g1]; exact a86
  have e := zlimage_loop (E := E) (d := d) (a := 84) (t := 86) (w := 85) (sh := g.1) (v := g.2.1) (rest := g.2.2) c84 rfl rfl c86 c85 (o := 0) (q := 0) (fun k hk => by rw [zof9 (by omega), Nat.zero_add]) (fun k hk => by rw [zof9 (by omega), Nat.zero_add]) (by omega) (by omega) (Or.inl (by decide)) 1626 0 (m + 4) rfl
  rw [zcpg_0] at e
  have e9 := im_e (E := E) (n := m) (d := d) (u1 := some (.int (Int32.ofNat 1626))) (h := (g.1, zcpg g.2.1 86 85 0 0 1626, g.2.2)) c84
  refine ⟨_, e0.trans (e.trans e9), fun c h4 h6 k => ?_, fun k h0 h6 => ?_, fun k hk => ?_, ?_⟩
  · rw [zs_ne h4]
    exact (show zcpg g.2.1 86 85 0 0 1626 c k = g.2.1 c k from zcpg_a _ h6).trans (go c h4 k)
  · rw [zs_at, upd_n h6]
    exact (show zcpg g.2.1 86 85 0 0 1626 84 k = g.2.1 84 k from zcpg_a _ (by decide)).trans (g4 k h0)
  · rw [zs_ne (by decide)]
    show zcpg g.2.1 86 85 0 0 1626 86 k = _
    rw [zcpg_t, if_pos ⟨by omega, by omega⟩, go 85 (by decide), show 0 + (k - 0) = k by omega]
  · rw [zs_at, upd_e]; rfl
def bkQ (h : zH) (o : Option zR) : Prop := ∃ (x : Int32) (h' : zH), o = some (.inl (some (.int x)), h') ∧ (∀ c, c ≠ 84 → c ≠ 85 → ∀ k, h'.2.1 c k = h.2.1 c k) ∧ (∀ k, k ≠ 0 → k ≠ 7 → h'.2.1 84 k = h.2.1 84 k) ∧ (if (h.2.1 84 6).toInt = 0 then h'.2.1 84 7 = h.2.1 84 7 ∧ ∀ k, h'.2.1 85 k = h.2.1 85 k else (h'.2.1 84 7).toInt = 0 ∧ ∀ k, k < 1626 → h'.2.1 85 k = h.2.1 86 k)
set_option maxRecDepth 100000 in
theorem backM (hI : bHI h) (hT : bTB ctb h.1) {u1 : Option Value} : ∀ d f, 1000000 ≤ f → bkQ h (zex E f d 213 0 [some (.ref 84), u1] [] h) := by
  intro d f hf
  have a84 := hT 84 _ cs84 (by intro z; cases z)
  have a85 := hT 85 _ cs85 (by intro z; cases z)
  have a86 := hT 86 _ cs86 (by intro z; cases z)
  by_cases hq : (h.2.1 84 6).toInt = 0
  · obtain ⟨m, hm⟩ : ∃ m, f = m + 8 := ⟨f - 8, by omega⟩
    subst hm
    refine ⟨0, _, bk_0 (n := m) (d := d) (by rw [zs_at, upd_n (by decide)]; exact hq) a84, fun c h4 h5 k => zs_ne h4, fun k h0 h7 => by rw [zs_at, upd_n h0], ?_⟩
    rw [if_pos hq]
    exact ⟨by rw [zs_at, upd_n (by decide)], fun k => zs_ne (by decide)⟩
  · obtain ⟨m, hm⟩ : ∃ m, f = (m + 5 + 3 + 13 * 1626) + 8 := ⟨f - (5 + 3 + 13 * 1626 + 8), by omega⟩
    subst hm
    have e0 := bk_1 (E := E) (n := m + 5 + 3 + 13 * 1626) (d := d) (u1 := u1) (by rw [zs_at, upd_n (by decide)]; exact hq) a84
    obtain ⟨g, hg⟩ : ∃ g : zH, g = zsetI h 84 (upd (h.2.1 84) 0 0) := ⟨_, rfl⟩
    have go : ∀ c, c ≠ 84 → ∀ k, g.2.1 c k = h.2.1 c k := fun c hc k => by rw [hg, zs_ne hc]
    have g4 : ∀ k, k ≠ 0 → g.2.1 84 k = h.2.1 84 k := fun k k0 => by rw [hg, zs_at, upd_n k0]
    have g1 : g.1 = h.1 := by rw [hg]; rfl
    rw [← hg] at e0
    have c84 : zat g.1 84 = some (.inr (.inl (12, [none, some (some 85), some (some 86), some (some 87), some (some 88), some (some 89), none, none, some (some 90), none, none, none, none, none, none, some (some 91), none, some (some 92), some (some 93)]))) := by rw [g1]; exact a84
    have c85 : zat g.1 85 = some (.inl (0, 2475, [])) := by rw [g1]; exact a85
    have c86 : zat g.1 86 = some (.inl (0, 1626, [])) := by rw [g1]; exact a86
    have e := zlback_loop (E := E) (d := d) (a := 84) (t := 85) (w := 86) (sh := g.1) (v := g.2.1) (rest := g.2.2) c84 rfl rfl c85 c86 (o := 0) (q := 0) (fun k hk => by rw [zof9 (by omega), Nat.zero_add]) (fun k hk => by rw [zof9 (by omega), Nat.zero_add]) (by omega) (by omega) (Or.inl (by decide)) 1626 0 (m + 5) rfl
    rw [zcpg_0] at e
    have e9 := bk_e (E := E) (n := m) (d := d) (u1 := some (.int (Int32.ofNat 1626))) (h := (g.1, zcpg g.2.1 85 86 0 0 1626, g.2.2)) c84
    refine ⟨1, _, e0.trans (e.trans e9), fun c h4 h5 k => ?_, fun k h0 h7 => ?_, ?_⟩
    · rw [zs_ne h4]
      exact (show zcpg g.2.1 85 86 0 0 1626 c k = g.2.1 c k from zcpg_a _ h5).trans (go c h4 k)
    · rw [zs_at, upd_n h7]
      exact (show zcpg g.2.1 85 86 0 0 1626 84 k = g.2.1 84 k from zcpg_a _ (by decide)).trans (g4 k h0)
    · rw [if_neg hq]
      refine ⟨by rw [zs_at, upd_e]; rfl, fun k hk => ?_⟩
      rw [zs_ne (by decide)]
      show zcpg g.2.1 85 86 0 0 1626 85 k = _
      rw [zcpg_t, if_pos ⟨by omega, by omega⟩, go 86 (by decide), show 0 + (k - 0) = k by omega]
end RE
