/-! the class's rows of pasts behind the six acts (wip/zab2/c/lgen45.py) -/
set_option maxRecDepth 100000 in
theorem zgt53_27 : zfetch 53 27 = some (.aload_n 0, 1, (0, 0, 0), 0, 0) := by decide +kernel
set_option maxRecDepth 100000 in
theorem zgt53_28 : zfetch 53 28 = some (.getfield 26, 3, (11, 2, 0), 0, 577) := by decide +kernel
set_option maxRecDepth 100000 in
theorem zgt53_31 : zfetch 53 31 = some (.getfield 148, 3, (0, 0, 1), 0, 372) := by decide +kernel
set_option maxRecDepth 100000 in
theorem zgt53_34 : zfetch 53 34 = some (.iload_n 1, 1, (0, 0, 0), 0, 0) := by decide +kernel
set_option maxRecDepth 100000 in
theorem zgt53_35 : zfetch 53 35 = some (.iaload, 1, (0, 0, 0), 0, 0) := by decide +kernel
set_option maxRecDepth 100000 in
theorem zgt53_36 : zfetch 53 36 = some (.istore_n 3, 1, (0, 0, 0), 0, 0) := by decide +kernel
set_option maxRecDepth 100000 in
theorem zgt53_37 : zfetch 53 37 = some (.aload_n 0, 1, (0, 0, 0), 0, 0) := by decide +kernel
set_option maxRecDepth 100000 in
theorem zgt53_38 : zfetch 53 38 = some (.getfield 26, 3, (11, 2, 0), 0, 577) := by decide +kernel
set_option maxRecDepth 100000 in
theorem zgt53_41 : zfetch 53 41 = some (.getfield 148, 3, (0, 0, 1), 0, 372) := by decide +kernel
set_option maxRecDepth 100000 in
theorem zgt53_44 : zfetch 53 44 = some (.iload_n 1, 1, (0, 0, 0), 0, 0) := by decide +kernel
set_option maxRecDepth 100000 in
theorem zgt53_45 : zfetch 53 45 = some (.iload_n 2, 1, (0, 0, 0), 0, 0) := by decide +kernel
set_option maxRecDepth 100000 in
theorem zgt53_46 : zfetch 53 46 = some (.iastore, 1, (0, 0, 0), 0, 0) := by decide +kernel
set_option maxRecDepth 100000 in
theorem zgt53_47 : zfetch 53 47 = some (.iload_n 3, 1, (0, 0, 0), 0, 0) := by decide +kernel
set_option maxRecDepth 100000 in
theorem zgt53_48 : zfetch 53 48 = some (.ireturn, 1, (0, 0, 0), 0, 0) := by decide +kernel
set_option maxRecDepth 100000 in
theorem zgt54_27 : zfetch 54 27 = some (.aload_n 0, 1, (0, 0, 0), 0, 0) := by decide +kernel
set_option maxRecDepth 100000 in
theorem zgt54_28 : zfetch 54 28 = some (.getfield 26, 3, (11, 2, 0), 0, 577) := by decide +kernel
set_option maxRecDepth 100000 in
theorem zgt54_31 : zfetch 54 31 = some (.getfield 186, 3, (0, 2, 1), 0, 381) := by decide +kernel
set_option maxRecDepth 100000 in
theorem zgt54_34 : zfetch 54 34 = some (.iload_n 1, 1, (0, 0, 0), 0, 0) := by decide +kernel
set_option maxRecDepth 100000 in
theorem zgt54_35 : zfetch 54 35 = some (.iaload, 1, (0, 0, 0), 0, 0) := by decide +kernel
set_option maxRecDepth 100000 in
theorem zgt54_36 : zfetch 54 36 = some (.istore_n 3, 1, (0, 0, 0), 0, 0) := by decide +kernel
set_option maxRecDepth 100000 in
theorem zgt54_37 : zfetch 54 37 = some (.aload_n 0, 1, (0, 0, 0), 0, 0) := by decide +kernel
set_option maxRecDepth 100000 in
theorem zgt54_38 : zfetch 54 38 = some (.getfield 26, 3, (11, 2, 0), 0, 577) := by decide +kernel
set_option maxRecDepth 100000 in
theorem zgt54_41 : zfetch 54 41 = some (.getfield 186, 3, (0, 2, 1), 0, 381) := by decide +kernel
set_option maxRecDepth 100000 in
theorem zgt54_44 : zfetch 54 44 = some (.iload_n 1, 1, (0, 0, 0), 0, 0) := by decide +kernel
set_option maxRecDepth 100000 in
theorem zgt54_45 : zfetch 54 45 = some (.iload_n 2, 1, (0, 0, 0), 0, 0) := by decide +kernel
set_option maxRecDepth 100000 in
theorem zgt54_46 : zfetch 54 46 = some (.iastore, 1, (0, 0, 0), 0, 0) := by decide +kernel
set_option maxRecDepth 100000 in
theorem zgt54_47 : zfetch 54 47 = some (.iload_n 3, 1, (0, 0, 0), 0, 0) := by decide +kernel
set_option maxRecDepth 100000 in
theorem zgt54_48 : zfetch 54 48 = some (.ireturn, 1, (0, 0, 0), 0, 0) := by decide +kernel
set_option maxRecDepth 100000 in
theorem zgt55_27 : zfetch 55 27 = some (.aload_n 0, 1, (0, 0, 0), 0, 0) := by decide +kernel
set_option maxRecDepth 100000 in
theorem zgt55_28 : zfetch 55 28 = some (.getfield 26, 3, (11, 2, 0), 0, 577) := by decide +kernel
set_option maxRecDepth 100000 in
theorem zgt55_31 : zfetch 55 31 = some (.getfield 189, 3, (0, 3, 1), 0, 385) := by decide +kernel
set_option maxRecDepth 100000 in
theorem zgt55_34 : zfetch 55 34 = some (.iload_n 1, 1, (0, 0, 0), 0, 0) := by decide +kernel
set_option maxRecDepth 100000 in
theorem zgt55_35 : zfetch 55 35 = some (.iaload, 1, (0, 0, 0), 0, 0) := by decide +kernel
set_option maxRecDepth 100000 in
theorem zgt55_36 : zfetch 55 36 = some (.istore_n 3, 1, (0, 0, 0), 0, 0) := by decide +kernel
set_option maxRecDepth 100000 in
theorem zgt55_37 : zfetch 55 37 = some (.aload_n 0, 1, (0, 0, 0), 0, 0) := by decide +kernel
set_option maxRecDepth 100000 in
theorem zgt55_38 : zfetch 55 38 = some (.getfield 26, 3, (11, 2, 0), 0, 577) := by decide +kernel
set_option maxRecDepth 100000 in
theorem zgt55_41 : zfetch 55 41 = some (.getfield 189, 3, (0, 3, 1), 0, 385) := by decide +kernel
set_option maxRecDepth 100000 in
theorem zgt55_44 : zfetch 55 44 = some (.iload_n 1, 1, (0, 0, 0), 0, 0) := by decide +kernel
set_option maxRecDepth 100000 in
theorem zgt55_45 : zfetch 55 45 = some (.iload_n 2, 1, (0, 0, 0), 0, 0) := by decide +kernel
set_option maxRecDepth 100000 in
theorem zgt55_46 : zfetch 55 46 = some (.iastore, 1, (0, 0, 0), 0, 0) := by decide +kernel
set_option maxRecDepth 100000 in
theorem zgt55_47 : zfetch 55 47 = some (.iload_n 3, 1, (0, 0, 0), 0, 0) := by decide +kernel
set_option maxRecDepth 100000 in
theorem zgt55_48 : zfetch 55 48 = some (.ireturn, 1, (0, 0, 0), 0, 0) := by decide +kernel
set_option maxRecDepth 100000 in
theorem qt_d {E : zE} {n d : Nat} {h : zH} {k x v : Int32} {u3 : Option Value} {K : Nat} (hk : k.toInt = (K : Int)) (hK : K < 12) (hv : h.2.1 19 K = v) (a0 : zat h.1 0 = some (.inr (.inl (11, [some (some 1), some (some 3), some (some 18), some (some 25), some (some 27), some (some 30), some (some 53), some (some 62), some (some 76), none])))) (a18 : zat h.1 18 = some (.inr (.inl (0, [some (some 19), some (some 20), some (some 21), some (some 22), some (some 23), some (some 24), none, none, none, none, none, none, none])))) (a19 : zat h.1 19 = some (.inl (0, 12, [])))  : zex E (n + 14) d 53 27 [some (.ref 0), some (.int k), some (.int x), u3] [] h = some (.inl (some (.int v)), (zsetI h 19 (upd (h.2.1 19) K x))) :=
  ((yAn zgt53_27 rfl rfl) : zex E (n + 14) d 53 27 [some (.ref 0), some (.int k), some (.int x), u3] [] h = zex E (n + 13) d 53 28 [some (.ref 0), some (.int k), some (.int x), u3] [.ref 0] h).trans (((zgx zgt53_28 a0 rfl) : zex E (n + 13) d 53 28 [some (.ref 0), some (.int k), some (.int x), u3] [.ref 0] h = zex E (n + 12) d 53 31 [some (.ref 0), some (.int k), some (.int x), u3] [.ref 18] h).trans (((zgx zgt53_31 a18 rfl) : zex E (n + 12) d 53 31 [some (.ref 0), some (.int k), some (.int x), u3] [.ref 18] h = zex E (n + 11) d 53 34 [some (.ref 0), some (.int k), some (.int x), u3] [.ref 19] h).trans (((yIn zgt53_34 rfl) : zex E (n + 11) d 53 34 [some (.ref 0), some (.int k), some (.int x), u3] [.ref 19] h = zex E (n + 10) d 53 35 [some (.ref 0), some (.int k), some (.int x), u3] [.int k, .ref 19] h).trans (((zlk zgt53_35 a19 hk hK hv) : zex E (n + 10) d 53 35 [some (.ref 0), some (.int k), some (.int x), u3] [.int k, .ref 19] h = zex E (n + 9) d 53 36 [some (.ref 0), some (.int k), some (.int x), u3] [.int v] h).trans (((ySn zgt53_36) : zex E (n + 9) d 53 36 [some (.ref 0), some (.int k), some (.int x), u3] [.int v] h = zex E (n + 8) d 53 37 [some (.ref 0), some (.int k), some (.int x), some (.int v)] [] h).trans (((yAn zgt53_37 rfl rfl) : zex E (n + 8) d 53 37 [some (.ref 0), some (.int k), some (.int x), some (.int v)] [] h = zex E (n + 7) d 53 38 [some (.ref 0), some (.int k), some (.int x), some (.int v)] [.ref 0] h).trans (((zgx zgt53_38 a0 rfl) : zex E (n + 7) d 53 38 [some (.ref 0), some (.int k), some (.int x), some (.int v)] [.ref 0] h = zex E (n + 6) d 53 41 [some (.ref 0), some (.int k), some (.int x), some (.int v)] [.ref 18] h).trans (((zgx zgt53_41 a18 rfl) : zex E (n + 6) d 53 41 [some (.ref 0), some (.int k), some (.int x), some (.int v)] [.ref 18] h = zex E (n + 5) d 53 44 [some (.ref 0), some (.int k), some (.int x), some (.int v)] [.ref 19] h).trans (((yIn zgt53_44 rfl) : zex E (n + 5) d 53 44 [some (.ref 0), some (.int k), some (.int x), some (.int v)] [.ref 19] h = zex E (n + 4) d 53 45 [some (.ref 0), some (.int k), some (.int x), some (.int v)] [.int k, .ref 19] h).trans (((yIn zgt53_45 rfl) : zex E (n + 4) d 53 45 [some (.ref 0), some (.int k), some (.int x), some (.int v)] [.int k, .ref 19] h = zex E (n + 3) d 53 46 [some (.ref 0), some (.int k), some (.int x), some (.int v)] [.int x, .int k, .ref 19] h).trans (((zsk zgt53_46 a19 hk hK) : zex E (n + 3) d 53 46 [some (.ref 0), some (.int k), some (.int x), some (.int v)] [.int x, .int k, .ref 19] h = zex E (n + 2) d 53 47 [some (.ref 0), some (.int k), some (.int x), some (.int v)] [] (zsetI h 19 (upd (h.2.1 19) K x))).trans (((yIn zgt53_47 rfl) : zex E (n + 2) d 53 47 [some (.ref 0), some (.int k), some (.int x), some (.int v)] [] (zsetI h 19 (upd (h.2.1 19) K x)) = zex E (n + 1) d 53 48 [some (.ref 0), some (.int k), some (.int x), some (.int v)] [.int v] (zsetI h 19 (upd (h.2.1 19) K x))).trans (((yRet1 zgt53_48 rfl) : zex E (n + 1) d 53 48 [some (.ref 0), some (.int k), some (.int x), some (.int v)] [.int v] (zsetI h 19 (upd (h.2.1 19) K x)) = some (.inl (some (.int v)), (zsetI h 19 (upd (h.2.1 19) K x)))))))))))))))))
set_option maxRecDepth 100000 in
theorem qt_e {E : zE} {n d : Nat} {h : zH} {k x v : Int32} {u3 : Option Value} {K : Nat} (hk : k.toInt = (K : Int)) (hK : K < 8) (hv : h.2.1 21 K = v) (a0 : zat h.1 0 = some (.inr (.inl (11, [some (some 1), some (some 3), some (some 18), some (some 25), some (some 27), some (some 30), some (some 53), some (some 62), some (some 76), none])))) (a18 : zat h.1 18 = some (.inr (.inl (0, [some (some 19), some (some 20), some (some 21), some (some 22), some (some 23), some (some 24), none, none, none, none, none, none, none])))) (a21 : zat h.1 21 = some (.inl (0, 8, [])))  : zex E (n + 14) d 54 27 [some (.ref 0), some (.int k), some (.int x), u3] [] h = some (.inl (some (.int v)), (zsetI h 21 (upd (h.2.1 21) K x))) :=
  ((yAn zgt54_27 rfl rfl) : zex E (n + 14) d 54 27 [some (.ref 0), some (.int k), some (.int x), u3] [] h = zex E (n + 13) d 54 28 [some (.ref 0), some (.int k), some (.int x), u3] [.ref 0] h).trans (((zgx zgt54_28 a0 rfl) : zex E (n + 13) d 54 28 [some (.ref 0), some (.int k), some (.int x), u3] [.ref 0] h = zex E (n + 12) d 54 31 [some (.ref 0), some (.int k), some (.int x), u3] [.ref 18] h).trans (((zgx zgt54_31 a18 rfl) : zex E (n + 12) d 54 31 [some (.ref 0), some (.int k), some (.int x), u3] [.ref 18] h = zex E (n + 11) d 54 34 [some (.ref 0), some (.int k), some (.int x), u3] [.ref 21] h).trans (((yIn zgt54_34 rfl) : zex E (n + 11) d 54 34 [some (.ref 0), some (.int k), some (.int x), u3] [.ref 21] h = zex E (n + 10) d 54 35 [some (.ref 0), some (.int k), some (.int x), u3] [.int k, .ref 21] h).trans (((zlk zgt54_35 a21 hk hK hv) : zex E (n + 10) d 54 35 [some (.ref 0), some (.int k), some (.int x), u3] [.int k, .ref 21] h = zex E (n + 9) d 54 36 [some (.ref 0), some (.int k), some (.int x), u3] [.int v] h).trans (((ySn zgt54_36) : zex E (n + 9) d 54 36 [some (.ref 0), some (.int k), some (.int x), u3] [.int v] h = zex E (n + 8) d 54 37 [some (.ref 0), some (.int k), some (.int x), some (.int v)] [] h).trans (((yAn zgt54_37 rfl rfl) : zex E (n + 8) d 54 37 [some (.ref 0), some (.int k), some (.int x), some (.int v)] [] h = zex E (n + 7) d 54 38 [some (.ref 0), some (.int k), some (.int x), some (.int v)] [.ref 0] h).trans (((zgx zgt54_38 a0 rfl) : zex E (n + 7) d 54 38 [some (.ref 0), some (.int k), some (.int x), some (.int v)] [.ref 0] h = zex E (n + 6) d 54 41 [some (.ref 0), some (.int k), some (.int x), some (.int v)] [.ref 18] h).trans (((zgx zgt54_41 a18 rfl) : zex E (n + 6) d 54 41 [some (.ref 0), some (.int k), some (.int x), some (.int v)] [.ref 18] h = zex E (n + 5) d 54 44 [some (.ref 0), some (.int k), some (.int x), some (.int v)] [.ref 21] h).trans (((yIn zgt54_44 rfl) : zex E (n + 5) d 54 44 [some (.ref 0), some (.int k), some (.int x), some (.int v)] [.ref 21] h = zex E (n + 4) d 54 45 [some (.ref 0), some (.int k), some (.int x), some (.int v)] [.int k, .ref 21] h).trans (((yIn zgt54_45 rfl) : zex E (n + 4) d 54 45 [some (.ref 0), some (.int k), some (.int x), some (.int v)] [.int k, .ref 21] h = zex E (n + 3) d 54 46 [some (.ref 0), some (.int k), some (.int x), some (.int v)] [.int x, .int k, .ref 21] h).trans (((zsk zgt54_46 a21 hk hK) : zex E (n + 3) d 54 46 [some (.ref 0), some (.int k), some (.int x), some (.int v)] [.int x, .int k, .ref 21] h = zex E (n + 2) d 54 47 [some (.ref 0), some (.int k), some (.int x), some (.int v)] [] (zsetI h 21 (upd (h.2.1 21) K x))).trans (((yIn zgt54_47 rfl) : zex E (n + 2) d 54 47 [some (.ref 0), some (.int k), some (.int x), some (.int v)] [] (zsetI h 21 (upd (h.2.1 21) K x)) = zex E (n + 1) d 54 48 [some (.ref 0), some (.int k), some (.int x), some (.int v)] [.int v] (zsetI h 21 (upd (h.2.1 21) K x))).trans (((yRet1 zgt54_48 rfl) : zex E (n + 1) d 54 48 [some (.ref 0), some (.int k), some (.int x), some (.int v)] [.int v] (zsetI h 21 (upd (h.2.1 21) K x)) = some (.inl (some (.int v)), (zsetI h 21 (upd (h.2.1 21) K x)))))))))))))))))
set_option maxRecDepth 100000 in
theorem qt_f {E : zE} {n d : Nat} {h : zH} {k x v : Int32} {u3 : Option Value} {K : Nat} (hk : k.toInt = (K : Int)) (hK : K < 8) (hv : h.2.1 22 K = v) (a0 : zat h.1 0 = some (.inr (.inl (11, [some (some 1), some (some 3), some (some 18), some (some 25), some (some 27), some (some 30), some (some 53), some (some 62), some (some 76), none])))) (a18 : zat h.1 18 = some (.inr (.inl (0, [some (some 19), some (some 20), some (some 21), some (some 22), some (some 23), some (some 24), none, none, none, none, none, none, none])))) (a22 : zat h.1 22 = some (.inl (0, 8, [])))  : zex E (n + 14) d 55 27 [some (.ref 0), some (.int k), some (.int x), u3] [] h = some (.inl (some (.int v)), (zsetI h 22 (upd (h.2.1 22) K x))) :=
  ((yAn zgt55_27 rfl rfl) : zex E (n + 14) d 55 27 [some (.ref 0), some (.int k), some (.int x), u3] [] h = zex E (n + 13) d 55 28 [some (.ref 0), some (.int k), some (.int x), u3] [.ref 0] h).trans (((zgx zgt55_28 a0 rfl) : zex E (n + 13) d 55 28 [some (.ref 0), some (.int k), some (.int x), u3] [.ref 0] h = zex E (n + 12) d 55 31 [some (.ref 0), some (.int k), some (.int x), u3] [.ref 18] h).trans (((zgx zgt55_31 a18 rfl) : zex E (n + 12) d 55 31 [some (.ref 0), some (.int k), some (.int x), u3] [.ref 18] h = zex E (n + 11) d 55 34 [some (.ref 0), some (.int k), some (.int x), u3] [.ref 22] h).trans (((yIn zgt55_34 rfl) : zex E (n + 11) d 55 34 [some (.ref 0), some (.int k), some (.int x), u3] [.ref 22] h = zex E (n + 10) d 55 35 [some (.ref 0), some (.int k), some (.int x), u3] [.int k, .ref 22] h).trans (((zlk zgt55_35 a22 hk hK hv) : zex E (n + 10) d 55 35 [some (.ref 0), some (.int k), some (.int x), u3] [.int k, .ref 22] h = zex E (n + 9) d 55 36 [some (.ref 0), some (.int k), some (.int x), u3] [.int v] h).trans (((ySn zgt55_36) : zex E (n + 9) d 55 36 [some (.ref 0), some (.int k), some (.int x), u3] [.int v] h = zex E (n + 8) d 55 37 [some (.ref 0), some (.int k), some (.int x), some (.int v)] [] h).trans (((yAn zgt55_37 rfl rfl) : zex E (n + 8) d 55 37 [some (.ref 0), some (.int k), some (.int x), some (.int v)] [] h = zex E (n + 7) d 55 38 [some (.ref 0), some (.int k), some (.int x), some (.int v)] [.ref 0] h).trans (((zgx zgt55_38 a0 rfl) : zex E (n + 7) d 55 38 [some (.ref 0), some (.int k), some (.int x), some (.int v)] [.ref 0] h = zex E (n + 6) d 55 41 [some (.ref 0), some (.int k), some (.int x), some (.int v)] [.ref 18] h).trans (((zgx zgt55_41 a18 rfl) : zex E (n + 6) d 55 41 [some (.ref 0), some (.int k), some (.int x), some (.int v)] [.ref 18] h = zex E (n + 5) d 55 44 [some (.ref 0), some (.int k), some (.int x), some (.int v)] [.ref 22] h).trans (((yIn zgt55_44 rfl) : zex E (n + 5) d 55 44 [some (.ref 0), some (.int k), some (.int x), some (.int v)] [.ref 22] h = zex E (n + 4) d 55 45 [some (.ref 0), some (.int k), some (.int x), some (.int v)] [.int k, .ref 22] h).trans (((yIn zgt55_45 rfl) : zex E (n + 4) d 55 45 [some (.ref 0), some (.int k), some (.int x), some (.int v)] [.int k, .ref 22] h = zex E (n + 3) d 55 46 [some (.ref 0), some (.int k), some (.int x), some (.int v)] [.int x, .int k, .ref 22] h).trans (((zsk zgt55_46 a22 hk hK) : zex E (n + 3) d 55 46 [some (.ref 0), some (.int k), some (.int x), some (.int v)] [.int x, .int k, .ref 22] h = zex E (n + 2) d 55 47 [some (.ref 0), some (.int k), some (.int x), some (.int v)] [] (zsetI h 22 (upd (h.2.1 22) K x))).trans (((yIn zgt55_47 rfl) : zex E (n + 2) d 55 47 [some (.ref 0), some (.int k), some (.int x), some (.int v)] [] (zsetI h 22 (upd (h.2.1 22) K x)) = zex E (n + 1) d 55 48 [some (.ref 0), some (.int k), some (.int x), some (.int v)] [.int v] (zsetI h 22 (upd (h.2.1 22) K x))).trans (((yRet1 zgt55_48 rfl) : zex E (n + 1) d 55 48 [some (.ref 0), some (.int k), some (.int x), some (.int v)] [.int v] (zsetI h 22 (upd (h.2.1 22) K x)) = some (.inl (some (.int v)), (zsetI h 22 (upd (h.2.1 22) K x)))))))))))))))))
def lPa : List (Nat × Nat) := (List.range 108).map fun i => (95 + i, 0)
set_option maxRecDepth 100000 in
theorem lPa_m {a : Nat} (h1 : 95 ≤ a) (h2 : a < 203) : (a, 0) ∈ lPa := List.mem_map.mpr ⟨a - 95, List.mem_range.mpr (by omega), by rw [show 95 + (a - 95) = a by omega]⟩
noncomputable def bunB (a : Nat) : Bool := match bg2 unt a with
  | some (0, _) => true
  | _ => false
set_option maxRecDepth 100000 in
theorem bunB_t : ∀ a : Nat, a < 203 → 95 ≤ a → bunB a = true := by decide +kernel
set_option maxRecDepth 100000 in
theorem bun_p {a : Nat} (h1 : 95 ≤ a) (h2 : a < 203) (k : Nat) : bun a k = bun a 0 := by
  have e := bunB_t a h2 h1
  unfold bunB at e
  unfold bun
  split at e
  · rename_i hz; rw [hz]
  · cases e
/-- the pasts' rows stay -/
def RS9 (h h' : zH) : Prop := (∀ a, 95 ≤ a → a < 203 → ∀ k, h'.2.1 a k = h.2.1 a k) ∧ h'.2.1 27 3 = h.2.1 27 3
set_option maxRecDepth 100000 in
theorem RS9_t {a b c : zH} (x : RS9 a b) (y : RS9 b c) : RS9 a c := ⟨fun i h1 h2 k => (y.1 i h1 h2 k).trans (x.1 i h1 h2 k), y.2.trans x.2⟩
set_option maxRecDepth 100000 in
theorem RS9_w {W : Nat} {h h' : zH} (hW : wF W lPa = true) (e : h'.2.1 27 3 = h.2.1 27 3) (f : Fr W h h') : RS9 h h' := ⟨fun a h1 h2 k => f a k (by rw [bun_p h1 h2]; exact wF_m hW a 0 (lPa_m h1 h2)), e⟩
/-- the class's rows behind an act: h ahead, h' behind, n the place -/
def RXq9 (h h' : zH) (n : Nat) : Prop := (h'.2.1 27 3).toInt = (if n = 11 then 0 else (n : Int) + 1) ∧ (∀ c k, gqP c k → h'.2.1 (95 + 9 * n + c) k = h.2.1 (18 + c) k) ∧ ∀ r, r < 12 → r ≠ n → ∀ c, c < 5 → ∀ k, h'.2.1 (95 + 9 * r + c) k = h.2.1 (95 + 9 * r + c) k
set_option maxRecDepth 100000 in
theorem RXq9_m {h h1 h2 : zH} {n : Nat} (k1 : (h1.2.1 27 3).toInt = (if n = 11 then 0 else (n : Int) + 1)) (k2 : ∀ c k, gqP c k → h1.2.1 (95 + 9 * n + c) k = h.2.1 (18 + c) k) (k3 : ∀ c, c ≠ 27 → (c < 95 + 9 * n ∨ 104 + 9 * n ≤ c) → h1.2.1 c = h.2.1 c) (rs : RS9 h1 h2) (hn : n < 12 := by omega) : RXq9 h h2 n := by
  refine ⟨by rw [rs.2]; exact k1, fun c k q => ?_, fun r hr hrn c hc k => ?_⟩
  · have c6 : c ≤ 6 := by rcases q with z | z | z | z | z | z | z <;> omega
    rw [rs.1 _ (by omega) (by omega)]
    exact k2 c k q
  · rw [rs.1 _ (by omega) (by omega), k3 _ (by omega) (by omega)]
def cyQ (c : Prop) (h : zH) (o : Option zR) : Prop := ∃ (x : Int32) (h1 : zH), o = some (.inl (some (.int x)), h1) ∧ (c → ∃ n : Nat, (h.2.1 27 3).toInt = (n : Int) ∧ n < 12 ∧ RXq9 h h1 n) ∧ (¬ c → ∀ cc, h1.2.1 cc = h.2.1 cc)
/-- a number is told: what it was -/
def ctQ (c : Prop) (ec : Int32) (cell K : Nat) (v : Int32) (h : zH) (o : Option zR) : Prop := ∃ (x : Int32) (h1 : zH), o = some (.inl (some (.int x)), h1) ∧ (c → x = 0 ∧ (h1.2.2.1 94 0).toInt = (h.2.1 cell K).toInt ∧ ∀ k, h1.2.1 cell k = upd (h.2.1 cell) K v k) ∧ (¬ c → x = ec ∧ ∀ cc, h1.2.1 cc = h.2.1 cc)
def wCq2 : Nat := 4149515568880992957389436454862804780047011088588181804205628976305794434892965748924660836705779332756096292826356083380468095417129109670724297822375912217205527356442425755172863
set_option maxRecDepth 100000 in
theorem wCq2_3 : Nat.testBit wCq2 (bun 27 3) = false := by decide +kernel
set_option maxRecDepth 100000 in
theorem wCq2_p : wF wCq2 lPa = true := by decide +kernel
def clT2 (h : zH) (o : Option zR) : Prop := ∃ (x : Int32) (h' : zH), o = some (.inl (some (.int x)), h') ∧ bRQ ctb wCq2 h 0 0 h'
set_option maxRecDepth 100000 in
theorem c2_Sw : btz wCq2 (60, smT) ctb (bfn 0 0 1 (bidl 1 0) [([iFull], [], some (.inl (0, [(1, 1)])), [])]) 70 51 1000000 1 [] (1, [(0, 11)], [], [], (0, []), (0, [])) 20 [q00, some (.inl (0, [(0, 1)]))] = true := by decide +kernel
set_option maxRecDepth 100000 in
theorem c2_Be : btz wCq2 (60, smT) ctb (bfn 0 0 1 (bidl 1 0) [([iFull], [], some (.inl (0, [(1, 1)])), [])]) 70 52 1000000 1 [] (1, [(0, 7)], [], [], (0, []), (0, [])) 20 [q00, some (.inl (0, [(0, 1)]))] = true := by decide +kernel
set_option maxRecDepth 100000 in
theorem c2_To : btz wCq2 (60, smT) ctb (bfn 0 0 2 (bidl 2 0) [([iFull], [], some (.inl (0, [(2, 1)])), [])]) 70 53 1000000 2 [] (2, [(0, 11), (0, 100)], [], [], (0, []), (0, [])) 27 [q00, some (.inl (0, [(0, 1)])), some (.inl (0, [(1, 1)])), none] = true := by decide +kernel
set_option maxRecDepth 100000 in
theorem c2_Ke : btz wCq2 (60, smT) ctb (bfn 0 0 2 (bidl 2 0) [([iFull], [], some (.inl (0, [(2, 1)])), [])]) 70 54 1000000 2 [] (2, [(0, 7), (0, 100)], [], [], (0, []), (0, [])) 27 [q00, some (.inl (0, [(0, 1)])), some (.inl (0, [(1, 1)])), none] = true := by decide +kernel
set_option maxRecDepth 100000 in
theorem c2_So : btz wCq2 (60, smT) ctb (bfn 0 0 2 (bidl 2 0) [([iFull], [], some (.inl (0, [(2, 1)])), [])]) 70 55 1000000 2 [] (2, [(0, 7), (0, 99)], [], [], (0, []), (0, [])) 27 [q00, some (.inl (0, [(0, 1)])), some (.inl (0, [(1, 1)])), none] = true := by decide +kernel
section CB
variable {E : zE} {B : Nat} {h : zH} {σ : hSt}
set_option maxRecDepth 100000 in
theorem cbRoL (hsm : bSO E ctb B (60, smT)) {k9 : Int32} (hk : k9.toInt ≤ 100) : ∀ (m j : Nat) (s9 j9 : Int32) (h : zH), m + j = 100 → j9.toInt = (j : Int) → bHI h → bPS h → bTB ctb h.1 → paQ h → ∀ d f, 70 ≤ d → B + 1000 * (m + 1) ≤ f → ∃ (x : Int32) (h2 : zH), zex E f d 50 26 [some (.ref 0), some (.int k9), some (.int s9), some (.int j9)] [] h = some (.inl (some (.int x)), h2) ∧ (h2.2.1 27 2).toInt = (h.2.1 27 2).toInt ∧ paQ h2 ∧ bTB ctb h2.1 ∧ RS9 h h2 := by
  intro m
  induction m with
  | zero =>
    intro j s9 j9 h hm hj gI gP gT hA d f hd hf
    obtain ⟨n, hn9⟩ : ∃ n, f = n + 5 := ⟨f - 5, by omega⟩
    subst hn9
    exact ⟨s9, h, qa_e (n := n) (d := d) (by omega), rfl, hA, gT, fun _ _ _ _ => rfl, rfl⟩
  | succ m IH =>
    intro j s9 j9 h hm hj gI gP gT hA d f hd hf
    have hmul : 1000 * (m + 1 + 1) = 1000 * (m + 1) + 1000 := Nat.mul_succ _ _
    by_cases hjk : j9.toInt < k9.toInt
    · obtain ⟨d', hd'⟩ : ∃ d', d = d' + 1 := ⟨d - 1, by omega⟩
      obtain ⟨n, hn9⟩ : ∃ n, f = n + 15 := ⟨f - 15, by omega⟩
      subst hd' hn9
      obtain ⟨v, h1, c1, c2, ⟨c3, c4⟩, c5, c6, c7, q1, m1, b1⟩ := hsm 117 [sc69, sc70] rfl sc70 (List.Mem.tail _ (List.Mem.head _)) (by decide) [] [.ref 3, .ref 18, .ref 25] h d' (n + 4) (3, 5, 0, 2, 1, 0) rfl (by show 3 ≤ d'; omega) (by omega) ⟨rfl, rfl, rfl, trivial⟩ benv_n bcs_n (fun e he => absurd he List.not_mem_nil) gI gP gT
      have c1 : zex E (n + 4) d' 117 0 [some (.ref 3), some (.ref 18), some (.ref 25), none, none] [] h = some (.inl v, h1) := c1
      obtain ⟨y, hy⟩ := bPR_i m1 (by decide) b1
      rw [hy] at c1
      have x2 : h1.2.1 27 2 = h.2.1 27 2 := c5 27 2 (by decide +kernel)
      have aA := paQ_f c1 c3 x2 (c5 27 3 (by decide +kernel)) hA
      obtain ⟨x, h2, e2, s2, a2, a3, a4⟩ := IH (j + 1) (s9 + y) (j9 + 1) h1 (by omega) (by rw [i32_add (by rw [hj, int1]; omega) (by rw [hj, int1]; omega), hj, int1]; omega) c2 c3 c4 aA (d' + 1) n (by omega) (by omega)
      exact ⟨x, h2, (qa_l (n := n) (d := d') (h := h) (h1 := h1) hjk (gT 0 _ (show bg2 ctb 0 = some (.inr (.inl (11, [some (some 1), some (some 3), some (some 18), some (some 25), some (some 27), some (some 30), some (some 53), some (some 62), some (some 76), none]))) from rfl) (by intro z; cases z)) (gT 3 _ (show bg2 ctb 3 = some (.inr (.inl (2, [some (some 4), some (some 10), some (some 17)]))) from rfl) (by intro z; cases z)) c1).trans e2, by rw [s2, x2], a2, a3, RS9_t (RS9_w (by decide +kernel : wF sc70.2.1 lPa = true) (c5 27 3 (by decide +kernel)) c5) a4⟩
    · obtain ⟨n, hn9⟩ : ∃ n, f = n + 5 := ⟨f - 5, by omega⟩
      subst hn9
      exact ⟨s9, h, qa_e (n := n) (d := d) (by omega), rfl, hA, gT, fun _ _ _ _ => rfl, rfl⟩
set_option maxRecDepth 100000 in
theorem cbRo (hE : E.1 < 2147483648) (hsm : bSO E ctb B (60, smT)) (gI : bHI h) (gP : bPS h) (gT : bTB ctb h.1) (hA : paQ h) (hR : RC h 4 18 σ) (hW : WF σ) {k9 : Int32} : ∀ d f, 90 ≤ d → B + 5000000 ≤ f → cyQ (1 ≤ k9.toInt ∧ k9.toInt ≤ 100) h (zex E f d 9 0 [some (.ref 0), some (.int k9), some (.ref 94), none] [] h) := by
  intro d f hd hf
  obtain ⟨n, hn⟩ : ∃ n, f = n + 10000 := ⟨f - 10000, by omega⟩
  obtain ⟨d, hd'⟩ : ∃ d', d = d' + 4 := ⟨d - 4, by omega⟩
  subst hn hd'
  have r1 := hR.1.1
  have r3 := hR.1.2.2
  have w1 := hW.1
  have w3 := hW.2.2.1
  unfold cyQ
  by_cases hp : 1 ≤ k9.toInt ∧ k9.toInt ≤ 100
  · skip
    obtain ⟨h1, e1, r1q, s1, a1⟩ := remR (E := E) hE hsm gI gP gT hA (d + 2) (n + 9984) (by omega) (by omega)
    obtain ⟨n9, hn9, hn12, kx⟩ := rememX (E := E) gI gP hA
    obtain ⟨hx9, ex9, kx1, kx2, kx3⟩ := kx (d + 2) (n + 9984) (by omega) (by omega)
    obtain ⟨-, yx9⟩ := inl_j e1 ex9
    rw [← yx9] at kx1 kx2 kx3
    have e2 := qa_0 (E := E) (n := n + 9984) (d := d + 2) (h := h) (h1 := h1) (u2 := none) (u3 := none) (gT 0 _ (show bg2 ctb 0 = some (.inr (.inl (11, [some (some 1), some (some 3), some (some 18), some (some 25), some (some 27), some (some 30), some (some 53), some (some 62), some (some 76), none]))) from rfl) (by intro z; cases z)) (gT 27 _ (show bg2 ctb 27 = some (.inr (.inl (7, [some (some 28), some (some 29), none, none]))) from rfl) (by intro z; cases z)) (ny_0 (E := E) (n := n + 9984) (d := d + 2) (x := k9) (a := 1) (b := 100) (by rw [show (1 : Int32).toInt = 1 from by decide]; omega) (by rw [show (100 : Int32).toInt = 100 from by decide]; omega)) e1
    obtain ⟨x, h2, e3, t1, t2, g3T, rs⟩ := cbRoL (E := E) hsm (k9 := k9) (by omega) 100 0 0 0 h1 rfl rfl r1q.1 r1q.2.1 r1q.2.2.1 a1 (d + 3) (n + 9980) (by omega) (by omega)
    have e3 := (qa_h (E := E) (n := n + 9980) (d := d + 3) (u2 := none) (u3 := none)).trans e3
    have g2T := g3T
    have e4 := qa_w (E := E) (n := n + 9990) (d := d + 3) (u9 := none) (h := h) (h1 := h2) (gT 0 _ (show bg2 ctb 0 = some (.inr (.inl (11, [some (some 1), some (some 3), some (some 18), some (some 25), some (some 27), some (some 30), some (some 53), some (some 62), some (some 76), none]))) from rfl) (by intro z; cases z)) (g2T 94 _ (show bg2 ctb 94 = some (.inl (2, 1, [])) from rfl) (by intro z; cases z)) (e2.trans e3)
    exact ⟨0, _, e4, fun _ => ⟨n9, hn9, hn12, RXq9_m kx1 kx2 kx3 (h2 := zsetJ h2 94 (vp_updL (h2.2.2.1 94) 0 x.toInt64)) rs⟩, fun z => absurd hp z⟩
  · skip
    by_cases hl : k9.toInt < 1
    · exact ⟨_, _, qa_y (E := E) (n := n + 9992) (d := d + 3) (u9 := none) (h := h) (gT 0 _ (show bg2 ctb 0 = some (.inr (.inl (11, [some (some 1), some (some 3), some (some 18), some (some 25), some (some 27), some (some 30), some (some 53), some (some 62), some (some 76), none]))) from rfl) (by intro z; cases z)) (qa_t (E := E) (n := n + 9991) (d := d + 2) (u2 := none) (u3 := none)   (ny_1 (E := E) (n := n + 9987) (d := d + 2) (x := k9) (a := 1) (b := 100) (by rw [show (1 : Int32).toInt = 1 from by decide]; omega))), fun z => absurd z hp, fun _ _ => rfl⟩
    · exact ⟨_, _, qa_y (E := E) (n := n + 9992) (d := d + 3) (u9 := none) (h := h) (gT 0 _ (show bg2 ctb 0 = some (.inr (.inl (11, [some (some 1), some (some 3), some (some 18), some (some 25), some (some 27), some (some 30), some (some 53), some (some 62), some (some 76), none]))) from rfl) (by intro z; cases z)) (qa_t (E := E) (n := n + 9991) (d := d + 2) (u2 := none) (u3 := none)   (ny_2 (E := E) (n := n + 9984) (d := d + 2) (x := k9) (a := 1) (b := 100) (by rw [show (1 : Int32).toInt = 1 from by decide]; omega) (by rw [show (100 : Int32).toInt = 100 from by decide]; omega))), fun z => absurd z hp, fun _ _ => rfl⟩
set_option maxRecDepth 100000 in
theorem cbSw (hE : E.1 < 2147483648) (hsm : bSO E ctb B (60, smT)) (gI : bHI h) (gP : bPS h) (gT : bTB ctb h.1) (hA : paQ h) (hR : RC h 4 18 σ) (hW : WF σ) {k9 : Int32} : ∀ d f, 90 ≤ d → B + 5000000 ≤ f → cyQ (0 ≤ k9.toInt ∧ k9.toInt < (sR σ : Int)) h (zex E f d 10 0 [some (.ref 0), some (.int k9), some (.ref 94), none] [] h) := by
  intro d f hd hf
  obtain ⟨n, hn⟩ : ∃ n, f = n + 10000 := ⟨f - 10000, by omega⟩
  obtain ⟨d, hd'⟩ : ∃ d', d = d' + 4 := ⟨d - 4, by omega⟩
  subst hn hd'
  have r1 := hR.1.1
  have r3 := hR.1.2.2
  have w1 := hW.1
  have w3 := hW.2.2.1
  unfold cyQ
  by_cases hp : 0 ≤ k9.toInt ∧ k9.toInt < (sR σ : Int)
  · skip
    obtain ⟨h1, e1, r1q, s1, a1⟩ := remR (E := E) hE hsm gI gP gT hA (d + 2) (n + 9985) (by omega) (by omega)
    obtain ⟨n9, hn9, hn12, kx⟩ := rememX (E := E) gI gP hA
    obtain ⟨hx9, ex9, kx1, kx2, kx3⟩ := kx (d + 2) (n + 9985) (by omega) (by omega)
    obtain ⟨-, yx9⟩ := inl_j e1 ex9
    rw [← yx9] at kx1 kx2 kx3
    have e2 := qb_0 (E := E) (n := n + 9985) (d := d + 2) (h := h) (h1 := h1)  (gT 0 _ (show bg2 ctb 0 = some (.inr (.inl (11, [some (some 1), some (some 3), some (some 18), some (some 25), some (some 27), some (some 30), some (some 53), some (some 62), some (some 76), none]))) from rfl) (by intro z; cases z)) (gT 27 _ (show bg2 ctb 27 = some (.inr (.inl (7, [some (some 28), some (some 29), none, none]))) from rfl) (by intro z; cases z)) (nr_0 (E := E) (n := n + 9983) (d := d + 2) (p := k9) (by omega) (by rw [r1]; omega) (gT 0 _ (show bg2 ctb 0 = some (.inr (.inl (11, [some (some 1), some (some 3), some (some 18), some (some 25), some (some 27), some (some 30), some (some 53), some (some 62), some (some 76), none]))) from rfl) (by intro z; cases z)) (gT 3 _ (show bg2 ctb 3 = some (.inr (.inl (2, [some (some 4), some (some 10), some (some 17)]))) from rfl) (by intro z; cases z)) (gT 4 _ (show bg2 ctb 4 = some (.inr (.inl (8, [none, none, none, none, some (some 5), some (some 6), some (some 7), some (some 8), some (some 9)]))) from rfl) (by intro z; cases z))) e1
    have l9 : bLR [k9.toInt] [q00, some (.inl (0, [(0, 1)]))] [some (.ref 0), some (.int k9)] := ⟨⟨_, rfl, rfl⟩, ⟨_, rfl, k9, rfl, brel_v rfl⟩, trivial⟩
    obtain ⟨x, h2, e3, r2⟩ := seg (V := [k9.toInt]) (ca := 0) (sa := 0) (nv := 1) (Q := clT2 h1) hE hsm (fin_i (V := [k9.toInt]) (ca := 0) (sa := 0) rfl (fun x h' k1 => ⟨x, h', rfl, k1⟩)) ⟨r1q.1, r1q.2.1, r1q.2.2.1, fun _ _ _ => rfl, Nat.le_refl _, Nat.le_refl _⟩ (benv_c (by omega) (by omega) benv_n) rfl bcs_n bov_n l9 c2_Sw (B' := B) (Nat.le_refl _) (fun N hN => absurd hN List.not_mem_nil) (fun N hN => absurd hN List.not_mem_nil) (d + 3) (n + 9985) (by omega) (by omega)
    have rs : RS9 h1 h2 := RS9_w wCq2_p (r2.2.2.2.1 27 3 wCq2_3) r2.2.2.2.1
    have g2T := r2.2.2.1
    have e4 := qb_w (E := E) (n := n + 9990) (d := d + 3) (u9 := none) (h := h) (h1 := h2) (gT 0 _ (show bg2 ctb 0 = some (.inr (.inl (11, [some (some 1), some (some 3), some (some 18), some (some 25), some (some 27), some (some 30), some (some 53), some (some 62), some (some 76), none]))) from rfl) (by intro z; cases z)) (g2T 94 _ (show bg2 ctb 94 = some (.inl (2, 1, [])) from rfl) (by intro z; cases z)) (e2.trans e3)
    exact ⟨0, _, e4, fun _ => ⟨n9, hn9, hn12, RXq9_m kx1 kx2 kx3 (h2 := zsetJ h2 94 (vp_updL (h2.2.2.1 94) 0 x.toInt64)) rs⟩, fun z => absurd hp z⟩
  · skip
    by_cases hl : k9.toInt < 0
    · exact ⟨_, _, qb_x (E := E) (n := n + 9992) (d := d + 3) (u9 := none) (h := h) (gT 0 _ (show bg2 ctb 0 = some (.inr (.inl (11, [some (some 1), some (some 3), some (some 18), some (some 25), some (some 27), some (some 30), some (some 53), some (some 62), some (some 76), none]))) from rfl) (by intro z; cases z)) (qb_t (E := E) (n := n + 9992) (d := d + 2)  (gT 0 _ (show bg2 ctb 0 = some (.inr (.inl (11, [some (some 1), some (some 3), some (some 18), some (some 25), some (some 27), some (some 30), some (some 53), some (some 62), some (some 76), none]))) from rfl) (by intro z; cases z))  (nr_1 (E := E) (n := n + 9989) (d := d + 2) (p := k9) (by omega) )), fun z => absurd z hp, fun _ _ => rfl⟩
    · exact ⟨_, _, qb_x (E := E) (n := n + 9992) (d := d + 3) (u9 := none) (h := h) (gT 0 _ (show bg2 ctb 0 = some (.inr (.inl (11, [some (some 1), some (some 3), some (some 18), some (some 25), some (some 27), some (some 30), some (some 53), some (some 62), some (some 76), none]))) from rfl) (by intro z; cases z)) (qb_t (E := E) (n := n + 9992) (d := d + 2)  (gT 0 _ (show bg2 ctb 0 = some (.inr (.inl (11, [some (some 1), some (some 3), some (some 18), some (some 25), some (some 27), some (some 30), some (some 53), some (some 62), some (some 76), none]))) from rfl) (by intro z; cases z))  (nr_2 (E := E) (n := n + 9983) (d := d + 2) (p := k9) (by omega) (by rw [r1]; omega) (gT 0 _ (show bg2 ctb 0 = some (.inr (.inl (11, [some (some 1), some (some 3), some (some 18), some (some 25), some (some 27), some (some 30), some (some 53), some (some 62), some (some 76), none]))) from rfl) (by intro z; cases z)) (gT 3 _ (show bg2 ctb 3 = some (.inr (.inl (2, [some (some 4), some (some 10), some (some 17)]))) from rfl) (by intro z; cases z)) (gT 4 _ (show bg2 ctb 4 = some (.inr (.inl (8, [none, none, none, none, some (some 5), some (some 6), some (some 7), some (some 8), some (some 9)]))) from rfl) (by intro z; cases z)))), fun z => absurd z hp, fun _ _ => rfl⟩
set_option maxRecDepth 100000 in
theorem cbBe (hE : E.1 < 2147483648) (hsm : bSO E ctb B (60, smT)) (gI : bHI h) (gP : bPS h) (gT : bTB ctb h.1) (hA : paQ h) (hR : RC h 4 18 σ) (hW : WF σ) {k9 : Int32} : ∀ d f, 90 ≤ d → B + 5000000 ≤ f → cyQ (0 ≤ k9.toInt ∧ k9.toInt < (sP σ : Int)) h (zex E f d 11 0 [some (.ref 0), some (.int k9), some (.ref 94), none] [] h) := by
  intro d f hd hf
  obtain ⟨n, hn⟩ : ∃ n, f = n + 10000 := ⟨f - 10000, by omega⟩
  obtain ⟨d, hd'⟩ : ∃ d', d = d' + 4 := ⟨d - 4, by omega⟩
  subst hn hd'
  have r1 := hR.1.1
  have r3 := hR.1.2.2
  have w1 := hW.1
  have w3 := hW.2.2.1
  unfold cyQ
  by_cases hp : 0 ≤ k9.toInt ∧ k9.toInt < (sP σ : Int)
  · skip
    obtain ⟨h1, e1, r1q, s1, a1⟩ := remR (E := E) hE hsm gI gP gT hA (d + 2) (n + 9985) (by omega) (by omega)
    obtain ⟨n9, hn9, hn12, kx⟩ := rememX (E := E) gI gP hA
    obtain ⟨hx9, ex9, kx1, kx2, kx3⟩ := kx (d + 2) (n + 9985) (by omega) (by omega)
    obtain ⟨-, yx9⟩ := inl_j e1 ex9
    rw [← yx9] at kx1 kx2 kx3
    have e2 := qc_0 (E := E) (n := n + 9985) (d := d + 2) (h := h) (h1 := h1)  (gT 0 _ (show bg2 ctb 0 = some (.inr (.inl (11, [some (some 1), some (some 3), some (some 18), some (some 25), some (some 27), some (some 30), some (some 53), some (some 62), some (some 76), none]))) from rfl) (by intro z; cases z)) (gT 27 _ (show bg2 ctb 27 = some (.inr (.inl (7, [some (some 28), some (some 29), none, none]))) from rfl) (by intro z; cases z)) (np_0 (E := E) (n := n + 9983) (d := d + 2) (p := k9) (by omega) (by rw [r3]; omega) (gT 0 _ (show bg2 ctb 0 = some (.inr (.inl (11, [some (some 1), some (some 3), some (some 18), some (some 25), some (some 27), some (some 30), some (some 53), some (some 62), some (some 76), none]))) from rfl) (by intro z; cases z)) (gT 3 _ (show bg2 ctb 3 = some (.inr (.inl (2, [some (some 4), some (some 10), some (some 17)]))) from rfl) (by intro z; cases z)) (gT 4 _ (show bg2 ctb 4 = some (.inr (.inl (8, [none, none, none, none, some (some 5), some (some 6), some (some 7), some (some 8), some (some 9)]))) from rfl) (by intro z; cases z))) e1
    have l9 : bLR [k9.toInt] [q00, some (.inl (0, [(0, 1)]))] [some (.ref 0), some (.int k9)] := ⟨⟨_, rfl, rfl⟩, ⟨_, rfl, k9, rfl, brel_v rfl⟩, trivial⟩
    obtain ⟨x, h2, e3, r2⟩ := seg (V := [k9.toInt]) (ca := 0) (sa := 0) (nv := 1) (Q := clT2 h1) hE hsm (fin_i (V := [k9.toInt]) (ca := 0) (sa := 0) rfl (fun x h' k1 => ⟨x, h', rfl, k1⟩)) ⟨r1q.1, r1q.2.1, r1q.2.2.1, fun _ _ _ => rfl, Nat.le_refl _, Nat.le_refl _⟩ (benv_c (by omega) (by omega) benv_n) rfl bcs_n bov_n l9 c2_Be (B' := B) (Nat.le_refl _) (fun N hN => absurd hN List.not_mem_nil) (fun N hN => absurd hN List.not_mem_nil) (d + 3) (n + 9985) (by omega) (by omega)
    have rs : RS9 h1 h2 := RS9_w wCq2_p (r2.2.2.2.1 27 3 wCq2_3) r2.2.2.2.1
    have g2T := r2.2.2.1
    have e4 := qc_w (E := E) (n := n + 9990) (d := d + 3) (u9 := none) (h := h) (h1 := h2) (gT 0 _ (show bg2 ctb 0 = some (.inr (.inl (11, [some (some 1), some (some 3), some (some 18), some (some 25), some (some 27), some (some 30), some (some 53), some (some 62), some (some 76), none]))) from rfl) (by intro z; cases z)) (g2T 94 _ (show bg2 ctb 94 = some (.inl (2, 1, [])) from rfl) (by intro z; cases z)) (e2.trans e3)
    exact ⟨0, _, e4, fun _ => ⟨n9, hn9, hn12, RXq9_m kx1 kx2 kx3 (h2 := zsetJ h2 94 (vp_updL (h2.2.2.1 94) 0 x.toInt64)) rs⟩, fun z => absurd hp z⟩
  · skip
    by_cases hl : k9.toInt < 0
    · exact ⟨_, _, qc_x (E := E) (n := n + 9992) (d := d + 3) (u9 := none) (h := h) (gT 0 _ (show bg2 ctb 0 = some (.inr (.inl (11, [some (some 1), some (some 3), some (some 18), some (some 25), some (some 27), some (some 30), some (some 53), some (some 62), some (some 76), none]))) from rfl) (by intro z; cases z)) (qc_t (E := E) (n := n + 9992) (d := d + 2)  (gT 0 _ (show bg2 ctb 0 = some (.inr (.inl (11, [some (some 1), some (some 3), some (some 18), some (some 25), some (some 27), some (some 30), some (some 53), some (some 62), some (some 76), none]))) from rfl) (by intro z; cases z))  (np_1 (E := E) (n := n + 9989) (d := d + 2) (p := k9) (by omega) )), fun z => absurd z hp, fun _ _ => rfl⟩
    · exact ⟨_, _, qc_x (E := E) (n := n + 9992) (d := d + 3) (u9 := none) (h := h) (gT 0 _ (show bg2 ctb 0 = some (.inr (.inl (11, [some (some 1), some (some 3), some (some 18), some (some 25), some (some 27), some (some 30), some (some 53), some (some 62), some (some 76), none]))) from rfl) (by intro z; cases z)) (qc_t (E := E) (n := n + 9992) (d := d + 2)  (gT 0 _ (show bg2 ctb 0 = some (.inr (.inl (11, [some (some 1), some (some 3), some (some 18), some (some 25), some (some 27), some (some 30), some (some 53), some (some 62), some (some 76), none]))) from rfl) (by intro z; cases z))  (np_2 (E := E) (n := n + 9983) (d := d + 2) (p := k9) (by omega) (by rw [r3]; omega) (gT 0 _ (show bg2 ctb 0 = some (.inr (.inl (11, [some (some 1), some (some 3), some (some 18), some (some 25), some (some 27), some (some 30), some (some 53), some (some 62), some (some 76), none]))) from rfl) (by intro z; cases z)) (gT 3 _ (show bg2 ctb 3 = some (.inr (.inl (2, [some (some 4), some (some 10), some (some 17)]))) from rfl) (by intro z; cases z)) (gT 4 _ (show bg2 ctb 4 = some (.inr (.inl (8, [none, none, none, none, some (some 5), some (some 6), some (some 7), some (some 8), some (some 9)]))) from rfl) (by intro z; cases z)))), fun z => absurd z hp, fun _ _ => rfl⟩
set_option maxRecDepth 100000 in
theorem cbTo (hE : E.1 < 2147483648) (hsm : bSO E ctb B (60, smT)) (gI : bHI h) (gP : bPS h) (gT : bTB ctb h.1) (hA : paQ h) (hR : RC h 4 18 σ) (hW : WF σ) {k9 x9 : Int32} : ∀ d f, 90 ≤ d → B + 5000000 ≤ f → cyQ ((0 ≤ k9.toInt ∧ k9.toInt < (sR σ : Int)) ∧ (0 ≤ x9.toInt ∧ x9.toInt ≤ 100)) h (zex E f d 12 0 [some (.ref 0), some (.int k9), some (.int x9), some (.ref 94), none] [] h) := by
  intro d f hd hf
  obtain ⟨n, hn⟩ : ∃ n, f = n + 10000 := ⟨f - 10000, by omega⟩
  obtain ⟨d, hd'⟩ : ∃ d', d = d' + 4 := ⟨d - 4, by omega⟩
  subst hn hd'
  have r1 := hR.1.1
  have r3 := hR.1.2.2
  have w1 := hW.1
  have w3 := hW.2.2.1
  unfold cyQ
  by_cases hp : (0 ≤ k9.toInt ∧ k9.toInt < (sR σ : Int)) ∧ (0 ≤ x9.toInt ∧ x9.toInt ≤ 100)
  · skip
    obtain ⟨h1, e1, r1q, s1, a1⟩ := remR (E := E) hE hsm gI gP gT hA (d + 2) (n + 9980) (by omega) (by omega)
    obtain ⟨n9, hn9, hn12, kx⟩ := rememX (E := E) gI gP hA
    obtain ⟨hx9, ex9, kx1, kx2, kx3⟩ := kx (d + 2) (n + 9980) (by omega) (by omega)
    obtain ⟨-, yx9⟩ := inl_j e1 ex9
    rw [← yx9] at kx1 kx2 kx3
    have e2 := qd_0 (E := E) (n := n + 9980) (d := d + 2) (h := h) (h1 := h1) (u3 := none) (gT 0 _ (show bg2 ctb 0 = some (.inr (.inl (11, [some (some 1), some (some 3), some (some 18), some (some 25), some (some 27), some (some 30), some (some 53), some (some 62), some (some 76), none]))) from rfl) (by intro z; cases z)) (gT 27 _ (show bg2 ctb 27 = some (.inr (.inl (7, [some (some 28), some (some 29), none, none]))) from rfl) (by intro z; cases z)) (nr_0 (E := E) (n := n + 9982) (d := d + 2) (p := k9) (by omega) (by rw [r1]; omega) (gT 0 _ (show bg2 ctb 0 = some (.inr (.inl (11, [some (some 1), some (some 3), some (some 18), some (some 25), some (some 27), some (some 30), some (some 53), some (some 62), some (some 76), none]))) from rfl) (by intro z; cases z)) (gT 3 _ (show bg2 ctb 3 = some (.inr (.inl (2, [some (some 4), some (some 10), some (some 17)]))) from rfl) (by intro z; cases z)) (gT 4 _ (show bg2 ctb 4 = some (.inr (.inl (8, [none, none, none, none, some (some 5), some (some 6), some (some 7), some (some 8), some (some 9)]))) from rfl) (by intro z; cases z))) (ny_0 (E := E) (n := n + 9980) (d := d + 2) (x := x9) (a := 0) (b := 100) (by rw [show (0 : Int32).toInt = 0 from by decide]; omega) (by rw [show (100 : Int32).toInt = 100 from by decide]; omega)) e1
    have l9 : bLR [k9.toInt, x9.toInt] [q00, some (.inl (0, [(0, 1)])), some (.inl (0, [(1, 1)])), none] [some (.ref 0), some (.int k9), some (.int x9), none] := ⟨⟨_, rfl, rfl⟩, ⟨_, rfl, k9, rfl, brel_v rfl⟩, ⟨_, rfl, x9, rfl, brel_v rfl⟩, trivial, trivial⟩
    obtain ⟨x, h2, e3, r2⟩ := seg (V := [k9.toInt, x9.toInt]) (ca := 0) (sa := 0) (nv := 2) (Q := clT2 h1) hE hsm (fin_i (V := [k9.toInt, x9.toInt]) (ca := 0) (sa := 0) rfl (fun x h' k1 => ⟨x, h', rfl, k1⟩)) ⟨r1q.1, r1q.2.1, r1q.2.2.1, fun _ _ _ => rfl, Nat.le_refl _, Nat.le_refl _⟩ (benv_c (by omega) (by omega) (benv_c (by omega) (by omega) benv_n)) rfl bcs_n bov_n l9 c2_To (B' := B) (Nat.le_refl _) (fun N hN => absurd hN List.not_mem_nil) (fun N hN => absurd hN List.not_mem_nil) (d + 3) (n + 9980) (by omega) (by omega)
    have rs : RS9 h1 h2 := RS9_w wCq2_p (r2.2.2.2.1 27 3 wCq2_3) r2.2.2.2.1
    have g2T := r2.2.2.1
    have e4 := qd_w (E := E) (n := n + 9989) (d := d + 3) (u9 := none) (h := h) (h1 := h2) (gT 0 _ (show bg2 ctb 0 = some (.inr (.inl (11, [some (some 1), some (some 3), some (some 18), some (some 25), some (some 27), some (some 30), some (some 53), some (some 62), some (some 76), none]))) from rfl) (by intro z; cases z)) (g2T 94 _ (show bg2 ctb 94 = some (.inl (2, 1, [])) from rfl) (by intro z; cases z)) (e2.trans e3)
    exact ⟨0, _, e4, fun _ => ⟨n9, hn9, hn12, RXq9_m kx1 kx2 kx3 (h2 := zsetJ h2 94 (vp_updL (h2.2.2.1 94) 0 x.toInt64)) rs⟩, fun z => absurd hp z⟩
  · skip
    by_cases hc : ¬ (0 ≤ k9.toInt ∧ k9.toInt < (sR σ : Int))
    · by_cases hl : k9.toInt < 0
      · exact ⟨_, _, qd_x (E := E) (n := n + 9991) (d := d + 3) (u9 := none) (h := h) (gT 0 _ (show bg2 ctb 0 = some (.inr (.inl (11, [some (some 1), some (some 3), some (some 18), some (some 25), some (some 27), some (some 30), some (some 53), some (some 62), some (some 76), none]))) from rfl) (by intro z; cases z)) (qd_t (E := E) (n := n + 9991) (d := d + 2) (u3 := none) (gT 0 _ (show bg2 ctb 0 = some (.inr (.inl (11, [some (some 1), some (some 3), some (some 18), some (some 25), some (some 27), some (some 30), some (some 53), some (some 62), some (some 76), none]))) from rfl) (by intro z; cases z))  (nr_1 (E := E) (n := n + 9988) (d := d + 2) (p := k9) (by omega) )), fun z => absurd z hp, fun _ _ => rfl⟩
      · exact ⟨_, _, qd_x (E := E) (n := n + 9991) (d := d + 3) (u9 := none) (h := h) (gT 0 _ (show bg2 ctb 0 = some (.inr (.inl (11, [some (some 1), some (some 3), some (some 18), some (some 25), some (some 27), some (some 30), some (some 53), some (some 62), some (some 76), none]))) from rfl) (by intro z; cases z)) (qd_t (E := E) (n := n + 9991) (d := d + 2) (u3 := none) (gT 0 _ (show bg2 ctb 0 = some (.inr (.inl (11, [some (some 1), some (some 3), some (some 18), some (some 25), some (some 27), some (some 30), some (some 53), some (some 62), some (some 76), none]))) from rfl) (by intro z; cases z))  (nr_2 (E := E) (n := n + 9982) (d := d + 2) (p := k9) (by omega) (by rw [r1]; omega) (gT 0 _ (show bg2 ctb 0 = some (.inr (.inl (11, [some (some 1), some (some 3), some (some 18), some (some 25), some (some 27), some (some 30), some (some 53), some (some 62), some (some 76), none]))) from rfl) (by intro z; cases z)) (gT 3 _ (show bg2 ctb 3 = some (.inr (.inl (2, [some (some 4), some (some 10), some (some 17)]))) from rfl) (by intro z; cases z)) (gT 4 _ (show bg2 ctb 4 = some (.inr (.inl (8, [none, none, none, none, some (some 5), some (some 6), some (some 7), some (some 8), some (some 9)]))) from rfl) (by intro z; cases z)))), fun z => absurd z hp, fun _ _ => rfl⟩
    by_cases hl : x9.toInt < 0
    · exact ⟨_, _, qd_y (E := E) (n := n + 9991) (d := d + 3) (u9 := none) (h := h) (gT 0 _ (show bg2 ctb 0 = some (.inr (.inl (11, [some (some 1), some (some 3), some (some 18), some (some 25), some (some 27), some (some 30), some (some 53), some (some 62), some (some 76), none]))) from rfl) (by intro z; cases z)) (qd_u (E := E) (n := n + 9987) (d := d + 2) (u3 := none) (gT 0 _ (show bg2 ctb 0 = some (.inr (.inl (11, [some (some 1), some (some 3), some (some 18), some (some 25), some (some 27), some (some 30), some (some 53), some (some 62), some (some 76), none]))) from rfl) (by intro z; cases z)) (nr_0 (E := E) (n := n + 9982) (d := d + 2) (p := k9) (by omega) (by rw [r1]; omega) (gT 0 _ (show bg2 ctb 0 = some (.inr (.inl (11, [some (some 1), some (some 3), some (some 18), some (some 25), some (some 27), some (some 30), some (some 53), some (some 62), some (some 76), none]))) from rfl) (by intro z; cases z)) (gT 3 _ (show bg2 ctb 3 = some (.inr (.inl (2, [some (some 4), some (some 10), some (some 17)]))) from rfl) (by intro z; cases z)) (gT 4 _ (show bg2 ctb 4 = some (.inr (.inl (8, [none, none, none, none, some (some 5), some (some 6), some (some 7), some (some 8), some (some 9)]))) from rfl) (by intro z; cases z))) (ny_1 (E := E) (n := n + 9983) (d := d + 2) (x := x9) (a := 0) (b := 100) (by rw [show (0 : Int32).toInt = 0 from by decide]; omega))), fun z => absurd z hp, fun _ _ => rfl⟩
    · exact ⟨_, _, qd_y (E := E) (n := n + 9991) (d := d + 3) (u9 := none) (h := h) (gT 0 _ (show bg2 ctb 0 = some (.inr (.inl (11, [some (some 1), some (some 3), some (some 18), some (some 25), some (some 27), some (some 30), some (some 53), some (some 62), some (some 76), none]))) from rfl) (by intro z; cases z)) (qd_u (E := E) (n := n + 9987) (d := d + 2) (u3 := none) (gT 0 _ (show bg2 ctb 0 = some (.inr (.inl (11, [some (some 1), some (some 3), some (some 18), some (some 25), some (some 27), some (some 30), some (some 53), some (some 62), some (some 76), none]))) from rfl) (by intro z; cases z)) (nr_0 (E := E) (n := n + 9982) (d := d + 2) (p := k9) (by omega) (by rw [r1]; omega) (gT 0 _ (show bg2 ctb 0 = some (.inr (.inl (11, [some (some 1), some (some 3), some (some 18), some (some 25), some (some 27), some (some 30), some (some 53), some (some 62), some (some 76), none]))) from rfl) (by intro z; cases z)) (gT 3 _ (show bg2 ctb 3 = some (.inr (.inl (2, [some (some 4), some (some 10), some (some 17)]))) from rfl) (by intro z; cases z)) (gT 4 _ (show bg2 ctb 4 = some (.inr (.inl (8, [none, none, none, none, some (some 5), some (some 6), some (some 7), some (some 8), some (some 9)]))) from rfl) (by intro z; cases z))) (ny_2 (E := E) (n := n + 9980) (d := d + 2) (x := x9) (a := 0) (b := 100) (by rw [show (0 : Int32).toInt = 0 from by decide]; omega) (by rw [show (100 : Int32).toInt = 100 from by decide]; omega))), fun z => absurd z hp, fun _ _ => rfl⟩
set_option maxRecDepth 100000 in
theorem cbKe (hE : E.1 < 2147483648) (hsm : bSO E ctb B (60, smT)) (gI : bHI h) (gP : bPS h) (gT : bTB ctb h.1) (hA : paQ h) (hR : RC h 4 18 σ) (hW : WF σ) {k9 x9 : Int32} : ∀ d f, 90 ≤ d → B + 5000000 ≤ f → cyQ ((0 ≤ k9.toInt ∧ k9.toInt < (sP σ : Int)) ∧ (0 ≤ x9.toInt ∧ x9.toInt ≤ 100)) h (zex E f d 13 0 [some (.ref 0), some (.int k9), some (.int x9), some (.ref 94), none] [] h) := by
  intro d f hd hf
  obtain ⟨n, hn⟩ : ∃ n, f = n + 10000 := ⟨f - 10000, by omega⟩
  obtain ⟨d, hd'⟩ : ∃ d', d = d' + 4 := ⟨d - 4, by omega⟩
  subst hn hd'
  have r1 := hR.1.1
  have r3 := hR.1.2.2
  have w1 := hW.1
  have w3 := hW.2.2.1
  unfold cyQ
  by_cases hp : (0 ≤ k9.toInt ∧ k9.toInt < (sP σ : Int)) ∧ (0 ≤ x9.toInt ∧ x9.toInt ≤ 100)
  · skip
    obtain ⟨h1, e1, r1q, s1, a1⟩ := remR (E := E) hE hsm gI gP gT hA (d + 2) (n + 9980) (by omega) (by omega)
    obtain ⟨n9, hn9, hn12, kx⟩ := rememX (E := E) gI gP hA
    obtain ⟨hx9, ex9, kx1, kx2, kx3⟩ := kx (d + 2) (n + 9980) (by omega) (by omega)
    obtain ⟨-, yx9⟩ := inl_j e1 ex9
    rw [← yx9] at kx1 kx2 kx3
    have e2 := qe_0 (E := E) (n := n + 9980) (d := d + 2) (h := h) (h1 := h1) (u3 := none) (gT 0 _ (show bg2 ctb 0 = some (.inr (.inl (11, [some (some 1), some (some 3), some (some 18), some (some 25), some (some 27), some (some 30), some (some 53), some (some 62), some (some 76), none]))) from rfl) (by intro z; cases z)) (gT 27 _ (show bg2 ctb 27 = some (.inr (.inl (7, [some (some 28), some (some 29), none, none]))) from rfl) (by intro z; cases z)) (np_0 (E := E) (n := n + 9982) (d := d + 2) (p := k9) (by omega) (by rw [r3]; omega) (gT 0 _ (show bg2 ctb 0 = some (.inr (.inl (11, [some (some 1), some (some 3), some (some 18), some (some 25), some (some 27), some (some 30), some (some 53), some (some 62), some (some 76), none]))) from rfl) (by intro z; cases z)) (gT 3 _ (show bg2 ctb 3 = some (.inr (.inl (2, [some (some 4), some (some 10), some (some 17)]))) from rfl) (by intro z; cases z)) (gT 4 _ (show bg2 ctb 4 = some (.inr (.inl (8, [none, none, none, none, some (some 5), some (some 6), some (some 7), some (some 8), some (some 9)]))) from rfl) (by intro z; cases z))) (ny_0 (E := E) (n := n + 9980) (d := d + 2) (x := x9) (a := 0) (b := 100) (by rw [show (0 : Int32).toInt = 0 from by decide]; omega) (by rw [show (100 : Int32).toInt = 100 from by decide]; omega)) e1
    have l9 : bLR [k9.toInt, x9.toInt] [q00, some (.inl (0, [(0, 1)])), some (.inl (0, [(1, 1)])), none] [some (.ref 0), some (.int k9), some (.int x9), none] := ⟨⟨_, rfl, rfl⟩, ⟨_, rfl, k9, rfl, brel_v rfl⟩, ⟨_, rfl, x9, rfl, brel_v rfl⟩, trivial, trivial⟩
    obtain ⟨x, h2, e3, r2⟩ := seg (V := [k9.toInt, x9.toInt]) (ca := 0) (sa := 0) (nv := 2) (Q := clT2 h1) hE hsm (fin_i (V := [k9.toInt, x9.toInt]) (ca := 0) (sa := 0) rfl (fun x h' k1 => ⟨x, h', rfl, k1⟩)) ⟨r1q.1, r1q.2.1, r1q.2.2.1, fun _ _ _ => rfl, Nat.le_refl _, Nat.le_refl _⟩ (benv_c (by omega) (by omega) (benv_c (by omega) (by omega) benv_n)) rfl bcs_n bov_n l9 c2_Ke (B' := B) (Nat.le_refl _) (fun N hN => absurd hN List.not_mem_nil) (fun N hN => absurd hN List.not_mem_nil) (d + 3) (n + 9980) (by omega) (by omega)
    have rs : RS9 h1 h2 := RS9_w wCq2_p (r2.2.2.2.1 27 3 wCq2_3) r2.2.2.2.1
    have g2T := r2.2.2.1
    have e4 := qe_w (E := E) (n := n + 9989) (d := d + 3) (u9 := none) (h := h) (h1 := h2) (gT 0 _ (show bg2 ctb 0 = some (.inr (.inl (11, [some (some 1), some (some 3), some (some 18), some (some 25), some (some 27), some (some 30), some (some 53), some (some 62), some (some 76), none]))) from rfl) (by intro z; cases z)) (g2T 94 _ (show bg2 ctb 94 = some (.inl (2, 1, [])) from rfl) (by intro z; cases z)) (e2.trans e3)
    exact ⟨0, _, e4, fun _ => ⟨n9, hn9, hn12, RXq9_m kx1 kx2 kx3 (h2 := zsetJ h2 94 (vp_updL (h2.2.2.1 94) 0 x.toInt64)) rs⟩, fun z => absurd hp z⟩
  · skip
    by_cases hc : ¬ (0 ≤ k9.toInt ∧ k9.toInt < (sP σ : Int))
    · by_cases hl : k9.toInt < 0
      · exact ⟨_, _, qe_x (E := E) (n := n + 9991) (d := d + 3) (u9 := none) (h := h) (gT 0 _ (show bg2 ctb 0 = some (.inr (.inl (11, [some (some 1), some (some 3), some (some 18), some (some 25), some (some 27), some (some 30), some (some 53), some (some 62), some (some 76), none]))) from rfl) (by intro z; cases z)) (qe_t (E := E) (n := n + 9991) (d := d + 2) (u3 := none) (gT 0 _ (show bg2 ctb 0 = some (.inr (.inl (11, [some (some 1), some (some 3), some (some 18), some (some 25), some (some 27), some (some 30), some (some 53), some (some 62), some (some 76), none]))) from rfl) (by intro z; cases z))  (np_1 (E := E) (n := n + 9988) (d := d + 2) (p := k9) (by omega) )), fun z => absurd z hp, fun _ _ => rfl⟩
      · exact ⟨_, _, qe_x (E := E) (n := n + 9991) (d := d + 3) (u9 := none) (h := h) (gT 0 _ (show bg2 ctb 0 = some (.inr (.inl (11, [some (some 1), some (some 3), some (some 18), some (some 25), some (some 27), some (some 30), some (some 53), some (some 62), some (some 76), none]))) from rfl) (by intro z; cases z)) (qe_t (E := E) (n := n + 9991) (d := d + 2) (u3 := none) (gT 0 _ (show bg2 ctb 0 = some (.inr (.inl (11, [some (some 1), some (some 3), some (some 18), some (some 25), some (some 27), some (some 30), some (some 53), some (some 62), some (some 76), none]))) from rfl) (by intro z; cases z))  (np_2 (E := E) (n := n + 9982) (d := d + 2) (p := k9) (by omega) (by rw [r3]; omega) (gT 0 _ (show bg2 ctb 0 = some (.inr (.inl (11, [some (some 1), some (some 3), some (some 18), some (some 25), some (some 27), some (some 30), some (some 53), some (some 62), some (some 76), none]))) from rfl) (by intro z; cases z)) (gT 3 _ (show bg2 ctb 3 = some (.inr (.inl (2, [some (some 4), some (some 10), some (some 17)]))) from rfl) (by intro z; cases z)) (gT 4 _ (show bg2 ctb 4 = some (.inr (.inl (8, [none, none, none, none, some (some 5), some (some 6), some (some 7), some (some 8), some (some 9)]))) from rfl) (by intro z; cases z)))), fun z => absurd z hp, fun _ _ => rfl⟩
    by_cases hl : x9.toInt < 0
    · exact ⟨_, _, qe_y (E := E) (n := n + 9991) (d := d + 3) (u9 := none) (h := h) (gT 0 _ (show bg2 ctb 0 = some (.inr (.inl (11, [some (some 1), some (some 3), some (some 18), some (some 25), some (some 27), some (some 30), some (some 53), some (some 62), some (some 76), none]))) from rfl) (by intro z; cases z)) (qe_u (E := E) (n := n + 9987) (d := d + 2) (u3 := none) (gT 0 _ (show bg2 ctb 0 = some (.inr (.inl (11, [some (some 1), some (some 3), some (some 18), some (some 25), some (some 27), some (some 30), some (some 53), some (some 62), some (some 76), none]))) from rfl) (by intro z; cases z)) (np_0 (E := E) (n := n + 9982) (d := d + 2) (p := k9) (by omega) (by rw [r3]; omega) (gT 0 _ (show bg2 ctb 0 = some (.inr (.inl (11, [some (some 1), some (some 3), some (some 18), some (some 25), some (some 27), some (some 30), some (some 53), some (some 62), some (some 76), none]))) from rfl) (by intro z; cases z)) (gT 3 _ (show bg2 ctb 3 = some (.inr (.inl (2, [some (some 4), some (some 10), some (some 17)]))) from rfl) (by intro z; cases z)) (gT 4 _ (show bg2 ctb 4 = some (.inr (.inl (8, [none, none, none, none, some (some 5), some (some 6), some (some 7), some (some 8), some (some 9)]))) from rfl) (by intro z; cases z))) (ny_1 (E := E) (n := n + 9983) (d := d + 2) (x := x9) (a := 0) (b := 100) (by rw [show (0 : Int32).toInt = 0 from by decide]; omega))), fun z => absurd z hp, fun _ _ => rfl⟩
    · exact ⟨_, _, qe_y (E := E) (n := n + 9991) (d := d + 3) (u9 := none) (h := h) (gT 0 _ (show bg2 ctb 0 = some (.inr (.inl (11, [some (some 1), some (some 3), some (some 18), some (some 25), some (some 27), some (some 30), some (some 53), some (some 62), some (some 76), none]))) from rfl) (by intro z; cases z)) (qe_u (E := E) (n := n + 9987) (d := d + 2) (u3 := none) (gT 0 _ (show bg2 ctb 0 = some (.inr (.inl (11, [some (some 1), some (some 3), some (some 18), some (some 25), some (some 27), some (some 30), some (some 53), some (some 62), some (some 76), none]))) from rfl) (by intro z; cases z)) (np_0 (E := E) (n := n + 9982) (d := d + 2) (p := k9) (by omega) (by rw [r3]; omega) (gT 0 _ (show bg2 ctb 0 = some (.inr (.inl (11, [some (some 1), some (some 3), some (some 18), some (some 25), some (some 27), some (some 30), some (some 53), some (some 62), some (some 76), none]))) from rfl) (by intro z; cases z)) (gT 3 _ (show bg2 ctb 3 = some (.inr (.inl (2, [some (some 4), some (some 10), some (some 17)]))) from rfl) (by intro z; cases z)) (gT 4 _ (show bg2 ctb 4 = some (.inr (.inl (8, [none, none, none, none, some (some 5), some (some 6), some (some 7), some (some 8), some (some 9)]))) from rfl) (by intro z; cases z))) (ny_2 (E := E) (n := n + 9980) (d := d + 2) (x := x9) (a := 0) (b := 100) (by rw [show (0 : Int32).toInt = 0 from by decide]; omega) (by rw [show (100 : Int32).toInt = 100 from by decide]; omega))), fun z => absurd z hp, fun _ _ => rfl⟩
set_option maxRecDepth 100000 in
theorem cbSo (hE : E.1 < 2147483648) (hsm : bSO E ctb B (60, smT)) (gI : bHI h) (gP : bPS h) (gT : bTB ctb h.1) (hA : paQ h) (hR : RC h 4 18 σ) (hW : WF σ) {k9 x9 : Int32} : ∀ d f, 90 ≤ d → B + 5000000 ≤ f → cyQ ((0 ≤ k9.toInt ∧ k9.toInt < (sP σ : Int)) ∧ (0 ≤ x9.toInt ∧ x9.toInt ≤ 99)) h (zex E f d 14 0 [some (.ref 0), some (.int k9), some (.int x9), some (.ref 94), none] [] h) := by
  intro d f hd hf
  obtain ⟨n, hn⟩ : ∃ n, f = n + 10000 := ⟨f - 10000, by omega⟩
  obtain ⟨d, hd'⟩ : ∃ d', d = d' + 4 := ⟨d - 4, by omega⟩
  subst hn hd'
  have r1 := hR.1.1
  have r3 := hR.1.2.2
  have w1 := hW.1
  have w3 := hW.2.2.1
  unfold cyQ
  by_cases hp : (0 ≤ k9.toInt ∧ k9.toInt < (sP σ : Int)) ∧ (0 ≤ x9.toInt ∧ x9.toInt ≤ 99)
  · skip
    obtain ⟨h1, e1, r1q, s1, a1⟩ := remR (E := E) hE hsm gI gP gT hA (d + 2) (n + 9980) (by omega) (by omega)
    obtain ⟨n9, hn9, hn12, kx⟩ := rememX (E := E) gI gP hA
    obtain ⟨hx9, ex9, kx1, kx2, kx3⟩ := kx (d + 2) (n + 9980) (by omega) (by omega)
    obtain ⟨-, yx9⟩ := inl_j e1 ex9
    rw [← yx9] at kx1 kx2 kx3
    have e2 := qf_0 (E := E) (n := n + 9980) (d := d + 2) (h := h) (h1 := h1) (u3 := none) (gT 0 _ (show bg2 ctb 0 = some (.inr (.inl (11, [some (some 1), some (some 3), some (some 18), some (some 25), some (some 27), some (some 30), some (some 53), some (some 62), some (some 76), none]))) from rfl) (by intro z; cases z)) (gT 27 _ (show bg2 ctb 27 = some (.inr (.inl (7, [some (some 28), some (some 29), none, none]))) from rfl) (by intro z; cases z)) (np_0 (E := E) (n := n + 9982) (d := d + 2) (p := k9) (by omega) (by rw [r3]; omega) (gT 0 _ (show bg2 ctb 0 = some (.inr (.inl (11, [some (some 1), some (some 3), some (some 18), some (some 25), some (some 27), some (some 30), some (some 53), some (some 62), some (some 76), none]))) from rfl) (by intro z; cases z)) (gT 3 _ (show bg2 ctb 3 = some (.inr (.inl (2, [some (some 4), some (some 10), some (some 17)]))) from rfl) (by intro z; cases z)) (gT 4 _ (show bg2 ctb 4 = some (.inr (.inl (8, [none, none, none, none, some (some 5), some (some 6), some (some 7), some (some 8), some (some 9)]))) from rfl) (by intro z; cases z))) (ny_0 (E := E) (n := n + 9980) (d := d + 2) (x := x9) (a := 0) (b := 99) (by rw [show (0 : Int32).toInt = 0 from by decide]; omega) (by rw [show (99 : Int32).toInt = 99 from by decide]; omega)) e1
    have l9 : bLR [k9.toInt, x9.toInt] [q00, some (.inl (0, [(0, 1)])), some (.inl (0, [(1, 1)])), none] [some (.ref 0), some (.int k9), some (.int x9), none] := ⟨⟨_, rfl, rfl⟩, ⟨_, rfl, k9, rfl, brel_v rfl⟩, ⟨_, rfl, x9, rfl, brel_v rfl⟩, trivial, trivial⟩
    obtain ⟨x, h2, e3, r2⟩ := seg (V := [k9.toInt, x9.toInt]) (ca := 0) (sa := 0) (nv := 2) (Q := clT2 h1) hE hsm (fin_i (V := [k9.toInt, x9.toInt]) (ca := 0) (sa := 0) rfl (fun x h' k1 => ⟨x, h', rfl, k1⟩)) ⟨r1q.1, r1q.2.1, r1q.2.2.1, fun _ _ _ => rfl, Nat.le_refl _, Nat.le_refl _⟩ (benv_c (by omega) (by omega) (benv_c (by omega) (by omega) benv_n)) rfl bcs_n bov_n l9 c2_So (B' := B) (Nat.le_refl _) (fun N hN => absurd hN List.not_mem_nil) (fun N hN => absurd hN List.not_mem_nil) (d + 3) (n + 9980) (by omega) (by omega)
    have rs : RS9 h1 h2 := RS9_w wCq2_p (r2.2.2.2.1 27 3 wCq2_3) r2.2.2.2.1
    have g2T := r2.2.2.1
    have e4 := qf_w (E := E) (n := n + 9989) (d := d + 3) (u9 := none) (h := h) (h1 := h2) (gT 0 _ (show bg2 ctb 0 = some (.inr (.inl (11, [some (some 1), some (some 3), some (some 18), some (some 25), some (some 27), some (some 30), some (some 53), some (some 62), some (some 76), none]))) from rfl) (by intro z; cases z)) (g2T 94 _ (show bg2 ctb 94 = some (.inl (2, 1, [])) from rfl) (by intro z; cases z)) (e2.trans e3)
    exact ⟨0, _, e4, fun _ => ⟨n9, hn9, hn12, RXq9_m kx1 kx2 kx3 (h2 := zsetJ h2 94 (vp_updL (h2.2.2.1 94) 0 x.toInt64)) rs⟩, fun z => absurd hp z⟩
  · skip
    by_cases hc : ¬ (0 ≤ k9.toInt ∧ k9.toInt < (sP σ : Int))
    · by_cases hl : k9.toInt < 0
      · exact ⟨_, _, qf_x (E := E) (n := n + 9991) (d := d + 3) (u9 := none) (h := h) (gT 0 _ (show bg2 ctb 0 = some (.inr (.inl (11, [some (some 1), some (some 3), some (some 18), some (some 25), some (some 27), some (some 30), some (some 53), some (some 62), some (some 76), none]))) from rfl) (by intro z; cases z)) (qf_t (E := E) (n := n + 9991) (d := d + 2) (u3 := none) (gT 0 _ (show bg2 ctb 0 = some (.inr (.inl (11, [some (some 1), some (some 3), some (some 18), some (some 25), some (some 27), some (some 30), some (some 53), some (some 62), some (some 76), none]))) from rfl) (by intro z; cases z))  (np_1 (E := E) (n := n + 9988) (d := d + 2) (p := k9) (by omega) )), fun z => absurd z hp, fun _ _ => rfl⟩
      · exact ⟨_, _, qf_x (E := E) (n := n + 9991) (d := d + 3) (u9 := none) (h := h) (gT 0 _ (show bg2 ctb 0 = some (.inr (.inl (11, [some (some 1), some (some 3), some (some 18), some (some 25), some (some 27), some (some 30), some (some 53), some (some 62), some (some 76), none]))) from rfl) (by intro z; cases z)) (qf_t (E := E) (n := n + 9991) (d := d + 2) (u3 := none) (gT 0 _ (show bg2 ctb 0 = some (.inr (.inl (11, [some (some 1), some (some 3), some (some 18), some (some 25), some (some 27), some (some 30), some (some 53), some (some 62), some (some 76), none]))) from rfl) (by intro z; cases z))  (np_2 (E := E) (n := n + 9982) (d := d + 2) (p := k9) (by omega) (by rw [r3]; omega) (gT 0 _ (show bg2 ctb 0 = some (.inr (.inl (11, [some (some 1), some (some 3), some (some 18), some (some 25), some (some 27), some (some 30), some (some 53), some (some 62), some (some 76), none]))) from rfl) (by intro z; cases z)) (gT 3 _ (show bg2 ctb 3 = some (.inr (.inl (2, [some (some 4), some (some 10), some (some 17)]))) from rfl) (by intro z; cases z)) (gT 4 _ (show bg2 ctb 4 = some (.inr (.inl (8, [none, none, none, none, some (some 5), some (some 6), some (some 7), some (some 8), some (some 9)]))) from rfl) (by intro z; cases z)))), fun z => absurd z hp, fun _ _ => rfl⟩
    by_cases hl : x9.toInt < 0
    · exact ⟨_, _, qf_y (E := E) (n := n + 9991) (d := d + 3) (u9 := none) (h := h) (gT 0 _ (show bg2 ctb 0 = some (.inr (.inl (11, [some (some 1), some (some 3), some (some 18), some (some 25), some (some 27), some (some 30), some (some 53), some (some 62), some (some 76), none]))) from rfl) (by intro z; cases z)) (qf_u (E := E) (n := n + 9987) (d := d + 2) (u3 := none) (gT 0 _ (show bg2 ctb 0 = some (.inr (.inl (11, [some (some 1), some (some 3), some (some 18), some (some 25), some (some 27), some (some 30), some (some 53), some (some 62), some (some 76), none]))) from rfl) (by intro z; cases z)) (np_0 (E := E) (n := n + 9982) (d := d + 2) (p := k9) (by omega) (by rw [r3]; omega) (gT 0 _ (show bg2 ctb 0 = some (.inr (.inl (11, [some (some 1), some (some 3), some (some 18), some (some 25), some (some 27), some (some 30), some (some 53), some (some 62), some (some 76), none]))) from rfl) (by intro z; cases z)) (gT 3 _ (show bg2 ctb 3 = some (.inr (.inl (2, [some (some 4), some (some 10), some (some 17)]))) from rfl) (by intro z; cases z)) (gT 4 _ (show bg2 ctb 4 = some (.inr (.inl (8, [none, none, none, none, some (some 5), some (some 6), some (some 7), some (some 8), some (some 9)]))) from rfl) (by intro z; cases z))) (ny_1 (E := E) (n := n + 9983) (d := d + 2) (x := x9) (a := 0) (b := 99) (by rw [show (0 : Int32).toInt = 0 from by decide]; omega))), fun z => absurd z hp, fun _ _ => rfl⟩
    · exact ⟨_, _, qf_y (E := E) (n := n + 9991) (d := d + 3) (u9 := none) (h := h) (gT 0 _ (show bg2 ctb 0 = some (.inr (.inl (11, [some (some 1), some (some 3), some (some 18), some (some 25), some (some 27), some (some 30), some (some 53), some (some 62), some (some 76), none]))) from rfl) (by intro z; cases z)) (qf_u (E := E) (n := n + 9987) (d := d + 2) (u3 := none) (gT 0 _ (show bg2 ctb 0 = some (.inr (.inl (11, [some (some 1), some (some 3), some (some 18), some (some 25), some (some 27), some (some 30), some (some 53), some (some 62), some (some 76), none]))) from rfl) (by intro z; cases z)) (np_0 (E := E) (n := n + 9982) (d := d + 2) (p := k9) (by omega) (by rw [r3]; omega) (gT 0 _ (show bg2 ctb 0 = some (.inr (.inl (11, [some (some 1), some (some 3), some (some 18), some (some 25), some (some 27), some (some 30), some (some 53), some (some 62), some (some 76), none]))) from rfl) (by intro z; cases z)) (gT 3 _ (show bg2 ctb 3 = some (.inr (.inl (2, [some (some 4), some (some 10), some (some 17)]))) from rfl) (by intro z; cases z)) (gT 4 _ (show bg2 ctb 4 = some (.inr (.inl (8, [none, none, none, none, some (some 5), some (some 6), some (some 7), some (some 8), some (some 9)]))) from rfl) (by intro z; cases z))) (ny_2 (E := E) (n := n + 9980) (d := d + 2) (x := x9) (a := 0) (b := 99) (by rw [show (0 : Int32).toInt = 0 from by decide]; omega) (by rw [show (99 : Int32).toInt = 99 from by decide]; omega))), fun z => absurd z hp, fun _ _ => rfl⟩
set_option maxRecDepth 100000 in
theorem ctTo (hE : E.1 < 2147483648) (hsm : bSO E ctb B (60, smT)) (gI : bHI h) (gP : bPS h) (gT : bTB ctb h.1) (hA : paQ h) (hR : RC h 4 18 σ) (hW : WF σ) {k9 x9 : Int32} : ∀ d f, 90 ≤ d → B + 5000000 ≤ f → ctQ ((0 ≤ k9.toInt ∧ k9.toInt < (sR σ : Int)) ∧ (0 ≤ x9.toInt ∧ x9.toInt ≤ 100)) (if 0 ≤ k9.toInt ∧ k9.toInt < (sR σ : Int) then 2 else 1) 19 k9.toInt.toNat x9 h (zex E f d 12 0 [some (.ref 0), some (.int k9), some (.int x9), some (.ref 94), none] [] h) := by
  intro d f hd hf
  obtain ⟨n, hn⟩ : ∃ n, f = n + 10000 := ⟨f - 10000, by omega⟩
  obtain ⟨d, hd'⟩ : ∃ d', d = d' + 4 := ⟨d - 4, by omega⟩
  subst hn hd'
  have r1 := hR.1.1
  have r3 := hR.1.2.2
  have w1 := hW.1
  have w3 := hW.2.2.1
  unfold ctQ
  by_cases hp : (0 ≤ k9.toInt ∧ k9.toInt < (sR σ : Int)) ∧ (0 ≤ x9.toInt ∧ x9.toInt ≤ 100)
  · skip
    obtain ⟨h1, e1, r1q, s1, a1⟩ := remR (E := E) hE hsm gI gP gT hA (d + 2) (n + 9980) (by omega) (by omega)
    obtain ⟨n9, hn9, hn12, kx⟩ := rememX (E := E) gI gP hA
    obtain ⟨hx9, ex9, kx1, kx2, kx3⟩ := kx (d + 2) (n + 9980) (by omega) (by omega)
    obtain ⟨-, yx9⟩ := inl_j e1 ex9
    rw [← yx9] at kx1 kx2 kx3
    have e2 := qd_0 (E := E) (n := n + 9980) (d := d + 2) (h := h) (h1 := h1) (u3 := none) (gT 0 _ (show bg2 ctb 0 = some (.inr (.inl (11, [some (some 1), some (some 3), some (some 18), some (some 25), some (some 27), some (some 30), some (some 53), some (some 62), some (some 76), none]))) from rfl) (by intro z; cases z)) (gT 27 _ (show bg2 ctb 27 = some (.inr (.inl (7, [some (some 28), some (some 29), none, none]))) from rfl) (by intro z; cases z)) (nr_0 (E := E) (n := n + 9982) (d := d + 2) (p := k9) (by omega) (by rw [r1]; omega) (gT 0 _ (show bg2 ctb 0 = some (.inr (.inl (11, [some (some 1), some (some 3), some (some 18), some (some 25), some (some 27), some (some 30), some (some 53), some (some 62), some (some 76), none]))) from rfl) (by intro z; cases z)) (gT 3 _ (show bg2 ctb 3 = some (.inr (.inl (2, [some (some 4), some (some 10), some (some 17)]))) from rfl) (by intro z; cases z)) (gT 4 _ (show bg2 ctb 4 = some (.inr (.inl (8, [none, none, none, none, some (some 5), some (some 6), some (some 7), some (some 8), some (some 9)]))) from rfl) (by intro z; cases z))) (ny_0 (E := E) (n := n + 9980) (d := d + 2) (x := x9) (a := 0) (b := 100) (by rw [show (0 : Int32).toInt = 0 from by decide]; omega) (by rw [show (100 : Int32).toInt = 100 from by decide]; omega)) e1
    have e3 := qt_d (E := E) (n := n + 9966) (d := d + 3) (h := h1) (k := k9) (x := x9) (u3 := none) (K := k9.toInt.toNat) (by omega) (by omega) rfl (r1q.2.2.1 0 _ (show bg2 ctb 0 = some (.inr (.inl (11, [some (some 1), some (some 3), some (some 18), some (some 25), some (some 27), some (some 30), some (some 53), some (some 62), some (some 76), none]))) from rfl) (by intro z; cases z)) (r1q.2.2.1 18 _ (show bg2 ctb 18 = some (.inr (.inl (0, [some (some 19), some (some 20), some (some 21), some (some 22), some (some 23), some (some 24), none, none, none, none, none, none, none]))) from rfl) (by intro z; cases z)) (r1q.2.2.1 19 _ (show bg2 ctb 19 = some (.inl (0, 12, [])) from rfl) (by intro z; cases z))
    have g2T := r1q.2.2.1
    have e4 := qd_w (E := E) (n := n + 9989) (d := d + 3) (u9 := none) (h := h) (h1 := zsetI h1 19 (upd (h1.2.1 19) k9.toInt.toNat x9)) (gT 0 _ (show bg2 ctb 0 = some (.inr (.inl (11, [some (some 1), some (some 3), some (some 18), some (some 25), some (some 27), some (some 30), some (some 53), some (some 62), some (some 76), none]))) from rfl) (by intro z; cases z)) (g2T 94 _ (show bg2 ctb 94 = some (.inl (2, 1, [])) from rfl) (by intro z; cases z)) (e2.trans e3)
    have o19 : h1.2.1 19 = h.2.1 19 := kx3 19 (by decide) (by omega)
    refine ⟨0, _, e4, fun _ => ⟨rfl, ?_, fun k => ?_⟩, fun z => absurd hp z⟩
    · show (zrow h1.2.2.1 94 (vp_updL (h1.2.2.1 94) 0 (h1.2.1 19 k9.toInt.toNat).toInt64) 94 0).toInt = _
      rw [zrow_at, ← o19]
      show ((h1.2.1 19 k9.toInt.toNat).toInt64).toInt = _
      rw [Int32.toInt_toInt64]
    · show (zsetI h1 19 (upd (h1.2.1 19) k9.toInt.toNat x9)).2.1 19 k = _
      rw [zs_at, o19]
  · skip
    by_cases hc : ¬ (0 ≤ k9.toInt ∧ k9.toInt < (sR σ : Int))
    · by_cases hl : k9.toInt < 0
      · exact ⟨_, _, qd_x (E := E) (n := n + 9991) (d := d + 3) (u9 := none) (h := h) (gT 0 _ (show bg2 ctb 0 = some (.inr (.inl (11, [some (some 1), some (some 3), some (some 18), some (some 25), some (some 27), some (some 30), some (some 53), some (some 62), some (some 76), none]))) from rfl) (by intro z; cases z)) (qd_t (E := E) (n := n + 9991) (d := d + 2) (u3 := none) (gT 0 _ (show bg2 ctb 0 = some (.inr (.inl (11, [some (some 1), some (some 3), some (some 18), some (some 25), some (some 27), some (some 30), some (some 53), some (some 62), some (some 76), none]))) from rfl) (by intro z; cases z))  (nr_1 (E := E) (n := n + 9988) (d := d + 2) (p := k9) (by omega) )), fun z => absurd z hp, fun _ => ⟨by rw [if_neg hc], fun _ => rfl⟩⟩
      · exact ⟨_, _, qd_x (E := E) (n := n + 9991) (d := d + 3) (u9 := none) (h := h) (gT 0 _ (show bg2 ctb 0 = some (.inr (.inl (11, [some (some 1), some (some 3), some (some 18), some (some 25), some (some 27), some (some 30), some (some 53), some (some 62), some (some 76), none]))) from rfl) (by intro z; cases z)) (qd_t (E := E) (n := n + 9991) (d := d + 2) (u3 := none) (gT 0 _ (show bg2 ctb 0 = some (.inr (.inl (11, [some (some 1), some (some 3), some (some 18), some (some 25), some (some 27), some (some 30), some (some 53), some (some 62), some (some 76), none]))) from rfl) (by intro z; cases z))  (nr_2 (E := E) (n := n + 9982) (d := d + 2) (p := k9) (by omega) (by rw [r1]; omega) (gT 0 _ (show bg2 ctb 0 = some (.inr (.inl (11, [some (some 1), some (some 3), some (some 18), some (some 25), some (some 27), some (some 30), some (some 53), some (some 62), some (some 76), none]))) from rfl) (by intro z; cases z)) (gT 3 _ (show bg2 ctb 3 = some (.inr (.inl (2, [some (some 4), some (some 10), some (some 17)]))) from rfl) (by intro z; cases z)) (gT 4 _ (show bg2 ctb 4 = some (.inr (.inl (8, [none, none, none, none, some (some 5), some (some 6), some (some 7), some (some 8), some (some 9)]))) from rfl) (by intro z; cases z)))), fun z => absurd z hp, fun _ => ⟨by rw [if_neg hc], fun _ => rfl⟩⟩
    by_cases hl : x9.toInt < 0
    · exact ⟨_, _, qd_y (E := E) (n := n + 9991) (d := d + 3) (u9 := none) (h := h) (gT 0 _ (show bg2 ctb 0 = some (.inr (.inl (11, [some (some 1), some (some 3), some (some 18), some (some 25), some (some 27), some (some 30), some (some 53), some (some 62), some (some 76), none]))) from rfl) (by intro z; cases z)) (qd_u (E := E) (n := n + 9987) (d := d + 2) (u3 := none) (gT 0 _ (show bg2 ctb 0 = some (.inr (.inl (11, [some (some 1), some (some 3), some (some 18), some (some 25), some (some 27), some (some 30), some (some 53), some (some 62), some (some 76), none]))) from rfl) (by intro z; cases z)) (nr_0 (E := E) (n := n + 9982) (d := d + 2) (p := k9) (by omega) (by rw [r1]; omega) (gT 0 _ (show bg2 ctb 0 = some (.inr (.inl (11, [some (some 1), some (some 3), some (some 18), some (some 25), some (some 27), some (some 30), some (some 53), some (some 62), some (some 76), none]))) from rfl) (by intro z; cases z)) (gT 3 _ (show bg2 ctb 3 = some (.inr (.inl (2, [some (some 4), some (some 10), some (some 17)]))) from rfl) (by intro z; cases z)) (gT 4 _ (show bg2 ctb 4 = some (.inr (.inl (8, [none, none, none, none, some (some 5), some (some 6), some (some 7), some (some 8), some (some 9)]))) from rfl) (by intro z; cases z))) (ny_1 (E := E) (n := n + 9983) (d := d + 2) (x := x9) (a := 0) (b := 100) (by rw [show (0 : Int32).toInt = 0 from by decide]; omega))), fun z => absurd z hp, fun _ => ⟨by rw [if_pos (Decidable.not_not.mp hc)], fun _ => rfl⟩⟩
    · exact ⟨_, _, qd_y (E := E) (n := n + 9991) (d := d + 3) (u9 := none) (h := h) (gT 0 _ (show bg2 ctb 0 = some (.inr (.inl (11, [some (some 1), some (some 3), some (some 18), some (some 25), some (some 27), some (some 30), some (some 53), some (some 62), some (some 76), none]))) from rfl) (by intro z; cases z)) (qd_u (E := E) (n := n + 9987) (d := d + 2) (u3 := none) (gT 0 _ (show bg2 ctb 0 = some (.inr (.inl (11, [some (some 1), some (some 3), some (some 18), some (some 25), some (some 27), some (some 30), some (some 53), some (some 62), some (some 76), none]))) from rfl) (by intro z; cases z)) (nr_0 (E := E) (n := n + 9982) (d := d + 2) (p := k9) (by omega) (by rw [r1]; omega) (gT 0 _ (show bg2 ctb 0 = some (.inr (.inl (11, [some (some 1), some (some 3), some (some 18), some (some 25), some (some 27), some (some 30), some (some 53), some (some 62), some (some 76), none]))) from rfl) (by intro z; cases z)) (gT 3 _ (show bg2 ctb 3 = some (.inr (.inl (2, [some (some 4), some (some 10), some (some 17)]))) from rfl) (by intro z; cases z)) (gT 4 _ (show bg2 ctb 4 = some (.inr (.inl (8, [none, none, none, none, some (some 5), some (some 6), some (some 7), some (some 8), some (some 9)]))) from rfl) (by intro z; cases z))) (ny_2 (E := E) (n := n + 9980) (d := d + 2) (x := x9) (a := 0) (b := 100) (by rw [show (0 : Int32).toInt = 0 from by decide]; omega) (by rw [show (100 : Int32).toInt = 100 from by decide]; omega))), fun z => absurd z hp, fun _ => ⟨by rw [if_pos (Decidable.not_not.mp hc)], fun _ => rfl⟩⟩
set_option maxRecDepth 100000 in
theorem ctKe (hE : E.1 < 2147483648) (hsm : bSO E ctb B (60, smT)) (gI : bHI h) (gP : bPS h) (gT : bTB ctb h.1) (hA : paQ h) (hR : RC h 4 18 σ) (hW : WF σ) {k9 x9 : Int32} : ∀ d f, 90 ≤ d → B + 5000000 ≤ f → ctQ ((0 ≤ k9.toInt ∧ k9.toInt < (sP σ : Int)) ∧ (0 ≤ x9.toInt ∧ x9.toInt ≤ 100)) (if 0 ≤ k9.toInt ∧ k9.toInt < (sP σ : Int) then 2 else 1) 21 k9.toInt.toNat x9 h (zex E f d 13 0 [some (.ref 0), some (.int k9), some (.int x9), some (.ref 94), none] [] h) := by
  intro d f hd hf
  obtain ⟨n, hn⟩ : ∃ n, f = n + 10000 := ⟨f - 10000, by omega⟩
  obtain ⟨d, hd'⟩ : ∃ d', d = d' + 4 := ⟨d - 4, by omega⟩
  subst hn hd'
  have r1 := hR.1.1
  have r3 := hR.1.2.2
  have w1 := hW.1
  have w3 := hW.2.2.1
  unfold ctQ
  by_cases hp : (0 ≤ k9.toInt ∧ k9.toInt < (sP σ : Int)) ∧ (0 ≤ x9.toInt ∧ x9.toInt ≤ 100)
  · skip
    obtain ⟨h1, e1, r1q, s1, a1⟩ := remR (E := E) hE hsm gI gP gT hA (d + 2) (n + 9980) (by omega) (by omega)
    obtain ⟨n9, hn9, hn12, kx⟩ := rememX (E := E) gI gP hA
    obtain ⟨hx9, ex9, kx1, kx2, kx3⟩ := kx (d + 2) (n + 9980) (by omega) (by omega)
    obtain ⟨-, yx9⟩ := inl_j e1 ex9
    rw [← yx9] at kx1 kx2 kx3
    have e2 := qe_0 (E := E) (n := n + 9980) (d := d + 2) (h := h) (h1 := h1) (u3 := none) (gT 0 _ (show bg2 ctb 0 = some (.inr (.inl (11, [some (some 1), some (some 3), some (some 18), some (some 25), some (some 27), some (some 30), some (some 53), some (some 62), some (some 76), none]))) from rfl) (by intro z; cases z)) (gT 27 _ (show bg2 ctb 27 = some (.inr (.inl (7, [some (some 28), some (some 29), none, none]))) from rfl) (by intro z; cases z)) (np_0 (E := E) (n := n + 9982) (d := d + 2) (p := k9) (by omega) (by rw [r3]; omega) (gT 0 _ (show bg2 ctb 0 = some (.inr (.inl (11, [some (some 1), some (some 3), some (some 18), some (some 25), some (some 27), some (some 30), some (some 53), some (some 62), some (some 76), none]))) from rfl) (by intro z; cases z)) (gT 3 _ (show bg2 ctb 3 = some (.inr (.inl (2, [some (some 4), some (some 10), some (some 17)]))) from rfl) (by intro z; cases z)) (gT 4 _ (show bg2 ctb 4 = some (.inr (.inl (8, [none, none, none, none, some (some 5), some (some 6), some (some 7), some (some 8), some (some 9)]))) from rfl) (by intro z; cases z))) (ny_0 (E := E) (n := n + 9980) (d := d + 2) (x := x9) (a := 0) (b := 100) (by rw [show (0 : Int32).toInt = 0 from by decide]; omega) (by rw [show (100 : Int32).toInt = 100 from by decide]; omega)) e1
    have e3 := qt_e (E := E) (n := n + 9966) (d := d + 3) (h := h1) (k := k9) (x := x9) (u3 := none) (K := k9.toInt.toNat) (by omega) (by omega) rfl (r1q.2.2.1 0 _ (show bg2 ctb 0 = some (.inr (.inl (11, [some (some 1), some (some 3), some (some 18), some (some 25), some (some 27), some (some 30), some (some 53), some (some 62), some (some 76), none]))) from rfl) (by intro z; cases z)) (r1q.2.2.1 18 _ (show bg2 ctb 18 = some (.inr (.inl (0, [some (some 19), some (some 20), some (some 21), some (some 22), some (some 23), some (some 24), none, none, none, none, none, none, none]))) from rfl) (by intro z; cases z)) (r1q.2.2.1 21 _ (show bg2 ctb 21 = some (.inl (0, 8, [])) from rfl) (by intro z; cases z))
    have g2T := r1q.2.2.1
    have e4 := qe_w (E := E) (n := n + 9989) (d := d + 3) (u9 := none) (h := h) (h1 := zsetI h1 21 (upd (h1.2.1 21) k9.toInt.toNat x9)) (gT 0 _ (show bg2 ctb 0 = some (.inr (.inl (11, [some (some 1), some (some 3), some (some 18), some (some 25), some (some 27), some (some 30), some (some 53), some (some 62), some (some 76), none]))) from rfl) (by intro z; cases z)) (g2T 94 _ (show bg2 ctb 94 = some (.inl (2, 1, [])) from rfl) (by intro z; cases z)) (e2.trans e3)
    have o19 : h1.2.1 21 = h.2.1 21 := kx3 21 (by decide) (by omega)
    refine ⟨0, _, e4, fun _ => ⟨rfl, ?_, fun k => ?_⟩, fun z => absurd hp z⟩
    · show (zrow h1.2.2.1 94 (vp_updL (h1.2.2.1 94) 0 (h1.2.1 21 k9.toInt.toNat).toInt64) 94 0).toInt = _
      rw [zrow_at, ← o19]
      show ((h1.2.1 21 k9.toInt.toNat).toInt64).toInt = _
      rw [Int32.toInt_toInt64]
    · show (zsetI h1 21 (upd (h1.2.1 21) k9.toInt.toNat x9)).2.1 21 k = _
      rw [zs_at, o19]
  · skip
    by_cases hc : ¬ (0 ≤ k9.toInt ∧ k9.toInt < (sP σ : Int))
    · by_cases hl : k9.toInt < 0
      · exact ⟨_, _, qe_x (E := E) (n := n + 9991) (d := d + 3) (u9 := none) (h := h) (gT 0 _ (show bg2 ctb 0 = some (.inr (.inl (11, [some (some 1), some (some 3), some (some 18), some (some 25), some (some 27), some (some 30), some (some 53), some (some 62), some (some 76), none]))) from rfl) (by intro z; cases z)) (qe_t (E := E) (n := n + 9991) (d := d + 2) (u3 := none) (gT 0 _ (show bg2 ctb 0 = some (.inr (.inl (11, [some (some 1), some (some 3), some (some 18), some (some 25), some (some 27), some (some 30), some (some 53), some (some 62), some (some 76), none]))) from rfl) (by intro z; cases z))  (np_1 (E := E) (n := n + 9988) (d := d + 2) (p := k9) (by omega) )), fun z => absurd z hp, fun _ => ⟨by rw [if_neg hc], fun _ => rfl⟩⟩
      · exact ⟨_, _, qe_x (E := E) (n := n + 9991) (d := d + 3) (u9 := none) (h := h) (gT 0 _ (show bg2 ctb 0 = some (.inr (.inl (11, [some (some 1), some (some 3), some (some 18), some (some 25), some (some 27), some (some 30), some (some 53), some (some 62), some (some 76), none]))) from rfl) (by intro z; cases z)) (qe_t (E := E) (n := n + 9991) (d := d + 2) (u3 := none) (gT 0 _ (show bg2 ctb 0 = some (.inr (.inl (11, [some (some 1), some (some 3), some (some 18), some (some 25), some (some 27), some (some 30), some (some 53), some (some 62), some (some 76), none]))) from rfl) (by intro z; cases z))  (np_2 (E := E) (n := n + 9982) (d := d + 2) (p := k9) (by omega) (by rw [r3]; omega) (gT 0 _ (show bg2 ctb 0 = some (.inr (.inl (11, [some (some 1), some (some 3), some (some 18), some (some 25), some (some 27), some (some 30), some (some 53), some (some 62), some (some 76), none]))) from rfl) (by intro z; cases z)) (gT 3 _ (show bg2 ctb 3 = some (.inr (.inl (2, [some (some 4), some (some 10), some (some 17)]))) from rfl) (by intro z; cases z)) (gT 4 _ (show bg2 ctb 4 = some (.inr (.inl (8, [none, none, none, none, some (some 5), some (some 6), some (some 7), some (some 8), some (some 9)]))) from rfl) (by intro z; cases z)))), fun z => absurd z hp, fun _ => ⟨by rw [if_neg hc], fun _ => rfl⟩⟩
    by_cases hl : x9.toInt < 0
    · exact ⟨_, _, qe_y (E := E) (n := n + 9991) (d := d + 3) (u9 := none) (h := h) (gT 0 _ (show bg2 ctb 0 = some (.inr (.inl (11, [some (some 1), some (some 3), some (some 18), some (some 25), some (some 27), some (some 30), some (some 53), some (some 62), some (some 76), none]))) from rfl) (by intro z; cases z)) (qe_u (E := E) (n := n + 9987) (d := d + 2) (u3 := none) (gT 0 _ (show bg2 ctb 0 = some (.inr (.inl (11, [some (some 1), some (some 3), some (some 18), some (some 25), some (some 27), some (some 30), some (some 53), some (some 62), some (some 76), none]))) from rfl) (by intro z; cases z)) (np_0 (E := E) (n := n + 9982) (d := d + 2) (p := k9) (by omega) (by rw [r3]; omega) (gT 0 _ (show bg2 ctb 0 = some (.inr (.inl (11, [some (some 1), some (some 3), some (some 18), some (some 25), some (some 27), some (some 30), some (some 53), some (some 62), some (some 76), none]))) from rfl) (by intro z; cases z)) (gT 3 _ (show bg2 ctb 3 = some (.inr (.inl (2, [some (some 4), some (some 10), some (some 17)]))) from rfl) (by intro z; cases z)) (gT 4 _ (show bg2 ctb 4 = some (.inr (.inl (8, [none, none, none, none, some (some 5), some (some 6), some (some 7), some (some 8), some (some 9)]))) from rfl) (by intro z; cases z))) (ny_1 (E := E) (n := n + 9983) (d := d + 2) (x := x9) (a := 0) (b := 100) (by rw [show (0 : Int32).toInt = 0 from by decide]; omega))), fun z => absurd z hp, fun _ => ⟨by rw [if_pos (Decidable.not_not.mp hc)], fun _ => rfl⟩⟩
    · exact ⟨_, _, qe_y (E := E) (n := n + 9991) (d := d + 3) (u9 := none) (h := h) (gT 0 _ (show bg2 ctb 0 = some (.inr (.inl (11, [some (some 1), some (some 3), some (some 18), some (some 25), some (some 27), some (some 30), some (some 53), some (some 62), some (some 76), none]))) from rfl) (by intro z; cases z)) (qe_u (E := E) (n := n + 9987) (d := d + 2) (u3 := none) (gT 0 _ (show bg2 ctb 0 = some (.inr (.inl (11, [some (some 1), some (some 3), some (some 18), some (some 25), some (some 27), some (some 30), some (some 53), some (some 62), some (some 76), none]))) from rfl) (by intro z; cases z)) (np_0 (E := E) (n := n + 9982) (d := d + 2) (p := k9) (by omega) (by rw [r3]; omega) (gT 0 _ (show bg2 ctb 0 = some (.inr (.inl (11, [some (some 1), some (some 3), some (some 18), some (some 25), some (some 27), some (some 30), some (some 53), some (some 62), some (some 76), none]))) from rfl) (by intro z; cases z)) (gT 3 _ (show bg2 ctb 3 = some (.inr (.inl (2, [some (some 4), some (some 10), some (some 17)]))) from rfl) (by intro z; cases z)) (gT 4 _ (show bg2 ctb 4 = some (.inr (.inl (8, [none, none, none, none, some (some 5), some (some 6), some (some 7), some (some 8), some (some 9)]))) from rfl) (by intro z; cases z))) (ny_2 (E := E) (n := n + 9980) (d := d + 2) (x := x9) (a := 0) (b := 100) (by rw [show (0 : Int32).toInt = 0 from by decide]; omega) (by rw [show (100 : Int32).toInt = 100 from by decide]; omega))), fun z => absurd z hp, fun _ => ⟨by rw [if_pos (Decidable.not_not.mp hc)], fun _ => rfl⟩⟩
set_option maxRecDepth 100000 in
theorem ctSo (hE : E.1 < 2147483648) (hsm : bSO E ctb B (60, smT)) (gI : bHI h) (gP : bPS h) (gT : bTB ctb h.1) (hA : paQ h) (hR : RC h 4 18 σ) (hW : WF σ) {k9 x9 : Int32} : ∀ d f, 90 ≤ d → B + 5000000 ≤ f → ctQ ((0 ≤ k9.toInt ∧ k9.toInt < (sP σ : Int)) ∧ (0 ≤ x9.toInt ∧ x9.toInt ≤ 99)) (if 0 ≤ k9.toInt ∧ k9.toInt < (sP σ : Int) then 2 else 1) 22 k9.toInt.toNat x9 h (zex E f d 14 0 [some (.ref 0), some (.int k9), some (.int x9), some (.ref 94), none] [] h) := by
  intro d f hd hf
  obtain ⟨n, hn⟩ : ∃ n, f = n + 10000 := ⟨f - 10000, by omega⟩
  obtain ⟨d, hd'⟩ : ∃ d', d = d' + 4 := ⟨d - 4, by omega⟩
  subst hn hd'
  have r1 := hR.1.1
  have r3 := hR.1.2.2
  have w1 := hW.1
  have w3 := hW.2.2.1
  unfold ctQ
  by_cases hp : (0 ≤ k9.toInt ∧ k9.toInt < (sP σ : Int)) ∧ (0 ≤ x9.toInt ∧ x9.toInt ≤ 99)
  · skip
    obtain ⟨h1, e1, r1q, s1, a1⟩ := remR (E := E) hE hsm gI gP gT hA (d + 2) (n + 9980) (by omega) (by omega)
    obtain ⟨n9, hn9, hn12, kx⟩ := rememX (E := E) gI gP hA
    obtain ⟨hx9, ex9, kx1, kx2, kx3⟩ := kx (d + 2) (n + 9980) (by omega) (by omega)
    obtain ⟨-, yx9⟩ := inl_j e1 ex9
    rw [← yx9] at kx1 kx2 kx3
    have e2 := qf_0 (E := E) (n := n + 9980) (d := d + 2) (h := h) (h1 := h1) (u3 := none) (gT 0 _ (show bg2 ctb 0 = some (.inr (.inl (11, [some (some 1), some (some 3), some (some 18), some (some 25), some (some 27), some (some 30), some (some 53), some (some 62), some (some 76), none]))) from rfl) (by intro z; cases z)) (gT 27 _ (show bg2 ctb 27 = some (.inr (.inl (7, [some (some 28), some (some 29), none, none]))) from rfl) (by intro z; cases z)) (np_0 (E := E) (n := n + 9982) (d := d + 2) (p := k9) (by omega) (by rw [r3]; omega) (gT 0 _ (show bg2 ctb 0 = some (.inr (.inl (11, [some (some 1), some (some 3), some (some 18), some (some 25), some (some 27), some (some 30), some (some 53), some (some 62), some (some 76), none]))) from rfl) (by intro z; cases z)) (gT 3 _ (show bg2 ctb 3 = some (.inr (.inl (2, [some (some 4), some (some 10), some (some 17)]))) from rfl) (by intro z; cases z)) (gT 4 _ (show bg2 ctb 4 = some (.inr (.inl (8, [none, none, none, none, some (some 5), some (some 6), some (some 7), some (some 8), some (some 9)]))) from rfl) (by intro z; cases z))) (ny_0 (E := E) (n := n + 9980) (d := d + 2) (x := x9) (a := 0) (b := 99) (by rw [show (0 : Int32).toInt = 0 from by decide]; omega) (by rw [show (99 : Int32).toInt = 99 from by decide]; omega)) e1
    have e3 := qt_f (E := E) (n := n + 9966) (d := d + 3) (h := h1) (k := k9) (x := x9) (u3 := none) (K := k9.toInt.toNat) (by omega) (by omega) rfl (r1q.2.2.1 0 _ (show bg2 ctb 0 = some (.inr (.inl (11, [some (some 1), some (some 3), some (some 18), some (some 25), some (some 27), some (some 30), some (some 53), some (some 62), some (some 76), none]))) from rfl) (by intro z; cases z)) (r1q.2.2.1 18 _ (show bg2 ctb 18 = some (.inr (.inl (0, [some (some 19), some (some 20), some (some 21), some (some 22), some (some 23), some (some 24), none, none, none, none, none, none, none]))) from rfl) (by intro z; cases z)) (r1q.2.2.1 22 _ (show bg2 ctb 22 = some (.inl (0, 8, [])) from rfl) (by intro z; cases z))
    have g2T := r1q.2.2.1
    have e4 := qf_w (E := E) (n := n + 9989) (d := d + 3) (u9 := none) (h := h) (h1 := zsetI h1 22 (upd (h1.2.1 22) k9.toInt.toNat x9)) (gT 0 _ (show bg2 ctb 0 = some (.inr (.inl (11, [some (some 1), some (some 3), some (some 18), some (some 25), some (some 27), some (some 30), some (some 53), some (some 62), some (some 76), none]))) from rfl) (by intro z; cases z)) (g2T 94 _ (show bg2 ctb 94 = some (.inl (2, 1, [])) from rfl) (by intro z; cases z)) (e2.trans e3)
    have o19 : h1.2.1 22 = h.2.1 22 := kx3 22 (by decide) (by omega)
    refine ⟨0, _, e4, fun _ => ⟨rfl, ?_, fun k => ?_⟩, fun z => absurd hp z⟩
    · show (zrow h1.2.2.1 94 (vp_updL (h1.2.2.1 94) 0 (h1.2.1 22 k9.toInt.toNat).toInt64) 94 0).toInt = _
      rw [zrow_at, ← o19]
      show ((h1.2.1 22 k9.toInt.toNat).toInt64).toInt = _
      rw [Int32.toInt_toInt64]
    · show (zsetI h1 22 (upd (h1.2.1 22) k9.toInt.toNat x9)).2.1 22 k = _
      rw [zs_at, o19]
  · skip
    by_cases hc : ¬ (0 ≤ k9.toInt ∧ k9.toInt < (sP σ : Int))
    · by_cases hl : k9.toInt < 0
      · exact ⟨_, _, qf_x (E := E) (n := n + 9991) (d := d + 3) (u9 := none) (h := h) (gT 0 _ (show bg2 ctb 0 = some (.inr (.inl (11, [some (some 1), some (some 3), some (some 18), some (some 25), some (some 27), some (some 30), some (some 53), some (some 62), some (some 76), none]))) from rfl) (by intro z; cases z)) (qf_t (E := E) (n := n + 9991) (d := d + 2) (u3 := none) (gT 0 _ (show bg2 ctb 0 = some (.inr (.inl (11, [some (some 1), some (some 3), some (some 18), some (some 25), some (some 27), some (some 30), some (some 53), some (some 62), some (some 76), none]))) from rfl) (by intro z; cases z))  (np_1 (E := E) (n := n + 9988) (d := d + 2) (p := k9) (by omega) )), fun z => absurd z hp, fun _ => ⟨by rw [if_neg hc], fun _ => rfl⟩⟩
      · exact ⟨_, _, qf_x (E := E) (n := n + 9991) (d := d + 3) (u9 := none) (h := h) (gT 0 _ (show bg2 ctb 0 = some (.inr (.inl (11, [some (some 1), some (some 3), some (some 18), some (some 25), some (some 27), some (some 30), some (some 53), some (some 62), some (some 76), none]))) from rfl) (by intro z; cases z)) (qf_t (E := E) (n := n + 9991) (d := d + 2) (u3 := none) (gT 0 _ (show bg2 ctb 0 = some (.inr (.inl (11, [some (some 1), some (some 3), some (some 18), some (some 25), some (some 27), some (some 30), some (some 53), some (some 62), some (some 76), none]))) from rfl) (by intro z; cases z))  (np_2 (E := E) (n := n + 9982) (d := d + 2) (p := k9) (by omega) (by rw [r3]; omega) (gT 0 _ (show bg2 ctb 0 = some (.inr (.inl (11, [some (some 1), some (some 3), some (some 18), some (some 25), some (some 27), some (some 30), some (some 53), some (some 62), some (some 76), none]))) from rfl) (by intro z; cases z)) (gT 3 _ (show bg2 ctb 3 = some (.inr (.inl (2, [some (some 4), some (some 10), some (some 17)]))) from rfl) (by intro z; cases z)) (gT 4 _ (show bg2 ctb 4 = some (.inr (.inl (8, [none, none, none, none, some (some 5), some (some 6), some (some 7), some (some 8), some (some 9)]))) from rfl) (by intro z; cases z)))), fun z => absurd z hp, fun _ => ⟨by rw [if_neg hc], fun _ => rfl⟩⟩
    by_cases hl : x9.toInt < 0
    · exact ⟨_, _, qf_y (E := E) (n := n + 9991) (d := d + 3) (u9 := none) (h := h) (gT 0 _ (show bg2 ctb 0 = some (.inr (.inl (11, [some (some 1), some (some 3), some (some 18), some (some 25), some (some 27), some (some 30), some (some 53), some (some 62), some (some 76), none]))) from rfl) (by intro z; cases z)) (qf_u (E := E) (n := n + 9987) (d := d + 2) (u3 := none) (gT 0 _ (show bg2 ctb 0 = some (.inr (.inl (11, [some (some 1), some (some 3), some (some 18), some (some 25), some (some 27), some (some 30), some (some 53), some (some 62), some (some 76), none]))) from rfl) (by intro z; cases z)) (np_0 (E := E) (n := n + 9982) (d := d + 2) (p := k9) (by omega) (by rw [r3]; omega) (gT 0 _ (show bg2 ctb 0 = some (.inr (.inl (11, [some (some 1), some (some 3), some (some 18), some (some 25), some (some 27), some (some 30), some (some 53), some (some 62), some (some 76), none]))) from rfl) (by intro z; cases z)) (gT 3 _ (show bg2 ctb 3 = some (.inr (.inl (2, [some (some 4), some (some 10), some (some 17)]))) from rfl) (by intro z; cases z)) (gT 4 _ (show bg2 ctb 4 = some (.inr (.inl (8, [none, none, none, none, some (some 5), some (some 6), some (some 7), some (some 8), some (some 9)]))) from rfl) (by intro z; cases z))) (ny_1 (E := E) (n := n + 9983) (d := d + 2) (x := x9) (a := 0) (b := 99) (by rw [show (0 : Int32).toInt = 0 from by decide]; omega))), fun z => absurd z hp, fun _ => ⟨by rw [if_pos (Decidable.not_not.mp hc)], fun _ => rfl⟩⟩
    · exact ⟨_, _, qf_y (E := E) (n := n + 9991) (d := d + 3) (u9 := none) (h := h) (gT 0 _ (show bg2 ctb 0 = some (.inr (.inl (11, [some (some 1), some (some 3), some (some 18), some (some 25), some (some 27), some (some 30), some (some 53), some (some 62), some (some 76), none]))) from rfl) (by intro z; cases z)) (qf_u (E := E) (n := n + 9987) (d := d + 2) (u3 := none) (gT 0 _ (show bg2 ctb 0 = some (.inr (.inl (11, [some (some 1), some (some 3), some (some 18), some (some 25), some (some 27), some (some 30), some (some 53), some (some 62), some (some 76), none]))) from rfl) (by intro z; cases z)) (np_0 (E := E) (n := n + 9982) (d := d + 2) (p := k9) (by omega) (by rw [r3]; omega) (gT 0 _ (show bg2 ctb 0 = some (.inr (.inl (11, [some (some 1), some (some 3), some (some 18), some (some 25), some (some 27), some (some 30), some (some 53), some (some 62), some (some 76), none]))) from rfl) (by intro z; cases z)) (gT 3 _ (show bg2 ctb 3 = some (.inr (.inl (2, [some (some 4), some (some 10), some (some 17)]))) from rfl) (by intro z; cases z)) (gT 4 _ (show bg2 ctb 4 = some (.inr (.inl (8, [none, none, none, none, some (some 5), some (some 6), some (some 7), some (some 8), some (some 9)]))) from rfl) (by intro z; cases z))) (ny_2 (E := E) (n := n + 9980) (d := d + 2) (x := x9) (a := 0) (b := 99) (by rw [show (0 : Int32).toInt = 0 from by decide]; omega) (by rw [show (99 : Int32).toInt = 99 from by decide]; omega))), fun z => absurd z hp, fun _ => ⟨by rw [if_pos (Decidable.not_not.mp hc)], fun _ => rfl⟩⟩
end CB
