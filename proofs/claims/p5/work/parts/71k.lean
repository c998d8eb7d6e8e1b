/-! straight steps with heaps (wip/zab2/c/gen37.py) -/
set_option maxRecDepth 100000 in
theorem zgi {E : zE} {n d mi pc ln w9 a1 a2 a3 : Nat} {z : Int32} {ls : zLs} {r : List Value} {h : zH} {ci fk i9 a : Nat} {sl : List (Option (Option Nat))} (hf : zfetch mi pc = some (.getfield i9, ln, (ci, fk, a3), z, w9)) (ha : zat h.1 a = some (.inr (.inl (ci, sl)))) (hs : zat sl fk = some none) : zex E (n + 1) d mi pc ls (.ref a :: r) h = zex E n d mi (pc + ln) ls (.int (h.2.1 a fk) :: r) h := by
  refine (zx1 hf).trans ?_
  exact zget_n (K := fun s => zex E n d mi (pc + ln) ls s h) ha hs
set_option maxRecDepth 100000 in
theorem zgk {E : zE} {n d mi pc ln w9 a1 a2 a3 : Nat} {z : Int32} {ls : zLs} {r : List Value} {h : zH} {ci fk i9 a : Nat} {sl : List (Option (Option Nat))} {v : Int32} (hf : zfetch mi pc = some (.getfield i9, ln, (ci, fk, a3), z, w9)) (ha : zat h.1 a = some (.inr (.inl (ci, sl)))) (hs : zat sl fk = some none) (hv : h.2.1 a fk = v) : zex E (n + 1) d mi pc ls (.ref a :: r) h = zex E n d mi (pc + ln) ls (.int v :: r) h := by
  refine (zx1 hf).trans ?_
  rw [← hv]
  exact zget_n (K := fun s => zex E n d mi (pc + ln) ls s h) ha hs
set_option maxRecDepth 100000 in
theorem zpx {E : zE} {n d mi pc ln w9 a1 a2 a3 : Nat} {z : Int32} {ls : zLs} {r : List Value} {h : zH} {ci fk i9 a : Nat} {sl : List (Option (Option Nat))} {y : Int32} (hf : zfetch mi pc = some (.putfield i9, ln, (ci, fk, a3), 0, w9)) (ha : zat h.1 a = some (.inr (.inl (ci, sl)))) (hs : zat sl fk = some none) : zex E (n + 1) d mi pc ls (.int y :: .ref a :: r) h = zex E n d mi (pc + ln) ls r (zsetI h a (upd (h.2.1 a) fk y)) := by
  refine (zx1 hf).trans ?_
  exact zpi (K := fun s h' => zex E n d mi (pc + ln) ls s h') ha hs
set_option maxRecDepth 100000 in
theorem zlk {E : zE} {n d mi pc ln w9 a1 a2 a3 : Nat} {z : Int32} {ls : zLs} {r : List Value} {h : zH} {m a N : Nat} {rf : List (Option Nat)} {j : Int32} {v : Int32} (hf : zfetch mi pc = some (.iaload, ln, (a1, a2, a3), z, w9)) (ha : zat h.1 a = some (.inl (0, m, rf))) (hj : j.toInt = (N : Int)) (hN : N < m) (hv : h.2.1 a N = v) : zex E (n + 1) d mi pc ls (.int j :: .ref a :: r) h = zex E n d mi (pc + ln) ls (.int v :: r) h := by
  refine (zx1 hf).trans ?_
  show zarr h 0 a (fun m => zck j m (zex E n d mi (pc + ln) ls (.int (h.2.1 a j.toNatClampNeg) :: r) h)) = _
  rw [zarr_k ha, zck_i hj hN, ztc_i hj, hv]
set_option maxRecDepth 100000 in
theorem zlb {E : zE} {n d mi pc ln w9 a1 a2 a3 : Nat} {z : Int32} {ls : zLs} {r : List Value} {h : zH} {m a N : Nat} {rf : List (Option Nat)} {j : Int32} {v : Int32} (hf : zfetch mi pc = some (.baload, ln, (a1, a2, a3), z, w9)) (ha : zat h.1 a = some (.inl (1, m, rf))) (hj : j.toInt = (N : Int)) (hN : N < m) (hv : h.2.1 a N = v) : zex E (n + 1) d mi pc ls (.int j :: .ref a :: r) h = zex E n d mi (pc + ln) ls (.int v :: r) h := by
  refine (zx1 hf).trans ?_
  show zarr h 1 a (fun m => zck j m (zex E n d mi (pc + ln) ls (.int (h.2.1 a j.toNatClampNeg) :: r) h)) = _
  rw [zarr_k ha, zck_i hj hN, ztc_i hj, hv]
set_option maxRecDepth 100000 in
theorem zlj {E : zE} {n d mi pc ln w9 a1 a2 a3 : Nat} {z : Int32} {ls : zLs} {r : List Value} {h : zH} {m a N : Nat} {rf : List (Option Nat)} {j : Int32} {v : Int64} (hf : zfetch mi pc = some (.laload, ln, (a1, a2, a3), z, w9)) (ha : zat h.1 a = some (.inl (2, m, rf))) (hj : j.toInt = (N : Int)) (hN : N < m) (hv : h.2.2.1 a N = v) : zex E (n + 1) d mi pc ls (.int j :: .ref a :: r) h = zex E n d mi (pc + ln) ls (.long v :: r) h := by
  refine (zx1 hf).trans ?_
  show zarr h 2 a (fun m => zck j m (zex E n d mi (pc + ln) ls (.long (h.2.2.1 a j.toNatClampNeg) :: r) h)) = _
  rw [zarr_k ha, zck_i hj hN, ztc_i hj, hv]
set_option maxRecDepth 100000 in
theorem zlF9 {E : zE} {n d mi pc ln w9 a1 a2 a3 : Nat} {z : Int32} {ls : zLs} {r : List Value} {h : zH} {N : Nat} {j : Int32} (hf : zfetch mi pc = some (.iaload, ln, (a1, a2, a3), z, w9)) (hj : j.toInt = (N : Int)) (hN : N < E.1) : zex E (n + 1) d mi pc ls (.int j :: .float 0 :: r) h = zex E n d mi (pc + ln) ls (.int (E.2 N) :: r) h := by
  refine (zx1 hf).trans ?_
  show zck j E.1 (zex E n d mi (pc + ln) ls (.int (E.2 j.toNatClampNeg) :: r) h) = _
  rw [zck_i hj hN, ztc_i hj]
set_option maxRecDepth 100000 in
theorem zsk {E : zE} {n d mi pc ln w9 a1 a2 a3 : Nat} {z : Int32} {ls : zLs} {r : List Value} {h : zH} {m a N : Nat} {rf : List (Option Nat)} {j : Int32} {x : Int32} (hf : zfetch mi pc = some (.iastore, ln, (a1, a2, a3), z, w9)) (ha : zat h.1 a = some (.inl (0, m, rf))) (hj : j.toInt = (N : Int)) (hN : N < m)  : zex E (n + 1) d mi pc ls (.int x :: .int j :: .ref a :: r) h = zex E n d mi (pc + ln) ls r (zsetI h a (upd (h.2.1 a) N x)) := by
  refine (zx1 hf).trans ?_
  show zarr h 0 a (fun m => zck j m (zex E n d mi (pc + ln) ls r (zsetI h a (upd (h.2.1 a) j.toNatClampNeg x)))) = _
  rw [zarr_k ha, zck_i hj hN, ztc_i hj]
set_option maxRecDepth 100000 in
theorem zsb {E : zE} {n d mi pc ln w9 a1 a2 a3 : Nat} {z : Int32} {ls : zLs} {r : List Value} {h : zH} {m a N : Nat} {rf : List (Option Nat)} {j : Int32} {x : Int32} (hf : zfetch mi pc = some (.bastore, ln, (a1, a2, a3), z, w9)) (ha : zat h.1 a = some (.inl (1, m, rf))) (hj : j.toInt = (N : Int)) (hN : N < m)  : zex E (n + 1) d mi pc ls (.int x :: .int j :: .ref a :: r) h = zex E n d mi (pc + ln) ls r (zsetI h a (upd (h.2.1 a) N x.toInt8.toInt32)) := by
  refine (zx1 hf).trans ?_
  show zarr h 1 a (fun m => zck j m (zex E n d mi (pc + ln) ls r (zsetI h a (upd (h.2.1 a) j.toNatClampNeg x.toInt8.toInt32)))) = _
  rw [zarr_k ha, zck_i hj hN, ztc_i hj]
set_option maxRecDepth 100000 in
theorem zsj {E : zE} {n d mi pc ln w9 a1 a2 a3 : Nat} {z : Int32} {ls : zLs} {r : List Value} {h : zH} {m a N : Nat} {rf : List (Option Nat)} {j : Int32} {x : Int64} (hf : zfetch mi pc = some (.lastore, ln, (a1, a2, a3), z, w9)) (ha : zat h.1 a = some (.inl (2, m, rf))) (hj : j.toInt = (N : Int)) (hN : N < m)  : zex E (n + 1) d mi pc ls (.long x :: .int j :: .ref a :: r) h = zex E n d mi (pc + ln) ls r (zsetJ h a (vp_updL (h.2.2.1 a) N x)) := by
  refine (zx1 hf).trans ?_
  show zarr h 2 a (fun m => zck j m (zex E n d mi (pc + ln) ls r (zsetJ h a (vp_updL (h.2.2.1 a) j.toNatClampNeg x)))) = _
  rw [zarr_k ha, zck_i hj hN, ztc_i hj]
set_option maxRecDepth 100000 in
theorem zi0 : (0 : Int32).toInt = 0 := by decide
set_option maxRecDepth 100000 in
theorem zieq {x y : Int32} (h : x.toInt = y.toInt) : x = y := Int32.toInt_inj.mp h
set_option maxRecDepth 100000 in
theorem zilt {x y : Int32} : x < y ↔ x.toInt < y.toInt := Int32.lt_iff_toInt_lt
set_option maxRecDepth 100000 in
theorem zile {x y : Int32} : x ≤ y ↔ x.toInt ≤ y.toInt := Int32.le_iff_toInt_le
set_option maxRecDepth 100000 in
theorem zjeT {E : zE} {n d mi pc ln w9 a1 a2 a3 : Nat} {z : Int32} {ls : zLs} {r : List Value} {h : zH} {i9 : Int} {x : Int32} (hf : zfetch mi pc = some (.ifCond .eq i9, ln, (a1, a2, a3), z, w9)) (hx : x.toInt = 0) : zex E (n + 1) d mi pc ls (.int x :: r) h = zex E n d mi a1 ls r h := by
  refine (zx1 hf).trans ?_
  show (if x = 0 then _ else _) = _
  exact if_pos (zieq (hx.trans zi0.symm))
set_option maxRecDepth 100000 in
theorem zjeF {E : zE} {n d mi pc ln w9 a1 a2 a3 : Nat} {z : Int32} {ls : zLs} {r : List Value} {h : zH} {i9 : Int} {x : Int32} (hf : zfetch mi pc = some (.ifCond .eq i9, ln, (a1, a2, a3), z, w9)) (hx : x.toInt ≠ 0) : zex E (n + 1) d mi pc ls (.int x :: r) h = zex E n d mi (pc + ln) ls r h := by
  refine (zx1 hf).trans ?_
  show (if x = 0 then _ else _) = _
  exact if_neg (fun e => hx (by rw [e]; exact zi0))
set_option maxRecDepth 100000 in
theorem zjnT {E : zE} {n d mi pc ln w9 a1 a2 a3 : Nat} {z : Int32} {ls : zLs} {r : List Value} {h : zH} {i9 : Int} {x : Int32} (hf : zfetch mi pc = some (.ifCond .ne i9, ln, (a1, a2, a3), z, w9)) (hx : x.toInt ≠ 0) : zex E (n + 1) d mi pc ls (.int x :: r) h = zex E n d mi a1 ls r h := by
  refine (zx1 hf).trans ?_
  show (if x = 0 then _ else _) = _
  exact if_neg (fun e => hx (by rw [e]; exact zi0))
set_option maxRecDepth 100000 in
theorem zjnF {E : zE} {n d mi pc ln w9 a1 a2 a3 : Nat} {z : Int32} {ls : zLs} {r : List Value} {h : zH} {i9 : Int} {x : Int32} (hf : zfetch mi pc = some (.ifCond .ne i9, ln, (a1, a2, a3), z, w9)) (hx : x.toInt = 0) : zex E (n + 1) d mi pc ls (.int x :: r) h = zex E n d mi (pc + ln) ls r h := by
  refine (zx1 hf).trans ?_
  show (if x = 0 then _ else _) = _
  exact if_pos (zieq (hx.trans zi0.symm))
set_option maxRecDepth 100000 in
theorem zjlT {E : zE} {n d mi pc ln w9 a1 a2 a3 : Nat} {z : Int32} {ls : zLs} {r : List Value} {h : zH} {i9 : Int} {x : Int32} (hf : zfetch mi pc = some (.ifCond .lt i9, ln, (a1, a2, a3), z, w9)) (hx : x.toInt < 0) : zex E (n + 1) d mi pc ls (.int x :: r) h = zex E n d mi a1 ls r h := by
  refine (zx1 hf).trans ?_
  show (if x < 0 then _ else _) = _
  exact if_pos (zilt.mpr (by rw [zi0]; exact hx))
set_option maxRecDepth 100000 in
theorem zjlF {E : zE} {n d mi pc ln w9 a1 a2 a3 : Nat} {z : Int32} {ls : zLs} {r : List Value} {h : zH} {i9 : Int} {x : Int32} (hf : zfetch mi pc = some (.ifCond .lt i9, ln, (a1, a2, a3), z, w9)) (hx : 0 ≤ x.toInt) : zex E (n + 1) d mi pc ls (.int x :: r) h = zex E n d mi (pc + ln) ls r h := by
  refine (zx1 hf).trans ?_
  show (if x < 0 then _ else _) = _
  exact if_neg (fun e => absurd (zilt.mp e) (by rw [zi0]; omega))
set_option maxRecDepth 100000 in
theorem zjgT {E : zE} {n d mi pc ln w9 a1 a2 a3 : Nat} {z : Int32} {ls : zLs} {r : List Value} {h : zH} {i9 : Int} {x : Int32} (hf : zfetch mi pc = some (.ifCond .ge i9, ln, (a1, a2, a3), z, w9)) (hx : 0 ≤ x.toInt) : zex E (n + 1) d mi pc ls (.int x :: r) h = zex E n d mi a1 ls r h := by
  refine (zx1 hf).trans ?_
  show (if 0 ≤ x then _ else _) = _
  exact if_pos (zile.mpr (by rw [zi0]; exact hx))
set_option maxRecDepth 100000 in
theorem zjgF {E : zE} {n d mi pc ln w9 a1 a2 a3 : Nat} {z : Int32} {ls : zLs} {r : List Value} {h : zH} {i9 : Int} {x : Int32} (hf : zfetch mi pc = some (.ifCond .ge i9, ln, (a1, a2, a3), z, w9)) (hx : x.toInt < 0) : zex E (n + 1) d mi pc ls (.int x :: r) h = zex E n d mi (pc + ln) ls r h := by
  refine (zx1 hf).trans ?_
  show (if 0 ≤ x then _ else _) = _
  exact if_neg (fun e => absurd (zile.mp e) (by rw [zi0]; omega))
set_option maxRecDepth 100000 in
theorem zjhT {E : zE} {n d mi pc ln w9 a1 a2 a3 : Nat} {z : Int32} {ls : zLs} {r : List Value} {h : zH} {i9 : Int} {x : Int32} (hf : zfetch mi pc = some (.ifCond .gt i9, ln, (a1, a2, a3), z, w9)) (hx : 0 < x.toInt) : zex E (n + 1) d mi pc ls (.int x :: r) h = zex E n d mi a1 ls r h := by
  refine (zx1 hf).trans ?_
  show (if 0 < x then _ else _) = _
  exact if_pos (zilt.mpr (by rw [zi0]; exact hx))
set_option maxRecDepth 100000 in
theorem zjhF {E : zE} {n d mi pc ln w9 a1 a2 a3 : Nat} {z : Int32} {ls : zLs} {r : List Value} {h : zH} {i9 : Int} {x : Int32} (hf : zfetch mi pc = some (.ifCond .gt i9, ln, (a1, a2, a3), z, w9)) (hx : x.toInt ≤ 0) : zex E (n + 1) d mi pc ls (.int x :: r) h = zex E n d mi (pc + ln) ls r h := by
  refine (zx1 hf).trans ?_
  show (if 0 < x then _ else _) = _
  exact if_neg (fun e => absurd (zilt.mp e) (by rw [zi0]; omega))
set_option maxRecDepth 100000 in
theorem zjiT {E : zE} {n d mi pc ln w9 a1 a2 a3 : Nat} {z : Int32} {ls : zLs} {r : List Value} {h : zH} {i9 : Int} {x : Int32} (hf : zfetch mi pc = some (.ifCond .le i9, ln, (a1, a2, a3), z, w9)) (hx : x.toInt ≤ 0) : zex E (n + 1) d mi pc ls (.int x :: r) h = zex E n d mi a1 ls r h := by
  refine (zx1 hf).trans ?_
  show (if x ≤ 0 then _ else _) = _
  exact if_pos (zile.mpr (by rw [zi0]; exact hx))
set_option maxRecDepth 100000 in
theorem zjiF {E : zE} {n d mi pc ln w9 a1 a2 a3 : Nat} {z : Int32} {ls : zLs} {r : List Value} {h : zH} {i9 : Int} {x : Int32} (hf : zfetch mi pc = some (.ifCond .le i9, ln, (a1, a2, a3), z, w9)) (hx : 0 < x.toInt) : zex E (n + 1) d mi pc ls (.int x :: r) h = zex E n d mi (pc + ln) ls r h := by
  refine (zx1 hf).trans ?_
  show (if x ≤ 0 then _ else _) = _
  exact if_neg (fun e => absurd (zile.mp e) (by rw [zi0]; omega))
set_option maxRecDepth 100000 in
theorem zkeT {E : zE} {n d mi pc ln w9 a1 a2 a3 : Nat} {z : Int32} {ls : zLs} {r : List Value} {h : zH} {i9 : Int} {x y : Int32} (hf : zfetch mi pc = some (.if_icmp .eq i9, ln, (a1, a2, a3), z, w9)) (hx : x.toInt = y.toInt) : zex E (n + 1) d mi pc ls (.int y :: .int x :: r) h = zex E n d mi a1 ls r h := by
  refine (zx1 hf).trans ?_
  show (if x = y then _ else _) = _
  exact if_pos (zieq hx)
set_option maxRecDepth 100000 in
theorem zkeF {E : zE} {n d mi pc ln w9 a1 a2 a3 : Nat} {z : Int32} {ls : zLs} {r : List Value} {h : zH} {i9 : Int} {x y : Int32} (hf : zfetch mi pc = some (.if_icmp .eq i9, ln, (a1, a2, a3), z, w9)) (hx : x.toInt ≠ y.toInt) : zex E (n + 1) d mi pc ls (.int y :: .int x :: r) h = zex E n d mi (pc + ln) ls r h := by
  refine (zx1 hf).trans ?_
  show (if x = y then _ else _) = _
  exact if_neg (fun e => hx (by rw [e]))
set_option maxRecDepth 100000 in
theorem zknT {E : zE} {n d mi pc ln w9 a1 a2 a3 : Nat} {z : Int32} {ls : zLs} {r : List Value} {h : zH} {i9 : Int} {x y : Int32} (hf : zfetch mi pc = some (.if_icmp .ne i9, ln, (a1, a2, a3), z, w9)) (hx : x.toInt ≠ y.toInt) : zex E (n + 1) d mi pc ls (.int y :: .int x :: r) h = zex E n d mi a1 ls r h := by
  refine (zx1 hf).trans ?_
  show (if x = y then _ else _) = _
  exact if_neg (fun e => hx (by rw [e]))
set_option maxRecDepth 100000 in
theorem zknF {E : zE} {n d mi pc ln w9 a1 a2 a3 : Nat} {z : Int32} {ls : zLs} {r : List Value} {h : zH} {i9 : Int} {x y : Int32} (hf : zfetch mi pc = some (.if_icmp .ne i9, ln, (a1, a2, a3), z, w9)) (hx : x.toInt = y.toInt) : zex E (n + 1) d mi pc ls (.int y :: .int x :: r) h = zex E n d mi (pc + ln) ls r h := by
  refine (zx1 hf).trans ?_
  show (if x = y then _ else _) = _
  exact if_pos (zieq hx)
set_option maxRecDepth 100000 in
theorem zklT {E : zE} {n d mi pc ln w9 a1 a2 a3 : Nat} {z : Int32} {ls : zLs} {r : List Value} {h : zH} {i9 : Int} {x y : Int32} (hf : zfetch mi pc = some (.if_icmp .lt i9, ln, (a1, a2, a3), z, w9)) (hx : x.toInt < y.toInt) : zex E (n + 1) d mi pc ls (.int y :: .int x :: r) h = zex E n d mi a1 ls r h := by
  refine (zx1 hf).trans ?_
  show (if x < y then _ else _) = _
  exact if_pos (zilt.mpr hx)
set_option maxRecDepth 100000 in
theorem zklF {E : zE} {n d mi pc ln w9 a1 a2 a3 : Nat} {z : Int32} {ls : zLs} {r : List Value} {h : zH} {i9 : Int} {x y : Int32} (hf : zfetch mi pc = some (.if_icmp .lt i9, ln, (a1, a2, a3), z, w9)) (hx : y.toInt ≤ x.toInt) : zex E (n + 1) d mi pc ls (.int y :: .int x :: r) h = zex E n d mi (pc + ln) ls r h := by
  refine (zx1 hf).trans ?_
  show (if x < y then _ else _) = _
  exact if_neg (fun e => absurd (zilt.mp e) (by omega))
set_option maxRecDepth 100000 in
theorem zkgT {E : zE} {n d mi pc ln w9 a1 a2 a3 : Nat} {z : Int32} {ls : zLs} {r : List Value} {h : zH} {i9 : Int} {x y : Int32} (hf : zfetch mi pc = some (.if_icmp .ge i9, ln, (a1, a2, a3), z, w9)) (hx : y.toInt ≤ x.toInt) : zex E (n + 1) d mi pc ls (.int y :: .int x :: r) h = zex E n d mi a1 ls r h := by
  refine (zx1 hf).trans ?_
  show (if y ≤ x then _ else _) = _
  exact if_pos (zile.mpr hx)
set_option maxRecDepth 100000 in
theorem zkgF {E : zE} {n d mi pc ln w9 a1 a2 a3 : Nat} {z : Int32} {ls : zLs} {r : List Value} {h : zH} {i9 : Int} {x y : Int32} (hf : zfetch mi pc = some (.if_icmp .ge i9, ln, (a1, a2, a3), z, w9)) (hx : x.toInt < y.toInt) : zex E (n + 1) d mi pc ls (.int y :: .int x :: r) h = zex E n d mi (pc + ln) ls r h := by
  refine (zx1 hf).trans ?_
  show (if y ≤ x then _ else _) = _
  exact if_neg (fun e => absurd (zile.mp e) (by omega))
set_option maxRecDepth 100000 in
theorem zkhT {E : zE} {n d mi pc ln w9 a1 a2 a3 : Nat} {z : Int32} {ls : zLs} {r : List Value} {h : zH} {i9 : Int} {x y : Int32} (hf : zfetch mi pc = some (.if_icmp .gt i9, ln, (a1, a2, a3), z, w9)) (hx : y.toInt < x.toInt) : zex E (n + 1) d mi pc ls (.int y :: .int x :: r) h = zex E n d mi a1 ls r h := by
  refine (zx1 hf).trans ?_
  show (if y < x then _ else _) = _
  exact if_pos (zilt.mpr hx)
set_option maxRecDepth 100000 in
theorem zkhF {E : zE} {n d mi pc ln w9 a1 a2 a3 : Nat} {z : Int32} {ls : zLs} {r : List Value} {h : zH} {i9 : Int} {x y : Int32} (hf : zfetch mi pc = some (.if_icmp .gt i9, ln, (a1, a2, a3), z, w9)) (hx : x.toInt ≤ y.toInt) : zex E (n + 1) d mi pc ls (.int y :: .int x :: r) h = zex E n d mi (pc + ln) ls r h := by
  refine (zx1 hf).trans ?_
  show (if y < x then _ else _) = _
  exact if_neg (fun e => absurd (zilt.mp e) (by omega))
set_option maxRecDepth 100000 in
theorem zkiT {E : zE} {n d mi pc ln w9 a1 a2 a3 : Nat} {z : Int32} {ls : zLs} {r : List Value} {h : zH} {i9 : Int} {x y : Int32} (hf : zfetch mi pc = some (.if_icmp .le i9, ln, (a1, a2, a3), z, w9)) (hx : x.toInt ≤ y.toInt) : zex E (n + 1) d mi pc ls (.int y :: .int x :: r) h = zex E n d mi a1 ls r h := by
  refine (zx1 hf).trans ?_
  show (if x ≤ y then _ else _) = _
  exact if_pos (zile.mpr hx)
set_option maxRecDepth 100000 in
theorem zkiF {E : zE} {n d mi pc ln w9 a1 a2 a3 : Nat} {z : Int32} {ls : zLs} {r : List Value} {h : zH} {i9 : Int} {x y : Int32} (hf : zfetch mi pc = some (.if_icmp .le i9, ln, (a1, a2, a3), z, w9)) (hx : y.toInt < x.toInt) : zex E (n + 1) d mi pc ls (.int y :: .int x :: r) h = zex E n d mi (pc + ln) ls r h := by
  refine (zx1 hf).trans ?_
  show (if x ≤ y then _ else _) = _
  exact if_neg (fun e => absurd (zile.mp e) (by omega))
set_option maxRecDepth 100000 in
theorem zcvt {E : zE} {n d mi pc j a3 ln i9 w9 na mL ci rk b t x : Nat} {z : Int32} {sl : List (Option (Option Nat))} {ls : zLs} {st as r : List Value} {h h1 : zH} {e9 : Nat × Nat × Nat × Nat} {l9 : List (Nat × Nat × Nat × Nat)} (hf : zfetch mi pc = some (.invokevirtual i9, ln, (0, j, a3), z, w9)) (hj : zat zmi j = some (na, mL, 0, ci, rk, 0)) (hp : zpop na st [] = some (.ref b :: as, r)) (hb : zat h.1 b = some (.inr (.inl (ci, sl)))) (hr : (Nat.ble (zsum r) 8 && (Value.ref b :: as).all zc1) = true) (ha3 : Nat.beq a3 0 = true) (hz : zat zhs mi = some (e9 :: l9)) (ht : zhand (e9 :: l9) pc x = some t)
    (hc : zex E n d j 0 (zent mL (.ref b :: as)) [] h = some (.inr x, h1)) : zex E (n + 1) (d + 1) mi pc ls st h = zex E n (d + 1) mi t ls [.double 0] h1 := by
  refine (zx1 hf).trans ?_
  show zinv (zex E n) (zex E n (d + 1) mi (pc + ln)) (d + 1) mi pc j (Nat.beq a3 0) ls st h = _
  unfold zinv
  rw [hj]
  simp only
  rw [hp]
  simp only
  rw [hr, cond_true]
  unfold zrecv
  simp only
  rw [hb]
  simp only
  rw [Nat.beq_refl, cond_true, hc]
  unfold zcall
  simp only
  rw [ha3, Nat.beq_refl, hz]
  simp only
  rw [ht]
  rfl
set_option maxRecDepth 100000 in
theorem zcvs {E : zE} {n d mi pc j a3 ln i9 w9 na mL stc ci rk kd : Nat} {z : Int32} {ls : zLs} {st as r : List Value} {h h1 : zH} {v : Option Value} (hf : zfetch mi pc = some (.invokestatic i9, ln, (0, j, a3), z, w9)) (hj : zat zmi j = some (na, mL, stc + 1, ci, rk, kd)) (hp : zpop na st [] = some (as, r)) (hr : (Nat.ble (zsum r) 8 && as.all zc1) = true)
    (hc : zex E n d j 0 (zent mL as) [] h = some (.inl v, h1)) : zex E (n + 1) (d + 1) mi pc ls st h = zex E n (d + 1) mi (pc + ln) ls (v.toList ++ r) h1 := by
  refine (zx1 hf).trans ?_
  show zinv (zex E n) (zex E n (d + 1) mi (pc + ln)) (d + 1) mi pc j (Nat.beq a3 0) ls st h = _
  unfold zinv
  rw [hj]
  simp only
  rw [hp]
  simp only
  rw [hr, cond_true]
  unfold zrecv
  simp only
  rw [hc]
  rfl
