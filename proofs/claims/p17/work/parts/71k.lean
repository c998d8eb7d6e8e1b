/-! straight steps with heaps (wip/zab2/c/gen37.py) -/
set_option maxRecDepth 100000 in
theorem zgi {E : zE} {n d mi pc ln w9 a3 : Nat} {z : Int32} {ls : zLs} {r : List Value} {h : zH} {ci fk i9 a : Nat} {sl : List (Option (Option Nat))} (hf : zfetch mi pc = some (.getfield i9, ln, (ci, fk, a3), z, w9)) (ha : zat h.1 a = some (.inr (.inl (ci, sl)))) (hs : zat sl fk = some none) : zex E (n + 1) d mi pc ls (.ref a :: r) h = zex E n d mi (pc + ln) ls (.int (h.2.1 a fk) :: r) h := by
  refine (zx1 hf).trans ?_
  exact zget_n (K := fun s => zex E n d mi (pc + ln) ls s h) ha hs
set_option maxRecDepth 100000 in
theorem zgk {E : zE} {n d mi pc ln w9 a3 : Nat} {z : Int32} {ls : zLs} {r : List Value} {h : zH} {ci fk i9 a : Nat} {sl : List (Option (Option Nat))} {v : Int32} (hf : zfetch mi pc = some (.getfield i9, ln, (ci, fk, a3), z, w9)) (ha : zat h.1 a = some (.inr (.inl (ci, sl)))) (hs : zat sl fk = some none) (hv : h.2.1 a fk = v) : zex E (n + 1) d mi pc ls (.ref a :: r) h = zex E n d mi (pc + ln) ls (.int v :: r) h := by
  refine (zx1 hf).trans ?_
  rw [← hv]
  exact zget_n (K := fun s => zex E n d mi (pc + ln) ls s h) ha hs
set_option maxRecDepth 100000 in
theorem zpx {E : zE} {n d mi pc ln w9 a3 : Nat} {ls : zLs} {r : List Value} {h : zH} {ci fk i9 a : Nat} {sl : List (Option (Option Nat))} {y : Int32} (hf : zfetch mi pc = some (.putfield i9, ln, (ci, fk, a3), 0, w9)) (ha : zat h.1 a = some (.inr (.inl (ci, sl)))) (hs : zat sl fk = some none) : zex E (n + 1) d mi pc ls (.int y :: .ref a :: r) h = zex E n d mi (pc + ln) ls r (zsetI h a (upd (h.2.1 a) fk y)) := by
  refine (zx1 hf).trans ?_
  exact zpi (K := fun s h' => zex E n d mi (pc + ln) ls s h') ha hs
set_option maxRecDepth 100000 in
theorem zlk {E : zE} {n d mi pc ln w9 a1 a2 a3 : Nat} {z : Int32} {ls : zLs} {r : List Value} {h : zH} {m a N : Nat} {rf : List (Option Nat)} {j : Int32} {v : Int32} (hf : zfetch mi pc = some (.iaload, ln, (a1, a2, a3), z, w9)) (ha : zat h.1 a = some (.inl (0, m, rf))) (hj : j.toInt = (N : Int)) (hN : N < m) (hv : h.2.1 a N = v) : zex E (n + 1) d mi pc ls (.int j :: .ref a :: r) h = zex E n d mi (pc + ln) ls (.int v :: r) h := by
  refine (zx1 hf).trans ?_
  show zarr h 0 a (fun m => zck j m (zex E n d mi (pc + ln) ls (.int (h.2.1 a j.toNatClampNeg) :: r) h)) = _
  rw [zarr_k ha, zck_i hj hN, ztc_i hj, hv]
set_option maxRecDepth 100000 in
theorem zlb {E : zE} {n d mi pc ln w9 a1 a2 a3 : Nat} {z : Int32} {ls : zLs} {r : List Value} {h : zH} {m a N : Nat} {rf : List (Option Nat)} {j : Int32} {v : Int32} (hf : zfetch mi pc = some (.baload, ln, (a1, a2, a3), z, w9)) (ha : zat h.1 a = some (.inl (1, m, rf))) (hj : j.toInt = (N : Int)) (hN : N < m) (hv : h.2.1 a N = v) : zex E (n + 1) d mi pc ls (.int j :: .ref a :: r) h = zex E n d mi (pc + ln) ls (.int v :: r) h := by
  refine (zx1 hf).trans ?_
  show zarr h 1 a (fun m => zck j m (zex E n d mi (pc + ln) ls (.int (h.2.1 a j.toNatClampNeg) :: r) h)) = _
  rw [zarr_k ha, zck_i hj hN, ztc_i hj, hv]
set_option maxRecDepth 100000 in
theorem zlj {E : zE} {n d mi pc ln w9 a1 a2 a3 : Nat} {z : Int32} {ls : zLs} {r : List Value} {h : zH} {m a N : Nat} {rf : List (Option Nat)} {j : Int32} {v : Int64} (hf : zfetch mi pc = some (.laload, ln, (a1, a2, a3), z, w9)) (ha : zat h.1 a = some (.inl (2, m, rf))) (hj : j.toInt = (N : Int)) (hN : N < m) (hv : h.2.2.1 a N = v) : zex E (n + 1) d mi pc ls (.int j :: .ref a :: r) h = zex E n d mi (pc + ln) ls (.long v :: r) h := by
  refine (zx1 hf).trans ?_
  show zarr h 2 a (fun m => zck j m (zex E n d mi (pc + ln) ls (.long (h.2.2.1 a j.toNatClampNeg) :: r) h)) = _
  rw [zarr_k ha, zck_i hj hN, ztc_i hj, hv]
set_option maxRecDepth 100000 in
theorem zlF9 {E : zE} {n d mi pc ln w9 a1 a2 a3 : Nat} {z : Int32} {ls : zLs} {r : List Value} {h : zH} {N : Nat} {j : Int32} (hf : zfetch mi pc = some (.iaload, ln, (a1, a2, a3), z, w9)) (hj : j.toInt = (N : Int)) (hN : N < E.1) : zex E (n + 1) d mi pc ls (.int j :: .float 0 :: r) h = zex E n d mi (pc + ln) ls (.int (E.2 N) :: r) h := by
  refine (zx1 hf).trans ?_
  show zck j E.1 (zex E n d mi (pc + ln) ls (.int (E.2 j.toNatClampNeg) :: r) h) = _
  rw [zck_i hj hN, ztc_i hj]
set_option maxRecDepth 100000 in
theorem zsk {E : zE} {n d mi pc ln w9 a1 a2 a3 : Nat} {z : Int32} {ls : zLs} {r : List Value} {h : zH} {m a N : Nat} {rf : List (Option Nat)} {j : Int32} {x : Int32} (hf : zfetch mi pc = some (.iastore, ln, (a1, a2, a3), z, w9)) (ha : zat h.1 a = some (.inl (0, m, rf))) (hj : j.toInt = (N : Int)) (hN : N < m)  : zex E (n + 1) d mi pc ls (.int x :: .int j :: .ref a :: r) h = zex E n d mi (pc + ln) ls r (zsetI h a (upd (h.2.1 a) N x)) := by
  refine (zx1 hf).trans ?_
  show zarr h 0 a (fun m => zck j m (zex E n d mi (pc + ln) ls r (zsetI h a (upd (h.2.1 a) j.toNatClampNeg x)))) = _
  rw [zarr_k ha, zck_i hj hN, ztc_i hj]
set_option maxRecDepth 100000 in
theorem zsb {E : zE} {n d mi pc ln w9 a1 a2 a3 : Nat} {z : Int32} {ls : zLs} {r : List Value} {h : zH} {m a N : Nat} {rf : List (Option Nat)} {j : Int32} {x : Int32} (hf : zfetch mi pc = some (.bastore, ln, (a1, a2, a3), z, w9)) (ha : zat h.1 a = some (.inl (1, m, rf))) (hj : j.toInt = (N : Int)) (hN : N < m)  : zex E (n + 1) d mi pc ls (.int x :: .int j :: .ref a :: r) h = zex E n d mi (pc + ln) ls r (zsetI h a (upd (h.2.1 a) N x.toInt8.toInt32)) := by
  refine (zx1 hf).trans ?_
  show zarr h 1 a (fun m => zck j m (zex E n d mi (pc + ln) ls r (zsetI h a (upd (h.2.1 a) j.toNatClampNeg x.toInt8.toInt32)))) = _
  rw [zarr_k ha, zck_i hj hN, ztc_i hj]
set_option maxRecDepth 100000 in
theorem zsj {E : zE} {n d mi pc ln w9 a1 a2 a3 : Nat} {z : Int32} {ls : zLs} {r : List Value} {h : zH} {m a N : Nat} {rf : List (Option Nat)} {j : Int32} {x : Int64} (hf : zfetch mi pc = some (.lastore, ln, (a1, a2, a3), z, w9)) (ha : zat h.1 a = some (.inl (2, m, rf))) (hj : j.toInt = (N : Int)) (hN : N < m)  : zex E (n + 1) d mi pc ls (.long x :: .int j :: .ref a :: r) h = zex E n d mi (pc + ln) ls r (zsetJ h a (vp_updL (h.2.2.1 a) N x)) := by
  refine (zx1 hf).trans ?_
  show zarr h 2 a (fun m => zck j m (zex E n d mi (pc + ln) ls r (zsetJ h a (vp_updL (h.2.2.1 a) j.toNatClampNeg x)))) = _
  rw [zarr_k ha, zck_i hj hN, ztc_i hj]
set_option maxRecDepth 100000 in
theorem yAn {E : zE} {n d mi pc ln w9 a1 a2 a3 : Nat} {z : Int32} {ls : zLs} {r : List Value} {h : zH} {i : Fin 4} {v : Value} (hf : zfetch mi pc = some (.aload_n i, ln, (a1, a2, a3), z, w9)) (hl : zat ls i.val = some (some v)) (hv : zisA v = true) : zex E (n + 1) d mi pc ls r h = zex E n d mi (pc + ln) ls (v :: r) h := by
  refine (zx1 hf).trans ?_
  show zldA (fun s => zex E n d mi (pc + ln) ls s h) ls i.val r = _
  unfold zldA
  rw [hl]
  simp only
  rw [hv, cond_true]
set_option maxRecDepth 100000 in
theorem yA {E : zE} {n d mi pc ln w9 a1 a2 a3 : Nat} {z : Int32} {ls : zLs} {r : List Value} {h : zH} {i : Nat} {v : Value} (hf : zfetch mi pc = some (.aload i, ln, (a1, a2, a3), z, w9)) (hl : zat ls i = some (some v)) (hv : zisA v = true) : zex E (n + 1) d mi pc ls r h = zex E n d mi (pc + ln) ls (v :: r) h := by
  refine (zx1 hf).trans ?_
  show zldA (fun s => zex E n d mi (pc + ln) ls s h) ls i r = _
  unfold zldA
  rw [hl]
  simp only
  rw [hv, cond_true]
set_option maxRecDepth 100000 in
theorem yIn {E : zE} {n d mi pc ln w9 a1 a2 a3 : Nat} {z : Int32} {ls : zLs} {r : List Value} {h : zH} {i : Fin 4} {x : Int32} (hf : zfetch mi pc = some (.iload_n i, ln, (a1, a2, a3), z, w9)) (hl : zat ls i.val = some (some (.int x))) : zex E (n + 1) d mi pc ls r h = zex E n d mi (pc + ln) ls (.int x :: r) h := by
  refine (zx1 hf).trans ?_
  show zldI (fun s => zex E n d mi (pc + ln) ls s h) ls i.val r = _
  unfold zldI
  rw [hl]
set_option maxRecDepth 100000 in
theorem yI {E : zE} {n d mi pc ln w9 a1 a2 a3 : Nat} {z : Int32} {ls : zLs} {r : List Value} {h : zH} {i : Nat} {x : Int32} (hf : zfetch mi pc = some (.iload i, ln, (a1, a2, a3), z, w9)) (hl : zat ls i = some (some (.int x))) : zex E (n + 1) d mi pc ls r h = zex E n d mi (pc + ln) ls (.int x :: r) h := by
  refine (zx1 hf).trans ?_
  show zldI (fun s => zex E n d mi (pc + ln) ls s h) ls i r = _
  unfold zldI
  rw [hl]
set_option maxRecDepth 100000 in
theorem ySn {E : zE} {n d mi pc ln w9 a1 a2 a3 : Nat} {z : Int32} {ls : zLs} {r : List Value} {h : zH} {i : Fin 4} {x : Int32} (hf : zfetch mi pc = some (.istore_n i, ln, (a1, a2, a3), z, w9))  : zex E (n + 1) d mi pc ls (.int x :: r) h = zex E n d mi (pc + ln) (zstl ls i.val (.int x)) r h := by
  refine (zx1 hf).trans ?_
  rfl
set_option maxRecDepth 100000 in
theorem yS {E : zE} {n d mi pc ln w9 a1 a2 a3 : Nat} {z : Int32} {ls : zLs} {r : List Value} {h : zH} {i : Nat} {x : Int32} (hf : zfetch mi pc = some (.istore i, ln, (a1, a2, a3), z, w9))  : zex E (n + 1) d mi pc ls (.int x :: r) h = zex E n d mi (pc + ln) (zstl ls i (.int x)) r h := by
  refine (zx1 hf).trans ?_
  rfl
set_option maxRecDepth 100000 in
theorem yDnr {E : zE} {n d mi pc ln w9 a1 a2 a3 : Nat} {z : Int32} {ls : zLs} {r : List Value} {h : zH} {i : Fin 4} {x : Nat} (hf : zfetch mi pc = some (.astore_n i, ln, (a1, a2, a3), z, w9))  : zex E (n + 1) d mi pc ls (.ref x :: r) h = zex E n d mi (pc + ln) (zstl ls i.val (.ref x)) r h := by
  refine (zx1 hf).trans ?_
  rfl
set_option maxRecDepth 100000 in
theorem yDnd {E : zE} {n d mi pc ln w9 a1 a2 a3 : Nat} {z : Int32} {ls : zLs} {r : List Value} {h : zH} {i : Fin 4} (hf : zfetch mi pc = some (.astore_n i, ln, (a1, a2, a3), z, w9))  : zex E (n + 1) d mi pc ls (.double 0 :: r) h = zex E n d mi (pc + ln) (zstl ls i.val (.double 0)) r h := by
  refine (zx1 hf).trans ?_
  rfl
set_option maxRecDepth 100000 in
theorem yDr {E : zE} {n d mi pc ln w9 a1 a2 a3 : Nat} {z : Int32} {ls : zLs} {r : List Value} {h : zH} {i : Nat} {x : Nat} (hf : zfetch mi pc = some (.astore i, ln, (a1, a2, a3), z, w9))  : zex E (n + 1) d mi pc ls (.ref x :: r) h = zex E n d mi (pc + ln) (zstl ls i (.ref x)) r h := by
  refine (zx1 hf).trans ?_
  rfl
set_option maxRecDepth 100000 in
theorem yDd {E : zE} {n d mi pc ln w9 a1 a2 a3 : Nat} {z : Int32} {ls : zLs} {r : List Value} {h : zH} {i : Nat} (hf : zfetch mi pc = some (.astore i, ln, (a1, a2, a3), z, w9))  : zex E (n + 1) d mi pc ls (.double 0 :: r) h = zex E n d mi (pc + ln) (zstl ls i (.double 0)) r h := by
  refine (zx1 hf).trans ?_
  rfl
set_option maxRecDepth 100000 in
theorem yCi {E : zE} {n d mi pc ln w9 a1 a2 a3 : Nat} {z : Int32} {ls : zLs} {r : List Value} {h : zH} {i : Int} (hf : zfetch mi pc = some (.iconst i, ln, (a1, a2, a3), z, w9))  : zex E (n + 1) d mi pc ls r h = zex E n d mi (pc + ln) ls (.int z :: r) h := by
  refine (zx1 hf).trans ?_
  rfl
set_option maxRecDepth 100000 in
theorem yCb {E : zE} {n d mi pc ln w9 a1 a2 a3 : Nat} {z : Int32} {ls : zLs} {r : List Value} {h : zH} {i : Int} (hf : zfetch mi pc = some (.bipush i, ln, (a1, a2, a3), z, w9))  : zex E (n + 1) d mi pc ls r h = zex E n d mi (pc + ln) ls (.int z :: r) h := by
  refine (zx1 hf).trans ?_
  rfl
set_option maxRecDepth 100000 in
theorem yCs {E : zE} {n d mi pc ln w9 a1 a2 a3 : Nat} {z : Int32} {ls : zLs} {r : List Value} {h : zH} {i : Int} (hf : zfetch mi pc = some (.sipush i, ln, (a1, a2, a3), z, w9))  : zex E (n + 1) d mi pc ls r h = zex E n d mi (pc + ln) ls (.int z :: r) h := by
  refine (zx1 hf).trans ?_
  rfl
set_option maxRecDepth 100000 in
theorem yLs {E : zE} {n d mi pc ln w9 a2 a3 : Nat} {z : Int32} {ls : zLs} {r : List Value} {h : zH} {i : Nat} (hf : zfetch mi pc = some (.ldc i, ln, (1, a2, a3), z, w9))  : zex E (n + 1) d mi pc ls r h = zex E n d mi (pc + ln) ls (.retAddr a2 :: r) h := by
  refine (zx1 hf).trans ?_
  rfl
set_option maxRecDepth 100000 in
theorem yAdd {E : zE} {n d mi pc ln w9 a1 a2 a3 : Nat} {z : Int32} {ls : zLs} {r : List Value} {h : zH} {x y : Int32} (hf : zfetch mi pc = some (.iadd, ln, (a1, a2, a3), z, w9))  : zex E (n + 1) d mi pc ls (.int y :: .int x :: r) h = zex E n d mi (pc + ln) ls (.int (x + y) :: r) h := by
  refine (zx1 hf).trans ?_
  rfl
set_option maxRecDepth 100000 in
theorem ySub {E : zE} {n d mi pc ln w9 a1 a2 a3 : Nat} {z : Int32} {ls : zLs} {r : List Value} {h : zH} {x y : Int32} (hf : zfetch mi pc = some (.isub, ln, (a1, a2, a3), z, w9))  : zex E (n + 1) d mi pc ls (.int y :: .int x :: r) h = zex E n d mi (pc + ln) ls (.int (x - y) :: r) h := by
  refine (zx1 hf).trans ?_
  rfl
set_option maxRecDepth 100000 in
theorem yMul {E : zE} {n d mi pc ln w9 a1 a2 a3 : Nat} {z : Int32} {ls : zLs} {r : List Value} {h : zH} {x y : Int32} (hf : zfetch mi pc = some (.imul, ln, (a1, a2, a3), z, w9))  : zex E (n + 1) d mi pc ls (.int y :: .int x :: r) h = zex E n d mi (pc + ln) ls (.int (x * y) :: r) h := by
  refine (zx1 hf).trans ?_
  rfl
set_option maxRecDepth 100000 in
theorem yAnd {E : zE} {n d mi pc ln w9 a1 a2 a3 : Nat} {z : Int32} {ls : zLs} {r : List Value} {h : zH} {x y : Int32} (hf : zfetch mi pc = some (.iand, ln, (a1, a2, a3), z, w9))  : zex E (n + 1) d mi pc ls (.int y :: .int x :: r) h = zex E n d mi (pc + ln) ls (.int (x &&& y) :: r) h := by
  refine (zx1 hf).trans ?_
  rfl
set_option maxRecDepth 100000 in
theorem yOr {E : zE} {n d mi pc ln w9 a1 a2 a3 : Nat} {z : Int32} {ls : zLs} {r : List Value} {h : zH} {x y : Int32} (hf : zfetch mi pc = some (.ior, ln, (a1, a2, a3), z, w9))  : zex E (n + 1) d mi pc ls (.int y :: .int x :: r) h = zex E n d mi (pc + ln) ls (.int (x ||| y) :: r) h := by
  refine (zx1 hf).trans ?_
  rfl
set_option maxRecDepth 100000 in
theorem yShr {E : zE} {n d mi pc ln w9 a1 a2 a3 : Nat} {z : Int32} {ls : zLs} {r : List Value} {h : zH} {x y : Int32} (hf : zfetch mi pc = some (.ishr, ln, (a1, a2, a3), z, w9))  : zex E (n + 1) d mi pc ls (.int y :: .int x :: r) h = zex E n d mi (pc + ln) ls (.int (x >>> (y &&& 31)) :: r) h := by
  refine (zx1 hf).trans ?_
  rfl
set_option maxRecDepth 100000 in
theorem yShl {E : zE} {n d mi pc ln w9 a1 a2 a3 : Nat} {z : Int32} {ls : zLs} {r : List Value} {h : zH} {x y : Int32} (hf : zfetch mi pc = some (.ishl, ln, (a1, a2, a3), z, w9))  : zex E (n + 1) d mi pc ls (.int y :: .int x :: r) h = zex E n d mi (pc + ln) ls (.int (x <<< (y &&& 31)) :: r) h := by
  refine (zx1 hf).trans ?_
  rfl
set_option maxRecDepth 100000 in
theorem yUsh {E : zE} {n d mi pc ln w9 a1 a2 a3 : Nat} {z : Int32} {ls : zLs} {r : List Value} {h : zH} {x y : Int32} (hf : zfetch mi pc = some (.iushr, ln, (a1, a2, a3), z, w9))  : zex E (n + 1) d mi pc ls (.int y :: .int x :: r) h = zex E n d mi (pc + ln) ls (.int (x.toUInt32 >>> (y.toUInt32 &&& Int32.toUInt32 31)).toInt32 :: r) h := by
  refine (zx1 hf).trans ?_
  rfl
set_option maxRecDepth 100000 in
theorem yDiv {E : zE} {n d mi pc ln w9 a1 a2 a3 : Nat} {z : Int32} {ls : zLs} {r : List Value} {h : zH} {x y : Int32} (hf : zfetch mi pc = some (.idiv, ln, (a1, a2, a3), z, w9)) (hy : y ≠ 0) : zex E (n + 1) d mi pc ls (.int y :: .int x :: r) h = zex E n d mi (pc + ln) ls (.int (x / y) :: r) h := by
  refine (zx1 hf).trans ?_
  show znz y (zex E n d mi (pc + ln) ls (.int (x / y) :: r) h) = _
  unfold znz
  rw [if_neg hy]
set_option maxRecDepth 100000 in
theorem yRem {E : zE} {n d mi pc ln w9 a1 a2 a3 : Nat} {z : Int32} {ls : zLs} {r : List Value} {h : zH} {x y : Int32} (hf : zfetch mi pc = some (.irem, ln, (a1, a2, a3), z, w9)) (hy : y ≠ 0) : zex E (n + 1) d mi pc ls (.int y :: .int x :: r) h = zex E n d mi (pc + ln) ls (.int (x - x / y * y) :: r) h := by
  refine (zx1 hf).trans ?_
  show znz y (zex E n d mi (pc + ln) ls (.int (x - x / y * y) :: r) h) = _
  unfold znz
  rw [if_neg hy]
set_option maxRecDepth 100000 in
theorem yI2b {E : zE} {n d mi pc ln w9 a1 a2 a3 : Nat} {z : Int32} {ls : zLs} {r : List Value} {h : zH} {x : Int32} (hf : zfetch mi pc = some (.i2b, ln, (a1, a2, a3), z, w9))  : zex E (n + 1) d mi pc ls (.int x :: r) h = zex E n d mi (pc + ln) ls (.int x.toInt8.toInt32 :: r) h := by
  refine (zx1 hf).trans ?_
  rfl
set_option maxRecDepth 100000 in
theorem yI2l {E : zE} {n d mi pc ln w9 a1 a2 a3 : Nat} {z : Int32} {ls : zLs} {r : List Value} {h : zH} {x : Int32} (hf : zfetch mi pc = some (.i2l, ln, (a1, a2, a3), z, w9))  : zex E (n + 1) d mi pc ls (.int x :: r) h = zex E n d mi (pc + ln) ls (.long x.toInt64 :: r) h := by
  refine (zx1 hf).trans ?_
  rfl
set_option maxRecDepth 100000 in
theorem yLcmp {E : zE} {n d mi pc ln w9 a1 a2 a3 : Nat} {z : Int32} {ls : zLs} {r : List Value} {h : zH} {x y : Int64} (hf : zfetch mi pc = some (.lcmp, ln, (a1, a2, a3), z, w9))  : zex E (n + 1) d mi pc ls (.long y :: .long x :: r) h = zex E n d mi (pc + ln) ls (.int (lg_cmp x y) :: r) h := by
  refine (zx1 hf).trans ?_
  rfl
set_option maxRecDepth 100000 in
theorem yInc {E : zE} {n d mi pc ln w9 a1 a2 a3 : Nat} {z : Int32} {ls : zLs} {r : List Value} {h : zH} {i : Nat} {j : Int} {x : Int32} (hf : zfetch mi pc = some (.iinc i j, ln, (a1, a2, a3), z, w9)) (hl : zat ls i = some (some (.int x))) : zex E (n + 1) d mi pc ls r h = zex E n d mi (pc + ln) (zstl ls i (.int (x + z))) r h := by
  refine (zx1 hf).trans ?_
  show zinc (fun l => zex E n d mi (pc + ln) l r h) ls i z = _
  unfold zinc
  rw [hl]
set_option maxRecDepth 100000 in
theorem yDup {E : zE} {n d mi pc ln w9 a1 a2 a3 : Nat} {z : Int32} {ls : zLs} {r : List Value} {h : zH} {v : Value} (hf : zfetch mi pc = some (.dup, ln, (a1, a2, a3), z, w9)) (hv : zc1 v = true) : zex E (n + 1) d mi pc ls (v :: r) h = zex E n d mi (pc + ln) ls (v :: v :: r) h := by
  refine (zx1 hf).trans ?_
  show cond (zc1 v) (zex E n d mi (pc + ln) ls (v :: v :: r) h) none = _
  rw [hv, cond_true]
set_option maxRecDepth 100000 in
theorem yDup2 {E : zE} {n d mi pc ln w9 a1 a2 a3 : Nat} {z : Int32} {ls : zLs} {r : List Value} {h : zH} {v u : Value} (hf : zfetch mi pc = some (.dup2, ln, (a1, a2, a3), z, w9)) (hv : (zc1 v && zc1 u) = true) : zex E (n + 1) d mi pc ls (v :: u :: r) h = zex E n d mi (pc + ln) ls (v :: u :: v :: u :: r) h := by
  refine (zx1 hf).trans ?_
  show cond (zc1 v && zc1 u) (zex E n d mi (pc + ln) ls (v :: u :: v :: u :: r) h) none = _
  rw [hv, cond_true]
set_option maxRecDepth 100000 in
theorem yPop {E : zE} {n d mi pc ln w9 a1 a2 a3 : Nat} {z : Int32} {ls : zLs} {r : List Value} {h : zH} {v : Value} (hf : zfetch mi pc = some (.pop, ln, (a1, a2, a3), z, w9)) (hv : zc1 v = true) : zex E (n + 1) d mi pc ls (v :: r) h = zex E n d mi (pc + ln) ls r h := by
  refine (zx1 hf).trans ?_
  show cond (zc1 v) (zex E n d mi (pc + ln) ls r h) none = _
  rw [hv, cond_true]
set_option maxRecDepth 100000 in
theorem yGo {E : zE} {n d mi pc ln w9 a1 a2 a3 : Nat} {z : Int32} {ls : zLs} {r : List Value} {h : zH} {i : Int} (hf : zfetch mi pc = some (.goto i, ln, (a1, a2, a3), z, w9))  : zex E (n + 1) d mi pc ls r h = zex E n d mi a1 ls r h := by
  refine (zx1 hf).trans ?_
  rfl
set_option maxRecDepth 100000 in
theorem yRet1 {E : zE} {n d mi pc ln w9 a1 a2 a3 : Nat} {z : Int32} {ls : zLs} {h : zH} {x : Int32} {q1 q2 q3 q4 q6 : Nat} (hf : zfetch mi pc = some (.ireturn, ln, (a1, a2, a3), z, w9)) (hm : zat zmi mi = some (q1, q2, q3, q4, 1, q6)) : zex E (n + 1) d mi pc ls [.int x] h = some (.inl (some (.int x)), h) := by
  refine (zx1 hf).trans ?_
  show ((match zat zmi mi with | some (_, _, _, _, 1, _) => some (.inl (some (.int x)), h) | some (_, _, _, _, 2, _) => zc01 x (some (.inl (some (.int x)), h)) | _ => none) : Option zR) = _
  rw [hm]
  rfl
set_option maxRecDepth 100000 in
theorem yRet2 {E : zE} {n d mi pc ln w9 a1 a2 a3 : Nat} {z : Int32} {ls : zLs} {h : zH} {x : Int32} {q1 q2 q3 q4 q6 : Nat} (hf : zfetch mi pc = some (.ireturn, ln, (a1, a2, a3), z, w9)) (hm : zat zmi mi = some (q1, q2, q3, q4, 2, q6)) (hx : x = 0 ∨ x = 1) : zex E (n + 1) d mi pc ls [.int x] h = some (.inl (some (.int x)), h) := by
  refine (zx1 hf).trans ?_
  show ((match zat zmi mi with | some (_, _, _, _, 1, _) => some (.inl (some (.int x)), h) | some (_, _, _, _, 2, _) => zc01 x (some (.inl (some (.int x)), h)) | _ => none) : Option zR) = _
  rw [hm]
  show zc01 x (some (.inl (some (.int x)), h)) = _
  rcases hx with rfl | rfl <;> rfl
set_option maxRecDepth 100000 in
theorem yRet0 {E : zE} {n d mi pc ln w9 a1 a2 a3 : Nat} {z : Int32} {ls : zLs} {h : zH} {q1 q2 q3 q4 q6 : Nat} (hf : zfetch mi pc = some (.return_, ln, (a1, a2, a3), z, w9)) (hm : zat zmi mi = some (q1, q2, q3, q4, 0, q6)) : zex E (n + 1) d mi pc ls [] h = some (.inl none, h) := by
  refine (zx1 hf).trans ?_
  show ((match zat zmi mi with | some (_, _, _, _, 0, _) => some (.inl none, h) | _ => none) : Option zR) = _
  rw [hm]
  rfl
set_option maxRecDepth 100000 in
theorem yNew {E : zE} {n d mi pc ln w9 a2 a3 : Nat} {z : Int32} {ls : zLs} {h : zH} {i : Nat} (hf : zfetch mi pc = some (.new i, ln, (1, a2, a3), z, w9))  : zex E (n + 1) d mi pc ls [] h = some (.inr a2, (h.1, h.2.1, h.2.2.1, h.2.2.2.1 + 1, h.2.2.2.2 + 6)) := by
  refine (zx1 hf).trans ?_
  rfl
set_option maxRecDepth 100000 in
theorem zi0 : (0 : Int32).toInt = 0 := by decide
set_option maxRecDepth 100000 in
theorem zieq {x y : Int32} (h : x.toInt = y.toInt) : x = y := Int32.toInt_inj.mp h
set_option maxRecDepth 100000 in
theorem zilt {x y : Int32} : x < y ↔ x.toInt < y.toInt := Int32.lt_iff_toInt_lt
set_option maxRecDepth 100000 in
theorem zile {x y : Int32} : x ≤ y ↔ x.toInt ≤ y.toInt := Int32.le_iff_toInt_le
set_option maxRecDepth 100000 in
theorem zjeT {E : zE} {n d mi pc ln w9 a1 a2 a3 : Nat} {z : Int32} {ls : zLs} {r : List Value} {h : zH} {i9 : Int} {x : Int32} (hf : zfetch mi pc = some (.ifCond .eq i9, ln, (a1, a2, a3), z, w9)) (hx : x.toInt = 0) : zex E (n + 1) d mi pc ls (.int x :: r) h = zex E n d mi a1 ls r h := by
  refine (zx1 hf).trans ?_
  show (if x = 0 then _ else _) = _
  exact if_pos (zieq (hx.trans zi0.symm))
set_option maxRecDepth 100000 in
theorem zjeF {E : zE} {n d mi pc ln w9 a1 a2 a3 : Nat} {z : Int32} {ls : zLs} {r : List Value} {h : zH} {i9 : Int} {x : Int32} (hf : zfetch mi pc = some (.ifCond .eq i9, ln, (a1, a2, a3), z, w9)) (hx : x.toInt ≠ 0) : zex E (n + 1) d mi pc ls (.int x :: r) h = zex E n d mi (pc + ln) ls r h := by
  refine (zx1 hf).trans ?_
  show (if x = 0 then _ else _) = _
  exact if_neg (fun e => hx (by rw [e]; exact zi0))
set_option maxRecDepth 100000 in
theorem zjnT {E : zE} {n d mi pc ln w9 a1 a2 a3 : Nat} {z : Int32} {ls : zLs} {r : List Value} {h : zH} {i9 : Int} {x : Int32} (hf : zfetch mi pc = some (.ifCond .ne i9, ln, (a1, a2, a3), z, w9)) (hx : x.toInt ≠ 0) : zex E (n + 1) d mi pc ls (.int x :: r) h = zex E n d mi a1 ls r h := by
  refine (zx1 hf).trans ?_
  show (if x = 0 then _ else _) = _
  exact if_neg (fun e => hx (by rw [e]; exact zi0))
set_option maxRecDepth 100000 in
theorem zjnF {E : zE} {n d mi pc ln w9 a1 a2 a3 : Nat} {z : Int32} {ls : zLs} {r : List Value} {h : zH} {i9 : Int} {x : Int32} (hf : zfetch mi pc = some (.ifCond .ne i9, ln, (a1, a2, a3), z, w9)) (hx : x.toInt = 0) : zex E (n + 1) d mi pc ls (.int x :: r) h = zex E n d mi (pc + ln) ls r h := by
  refine (zx1 hf).trans ?_
  show (if x = 0 then _ else _) = _
  exact if_pos (zieq (hx.trans zi0.symm))
set_option maxRecDepth 100000 in
theorem zjlT {E : zE} {n d mi pc ln w9 a1 a2 a3 : Nat} {z : Int32} {ls : zLs} {r : List Value} {h : zH} {i9 : Int} {x : Int32} (hf : zfetch mi pc = some (.ifCond .lt i9, ln, (a1, a2, a3), z, w9)) (hx : x.toInt < 0) : zex E (n + 1) d mi pc ls (.int x :: r) h = zex E n d mi a1 ls r h := by
  refine (zx1 hf).trans ?_
  show (if x < 0 then _ else _) = _
  exact if_pos (zilt.mpr (by rw [zi0]; exact hx))
set_option maxRecDepth 100000 in
theorem zjlF {E : zE} {n d mi pc ln w9 a1 a2 a3 : Nat} {z : Int32} {ls : zLs} {r : List Value} {h : zH} {i9 : Int} {x : Int32} (hf : zfetch mi pc = some (.ifCond .lt i9, ln, (a1, a2, a3), z, w9)) (hx : 0 ≤ x.toInt) : zex E (n + 1) d mi pc ls (.int x :: r) h = zex E n d mi (pc + ln) ls r h := by
  refine (zx1 hf).trans ?_
  show (if x < 0 then _ else _) = _
  exact if_neg (fun e => absurd (zilt.mp e) (by rw [zi0]; omega))
set_option maxRecDepth 100000 in
theorem zjgT {E : zE} {n d mi pc ln w9 a1 a2 a3 : Nat} {z : Int32} {ls : zLs} {r : List Value} {h : zH} {i9 : Int} {x : Int32} (hf : zfetch mi pc = some (.ifCond .ge i9, ln, (a1, a2, a3), z, w9)) (hx : 0 ≤ x.toInt) : zex E (n + 1) d mi pc ls (.int x :: r) h = zex E n d mi a1 ls r h := by
  refine (zx1 hf).trans ?_
  show (if 0 ≤ x then _ else _) = _
  exact if_pos (zile.mpr (by rw [zi0]; exact hx))
set_option maxRecDepth 100000 in
theorem zjgF {E : zE} {n d mi pc ln w9 a1 a2 a3 : Nat} {z : Int32} {ls : zLs} {r : List Value} {h : zH} {i9 : Int} {x : Int32} (hf : zfetch mi pc = some (.ifCond .ge i9, ln, (a1, a2, a3), z, w9)) (hx : x.toInt < 0) : zex E (n + 1) d mi pc ls (.int x :: r) h = zex E n d mi (pc + ln) ls r h := by
  refine (zx1 hf).trans ?_
  show (if 0 ≤ x then _ else _) = _
  exact if_neg (fun e => absurd (zile.mp e) (by rw [zi0]; omega))
set_option maxRecDepth 100000 in
theorem zjhT {E : zE} {n d mi pc ln w9 a1 a2 a3 : Nat} {z : Int32} {ls : zLs} {r : List Value} {h : zH} {i9 : Int} {x : Int32} (hf : zfetch mi pc = some (.ifCond .gt i9, ln, (a1, a2, a3), z, w9)) (hx : 0 < x.toInt) : zex E (n + 1) d mi pc ls (.int x :: r) h = zex E n d mi a1 ls r h := by
  refine (zx1 hf).trans ?_
  show (if 0 < x then _ else _) = _
  exact if_pos (zilt.mpr (by rw [zi0]; exact hx))
set_option maxRecDepth 100000 in
theorem zjhF {E : zE} {n d mi pc ln w9 a1 a2 a3 : Nat} {z : Int32} {ls : zLs} {r : List Value} {h : zH} {i9 : Int} {x : Int32} (hf : zfetch mi pc = some (.ifCond .gt i9, ln, (a1, a2, a3), z, w9)) (hx : x.toInt ≤ 0) : zex E (n + 1) d mi pc ls (.int x :: r) h = zex E n d mi (pc + ln) ls r h := by
  refine (zx1 hf).trans ?_
  show (if 0 < x then _ else _) = _
  exact if_neg (fun e => absurd (zilt.mp e) (by rw [zi0]; omega))
set_option maxRecDepth 100000 in
theorem zjiT {E : zE} {n d mi pc ln w9 a1 a2 a3 : Nat} {z : Int32} {ls : zLs} {r : List Value} {h : zH} {i9 : Int} {x : Int32} (hf : zfetch mi pc = some (.ifCond .le i9, ln, (a1, a2, a3), z, w9)) (hx : x.toInt ≤ 0) : zex E (n + 1) d mi pc ls (.int x :: r) h = zex E n d mi a1 ls r h := by
  refine (zx1 hf).trans ?_
  show (if x ≤ 0 then _ else _) = _
  exact if_pos (zile.mpr (by rw [zi0]; exact hx))
set_option maxRecDepth 100000 in
theorem zjiF {E : zE} {n d mi pc ln w9 a1 a2 a3 : Nat} {z : Int32} {ls : zLs} {r : List Value} {h : zH} {i9 : Int} {x : Int32} (hf : zfetch mi pc = some (.ifCond .le i9, ln, (a1, a2, a3), z, w9)) (hx : 0 < x.toInt) : zex E (n + 1) d mi pc ls (.int x :: r) h = zex E n d mi (pc + ln) ls r h := by
  refine (zx1 hf).trans ?_
  show (if x ≤ 0 then _ else _) = _
  exact if_neg (fun e => absurd (zile.mp e) (by rw [zi0]; omega))
set_option maxRecDepth 100000 in
theorem zkeT {E : zE} {n d mi pc ln w9 a1 a2 a3 : Nat} {z : Int32} {ls : zLs} {r : List Value} {h : zH} {i9 : Int} {x y : Int32} (hf : zfetch mi pc = some (.if_icmp .eq i9, ln, (a1, a2, a3), z, w9)) (hx : x.toInt = y.toInt) : zex E (n + 1) d mi pc ls (.int y :: .int x :: r) h = zex E n d mi a1 ls r h := by
  refine (zx1 hf).trans ?_
  show (if x = y then _ else _) = _
  exact if_pos (zieq hx)
set_option maxRecDepth 100000 in
theorem zkeF {E : zE} {n d mi pc ln w9 a1 a2 a3 : Nat} {z : Int32} {ls : zLs} {r : List Value} {h : zH} {i9 : Int} {x y : Int32} (hf : zfetch mi pc = some (.if_icmp .eq i9, ln, (a1, a2, a3), z, w9)) (hx : x.toInt ≠ y.toInt) : zex E (n + 1) d mi pc ls (.int y :: .int x :: r) h = zex E n d mi (pc + ln) ls r h := by
  refine (zx1 hf).trans ?_
  show (if x = y then _ else _) = _
  exact if_neg (fun e => hx (by rw [e]))
set_option maxRecDepth 100000 in
theorem zknT {E : zE} {n d mi pc ln w9 a1 a2 a3 : Nat} {z : Int32} {ls : zLs} {r : List Value} {h : zH} {i9 : Int} {x y : Int32} (hf : zfetch mi pc = some (.if_icmp .ne i9, ln, (a1, a2, a3), z, w9)) (hx : x.toInt ≠ y.toInt) : zex E (n + 1) d mi pc ls (.int y :: .int x :: r) h = zex E n d mi a1 ls r h := by
  refine (zx1 hf).trans ?_
  show (if x = y then _ else _) = _
  exact if_neg (fun e => hx (by rw [e]))
set_option maxRecDepth 100000 in
theorem zknF {E : zE} {n d mi pc ln w9 a1 a2 a3 : Nat} {z : Int32} {ls : zLs} {r : List Value} {h : zH} {i9 : Int} {x y : Int32} (hf : zfetch mi pc = some (.if_icmp .ne i9, ln, (a1, a2, a3), z, w9)) (hx : x.toInt = y.toInt) : zex E (n + 1) d mi pc ls (.int y :: .int x :: r) h = zex E n d mi (pc + ln) ls r h := by
  refine (zx1 hf).trans ?_
  show (if x = y then _ else _) = _
  exact if_pos (zieq hx)
set_option maxRecDepth 100000 in
theorem zklT {E : zE} {n d mi pc ln w9 a1 a2 a3 : Nat} {z : Int32} {ls : zLs} {r : List Value} {h : zH} {i9 : Int} {x y : Int32} (hf : zfetch mi pc = some (.if_icmp .lt i9, ln, (a1, a2, a3), z, w9)) (hx : x.toInt < y.toInt) : zex E (n + 1) d mi pc ls (.int y :: .int x :: r) h = zex E n d mi a1 ls r h := by
  refine (zx1 hf).trans ?_
  show (if x < y then _ else _) = _
  exact if_pos (zilt.mpr hx)
set_option maxRecDepth 100000 in
theorem zklF {E : zE} {n d mi pc ln w9 a1 a2 a3 : Nat} {z : Int32} {ls : zLs} {r : List Value} {h : zH} {i9 : Int} {x y : Int32} (hf : zfetch mi pc = some (.if_icmp .lt i9, ln, (a1, a2, a3), z, w9)) (hx : y.toInt ≤ x.toInt) : zex E (n + 1) d mi pc ls (.int y :: .int x :: r) h = zex E n d mi (pc + ln) ls r h := by
  refine (zx1 hf).trans ?_
  show (if x < y then _ else _) = _
  exact if_neg (fun e => absurd (zilt.mp e) (by omega))
set_option maxRecDepth 100000 in
theorem zkgT {E : zE} {n d mi pc ln w9 a1 a2 a3 : Nat} {z : Int32} {ls : zLs} {r : List Value} {h : zH} {i9 : Int} {x y : Int32} (hf : zfetch mi pc = some (.if_icmp .ge i9, ln, (a1, a2, a3), z, w9)) (hx : y.toInt ≤ x.toInt) : zex E (n + 1) d mi pc ls (.int y :: .int x :: r) h = zex E n d mi a1 ls r h := by
  refine (zx1 hf).trans ?_
  show (if y ≤ x then _ else _) = _
  exact if_pos (zile.mpr hx)
set_option maxRecDepth 100000 in
theorem zkgF {E : zE} {n d mi pc ln w9 a1 a2 a3 : Nat} {z : Int32} {ls : zLs} {r : List Value} {h : zH} {i9 : Int} {x y : Int32} (hf : zfetch mi pc = some (.if_icmp .ge i9, ln, (a1, a2, a3), z, w9)) (hx : x.toInt < y.toInt) : zex E (n + 1) d mi pc ls (.int y :: .int x :: r) h = zex E n d mi (pc + ln) ls r h := by
  refine (zx1 hf).trans ?_
  show (if y ≤ x then _ else _) = _
  exact if_neg (fun e => absurd (zile.mp e) (by omega))
set_option maxRecDepth 100000 in
theorem zkhT {E : zE} {n d mi pc ln w9 a1 a2 a3 : Nat} {z : Int32} {ls : zLs} {r : List Value} {h : zH} {i9 : Int} {x y : Int32} (hf : zfetch mi pc = some (.if_icmp .gt i9, ln, (a1, a2, a3), z, w9)) (hx : y.toInt < x.toInt) : zex E (n + 1) d mi pc ls (.int y :: .int x :: r) h = zex E n d mi a1 ls r h := by
  refine (zx1 hf).trans ?_
  show (if y < x then _ else _) = _
  exact if_pos (zilt.mpr hx)
set_option maxRecDepth 100000 in
theorem zkhF {E : zE} {n d mi pc ln w9 a1 a2 a3 : Nat} {z : Int32} {ls : zLs} {r : List Value} {h : zH} {i9 : Int} {x y : Int32} (hf : zfetch mi pc = some (.if_icmp .gt i9, ln, (a1, a2, a3), z, w9)) (hx : x.toInt ≤ y.toInt) : zex E (n + 1) d mi pc ls (.int y :: .int x :: r) h = zex E n d mi (pc + ln) ls r h := by
  refine (zx1 hf).trans ?_
  show (if y < x then _ else _) = _
  exact if_neg (fun e => absurd (zilt.mp e) (by omega))
set_option maxRecDepth 100000 in
theorem zkiT {E : zE} {n d mi pc ln w9 a1 a2 a3 : Nat} {z : Int32} {ls : zLs} {r : List Value} {h : zH} {i9 : Int} {x y : Int32} (hf : zfetch mi pc = some (.if_icmp .le i9, ln, (a1, a2, a3), z, w9)) (hx : x.toInt ≤ y.toInt) : zex E (n + 1) d mi pc ls (.int y :: .int x :: r) h = zex E n d mi a1 ls r h := by
  refine (zx1 hf).trans ?_
  show (if x ≤ y then _ else _) = _
  exact if_pos (zile.mpr hx)
set_option maxRecDepth 100000 in
theorem zkiF {E : zE} {n d mi pc ln w9 a1 a2 a3 : Nat} {z : Int32} {ls : zLs} {r : List Value} {h : zH} {i9 : Int} {x y : Int32} (hf : zfetch mi pc = some (.if_icmp .le i9, ln, (a1, a2, a3), z, w9)) (hx : y.toInt < x.toInt) : zex E (n + 1) d mi pc ls (.int y :: .int x :: r) h = zex E n d mi (pc + ln) ls r h := by
  refine (zx1 hf).trans ?_
  show (if x ≤ y then _ else _) = _
  exact if_neg (fun e => absurd (zile.mp e) (by omega))
set_option maxRecDepth 100000 in
theorem zcvt {E : zE} {n d mi pc j a3 ln i9 w9 na mL ci rk b t x : Nat} {z : Int32} {sl : List (Option (Option Nat))} {ls : zLs} {st as r : List Value} {h h1 : zH} {e9 : Nat × Nat × Nat × Nat} {l9 : List (Nat × Nat × Nat × Nat)} (hf : zfetch mi pc = some (.invokevirtual i9, ln, (0, j, a3), z, w9)) (hj : zat zmi j = some (na, mL, 0, ci, rk, 0)) (hp : zpop na st [] = some (.ref b :: as, r)) (hb : zat h.1 b = some (.inr (.inl (ci, sl)))) (hr : (Nat.ble (zsum r) 8 && (Value.ref b :: as).all zc1) = true) (ha3 : Nat.beq a3 0 = true) (hz : zat zhs mi = some (e9 :: l9)) (ht : zhand (e9 :: l9) pc x = some t)
    (hc : zex E n d j 0 (zent mL (.ref b :: as)) [] h = some (.inr x, h1)) : zex E (n + 1) (d + 1) mi pc ls st h = zex E n (d + 1) mi t ls [.double 0] h1 := by
  refine (zx1 hf).trans ?_
  show zinv (zex E n) (zex E n (d + 1) mi (pc + ln)) (d + 1) mi pc j (Nat.beq a3 0) ls st h = _
  unfold zinv
  rw [hj]
  simp only
  rw [hp]
  simp only
  rw [hr, cond_true]
  unfold zrecv
  simp only
  rw [hb]
  simp only
  rw [Nat.beq_refl, cond_true, hc]
  unfold zcall
  simp only
  rw [ha3, Nat.beq_refl, hz]
  simp only
  rw [ht]
  rfl
set_option maxRecDepth 100000 in
theorem zcvs {E : zE} {n d mi pc j a3 ln i9 w9 na mL stc ci rk kd : Nat} {z : Int32} {ls : zLs} {st as r : List Value} {h h1 : zH} {v : Option Value} (hf : zfetch mi pc = some (.invokestatic i9, ln, (0, j, a3), z, w9)) (hj : zat zmi j = some (na, mL, stc + 1, ci, rk, kd)) (hp : zpop na st [] = some (as, r)) (hr : (Nat.ble (zsum r) 8 && as.all zc1) = true)
    (hc : zex E n d j 0 (zent mL as) [] h = some (.inl v, h1)) : zex E (n + 1) (d + 1) mi pc ls st h = zex E n (d + 1) mi (pc + ln) ls (v.toList ++ r) h1 := by
  refine (zx1 hf).trans ?_
  show zinv (zex E n) (zex E n (d + 1) mi (pc + ln)) (d + 1) mi pc j (Nat.beq a3 0) ls st h = _
  unfold zinv
  rw [hj]
  simp only
  rw [hp]
  simp only
  rw [hr, cond_true]
  unfold zrecv
  simp only
  rw [hc]
  rfl
