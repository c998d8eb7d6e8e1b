set_option maxRecDepth 100000 in
theorem zx1 {E : zE} {n d mi pc : Nat} {ls : zLs} {st : List Value} {h : zH} {ins : Instr} {ln a1 a2 a3 w : Nat} {z : Int32} (hf : zfetch mi pc = some (ins, ln, (a1, a2, a3), z, w)) : zex E (n + 1) d mi pc ls st h = zins E (zex E n) d mi pc ls st h ln a1 a2 a3 z ins := by
  rw [zex_succ]
  unfold zbody
  rw [hf]
set_option maxRecDepth 100000 in
theorem zget_r {K : List Value → Option zR} {h : zH} {ci fk a o : Nat} {sl : List (Option (Option Nat))} {r : List Value} (ha : zat h.1 a = some (.inr (.inl (ci, sl)))) (hs : zat sl fk = some (some (some o))) : zget K h ci fk (.ref a :: r) = K (.ref o :: r) := by
  unfold zget
  simp only
  rw [ha]
  simp only
  rw [Nat.beq_refl, cond_true, hs]
  rfl
set_option maxRecDepth 100000 in
theorem zget_n {K : List Value → Option zR} {h : zH} {ci fk a : Nat} {sl : List (Option (Option Nat))} {r : List Value} (ha : zat h.1 a = some (.inr (.inl (ci, sl)))) (hs : zat sl fk = some none) : zget K h ci fk (.ref a :: r) = K (.int (h.2.1 a fk) :: r) := by
  unfold zget
  simp only
  rw [ha]
  simp only
  rw [Nat.beq_refl, cond_true, hs]
set_option maxRecDepth 100000 in
theorem zarr_k {h : zH} {t a n : Nat} {rf : List (Option Nat)} {K : Nat → Option zR} (ha : zat h.1 a = some (.inl (t, n, rf))) : zarr h t a K = K n := by
  unfold zarr
  rw [ha]
  simp only
  rw [Nat.beq_refl, cond_true]
set_option maxRecDepth 100000 in
theorem zofi {k : Nat} (hk : k < 100000) : (Int32.ofNat k).toInt = (k : Int) := Int32.toInt_ofNat_of_lt (by omega)
set_option maxRecDepth 100000 in
theorem zofc {k : Nat} (hk : k < 100000) : (Int32.ofNat k).toNatClampNeg = k := Int32.toNatClampNeg_ofNat_of_lt (by omega)
set_option maxRecDepth 100000 in
theorem zald_k {E : zE} {K : List Value → Option zR} {h : zH} {a n k : Nat} {rf : List (Option Nat)} {r : List Value} (ha : zat h.1 a = some (.inl (0, n, rf))) (hk : k < 100000) (hkn : k < n) : zald E K h (.int (Int32.ofNat k) :: .ref a :: r) = K (.int (h.2.1 a k) :: r) := by
  unfold zald
  simp only
  rw [zarr_k ha, zck_ok (by rw [zofi hk]; omega) (by rw [zofi hk]; omega), zofc hk]
set_option maxRecDepth 100000 in
theorem zast_k {K : List Value → zH → Option zR} {h : zH} {a n k : Nat} {x : Int32} {rf : List (Option Nat)} {r : List Value} (ha : zat h.1 a = some (.inl (0, n, rf))) (hk : k < 100000) (hkn : k < n) : zast K h (.int x :: .int (Int32.ofNat k) :: .ref a :: r) = K r (zsetI h a (upd (h.2.1 a) k x)) := by
  unfold zast
  simp only
  rw [zarr_k ha, zck_ok (by rw [zofi hk]; omega) (by rw [zofi hk]; omega), zofc hk]
set_option maxRecDepth 100000 in
theorem zsucc32 (k : Nat) : Int32.ofNat k + 1 = Int32.ofNat (k + 1) := (Int32.ofNat_add k 1).symm
def zcpf (v : Nat → Nat → Int32) (t w o k L : Nat) : Nat → Nat → Int32 := zrow v t (fun i => if o + k ≤ i ∧ i < o + L then v w (i - o) else v t i)
set_option maxRecDepth 100000 in
theorem zcpf_end (v : Nat → Nat → Int32) (t w o L : Nat) : zcpf v t w o L L = v := by
  funext c
  unfold zcpf
  by_cases hc : c = t
  · rw [hc, zrow_at]
    funext i
    rw [if_neg (by omega)]
  · rw [zrow_ne _ _ hc]
set_option maxRecDepth 100000 in
theorem zcpf_step (v : Nat → Nat → Int32) {t w o k L : Nat} (hw : w ≠ t) (hk : k < L) : zcpf (zrow v t (upd (v t) (o + k) (v w k))) t w o (k + 1) L = zcpf v t w o k L := by
  funext c
  unfold zcpf
  by_cases hc : c = t
  · rw [hc, zrow_at, zrow_at]
    funext i
    rw [zrow_ne _ _ hw, zrow_at]
    unfold upd
    by_cases h1 : o + (k + 1) ≤ i ∧ i < o + L
    · rw [if_pos h1, if_pos (by omega)]
    · rw [if_neg h1]
      by_cases h2 : i = o + k
      · rw [if_pos h2, if_pos (by omega), show i - o = k by omega]
      · rw [if_neg h2, if_neg (by omega)]
  · rw [zrow_ne _ _ hc, zrow_ne _ _ hc, zrow_ne _ _ hc]

set_option maxRecDepth 100000 in
theorem zadd0 {x : Int32} {k : Nat} {α : Sort _} {K : Int32 → α} (h : x = 1) : K (777 * (x - 1) + Int32.ofNat k) = K (Int32.ofNat k) := by
  subst h
  rw [show (777 : Int32) * (1 - 1) = 0 by decide, Int32.zero_add]

section ZCP
variable {E : zE} {d a t w nt nw k : Nat} {sl : List (Option (Option Nat))} {rt rw9 : List (Option Nat)} {sh : List zS} {v : Nat → Nat → Int32} {rest : (Nat → Nat → Int64) × Nat × Nat}
set_option maxRecDepth 100000 in
theorem zf294_2 : zfetch 294 2 = some (.iload_n 1, 1, (0, 0, 0), 0, 0) := by decide +kernel
set_option maxRecDepth 100000 in
theorem zk294_2 (n : Nat) : zex E (n + 1) d 294 2 [some (.ref a), some (.int (Int32.ofNat k))] [] (sh, v, rest) = zex E n d 294 3 [some (.ref a), some (.int (Int32.ofNat k))] [(.int (Int32.ofNat k))] (sh, v, rest) := (zx1 zf294_2).trans (rfl)
set_option maxRecDepth 100000 in
theorem zf294_3 : zfetch 294 3 = some (.sipush 777, 3, (0, 0, 0), 777, 0) := by decide +kernel
set_option maxRecDepth 100000 in
theorem zk294_3 (n : Nat) : zex E (n + 1) d 294 3 [some (.ref a), some (.int (Int32.ofNat k))] [(.int (Int32.ofNat k))] (sh, v, rest) = zex E n d 294 6 [some (.ref a), some (.int (Int32.ofNat k))] [.int 777, (.int (Int32.ofNat k))] (sh, v, rest) := (zx1 zf294_3).trans (rfl)
set_option maxRecDepth 100000 in
theorem zf294_6 : zfetch 294 6 = some (.if_icmp .ge 21, 3, (27, 0, 0), 0, 0) := by decide +kernel
set_option maxRecDepth 100000 in
theorem zk294_6 (hk : k < 777) (n : Nat) : zex E (n + 1) d 294 6 [some (.ref a), some (.int (Int32.ofNat k))] [.int 777, (.int (Int32.ofNat k))] (sh, v, rest) = zex E n d 294 9 [some (.ref a), some (.int (Int32.ofNat k))] [] (sh, v, rest) := (zx1 zf294_6).trans (if_neg (by rw [Int32.le_iff_toInt_le, zofi (by omega)]; have h9 : (777 : Int32).toInt = 777 := (by decide); omega))
set_option maxRecDepth 100000 in
theorem zf294_9 : zfetch 294 9 = some (.aload_n 0, 1, (0, 0, 0), 0, 0) := by decide +kernel
set_option maxRecDepth 100000 in
theorem zk294_9 (n : Nat) : zex E (n + 1) d 294 9 [some (.ref a), some (.int (Int32.ofNat k))] [] (sh, v, rest) = zex E n d 294 10 [some (.ref a), some (.int (Int32.ofNat k))] [.ref a] (sh, v, rest) := (zx1 zf294_9).trans (rfl)
set_option maxRecDepth 100000 in
theorem zf294_10 : zfetch 294 10 = some (.getfield 23, 3, (12, 4, 0), 0, 1621) := by decide +kernel
set_option maxRecDepth 100000 in
theorem zk294_10 (ha : zat sh a = some (.inr (.inl (12, sl)))) (h1 : zat sl 4 = some (some (some t))) (n : Nat) : zex E (n + 1) d 294 10 [some (.ref a), some (.int (Int32.ofNat k))] [.ref a] (sh, v, rest) = zex E n d 294 13 [some (.ref a), some (.int (Int32.ofNat k))] [.ref t] (sh, v, rest) := (zx1 zf294_10).trans (zget_r (K := fun s => zex E n d 294 13 [some (.ref a), some (.int (Int32.ofNat k))] s (sh, v, rest)) (h := (sh, v, rest)) ha h1)
set_option maxRecDepth 100000 in
theorem zf294_13 : zfetch 294 13 = some (.iload_n 1, 1, (0, 0, 0), 0, 0) := by decide +kernel
set_option maxRecDepth 100000 in
theorem zk294_13 (n : Nat) : zex E (n + 1) d 294 13 [some (.ref a), some (.int (Int32.ofNat k))] [.ref t] (sh, v, rest) = zex E n d 294 14 [some (.ref a), some (.int (Int32.ofNat k))] [(.int (Int32.ofNat k)), .ref t] (sh, v, rest) := (zx1 zf294_13).trans (rfl)
set_option maxRecDepth 100000 in
theorem zf294_14 : zfetch 294 14 = some (.aload_n 0, 1, (0, 0, 0), 0, 0) := by decide +kernel
set_option maxRecDepth 100000 in
theorem zk294_14 (n : Nat) : zex E (n + 1) d 294 14 [some (.ref a), some (.int (Int32.ofNat k))] [(.int (Int32.ofNat k)), .ref t] (sh, v, rest) = zex E n d 294 15 [some (.ref a), some (.int (Int32.ofNat k))] [.ref a, (.int (Int32.ofNat k)), .ref t] (sh, v, rest) := (zx1 zf294_14).trans (rfl)
set_option maxRecDepth 100000 in
theorem zf294_15 : zfetch 294 15 = some (.getfield 13, 3, (12, 1, 0), 0, 1618) := by decide +kernel
set_option maxRecDepth 100000 in
theorem zk294_15 (ha : zat sh a = some (.inr (.inl (12, sl)))) (h2 : zat sl 1 = some (some (some w))) (n : Nat) : zex E (n + 1) d 294 15 [some (.ref a), some (.int (Int32.ofNat k))] [.ref a, (.int (Int32.ofNat k)), .ref t] (sh, v, rest) = zex E n d 294 18 [some (.ref a), some (.int (Int32.ofNat k))] [.ref w, (.int (Int32.ofNat k)), .ref t] (sh, v, rest) := (zx1 zf294_15).trans (zget_r (K := fun s => zex E n d 294 18 [some (.ref a), some (.int (Int32.ofNat k))] s (sh, v, rest)) (h := (sh, v, rest)) ha h2)
set_option maxRecDepth 100000 in
theorem zf294_18 : zfetch 294 18 = some (.iload_n 1, 1, (0, 0, 0), 0, 0) := by decide +kernel
set_option maxRecDepth 100000 in
theorem zk294_18 (n : Nat) : zex E (n + 1) d 294 18 [some (.ref a), some (.int (Int32.ofNat k))] [.ref w, (.int (Int32.ofNat k)), .ref t] (sh, v, rest) = zex E n d 294 19 [some (.ref a), some (.int (Int32.ofNat k))] [(.int (Int32.ofNat k)), .ref w, (.int (Int32.ofNat k)), .ref t] (sh, v, rest) := (zx1 zf294_18).trans (rfl)
set_option maxRecDepth 100000 in
theorem zf294_19 : zfetch 294 19 = some (.iaload, 1, (0, 0, 0), 0, 0) := by decide +kernel
set_option maxRecDepth 100000 in
theorem zk294_19 (h4 : zat sh w = some (.inl (0, nw, rw9))) (hk : k < nw) (hk9 : k < 100000) (n : Nat) : zex E (n + 1) d 294 19 [some (.ref a), some (.int (Int32.ofNat k))] [(.int (Int32.ofNat k)), .ref w, (.int (Int32.ofNat k)), .ref t] (sh, v, rest) = zex E n d 294 20 [some (.ref a), some (.int (Int32.ofNat k))] [.int (v w k), (.int (Int32.ofNat k)), .ref t] (sh, v, rest) := (zx1 zf294_19).trans (zald_k (E := E) (K := fun s => zex E n d 294 20 [some (.ref a), some (.int (Int32.ofNat k))] s (sh, v, rest)) (h := (sh, v, rest)) h4 hk9 hk)
set_option maxRecDepth 100000 in
theorem zf294_20 : zfetch 294 20 = some (.iastore, 1, (0, 0, 0), 0, 0) := by decide +kernel
set_option maxRecDepth 100000 in
theorem zk294_20 (h3 : zat sh t = some (.inl (0, nt, rt))) (hk : k < nt) (hk9 : k < 100000) (n : Nat) : zex E (n + 1) d 294 20 [some (.ref a), some (.int (Int32.ofNat k))] [.int (v w k), (.int (Int32.ofNat k)), .ref t] (sh, v, rest) = zex E n d 294 21 [some (.ref a), some (.int (Int32.ofNat k))] [] (sh, (zrow v t (upd (v t) k (v w k))), rest) := (zx1 zf294_20).trans (zast_k (K := fun s h => zex E n d 294 21 [some (.ref a), some (.int (Int32.ofNat k))] s h) (h := (sh, v, rest)) h3 hk9 hk)
set_option maxRecDepth 100000 in
theorem zf294_21 : zfetch 294 21 = some (.iinc 1 1, 3, (0, 0, 0), 1, 0) := by decide +kernel
set_option maxRecDepth 100000 in
theorem zk294_21 (n : Nat) : zex E (n + 1) d 294 21 [some (.ref a), some (.int (Int32.ofNat k))] [] (sh, (zrow v t (upd (v t) k (v w k))), rest) = zex E n d 294 24 [some (.ref a), some (.int (Int32.ofNat (k + 1)))] [] (sh, (zrow v t (upd (v t) k (v w k))), rest) := (zx1 zf294_21).trans ((by rw [← zsucc32]; rfl))
set_option maxRecDepth 100000 in
theorem zf294_24 : zfetch 294 24 = some (.goto (-22), 3, (2, 0, 0), 0, 0) := by decide +kernel
set_option maxRecDepth 100000 in
theorem zk294_24 (n : Nat) : zex E (n + 1) d 294 24 [some (.ref a), some (.int (Int32.ofNat (k + 1)))] [] (sh, (zrow v t (upd (v t) k (v w k))), rest) = zex E n d 294 2 [some (.ref a), some (.int (Int32.ofNat (k + 1)))] [] (sh, (zrow v t (upd (v t) k (v w k))), rest) := (zx1 zf294_24).trans (rfl)
set_option maxRecDepth 100000 in
theorem zf294_27 : zfetch 294 27 = some (.return_, 1, (0, 0, 0), 0, 0) := by decide +kernel
set_option maxRecDepth 100000 in
theorem zk294_x (n : Nat) : zex E (n + 3) d 294 2 [some (.ref a), some (.int (Int32.ofNat 777))] [] (sh, v, rest) = zex E n d 294 27 [some (.ref a), some (.int (Int32.ofNat 777))] [] (sh, v, rest) := (zk294_2 (k := 777) (n + 2)).trans ((zk294_3 (k := 777) (n + 1)).trans ((zx1 zf294_6).trans rfl))
set_option maxRecDepth 100000 in
theorem zkeep_loop {E : zE} {d a t w nt nw : Nat} {sl : List (Option (Option Nat))} {rt rw9 : List (Option Nat)} {sh : List zS} {rest : (Nat → Nat → Int64) × Nat × Nat} (ha : zat sh a = some (.inr (.inl (12, sl)))) (h1 : zat sl 4 = some (some (some t))) (h2 : zat sl 1 = some (some (some w))) (h3 : zat sh t = some (.inl (0, nt, rt))) (h4 : zat sh w = some (.inl (0, nw, rw9))) (hnt : 777 ≤ nt) (hnw : 777 ≤ nw) (hwt : w ≠ t) : ∀ (j k : Nat) (v : Nat → Nat → Int32) (n : Nat), k + j = 777 → zex E (n + 3 + 13 * j) d 294 2 [some (.ref a), some (.int (Int32.ofNat k))] [] (sh, v, rest) = zex E n d 294 27 [some (.ref a), some (.int (Int32.ofNat 777))] [] (sh, zcpf v t w 0 k 777, rest)
  | 0, k, v, n, hk => by
    have hk : k = 777 := by omega
    subst hk
    rw [zcpf_end]
    exact zk294_x n
  | j + 1, k, v, n, hk => by
    have hk2 : k < 777 := by omega
    have hz := zkeep_loop (E := E) (d := d) (rest := rest) ha h1 h2 h3 h4 hnt hnw hwt j (k + 1) (zrow v t (upd (v t) k (v w k))) n (by omega)
    have hs := zcpf_step (o := 0) v hwt hk2
    rw [Nat.zero_add] at hs
    rw [hs] at hz
    rw [← hz, show n + 3 + 13 * (j + 1) = n + 3 + 13 * j + 13 by omega]
    generalize n + 3 + 13 * j = q
    exact (zk294_2 (q + 12)).trans ((zk294_3 (q + 11)).trans ((zk294_6 hk2 (q + 10)).trans ((zk294_9 (q + 9)).trans ((zk294_10 ha h1 (q + 8)).trans ((zk294_13 (q + 7)).trans ((zk294_14 (q + 6)).trans ((zk294_15 ha h2 (q + 5)).trans ((zk294_18 (q + 4)).trans ((zk294_19 h4 (by omega) (by omega) (q + 3)).trans ((zk294_20 h3 (by omega) (by omega) (q + 2)).trans ((zk294_21 (q + 1)).trans (zk294_24 q))))))))))))

set_option maxRecDepth 100000 in
theorem zf294_0 : zfetch 294 0 = some (.iconst 0, 1, (0, 0, 0), 0, 0) := by decide +kernel
set_option maxRecDepth 100000 in
theorem zf294_1 : zfetch 294 1 = some (.istore_n 1, 1, (0, 0, 0), 0, 0) := by decide +kernel
set_option maxRecDepth 100000 in
theorem zk294_0 (n : Nat) : zex E (n + 2) d 294 0 [some (.ref a), none] [] (sh, v, rest) = zex E n d 294 2 [some (.ref a), some (.int (Int32.ofNat 0))] [] (sh, v, rest) := (zx1 zf294_0).trans ((show _ = zex E (n + 1) d 294 1 [some (.ref a), none] [.int 0] (sh, v, rest) from rfl).trans ((zx1 zf294_1).trans rfl))
set_option maxRecDepth 100000 in
theorem zk294_27 (n : Nat) : zex E (n + 1) d 294 27 [some (.ref a), some (.int (Int32.ofNat 777))] [] (sh, v, rest) = some (.inl none, (sh, v, rest)) := (zx1 zf294_27).trans rfl
set_option maxRecDepth 100000 in
theorem zkeep_spec {E : zE} {d a t w nt nw : Nat} {sl : List (Option (Option Nat))} {rt rw9 : List (Option Nat)} {sh : List zS} {v : Nat → Nat → Int32} {rest : (Nat → Nat → Int64) × Nat × Nat} (ha : zat sh a = some (.inr (.inl (12, sl)))) (h1 : zat sl 4 = some (some (some t))) (h2 : zat sl 1 = some (some (some w))) (h3 : zat sh t = some (.inl (0, nt, rt))) (h4 : zat sh w = some (.inl (0, nw, rw9))) (hnt : 777 ≤ nt) (hnw : 777 ≤ nw) (hwt : w ≠ t) (n : Nat) : zex E (n + 1 + 3 + 13 * 777 + 2) d 294 0 [some (.ref a), none] [] (sh, v, rest) = some (.inl none, (sh, zcpf v t w 0 0 777, rest)) := by
  have hl := zkeep_loop (E := E) (d := d) (rest := rest) ha h1 h2 h3 h4 hnt hnw hwt 777 0 v (n + 1) rfl
  generalize n + 1 + 3 + 13 * 777 = q at hl ⊢
  exact (zk294_0 q).trans (hl.trans (zk294_27 n))

set_option maxRecDepth 100000 in
theorem zf295_2 : zfetch 295 2 = some (.iload_n 1, 1, (0, 0, 0), 0, 0) := by decide +kernel
set_option maxRecDepth 100000 in
theorem zk295_2 (n : Nat) : zex E (n + 1) d 295 2 [some (.ref a), some (.int (Int32.ofNat k))] [] (sh, v, rest) = zex E n d 295 3 [some (.ref a), some (.int (Int32.ofNat k))] [(.int (Int32.ofNat k))] (sh, v, rest) := (zx1 zf295_2).trans (rfl)
set_option maxRecDepth 100000 in
theorem zf295_3 : zfetch 295 3 = some (.sipush 777, 3, (0, 0, 0), 777, 0) := by decide +kernel
set_option maxRecDepth 100000 in
theorem zk295_3 (n : Nat) : zex E (n + 1) d 295 3 [some (.ref a), some (.int (Int32.ofNat k))] [(.int (Int32.ofNat k))] (sh, v, rest) = zex E n d 295 6 [some (.ref a), some (.int (Int32.ofNat k))] [.int 777, (.int (Int32.ofNat k))] (sh, v, rest) := (zx1 zf295_3).trans (rfl)
set_option maxRecDepth 100000 in
theorem zf295_6 : zfetch 295 6 = some (.if_icmp .ge 21, 3, (27, 0, 0), 0, 0) := by decide +kernel
set_option maxRecDepth 100000 in
theorem zk295_6 (hk : k < 777) (n : Nat) : zex E (n + 1) d 295 6 [some (.ref a), some (.int (Int32.ofNat k))] [.int 777, (.int (Int32.ofNat k))] (sh, v, rest) = zex E n d 295 9 [some (.ref a), some (.int (Int32.ofNat k))] [] (sh, v, rest) := (zx1 zf295_6).trans (if_neg (by rw [Int32.le_iff_toInt_le, zofi (by omega)]; have h9 : (777 : Int32).toInt = 777 := (by decide); omega))
set_option maxRecDepth 100000 in
theorem zf295_9 : zfetch 295 9 = some (.aload_n 0, 1, (0, 0, 0), 0, 0) := by decide +kernel
set_option maxRecDepth 100000 in
theorem zk295_9 (n : Nat) : zex E (n + 1) d 295 9 [some (.ref a), some (.int (Int32.ofNat k))] [] (sh, v, rest) = zex E n d 295 10 [some (.ref a), some (.int (Int32.ofNat k))] [.ref a] (sh, v, rest) := (zx1 zf295_9).trans (rfl)
set_option maxRecDepth 100000 in
theorem zf295_10 : zfetch 295 10 = some (.getfield 13, 3, (12, 1, 0), 0, 1618) := by decide +kernel
set_option maxRecDepth 100000 in
theorem zk295_10 (ha : zat sh a = some (.inr (.inl (12, sl)))) (h1 : zat sl 1 = some (some (some t))) (n : Nat) : zex E (n + 1) d 295 10 [some (.ref a), some (.int (Int32.ofNat k))] [.ref a] (sh, v, rest) = zex E n d 295 13 [some (.ref a), some (.int (Int32.ofNat k))] [.ref t] (sh, v, rest) := (zx1 zf295_10).trans (zget_r (K := fun s => zex E n d 295 13 [some (.ref a), some (.int (Int32.ofNat k))] s (sh, v, rest)) (h := (sh, v, rest)) ha h1)
set_option maxRecDepth 100000 in
theorem zf295_13 : zfetch 295 13 = some (.iload_n 1, 1, (0, 0, 0), 0, 0) := by decide +kernel
set_option maxRecDepth 100000 in
theorem zk295_13 (n : Nat) : zex E (n + 1) d 295 13 [some (.ref a), some (.int (Int32.ofNat k))] [.ref t] (sh, v, rest) = zex E n d 295 14 [some (.ref a), some (.int (Int32.ofNat k))] [(.int (Int32.ofNat k)), .ref t] (sh, v, rest) := (zx1 zf295_13).trans (rfl)
set_option maxRecDepth 100000 in
theorem zf295_14 : zfetch 295 14 = some (.aload_n 0, 1, (0, 0, 0), 0, 0) := by decide +kernel
set_option maxRecDepth 100000 in
theorem zk295_14 (n : Nat) : zex E (n + 1) d 295 14 [some (.ref a), some (.int (Int32.ofNat k))] [(.int (Int32.ofNat k)), .ref t] (sh, v, rest) = zex E n d 295 15 [some (.ref a), some (.int (Int32.ofNat k))] [.ref a, (.int (Int32.ofNat k)), .ref t] (sh, v, rest) := (zx1 zf295_14).trans (rfl)
set_option maxRecDepth 100000 in
theorem zf295_15 : zfetch 295 15 = some (.getfield 23, 3, (12, 4, 0), 0, 1621) := by decide +kernel
set_option maxRecDepth 100000 in
theorem zk295_15 (ha : zat sh a = some (.inr (.inl (12, sl)))) (h2 : zat sl 4 = some (some (some w))) (n : Nat) : zex E (n + 1) d 295 15 [some (.ref a), some (.int (Int32.ofNat k))] [.ref a, (.int (Int32.ofNat k)), .ref t] (sh, v, rest) = zex E n d 295 18 [some (.ref a), some (.int (Int32.ofNat k))] [.ref w, (.int (Int32.ofNat k)), .ref t] (sh, v, rest) := (zx1 zf295_15).trans (zget_r (K := fun s => zex E n d 295 18 [some (.ref a), some (.int (Int32.ofNat k))] s (sh, v, rest)) (h := (sh, v, rest)) ha h2)
set_option maxRecDepth 100000 in
theorem zf295_18 : zfetch 295 18 = some (.iload_n 1, 1, (0, 0, 0), 0, 0) := by decide +kernel
set_option maxRecDepth 100000 in
theorem zk295_18 (n : Nat) : zex E (n + 1) d 295 18 [some (.ref a), some (.int (Int32.ofNat k))] [.ref w, (.int (Int32.ofNat k)), .ref t] (sh, v, rest) = zex E n d 295 19 [some (.ref a), some (.int (Int32.ofNat k))] [(.int (Int32.ofNat k)), .ref w, (.int (Int32.ofNat k)), .ref t] (sh, v, rest) := (zx1 zf295_18).trans (rfl)
set_option maxRecDepth 100000 in
theorem zf295_19 : zfetch 295 19 = some (.iaload, 1, (0, 0, 0), 0, 0) := by decide +kernel
set_option maxRecDepth 100000 in
theorem zk295_19 (h4 : zat sh w = some (.inl (0, nw, rw9))) (hk : k < nw) (hk9 : k < 100000) (n : Nat) : zex E (n + 1) d 295 19 [some (.ref a), some (.int (Int32.ofNat k))] [(.int (Int32.ofNat k)), .ref w, (.int (Int32.ofNat k)), .ref t] (sh, v, rest) = zex E n d 295 20 [some (.ref a), some (.int (Int32.ofNat k))] [.int (v w k), (.int (Int32.ofNat k)), .ref t] (sh, v, rest) := (zx1 zf295_19).trans (zald_k (E := E) (K := fun s => zex E n d 295 20 [some (.ref a), some (.int (Int32.ofNat k))] s (sh, v, rest)) (h := (sh, v, rest)) h4 hk9 hk)
set_option maxRecDepth 100000 in
theorem zf295_20 : zfetch 295 20 = some (.iastore, 1, (0, 0, 0), 0, 0) := by decide +kernel
set_option maxRecDepth 100000 in
theorem zk295_20 (h3 : zat sh t = some (.inl (0, nt, rt))) (hk : k < nt) (hk9 : k < 100000) (n : Nat) : zex E (n + 1) d 295 20 [some (.ref a), some (.int (Int32.ofNat k))] [.int (v w k), (.int (Int32.ofNat k)), .ref t] (sh, v, rest) = zex E n d 295 21 [some (.ref a), some (.int (Int32.ofNat k))] [] (sh, (zrow v t (upd (v t) k (v w k))), rest) := (zx1 zf295_20).trans (zast_k (K := fun s h => zex E n d 295 21 [some (.ref a), some (.int (Int32.ofNat k))] s h) (h := (sh, v, rest)) h3 hk9 hk)
set_option maxRecDepth 100000 in
theorem zf295_21 : zfetch 295 21 = some (.iinc 1 1, 3, (0, 0, 0), 1, 0) := by decide +kernel
set_option maxRecDepth 100000 in
theorem zk295_21 (n : Nat) : zex E (n + 1) d 295 21 [some (.ref a), some (.int (Int32.ofNat k))] [] (sh, (zrow v t (upd (v t) k (v w k))), rest) = zex E n d 295 24 [some (.ref a), some (.int (Int32.ofNat (k + 1)))] [] (sh, (zrow v t (upd (v t) k (v w k))), rest) := (zx1 zf295_21).trans ((by rw [← zsucc32]; rfl))
set_option maxRecDepth 100000 in
theorem zf295_24 : zfetch 295 24 = some (.goto (-22), 3, (2, 0, 0), 0, 0) := by decide +kernel
set_option maxRecDepth 100000 in
theorem zk295_24 (n : Nat) : zex E (n + 1) d 295 24 [some (.ref a), some (.int (Int32.ofNat (k + 1)))] [] (sh, (zrow v t (upd (v t) k (v w k))), rest) = zex E n d 295 2 [some (.ref a), some (.int (Int32.ofNat (k + 1)))] [] (sh, (zrow v t (upd (v t) k (v w k))), rest) := (zx1 zf295_24).trans (rfl)
set_option maxRecDepth 100000 in
theorem zf295_27 : zfetch 295 27 = some (.return_, 1, (0, 0, 0), 0, 0) := by decide +kernel
set_option maxRecDepth 100000 in
theorem zk295_x (n : Nat) : zex E (n + 3) d 295 2 [some (.ref a), some (.int (Int32.ofNat 777))] [] (sh, v, rest) = zex E n d 295 27 [some (.ref a), some (.int (Int32.ofNat 777))] [] (sh, v, rest) := (zk295_2 (k := 777) (n + 2)).trans ((zk295_3 (k := 777) (n + 1)).trans ((zx1 zf295_6).trans rfl))
set_option maxRecDepth 100000 in
theorem zbring_loop {E : zE} {d a t w nt nw : Nat} {sl : List (Option (Option Nat))} {rt rw9 : List (Option Nat)} {sh : List zS} {rest : (Nat → Nat → Int64) × Nat × Nat} (ha : zat sh a = some (.inr (.inl (12, sl)))) (h1 : zat sl 1 = some (some (some t))) (h2 : zat sl 4 = some (some (some w))) (h3 : zat sh t = some (.inl (0, nt, rt))) (h4 : zat sh w = some (.inl (0, nw, rw9))) (hnt : 777 ≤ nt) (hnw : 777 ≤ nw) (hwt : w ≠ t) : ∀ (j k : Nat) (v : Nat → Nat → Int32) (n : Nat), k + j = 777 → zex E (n + 3 + 13 * j) d 295 2 [some (.ref a), some (.int (Int32.ofNat k))] [] (sh, v, rest) = zex E n d 295 27 [some (.ref a), some (.int (Int32.ofNat 777))] [] (sh, zcpf v t w 0 k 777, rest)
  | 0, k, v, n, hk => by
    have hk : k = 777 := by omega
    subst hk
    rw [zcpf_end]
    exact zk295_x n
  | j + 1, k, v, n, hk => by
    have hk2 : k < 777 := by omega
    have hz := zbring_loop (E := E) (d := d) (rest := rest) ha h1 h2 h3 h4 hnt hnw hwt j (k + 1) (zrow v t (upd (v t) k (v w k))) n (by omega)
    have hs := zcpf_step (o := 0) v hwt hk2
    rw [Nat.zero_add] at hs
    rw [hs] at hz
    rw [← hz, show n + 3 + 13 * (j + 1) = n + 3 + 13 * j + 13 by omega]
    generalize n + 3 + 13 * j = q
    exact (zk295_2 (q + 12)).trans ((zk295_3 (q + 11)).trans ((zk295_6 hk2 (q + 10)).trans ((zk295_9 (q + 9)).trans ((zk295_10 ha h1 (q + 8)).trans ((zk295_13 (q + 7)).trans ((zk295_14 (q + 6)).trans ((zk295_15 ha h2 (q + 5)).trans ((zk295_18 (q + 4)).trans ((zk295_19 h4 (by omega) (by omega) (q + 3)).trans ((zk295_20 h3 (by omega) (by omega) (q + 2)).trans ((zk295_21 (q + 1)).trans (zk295_24 q))))))))))))

set_option maxRecDepth 100000 in
theorem zf295_0 : zfetch 295 0 = some (.iconst 0, 1, (0, 0, 0), 0, 0) := by decide +kernel
set_option maxRecDepth 100000 in
theorem zf295_1 : zfetch 295 1 = some (.istore_n 1, 1, (0, 0, 0), 0, 0) := by decide +kernel
set_option maxRecDepth 100000 in
theorem zk295_0 (n : Nat) : zex E (n + 2) d 295 0 [some (.ref a), none] [] (sh, v, rest) = zex E n d 295 2 [some (.ref a), some (.int (Int32.ofNat 0))] [] (sh, v, rest) := (zx1 zf295_0).trans ((show _ = zex E (n + 1) d 295 1 [some (.ref a), none] [.int 0] (sh, v, rest) from rfl).trans ((zx1 zf295_1).trans rfl))
set_option maxRecDepth 100000 in
theorem zk295_27 (n : Nat) : zex E (n + 1) d 295 27 [some (.ref a), some (.int (Int32.ofNat 777))] [] (sh, v, rest) = some (.inl none, (sh, v, rest)) := (zx1 zf295_27).trans rfl
set_option maxRecDepth 100000 in
theorem zbring_spec {E : zE} {d a t w nt nw : Nat} {sl : List (Option (Option Nat))} {rt rw9 : List (Option Nat)} {sh : List zS} {v : Nat → Nat → Int32} {rest : (Nat → Nat → Int64) × Nat × Nat} (ha : zat sh a = some (.inr (.inl (12, sl)))) (h1 : zat sl 1 = some (some (some t))) (h2 : zat sl 4 = some (some (some w))) (h3 : zat sh t = some (.inl (0, nt, rt))) (h4 : zat sh w = some (.inl (0, nw, rw9))) (hnt : 777 ≤ nt) (hnw : 777 ≤ nw) (hwt : w ≠ t) (n : Nat) : zex E (n + 1 + 3 + 13 * 777 + 2) d 295 0 [some (.ref a), none] [] (sh, v, rest) = some (.inl none, (sh, zcpf v t w 0 0 777, rest)) := by
  have hl := zbring_loop (E := E) (d := d) (rest := rest) ha h1 h2 h3 h4 hnt hnw hwt 777 0 v (n + 1) rfl
  generalize n + 1 + 3 + 13 * 777 = q at hl ⊢
  exact (zk295_0 q).trans (hl.trans (zk295_27 n))

set_option maxRecDepth 100000 in
theorem zf215_55 : zfetch 215 55 = some (.iload_n 1, 1, (0, 0, 0), 0, 0) := by decide +kernel
set_option maxRecDepth 100000 in
theorem zk215_55 (n : Nat) : zex E (n + 1) d 215 55 [some (.ref a), some (.int (Int32.ofNat k))] [] (sh, v, rest) = zex E n d 215 56 [some (.ref a), some (.int (Int32.ofNat k))] [(.int (Int32.ofNat k))] (sh, v, rest) := (zx1 zf215_55).trans (rfl)
set_option maxRecDepth 100000 in
theorem zf215_56 : zfetch 215 56 = some (.sipush 777, 3, (0, 0, 0), 777, 0) := by decide +kernel
set_option maxRecDepth 100000 in
theorem zk215_56 (n : Nat) : zex E (n + 1) d 215 56 [some (.ref a), some (.int (Int32.ofNat k))] [(.int (Int32.ofNat k))] (sh, v, rest) = zex E n d 215 59 [some (.ref a), some (.int (Int32.ofNat k))] [.int 777, (.int (Int32.ofNat k))] (sh, v, rest) := (zx1 zf215_56).trans (rfl)
set_option maxRecDepth 100000 in
theorem zf215_59 : zfetch 215 59 = some (.if_icmp .ge 32, 3, (91, 0, 0), 0, 0) := by decide +kernel
set_option maxRecDepth 100000 in
theorem zk215_59 (hk : k < 777) (n : Nat) : zex E (n + 1) d 215 59 [some (.ref a), some (.int (Int32.ofNat k))] [.int 777, (.int (Int32.ofNat k))] (sh, v, rest) = zex E n d 215 62 [some (.ref a), some (.int (Int32.ofNat k))] [] (sh, v, rest) := (zx1 zf215_59).trans (if_neg (by rw [Int32.le_iff_toInt_le, zofi (by omega)]; have h9 : (777 : Int32).toInt = 777 := (by decide); omega))
set_option maxRecDepth 100000 in
theorem zf215_62 : zfetch 215 62 = some (.aload_n 0, 1, (0, 0, 0), 0, 0) := by decide +kernel
set_option maxRecDepth 100000 in
theorem zk215_62 (n : Nat) : zex E (n + 1) d 215 62 [some (.ref a), some (.int (Int32.ofNat k))] [] (sh, v, rest) = zex E n d 215 63 [some (.ref a), some (.int (Int32.ofNat k))] [.ref a] (sh, v, rest) := (zx1 zf215_62).trans (rfl)
set_option maxRecDepth 100000 in
theorem zf215_63 : zfetch 215 63 = some (.getfield 26, 3, (12, 5, 0), 0, 1622) := by decide +kernel
set_option maxRecDepth 100000 in
theorem zk215_63 (ha : zat sh a = some (.inr (.inl (12, sl)))) (h1 : zat sl 5 = some (some (some t))) (n : Nat) : zex E (n + 1) d 215 63 [some (.ref a), some (.int (Int32.ofNat k))] [.ref a] (sh, v, rest) = zex E n d 215 66 [some (.ref a), some (.int (Int32.ofNat k))] [.ref t] (sh, v, rest) := (zx1 zf215_63).trans (zget_r (K := fun s => zex E n d 215 66 [some (.ref a), some (.int (Int32.ofNat k))] s (sh, v, rest)) (h := (sh, v, rest)) ha h1)
set_option maxRecDepth 100000 in
theorem zf215_66 : zfetch 215 66 = some (.sipush 777, 3, (0, 0, 0), 777, 0) := by decide +kernel
set_option maxRecDepth 100000 in
theorem zk215_66 (n : Nat) : zex E (n + 1) d 215 66 [some (.ref a), some (.int (Int32.ofNat k))] [.ref t] (sh, v, rest) = zex E n d 215 69 [some (.ref a), some (.int (Int32.ofNat k))] [.int 777, .ref t] (sh, v, rest) := (zx1 zf215_66).trans (rfl)
set_option maxRecDepth 100000 in
theorem zf215_69 : zfetch 215 69 = some (.aload_n 0, 1, (0, 0, 0), 0, 0) := by decide +kernel
set_option maxRecDepth 100000 in
theorem zk215_69 (n : Nat) : zex E (n + 1) d 215 69 [some (.ref a), some (.int (Int32.ofNat k))] [.int 777, .ref t] (sh, v, rest) = zex E n d 215 70 [some (.ref a), some (.int (Int32.ofNat k))] [.ref a, .int 777, .ref t] (sh, v, rest) := (zx1 zf215_69).trans (rfl)
set_option maxRecDepth 100000 in
theorem zf215_70 : zfetch 215 70 = some (.getfield 49, 3, (12, 7, 0), 0, 1624) := by decide +kernel
set_option maxRecDepth 100000 in
theorem zk215_70 (ha : zat sh a = some (.inr (.inl (12, sl)))) (h7 : zat sl 7 = some none) (n : Nat) : zex E (n + 1) d 215 70 [some (.ref a), some (.int (Int32.ofNat k))] [.ref a, .int 777, .ref t] (sh, v, rest) = zex E n d 215 73 [some (.ref a), some (.int (Int32.ofNat k))] [.int (v a 7), .int 777, .ref t] (sh, v, rest) := (zx1 zf215_70).trans (zget_n (K := fun s => zex E n d 215 73 [some (.ref a), some (.int (Int32.ofNat k))] s (sh, v, rest)) (h := (sh, v, rest)) ha h7)
set_option maxRecDepth 100000 in
theorem zf215_73 : zfetch 215 73 = some (.iconst 1, 1, (0, 0, 0), 1, 0) := by decide +kernel
set_option maxRecDepth 100000 in
theorem zk215_73 (n : Nat) : zex E (n + 1) d 215 73 [some (.ref a), some (.int (Int32.ofNat k))] [.int (v a 7), .int 777, .ref t] (sh, v, rest) = zex E n d 215 74 [some (.ref a), some (.int (Int32.ofNat k))] [.int 1, .int (v a 7), .int 777, .ref t] (sh, v, rest) := (zx1 zf215_73).trans (rfl)
set_option maxRecDepth 100000 in
theorem zf215_74 : zfetch 215 74 = some (.isub, 1, (0, 0, 0), 0, 0) := by decide +kernel
set_option maxRecDepth 100000 in
theorem zk215_74 (n : Nat) : zex E (n + 1) d 215 74 [some (.ref a), some (.int (Int32.ofNat k))] [.int 1, .int (v a 7), .int 777, .ref t] (sh, v, rest) = zex E n d 215 75 [some (.ref a), some (.int (Int32.ofNat k))] [.int (v a 7 - 1), .int 777, .ref t] (sh, v, rest) := (zx1 zf215_74).trans (rfl)
set_option maxRecDepth 100000 in
theorem zf215_75 : zfetch 215 75 = some (.imul, 1, (0, 0, 0), 0, 0) := by decide +kernel
set_option maxRecDepth 100000 in
theorem zk215_75 (n : Nat) : zex E (n + 1) d 215 75 [some (.ref a), some (.int (Int32.ofNat k))] [.int (v a 7 - 1), .int 777, .ref t] (sh, v, rest) = zex E n d 215 76 [some (.ref a), some (.int (Int32.ofNat k))] [.int (777 * (v a 7 - 1)), .ref t] (sh, v, rest) := (zx1 zf215_75).trans (rfl)
set_option maxRecDepth 100000 in
theorem zf215_76 : zfetch 215 76 = some (.iload_n 1, 1, (0, 0, 0), 0, 0) := by decide +kernel
set_option maxRecDepth 100000 in
theorem zk215_76 (n : Nat) : zex E (n + 1) d 215 76 [some (.ref a), some (.int (Int32.ofNat k))] [.int (777 * (v a 7 - 1)), .ref t] (sh, v, rest) = zex E n d 215 77 [some (.ref a), some (.int (Int32.ofNat k))] [(.int (Int32.ofNat k)), .int (777 * (v a 7 - 1)), .ref t] (sh, v, rest) := (zx1 zf215_76).trans (rfl)
set_option maxRecDepth 100000 in
theorem zf215_77 : zfetch 215 77 = some (.iadd, 1, (0, 0, 0), 0, 0) := by decide +kernel
set_option maxRecDepth 100000 in
theorem zk215_77 (h8 : v a 7 = 1) (n : Nat) : zex E (n + 1) d 215 77 [some (.ref a), some (.int (Int32.ofNat k))] [(.int (Int32.ofNat k)), .int (777 * (v a 7 - 1)), .ref t] (sh, v, rest) = zex E n d 215 78 [some (.ref a), some (.int (Int32.ofNat k))] [(.int (Int32.ofNat k)), .ref t] (sh, v, rest) := (zx1 zf215_77).trans (zadd0 (K := fun x => zex E n d 215 78 [some (.ref a), some (.int (Int32.ofNat k))] (.int x :: [.ref t]) (sh, v, rest)) h8)
set_option maxRecDepth 100000 in
theorem zf215_78 : zfetch 215 78 = some (.aload_n 0, 1, (0, 0, 0), 0, 0) := by decide +kernel
set_option maxRecDepth 100000 in
theorem zk215_78 (n : Nat) : zex E (n + 1) d 215 78 [some (.ref a), some (.int (Int32.ofNat k))] [(.int (Int32.ofNat k)), .ref t] (sh, v, rest) = zex E n d 215 79 [some (.ref a), some (.int (Int32.ofNat k))] [.ref a, (.int (Int32.ofNat k)), .ref t] (sh, v, rest) := (zx1 zf215_78).trans (rfl)
set_option maxRecDepth 100000 in
theorem zf215_79 : zfetch 215 79 = some (.getfield 13, 3, (12, 1, 0), 0, 1618) := by decide +kernel
set_option maxRecDepth 100000 in
theorem zk215_79 (ha : zat sh a = some (.inr (.inl (12, sl)))) (h2 : zat sl 1 = some (some (some w))) (n : Nat) : zex E (n + 1) d 215 79 [some (.ref a), some (.int (Int32.ofNat k))] [.ref a, (.int (Int32.ofNat k)), .ref t] (sh, v, rest) = zex E n d 215 82 [some (.ref a), some (.int (Int32.ofNat k))] [.ref w, (.int (Int32.ofNat k)), .ref t] (sh, v, rest) := (zx1 zf215_79).trans (zget_r (K := fun s => zex E n d 215 82 [some (.ref a), some (.int (Int32.ofNat k))] s (sh, v, rest)) (h := (sh, v, rest)) ha h2)
set_option maxRecDepth 100000 in
theorem zf215_82 : zfetch 215 82 = some (.iload_n 1, 1, (0, 0, 0), 0, 0) := by decide +kernel
set_option maxRecDepth 100000 in
theorem zk215_82 (n : Nat) : zex E (n + 1) d 215 82 [some (.ref a), some (.int (Int32.ofNat k))] [.ref w, (.int (Int32.ofNat k)), .ref t] (sh, v, rest) = zex E n d 215 83 [some (.ref a), some (.int (Int32.ofNat k))] [(.int (Int32.ofNat k)), .ref w, (.int (Int32.ofNat k)), .ref t] (sh, v, rest) := (zx1 zf215_82).trans (rfl)
set_option maxRecDepth 100000 in
theorem zf215_83 : zfetch 215 83 = some (.iaload, 1, (0, 0, 0), 0, 0) := by decide +kernel
set_option maxRecDepth 100000 in
theorem zk215_83 (h4 : zat sh w = some (.inl (0, nw, rw9))) (hk : k < nw) (hk9 : k < 100000) (n : Nat) : zex E (n + 1) d 215 83 [some (.ref a), some (.int (Int32.ofNat k))] [(.int (Int32.ofNat k)), .ref w, (.int (Int32.ofNat k)), .ref t] (sh, v, rest) = zex E n d 215 84 [some (.ref a), some (.int (Int32.ofNat k))] [.int (v w k), (.int (Int32.ofNat k)), .ref t] (sh, v, rest) := (zx1 zf215_83).trans (zald_k (E := E) (K := fun s => zex E n d 215 84 [some (.ref a), some (.int (Int32.ofNat k))] s (sh, v, rest)) (h := (sh, v, rest)) h4 hk9 hk)
set_option maxRecDepth 100000 in
theorem zf215_84 : zfetch 215 84 = some (.iastore, 1, (0, 0, 0), 0, 0) := by decide +kernel
set_option maxRecDepth 100000 in
theorem zk215_84 (h3 : zat sh t = some (.inl (0, nt, rt))) (hk : k < nt) (hk9 : k < 100000) (n : Nat) : zex E (n + 1) d 215 84 [some (.ref a), some (.int (Int32.ofNat k))] [.int (v w k), (.int (Int32.ofNat k)), .ref t] (sh, v, rest) = zex E n d 215 85 [some (.ref a), some (.int (Int32.ofNat k))] [] (sh, (zrow v t (upd (v t) k (v w k))), rest) := (zx1 zf215_84).trans (zast_k (K := fun s h => zex E n d 215 85 [some (.ref a), some (.int (Int32.ofNat k))] s h) (h := (sh, v, rest)) h3 hk9 hk)
set_option maxRecDepth 100000 in
theorem zf215_85 : zfetch 215 85 = some (.iinc 1 1, 3, (0, 0, 0), 1, 0) := by decide +kernel
set_option maxRecDepth 100000 in
theorem zk215_85 (n : Nat) : zex E (n + 1) d 215 85 [some (.ref a), some (.int (Int32.ofNat k))] [] (sh, (zrow v t (upd (v t) k (v w k))), rest) = zex E n d 215 88 [some (.ref a), some (.int (Int32.ofNat (k + 1)))] [] (sh, (zrow v t (upd (v t) k (v w k))), rest) := (zx1 zf215_85).trans ((by rw [← zsucc32]; rfl))
set_option maxRecDepth 100000 in
theorem zf215_88 : zfetch 215 88 = some (.goto (-33), 3, (55, 0, 0), 0, 0) := by decide +kernel
set_option maxRecDepth 100000 in
theorem zk215_88 (n : Nat) : zex E (n + 1) d 215 88 [some (.ref a), some (.int (Int32.ofNat (k + 1)))] [] (sh, (zrow v t (upd (v t) k (v w k))), rest) = zex E n d 215 55 [some (.ref a), some (.int (Int32.ofNat (k + 1)))] [] (sh, (zrow v t (upd (v t) k (v w k))), rest) := (zx1 zf215_88).trans (rfl)
set_option maxRecDepth 100000 in
theorem zf215_91 : zfetch 215 91 = some (.return_, 1, (0, 0, 0), 0, 0) := by decide +kernel
set_option maxRecDepth 100000 in
theorem zk215_x (n : Nat) : zex E (n + 3) d 215 55 [some (.ref a), some (.int (Int32.ofNat 777))] [] (sh, v, rest) = zex E n d 215 91 [some (.ref a), some (.int (Int32.ofNat 777))] [] (sh, v, rest) := (zk215_55 (k := 777) (n + 2)).trans ((zk215_56 (k := 777) (n + 1)).trans ((zx1 zf215_59).trans rfl))
set_option maxRecDepth 100000 in
theorem zrem_loop {E : zE} {d a t w nt nw : Nat} {sl : List (Option (Option Nat))} {rt rw9 : List (Option Nat)} {sh : List zS} {rest : (Nat → Nat → Int64) × Nat × Nat} (ha : zat sh a = some (.inr (.inl (12, sl)))) (h1 : zat sl 5 = some (some (some t))) (h2 : zat sl 1 = some (some (some w))) (h3 : zat sh t = some (.inl (0, nt, rt))) (h4 : zat sh w = some (.inl (0, nw, rw9))) (hnt : 777 ≤ nt) (hnw : 777 ≤ nw) (hwt : w ≠ t) : ∀ (j k : Nat) (v : Nat → Nat → Int32) (n : Nat) (h7 : zat sl 7 = some none) (h8 : v a 7 = 1) (hat : a ≠ t), k + j = 777 → zex E (n + 3 + 20 * j) d 215 55 [some (.ref a), some (.int (Int32.ofNat k))] [] (sh, v, rest) = zex E n d 215 91 [some (.ref a), some (.int (Int32.ofNat 777))] [] (sh, zcpf v t w 0 k 777, rest)
  | 0, k, v, n, h7, h8, hat, hk => by
    have hk : k = 777 := by omega
    subst hk
    rw [zcpf_end]
    exact zk215_x n
  | j + 1, k, v, n, h7, h8, hat, hk => by
    have hk2 : k < 777 := by omega
    have hz := zrem_loop (E := E) (d := d) (rest := rest) ha h1 h2 h3 h4 hnt hnw hwt j (k + 1) (zrow v t (upd (v t) k (v w k))) n h7 (by rw [zrow_ne _ _ hat]; exact h8) hat (by omega)
    have hs := zcpf_step (o := 0) v hwt hk2
    rw [Nat.zero_add] at hs
    rw [hs] at hz
    rw [← hz, show n + 3 + 20 * (j + 1) = n + 3 + 20 * j + 20 by omega]
    generalize n + 3 + 20 * j = q
    exact (zk215_55 (q + 19)).trans ((zk215_56 (q + 18)).trans ((zk215_59 hk2 (q + 17)).trans ((zk215_62 (q + 16)).trans ((zk215_63 ha h1 (q + 15)).trans ((zk215_66 (q + 14)).trans ((zk215_69 (q + 13)).trans ((zk215_70 ha h7 (q + 12)).trans ((zk215_73 (q + 11)).trans ((zk215_74 (q + 10)).trans ((zk215_75 (q + 9)).trans ((zk215_76 (q + 8)).trans ((zk215_77 h8 (q + 7)).trans ((zk215_78 (q + 6)).trans ((zk215_79 ha h2 (q + 5)).trans ((zk215_82 (q + 4)).trans ((zk215_83 h4 (by omega) (by omega) (q + 3)).trans ((zk215_84 h3 (by omega) (by omega) (q + 2)).trans ((zk215_85 (q + 1)).trans (zk215_88 q)))))))))))))))))))

set_option maxRecDepth 100000 in
theorem zf215_0 : zfetch 215 0 = some (.aload_n 0, 1, (0, 0, 0), 0, 0) := by decide +kernel
set_option maxRecDepth 100000 in
theorem zf215_1 : zfetch 215 1 = some (.getfield 49, 3, (12, 7, 0), 0, 1624) := by decide +kernel
set_option maxRecDepth 100000 in
theorem zf215_4 : zfetch 215 4 = some (.bipush 12, 2, (0, 0, 0), 12, 0) := by decide +kernel
set_option maxRecDepth 100000 in
theorem zf215_6 : zfetch 215 6 = some (.if_icmp .ne 37, 3, (43, 0, 0), 0, 0) := by decide +kernel
set_option maxRecDepth 100000 in
theorem zf215_43 : zfetch 215 43 = some (.aload_n 0, 1, (0, 0, 0), 0, 0) := by decide +kernel
set_option maxRecDepth 100000 in
theorem zf215_44 : zfetch 215 44 = some (.dup, 1, (0, 0, 0), 0, 0) := by decide +kernel
set_option maxRecDepth 100000 in
theorem zf215_45 : zfetch 215 45 = some (.getfield 49, 3, (12, 7, 0), 0, 1624) := by decide +kernel
set_option maxRecDepth 100000 in
theorem zf215_48 : zfetch 215 48 = some (.iconst 1, 1, (0, 0, 0), 1, 0) := by decide +kernel
set_option maxRecDepth 100000 in
theorem zf215_49 : zfetch 215 49 = some (.iadd, 1, (0, 0, 0), 0, 0) := by decide +kernel
set_option maxRecDepth 100000 in
theorem zf215_50 : zfetch 215 50 = some (.putfield 49, 3, (12, 7, 0), 0, 1624) := by decide +kernel
set_option maxRecDepth 100000 in
theorem zf215_53 : zfetch 215 53 = some (.iconst 0, 1, (0, 0, 0), 0, 0) := by decide +kernel
set_option maxRecDepth 100000 in
theorem zf215_54 : zfetch 215 54 = some (.istore_n 1, 1, (0, 0, 0), 0, 0) := by decide +kernel

set_option maxRecDepth 100000 in
theorem zk215_0 (n : Nat) : zex E (n + 1) d 215 0 [some (.ref a), none] [] (sh, v, rest) = zex E n d 215 1 [some (.ref a), none] [.ref a] (sh, v, rest) := (zx1 zf215_0).trans (rfl)
set_option maxRecDepth 100000 in
theorem zk215_1 (ha : zat sh a = some (.inr (.inl (12, sl)))) (h7 : zat sl 7 = some none) (h9 : v a 7 = 0) (n : Nat) : zex E (n + 1) d 215 1 [some (.ref a), none] [.ref a] (sh, v, rest) = zex E n d 215 4 [some (.ref a), none] [.int 0] (sh, v, rest) := (zx1 zf215_1).trans ((zget_n (K := fun s => zex E n d 215 4 [some (.ref a), none] s (sh, v, rest)) (h := (sh, v, rest)) ha h7).trans (by show zex E n d 215 4 _ [.int (v a 7)] _ = _; rw [h9]))
set_option maxRecDepth 100000 in
theorem zk215_4 (n : Nat) : zex E (n + 1) d 215 4 [some (.ref a), none] [.int 0] (sh, v, rest) = zex E n d 215 6 [some (.ref a), none] [.int 12, .int 0] (sh, v, rest) := (zx1 zf215_4).trans (rfl)
set_option maxRecDepth 100000 in
theorem zk215_6 (n : Nat) : zex E (n + 1) d 215 6 [some (.ref a), none] [.int 12, .int 0] (sh, v, rest) = zex E n d 215 43 [some (.ref a), none] [] (sh, v, rest) := (zx1 zf215_6).trans ((by show (if (0 : Int32) = 12 then zex E n d 215 (6 + 3) [some (.ref a), none] [] (sh, v, rest) else zex E n d 215 43 [some (.ref a), none] [] (sh, v, rest)) = _; exact if_neg (by decide)))
set_option maxRecDepth 100000 in
theorem zk215_43 (n : Nat) : zex E (n + 1) d 215 43 [some (.ref a), none] [] (sh, v, rest) = zex E n d 215 44 [some (.ref a), none] [.ref a] (sh, v, rest) := (zx1 zf215_43).trans (rfl)
set_option maxRecDepth 100000 in
theorem zk215_44 (n : Nat) : zex E (n + 1) d 215 44 [some (.ref a), none] [.ref a] (sh, v, rest) = zex E n d 215 45 [some (.ref a), none] [.ref a, .ref a] (sh, v, rest) := (zx1 zf215_44).trans (rfl)
set_option maxRecDepth 100000 in
theorem zk215_45 (ha : zat sh a = some (.inr (.inl (12, sl)))) (h7 : zat sl 7 = some none) (h9 : v a 7 = 0) (n : Nat) : zex E (n + 1) d 215 45 [some (.ref a), none] [.ref a, .ref a] (sh, v, rest) = zex E n d 215 48 [some (.ref a), none] [.int 0, .ref a] (sh, v, rest) := (zx1 zf215_45).trans ((zget_n (K := fun s => zex E n d 215 48 [some (.ref a), none] s (sh, v, rest)) (h := (sh, v, rest)) ha h7).trans (by show zex E n d 215 48 _ [.int (v a 7), .ref a] _ = _; rw [h9]))
set_option maxRecDepth 100000 in
theorem zk215_48 (n : Nat) : zex E (n + 1) d 215 48 [some (.ref a), none] [.int 0, .ref a] (sh, v, rest) = zex E n d 215 49 [some (.ref a), none] [.int 1, .int 0, .ref a] (sh, v, rest) := (zx1 zf215_48).trans (rfl)
set_option maxRecDepth 100000 in
theorem zk215_49 (n : Nat) : zex E (n + 1) d 215 49 [some (.ref a), none] [.int 1, .int 0, .ref a] (sh, v, rest) = zex E n d 215 50 [some (.ref a), none] [.int (0 + 1), .ref a] (sh, v, rest) := (zx1 zf215_49).trans (rfl)
set_option maxRecDepth 100000 in
theorem zk215_50 (ha : zat sh a = some (.inr (.inl (12, sl)))) (h7 : zat sl 7 = some none) (n : Nat) : zex E (n + 1) d 215 50 [some (.ref a), none] [.int (0 + 1), .ref a] (sh, v, rest) = zex E n d 215 53 [some (.ref a), none] [] (sh, (zrow v a (upd (v a) 7 1)), rest) := (zx1 zf215_50).trans ((by show zput (fun s h => zex E n d 215 53 [some (.ref a), none] s h) (sh, v, rest) 12 7 0 [.int (0 + 1), .ref a] = _; unfold zput; simp only; rw [ha]; simp only; rw [Nat.beq_refl, cond_true, h7]; rfl))
set_option maxRecDepth 100000 in
theorem zk215_53 (n : Nat) : zex E (n + 1) d 215 53 [some (.ref a), none] [] (sh, v, rest) = zex E n d 215 54 [some (.ref a), none] [.int 0] (sh, v, rest) := (zx1 zf215_53).trans (rfl)
set_option maxRecDepth 100000 in
theorem zk215_54 (n : Nat) : zex E (n + 1) d 215 54 [some (.ref a), none] [.int 0] (sh, v, rest) = zex E n d 215 55 [some (.ref a), some (.int (Int32.ofNat 0))] [] (sh, v, rest) := (zx1 zf215_54).trans (rfl)
set_option maxRecDepth 100000 in
theorem zk215_91 (n : Nat) : zex E (n + 1) d 215 91 [some (.ref a), some (.int (Int32.ofNat 777))] [] (sh, v, rest) = some (.inl none, (sh, v, rest)) := (zx1 zf215_91).trans rfl
set_option maxRecDepth 100000 in
theorem zrem_spec {E : zE} {d a t w nt nw : Nat} {sl : List (Option (Option Nat))} {rt rw9 : List (Option Nat)} {sh : List zS} {v : Nat → Nat → Int32} {rest : (Nat → Nat → Int64) × Nat × Nat} (ha : zat sh a = some (.inr (.inl (12, sl)))) (h7 : zat sl 7 = some none) (h9 : v a 7 = 0) (h1 : zat sl 5 = some (some (some t))) (h2 : zat sl 1 = some (some (some w))) (h3 : zat sh t = some (.inl (0, nt, rt))) (h4 : zat sh w = some (.inl (0, nw, rw9))) (hnt : 777 ≤ nt) (hnw : 777 ≤ nw) (hwt : w ≠ t) (n : Nat) : zex E (n + 1 + 3 + 20 * 777 + 12) d 215 0 [some (.ref a), none] [] (sh, v, rest) = some (.inl none, (sh, zcpf (zrow v a (upd (v a) 7 1)) t w 0 0 777, rest)) := by
  have hat : a ≠ t := by
    intro hx
    rw [hx, h3] at ha
    cases ha
  have hv : zrow v a (upd (v a) 7 1) a 7 = 1 := by
    rw [zrow_at]
    rfl
  have hl := zrem_loop (E := E) (d := d) (rest := rest) ha h1 h2 h3 h4 hnt hnw hwt 777 0 (zrow v a (upd (v a) 7 1)) (n + 1) h7 hv hat rfl
  generalize n + 1 + 3 + 20 * 777 = q at hl ⊢
  exact (zk215_0 (q + 11)).trans ((zk215_1 ha h7 h9 (q + 10)).trans ((zk215_4 (q + 9)).trans ((zk215_6 (q + 8)).trans ((zk215_43 (q + 7)).trans ((zk215_44 (q + 6)).trans ((zk215_45 ha h7 h9 (q + 5)).trans ((zk215_48 (q + 4)).trans ((zk215_49 (q + 3)).trans ((zk215_50 ha h7 (q + 2)).trans ((zk215_53 (q + 1)).trans ((zk215_54 q).trans (hl.trans (zk215_91 n)))))))))))))

end ZCP