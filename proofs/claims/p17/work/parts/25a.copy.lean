set_option maxRecDepth 100000 in
theorem zx1 {E : zE} {n d mi pc : Nat} {ls : zLs} {st : List Value} {h : zH} {ins : Instr} {ln a1 a2 a3 w : Nat} {z : Int32} (hf : zfetch mi pc = some (ins, ln, (a1, a2, a3), z, w)) : zex E (n + 1) d mi pc ls st h = zins E (zex E n) d mi pc ls st h ln a1 a2 a3 z ins := by
  rw [zex_succ]
  unfold zbody
  rw [hf]
set_option maxRecDepth 100000 in
theorem zget_r {K : List Value → Option zR} {h : zH} {ci fk a o : Nat} {sl : List (Option (Option Nat))} {r : List Value} (ha : zat h.1 a = some (.inr (.inl (ci, sl)))) (hs : zat sl fk = some (some (some o))) : zget K h ci fk (.ref a :: r) = K (.ref o :: r) := by
  unfold zget
  simp only
  rw [ha]
  simp only
  rw [Nat.beq_refl, cond_true, hs]
  rfl
set_option maxRecDepth 100000 in
theorem zget_n {K : List Value → Option zR} {h : zH} {ci fk a : Nat} {sl : List (Option (Option Nat))} {r : List Value} (ha : zat h.1 a = some (.inr (.inl (ci, sl)))) (hs : zat sl fk = some none) : zget K h ci fk (.ref a :: r) = K (.int (h.2.1 a fk) :: r) := by
  unfold zget
  simp only
  rw [ha]
  simp only
  rw [Nat.beq_refl, cond_true, hs]
set_option maxRecDepth 100000 in
theorem zarr_k {h : zH} {t a n : Nat} {rf : List (Option Nat)} {K : Nat → Option zR} (ha : zat h.1 a = some (.inl (t, n, rf))) : zarr h t a K = K n := by
  unfold zarr
  rw [ha]
  simp only
  rw [Nat.beq_refl, cond_true]

set_option maxRecDepth 100000 in
theorem zof9 {k : Nat} (hk : k < 100000) : (Int32.ofNat k).toInt = (k : Int) := Int32.toInt_ofNat_of_lt (by omega)
set_option maxRecDepth 100000 in
theorem zsuc9 (k : Nat) : Int32.ofNat k + 1 = Int32.ofNat (k + 1) := (Int32.ofNat_add k 1).symm
set_option maxRecDepth 100000 in
theorem zck_i {j : Int32} {N n : Nat} {r : Option zR} (hj : j.toInt = (N : Int)) (hN : N < n) : zck j n r = r := by
  unfold zck
  have h2 : j.toNatClampNeg = N := by
    rw [← Int32.toNat_toInt]
    omega
  rw [if_neg, if_neg]
  · omega
  · rw [Int32.lt_iff_toInt_lt]
    have h9 : (0 : Int32).toInt = 0 := by decide
    omega
set_option maxRecDepth 100000 in
theorem ztc_i {j : Int32} {N : Nat} (hj : j.toInt = (N : Int)) : j.toNatClampNeg = N := by
  rw [← Int32.toNat_toInt]
  omega
set_option maxRecDepth 100000 in
theorem zald_i {E : zE} {K : List Value → Option zR} {h : zH} {a n N : Nat} {j : Int32} {rf : List (Option Nat)} {r : List Value} (ha : zat h.1 a = some (.inl (0, n, rf))) (hj : j.toInt = (N : Int)) (hN : N < n) : zald E K h (.int j :: .ref a :: r) = K (.int (h.2.1 a N) :: r) := by
  unfold zald
  simp only
  rw [zarr_k ha, zck_i hj hN, ztc_i hj]
set_option maxRecDepth 100000 in
theorem zast_i {K : List Value → zH → Option zR} {h : zH} {a n N : Nat} {x j : Int32} {rf : List (Option Nat)} {r : List Value} (ha : zat h.1 a = some (.inl (0, n, rf))) (hj : j.toInt = (N : Int)) (hN : N < n) : zast K h (.int x :: .int j :: .ref a :: r) = K r (zsetI h a (upd (h.2.1 a) N x)) := by
  unfold zast
  simp only
  rw [zarr_k ha, zck_i hj hN, ztc_i hj]
/-- k places of a row copied -/
def zcpg (v : Nat → Nat → Int32) (t w o q k : Nat) : Nat → Nat → Int32 := zrow v t (fun i => if o ≤ i ∧ i < o + k then v w (q + (i - o)) else v t i)
set_option maxRecDepth 100000 in
theorem zcpg_0 (v : Nat → Nat → Int32) (t w o q : Nat) : zcpg v t w o q 0 = v := by
  funext c
  unfold zcpg
  by_cases hc : c = t
  · rw [hc, zrow_at]
    funext i
    rw [if_neg (by omega)]
  · rw [zrow_ne _ _ hc]
set_option maxRecDepth 100000 in
theorem zcpg_w (v : Nat → Nat → Int32) {t w o q k : Nat} (hw : w ≠ t ∨ o ≤ q) : zcpg v t w o q k w (q + k) = v w (q + k) := by
  unfold zcpg
  by_cases hc : w = t
  · rcases hw with hw | hw
    · exact absurd hc hw
    · rw [hc, zrow_at]
      show (if o ≤ q + k ∧ q + k < o + k then _ else _) = _
      by_cases h1 : o ≤ q + k ∧ q + k < o + k
      · omega
      · rw [if_neg h1]
  · rw [zrow_ne _ _ hc]
set_option maxRecDepth 100000 in
theorem zcpg_s (v : Nat → Nat → Int32) {t w o q k : Nat} (hw : w ≠ t ∨ o ≤ q) : zrow (zcpg v t w o q k) t (upd (zcpg v t w o q k t) (o + k) (zcpg v t w o q k w (q + k))) = zcpg v t w o q (k + 1) := by
  rw [zcpg_w v hw]
  funext c
  unfold zcpg
  by_cases hc : c = t
  · rw [hc, zrow_at, zrow_at, zrow_at]
    funext i
    unfold upd
    by_cases h2 : i = o + k
    · rw [if_pos h2, if_pos (by omega), h2, show o + k - o = k by omega]
    · rw [if_neg h2]
      show (if o ≤ i ∧ i < o + k then v w (q + (i - o)) else v t i) = _
      by_cases h1 : o ≤ i ∧ i < o + k
      · rw [if_pos h1, if_pos (by omega)]
      · rw [if_neg h1, if_neg (by omega)]
  · rw [zrow_ne _ _ hc, zrow_ne _ _ hc, zrow_ne _ _ hc]
set_option maxRecDepth 100000 in
theorem zcpg_a (v : Nat → Nat → Int32) {t w o q k a i : Nat} (h : a ≠ t) : zcpg v t w o q k a i = v a i := by
  unfold zcpg
  rw [zrow_ne _ _ h]

section ZCP2
variable {E : zE} {d a t w nt nw k I J : Nat} {rho : Int32} {sl : List (Option (Option Nat))} {rt rw9 : List (Option Nat)} {sh : List zS} {v : Nat → Nat → Int32} {rest : (Nat → Nat → Int64) × Nat × Nat}
set_option maxRecDepth 100000 in
theorem zf212_7 : zfetch 212 7 = some (.iload_n 1, 1, (0, 0, 0), 0, 0) := by decide +kernel
set_option maxRecDepth 100000 in
theorem zk212_7  (n : Nat) : zex E (n + 1) d 212 7 [some (.ref a), some (.int (Int32.ofNat k))] [] (sh, v, rest) = zex E n d 212 8 [some (.ref a), some (.int (Int32.ofNat k))] [.int (Int32.ofNat k)] (sh, v, rest) := (zx1 zf212_7).trans (rfl)
set_option maxRecDepth 100000 in
theorem zf212_8 : zfetch 212 8 = some (.sipush 1626, 3, (0, 0, 0), 1626, 0) := by decide +kernel
set_option maxRecDepth 100000 in
theorem zk212_8  (n : Nat) : zex E (n + 1) d 212 8 [some (.ref a), some (.int (Int32.ofNat k))] [.int (Int32.ofNat k)] (sh, v, rest) = zex E n d 212 11 [some (.ref a), some (.int (Int32.ofNat k))] [.int 1626, .int (Int32.ofNat k)] (sh, v, rest) := (zx1 zf212_8).trans (rfl)
set_option maxRecDepth 100000 in
theorem zf212_11 : zfetch 212 11 = some (.if_icmp .ge 21, 3, (32, 0, 0), 0, 0) := by decide +kernel
set_option maxRecDepth 100000 in
theorem zk212_11 (hk : k < 1626) (n : Nat) : zex E (n + 1) d 212 11 [some (.ref a), some (.int (Int32.ofNat k))] [.int 1626, .int (Int32.ofNat k)] (sh, v, rest) = zex E n d 212 14 [some (.ref a), some (.int (Int32.ofNat k))] [] (sh, v, rest) := (zx1 zf212_11).trans (if_neg (by rw [Int32.le_iff_toInt_le, zof9 (by omega)]; have h9 : (1626 : Int32).toInt = 1626 := (by decide); omega))
set_option maxRecDepth 100000 in
theorem zf212_14 : zfetch 212 14 = some (.aload_n 0, 1, (0, 0, 0), 0, 0) := by decide +kernel
set_option maxRecDepth 100000 in
theorem zk212_14  (n : Nat) : zex E (n + 1) d 212 14 [some (.ref a), some (.int (Int32.ofNat k))] [] (sh, v, rest) = zex E n d 212 15 [some (.ref a), some (.int (Int32.ofNat k))] [.ref a] (sh, v, rest) := (zx1 zf212_14).trans (rfl)
set_option maxRecDepth 100000 in
theorem zf212_15 : zfetch 212 15 = some (.getfield 17, 3, (12, 2, 0), 0, 1619) := by decide +kernel
set_option maxRecDepth 100000 in
theorem zk212_15 (ha : zat sh a = some (.inr (.inl (12, sl)))) (h1 : zat sl 2 = some (some (some t))) (n : Nat) : zex E (n + 1) d 212 15 [some (.ref a), some (.int (Int32.ofNat k))] [.ref a] (sh, v, rest) = zex E n d 212 18 [some (.ref a), some (.int (Int32.ofNat k))] [.ref t] (sh, v, rest) := (zx1 zf212_15).trans (zget_r (K := fun s => zex E n d 212 18 [some (.ref a), some (.int (Int32.ofNat k))] s (sh, v, rest)) (h := (sh, v, rest)) ha h1)
set_option maxRecDepth 100000 in
theorem zf212_18 : zfetch 212 18 = some (.iload_n 1, 1, (0, 0, 0), 0, 0) := by decide +kernel
set_option maxRecDepth 100000 in
theorem zk212_18  (n : Nat) : zex E (n + 1) d 212 18 [some (.ref a), some (.int (Int32.ofNat k))] [.ref t] (sh, v, rest) = zex E n d 212 19 [some (.ref a), some (.int (Int32.ofNat k))] [.int (Int32.ofNat k), .ref t] (sh, v, rest) := (zx1 zf212_18).trans (rfl)
set_option maxRecDepth 100000 in
theorem zf212_19 : zfetch 212 19 = some (.aload_n 0, 1, (0, 0, 0), 0, 0) := by decide +kernel
set_option maxRecDepth 100000 in
theorem zk212_19  (n : Nat) : zex E (n + 1) d 212 19 [some (.ref a), some (.int (Int32.ofNat k))] [.int (Int32.ofNat k), .ref t] (sh, v, rest) = zex E n d 212 20 [some (.ref a), some (.int (Int32.ofNat k))] [.ref a, .int (Int32.ofNat k), .ref t] (sh, v, rest) := (zx1 zf212_19).trans (rfl)
set_option maxRecDepth 100000 in
theorem zf212_20 : zfetch 212 20 = some (.getfield 13, 3, (12, 1, 0), 0, 1618) := by decide +kernel
set_option maxRecDepth 100000 in
theorem zk212_20 (ha : zat sh a = some (.inr (.inl (12, sl)))) (h2 : zat sl 1 = some (some (some w))) (n : Nat) : zex E (n + 1) d 212 20 [some (.ref a), some (.int (Int32.ofNat k))] [.ref a, .int (Int32.ofNat k), .ref t] (sh, v, rest) = zex E n d 212 23 [some (.ref a), some (.int (Int32.ofNat k))] [.ref w, .int (Int32.ofNat k), .ref t] (sh, v, rest) := (zx1 zf212_20).trans (zget_r (K := fun s => zex E n d 212 23 [some (.ref a), some (.int (Int32.ofNat k))] s (sh, v, rest)) (h := (sh, v, rest)) ha h2)
set_option maxRecDepth 100000 in
theorem zf212_23 : zfetch 212 23 = some (.iload_n 1, 1, (0, 0, 0), 0, 0) := by decide +kernel
set_option maxRecDepth 100000 in
theorem zk212_23  (n : Nat) : zex E (n + 1) d 212 23 [some (.ref a), some (.int (Int32.ofNat k))] [.ref w, .int (Int32.ofNat k), .ref t] (sh, v, rest) = zex E n d 212 24 [some (.ref a), some (.int (Int32.ofNat k))] [.int (Int32.ofNat k), .ref w, .int (Int32.ofNat k), .ref t] (sh, v, rest) := (zx1 zf212_23).trans (rfl)
set_option maxRecDepth 100000 in
theorem zf212_24 : zfetch 212 24 = some (.iaload, 1, (0, 0, 0), 0, 0) := by decide +kernel
set_option maxRecDepth 100000 in
theorem zk212_24 (h4 : zat sh w = some (.inl (0, nw, rw9))) (hj : ((Int32.ofNat k)).toInt = (J : Int)) (hJ : J < nw) (n : Nat) : zex E (n + 1) d 212 24 [some (.ref a), some (.int (Int32.ofNat k))] [.int (Int32.ofNat k), .ref w, .int (Int32.ofNat k), .ref t] (sh, v, rest) = zex E n d 212 25 [some (.ref a), some (.int (Int32.ofNat k))] [.int (v w J), .int (Int32.ofNat k), .ref t] (sh, v, rest) := (zx1 zf212_24).trans (zald_i (E := E) (K := fun s => zex E n d 212 25 [some (.ref a), some (.int (Int32.ofNat k))] s (sh, v, rest)) (h := (sh, v, rest)) h4 hj hJ)
set_option maxRecDepth 100000 in
theorem zf212_25 : zfetch 212 25 = some (.iastore, 1, (0, 0, 0), 0, 0) := by decide +kernel
set_option maxRecDepth 100000 in
theorem zk212_25 (h3 : zat sh t = some (.inl (0, nt, rt))) (hi : ((Int32.ofNat k)).toInt = (I : Int)) (hI : I < nt) (n : Nat) : zex E (n + 1) d 212 25 [some (.ref a), some (.int (Int32.ofNat k))] [.int (v w J), .int (Int32.ofNat k), .ref t] (sh, v, rest) = zex E n d 212 26 [some (.ref a), some (.int (Int32.ofNat k))] [] (sh, (zrow v t (upd (v t) I (v w J))), rest) := (zx1 zf212_25).trans (zast_i (K := fun s h => zex E n d 212 26 [some (.ref a), some (.int (Int32.ofNat k))] s h) (h := (sh, v, rest)) h3 hi hI)
set_option maxRecDepth 100000 in
theorem zf212_26 : zfetch 212 26 = some (.iinc 1 1, 3, (0, 0, 0), 1, 0) := by decide +kernel
set_option maxRecDepth 100000 in
theorem zk212_26  (n : Nat) : zex E (n + 1) d 212 26 [some (.ref a), some (.int (Int32.ofNat k))] [] (sh, (zrow v t (upd (v t) I (v w J))), rest) = zex E n d 212 29 [some (.ref a), some (.int (Int32.ofNat (k + 1)))] [] (sh, (zrow v t (upd (v t) I (v w J))), rest) := (zx1 zf212_26).trans ((by rw [← zsuc9]; rfl))
set_option maxRecDepth 100000 in
theorem zf212_29 : zfetch 212 29 = some (.goto (-22), 3, (7, 0, 0), 0, 0) := by decide +kernel
set_option maxRecDepth 100000 in
theorem zk212_29  (n : Nat) : zex E (n + 1) d 212 29 [some (.ref a), some (.int (Int32.ofNat (k + 1)))] [] (sh, (zrow v t (upd (v t) I (v w J))), rest) = zex E n d 212 7 [some (.ref a), some (.int (Int32.ofNat (k + 1)))] [] (sh, (zrow v t (upd (v t) I (v w J))), rest) := (zx1 zf212_29).trans (rfl)
set_option maxRecDepth 100000 in
theorem zlimage_turn (ha : zat sh a = some (.inr (.inl (12, sl)))) (h1 : zat sl 2 = some (some (some t))) (h2 : zat sl 1 = some (some (some w))) (h3 : zat sh t = some (.inl (0, nt, rt))) (h4 : zat sh w = some (.inl (0, nw, rw9))) (hk : k < 1626) (hi : ((Int32.ofNat k)).toInt = (I : Int)) (hI : I < nt) (hj : ((Int32.ofNat k)).toInt = (J : Int)) (hJ : J < nw) (n : Nat) : zex E (n + 13) d 212 7 [some (.ref a), some (.int (Int32.ofNat k))] [] (sh, v, rest) = zex E n d 212 7 [some (.ref a), some (.int (Int32.ofNat (k + 1)))] [] (sh, (zrow v t (upd (v t) I (v w J))), rest) := (zk212_7 (n + 12)).trans ((zk212_8 (n + 11)).trans ((zk212_11 hk (n + 10)).trans ((zk212_14 (n + 9)).trans ((zk212_15 ha h1 (n + 8)).trans ((zk212_18 (n + 7)).trans ((zk212_19 (n + 6)).trans ((zk212_20 ha h2 (n + 5)).trans ((zk212_23 (n + 4)).trans ((zk212_24 h4 hj hJ (n + 3)).trans ((zk212_25 h3 hi hI (n + 2)).trans ((zk212_26 (n + 1)).trans (zk212_29 n))))))))))))
set_option maxRecDepth 100000 in
theorem zlimage_exit (n : Nat) : zex E (n + 3) d 212 7 [some (.ref a), some (.int (Int32.ofNat 1626))] [] (sh, v, rest) = zex E n d 212 32 [some (.ref a), some (.int (Int32.ofNat 1626))] [] (sh, v, rest) := (zk212_7 (k := 1626) (n + 2)).trans ((zk212_8 (k := 1626) (n + 1)).trans ((zx1 zf212_11).trans rfl))
set_option maxRecDepth 100000 in
theorem zlimage_loop {E : zE} {d a t w nt nw : Nat} {sl : List (Option (Option Nat))} {rt rw9 : List (Option Nat)} {sh : List zS} {v : Nat → Nat → Int32} {rest : (Nat → Nat → Int64) × Nat × Nat} (ha : zat sh a = some (.inr (.inl (12, sl)))) (h1 : zat sl 2 = some (some (some t))) (h2 : zat sl 1 = some (some (some w))) (h3 : zat sh t = some (.inl (0, nt, rt))) (h4 : zat sh w = some (.inl (0, nw, rw9))) {o q : Nat} (Hi : ∀ k, k < 1626 → ((Int32.ofNat k)).toInt = ((o + k : Nat) : Int)) (Hj : ∀ k, k < 1626 → ((Int32.ofNat k)).toInt = ((q + k : Nat) : Int)) (hnt : o + 1626 ≤ nt) (hnw : q + 1626 ≤ nw) (hwt : w ≠ t ∨ o ≤ q) : ∀ (j k n : Nat), k + j = 1626 → zex E (n + 3 + 13 * j) d 212 7 [some (.ref a), some (.int (Int32.ofNat k))] [] (sh, zcpg v t w o q k, rest) = zex E n d 212 32 [some (.ref a), some (.int (Int32.ofNat 1626))] [] (sh, zcpg v t w o q 1626, rest)
  | 0, k, n, hk => by
    have hk : k = 1626 := by omega
    subst hk
    exact zlimage_exit n
  | j + 1, k, n, hk => by
    have hk2 : k < 1626 := by omega
    have hz := zlimage_loop (E := E) (d := d) (v := v) (rest := rest) ha h1 h2 h3 h4 Hi Hj hnt hnw hwt j (k + 1) n (by omega)
    have hs := zcpg_s v (k := k) hwt
    rw [← hz, show n + 3 + 13 * (j + 1) = n + 3 + 13 * j + 13 by omega, ← hs]
    exact zlimage_turn ha h1 h2 h3 h4 hk2 (Hi k hk2) (by omega) (Hj k hk2) (by omega) (n + 3 + 13 * j)

set_option maxRecDepth 100000 in
theorem zf213_16 : zfetch 213 16 = some (.iload_n 1, 1, (0, 0, 0), 0, 0) := by decide +kernel
set_option maxRecDepth 100000 in
theorem zk213_16  (n : Nat) : zex E (n + 1) d 213 16 [some (.ref a), some (.int (Int32.ofNat k))] [] (sh, v, rest) = zex E n d 213 17 [some (.ref a), some (.int (Int32.ofNat k))] [.int (Int32.ofNat k)] (sh, v, rest) := (zx1 zf213_16).trans (rfl)
set_option maxRecDepth 100000 in
theorem zf213_17 : zfetch 213 17 = some (.sipush 1626, 3, (0, 0, 0), 1626, 0) := by decide +kernel
set_option maxRecDepth 100000 in
theorem zk213_17  (n : Nat) : zex E (n + 1) d 213 17 [some (.ref a), some (.int (Int32.ofNat k))] [.int (Int32.ofNat k)] (sh, v, rest) = zex E n d 213 20 [some (.ref a), some (.int (Int32.ofNat k))] [.int 1626, .int (Int32.ofNat k)] (sh, v, rest) := (zx1 zf213_17).trans (rfl)
set_option maxRecDepth 100000 in
theorem zf213_20 : zfetch 213 20 = some (.if_icmp .ge 21, 3, (41, 0, 0), 0, 0) := by decide +kernel
set_option maxRecDepth 100000 in
theorem zk213_20 (hk : k < 1626) (n : Nat) : zex E (n + 1) d 213 20 [some (.ref a), some (.int (Int32.ofNat k))] [.int 1626, .int (Int32.ofNat k)] (sh, v, rest) = zex E n d 213 23 [some (.ref a), some (.int (Int32.ofNat k))] [] (sh, v, rest) := (zx1 zf213_20).trans (if_neg (by rw [Int32.le_iff_toInt_le, zof9 (by omega)]; have h9 : (1626 : Int32).toInt = 1626 := (by decide); omega))
set_option maxRecDepth 100000 in
theorem zf213_23 : zfetch 213 23 = some (.aload_n 0, 1, (0, 0, 0), 0, 0) := by decide +kernel
set_option maxRecDepth 100000 in
theorem zk213_23  (n : Nat) : zex E (n + 1) d 213 23 [some (.ref a), some (.int (Int32.ofNat k))] [] (sh, v, rest) = zex E n d 213 24 [some (.ref a), some (.int (Int32.ofNat k))] [.ref a] (sh, v, rest) := (zx1 zf213_23).trans (rfl)
set_option maxRecDepth 100000 in
theorem zf213_24 : zfetch 213 24 = some (.getfield 13, 3, (12, 1, 0), 0, 1618) := by decide +kernel
set_option maxRecDepth 100000 in
theorem zk213_24 (ha : zat sh a = some (.inr (.inl (12, sl)))) (h1 : zat sl 1 = some (some (some t))) (n : Nat) : zex E (n + 1) d 213 24 [some (.ref a), some (.int (Int32.ofNat k))] [.ref a] (sh, v, rest) = zex E n d 213 27 [some (.ref a), some (.int (Int32.ofNat k))] [.ref t] (sh, v, rest) := (zx1 zf213_24).trans (zget_r (K := fun s => zex E n d 213 27 [some (.ref a), some (.int (Int32.ofNat k))] s (sh, v, rest)) (h := (sh, v, rest)) ha h1)
set_option maxRecDepth 100000 in
theorem zf213_27 : zfetch 213 27 = some (.iload_n 1, 1, (0, 0, 0), 0, 0) := by decide +kernel
set_option maxRecDepth 100000 in
theorem zk213_27  (n : Nat) : zex E (n + 1) d 213 27 [some (.ref a), some (.int (Int32.ofNat k))] [.ref t] (sh, v, rest) = zex E n d 213 28 [some (.ref a), some (.int (Int32.ofNat k))] [.int (Int32.ofNat k), .ref t] (sh, v, rest) := (zx1 zf213_27).trans (rfl)
set_option maxRecDepth 100000 in
theorem zf213_28 : zfetch 213 28 = some (.aload_n 0, 1, (0, 0, 0), 0, 0) := by decide +kernel
set_option maxRecDepth 100000 in
theorem zk213_28  (n : Nat) : zex E (n + 1) d 213 28 [some (.ref a), some (.int (Int32.ofNat k))] [.int (Int32.ofNat k), .ref t] (sh, v, rest) = zex E n d 213 29 [some (.ref a), some (.int (Int32.ofNat k))] [.ref a, .int (Int32.ofNat k), .ref t] (sh, v, rest) := (zx1 zf213_28).trans (rfl)
set_option maxRecDepth 100000 in
theorem zf213_29 : zfetch 213 29 = some (.getfield 17, 3, (12, 2, 0), 0, 1619) := by decide +kernel
set_option maxRecDepth 100000 in
theorem zk213_29 (ha : zat sh a = some (.inr (.inl (12, sl)))) (h2 : zat sl 2 = some (some (some w))) (n : Nat) : zex E (n + 1) d 213 29 [some (.ref a), some (.int (Int32.ofNat k))] [.ref a, .int (Int32.ofNat k), .ref t] (sh, v, rest) = zex E n d 213 32 [some (.ref a), some (.int (Int32.ofNat k))] [.ref w, .int (Int32.ofNat k), .ref t] (sh, v, rest) := (zx1 zf213_29).trans (zget_r (K := fun s => zex E n d 213 32 [some (.ref a), some (.int (Int32.ofNat k))] s (sh, v, rest)) (h := (sh, v, rest)) ha h2)
set_option maxRecDepth 100000 in
theorem zf213_32 : zfetch 213 32 = some (.iload_n 1, 1, (0, 0, 0), 0, 0) := by decide +kernel
set_option maxRecDepth 100000 in
theorem zk213_32  (n : Nat) : zex E (n + 1) d 213 32 [some (.ref a), some (.int (Int32.ofNat k))] [.ref w, .int (Int32.ofNat k), .ref t] (sh, v, rest) = zex E n d 213 33 [some (.ref a), some (.int (Int32.ofNat k))] [.int (Int32.ofNat k), .ref w, .int (Int32.ofNat k), .ref t] (sh, v, rest) := (zx1 zf213_32).trans (rfl)
set_option maxRecDepth 100000 in
theorem zf213_33 : zfetch 213 33 = some (.iaload, 1, (0, 0, 0), 0, 0) := by decide +kernel
set_option maxRecDepth 100000 in
theorem zk213_33 (h4 : zat sh w = some (.inl (0, nw, rw9))) (hj : ((Int32.ofNat k)).toInt = (J : Int)) (hJ : J < nw) (n : Nat) : zex E (n + 1) d 213 33 [some (.ref a), some (.int (Int32.ofNat k))] [.int (Int32.ofNat k), .ref w, .int (Int32.ofNat k), .ref t] (sh, v, rest) = zex E n d 213 34 [some (.ref a), some (.int (Int32.ofNat k))] [.int (v w J), .int (Int32.ofNat k), .ref t] (sh, v, rest) := (zx1 zf213_33).trans (zald_i (E := E) (K := fun s => zex E n d 213 34 [some (.ref a), some (.int (Int32.ofNat k))] s (sh, v, rest)) (h := (sh, v, rest)) h4 hj hJ)
set_option maxRecDepth 100000 in
theorem zf213_34 : zfetch 213 34 = some (.iastore, 1, (0, 0, 0), 0, 0) := by decide +kernel
set_option maxRecDepth 100000 in
theorem zk213_34 (h3 : zat sh t = some (.inl (0, nt, rt))) (hi : ((Int32.ofNat k)).toInt = (I : Int)) (hI : I < nt) (n : Nat) : zex E (n + 1) d 213 34 [some (.ref a), some (.int (Int32.ofNat k))] [.int (v w J), .int (Int32.ofNat k), .ref t] (sh, v, rest) = zex E n d 213 35 [some (.ref a), some (.int (Int32.ofNat k))] [] (sh, (zrow v t (upd (v t) I (v w J))), rest) := (zx1 zf213_34).trans (zast_i (K := fun s h => zex E n d 213 35 [some (.ref a), some (.int (Int32.ofNat k))] s h) (h := (sh, v, rest)) h3 hi hI)
set_option maxRecDepth 100000 in
theorem zf213_35 : zfetch 213 35 = some (.iinc 1 1, 3, (0, 0, 0), 1, 0) := by decide +kernel
set_option maxRecDepth 100000 in
theorem zk213_35  (n : Nat) : zex E (n + 1) d 213 35 [some (.ref a), some (.int (Int32.ofNat k))] [] (sh, (zrow v t (upd (v t) I (v w J))), rest) = zex E n d 213 38 [some (.ref a), some (.int (Int32.ofNat (k + 1)))] [] (sh, (zrow v t (upd (v t) I (v w J))), rest) := (zx1 zf213_35).trans ((by rw [← zsuc9]; rfl))
set_option maxRecDepth 100000 in
theorem zf213_38 : zfetch 213 38 = some (.goto (-22), 3, (16, 0, 0), 0, 0) := by decide +kernel
set_option maxRecDepth 100000 in
theorem zk213_38  (n : Nat) : zex E (n + 1) d 213 38 [some (.ref a), some (.int (Int32.ofNat (k + 1)))] [] (sh, (zrow v t (upd (v t) I (v w J))), rest) = zex E n d 213 16 [some (.ref a), some (.int (Int32.ofNat (k + 1)))] [] (sh, (zrow v t (upd (v t) I (v w J))), rest) := (zx1 zf213_38).trans (rfl)
set_option maxRecDepth 100000 in
theorem zlback_turn (ha : zat sh a = some (.inr (.inl (12, sl)))) (h1 : zat sl 1 = some (some (some t))) (h2 : zat sl 2 = some (some (some w))) (h3 : zat sh t = some (.inl (0, nt, rt))) (h4 : zat sh w = some (.inl (0, nw, rw9))) (hk : k < 1626) (hi : ((Int32.ofNat k)).toInt = (I : Int)) (hI : I < nt) (hj : ((Int32.ofNat k)).toInt = (J : Int)) (hJ : J < nw) (n : Nat) : zex E (n + 13) d 213 16 [some (.ref a), some (.int (Int32.ofNat k))] [] (sh, v, rest) = zex E n d 213 16 [some (.ref a), some (.int (Int32.ofNat (k + 1)))] [] (sh, (zrow v t (upd (v t) I (v w J))), rest) := (zk213_16 (n + 12)).trans ((zk213_17 (n + 11)).trans ((zk213_20 hk (n + 10)).trans ((zk213_23 (n + 9)).trans ((zk213_24 ha h1 (n + 8)).trans ((zk213_27 (n + 7)).trans ((zk213_28 (n + 6)).trans ((zk213_29 ha h2 (n + 5)).trans ((zk213_32 (n + 4)).trans ((zk213_33 h4 hj hJ (n + 3)).trans ((zk213_34 h3 hi hI (n + 2)).trans ((zk213_35 (n + 1)).trans (zk213_38 n))))))))))))
set_option maxRecDepth 100000 in
theorem zlback_exit (n : Nat) : zex E (n + 3) d 213 16 [some (.ref a), some (.int (Int32.ofNat 1626))] [] (sh, v, rest) = zex E n d 213 41 [some (.ref a), some (.int (Int32.ofNat 1626))] [] (sh, v, rest) := (zk213_16 (k := 1626) (n + 2)).trans ((zk213_17 (k := 1626) (n + 1)).trans ((zx1 zf213_20).trans rfl))
set_option maxRecDepth 100000 in
theorem zlback_loop {E : zE} {d a t w nt nw : Nat} {sl : List (Option (Option Nat))} {rt rw9 : List (Option Nat)} {sh : List zS} {v : Nat → Nat → Int32} {rest : (Nat → Nat → Int64) × Nat × Nat} (ha : zat sh a = some (.inr (.inl (12, sl)))) (h1 : zat sl 1 = some (some (some t))) (h2 : zat sl 2 = some (some (some w))) (h3 : zat sh t = some (.inl (0, nt, rt))) (h4 : zat sh w = some (.inl (0, nw, rw9))) {o q : Nat} (Hi : ∀ k, k < 1626 → ((Int32.ofNat k)).toInt = ((o + k : Nat) : Int)) (Hj : ∀ k, k < 1626 → ((Int32.ofNat k)).toInt = ((q + k : Nat) : Int)) (hnt : o + 1626 ≤ nt) (hnw : q + 1626 ≤ nw) (hwt : w ≠ t ∨ o ≤ q) : ∀ (j k n : Nat), k + j = 1626 → zex E (n + 3 + 13 * j) d 213 16 [some (.ref a), some (.int (Int32.ofNat k))] [] (sh, zcpg v t w o q k, rest) = zex E n d 213 41 [some (.ref a), some (.int (Int32.ofNat 1626))] [] (sh, zcpg v t w o q 1626, rest)
  | 0, k, n, hk => by
    have hk : k = 1626 := by omega
    subst hk
    exact zlback_exit n
  | j + 1, k, n, hk => by
    have hk2 : k < 1626 := by omega
    have hz := zlback_loop (E := E) (d := d) (v := v) (rest := rest) ha h1 h2 h3 h4 Hi Hj hnt hnw hwt j (k + 1) n (by omega)
    have hs := zcpg_s v (k := k) hwt
    rw [← hz, show n + 3 + 13 * (j + 1) = n + 3 + 13 * j + 13 by omega, ← hs]
    exact zlback_turn ha h1 h2 h3 h4 hk2 (Hi k hk2) (by omega) (Hj k hk2) (by omega) (n + 3 + 13 * j)

set_option maxRecDepth 100000 in
theorem zf215_26 : zfetch 215 26 = some (.iload_n 1, 1, (0, 0, 0), 0, 0) := by decide +kernel
set_option maxRecDepth 100000 in
theorem zk215_26  (n : Nat) : zex E (n + 1) d 215 26 [some (.ref a), some (.int (Int32.ofNat k))] [] (sh, v, rest) = zex E n d 215 27 [some (.ref a), some (.int (Int32.ofNat k))] [.int (Int32.ofNat k)] (sh, v, rest) := (zx1 zf215_26).trans (rfl)
set_option maxRecDepth 100000 in
theorem zf215_27 : zfetch 215 27 = some (.sipush 777, 3, (0, 0, 0), 777, 0) := by decide +kernel
set_option maxRecDepth 100000 in
theorem zk215_27  (n : Nat) : zex E (n + 1) d 215 27 [some (.ref a), some (.int (Int32.ofNat k))] [.int (Int32.ofNat k)] (sh, v, rest) = zex E n d 215 30 [some (.ref a), some (.int (Int32.ofNat k))] [.int 777, .int (Int32.ofNat k)] (sh, v, rest) := (zx1 zf215_27).trans (rfl)
set_option maxRecDepth 100000 in
theorem zf215_30 : zfetch 215 30 = some (.if_icmp .ge 30, 3, (60, 0, 0), 0, 0) := by decide +kernel
set_option maxRecDepth 100000 in
theorem zk215_30 (hk : k < 777) (n : Nat) : zex E (n + 1) d 215 30 [some (.ref a), some (.int (Int32.ofNat k))] [.int 777, .int (Int32.ofNat k)] (sh, v, rest) = zex E n d 215 33 [some (.ref a), some (.int (Int32.ofNat k))] [] (sh, v, rest) := (zx1 zf215_30).trans (if_neg (by rw [Int32.le_iff_toInt_le, zof9 (by omega)]; have h9 : (777 : Int32).toInt = 777 := (by decide); omega))
set_option maxRecDepth 100000 in
theorem zf215_33 : zfetch 215 33 = some (.aload_n 0, 1, (0, 0, 0), 0, 0) := by decide +kernel
set_option maxRecDepth 100000 in
theorem zk215_33  (n : Nat) : zex E (n + 1) d 215 33 [some (.ref a), some (.int (Int32.ofNat k))] [] (sh, v, rest) = zex E n d 215 34 [some (.ref a), some (.int (Int32.ofNat k))] [.ref a] (sh, v, rest) := (zx1 zf215_33).trans (rfl)
set_option maxRecDepth 100000 in
theorem zf215_34 : zfetch 215 34 = some (.getfield 13, 3, (12, 1, 0), 0, 1618) := by decide +kernel
set_option maxRecDepth 100000 in
theorem zk215_34 (ha : zat sh a = some (.inr (.inl (12, sl)))) (h1 : zat sl 1 = some (some (some t))) (n : Nat) : zex E (n + 1) d 215 34 [some (.ref a), some (.int (Int32.ofNat k))] [.ref a] (sh, v, rest) = zex E n d 215 37 [some (.ref a), some (.int (Int32.ofNat k))] [.ref t] (sh, v, rest) := (zx1 zf215_34).trans (zget_r (K := fun s => zex E n d 215 37 [some (.ref a), some (.int (Int32.ofNat k))] s (sh, v, rest)) (h := (sh, v, rest)) ha h1)
set_option maxRecDepth 100000 in
theorem zf215_37 : zfetch 215 37 = some (.iload_n 1, 1, (0, 0, 0), 0, 0) := by decide +kernel
set_option maxRecDepth 100000 in
theorem zk215_37  (n : Nat) : zex E (n + 1) d 215 37 [some (.ref a), some (.int (Int32.ofNat k))] [.ref t] (sh, v, rest) = zex E n d 215 38 [some (.ref a), some (.int (Int32.ofNat k))] [.int (Int32.ofNat k), .ref t] (sh, v, rest) := (zx1 zf215_37).trans (rfl)
set_option maxRecDepth 100000 in
theorem zf215_38 : zfetch 215 38 = some (.aload_n 0, 1, (0, 0, 0), 0, 0) := by decide +kernel
set_option maxRecDepth 100000 in
theorem zk215_38  (n : Nat) : zex E (n + 1) d 215 38 [some (.ref a), some (.int (Int32.ofNat k))] [.int (Int32.ofNat k), .ref t] (sh, v, rest) = zex E n d 215 39 [some (.ref a), some (.int (Int32.ofNat k))] [.ref a, .int (Int32.ofNat k), .ref t] (sh, v, rest) := (zx1 zf215_38).trans (rfl)
set_option maxRecDepth 100000 in
theorem zf215_39 : zfetch 215 39 = some (.getfield 26, 3, (12, 5, 0), 0, 1622) := by decide +kernel
set_option maxRecDepth 100000 in
theorem zk215_39 (ha : zat sh a = some (.inr (.inl (12, sl)))) (h2 : zat sl 5 = some (some (some w))) (n : Nat) : zex E (n + 1) d 215 39 [some (.ref a), some (.int (Int32.ofNat k))] [.ref a, .int (Int32.ofNat k), .ref t] (sh, v, rest) = zex E n d 215 42 [some (.ref a), some (.int (Int32.ofNat k))] [.ref w, .int (Int32.ofNat k), .ref t] (sh, v, rest) := (zx1 zf215_39).trans (zget_r (K := fun s => zex E n d 215 42 [some (.ref a), some (.int (Int32.ofNat k))] s (sh, v, rest)) (h := (sh, v, rest)) ha h2)
set_option maxRecDepth 100000 in
theorem zf215_42 : zfetch 215 42 = some (.sipush 777, 3, (0, 0, 0), 777, 0) := by decide +kernel
set_option maxRecDepth 100000 in
theorem zk215_42  (n : Nat) : zex E (n + 1) d 215 42 [some (.ref a), some (.int (Int32.ofNat k))] [.ref w, .int (Int32.ofNat k), .ref t] (sh, v, rest) = zex E n d 215 45 [some (.ref a), some (.int (Int32.ofNat k))] [.int 777, .ref w, .int (Int32.ofNat k), .ref t] (sh, v, rest) := (zx1 zf215_42).trans (rfl)
set_option maxRecDepth 100000 in
theorem zf215_45 : zfetch 215 45 = some (.aload_n 0, 1, (0, 0, 0), 0, 0) := by decide +kernel
set_option maxRecDepth 100000 in
theorem zk215_45  (n : Nat) : zex E (n + 1) d 215 45 [some (.ref a), some (.int (Int32.ofNat k))] [.int 777, .ref w, .int (Int32.ofNat k), .ref t] (sh, v, rest) = zex E n d 215 46 [some (.ref a), some (.int (Int32.ofNat k))] [.ref a, .int 777, .ref w, .int (Int32.ofNat k), .ref t] (sh, v, rest) := (zx1 zf215_45).trans (rfl)
set_option maxRecDepth 100000 in
theorem zf215_46 : zfetch 215 46 = some (.getfield 49, 3, (12, 7, 0), 0, 1624) := by decide +kernel
set_option maxRecDepth 100000 in
theorem zk215_46 (ha : zat sh a = some (.inr (.inl (12, sl)))) (h7 : zat sl 7 = some none) (h8 : v a 7 = rho) (n : Nat) : zex E (n + 1) d 215 46 [some (.ref a), some (.int (Int32.ofNat k))] [.ref a, .int 777, .ref w, .int (Int32.ofNat k), .ref t] (sh, v, rest) = zex E n d 215 49 [some (.ref a), some (.int (Int32.ofNat k))] [.int rho, .int 777, .ref w, .int (Int32.ofNat k), .ref t] (sh, v, rest) := (zx1 zf215_46).trans ((zget_n (K := fun s => zex E n d 215 49 [some (.ref a), some (.int (Int32.ofNat k))] s (sh, v, rest)) (h := (sh, v, rest)) ha h7).trans (by show zex E n d 215 49 _ (.int (v a 7) :: _) _ = _; rw [h8]))
set_option maxRecDepth 100000 in
theorem zf215_49 : zfetch 215 49 = some (.imul, 1, (0, 0, 0), 0, 0) := by decide +kernel
set_option maxRecDepth 100000 in
theorem zk215_49  (n : Nat) : zex E (n + 1) d 215 49 [some (.ref a), some (.int (Int32.ofNat k))] [.int rho, .int 777, .ref w, .int (Int32.ofNat k), .ref t] (sh, v, rest) = zex E n d 215 50 [some (.ref a), some (.int (Int32.ofNat k))] [.int (777 * rho), .ref w, .int (Int32.ofNat k), .ref t] (sh, v, rest) := (zx1 zf215_49).trans (rfl)
set_option maxRecDepth 100000 in
theorem zf215_50 : zfetch 215 50 = some (.iload_n 1, 1, (0, 0, 0), 0, 0) := by decide +kernel
set_option maxRecDepth 100000 in
theorem zk215_50  (n : Nat) : zex E (n + 1) d 215 50 [some (.ref a), some (.int (Int32.ofNat k))] [.int (777 * rho), .ref w, .int (Int32.ofNat k), .ref t] (sh, v, rest) = zex E n d 215 51 [some (.ref a), some (.int (Int32.ofNat k))] [.int (Int32.ofNat k), .int (777 * rho), .ref w, .int (Int32.ofNat k), .ref t] (sh, v, rest) := (zx1 zf215_50).trans (rfl)
set_option maxRecDepth 100000 in
theorem zf215_51 : zfetch 215 51 = some (.iadd, 1, (0, 0, 0), 0, 0) := by decide +kernel
set_option maxRecDepth 100000 in
theorem zk215_51  (n : Nat) : zex E (n + 1) d 215 51 [some (.ref a), some (.int (Int32.ofNat k))] [.int (Int32.ofNat k), .int (777 * rho), .ref w, .int (Int32.ofNat k), .ref t] (sh, v, rest) = zex E n d 215 52 [some (.ref a), some (.int (Int32.ofNat k))] [.int ((777 * rho) + (Int32.ofNat k)), .ref w, .int (Int32.ofNat k), .ref t] (sh, v, rest) := (zx1 zf215_51).trans (rfl)
set_option maxRecDepth 100000 in
theorem zf215_52 : zfetch 215 52 = some (.iaload, 1, (0, 0, 0), 0, 0) := by decide +kernel
set_option maxRecDepth 100000 in
theorem zk215_52 (h4 : zat sh w = some (.inl (0, nw, rw9))) (hj : (((777 * rho) + (Int32.ofNat k))).toInt = (J : Int)) (hJ : J < nw) (n : Nat) : zex E (n + 1) d 215 52 [some (.ref a), some (.int (Int32.ofNat k))] [.int ((777 * rho) + (Int32.ofNat k)), .ref w, .int (Int32.ofNat k), .ref t] (sh, v, rest) = zex E n d 215 53 [some (.ref a), some (.int (Int32.ofNat k))] [.int (v w J), .int (Int32.ofNat k), .ref t] (sh, v, rest) := (zx1 zf215_52).trans (zald_i (E := E) (K := fun s => zex E n d 215 53 [some (.ref a), some (.int (Int32.ofNat k))] s (sh, v, rest)) (h := (sh, v, rest)) h4 hj hJ)
set_option maxRecDepth 100000 in
theorem zf215_53 : zfetch 215 53 = some (.iastore, 1, (0, 0, 0), 0, 0) := by decide +kernel
set_option maxRecDepth 100000 in
theorem zk215_53 (h3 : zat sh t = some (.inl (0, nt, rt))) (hi : ((Int32.ofNat k)).toInt = (I : Int)) (hI : I < nt) (n : Nat) : zex E (n + 1) d 215 53 [some (.ref a), some (.int (Int32.ofNat k))] [.int (v w J), .int (Int32.ofNat k), .ref t] (sh, v, rest) = zex E n d 215 54 [some (.ref a), some (.int (Int32.ofNat k))] [] (sh, (zrow v t (upd (v t) I (v w J))), rest) := (zx1 zf215_53).trans (zast_i (K := fun s h => zex E n d 215 54 [some (.ref a), some (.int (Int32.ofNat k))] s h) (h := (sh, v, rest)) h3 hi hI)
set_option maxRecDepth 100000 in
theorem zf215_54 : zfetch 215 54 = some (.iinc 1 1, 3, (0, 0, 0), 1, 0) := by decide +kernel
set_option maxRecDepth 100000 in
theorem zk215_54  (n : Nat) : zex E (n + 1) d 215 54 [some (.ref a), some (.int (Int32.ofNat k))] [] (sh, (zrow v t (upd (v t) I (v w J))), rest) = zex E n d 215 57 [some (.ref a), some (.int (Int32.ofNat (k + 1)))] [] (sh, (zrow v t (upd (v t) I (v w J))), rest) := (zx1 zf215_54).trans ((by rw [← zsuc9]; rfl))
set_option maxRecDepth 100000 in
theorem zf215_57 : zfetch 215 57 = some (.goto (-31), 3, (26, 0, 0), 0, 0) := by decide +kernel
set_option maxRecDepth 100000 in
theorem zk215_57  (n : Nat) : zex E (n + 1) d 215 57 [some (.ref a), some (.int (Int32.ofNat (k + 1)))] [] (sh, (zrow v t (upd (v t) I (v w J))), rest) = zex E n d 215 26 [some (.ref a), some (.int (Int32.ofNat (k + 1)))] [] (sh, (zrow v t (upd (v t) I (v w J))), rest) := (zx1 zf215_57).trans (rfl)
set_option maxRecDepth 100000 in
theorem zlundo_turn (ha : zat sh a = some (.inr (.inl (12, sl)))) (h1 : zat sl 1 = some (some (some t))) (h2 : zat sl 5 = some (some (some w))) (h3 : zat sh t = some (.inl (0, nt, rt))) (h4 : zat sh w = some (.inl (0, nw, rw9))) (h7 : zat sl 7 = some none) (h8 : v a 7 = rho) (hk : k < 777) (hi : ((Int32.ofNat k)).toInt = (I : Int)) (hI : I < nt) (hj : (((777 * rho) + (Int32.ofNat k))).toInt = (J : Int)) (hJ : J < nw) (n : Nat) : zex E (n + 18) d 215 26 [some (.ref a), some (.int (Int32.ofNat k))] [] (sh, v, rest) = zex E n d 215 26 [some (.ref a), some (.int (Int32.ofNat (k + 1)))] [] (sh, (zrow v t (upd (v t) I (v w J))), rest) := (zk215_26 (n + 17)).trans ((zk215_27 (n + 16)).trans ((zk215_30 hk (n + 15)).trans ((zk215_33 (n + 14)).trans ((zk215_34 ha h1 (n + 13)).trans ((zk215_37 (n + 12)).trans ((zk215_38 (n + 11)).trans ((zk215_39 ha h2 (n + 10)).trans ((zk215_42 (n + 9)).trans ((zk215_45 (n + 8)).trans ((zk215_46 ha h7 h8 (n + 7)).trans ((zk215_49 (n + 6)).trans ((zk215_50 (n + 5)).trans ((zk215_51 (n + 4)).trans ((zk215_52 h4 hj hJ (n + 3)).trans ((zk215_53 h3 hi hI (n + 2)).trans ((zk215_54 (n + 1)).trans (zk215_57 n)))))))))))))))))
set_option maxRecDepth 100000 in
theorem zlundo_exit (n : Nat) : zex E (n + 3) d 215 26 [some (.ref a), some (.int (Int32.ofNat 777))] [] (sh, v, rest) = zex E n d 215 60 [some (.ref a), some (.int (Int32.ofNat 777))] [] (sh, v, rest) := (zk215_26 (k := 777) (n + 2)).trans ((zk215_27 (k := 777) (n + 1)).trans ((zx1 zf215_30).trans rfl))
set_option maxRecDepth 100000 in
theorem zlundo_loop {E : zE} {d a t w nt nw : Nat} {rho : Int32} {sl : List (Option (Option Nat))} {rt rw9 : List (Option Nat)} {sh : List zS} {v : Nat → Nat → Int32} {rest : (Nat → Nat → Int64) × Nat × Nat} (ha : zat sh a = some (.inr (.inl (12, sl)))) (h1 : zat sl 1 = some (some (some t))) (h2 : zat sl 5 = some (some (some w))) (h3 : zat sh t = some (.inl (0, nt, rt))) (h4 : zat sh w = some (.inl (0, nw, rw9))) (h7 : zat sl 7 = some none) (h8 : v a 7 = rho) (hat : a ≠ t) {o q : Nat} (Hi : ∀ k, k < 777 → ((Int32.ofNat k)).toInt = ((o + k : Nat) : Int)) (Hj : ∀ k, k < 777 → (((777 * rho) + (Int32.ofNat k))).toInt = ((q + k : Nat) : Int)) (hnt : o + 777 ≤ nt) (hnw : q + 777 ≤ nw) (hwt : w ≠ t ∨ o ≤ q) : ∀ (j k n : Nat), k + j = 777 → zex E (n + 3 + 18 * j) d 215 26 [some (.ref a), some (.int (Int32.ofNat k))] [] (sh, zcpg v t w o q k, rest) = zex E n d 215 60 [some (.ref a), some (.int (Int32.ofNat 777))] [] (sh, zcpg v t w o q 777, rest)
  | 0, k, n, hk => by
    have hk : k = 777 := by omega
    subst hk
    exact zlundo_exit n
  | j + 1, k, n, hk => by
    have hk2 : k < 777 := by omega
    have hz := zlundo_loop (E := E) (d := d) (v := v) (rest := rest) ha h1 h2 h3 h4 h7 h8 hat Hi Hj hnt hnw hwt j (k + 1) n (by omega)
    have hs := zcpg_s v (k := k) hwt
    rw [← hz, show n + 3 + 18 * (j + 1) = n + 3 + 18 * j + 18 by omega, ← hs]
    exact zlundo_turn ha h1 h2 h3 h4 h7 (by rw [zcpg_a v hat]; exact h8) hk2 (Hi k hk2) (by omega) (Hj k hk2) (by omega) (n + 3 + 18 * j)

set_option maxRecDepth 100000 in
theorem zf214_11 : zfetch 214 11 = some (.iload_n 1, 1, (0, 0, 0), 0, 0) := by decide +kernel
set_option maxRecDepth 100000 in
theorem zk214_11  (n : Nat) : zex E (n + 1) d 214 11 [some (.ref a), some (.int (Int32.ofNat k))] [] (sh, v, rest) = zex E n d 214 12 [some (.ref a), some (.int (Int32.ofNat k))] [.int (Int32.ofNat k)] (sh, v, rest) := (zx1 zf214_11).trans (rfl)
set_option maxRecDepth 100000 in
theorem zf214_12 : zfetch 214 12 = some (.sipush 8547, 3, (0, 0, 0), 8547, 0) := by decide +kernel
set_option maxRecDepth 100000 in
theorem zk214_12  (n : Nat) : zex E (n + 1) d 214 12 [some (.ref a), some (.int (Int32.ofNat k))] [.int (Int32.ofNat k)] (sh, v, rest) = zex E n d 214 15 [some (.ref a), some (.int (Int32.ofNat k))] [.int 8547, .int (Int32.ofNat k)] (sh, v, rest) := (zx1 zf214_12).trans (rfl)
set_option maxRecDepth 100000 in
theorem zf214_15 : zfetch 214 15 = some (.if_icmp .ge 25, 3, (40, 0, 0), 0, 0) := by decide +kernel
set_option maxRecDepth 100000 in
theorem zk214_15 (hk : k < 8547) (n : Nat) : zex E (n + 1) d 214 15 [some (.ref a), some (.int (Int32.ofNat k))] [.int 8547, .int (Int32.ofNat k)] (sh, v, rest) = zex E n d 214 18 [some (.ref a), some (.int (Int32.ofNat k))] [] (sh, v, rest) := (zx1 zf214_15).trans (if_neg (by rw [Int32.le_iff_toInt_le, zof9 (by omega)]; have h9 : (8547 : Int32).toInt = 8547 := (by decide); omega))
set_option maxRecDepth 100000 in
theorem zf214_18 : zfetch 214 18 = some (.aload_n 0, 1, (0, 0, 0), 0, 0) := by decide +kernel
set_option maxRecDepth 100000 in
theorem zk214_18  (n : Nat) : zex E (n + 1) d 214 18 [some (.ref a), some (.int (Int32.ofNat k))] [] (sh, v, rest) = zex E n d 214 19 [some (.ref a), some (.int (Int32.ofNat k))] [.ref a] (sh, v, rest) := (zx1 zf214_18).trans (rfl)
set_option maxRecDepth 100000 in
theorem zf214_19 : zfetch 214 19 = some (.getfield 26, 3, (12, 5, 0), 0, 1622) := by decide +kernel
set_option maxRecDepth 100000 in
theorem zk214_19 (ha : zat sh a = some (.inr (.inl (12, sl)))) (h1 : zat sl 5 = some (some (some t))) (n : Nat) : zex E (n + 1) d 214 19 [some (.ref a), some (.int (Int32.ofNat k))] [.ref a] (sh, v, rest) = zex E n d 214 22 [some (.ref a), some (.int (Int32.ofNat k))] [.ref t] (sh, v, rest) := (zx1 zf214_19).trans (zget_r (K := fun s => zex E n d 214 22 [some (.ref a), some (.int (Int32.ofNat k))] s (sh, v, rest)) (h := (sh, v, rest)) ha h1)
set_option maxRecDepth 100000 in
theorem zf214_22 : zfetch 214 22 = some (.iload_n 1, 1, (0, 0, 0), 0, 0) := by decide +kernel
set_option maxRecDepth 100000 in
theorem zk214_22  (n : Nat) : zex E (n + 1) d 214 22 [some (.ref a), some (.int (Int32.ofNat k))] [.ref t] (sh, v, rest) = zex E n d 214 23 [some (.ref a), some (.int (Int32.ofNat k))] [.int (Int32.ofNat k), .ref t] (sh, v, rest) := (zx1 zf214_22).trans (rfl)
set_option maxRecDepth 100000 in
theorem zf214_23 : zfetch 214 23 = some (.aload_n 0, 1, (0, 0, 0), 0, 0) := by decide +kernel
set_option maxRecDepth 100000 in
theorem zk214_23  (n : Nat) : zex E (n + 1) d 214 23 [some (.ref a), some (.int (Int32.ofNat k))] [.int (Int32.ofNat k), .ref t] (sh, v, rest) = zex E n d 214 24 [some (.ref a), some (.int (Int32.ofNat k))] [.ref a, .int (Int32.ofNat k), .ref t] (sh, v, rest) := (zx1 zf214_23).trans (rfl)
set_option maxRecDepth 100000 in
theorem zf214_24 : zfetch 214 24 = some (.getfield 26, 3, (12, 5, 0), 0, 1622) := by decide +kernel
set_option maxRecDepth 100000 in
theorem zk214_24 (ha : zat sh a = some (.inr (.inl (12, sl)))) (h2 : zat sl 5 = some (some (some w))) (n : Nat) : zex E (n + 1) d 214 24 [some (.ref a), some (.int (Int32.ofNat k))] [.ref a, .int (Int32.ofNat k), .ref t] (sh, v, rest) = zex E n d 214 27 [some (.ref a), some (.int (Int32.ofNat k))] [.ref w, .int (Int32.ofNat k), .ref t] (sh, v, rest) := (zx1 zf214_24).trans (zget_r (K := fun s => zex E n d 214 27 [some (.ref a), some (.int (Int32.ofNat k))] s (sh, v, rest)) (h := (sh, v, rest)) ha h2)
set_option maxRecDepth 100000 in
theorem zf214_27 : zfetch 214 27 = some (.iload_n 1, 1, (0, 0, 0), 0, 0) := by decide +kernel
set_option maxRecDepth 100000 in
theorem zk214_27  (n : Nat) : zex E (n + 1) d 214 27 [some (.ref a), some (.int (Int32.ofNat k))] [.ref w, .int (Int32.ofNat k), .ref t] (sh, v, rest) = zex E n d 214 28 [some (.ref a), some (.int (Int32.ofNat k))] [.int (Int32.ofNat k), .ref w, .int (Int32.ofNat k), .ref t] (sh, v, rest) := (zx1 zf214_27).trans (rfl)
set_option maxRecDepth 100000 in
theorem zf214_28 : zfetch 214 28 = some (.sipush 777, 3, (0, 0, 0), 777, 0) := by decide +kernel
set_option maxRecDepth 100000 in
theorem zk214_28  (n : Nat) : zex E (n + 1) d 214 28 [some (.ref a), some (.int (Int32.ofNat k))] [.int (Int32.ofNat k), .ref w, .int (Int32.ofNat k), .ref t] (sh, v, rest) = zex E n d 214 31 [some (.ref a), some (.int (Int32.ofNat k))] [.int 777, .int (Int32.ofNat k), .ref w, .int (Int32.ofNat k), .ref t] (sh, v, rest) := (zx1 zf214_28).trans (rfl)
set_option maxRecDepth 100000 in
theorem zf214_31 : zfetch 214 31 = some (.iadd, 1, (0, 0, 0), 0, 0) := by decide +kernel
set_option maxRecDepth 100000 in
theorem zk214_31  (n : Nat) : zex E (n + 1) d 214 31 [some (.ref a), some (.int (Int32.ofNat k))] [.int 777, .int (Int32.ofNat k), .ref w, .int (Int32.ofNat k), .ref t] (sh, v, rest) = zex E n d 214 32 [some (.ref a), some (.int (Int32.ofNat k))] [.int ((Int32.ofNat k) + 777), .ref w, .int (Int32.ofNat k), .ref t] (sh, v, rest) := (zx1 zf214_31).trans (rfl)
set_option maxRecDepth 100000 in
theorem zf214_32 : zfetch 214 32 = some (.iaload, 1, (0, 0, 0), 0, 0) := by decide +kernel
set_option maxRecDepth 100000 in
theorem zk214_32 (h4 : zat sh w = some (.inl (0, nw, rw9))) (hj : (((Int32.ofNat k) + 777)).toInt = (J : Int)) (hJ : J < nw) (n : Nat) : zex E (n + 1) d 214 32 [some (.ref a), some (.int (Int32.ofNat k))] [.int ((Int32.ofNat k) + 777), .ref w, .int (Int32.ofNat k), .ref t] (sh, v, rest) = zex E n d 214 33 [some (.ref a), some (.int (Int32.ofNat k))] [.int (v w J), .int (Int32.ofNat k), .ref t] (sh, v, rest) := (zx1 zf214_32).trans (zald_i (E := E) (K := fun s => zex E n d 214 33 [some (.ref a), some (.int (Int32.ofNat k))] s (sh, v, rest)) (h := (sh, v, rest)) h4 hj hJ)
set_option maxRecDepth 100000 in
theorem zf214_33 : zfetch 214 33 = some (.iastore, 1, (0, 0, 0), 0, 0) := by decide +kernel
set_option maxRecDepth 100000 in
theorem zk214_33 (h3 : zat sh t = some (.inl (0, nt, rt))) (hi : ((Int32.ofNat k)).toInt = (I : Int)) (hI : I < nt) (n : Nat) : zex E (n + 1) d 214 33 [some (.ref a), some (.int (Int32.ofNat k))] [.int (v w J), .int (Int32.ofNat k), .ref t] (sh, v, rest) = zex E n d 214 34 [some (.ref a), some (.int (Int32.ofNat k))] [] (sh, (zrow v t (upd (v t) I (v w J))), rest) := (zx1 zf214_33).trans (zast_i (K := fun s h => zex E n d 214 34 [some (.ref a), some (.int (Int32.ofNat k))] s h) (h := (sh, v, rest)) h3 hi hI)
set_option maxRecDepth 100000 in
theorem zf214_34 : zfetch 214 34 = some (.iinc 1 1, 3, (0, 0, 0), 1, 0) := by decide +kernel
set_option maxRecDepth 100000 in
theorem zk214_34  (n : Nat) : zex E (n + 1) d 214 34 [some (.ref a), some (.int (Int32.ofNat k))] [] (sh, (zrow v t (upd (v t) I (v w J))), rest) = zex E n d 214 37 [some (.ref a), some (.int (Int32.ofNat (k + 1)))] [] (sh, (zrow v t (upd (v t) I (v w J))), rest) := (zx1 zf214_34).trans ((by rw [← zsuc9]; rfl))
set_option maxRecDepth 100000 in
theorem zf214_37 : zfetch 214 37 = some (.goto (-26), 3, (11, 0, 0), 0, 0) := by decide +kernel
set_option maxRecDepth 100000 in
theorem zk214_37  (n : Nat) : zex E (n + 1) d 214 37 [some (.ref a), some (.int (Int32.ofNat (k + 1)))] [] (sh, (zrow v t (upd (v t) I (v w J))), rest) = zex E n d 214 11 [some (.ref a), some (.int (Int32.ofNat (k + 1)))] [] (sh, (zrow v t (upd (v t) I (v w J))), rest) := (zx1 zf214_37).trans (rfl)
set_option maxRecDepth 100000 in
theorem zlrem1_turn (ha : zat sh a = some (.inr (.inl (12, sl)))) (h1 : zat sl 5 = some (some (some t))) (h2 : zat sl 5 = some (some (some w))) (h3 : zat sh t = some (.inl (0, nt, rt))) (h4 : zat sh w = some (.inl (0, nw, rw9))) (hk : k < 8547) (hi : ((Int32.ofNat k)).toInt = (I : Int)) (hI : I < nt) (hj : (((Int32.ofNat k) + 777)).toInt = (J : Int)) (hJ : J < nw) (n : Nat) : zex E (n + 15) d 214 11 [some (.ref a), some (.int (Int32.ofNat k))] [] (sh, v, rest) = zex E n d 214 11 [some (.ref a), some (.int (Int32.ofNat (k + 1)))] [] (sh, (zrow v t (upd (v t) I (v w J))), rest) := (zk214_11 (n + 14)).trans ((zk214_12 (n + 13)).trans ((zk214_15 hk (n + 12)).trans ((zk214_18 (n + 11)).trans ((zk214_19 ha h1 (n + 10)).trans ((zk214_22 (n + 9)).trans ((zk214_23 (n + 8)).trans ((zk214_24 ha h2 (n + 7)).trans ((zk214_27 (n + 6)).trans ((zk214_28 (n + 5)).trans ((zk214_31 (n + 4)).trans ((zk214_32 h4 hj hJ (n + 3)).trans ((zk214_33 h3 hi hI (n + 2)).trans ((zk214_34 (n + 1)).trans (zk214_37 n))))))))))))))
set_option maxRecDepth 100000 in
theorem zlrem1_exit (n : Nat) : zex E (n + 3) d 214 11 [some (.ref a), some (.int (Int32.ofNat 8547))] [] (sh, v, rest) = zex E n d 214 40 [some (.ref a), some (.int (Int32.ofNat 8547))] [] (sh, v, rest) := (zk214_11 (k := 8547) (n + 2)).trans ((zk214_12 (k := 8547) (n + 1)).trans ((zx1 zf214_15).trans rfl))
set_option maxRecDepth 100000 in
theorem zlrem1_loop {E : zE} {d a t w nt nw : Nat} {sl : List (Option (Option Nat))} {rt rw9 : List (Option Nat)} {sh : List zS} {v : Nat → Nat → Int32} {rest : (Nat → Nat → Int64) × Nat × Nat} (ha : zat sh a = some (.inr (.inl (12, sl)))) (h1 : zat sl 5 = some (some (some t))) (h2 : zat sl 5 = some (some (some w))) (h3 : zat sh t = some (.inl (0, nt, rt))) (h4 : zat sh w = some (.inl (0, nw, rw9))) {o q : Nat} (Hi : ∀ k, k < 8547 → ((Int32.ofNat k)).toInt = ((o + k : Nat) : Int)) (Hj : ∀ k, k < 8547 → (((Int32.ofNat k) + 777)).toInt = ((q + k : Nat) : Int)) (hnt : o + 8547 ≤ nt) (hnw : q + 8547 ≤ nw) (hwt : w ≠ t ∨ o ≤ q) : ∀ (j k n : Nat), k + j = 8547 → zex E (n + 3 + 15 * j) d 214 11 [some (.ref a), some (.int (Int32.ofNat k))] [] (sh, zcpg v t w o q k, rest) = zex E n d 214 40 [some (.ref a), some (.int (Int32.ofNat 8547))] [] (sh, zcpg v t w o q 8547, rest)
  | 0, k, n, hk => by
    have hk : k = 8547 := by omega
    subst hk
    exact zlrem1_exit n
  | j + 1, k, n, hk => by
    have hk2 : k < 8547 := by omega
    have hz := zlrem1_loop (E := E) (d := d) (v := v) (rest := rest) ha h1 h2 h3 h4 Hi Hj hnt hnw hwt j (k + 1) n (by omega)
    have hs := zcpg_s v (k := k) hwt
    rw [← hz, show n + 3 + 15 * (j + 1) = n + 3 + 15 * j + 15 by omega, ← hs]
    exact zlrem1_turn ha h1 h2 h3 h4 hk2 (Hi k hk2) (by omega) (Hj k hk2) (by omega) (n + 3 + 15 * j)

set_option maxRecDepth 100000 in
theorem zf214_55 : zfetch 214 55 = some (.iload_n 1, 1, (0, 0, 0), 0, 0) := by decide +kernel
set_option maxRecDepth 100000 in
theorem zk214_55  (n : Nat) : zex E (n + 1) d 214 55 [some (.ref a), some (.int (Int32.ofNat k))] [] (sh, v, rest) = zex E n d 214 56 [some (.ref a), some (.int (Int32.ofNat k))] [.int (Int32.ofNat k)] (sh, v, rest) := (zx1 zf214_55).trans (rfl)
set_option maxRecDepth 100000 in
theorem zf214_56 : zfetch 214 56 = some (.sipush 777, 3, (0, 0, 0), 777, 0) := by decide +kernel
set_option maxRecDepth 100000 in
theorem zk214_56  (n : Nat) : zex E (n + 1) d 214 56 [some (.ref a), some (.int (Int32.ofNat k))] [.int (Int32.ofNat k)] (sh, v, rest) = zex E n d 214 59 [some (.ref a), some (.int (Int32.ofNat k))] [.int 777, .int (Int32.ofNat k)] (sh, v, rest) := (zx1 zf214_56).trans (rfl)
set_option maxRecDepth 100000 in
theorem zf214_59 : zfetch 214 59 = some (.if_icmp .ge 32, 3, (91, 0, 0), 0, 0) := by decide +kernel
set_option maxRecDepth 100000 in
theorem zk214_59 (hk : k < 777) (n : Nat) : zex E (n + 1) d 214 59 [some (.ref a), some (.int (Int32.ofNat k))] [.int 777, .int (Int32.ofNat k)] (sh, v, rest) = zex E n d 214 62 [some (.ref a), some (.int (Int32.ofNat k))] [] (sh, v, rest) := (zx1 zf214_59).trans (if_neg (by rw [Int32.le_iff_toInt_le, zof9 (by omega)]; have h9 : (777 : Int32).toInt = 777 := (by decide); omega))
set_option maxRecDepth 100000 in
theorem zf214_62 : zfetch 214 62 = some (.aload_n 0, 1, (0, 0, 0), 0, 0) := by decide +kernel
set_option maxRecDepth 100000 in
theorem zk214_62  (n : Nat) : zex E (n + 1) d 214 62 [some (.ref a), some (.int (Int32.ofNat k))] [] (sh, v, rest) = zex E n d 214 63 [some (.ref a), some (.int (Int32.ofNat k))] [.ref a] (sh, v, rest) := (zx1 zf214_62).trans (rfl)
set_option maxRecDepth 100000 in
theorem zf214_63 : zfetch 214 63 = some (.getfield 26, 3, (12, 5, 0), 0, 1622) := by decide +kernel
set_option maxRecDepth 100000 in
theorem zk214_63 (ha : zat sh a = some (.inr (.inl (12, sl)))) (h1 : zat sl 5 = some (some (some t))) (n : Nat) : zex E (n + 1) d 214 63 [some (.ref a), some (.int (Int32.ofNat k))] [.ref a] (sh, v, rest) = zex E n d 214 66 [some (.ref a), some (.int (Int32.ofNat k))] [.ref t] (sh, v, rest) := (zx1 zf214_63).trans (zget_r (K := fun s => zex E n d 214 66 [some (.ref a), some (.int (Int32.ofNat k))] s (sh, v, rest)) (h := (sh, v, rest)) ha h1)
set_option maxRecDepth 100000 in
theorem zf214_66 : zfetch 214 66 = some (.sipush 777, 3, (0, 0, 0), 777, 0) := by decide +kernel
set_option maxRecDepth 100000 in
theorem zk214_66  (n : Nat) : zex E (n + 1) d 214 66 [some (.ref a), some (.int (Int32.ofNat k))] [.ref t] (sh, v, rest) = zex E n d 214 69 [some (.ref a), some (.int (Int32.ofNat k))] [.int 777, .ref t] (sh, v, rest) := (zx1 zf214_66).trans (rfl)
set_option maxRecDepth 100000 in
theorem zf214_69 : zfetch 214 69 = some (.aload_n 0, 1, (0, 0, 0), 0, 0) := by decide +kernel
set_option maxRecDepth 100000 in
theorem zk214_69  (n : Nat) : zex E (n + 1) d 214 69 [some (.ref a), some (.int (Int32.ofNat k))] [.int 777, .ref t] (sh, v, rest) = zex E n d 214 70 [some (.ref a), some (.int (Int32.ofNat k))] [.ref a, .int 777, .ref t] (sh, v, rest) := (zx1 zf214_69).trans (rfl)
set_option maxRecDepth 100000 in
theorem zf214_70 : zfetch 214 70 = some (.getfield 49, 3, (12, 7, 0), 0, 1624) := by decide +kernel
set_option maxRecDepth 100000 in
theorem zk214_70 (ha : zat sh a = some (.inr (.inl (12, sl)))) (h7 : zat sl 7 = some none) (h8 : v a 7 = rho) (n : Nat) : zex E (n + 1) d 214 70 [some (.ref a), some (.int (Int32.ofNat k))] [.ref a, .int 777, .ref t] (sh, v, rest) = zex E n d 214 73 [some (.ref a), some (.int (Int32.ofNat k))] [.int rho, .int 777, .ref t] (sh, v, rest) := (zx1 zf214_70).trans ((zget_n (K := fun s => zex E n d 214 73 [some (.ref a), some (.int (Int32.ofNat k))] s (sh, v, rest)) (h := (sh, v, rest)) ha h7).trans (by show zex E n d 214 73 _ (.int (v a 7) :: _) _ = _; rw [h8]))
set_option maxRecDepth 100000 in
theorem zf214_73 : zfetch 214 73 = some (.iconst 1, 1, (0, 0, 0), 1, 0) := by decide +kernel
set_option maxRecDepth 100000 in
theorem zk214_73  (n : Nat) : zex E (n + 1) d 214 73 [some (.ref a), some (.int (Int32.ofNat k))] [.int rho, .int 777, .ref t] (sh, v, rest) = zex E n d 214 74 [some (.ref a), some (.int (Int32.ofNat k))] [.int 1, .int rho, .int 777, .ref t] (sh, v, rest) := (zx1 zf214_73).trans (rfl)
set_option maxRecDepth 100000 in
theorem zf214_74 : zfetch 214 74 = some (.isub, 1, (0, 0, 0), 0, 0) := by decide +kernel
set_option maxRecDepth 100000 in
theorem zk214_74  (n : Nat) : zex E (n + 1) d 214 74 [some (.ref a), some (.int (Int32.ofNat k))] [.int 1, .int rho, .int 777, .ref t] (sh, v, rest) = zex E n d 214 75 [some (.ref a), some (.int (Int32.ofNat k))] [.int (rho - 1), .int 777, .ref t] (sh, v, rest) := (zx1 zf214_74).trans (rfl)
set_option maxRecDepth 100000 in
theorem zf214_75 : zfetch 214 75 = some (.imul, 1, (0, 0, 0), 0, 0) := by decide +kernel
set_option maxRecDepth 100000 in
theorem zk214_75  (n : Nat) : zex E (n + 1) d 214 75 [some (.ref a), some (.int (Int32.ofNat k))] [.int (rho - 1), .int 777, .ref t] (sh, v, rest) = zex E n d 214 76 [some (.ref a), some (.int (Int32.ofNat k))] [.int (777 * (rho - 1)), .ref t] (sh, v, rest) := (zx1 zf214_75).trans (rfl)
set_option maxRecDepth 100000 in
theorem zf214_76 : zfetch 214 76 = some (.iload_n 1, 1, (0, 0, 0), 0, 0) := by decide +kernel
set_option maxRecDepth 100000 in
theorem zk214_76  (n : Nat) : zex E (n + 1) d 214 76 [some (.ref a), some (.int (Int32.ofNat k))] [.int (777 * (rho - 1)), .ref t] (sh, v, rest) = zex E n d 214 77 [some (.ref a), some (.int (Int32.ofNat k))] [.int (Int32.ofNat k), .int (777 * (rho - 1)), .ref t] (sh, v, rest) := (zx1 zf214_76).trans (rfl)
set_option maxRecDepth 100000 in
theorem zf214_77 : zfetch 214 77 = some (.iadd, 1, (0, 0, 0), 0, 0) := by decide +kernel
set_option maxRecDepth 100000 in
theorem zk214_77  (n : Nat) : zex E (n + 1) d 214 77 [some (.ref a), some (.int (Int32.ofNat k))] [.int (Int32.ofNat k), .int (777 * (rho - 1)), .ref t] (sh, v, rest) = zex E n d 214 78 [some (.ref a), some (.int (Int32.ofNat k))] [.int ((777 * (rho - 1)) + (Int32.ofNat k)), .ref t] (sh, v, rest) := (zx1 zf214_77).trans (rfl)
set_option maxRecDepth 100000 in
theorem zf214_78 : zfetch 214 78 = some (.aload_n 0, 1, (0, 0, 0), 0, 0) := by decide +kernel
set_option maxRecDepth 100000 in
theorem zk214_78  (n : Nat) : zex E (n + 1) d 214 78 [some (.ref a), some (.int (Int32.ofNat k))] [.int ((777 * (rho - 1)) + (Int32.ofNat k)), .ref t] (sh, v, rest) = zex E n d 214 79 [some (.ref a), some (.int (Int32.ofNat k))] [.ref a, .int ((777 * (rho - 1)) + (Int32.ofNat k)), .ref t] (sh, v, rest) := (zx1 zf214_78).trans (rfl)
set_option maxRecDepth 100000 in
theorem zf214_79 : zfetch 214 79 = some (.getfield 13, 3, (12, 1, 0), 0, 1618) := by decide +kernel
set_option maxRecDepth 100000 in
theorem zk214_79 (ha : zat sh a = some (.inr (.inl (12, sl)))) (h2 : zat sl 1 = some (some (some w))) (n : Nat) : zex E (n + 1) d 214 79 [some (.ref a), some (.int (Int32.ofNat k))] [.ref a, .int ((777 * (rho - 1)) + (Int32.ofNat k)), .ref t] (sh, v, rest) = zex E n d 214 82 [some (.ref a), some (.int (Int32.ofNat k))] [.ref w, .int ((777 * (rho - 1)) + (Int32.ofNat k)), .ref t] (sh, v, rest) := (zx1 zf214_79).trans (zget_r (K := fun s => zex E n d 214 82 [some (.ref a), some (.int (Int32.ofNat k))] s (sh, v, rest)) (h := (sh, v, rest)) ha h2)
set_option maxRecDepth 100000 in
theorem zf214_82 : zfetch 214 82 = some (.iload_n 1, 1, (0, 0, 0), 0, 0) := by decide +kernel
set_option maxRecDepth 100000 in
theorem zk214_82  (n : Nat) : zex E (n + 1) d 214 82 [some (.ref a), some (.int (Int32.ofNat k))] [.ref w, .int ((777 * (rho - 1)) + (Int32.ofNat k)), .ref t] (sh, v, rest) = zex E n d 214 83 [some (.ref a), some (.int (Int32.ofNat k))] [.int (Int32.ofNat k), .ref w, .int ((777 * (rho - 1)) + (Int32.ofNat k)), .ref t] (sh, v, rest) := (zx1 zf214_82).trans (rfl)
set_option maxRecDepth 100000 in
theorem zf214_83 : zfetch 214 83 = some (.iaload, 1, (0, 0, 0), 0, 0) := by decide +kernel
set_option maxRecDepth 100000 in
theorem zk214_83 (h4 : zat sh w = some (.inl (0, nw, rw9))) (hj : ((Int32.ofNat k)).toInt = (J : Int)) (hJ : J < nw) (n : Nat) : zex E (n + 1) d 214 83 [some (.ref a), some (.int (Int32.ofNat k))] [.int (Int32.ofNat k), .ref w, .int ((777 * (rho - 1)) + (Int32.ofNat k)), .ref t] (sh, v, rest) = zex E n d 214 84 [some (.ref a), some (.int (Int32.ofNat k))] [.int (v w J), .int ((777 * (rho - 1)) + (Int32.ofNat k)), .ref t] (sh, v, rest) := (zx1 zf214_83).trans (zald_i (E := E) (K := fun s => zex E n d 214 84 [some (.ref a), some (.int (Int32.ofNat k))] s (sh, v, rest)) (h := (sh, v, rest)) h4 hj hJ)
set_option maxRecDepth 100000 in
theorem zf214_84 : zfetch 214 84 = some (.iastore, 1, (0, 0, 0), 0, 0) := by decide +kernel
set_option maxRecDepth 100000 in
theorem zk214_84 (h3 : zat sh t = some (.inl (0, nt, rt))) (hi : (((777 * (rho - 1)) + (Int32.ofNat k))).toInt = (I : Int)) (hI : I < nt) (n : Nat) : zex E (n + 1) d 214 84 [some (.ref a), some (.int (Int32.ofNat k))] [.int (v w J), .int ((777 * (rho - 1)) + (Int32.ofNat k)), .ref t] (sh, v, rest) = zex E n d 214 85 [some (.ref a), some (.int (Int32.ofNat k))] [] (sh, (zrow v t (upd (v t) I (v w J))), rest) := (zx1 zf214_84).trans (zast_i (K := fun s h => zex E n d 214 85 [some (.ref a), some (.int (Int32.ofNat k))] s h) (h := (sh, v, rest)) h3 hi hI)
set_option maxRecDepth 100000 in
theorem zf214_85 : zfetch 214 85 = some (.iinc 1 1, 3, (0, 0, 0), 1, 0) := by decide +kernel
set_option maxRecDepth 100000 in
theorem zk214_85  (n : Nat) : zex E (n + 1) d 214 85 [some (.ref a), some (.int (Int32.ofNat k))] [] (sh, (zrow v t (upd (v t) I (v w J))), rest) = zex E n d 214 88 [some (.ref a), some (.int (Int32.ofNat (k + 1)))] [] (sh, (zrow v t (upd (v t) I (v w J))), rest) := (zx1 zf214_85).trans ((by rw [← zsuc9]; rfl))
set_option maxRecDepth 100000 in
theorem zf214_88 : zfetch 214 88 = some (.goto (-33), 3, (55, 0, 0), 0, 0) := by decide +kernel
set_option maxRecDepth 100000 in
theorem zk214_88  (n : Nat) : zex E (n + 1) d 214 88 [some (.ref a), some (.int (Int32.ofNat (k + 1)))] [] (sh, (zrow v t (upd (v t) I (v w J))), rest) = zex E n d 214 55 [some (.ref a), some (.int (Int32.ofNat (k + 1)))] [] (sh, (zrow v t (upd (v t) I (v w J))), rest) := (zx1 zf214_88).trans (rfl)
set_option maxRecDepth 100000 in
theorem zlrem2_turn (ha : zat sh a = some (.inr (.inl (12, sl)))) (h1 : zat sl 5 = some (some (some t))) (h2 : zat sl 1 = some (some (some w))) (h3 : zat sh t = some (.inl (0, nt, rt))) (h4 : zat sh w = some (.inl (0, nw, rw9))) (h7 : zat sl 7 = some none) (h8 : v a 7 = rho) (hk : k < 777) (hi : (((777 * (rho - 1)) + (Int32.ofNat k))).toInt = (I : Int)) (hI : I < nt) (hj : ((Int32.ofNat k)).toInt = (J : Int)) (hJ : J < nw) (n : Nat) : zex E (n + 20) d 214 55 [some (.ref a), some (.int (Int32.ofNat k))] [] (sh, v, rest) = zex E n d 214 55 [some (.ref a), some (.int (Int32.ofNat (k + 1)))] [] (sh, (zrow v t (upd (v t) I (v w J))), rest) := (zk214_55 (n + 19)).trans ((zk214_56 (n + 18)).trans ((zk214_59 hk (n + 17)).trans ((zk214_62 (n + 16)).trans ((zk214_63 ha h1 (n + 15)).trans ((zk214_66 (n + 14)).trans ((zk214_69 (n + 13)).trans ((zk214_70 ha h7 h8 (n + 12)).trans ((zk214_73 (n + 11)).trans ((zk214_74 (n + 10)).trans ((zk214_75 (n + 9)).trans ((zk214_76 (n + 8)).trans ((zk214_77 (n + 7)).trans ((zk214_78 (n + 6)).trans ((zk214_79 ha h2 (n + 5)).trans ((zk214_82 (n + 4)).trans ((zk214_83 h4 hj hJ (n + 3)).trans ((zk214_84 h3 hi hI (n + 2)).trans ((zk214_85 (n + 1)).trans (zk214_88 n)))))))))))))))))))
set_option maxRecDepth 100000 in
theorem zlrem2_exit (n : Nat) : zex E (n + 3) d 214 55 [some (.ref a), some (.int (Int32.ofNat 777))] [] (sh, v, rest) = zex E n d 214 91 [some (.ref a), some (.int (Int32.ofNat 777))] [] (sh, v, rest) := (zk214_55 (k := 777) (n + 2)).trans ((zk214_56 (k := 777) (n + 1)).trans ((zx1 zf214_59).trans rfl))
set_option maxRecDepth 100000 in
theorem zlrem2_loop {E : zE} {d a t w nt nw : Nat} {rho : Int32} {sl : List (Option (Option Nat))} {rt rw9 : List (Option Nat)} {sh : List zS} {v : Nat → Nat → Int32} {rest : (Nat → Nat → Int64) × Nat × Nat} (ha : zat sh a = some (.inr (.inl (12, sl)))) (h1 : zat sl 5 = some (some (some t))) (h2 : zat sl 1 = some (some (some w))) (h3 : zat sh t = some (.inl (0, nt, rt))) (h4 : zat sh w = some (.inl (0, nw, rw9))) (h7 : zat sl 7 = some none) (h8 : v a 7 = rho) (hat : a ≠ t) {o q : Nat} (Hi : ∀ k, k < 777 → (((777 * (rho - 1)) + (Int32.ofNat k))).toInt = ((o + k : Nat) : Int)) (Hj : ∀ k, k < 777 → ((Int32.ofNat k)).toInt = ((q + k : Nat) : Int)) (hnt : o + 777 ≤ nt) (hnw : q + 777 ≤ nw) (hwt : w ≠ t ∨ o ≤ q) : ∀ (j k n : Nat), k + j = 777 → zex E (n + 3 + 20 * j) d 214 55 [some (.ref a), some (.int (Int32.ofNat k))] [] (sh, zcpg v t w o q k, rest) = zex E n d 214 91 [some (.ref a), some (.int (Int32.ofNat 777))] [] (sh, zcpg v t w o q 777, rest)
  | 0, k, n, hk => by
    have hk : k = 777 := by omega
    subst hk
    exact zlrem2_exit n
  | j + 1, k, n, hk => by
    have hk2 : k < 777 := by omega
    have hz := zlrem2_loop (E := E) (d := d) (v := v) (rest := rest) ha h1 h2 h3 h4 h7 h8 hat Hi Hj hnt hnw hwt j (k + 1) n (by omega)
    have hs := zcpg_s v (k := k) hwt
    rw [← hz, show n + 3 + 20 * (j + 1) = n + 3 + 20 * j + 20 by omega, ← hs]
    exact zlrem2_turn ha h1 h2 h3 h4 h7 (by rw [zcpg_a v hat]; exact h8) hk2 (Hi k hk2) (by omega) (Hj k hk2) (by omega) (n + 3 + 20 * j)

set_option maxRecDepth 100000 in
theorem zf265_2 : zfetch 265 2 = some (.iload_n 1, 1, (0, 0, 0), 0, 0) := by decide +kernel
set_option maxRecDepth 100000 in
theorem zk265_2 {l2 : Option Value}  (n : Nat) : zex E (n + 1) d 265 2 [some (.ref a), some (.int (Int32.ofNat k)), l2] [] (sh, v, rest) = zex E n d 265 3 [some (.ref a), some (.int (Int32.ofNat k)), l2] [.int (Int32.ofNat k)] (sh, v, rest) := (zx1 zf265_2).trans (rfl)
set_option maxRecDepth 100000 in
theorem zf265_3 : zfetch 265 3 = some (.sipush 1626, 3, (0, 0, 0), 1626, 0) := by decide +kernel
set_option maxRecDepth 100000 in
theorem zk265_3 {l2 : Option Value}  (n : Nat) : zex E (n + 1) d 265 3 [some (.ref a), some (.int (Int32.ofNat k)), l2] [.int (Int32.ofNat k)] (sh, v, rest) = zex E n d 265 6 [some (.ref a), some (.int (Int32.ofNat k)), l2] [.int 1626, .int (Int32.ofNat k)] (sh, v, rest) := (zx1 zf265_3).trans (rfl)
set_option maxRecDepth 100000 in
theorem zf265_6 : zfetch 265 6 = some (.if_icmp .ge 21, 3, (27, 0, 0), 0, 0) := by decide +kernel
set_option maxRecDepth 100000 in
theorem zk265_6 {l2 : Option Value} (hk : k < 1626) (n : Nat) : zex E (n + 1) d 265 6 [some (.ref a), some (.int (Int32.ofNat k)), l2] [.int 1626, .int (Int32.ofNat k)] (sh, v, rest) = zex E n d 265 9 [some (.ref a), some (.int (Int32.ofNat k)), l2] [] (sh, v, rest) := (zx1 zf265_6).trans (if_neg (by rw [Int32.le_iff_toInt_le, zof9 (by omega)]; have h9 : (1626 : Int32).toInt = 1626 := (by decide); omega))
set_option maxRecDepth 100000 in
theorem zf265_9 : zfetch 265 9 = some (.aload_n 0, 1, (0, 0, 0), 0, 0) := by decide +kernel
set_option maxRecDepth 100000 in
theorem zk265_9 {l2 : Option Value}  (n : Nat) : zex E (n + 1) d 265 9 [some (.ref a), some (.int (Int32.ofNat k)), l2] [] (sh, v, rest) = zex E n d 265 10 [some (.ref a), some (.int (Int32.ofNat k)), l2] [.ref a] (sh, v, rest) := (zx1 zf265_9).trans (rfl)
set_option maxRecDepth 100000 in
theorem zf265_10 : zfetch 265 10 = some (.getfield 20, 3, (12, 3, 0), 0, 1620) := by decide +kernel
set_option maxRecDepth 100000 in
theorem zk265_10 {l2 : Option Value} (ha : zat sh a = some (.inr (.inl (12, sl)))) (h1 : zat sl 3 = some (some (some t))) (n : Nat) : zex E (n + 1) d 265 10 [some (.ref a), some (.int (Int32.ofNat k)), l2] [.ref a] (sh, v, rest) = zex E n d 265 13 [some (.ref a), some (.int (Int32.ofNat k)), l2] [.ref t] (sh, v, rest) := (zx1 zf265_10).trans (zget_r (K := fun s => zex E n d 265 13 [some (.ref a), some (.int (Int32.ofNat k)), l2] s (sh, v, rest)) (h := (sh, v, rest)) ha h1)
set_option maxRecDepth 100000 in
theorem zf265_13 : zfetch 265 13 = some (.iload_n 1, 1, (0, 0, 0), 0, 0) := by decide +kernel
set_option maxRecDepth 100000 in
theorem zk265_13 {l2 : Option Value}  (n : Nat) : zex E (n + 1) d 265 13 [some (.ref a), some (.int (Int32.ofNat k)), l2] [.ref t] (sh, v, rest) = zex E n d 265 14 [some (.ref a), some (.int (Int32.ofNat k)), l2] [.int (Int32.ofNat k), .ref t] (sh, v, rest) := (zx1 zf265_13).trans (rfl)
set_option maxRecDepth 100000 in
theorem zf265_14 : zfetch 265 14 = some (.aload_n 0, 1, (0, 0, 0), 0, 0) := by decide +kernel
set_option maxRecDepth 100000 in
theorem zk265_14 {l2 : Option Value}  (n : Nat) : zex E (n + 1) d 265 14 [some (.ref a), some (.int (Int32.ofNat k)), l2] [.int (Int32.ofNat k), .ref t] (sh, v, rest) = zex E n d 265 15 [some (.ref a), some (.int (Int32.ofNat k)), l2] [.ref a, .int (Int32.ofNat k), .ref t] (sh, v, rest) := (zx1 zf265_14).trans (rfl)
set_option maxRecDepth 100000 in
theorem zf265_15 : zfetch 265 15 = some (.getfield 13, 3, (12, 1, 0), 0, 1618) := by decide +kernel
set_option maxRecDepth 100000 in
theorem zk265_15 {l2 : Option Value} (ha : zat sh a = some (.inr (.inl (12, sl)))) (h2 : zat sl 1 = some (some (some w))) (n : Nat) : zex E (n + 1) d 265 15 [some (.ref a), some (.int (Int32.ofNat k)), l2] [.ref a, .int (Int32.ofNat k), .ref t] (sh, v, rest) = zex E n d 265 18 [some (.ref a), some (.int (Int32.ofNat k)), l2] [.ref w, .int (Int32.ofNat k), .ref t] (sh, v, rest) := (zx1 zf265_15).trans (zget_r (K := fun s => zex E n d 265 18 [some (.ref a), some (.int (Int32.ofNat k)), l2] s (sh, v, rest)) (h := (sh, v, rest)) ha h2)
set_option maxRecDepth 100000 in
theorem zf265_18 : zfetch 265 18 = some (.iload_n 1, 1, (0, 0, 0), 0, 0) := by decide +kernel
set_option maxRecDepth 100000 in
theorem zk265_18 {l2 : Option Value}  (n : Nat) : zex E (n + 1) d 265 18 [some (.ref a), some (.int (Int32.ofNat k)), l2] [.ref w, .int (Int32.ofNat k), .ref t] (sh, v, rest) = zex E n d 265 19 [some (.ref a), some (.int (Int32.ofNat k)), l2] [.int (Int32.ofNat k), .ref w, .int (Int32.ofNat k), .ref t] (sh, v, rest) := (zx1 zf265_18).trans (rfl)
set_option maxRecDepth 100000 in
theorem zf265_19 : zfetch 265 19 = some (.iaload, 1, (0, 0, 0), 0, 0) := by decide +kernel
set_option maxRecDepth 100000 in
theorem zk265_19 {l2 : Option Value} (h4 : zat sh w = some (.inl (0, nw, rw9))) (hj : ((Int32.ofNat k)).toInt = (J : Int)) (hJ : J < nw) (n : Nat) : zex E (n + 1) d 265 19 [some (.ref a), some (.int (Int32.ofNat k)), l2] [.int (Int32.ofNat k), .ref w, .int (Int32.ofNat k), .ref t] (sh, v, rest) = zex E n d 265 20 [some (.ref a), some (.int (Int32.ofNat k)), l2] [.int (v w J), .int (Int32.ofNat k), .ref t] (sh, v, rest) := (zx1 zf265_19).trans (zald_i (E := E) (K := fun s => zex E n d 265 20 [some (.ref a), some (.int (Int32.ofNat k)), l2] s (sh, v, rest)) (h := (sh, v, rest)) h4 hj hJ)
set_option maxRecDepth 100000 in
theorem zf265_20 : zfetch 265 20 = some (.iastore, 1, (0, 0, 0), 0, 0) := by decide +kernel
set_option maxRecDepth 100000 in
theorem zk265_20 {l2 : Option Value} (h3 : zat sh t = some (.inl (0, nt, rt))) (hi : ((Int32.ofNat k)).toInt = (I : Int)) (hI : I < nt) (n : Nat) : zex E (n + 1) d 265 20 [some (.ref a), some (.int (Int32.ofNat k)), l2] [.int (v w J), .int (Int32.ofNat k), .ref t] (sh, v, rest) = zex E n d 265 21 [some (.ref a), some (.int (Int32.ofNat k)), l2] [] (sh, (zrow v t (upd (v t) I (v w J))), rest) := (zx1 zf265_20).trans (zast_i (K := fun s h => zex E n d 265 21 [some (.ref a), some (.int (Int32.ofNat k)), l2] s h) (h := (sh, v, rest)) h3 hi hI)
set_option maxRecDepth 100000 in
theorem zf265_21 : zfetch 265 21 = some (.iinc 1 1, 3, (0, 0, 0), 1, 0) := by decide +kernel
set_option maxRecDepth 100000 in
theorem zk265_21 {l2 : Option Value}  (n : Nat) : zex E (n + 1) d 265 21 [some (.ref a), some (.int (Int32.ofNat k)), l2] [] (sh, (zrow v t (upd (v t) I (v w J))), rest) = zex E n d 265 24 [some (.ref a), some (.int (Int32.ofNat (k + 1))), l2] [] (sh, (zrow v t (upd (v t) I (v w J))), rest) := (zx1 zf265_21).trans ((by rw [← zsuc9]; rfl))
set_option maxRecDepth 100000 in
theorem zf265_24 : zfetch 265 24 = some (.goto (-22), 3, (2, 0, 0), 0, 0) := by decide +kernel
set_option maxRecDepth 100000 in
theorem zk265_24 {l2 : Option Value}  (n : Nat) : zex E (n + 1) d 265 24 [some (.ref a), some (.int (Int32.ofNat (k + 1))), l2] [] (sh, (zrow v t (upd (v t) I (v w J))), rest) = zex E n d 265 2 [some (.ref a), some (.int (Int32.ofNat (k + 1))), l2] [] (sh, (zrow v t (upd (v t) I (v w J))), rest) := (zx1 zf265_24).trans (rfl)
set_option maxRecDepth 100000 in
theorem zlhouse1_turn {l2 : Option Value} (ha : zat sh a = some (.inr (.inl (12, sl)))) (h1 : zat sl 3 = some (some (some t))) (h2 : zat sl 1 = some (some (some w))) (h3 : zat sh t = some (.inl (0, nt, rt))) (h4 : zat sh w = some (.inl (0, nw, rw9))) (hk : k < 1626) (hi : ((Int32.ofNat k)).toInt = (I : Int)) (hI : I < nt) (hj : ((Int32.ofNat k)).toInt = (J : Int)) (hJ : J < nw) (n : Nat) : zex E (n + 13) d 265 2 [some (.ref a), some (.int (Int32.ofNat k)), l2] [] (sh, v, rest) = zex E n d 265 2 [some (.ref a), some (.int (Int32.ofNat (k + 1))), l2] [] (sh, (zrow v t (upd (v t) I (v w J))), rest) := (zk265_2 (n + 12)).trans ((zk265_3 (n + 11)).trans ((zk265_6 hk (n + 10)).trans ((zk265_9 (n + 9)).trans ((zk265_10 ha h1 (n + 8)).trans ((zk265_13 (n + 7)).trans ((zk265_14 (n + 6)).trans ((zk265_15 ha h2 (n + 5)).trans ((zk265_18 (n + 4)).trans ((zk265_19 h4 hj hJ (n + 3)).trans ((zk265_20 h3 hi hI (n + 2)).trans ((zk265_21 (n + 1)).trans (zk265_24 n))))))))))))
set_option maxRecDepth 100000 in
theorem zlhouse1_exit {l2 : Option Value} (n : Nat) : zex E (n + 3) d 265 2 [some (.ref a), some (.int (Int32.ofNat 1626)), l2] [] (sh, v, rest) = zex E n d 265 27 [some (.ref a), some (.int (Int32.ofNat 1626)), l2] [] (sh, v, rest) := (zk265_2 (k := 1626) (n + 2)).trans ((zk265_3 (k := 1626) (n + 1)).trans ((zx1 zf265_6).trans rfl))
set_option maxRecDepth 100000 in
theorem zlhouse1_loop {E : zE} {d a t w nt nw : Nat} {sl : List (Option (Option Nat))} {rt rw9 : List (Option Nat)} {sh : List zS} {v : Nat → Nat → Int32} {rest : (Nat → Nat → Int64) × Nat × Nat} {l2 : Option Value} (ha : zat sh a = some (.inr (.inl (12, sl)))) (h1 : zat sl 3 = some (some (some t))) (h2 : zat sl 1 = some (some (some w))) (h3 : zat sh t = some (.inl (0, nt, rt))) (h4 : zat sh w = some (.inl (0, nw, rw9))) {o q : Nat} (Hi : ∀ k, k < 1626 → ((Int32.ofNat k)).toInt = ((o + k : Nat) : Int)) (Hj : ∀ k, k < 1626 → ((Int32.ofNat k)).toInt = ((q + k : Nat) : Int)) (hnt : o + 1626 ≤ nt) (hnw : q + 1626 ≤ nw) (hwt : w ≠ t ∨ o ≤ q) : ∀ (j k n : Nat), k + j = 1626 → zex E (n + 3 + 13 * j) d 265 2 [some (.ref a), some (.int (Int32.ofNat k)), l2] [] (sh, zcpg v t w o q k, rest) = zex E n d 265 27 [some (.ref a), some (.int (Int32.ofNat 1626)), l2] [] (sh, zcpg v t w o q 1626, rest)
  | 0, k, n, hk => by
    have hk : k = 1626 := by omega
    subst hk
    exact zlhouse1_exit n
  | j + 1, k, n, hk => by
    have hk2 : k < 1626 := by omega
    have hz := zlhouse1_loop (E := E) (d := d) (v := v) (rest := rest) (l2 := l2) ha h1 h2 h3 h4 Hi Hj hnt hnw hwt j (k + 1) n (by omega)
    have hs := zcpg_s v (k := k) hwt
    rw [← hz, show n + 3 + 13 * (j + 1) = n + 3 + 13 * j + 13 by omega, ← hs]
    exact zlhouse1_turn ha h1 h2 h3 h4 hk2 (Hi k hk2) (by omega) (Hj k hk2) (by omega) (n + 3 + 13 * j)

set_option maxRecDepth 100000 in
theorem zf265_92 : zfetch 265 92 = some (.iload_n 2, 1, (0, 0, 0), 0, 0) := by decide +kernel
set_option maxRecDepth 100000 in
theorem zk265_92 {l1 : Int32}  (n : Nat) : zex E (n + 1) d 265 92 [some (.ref a), some (.int l1), some (.int (Int32.ofNat k))] [] (sh, v, rest) = zex E n d 265 93 [some (.ref a), some (.int l1), some (.int (Int32.ofNat k))] [.int (Int32.ofNat k)] (sh, v, rest) := (zx1 zf265_92).trans (rfl)
set_option maxRecDepth 100000 in
theorem zf265_93 : zfetch 265 93 = some (.sipush 1626, 3, (0, 0, 0), 1626, 0) := by decide +kernel
set_option maxRecDepth 100000 in
theorem zk265_93 {l1 : Int32}  (n : Nat) : zex E (n + 1) d 265 93 [some (.ref a), some (.int l1), some (.int (Int32.ofNat k))] [.int (Int32.ofNat k)] (sh, v, rest) = zex E n d 265 96 [some (.ref a), some (.int l1), some (.int (Int32.ofNat k))] [.int 1626, .int (Int32.ofNat k)] (sh, v, rest) := (zx1 zf265_93).trans (rfl)
set_option maxRecDepth 100000 in
theorem zf265_96 : zfetch 265 96 = some (.if_icmp .ge 21, 3, (117, 0, 0), 0, 0) := by decide +kernel
set_option maxRecDepth 100000 in
theorem zk265_96 {l1 : Int32} (hk : k < 1626) (n : Nat) : zex E (n + 1) d 265 96 [some (.ref a), some (.int l1), some (.int (Int32.ofNat k))] [.int 1626, .int (Int32.ofNat k)] (sh, v, rest) = zex E n d 265 99 [some (.ref a), some (.int l1), some (.int (Int32.ofNat k))] [] (sh, v, rest) := (zx1 zf265_96).trans (if_neg (by rw [Int32.le_iff_toInt_le, zof9 (by omega)]; have h9 : (1626 : Int32).toInt = 1626 := (by decide); omega))
set_option maxRecDepth 100000 in
theorem zf265_99 : zfetch 265 99 = some (.aload_n 0, 1, (0, 0, 0), 0, 0) := by decide +kernel
set_option maxRecDepth 100000 in
theorem zk265_99 {l1 : Int32}  (n : Nat) : zex E (n + 1) d 265 99 [some (.ref a), some (.int l1), some (.int (Int32.ofNat k))] [] (sh, v, rest) = zex E n d 265 100 [some (.ref a), some (.int l1), some (.int (Int32.ofNat k))] [.ref a] (sh, v, rest) := (zx1 zf265_99).trans (rfl)
set_option maxRecDepth 100000 in
theorem zf265_100 : zfetch 265 100 = some (.getfield 13, 3, (12, 1, 0), 0, 1618) := by decide +kernel
set_option maxRecDepth 100000 in
theorem zk265_100 {l1 : Int32} (ha : zat sh a = some (.inr (.inl (12, sl)))) (h1 : zat sl 1 = some (some (some t))) (n : Nat) : zex E (n + 1) d 265 100 [some (.ref a), some (.int l1), some (.int (Int32.ofNat k))] [.ref a] (sh, v, rest) = zex E n d 265 103 [some (.ref a), some (.int l1), some (.int (Int32.ofNat k))] [.ref t] (sh, v, rest) := (zx1 zf265_100).trans (zget_r (K := fun s => zex E n d 265 103 [some (.ref a), some (.int l1), some (.int (Int32.ofNat k))] s (sh, v, rest)) (h := (sh, v, rest)) ha h1)
set_option maxRecDepth 100000 in
theorem zf265_103 : zfetch 265 103 = some (.iload_n 2, 1, (0, 0, 0), 0, 0) := by decide +kernel
set_option maxRecDepth 100000 in
theorem zk265_103 {l1 : Int32}  (n : Nat) : zex E (n + 1) d 265 103 [some (.ref a), some (.int l1), some (.int (Int32.ofNat k))] [.ref t] (sh, v, rest) = zex E n d 265 104 [some (.ref a), some (.int l1), some (.int (Int32.ofNat k))] [.int (Int32.ofNat k), .ref t] (sh, v, rest) := (zx1 zf265_103).trans (rfl)
set_option maxRecDepth 100000 in
theorem zf265_104 : zfetch 265 104 = some (.aload_n 0, 1, (0, 0, 0), 0, 0) := by decide +kernel
set_option maxRecDepth 100000 in
theorem zk265_104 {l1 : Int32}  (n : Nat) : zex E (n + 1) d 265 104 [some (.ref a), some (.int l1), some (.int (Int32.ofNat k))] [.int (Int32.ofNat k), .ref t] (sh, v, rest) = zex E n d 265 105 [some (.ref a), some (.int l1), some (.int (Int32.ofNat k))] [.ref a, .int (Int32.ofNat k), .ref t] (sh, v, rest) := (zx1 zf265_104).trans (rfl)
set_option maxRecDepth 100000 in
theorem zf265_105 : zfetch 265 105 = some (.getfield 20, 3, (12, 3, 0), 0, 1620) := by decide +kernel
set_option maxRecDepth 100000 in
theorem zk265_105 {l1 : Int32} (ha : zat sh a = some (.inr (.inl (12, sl)))) (h2 : zat sl 3 = some (some (some w))) (n : Nat) : zex E (n + 1) d 265 105 [some (.ref a), some (.int l1), some (.int (Int32.ofNat k))] [.ref a, .int (Int32.ofNat k), .ref t] (sh, v, rest) = zex E n d 265 108 [some (.ref a), some (.int l1), some (.int (Int32.ofNat k))] [.ref w, .int (Int32.ofNat k), .ref t] (sh, v, rest) := (zx1 zf265_105).trans (zget_r (K := fun s => zex E n d 265 108 [some (.ref a), some (.int l1), some (.int (Int32.ofNat k))] s (sh, v, rest)) (h := (sh, v, rest)) ha h2)
set_option maxRecDepth 100000 in
theorem zf265_108 : zfetch 265 108 = some (.iload_n 2, 1, (0, 0, 0), 0, 0) := by decide +kernel
set_option maxRecDepth 100000 in
theorem zk265_108 {l1 : Int32}  (n : Nat) : zex E (n + 1) d 265 108 [some (.ref a), some (.int l1), some (.int (Int32.ofNat k))] [.ref w, .int (Int32.ofNat k), .ref t] (sh, v, rest) = zex E n d 265 109 [some (.ref a), some (.int l1), some (.int (Int32.ofNat k))] [.int (Int32.ofNat k), .ref w, .int (Int32.ofNat k), .ref t] (sh, v, rest) := (zx1 zf265_108).trans (rfl)
set_option maxRecDepth 100000 in
theorem zf265_109 : zfetch 265 109 = some (.iaload, 1, (0, 0, 0), 0, 0) := by decide +kernel
set_option maxRecDepth 100000 in
theorem zk265_109 {l1 : Int32} (h4 : zat sh w = some (.inl (0, nw, rw9))) (hj : ((Int32.ofNat k)).toInt = (J : Int)) (hJ : J < nw) (n : Nat) : zex E (n + 1) d 265 109 [some (.ref a), some (.int l1), some (.int (Int32.ofNat k))] [.int (Int32.ofNat k), .ref w, .int (Int32.ofNat k), .ref t] (sh, v, rest) = zex E n d 265 110 [some (.ref a), some (.int l1), some (.int (Int32.ofNat k))] [.int (v w J), .int (Int32.ofNat k), .ref t] (sh, v, rest) := (zx1 zf265_109).trans (zald_i (E := E) (K := fun s => zex E n d 265 110 [some (.ref a), some (.int l1), some (.int (Int32.ofNat k))] s (sh, v, rest)) (h := (sh, v, rest)) h4 hj hJ)
set_option maxRecDepth 100000 in
theorem zf265_110 : zfetch 265 110 = some (.iastore, 1, (0, 0, 0), 0, 0) := by decide +kernel
set_option maxRecDepth 100000 in
theorem zk265_110 {l1 : Int32} (h3 : zat sh t = some (.inl (0, nt, rt))) (hi : ((Int32.ofNat k)).toInt = (I : Int)) (hI : I < nt) (n : Nat) : zex E (n + 1) d 265 110 [some (.ref a), some (.int l1), some (.int (Int32.ofNat k))] [.int (v w J), .int (Int32.ofNat k), .ref t] (sh, v, rest) = zex E n d 265 111 [some (.ref a), some (.int l1), some (.int (Int32.ofNat k))] [] (sh, (zrow v t (upd (v t) I (v w J))), rest) := (zx1 zf265_110).trans (zast_i (K := fun s h => zex E n d 265 111 [some (.ref a), some (.int l1), some (.int (Int32.ofNat k))] s h) (h := (sh, v, rest)) h3 hi hI)
set_option maxRecDepth 100000 in
theorem zf265_111 : zfetch 265 111 = some (.iinc 2 1, 3, (0, 0, 0), 1, 0) := by decide +kernel
set_option maxRecDepth 100000 in
theorem zk265_111 {l1 : Int32}  (n : Nat) : zex E (n + 1) d 265 111 [some (.ref a), some (.int l1), some (.int (Int32.ofNat k))] [] (sh, (zrow v t (upd (v t) I (v w J))), rest) = zex E n d 265 114 [some (.ref a), some (.int l1), some (.int (Int32.ofNat (k + 1)))] [] (sh, (zrow v t (upd (v t) I (v w J))), rest) := (zx1 zf265_111).trans ((by rw [← zsuc9]; rfl))
set_option maxRecDepth 100000 in
theorem zf265_114 : zfetch 265 114 = some (.goto (-22), 3, (92, 0, 0), 0, 0) := by decide +kernel
set_option maxRecDepth 100000 in
theorem zk265_114 {l1 : Int32}  (n : Nat) : zex E (n + 1) d 265 114 [some (.ref a), some (.int l1), some (.int (Int32.ofNat (k + 1)))] [] (sh, (zrow v t (upd (v t) I (v w J))), rest) = zex E n d 265 92 [some (.ref a), some (.int l1), some (.int (Int32.ofNat (k + 1)))] [] (sh, (zrow v t (upd (v t) I (v w J))), rest) := (zx1 zf265_114).trans (rfl)
set_option maxRecDepth 100000 in
theorem zlhouse2_turn {l1 : Int32} (ha : zat sh a = some (.inr (.inl (12, sl)))) (h1 : zat sl 1 = some (some (some t))) (h2 : zat sl 3 = some (some (some w))) (h3 : zat sh t = some (.inl (0, nt, rt))) (h4 : zat sh w = some (.inl (0, nw, rw9))) (hk : k < 1626) (hi : ((Int32.ofNat k)).toInt = (I : Int)) (hI : I < nt) (hj : ((Int32.ofNat k)).toInt = (J : Int)) (hJ : J < nw) (n : Nat) : zex E (n + 13) d 265 92 [some (.ref a), some (.int l1), some (.int (Int32.ofNat k))] [] (sh, v, rest) = zex E n d 265 92 [some (.ref a), some (.int l1), some (.int (Int32.ofNat (k + 1)))] [] (sh, (zrow v t (upd (v t) I (v w J))), rest) := (zk265_92 (n + 12)).trans ((zk265_93 (n + 11)).trans ((zk265_96 hk (n + 10)).trans ((zk265_99 (n + 9)).trans ((zk265_100 ha h1 (n + 8)).trans ((zk265_103 (n + 7)).trans ((zk265_104 (n + 6)).trans ((zk265_105 ha h2 (n + 5)).trans ((zk265_108 (n + 4)).trans ((zk265_109 h4 hj hJ (n + 3)).trans ((zk265_110 h3 hi hI (n + 2)).trans ((zk265_111 (n + 1)).trans (zk265_114 n))))))))))))
set_option maxRecDepth 100000 in
theorem zlhouse2_exit {l1 : Int32} (n : Nat) : zex E (n + 3) d 265 92 [some (.ref a), some (.int l1), some (.int (Int32.ofNat 1626))] [] (sh, v, rest) = zex E n d 265 117 [some (.ref a), some (.int l1), some (.int (Int32.ofNat 1626))] [] (sh, v, rest) := (zk265_92 (k := 1626) (n + 2)).trans ((zk265_93 (k := 1626) (n + 1)).trans ((zx1 zf265_96).trans rfl))
set_option maxRecDepth 100000 in
theorem zlhouse2_loop {E : zE} {d a t w nt nw : Nat} {sl : List (Option (Option Nat))} {rt rw9 : List (Option Nat)} {sh : List zS} {v : Nat → Nat → Int32} {rest : (Nat → Nat → Int64) × Nat × Nat} {l1 : Int32} (ha : zat sh a = some (.inr (.inl (12, sl)))) (h1 : zat sl 1 = some (some (some t))) (h2 : zat sl 3 = some (some (some w))) (h3 : zat sh t = some (.inl (0, nt, rt))) (h4 : zat sh w = some (.inl (0, nw, rw9))) {o q : Nat} (Hi : ∀ k, k < 1626 → ((Int32.ofNat k)).toInt = ((o + k : Nat) : Int)) (Hj : ∀ k, k < 1626 → ((Int32.ofNat k)).toInt = ((q + k : Nat) : Int)) (hnt : o + 1626 ≤ nt) (hnw : q + 1626 ≤ nw) (hwt : w ≠ t ∨ o ≤ q) : ∀ (j k n : Nat), k + j = 1626 → zex E (n + 3 + 13 * j) d 265 92 [some (.ref a), some (.int l1), some (.int (Int32.ofNat k))] [] (sh, zcpg v t w o q k, rest) = zex E n d 265 117 [some (.ref a), some (.int l1), some (.int (Int32.ofNat 1626))] [] (sh, zcpg v t w o q 1626, rest)
  | 0, k, n, hk => by
    have hk : k = 1626 := by omega
    subst hk
    exact zlhouse2_exit n
  | j + 1, k, n, hk => by
    have hk2 : k < 1626 := by omega
    have hz := zlhouse2_loop (E := E) (d := d) (v := v) (rest := rest) (l1 := l1) ha h1 h2 h3 h4 Hi Hj hnt hnw hwt j (k + 1) n (by omega)
    have hs := zcpg_s v (k := k) hwt
    rw [← hz, show n + 3 + 13 * (j + 1) = n + 3 + 13 * j + 13 by omega, ← hs]
    exact zlhouse2_turn ha h1 h2 h3 h4 hk2 (Hi k hk2) (by omega) (Hj k hk2) (by omega) (n + 3 + 13 * j)

set_option maxRecDepth 100000 in
theorem zf266_52 : zfetch 266 52 = some (.iload_n 2, 1, (0, 0, 0), 0, 0) := by decide +kernel
set_option maxRecDepth 100000 in
theorem zk266_52 {l1 : Int32}  (n : Nat) : zex E (n + 1) d 266 52 [some (.ref a), some (.int l1), some (.int (Int32.ofNat k))] [] (sh, v, rest) = zex E n d 266 53 [some (.ref a), some (.int l1), some (.int (Int32.ofNat k))] [.int (Int32.ofNat k)] (sh, v, rest) := (zx1 zf266_52).trans (rfl)
set_option maxRecDepth 100000 in
theorem zf266_53 : zfetch 266 53 = some (.sipush 849, 3, (0, 0, 0), 849, 0) := by decide +kernel
set_option maxRecDepth 100000 in
theorem zk266_53 {l1 : Int32}  (n : Nat) : zex E (n + 1) d 266 53 [some (.ref a), some (.int l1), some (.int (Int32.ofNat k))] [.int (Int32.ofNat k)] (sh, v, rest) = zex E n d 266 56 [some (.ref a), some (.int l1), some (.int (Int32.ofNat k))] [.int 849, .int (Int32.ofNat k)] (sh, v, rest) := (zx1 zf266_53).trans (rfl)
set_option maxRecDepth 100000 in
theorem zf266_56 : zfetch 266 56 = some (.if_icmp .ge 29, 3, (85, 0, 0), 0, 0) := by decide +kernel
set_option maxRecDepth 100000 in
theorem zk266_56 {l1 : Int32} (hk : k < 849) (n : Nat) : zex E (n + 1) d 266 56 [some (.ref a), some (.int l1), some (.int (Int32.ofNat k))] [.int 849, .int (Int32.ofNat k)] (sh, v, rest) = zex E n d 266 59 [some (.ref a), some (.int l1), some (.int (Int32.ofNat k))] [] (sh, v, rest) := (zx1 zf266_56).trans (if_neg (by rw [Int32.le_iff_toInt_le, zof9 (by omega)]; have h9 : (849 : Int32).toInt = 849 := (by decide); omega))
set_option maxRecDepth 100000 in
theorem zf266_59 : zfetch 266 59 = some (.aload_n 0, 1, (0, 0, 0), 0, 0) := by decide +kernel
set_option maxRecDepth 100000 in
theorem zk266_59 {l1 : Int32}  (n : Nat) : zex E (n + 1) d 266 59 [some (.ref a), some (.int l1), some (.int (Int32.ofNat k))] [] (sh, v, rest) = zex E n d 266 60 [some (.ref a), some (.int l1), some (.int (Int32.ofNat k))] [.ref a] (sh, v, rest) := (zx1 zf266_59).trans (rfl)
set_option maxRecDepth 100000 in
theorem zf266_60 : zfetch 266 60 = some (.getfield 13, 3, (12, 1, 0), 0, 1618) := by decide +kernel
set_option maxRecDepth 100000 in
theorem zk266_60 {l1 : Int32} (ha : zat sh a = some (.inr (.inl (12, sl)))) (h1 : zat sl 1 = some (some (some t))) (n : Nat) : zex E (n + 1) d 266 60 [some (.ref a), some (.int l1), some (.int (Int32.ofNat k))] [.ref a] (sh, v, rest) = zex E n d 266 63 [some (.ref a), some (.int l1), some (.int (Int32.ofNat k))] [.ref t] (sh, v, rest) := (zx1 zf266_60).trans (zget_r (K := fun s => zex E n d 266 63 [some (.ref a), some (.int l1), some (.int (Int32.ofNat k))] s (sh, v, rest)) (h := (sh, v, rest)) ha h1)
set_option maxRecDepth 100000 in
theorem zf266_63 : zfetch 266 63 = some (.sipush 777, 3, (0, 0, 0), 777, 0) := by decide +kernel
set_option maxRecDepth 100000 in
theorem zk266_63 {l1 : Int32}  (n : Nat) : zex E (n + 1) d 266 63 [some (.ref a), some (.int l1), some (.int (Int32.ofNat k))] [.ref t] (sh, v, rest) = zex E n d 266 66 [some (.ref a), some (.int l1), some (.int (Int32.ofNat k))] [.int 777, .ref t] (sh, v, rest) := (zx1 zf266_63).trans (rfl)
set_option maxRecDepth 100000 in
theorem zf266_66 : zfetch 266 66 = some (.iload_n 2, 1, (0, 0, 0), 0, 0) := by decide +kernel
set_option maxRecDepth 100000 in
theorem zk266_66 {l1 : Int32}  (n : Nat) : zex E (n + 1) d 266 66 [some (.ref a), some (.int l1), some (.int (Int32.ofNat k))] [.int 777, .ref t] (sh, v, rest) = zex E n d 266 67 [some (.ref a), some (.int l1), some (.int (Int32.ofNat k))] [.int (Int32.ofNat k), .int 777, .ref t] (sh, v, rest) := (zx1 zf266_66).trans (rfl)
set_option maxRecDepth 100000 in
theorem zf266_67 : zfetch 266 67 = some (.iadd, 1, (0, 0, 0), 0, 0) := by decide +kernel
set_option maxRecDepth 100000 in
theorem zk266_67 {l1 : Int32}  (n : Nat) : zex E (n + 1) d 266 67 [some (.ref a), some (.int l1), some (.int (Int32.ofNat k))] [.int (Int32.ofNat k), .int 777, .ref t] (sh, v, rest) = zex E n d 266 68 [some (.ref a), some (.int l1), some (.int (Int32.ofNat k))] [.int (777 + (Int32.ofNat k)), .ref t] (sh, v, rest) := (zx1 zf266_67).trans (rfl)
set_option maxRecDepth 100000 in
theorem zf266_68 : zfetch 266 68 = some (.aload_n 0, 1, (0, 0, 0), 0, 0) := by decide +kernel
set_option maxRecDepth 100000 in
theorem zk266_68 {l1 : Int32}  (n : Nat) : zex E (n + 1) d 266 68 [some (.ref a), some (.int l1), some (.int (Int32.ofNat k))] [.int (777 + (Int32.ofNat k)), .ref t] (sh, v, rest) = zex E n d 266 69 [some (.ref a), some (.int l1), some (.int (Int32.ofNat k))] [.ref a, .int (777 + (Int32.ofNat k)), .ref t] (sh, v, rest) := (zx1 zf266_68).trans (rfl)
set_option maxRecDepth 100000 in
theorem zf266_69 : zfetch 266 69 = some (.getfield 13, 3, (12, 1, 0), 0, 1618) := by decide +kernel
set_option maxRecDepth 100000 in
theorem zk266_69 {l1 : Int32} (ha : zat sh a = some (.inr (.inl (12, sl)))) (h2 : zat sl 1 = some (some (some w))) (n : Nat) : zex E (n + 1) d 266 69 [some (.ref a), some (.int l1), some (.int (Int32.ofNat k))] [.ref a, .int (777 + (Int32.ofNat k)), .ref t] (sh, v, rest) = zex E n d 266 72 [some (.ref a), some (.int l1), some (.int (Int32.ofNat k))] [.ref w, .int (777 + (Int32.ofNat k)), .ref t] (sh, v, rest) := (zx1 zf266_69).trans (zget_r (K := fun s => zex E n d 266 72 [some (.ref a), some (.int l1), some (.int (Int32.ofNat k))] s (sh, v, rest)) (h := (sh, v, rest)) ha h2)
set_option maxRecDepth 100000 in
theorem zf266_72 : zfetch 266 72 = some (.sipush 1626, 3, (0, 0, 0), 1626, 0) := by decide +kernel
set_option maxRecDepth 100000 in
theorem zk266_72 {l1 : Int32}  (n : Nat) : zex E (n + 1) d 266 72 [some (.ref a), some (.int l1), some (.int (Int32.ofNat k))] [.ref w, .int (777 + (Int32.ofNat k)), .ref t] (sh, v, rest) = zex E n d 266 75 [some (.ref a), some (.int l1), some (.int (Int32.ofNat k))] [.int 1626, .ref w, .int (777 + (Int32.ofNat k)), .ref t] (sh, v, rest) := (zx1 zf266_72).trans (rfl)
set_option maxRecDepth 100000 in
theorem zf266_75 : zfetch 266 75 = some (.iload_n 2, 1, (0, 0, 0), 0, 0) := by decide +kernel
set_option maxRecDepth 100000 in
theorem zk266_75 {l1 : Int32}  (n : Nat) : zex E (n + 1) d 266 75 [some (.ref a), some (.int l1), some (.int (Int32.ofNat k))] [.int 1626, .ref w, .int (777 + (Int32.ofNat k)), .ref t] (sh, v, rest) = zex E n d 266 76 [some (.ref a), some (.int l1), some (.int (Int32.ofNat k))] [.int (Int32.ofNat k), .int 1626, .ref w, .int (777 + (Int32.ofNat k)), .ref t] (sh, v, rest) := (zx1 zf266_75).trans (rfl)
set_option maxRecDepth 100000 in
theorem zf266_76 : zfetch 266 76 = some (.iadd, 1, (0, 0, 0), 0, 0) := by decide +kernel
set_option maxRecDepth 100000 in
theorem zk266_76 {l1 : Int32}  (n : Nat) : zex E (n + 1) d 266 76 [some (.ref a), some (.int l1), some (.int (Int32.ofNat k))] [.int (Int32.ofNat k), .int 1626, .ref w, .int (777 + (Int32.ofNat k)), .ref t] (sh, v, rest) = zex E n d 266 77 [some (.ref a), some (.int l1), some (.int (Int32.ofNat k))] [.int (1626 + (Int32.ofNat k)), .ref w, .int (777 + (Int32.ofNat k)), .ref t] (sh, v, rest) := (zx1 zf266_76).trans (rfl)
set_option maxRecDepth 100000 in
theorem zf266_77 : zfetch 266 77 = some (.iaload, 1, (0, 0, 0), 0, 0) := by decide +kernel
set_option maxRecDepth 100000 in
theorem zk266_77 {l1 : Int32} (h4 : zat sh w = some (.inl (0, nw, rw9))) (hj : ((1626 + (Int32.ofNat k))).toInt = (J : Int)) (hJ : J < nw) (n : Nat) : zex E (n + 1) d 266 77 [some (.ref a), some (.int l1), some (.int (Int32.ofNat k))] [.int (1626 + (Int32.ofNat k)), .ref w, .int (777 + (Int32.ofNat k)), .ref t] (sh, v, rest) = zex E n d 266 78 [some (.ref a), some (.int l1), some (.int (Int32.ofNat k))] [.int (v w J), .int (777 + (Int32.ofNat k)), .ref t] (sh, v, rest) := (zx1 zf266_77).trans (zald_i (E := E) (K := fun s => zex E n d 266 78 [some (.ref a), some (.int l1), some (.int (Int32.ofNat k))] s (sh, v, rest)) (h := (sh, v, rest)) h4 hj hJ)
set_option maxRecDepth 100000 in
theorem zf266_78 : zfetch 266 78 = some (.iastore, 1, (0, 0, 0), 0, 0) := by decide +kernel
set_option maxRecDepth 100000 in
theorem zk266_78 {l1 : Int32} (h3 : zat sh t = some (.inl (0, nt, rt))) (hi : ((777 + (Int32.ofNat k))).toInt = (I : Int)) (hI : I < nt) (n : Nat) : zex E (n + 1) d 266 78 [some (.ref a), some (.int l1), some (.int (Int32.ofNat k))] [.int (v w J), .int (777 + (Int32.ofNat k)), .ref t] (sh, v, rest) = zex E n d 266 79 [some (.ref a), some (.int l1), some (.int (Int32.ofNat k))] [] (sh, (zrow v t (upd (v t) I (v w J))), rest) := (zx1 zf266_78).trans (zast_i (K := fun s h => zex E n d 266 79 [some (.ref a), some (.int l1), some (.int (Int32.ofNat k))] s h) (h := (sh, v, rest)) h3 hi hI)
set_option maxRecDepth 100000 in
theorem zf266_79 : zfetch 266 79 = some (.iinc 2 1, 3, (0, 0, 0), 1, 0) := by decide +kernel
set_option maxRecDepth 100000 in
theorem zk266_79 {l1 : Int32}  (n : Nat) : zex E (n + 1) d 266 79 [some (.ref a), some (.int l1), some (.int (Int32.ofNat k))] [] (sh, (zrow v t (upd (v t) I (v w J))), rest) = zex E n d 266 82 [some (.ref a), some (.int l1), some (.int (Int32.ofNat (k + 1)))] [] (sh, (zrow v t (upd (v t) I (v w J))), rest) := (zx1 zf266_79).trans ((by rw [← zsuc9]; rfl))
set_option maxRecDepth 100000 in
theorem zf266_82 : zfetch 266 82 = some (.goto (-30), 3, (52, 0, 0), 0, 0) := by decide +kernel
set_option maxRecDepth 100000 in
theorem zk266_82 {l1 : Int32}  (n : Nat) : zex E (n + 1) d 266 82 [some (.ref a), some (.int l1), some (.int (Int32.ofNat (k + 1)))] [] (sh, (zrow v t (upd (v t) I (v w J))), rest) = zex E n d 266 52 [some (.ref a), some (.int l1), some (.int (Int32.ofNat (k + 1)))] [] (sh, (zrow v t (upd (v t) I (v w J))), rest) := (zx1 zf266_82).trans (rfl)
set_option maxRecDepth 100000 in
theorem zllaw_turn {l1 : Int32} (ha : zat sh a = some (.inr (.inl (12, sl)))) (h1 : zat sl 1 = some (some (some t))) (h2 : zat sl 1 = some (some (some w))) (h3 : zat sh t = some (.inl (0, nt, rt))) (h4 : zat sh w = some (.inl (0, nw, rw9))) (hk : k < 849) (hi : ((777 + (Int32.ofNat k))).toInt = (I : Int)) (hI : I < nt) (hj : ((1626 + (Int32.ofNat k))).toInt = (J : Int)) (hJ : J < nw) (n : Nat) : zex E (n + 17) d 266 52 [some (.ref a), some (.int l1), some (.int (Int32.ofNat k))] [] (sh, v, rest) = zex E n d 266 52 [some (.ref a), some (.int l1), some (.int (Int32.ofNat (k + 1)))] [] (sh, (zrow v t (upd (v t) I (v w J))), rest) := (zk266_52 (n + 16)).trans ((zk266_53 (n + 15)).trans ((zk266_56 hk (n + 14)).trans ((zk266_59 (n + 13)).trans ((zk266_60 ha h1 (n + 12)).trans ((zk266_63 (n + 11)).trans ((zk266_66 (n + 10)).trans ((zk266_67 (n + 9)).trans ((zk266_68 (n + 8)).trans ((zk266_69 ha h2 (n + 7)).trans ((zk266_72 (n + 6)).trans ((zk266_75 (n + 5)).trans ((zk266_76 (n + 4)).trans ((zk266_77 h4 hj hJ (n + 3)).trans ((zk266_78 h3 hi hI (n + 2)).trans ((zk266_79 (n + 1)).trans (zk266_82 n))))))))))))))))
set_option maxRecDepth 100000 in
theorem zllaw_exit {l1 : Int32} (n : Nat) : zex E (n + 3) d 266 52 [some (.ref a), some (.int l1), some (.int (Int32.ofNat 849))] [] (sh, v, rest) = zex E n d 266 85 [some (.ref a), some (.int l1), some (.int (Int32.ofNat 849))] [] (sh, v, rest) := (zk266_52 (k := 849) (n + 2)).trans ((zk266_53 (k := 849) (n + 1)).trans ((zx1 zf266_56).trans rfl))
set_option maxRecDepth 100000 in
theorem zllaw_loop {E : zE} {d a t w nt nw : Nat} {sl : List (Option (Option Nat))} {rt rw9 : List (Option Nat)} {sh : List zS} {v : Nat → Nat → Int32} {rest : (Nat → Nat → Int64) × Nat × Nat} {l1 : Int32} (ha : zat sh a = some (.inr (.inl (12, sl)))) (h1 : zat sl 1 = some (some (some t))) (h2 : zat sl 1 = some (some (some w))) (h3 : zat sh t = some (.inl (0, nt, rt))) (h4 : zat sh w = some (.inl (0, nw, rw9))) {o q : Nat} (Hi : ∀ k, k < 849 → ((777 + (Int32.ofNat k))).toInt = ((o + k : Nat) : Int)) (Hj : ∀ k, k < 849 → ((1626 + (Int32.ofNat k))).toInt = ((q + k : Nat) : Int)) (hnt : o + 849 ≤ nt) (hnw : q + 849 ≤ nw) (hwt : w ≠ t ∨ o ≤ q) : ∀ (j k n : Nat), k + j = 849 → zex E (n + 3 + 17 * j) d 266 52 [some (.ref a), some (.int l1), some (.int (Int32.ofNat k))] [] (sh, zcpg v t w o q k, rest) = zex E n d 266 85 [some (.ref a), some (.int l1), some (.int (Int32.ofNat 849))] [] (sh, zcpg v t w o q 849, rest)
  | 0, k, n, hk => by
    have hk : k = 849 := by omega
    subst hk
    exact zllaw_exit n
  | j + 1, k, n, hk => by
    have hk2 : k < 849 := by omega
    have hz := zllaw_loop (E := E) (d := d) (v := v) (rest := rest) (l1 := l1) ha h1 h2 h3 h4 Hi Hj hnt hnw hwt j (k + 1) n (by omega)
    have hs := zcpg_s v (k := k) hwt
    rw [← hz, show n + 3 + 17 * (j + 1) = n + 3 + 17 * j + 17 by omega, ← hs]
    exact zllaw_turn ha h1 h2 h3 h4 hk2 (Hi k hk2) (by omega) (Hj k hk2) (by omega) (n + 3 + 17 * j)

set_option maxRecDepth 100000 in
theorem zf293_2 : zfetch 293 2 = some (.iload_n 1, 1, (0, 0, 0), 0, 0) := by decide +kernel
set_option maxRecDepth 100000 in
theorem zk293_2  (n : Nat) : zex E (n + 1) d 293 2 [some (.ref a), some (.int (Int32.ofNat k))] [] (sh, v, rest) = zex E n d 293 3 [some (.ref a), some (.int (Int32.ofNat k))] [.int (Int32.ofNat k)] (sh, v, rest) := (zx1 zf293_2).trans (rfl)
set_option maxRecDepth 100000 in
theorem zf293_3 : zfetch 293 3 = some (.sipush 777, 3, (0, 0, 0), 777, 0) := by decide +kernel
set_option maxRecDepth 100000 in
theorem zk293_3  (n : Nat) : zex E (n + 1) d 293 3 [some (.ref a), some (.int (Int32.ofNat k))] [.int (Int32.ofNat k)] (sh, v, rest) = zex E n d 293 6 [some (.ref a), some (.int (Int32.ofNat k))] [.int 777, .int (Int32.ofNat k)] (sh, v, rest) := (zx1 zf293_3).trans (rfl)
set_option maxRecDepth 100000 in
theorem zf293_6 : zfetch 293 6 = some (.if_icmp .ge 21, 3, (27, 0, 0), 0, 0) := by decide +kernel
set_option maxRecDepth 100000 in
theorem zk293_6 (hk : k < 777) (n : Nat) : zex E (n + 1) d 293 6 [some (.ref a), some (.int (Int32.ofNat k))] [.int 777, .int (Int32.ofNat k)] (sh, v, rest) = zex E n d 293 9 [some (.ref a), some (.int (Int32.ofNat k))] [] (sh, v, rest) := (zx1 zf293_6).trans (if_neg (by rw [Int32.le_iff_toInt_le, zof9 (by omega)]; have h9 : (777 : Int32).toInt = 777 := (by decide); omega))
set_option maxRecDepth 100000 in
theorem zf293_9 : zfetch 293 9 = some (.aload_n 0, 1, (0, 0, 0), 0, 0) := by decide +kernel
set_option maxRecDepth 100000 in
theorem zk293_9  (n : Nat) : zex E (n + 1) d 293 9 [some (.ref a), some (.int (Int32.ofNat k))] [] (sh, v, rest) = zex E n d 293 10 [some (.ref a), some (.int (Int32.ofNat k))] [.ref a] (sh, v, rest) := (zx1 zf293_9).trans (rfl)
set_option maxRecDepth 100000 in
theorem zf293_10 : zfetch 293 10 = some (.getfield 23, 3, (12, 4, 0), 0, 1621) := by decide +kernel
set_option maxRecDepth 100000 in
theorem zk293_10 (ha : zat sh a = some (.inr (.inl (12, sl)))) (h1 : zat sl 4 = some (some (some t))) (n : Nat) : zex E (n + 1) d 293 10 [some (.ref a), some (.int (Int32.ofNat k))] [.ref a] (sh, v, rest) = zex E n d 293 13 [some (.ref a), some (.int (Int32.ofNat k))] [.ref t] (sh, v, rest) := (zx1 zf293_10).trans (zget_r (K := fun s => zex E n d 293 13 [some (.ref a), some (.int (Int32.ofNat k))] s (sh, v, rest)) (h := (sh, v, rest)) ha h1)
set_option maxRecDepth 100000 in
theorem zf293_13 : zfetch 293 13 = some (.iload_n 1, 1, (0, 0, 0), 0, 0) := by decide +kernel
set_option maxRecDepth 100000 in
theorem zk293_13  (n : Nat) : zex E (n + 1) d 293 13 [some (.ref a), some (.int (Int32.ofNat k))] [.ref t] (sh, v, rest) = zex E n d 293 14 [some (.ref a), some (.int (Int32.ofNat k))] [.int (Int32.ofNat k), .ref t] (sh, v, rest) := (zx1 zf293_13).trans (rfl)
set_option maxRecDepth 100000 in
theorem zf293_14 : zfetch 293 14 = some (.aload_n 0, 1, (0, 0, 0), 0, 0) := by decide +kernel
set_option maxRecDepth 100000 in
theorem zk293_14  (n : Nat) : zex E (n + 1) d 293 14 [some (.ref a), some (.int (Int32.ofNat k))] [.int (Int32.ofNat k), .ref t] (sh, v, rest) = zex E n d 293 15 [some (.ref a), some (.int (Int32.ofNat k))] [.ref a, .int (Int32.ofNat k), .ref t] (sh, v, rest) := (zx1 zf293_14).trans (rfl)
set_option maxRecDepth 100000 in
theorem zf293_15 : zfetch 293 15 = some (.getfield 13, 3, (12, 1, 0), 0, 1618) := by decide +kernel
set_option maxRecDepth 100000 in
theorem zk293_15 (ha : zat sh a = some (.inr (.inl (12, sl)))) (h2 : zat sl 1 = some (some (some w))) (n : Nat) : zex E (n + 1) d 293 15 [some (.ref a), some (.int (Int32.ofNat k))] [.ref a, .int (Int32.ofNat k), .ref t] (sh, v, rest) = zex E n d 293 18 [some (.ref a), some (.int (Int32.ofNat k))] [.ref w, .int (Int32.ofNat k), .ref t] (sh, v, rest) := (zx1 zf293_15).trans (zget_r (K := fun s => zex E n d 293 18 [some (.ref a), some (.int (Int32.ofNat k))] s (sh, v, rest)) (h := (sh, v, rest)) ha h2)
set_option maxRecDepth 100000 in
theorem zf293_18 : zfetch 293 18 = some (.iload_n 1, 1, (0, 0, 0), 0, 0) := by decide +kernel
set_option maxRecDepth 100000 in
theorem zk293_18  (n : Nat) : zex E (n + 1) d 293 18 [some (.ref a), some (.int (Int32.ofNat k))] [.ref w, .int (Int32.ofNat k), .ref t] (sh, v, rest) = zex E n d 293 19 [some (.ref a), some (.int (Int32.ofNat k))] [.int (Int32.ofNat k), .ref w, .int (Int32.ofNat k), .ref t] (sh, v, rest) := (zx1 zf293_18).trans (rfl)
set_option maxRecDepth 100000 in
theorem zf293_19 : zfetch 293 19 = some (.iaload, 1, (0, 0, 0), 0, 0) := by decide +kernel
set_option maxRecDepth 100000 in
theorem zk293_19 (h4 : zat sh w = some (.inl (0, nw, rw9))) (hj : ((Int32.ofNat k)).toInt = (J : Int)) (hJ : J < nw) (n : Nat) : zex E (n + 1) d 293 19 [some (.ref a), some (.int (Int32.ofNat k))] [.int (Int32.ofNat k), .ref w, .int (Int32.ofNat k), .ref t] (sh, v, rest) = zex E n d 293 20 [some (.ref a), some (.int (Int32.ofNat k))] [.int (v w J), .int (Int32.ofNat k), .ref t] (sh, v, rest) := (zx1 zf293_19).trans (zald_i (E := E) (K := fun s => zex E n d 293 20 [some (.ref a), some (.int (Int32.ofNat k))] s (sh, v, rest)) (h := (sh, v, rest)) h4 hj hJ)
set_option maxRecDepth 100000 in
theorem zf293_20 : zfetch 293 20 = some (.iastore, 1, (0, 0, 0), 0, 0) := by decide +kernel
set_option maxRecDepth 100000 in
theorem zk293_20 (h3 : zat sh t = some (.inl (0, nt, rt))) (hi : ((Int32.ofNat k)).toInt = (I : Int)) (hI : I < nt) (n : Nat) : zex E (n + 1) d 293 20 [some (.ref a), some (.int (Int32.ofNat k))] [.int (v w J), .int (Int32.ofNat k), .ref t] (sh, v, rest) = zex E n d 293 21 [some (.ref a), some (.int (Int32.ofNat k))] [] (sh, (zrow v t (upd (v t) I (v w J))), rest) := (zx1 zf293_20).trans (zast_i (K := fun s h => zex E n d 293 21 [some (.ref a), some (.int (Int32.ofNat k))] s h) (h := (sh, v, rest)) h3 hi hI)
set_option maxRecDepth 100000 in
theorem zf293_21 : zfetch 293 21 = some (.iinc 1 1, 3, (0, 0, 0), 1, 0) := by decide +kernel
set_option maxRecDepth 100000 in
theorem zk293_21  (n : Nat) : zex E (n + 1) d 293 21 [some (.ref a), some (.int (Int32.ofNat k))] [] (sh, (zrow v t (upd (v t) I (v w J))), rest) = zex E n d 293 24 [some (.ref a), some (.int (Int32.ofNat (k + 1)))] [] (sh, (zrow v t (upd (v t) I (v w J))), rest) := (zx1 zf293_21).trans ((by rw [← zsuc9]; rfl))
set_option maxRecDepth 100000 in
theorem zf293_24 : zfetch 293 24 = some (.goto (-22), 3, (2, 0, 0), 0, 0) := by decide +kernel
set_option maxRecDepth 100000 in
theorem zk293_24  (n : Nat) : zex E (n + 1) d 293 24 [some (.ref a), some (.int (Int32.ofNat (k + 1)))] [] (sh, (zrow v t (upd (v t) I (v w J))), rest) = zex E n d 293 2 [some (.ref a), some (.int (Int32.ofNat (k + 1)))] [] (sh, (zrow v t (upd (v t) I (v w J))), rest) := (zx1 zf293_24).trans (rfl)
set_option maxRecDepth 100000 in
theorem zlkeep_turn (ha : zat sh a = some (.inr (.inl (12, sl)))) (h1 : zat sl 4 = some (some (some t))) (h2 : zat sl 1 = some (some (some w))) (h3 : zat sh t = some (.inl (0, nt, rt))) (h4 : zat sh w = some (.inl (0, nw, rw9))) (hk : k < 777) (hi : ((Int32.ofNat k)).toInt = (I : Int)) (hI : I < nt) (hj : ((Int32.ofNat k)).toInt = (J : Int)) (hJ : J < nw) (n : Nat) : zex E (n + 13) d 293 2 [some (.ref a), some (.int (Int32.ofNat k))] [] (sh, v, rest) = zex E n d 293 2 [some (.ref a), some (.int (Int32.ofNat (k + 1)))] [] (sh, (zrow v t (upd (v t) I (v w J))), rest) := (zk293_2 (n + 12)).trans ((zk293_3 (n + 11)).trans ((zk293_6 hk (n + 10)).trans ((zk293_9 (n + 9)).trans ((zk293_10 ha h1 (n + 8)).trans ((zk293_13 (n + 7)).trans ((zk293_14 (n + 6)).trans ((zk293_15 ha h2 (n + 5)).trans ((zk293_18 (n + 4)).trans ((zk293_19 h4 hj hJ (n + 3)).trans ((zk293_20 h3 hi hI (n + 2)).trans ((zk293_21 (n + 1)).trans (zk293_24 n))))))))))))
set_option maxRecDepth 100000 in
theorem zlkeep_exit (n : Nat) : zex E (n + 3) d 293 2 [some (.ref a), some (.int (Int32.ofNat 777))] [] (sh, v, rest) = zex E n d 293 27 [some (.ref a), some (.int (Int32.ofNat 777))] [] (sh, v, rest) := (zk293_2 (k := 777) (n + 2)).trans ((zk293_3 (k := 777) (n + 1)).trans ((zx1 zf293_6).trans rfl))
set_option maxRecDepth 100000 in
theorem zlkeep_loop {E : zE} {d a t w nt nw : Nat} {sl : List (Option (Option Nat))} {rt rw9 : List (Option Nat)} {sh : List zS} {v : Nat → Nat → Int32} {rest : (Nat → Nat → Int64) × Nat × Nat} (ha : zat sh a = some (.inr (.inl (12, sl)))) (h1 : zat sl 4 = some (some (some t))) (h2 : zat sl 1 = some (some (some w))) (h3 : zat sh t = some (.inl (0, nt, rt))) (h4 : zat sh w = some (.inl (0, nw, rw9))) {o q : Nat} (Hi : ∀ k, k < 777 → ((Int32.ofNat k)).toInt = ((o + k : Nat) : Int)) (Hj : ∀ k, k < 777 → ((Int32.ofNat k)).toInt = ((q + k : Nat) : Int)) (hnt : o + 777 ≤ nt) (hnw : q + 777 ≤ nw) (hwt : w ≠ t ∨ o ≤ q) : ∀ (j k n : Nat), k + j = 777 → zex E (n + 3 + 13 * j) d 293 2 [some (.ref a), some (.int (Int32.ofNat k))] [] (sh, zcpg v t w o q k, rest) = zex E n d 293 27 [some (.ref a), some (.int (Int32.ofNat 777))] [] (sh, zcpg v t w o q 777, rest)
  | 0, k, n, hk => by
    have hk : k = 777 := by omega
    subst hk
    exact zlkeep_exit n
  | j + 1, k, n, hk => by
    have hk2 : k < 777 := by omega
    have hz := zlkeep_loop (E := E) (d := d) (v := v) (rest := rest) ha h1 h2 h3 h4 Hi Hj hnt hnw hwt j (k + 1) n (by omega)
    have hs := zcpg_s v (k := k) hwt
    rw [← hz, show n + 3 + 13 * (j + 1) = n + 3 + 13 * j + 13 by omega, ← hs]
    exact zlkeep_turn ha h1 h2 h3 h4 hk2 (Hi k hk2) (by omega) (Hj k hk2) (by omega) (n + 3 + 13 * j)

set_option maxRecDepth 100000 in
theorem zf294_2 : zfetch 294 2 = some (.iload_n 1, 1, (0, 0, 0), 0, 0) := by decide +kernel
set_option maxRecDepth 100000 in
theorem zk294_2  (n : Nat) : zex E (n + 1) d 294 2 [some (.ref a), some (.int (Int32.ofNat k))] [] (sh, v, rest) = zex E n d 294 3 [some (.ref a), some (.int (Int32.ofNat k))] [.int (Int32.ofNat k)] (sh, v, rest) := (zx1 zf294_2).trans (rfl)
set_option maxRecDepth 100000 in
theorem zf294_3 : zfetch 294 3 = some (.sipush 777, 3, (0, 0, 0), 777, 0) := by decide +kernel
set_option maxRecDepth 100000 in
theorem zk294_3  (n : Nat) : zex E (n + 1) d 294 3 [some (.ref a), some (.int (Int32.ofNat k))] [.int (Int32.ofNat k)] (sh, v, rest) = zex E n d 294 6 [some (.ref a), some (.int (Int32.ofNat k))] [.int 777, .int (Int32.ofNat k)] (sh, v, rest) := (zx1 zf294_3).trans (rfl)
set_option maxRecDepth 100000 in
theorem zf294_6 : zfetch 294 6 = some (.if_icmp .ge 21, 3, (27, 0, 0), 0, 0) := by decide +kernel
set_option maxRecDepth 100000 in
theorem zk294_6 (hk : k < 777) (n : Nat) : zex E (n + 1) d 294 6 [some (.ref a), some (.int (Int32.ofNat k))] [.int 777, .int (Int32.ofNat k)] (sh, v, rest) = zex E n d 294 9 [some (.ref a), some (.int (Int32.ofNat k))] [] (sh, v, rest) := (zx1 zf294_6).trans (if_neg (by rw [Int32.le_iff_toInt_le, zof9 (by omega)]; have h9 : (777 : Int32).toInt = 777 := (by decide); omega))
set_option maxRecDepth 100000 in
theorem zf294_9 : zfetch 294 9 = some (.aload_n 0, 1, (0, 0, 0), 0, 0) := by decide +kernel
set_option maxRecDepth 100000 in
theorem zk294_9  (n : Nat) : zex E (n + 1) d 294 9 [some (.ref a), some (.int (Int32.ofNat k))] [] (sh, v, rest) = zex E n d 294 10 [some (.ref a), some (.int (Int32.ofNat k))] [.ref a] (sh, v, rest) := (zx1 zf294_9).trans (rfl)
set_option maxRecDepth 100000 in
theorem zf294_10 : zfetch 294 10 = some (.getfield 13, 3, (12, 1, 0), 0, 1618) := by decide +kernel
set_option maxRecDepth 100000 in
theorem zk294_10 (ha : zat sh a = some (.inr (.inl (12, sl)))) (h1 : zat sl 1 = some (some (some t))) (n : Nat) : zex E (n + 1) d 294 10 [some (.ref a), some (.int (Int32.ofNat k))] [.ref a] (sh, v, rest) = zex E n d 294 13 [some (.ref a), some (.int (Int32.ofNat k))] [.ref t] (sh, v, rest) := (zx1 zf294_10).trans (zget_r (K := fun s => zex E n d 294 13 [some (.ref a), some (.int (Int32.ofNat k))] s (sh, v, rest)) (h := (sh, v, rest)) ha h1)
set_option maxRecDepth 100000 in
theorem zf294_13 : zfetch 294 13 = some (.iload_n 1, 1, (0, 0, 0), 0, 0) := by decide +kernel
set_option maxRecDepth 100000 in
theorem zk294_13  (n : Nat) : zex E (n + 1) d 294 13 [some (.ref a), some (.int (Int32.ofNat k))] [.ref t] (sh, v, rest) = zex E n d 294 14 [some (.ref a), some (.int (Int32.ofNat k))] [.int (Int32.ofNat k), .ref t] (sh, v, rest) := (zx1 zf294_13).trans (rfl)
set_option maxRecDepth 100000 in
theorem zf294_14 : zfetch 294 14 = some (.aload_n 0, 1, (0, 0, 0), 0, 0) := by decide +kernel
set_option maxRecDepth 100000 in
theorem zk294_14  (n : Nat) : zex E (n + 1) d 294 14 [some (.ref a), some (.int (Int32.ofNat k))] [.int (Int32.ofNat k), .ref t] (sh, v, rest) = zex E n d 294 15 [some (.ref a), some (.int (Int32.ofNat k))] [.ref a, .int (Int32.ofNat k), .ref t] (sh, v, rest) := (zx1 zf294_14).trans (rfl)
set_option maxRecDepth 100000 in
theorem zf294_15 : zfetch 294 15 = some (.getfield 23, 3, (12, 4, 0), 0, 1621) := by decide +kernel
set_option maxRecDepth 100000 in
theorem zk294_15 (ha : zat sh a = some (.inr (.inl (12, sl)))) (h2 : zat sl 4 = some (some (some w))) (n : Nat) : zex E (n + 1) d 294 15 [some (.ref a), some (.int (Int32.ofNat k))] [.ref a, .int (Int32.ofNat k), .ref t] (sh, v, rest) = zex E n d 294 18 [some (.ref a), some (.int (Int32.ofNat k))] [.ref w, .int (Int32.ofNat k), .ref t] (sh, v, rest) := (zx1 zf294_15).trans (zget_r (K := fun s => zex E n d 294 18 [some (.ref a), some (.int (Int32.ofNat k))] s (sh, v, rest)) (h := (sh, v, rest)) ha h2)
set_option maxRecDepth 100000 in
theorem zf294_18 : zfetch 294 18 = some (.iload_n 1, 1, (0, 0, 0), 0, 0) := by decide +kernel
set_option maxRecDepth 100000 in
theorem zk294_18  (n : Nat) : zex E (n + 1) d 294 18 [some (.ref a), some (.int (Int32.ofNat k))] [.ref w, .int (Int32.ofNat k), .ref t] (sh, v, rest) = zex E n d 294 19 [some (.ref a), some (.int (Int32.ofNat k))] [.int (Int32.ofNat k), .ref w, .int (Int32.ofNat k), .ref t] (sh, v, rest) := (zx1 zf294_18).trans (rfl)
set_option maxRecDepth 100000 in
theorem zf294_19 : zfetch 294 19 = some (.iaload, 1, (0, 0, 0), 0, 0) := by decide +kernel
set_option maxRecDepth 100000 in
theorem zk294_19 (h4 : zat sh w = some (.inl (0, nw, rw9))) (hj : ((Int32.ofNat k)).toInt = (J : Int)) (hJ : J < nw) (n : Nat) : zex E (n + 1) d 294 19 [some (.ref a), some (.int (Int32.ofNat k))] [.int (Int32.ofNat k), .ref w, .int (Int32.ofNat k), .ref t] (sh, v, rest) = zex E n d 294 20 [some (.ref a), some (.int (Int32.ofNat k))] [.int (v w J), .int (Int32.ofNat k), .ref t] (sh, v, rest) := (zx1 zf294_19).trans (zald_i (E := E) (K := fun s => zex E n d 294 20 [some (.ref a), some (.int (Int32.ofNat k))] s (sh, v, rest)) (h := (sh, v, rest)) h4 hj hJ)
set_option maxRecDepth 100000 in
theorem zf294_20 : zfetch 294 20 = some (.iastore, 1, (0, 0, 0), 0, 0) := by decide +kernel
set_option maxRecDepth 100000 in
theorem zk294_20 (h3 : zat sh t = some (.inl (0, nt, rt))) (hi : ((Int32.ofNat k)).toInt = (I : Int)) (hI : I < nt) (n : Nat) : zex E (n + 1) d 294 20 [some (.ref a), some (.int (Int32.ofNat k))] [.int (v w J), .int (Int32.ofNat k), .ref t] (sh, v, rest) = zex E n d 294 21 [some (.ref a), some (.int (Int32.ofNat k))] [] (sh, (zrow v t (upd (v t) I (v w J))), rest) := (zx1 zf294_20).trans (zast_i (K := fun s h => zex E n d 294 21 [some (.ref a), some (.int (Int32.ofNat k))] s h) (h := (sh, v, rest)) h3 hi hI)
set_option maxRecDepth 100000 in
theorem zf294_21 : zfetch 294 21 = some (.iinc 1 1, 3, (0, 0, 0), 1, 0) := by decide +kernel
set_option maxRecDepth 100000 in
theorem zk294_21  (n : Nat) : zex E (n + 1) d 294 21 [some (.ref a), some (.int (Int32.ofNat k))] [] (sh, (zrow v t (upd (v t) I (v w J))), rest) = zex E n d 294 24 [some (.ref a), some (.int (Int32.ofNat (k + 1)))] [] (sh, (zrow v t (upd (v t) I (v w J))), rest) := (zx1 zf294_21).trans ((by rw [← zsuc9]; rfl))
set_option maxRecDepth 100000 in
theorem zf294_24 : zfetch 294 24 = some (.goto (-22), 3, (2, 0, 0), 0, 0) := by decide +kernel
set_option maxRecDepth 100000 in
theorem zk294_24  (n : Nat) : zex E (n + 1) d 294 24 [some (.ref a), some (.int (Int32.ofNat (k + 1)))] [] (sh, (zrow v t (upd (v t) I (v w J))), rest) = zex E n d 294 2 [some (.ref a), some (.int (Int32.ofNat (k + 1)))] [] (sh, (zrow v t (upd (v t) I (v w J))), rest) := (zx1 zf294_24).trans (rfl)
set_option maxRecDepth 100000 in
theorem zlbring_turn (ha : zat sh a = some (.inr (.inl (12, sl)))) (h1 : zat sl 1 = some (some (some t))) (h2 : zat sl 4 = some (some (some w))) (h3 : zat sh t = some (.inl (0, nt, rt))) (h4 : zat sh w = some (.inl (0, nw, rw9))) (hk : k < 777) (hi : ((Int32.ofNat k)).toInt = (I : Int)) (hI : I < nt) (hj : ((Int32.ofNat k)).toInt = (J : Int)) (hJ : J < nw) (n : Nat) : zex E (n + 13) d 294 2 [some (.ref a), some (.int (Int32.ofNat k))] [] (sh, v, rest) = zex E n d 294 2 [some (.ref a), some (.int (Int32.ofNat (k + 1)))] [] (sh, (zrow v t (upd (v t) I (v w J))), rest) := (zk294_2 (n + 12)).trans ((zk294_3 (n + 11)).trans ((zk294_6 hk (n + 10)).trans ((zk294_9 (n + 9)).trans ((zk294_10 ha h1 (n + 8)).trans ((zk294_13 (n + 7)).trans ((zk294_14 (n + 6)).trans ((zk294_15 ha h2 (n + 5)).trans ((zk294_18 (n + 4)).trans ((zk294_19 h4 hj hJ (n + 3)).trans ((zk294_20 h3 hi hI (n + 2)).trans ((zk294_21 (n + 1)).trans (zk294_24 n))))))))))))
set_option maxRecDepth 100000 in
theorem zlbring_exit (n : Nat) : zex E (n + 3) d 294 2 [some (.ref a), some (.int (Int32.ofNat 777))] [] (sh, v, rest) = zex E n d 294 27 [some (.ref a), some (.int (Int32.ofNat 777))] [] (sh, v, rest) := (zk294_2 (k := 777) (n + 2)).trans ((zk294_3 (k := 777) (n + 1)).trans ((zx1 zf294_6).trans rfl))
set_option maxRecDepth 100000 in
theorem zlbring_loop {E : zE} {d a t w nt nw : Nat} {sl : List (Option (Option Nat))} {rt rw9 : List (Option Nat)} {sh : List zS} {v : Nat → Nat → Int32} {rest : (Nat → Nat → Int64) × Nat × Nat} (ha : zat sh a = some (.inr (.inl (12, sl)))) (h1 : zat sl 1 = some (some (some t))) (h2 : zat sl 4 = some (some (some w))) (h3 : zat sh t = some (.inl (0, nt, rt))) (h4 : zat sh w = some (.inl (0, nw, rw9))) {o q : Nat} (Hi : ∀ k, k < 777 → ((Int32.ofNat k)).toInt = ((o + k : Nat) : Int)) (Hj : ∀ k, k < 777 → ((Int32.ofNat k)).toInt = ((q + k : Nat) : Int)) (hnt : o + 777 ≤ nt) (hnw : q + 777 ≤ nw) (hwt : w ≠ t ∨ o ≤ q) : ∀ (j k n : Nat), k + j = 777 → zex E (n + 3 + 13 * j) d 294 2 [some (.ref a), some (.int (Int32.ofNat k))] [] (sh, zcpg v t w o q k, rest) = zex E n d 294 27 [some (.ref a), some (.int (Int32.ofNat 777))] [] (sh, zcpg v t w o q 777, rest)
  | 0, k, n, hk => by
    have hk : k = 777 := by omega
    subst hk
    exact zlbring_exit n
  | j + 1, k, n, hk => by
    have hk2 : k < 777 := by omega
    have hz := zlbring_loop (E := E) (d := d) (v := v) (rest := rest) ha h1 h2 h3 h4 Hi Hj hnt hnw hwt j (k + 1) n (by omega)
    have hs := zcpg_s v (k := k) hwt
    rw [← hz, show n + 3 + 13 * (j + 1) = n + 3 + 13 * j + 13 by omega, ← hs]
    exact zlbring_turn ha h1 h2 h3 h4 hk2 (Hi k hk2) (by omega) (Hj k hk2) (by omega) (n + 3 + 13 * j)

variable {x y : Int32}
set_option maxRecDepth 100000 in
theorem zf255_0 : zfetch 255 0 = some (.aload_n 0, 1, (0, 0, 0), 0, 0) := by decide +kernel
set_option maxRecDepth 100000 in
theorem zk255_0  (n : Nat) : zex E (n + 1) d 255 0 [some (.ref a), some (.int x), some (.int y)] [] (sh, v, rest) = zex E n d 255 1 [some (.ref a), some (.int x), some (.int y)] [.ref a] (sh, v, rest) := (zx1 zf255_0).trans (rfl)
set_option maxRecDepth 100000 in
theorem zf255_1 : zfetch 255 1 = some (.getfield 13, 3, (12, 1, 0), 0, 1618) := by decide +kernel
set_option maxRecDepth 100000 in
theorem zk255_1 (ha : zat sh a = some (.inr (.inl (12, sl)))) (h1 : zat sl 1 = some (some (some t))) (n : Nat) : zex E (n + 1) d 255 1 [some (.ref a), some (.int x), some (.int y)] [.ref a] (sh, v, rest) = zex E n d 255 4 [some (.ref a), some (.int x), some (.int y)] [.ref t] (sh, v, rest) := (zx1 zf255_1).trans (zget_r (K := fun s => zex E n d 255 4 [some (.ref a), some (.int x), some (.int y)] s (sh, v, rest)) (h := (sh, v, rest)) ha h1)
set_option maxRecDepth 100000 in
theorem zf255_4 : zfetch 255 4 = some (.sipush 1675, 3, (0, 0, 0), 1675, 0) := by decide +kernel
set_option maxRecDepth 100000 in
theorem zk255_4  (n : Nat) : zex E (n + 1) d 255 4 [some (.ref a), some (.int x), some (.int y)] [.ref t] (sh, v, rest) = zex E n d 255 7 [some (.ref a), some (.int x), some (.int y)] [.int 1675, .ref t] (sh, v, rest) := (zx1 zf255_4).trans (rfl)
set_option maxRecDepth 100000 in
theorem zf255_7 : zfetch 255 7 = some (.iconst 2, 1, (0, 0, 0), 2, 0) := by decide +kernel
set_option maxRecDepth 100000 in
theorem zk255_7  (n : Nat) : zex E (n + 1) d 255 7 [some (.ref a), some (.int x), some (.int y)] [.int 1675, .ref t] (sh, v, rest) = zex E n d 255 8 [some (.ref a), some (.int x), some (.int y)] [.int 2, .int 1675, .ref t] (sh, v, rest) := (zx1 zf255_7).trans (rfl)
set_option maxRecDepth 100000 in
theorem zf255_8 : zfetch 255 8 = some (.aload_n 0, 1, (0, 0, 0), 0, 0) := by decide +kernel
set_option maxRecDepth 100000 in
theorem zk255_8  (n : Nat) : zex E (n + 1) d 255 8 [some (.ref a), some (.int x), some (.int y)] [.int 2, .int 1675, .ref t] (sh, v, rest) = zex E n d 255 9 [some (.ref a), some (.int x), some (.int y)] [.ref a, .int 2, .int 1675, .ref t] (sh, v, rest) := (zx1 zf255_8).trans (rfl)
set_option maxRecDepth 100000 in
theorem zf255_9 : zfetch 255 9 = some (.getfield 198, 3, (12, 16, 0), 0, 1633) := by decide +kernel
set_option maxRecDepth 100000 in
theorem zk255_9 (ha : zat sh a = some (.inr (.inl (12, sl)))) (h16 : zat sl 16 = some none) (h8 : v a 16 = rho) (n : Nat) : zex E (n + 1) d 255 9 [some (.ref a), some (.int x), some (.int y)] [.ref a, .int 2, .int 1675, .ref t] (sh, v, rest) = zex E n d 255 12 [some (.ref a), some (.int x), some (.int y)] [.int rho, .int 2, .int 1675, .ref t] (sh, v, rest) := (zx1 zf255_9).trans ((zget_n (K := fun s => zex E n d 255 12 [some (.ref a), some (.int x), some (.int y)] s (sh, v, rest)) (h := (sh, v, rest)) ha h16).trans (by show zex E n d 255 12 _ (.int (v a 16) :: _) _ = _; rw [h8]))
set_option maxRecDepth 100000 in
theorem zf255_12 : zfetch 255 12 = some (.imul, 1, (0, 0, 0), 0, 0) := by decide +kernel
set_option maxRecDepth 100000 in
theorem zk255_12  (n : Nat) : zex E (n + 1) d 255 12 [some (.ref a), some (.int x), some (.int y)] [.int rho, .int 2, .int 1675, .ref t] (sh, v, rest) = zex E n d 255 13 [some (.ref a), some (.int x), some (.int y)] [.int (2 * rho), .int 1675, .ref t] (sh, v, rest) := (zx1 zf255_12).trans (rfl)
set_option maxRecDepth 100000 in
theorem zf255_13 : zfetch 255 13 = some (.iadd, 1, (0, 0, 0), 0, 0) := by decide +kernel
set_option maxRecDepth 100000 in
theorem zk255_13  (n : Nat) : zex E (n + 1) d 255 13 [some (.ref a), some (.int x), some (.int y)] [.int (2 * rho), .int 1675, .ref t] (sh, v, rest) = zex E n d 255 14 [some (.ref a), some (.int x), some (.int y)] [.int (1675 + (2 * rho)), .ref t] (sh, v, rest) := (zx1 zf255_13).trans (rfl)
set_option maxRecDepth 100000 in
theorem zf255_14 : zfetch 255 14 = some (.iload_n 1, 1, (0, 0, 0), 0, 0) := by decide +kernel
set_option maxRecDepth 100000 in
theorem zk255_14  (n : Nat) : zex E (n + 1) d 255 14 [some (.ref a), some (.int x), some (.int y)] [.int (1675 + (2 * rho)), .ref t] (sh, v, rest) = zex E n d 255 15 [some (.ref a), some (.int x), some (.int y)] [.int x, .int (1675 + (2 * rho)), .ref t] (sh, v, rest) := (zx1 zf255_14).trans (rfl)
set_option maxRecDepth 100000 in
theorem zf255_15 : zfetch 255 15 = some (.iastore, 1, (0, 0, 0), 0, 0) := by decide +kernel
set_option maxRecDepth 100000 in
theorem zk255_15 (h3 : zat sh t = some (.inl (0, nt, rt))) (hi : ((1675 + (2 * rho))).toInt = ((I : Nat) : Int)) (hI : I < nt) (n : Nat) : zex E (n + 1) d 255 15 [some (.ref a), some (.int x), some (.int y)] [.int x, .int (1675 + (2 * rho)), .ref t] (sh, v, rest) = zex E n d 255 16 [some (.ref a), some (.int x), some (.int y)] [] (sh, (zrow v t (upd (v t) I x)), rest) := (zx1 zf255_15).trans (zast_i (K := fun s h => zex E n d 255 16 [some (.ref a), some (.int x), some (.int y)] s h) (h := (sh, v, rest)) h3 hi hI)
set_option maxRecDepth 100000 in
theorem zf255_16 : zfetch 255 16 = some (.aload_n 0, 1, (0, 0, 0), 0, 0) := by decide +kernel
set_option maxRecDepth 100000 in
theorem zk255_16  (n : Nat) : zex E (n + 1) d 255 16 [some (.ref a), some (.int x), some (.int y)] [] (sh, (zrow v t (upd (v t) I x)), rest) = zex E n d 255 17 [some (.ref a), some (.int x), some (.int y)] [.ref a] (sh, (zrow v t (upd (v t) I x)), rest) := (zx1 zf255_16).trans (rfl)
set_option maxRecDepth 100000 in
theorem zf255_17 : zfetch 255 17 = some (.getfield 13, 3, (12, 1, 0), 0, 1618) := by decide +kernel
set_option maxRecDepth 100000 in
theorem zk255_17 (ha : zat sh a = some (.inr (.inl (12, sl)))) (h1 : zat sl 1 = some (some (some t))) (n : Nat) : zex E (n + 1) d 255 17 [some (.ref a), some (.int x), some (.int y)] [.ref a] (sh, (zrow v t (upd (v t) I x)), rest) = zex E n d 255 20 [some (.ref a), some (.int x), some (.int y)] [.ref t] (sh, (zrow v t (upd (v t) I x)), rest) := (zx1 zf255_17).trans (zget_r (K := fun s => zex E n d 255 20 [some (.ref a), some (.int x), some (.int y)] s (sh, (zrow v t (upd (v t) I x)), rest)) (h := (sh, (zrow v t (upd (v t) I x)), rest)) ha h1)
set_option maxRecDepth 100000 in
theorem zf255_20 : zfetch 255 20 = some (.sipush 1675, 3, (0, 0, 0), 1675, 0) := by decide +kernel
set_option maxRecDepth 100000 in
theorem zk255_20  (n : Nat) : zex E (n + 1) d 255 20 [some (.ref a), some (.int x), some (.int y)] [.ref t] (sh, (zrow v t (upd (v t) I x)), rest) = zex E n d 255 23 [some (.ref a), some (.int x), some (.int y)] [.int 1675, .ref t] (sh, (zrow v t (upd (v t) I x)), rest) := (zx1 zf255_20).trans (rfl)
set_option maxRecDepth 100000 in
theorem zf255_23 : zfetch 255 23 = some (.iconst 2, 1, (0, 0, 0), 2, 0) := by decide +kernel
set_option maxRecDepth 100000 in
theorem zk255_23  (n : Nat) : zex E (n + 1) d 255 23 [some (.ref a), some (.int x), some (.int y)] [.int 1675, .ref t] (sh, (zrow v t (upd (v t) I x)), rest) = zex E n d 255 24 [some (.ref a), some (.int x), some (.int y)] [.int 2, .int 1675, .ref t] (sh, (zrow v t (upd (v t) I x)), rest) := (zx1 zf255_23).trans (rfl)
set_option maxRecDepth 100000 in
theorem zf255_24 : zfetch 255 24 = some (.aload_n 0, 1, (0, 0, 0), 0, 0) := by decide +kernel
set_option maxRecDepth 100000 in
theorem zk255_24  (n : Nat) : zex E (n + 1) d 255 24 [some (.ref a), some (.int x), some (.int y)] [.int 2, .int 1675, .ref t] (sh, (zrow v t (upd (v t) I x)), rest) = zex E n d 255 25 [some (.ref a), some (.int x), some (.int y)] [.ref a, .int 2, .int 1675, .ref t] (sh, (zrow v t (upd (v t) I x)), rest) := (zx1 zf255_24).trans (rfl)
set_option maxRecDepth 100000 in
theorem zf255_25 : zfetch 255 25 = some (.getfield 198, 3, (12, 16, 0), 0, 1633) := by decide +kernel
set_option maxRecDepth 100000 in
theorem zk255_25 (ha : zat sh a = some (.inr (.inl (12, sl)))) (h16 : zat sl 16 = some none) (h8 : (zrow v t (upd (v t) I x)) a 16 = rho) (n : Nat) : zex E (n + 1) d 255 25 [some (.ref a), some (.int x), some (.int y)] [.ref a, .int 2, .int 1675, .ref t] (sh, (zrow v t (upd (v t) I x)), rest) = zex E n d 255 28 [some (.ref a), some (.int x), some (.int y)] [.int rho, .int 2, .int 1675, .ref t] (sh, (zrow v t (upd (v t) I x)), rest) := (zx1 zf255_25).trans ((zget_n (K := fun s => zex E n d 255 28 [some (.ref a), some (.int x), some (.int y)] s (sh, (zrow v t (upd (v t) I x)), rest)) (h := (sh, (zrow v t (upd (v t) I x)), rest)) ha h16).trans (by show zex E n d 255 28 _ (.int ((zrow v t (upd (v t) I x)) a 16) :: _) _ = _; rw [h8]))
set_option maxRecDepth 100000 in
theorem zf255_28 : zfetch 255 28 = some (.imul, 1, (0, 0, 0), 0, 0) := by decide +kernel
set_option maxRecDepth 100000 in
theorem zk255_28  (n : Nat) : zex E (n + 1) d 255 28 [some (.ref a), some (.int x), some (.int y)] [.int rho, .int 2, .int 1675, .ref t] (sh, (zrow v t (upd (v t) I x)), rest) = zex E n d 255 29 [some (.ref a), some (.int x), some (.int y)] [.int (2 * rho), .int 1675, .ref t] (sh, (zrow v t (upd (v t) I x)), rest) := (zx1 zf255_28).trans (rfl)
set_option maxRecDepth 100000 in
theorem zf255_29 : zfetch 255 29 = some (.iadd, 1, (0, 0, 0), 0, 0) := by decide +kernel
set_option maxRecDepth 100000 in
theorem zk255_29  (n : Nat) : zex E (n + 1) d 255 29 [some (.ref a), some (.int x), some (.int y)] [.int (2 * rho), .int 1675, .ref t] (sh, (zrow v t (upd (v t) I x)), rest) = zex E n d 255 30 [some (.ref a), some (.int x), some (.int y)] [.int (1675 + (2 * rho)), .ref t] (sh, (zrow v t (upd (v t) I x)), rest) := (zx1 zf255_29).trans (rfl)
set_option maxRecDepth 100000 in
theorem zf255_30 : zfetch 255 30 = some (.iconst 1, 1, (0, 0, 0), 1, 0) := by decide +kernel
set_option maxRecDepth 100000 in
theorem zk255_30  (n : Nat) : zex E (n + 1) d 255 30 [some (.ref a), some (.int x), some (.int y)] [.int (1675 + (2 * rho)), .ref t] (sh, (zrow v t (upd (v t) I x)), rest) = zex E n d 255 31 [some (.ref a), some (.int x), some (.int y)] [.int 1, .int (1675 + (2 * rho)), .ref t] (sh, (zrow v t (upd (v t) I x)), rest) := (zx1 zf255_30).trans (rfl)
set_option maxRecDepth 100000 in
theorem zf255_31 : zfetch 255 31 = some (.iadd, 1, (0, 0, 0), 0, 0) := by decide +kernel
set_option maxRecDepth 100000 in
theorem zk255_31  (n : Nat) : zex E (n + 1) d 255 31 [some (.ref a), some (.int x), some (.int y)] [.int 1, .int (1675 + (2 * rho)), .ref t] (sh, (zrow v t (upd (v t) I x)), rest) = zex E n d 255 32 [some (.ref a), some (.int x), some (.int y)] [.int ((1675 + (2 * rho)) + 1), .ref t] (sh, (zrow v t (upd (v t) I x)), rest) := (zx1 zf255_31).trans (rfl)
set_option maxRecDepth 100000 in
theorem zf255_32 : zfetch 255 32 = some (.iload_n 2, 1, (0, 0, 0), 0, 0) := by decide +kernel
set_option maxRecDepth 100000 in
theorem zk255_32  (n : Nat) : zex E (n + 1) d 255 32 [some (.ref a), some (.int x), some (.int y)] [.int ((1675 + (2 * rho)) + 1), .ref t] (sh, (zrow v t (upd (v t) I x)), rest) = zex E n d 255 33 [some (.ref a), some (.int x), some (.int y)] [.int y, .int ((1675 + (2 * rho)) + 1), .ref t] (sh, (zrow v t (upd (v t) I x)), rest) := (zx1 zf255_32).trans (rfl)
set_option maxRecDepth 100000 in
theorem zf255_33 : zfetch 255 33 = some (.iastore, 1, (0, 0, 0), 0, 0) := by decide +kernel
set_option maxRecDepth 100000 in
theorem zk255_33 (h3 : zat sh t = some (.inl (0, nt, rt))) (hi : (((1675 + (2 * rho)) + 1)).toInt = (((I + 1) : Nat) : Int)) (hI : (I + 1) < nt) (n : Nat) : zex E (n + 1) d 255 33 [some (.ref a), some (.int x), some (.int y)] [.int y, .int ((1675 + (2 * rho)) + 1), .ref t] (sh, (zrow v t (upd (v t) I x)), rest) = zex E n d 255 34 [some (.ref a), some (.int x), some (.int y)] [] (sh, (zrow (zrow v t (upd (v t) I x)) t (upd ((zrow v t (upd (v t) I x)) t) (I + 1) y)), rest) := (zx1 zf255_33).trans (zast_i (K := fun s h => zex E n d 255 34 [some (.ref a), some (.int x), some (.int y)] s h) (h := (sh, (zrow v t (upd (v t) I x)), rest)) h3 hi hI)
set_option maxRecDepth 100000 in
theorem zf255_34 : zfetch 255 34 = some (.aload_n 0, 1, (0, 0, 0), 0, 0) := by decide +kernel
set_option maxRecDepth 100000 in
theorem zk255_34  (n : Nat) : zex E (n + 1) d 255 34 [some (.ref a), some (.int x), some (.int y)] [] (sh, (zrow (zrow v t (upd (v t) I x)) t (upd ((zrow v t (upd (v t) I x)) t) (I + 1) y)), rest) = zex E n d 255 35 [some (.ref a), some (.int x), some (.int y)] [.ref a] (sh, (zrow (zrow v t (upd (v t) I x)) t (upd ((zrow v t (upd (v t) I x)) t) (I + 1) y)), rest) := (zx1 zf255_34).trans (rfl)
set_option maxRecDepth 100000 in
theorem zf255_35 : zfetch 255 35 = some (.dup, 1, (0, 0, 0), 0, 0) := by decide +kernel
set_option maxRecDepth 100000 in
theorem zk255_35  (n : Nat) : zex E (n + 1) d 255 35 [some (.ref a), some (.int x), some (.int y)] [.ref a] (sh, (zrow (zrow v t (upd (v t) I x)) t (upd ((zrow v t (upd (v t) I x)) t) (I + 1) y)), rest) = zex E n d 255 36 [some (.ref a), some (.int x), some (.int y)] [.ref a, .ref a] (sh, (zrow (zrow v t (upd (v t) I x)) t (upd ((zrow v t (upd (v t) I x)) t) (I + 1) y)), rest) := (zx1 zf255_35).trans (rfl)
set_option maxRecDepth 100000 in
theorem zf255_36 : zfetch 255 36 = some (.getfield 198, 3, (12, 16, 0), 0, 1633) := by decide +kernel
set_option maxRecDepth 100000 in
theorem zk255_36 (ha : zat sh a = some (.inr (.inl (12, sl)))) (h16 : zat sl 16 = some none) (h8 : (zrow (zrow v t (upd (v t) I x)) t (upd ((zrow v t (upd (v t) I x)) t) (I + 1) y)) a 16 = rho) (n : Nat) : zex E (n + 1) d 255 36 [some (.ref a), some (.int x), some (.int y)] [.ref a, .ref a] (sh, (zrow (zrow v t (upd (v t) I x)) t (upd ((zrow v t (upd (v t) I x)) t) (I + 1) y)), rest) = zex E n d 255 39 [some (.ref a), some (.int x), some (.int y)] [.int rho, .ref a] (sh, (zrow (zrow v t (upd (v t) I x)) t (upd ((zrow v t (upd (v t) I x)) t) (I + 1) y)), rest) := (zx1 zf255_36).trans ((zget_n (K := fun s => zex E n d 255 39 [some (.ref a), some (.int x), some (.int y)] s (sh, (zrow (zrow v t (upd (v t) I x)) t (upd ((zrow v t (upd (v t) I x)) t) (I + 1) y)), rest)) (h := (sh, (zrow (zrow v t (upd (v t) I x)) t (upd ((zrow v t (upd (v t) I x)) t) (I + 1) y)), rest)) ha h16).trans (by show zex E n d 255 39 _ (.int ((zrow (zrow v t (upd (v t) I x)) t (upd ((zrow v t (upd (v t) I x)) t) (I + 1) y)) a 16) :: _) _ = _; rw [h8]))
set_option maxRecDepth 100000 in
theorem zf255_39 : zfetch 255 39 = some (.iconst 1, 1, (0, 0, 0), 1, 0) := by decide +kernel
set_option maxRecDepth 100000 in
theorem zk255_39  (n : Nat) : zex E (n + 1) d 255 39 [some (.ref a), some (.int x), some (.int y)] [.int rho, .ref a] (sh, (zrow (zrow v t (upd (v t) I x)) t (upd ((zrow v t (upd (v t) I x)) t) (I + 1) y)), rest) = zex E n d 255 40 [some (.ref a), some (.int x), some (.int y)] [.int 1, .int rho, .ref a] (sh, (zrow (zrow v t (upd (v t) I x)) t (upd ((zrow v t (upd (v t) I x)) t) (I + 1) y)), rest) := (zx1 zf255_39).trans (rfl)
set_option maxRecDepth 100000 in
theorem zf255_40 : zfetch 255 40 = some (.iadd, 1, (0, 0, 0), 0, 0) := by decide +kernel
set_option maxRecDepth 100000 in
theorem zk255_40  (n : Nat) : zex E (n + 1) d 255 40 [some (.ref a), some (.int x), some (.int y)] [.int 1, .int rho, .ref a] (sh, (zrow (zrow v t (upd (v t) I x)) t (upd ((zrow v t (upd (v t) I x)) t) (I + 1) y)), rest) = zex E n d 255 41 [some (.ref a), some (.int x), some (.int y)] [.int (rho + 1), .ref a] (sh, (zrow (zrow v t (upd (v t) I x)) t (upd ((zrow v t (upd (v t) I x)) t) (I + 1) y)), rest) := (zx1 zf255_40).trans (rfl)
set_option maxRecDepth 100000 in
theorem zf255_41 : zfetch 255 41 = some (.putfield 198, 3, (12, 16, 0), 0, 1633) := by decide +kernel
set_option maxRecDepth 100000 in
theorem zk255_41 (ha : zat sh a = some (.inr (.inl (12, sl)))) (h16 : zat sl 16 = some none) (n : Nat) : zex E (n + 1) d 255 41 [some (.ref a), some (.int x), some (.int y)] [.int (rho + 1), .ref a] (sh, (zrow (zrow v t (upd (v t) I x)) t (upd ((zrow v t (upd (v t) I x)) t) (I + 1) y)), rest) = zex E n d 255 44 [some (.ref a), some (.int x), some (.int y)] [] (sh, (zrow (zrow (zrow v t (upd (v t) I x)) t (upd ((zrow v t (upd (v t) I x)) t) (I + 1) y)) a (upd ((zrow (zrow v t (upd (v t) I x)) t (upd ((zrow v t (upd (v t) I x)) t) (I + 1) y)) a) 16 (rho + 1))), rest) := (zx1 zf255_41).trans ((by show zput (fun s h => zex E n d 255 44 [some (.ref a), some (.int x), some (.int y)] s h) (sh, (zrow (zrow v t (upd (v t) I x)) t (upd ((zrow v t (upd (v t) I x)) t) (I + 1) y)), rest) 12 16 0 [.int (rho + 1), .ref a] = _; unfold zput; simp only; rw [ha]; simp only; rw [Nat.beq_refl, cond_true, h16]; rfl))
set_option maxRecDepth 100000 in
theorem zf255_44 : zfetch 255 44 = some (.return_, 1, (0, 0, 0), 0, 0) := by decide +kernel
set_option maxRecDepth 100000 in
theorem zemit_all (ha : zat sh a = some (.inr (.inl (12, sl)))) (h1 : zat sl 1 = some (some (some t))) (h16 : zat sl 16 = some none) (h3 : zat sh t = some (.inl (0, nt, rt))) (hat : a ≠ t) (h8 : v a 16 = rho) (hi0 : (1675 + (2 * rho)).toInt = ((I : Nat) : Int)) (hI0 : I < nt) (hi1 : ((1675 + (2 * rho)) + 1).toInt = ((I + 1 : Nat) : Int)) (hI1 : I + 1 < nt) (n : Nat) : zex E (n + 29) d 255 0 [some (.ref a), some (.int x), some (.int y)] [] (sh, v, rest) = some (.inl none, (sh, (zrow (zrow (zrow v t (upd (v t) I x)) t (upd ((zrow v t (upd (v t) I x)) t) (I + 1) y)) a (upd ((zrow (zrow v t (upd (v t) I x)) t (upd ((zrow v t (upd (v t) I x)) t) (I + 1) y)) a) 16 (rho + 1))), rest)) := (zk255_0  (n + 28)).trans ((zk255_1 ha h1 (n + 27)).trans ((zk255_4  (n + 26)).trans ((zk255_7  (n + 25)).trans ((zk255_8  (n + 24)).trans ((zk255_9 ha h16 h8 (n + 23)).trans ((zk255_12  (n + 22)).trans ((zk255_13  (n + 21)).trans ((zk255_14  (n + 20)).trans ((zk255_15 h3 hi0 hI0 (n + 19)).trans ((zk255_16  (n + 18)).trans ((zk255_17 ha h1 (n + 17)).trans ((zk255_20  (n + 16)).trans ((zk255_23  (n + 15)).trans ((zk255_24  (n + 14)).trans ((zk255_25 ha h16 (by rw [zrow_ne _ _ hat]; exact h8) (n + 13)).trans ((zk255_28  (n + 12)).trans ((zk255_29  (n + 11)).trans ((zk255_30  (n + 10)).trans ((zk255_31  (n + 9)).trans ((zk255_32  (n + 8)).trans ((zk255_33 h3 hi1 hI1 (n + 7)).trans ((zk255_34  (n + 6)).trans ((zk255_35  (n + 5)).trans ((zk255_36 ha h16 (by rw [zrow_ne _ _ hat, zrow_ne _ _ hat]; exact h8) (n + 4)).trans ((zk255_39  (n + 3)).trans ((zk255_40  (n + 2)).trans ((zk255_41 ha h16 (n + 1)).trans ((zx1 zf255_44).trans rfl))))))))))))))))))))))))))))

end ZCP2