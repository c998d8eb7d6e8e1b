/-! the class's atom and condition -/
def atP (E : zE) (B H : Nat) (h0 : zH) (L n : Nat) : Prop := ∀ (dp s : Nat) (xd : Int32) (h : zH), xd.toInt = (dp : Int) → dp ≤ 6 → s ≤ L → sk isBl (tp2 h0) L s = s → 2 * (L - s) + 1 ≤ n → bRQ ctb wC h0 0 0 h → CT h (tp2 h0) L s →
  ∀ d f, 62 + 3 * (6 - dp) ≤ d → B + H * (n + 1) ≤ f → cvQ h0 L (pq (tp2 h0) L n false dp s) (zex E f d 161 0 [some (.ref 76), some (.ref 1), some (.int xd), none, none] [] h)
def clP (E : zE) (B H : Nat) (h0 : zH) (L n : Nat) : Prop := ∀ (dp s i : Nat) (xd x3 x4 x5 : Int32) (h : zH), xd.toInt = (dp : Int) → dp ≤ 6 → 0 ≤ x3.toInt ∧ x3.toInt ≤ 1 → 0 ≤ x4.toInt ∧ x4.toInt ≤ 1 → x5.toInt = (i : Int) → i ≤ s → s ≤ L → sk isBl (tp2 h0) L s = s → 2 * (L - s) + 2 ≤ n → bRQ ctb wC h0 0 0 h → CT h (tp2 h0) L s →
  ∀ d f, 63 + 3 * (6 - dp) ≤ d → B + H * (n + 1) ≤ f → cvQ h0 L (pq (tp2 h0) L n true dp s) (zex E f d 160 8 [some (.ref 76), some (.ref 1), some (.int xd), some (.int x3), some (.int x4), some (.int x5)] [] h)
section QB
variable {E : zE} {B F G H : Nat} {h0 : zH} {L : Nat}
set_option maxRecDepth 100000 in
theorem i32_add {x y : Int32} (h1 : -2147483648 ≤ x.toInt + y.toInt) (h2 : x.toInt + y.toInt < 2147483648) : (x + y).toInt = x.toInt + y.toInt := by
  rw [Int32.toInt_add, bbm (by omega) (by omega)]
set_option maxRecDepth 100000 in
theorem q_6 {V : List Int} {a b c g : Int} {fa fb fc : bI} (ha : zat V 5 = some a) {xd x3 x4 x5 : Int32} (hx : xd.toInt = a) (hb : brel V fa b) (hc : brel V fb c) (hg : brel V fc g) (h3 : x3.toInt = b) (h4 : x4.toInt = c) (h5 : x5.toInt = g) : bLR V (qA6 (some (.inl fa)) (some (.inl fb)) (some (.inl fc))) [some (.ref 76), some (.ref 1), some (.int xd), some (.int x3), some (.int x4), some (.int x5)] :=
  ⟨⟨_, rfl, rfl⟩, ⟨_, rfl, rfl⟩, ⟨_, rfl, xd, rfl, by rw [hx]; exact brel_v ha⟩, ⟨_, rfl, x3, rfl, by rw [h3]; exact hb⟩, ⟨_, rfl, x4, rfl, by rw [h4]; exact hc⟩, ⟨_, rfl, x5, rfl, by rw [h5]; exact hg⟩, trivial⟩
set_option maxRecDepth 100000 in
theorem q_6n {V : List Int} {a : Int} (ha : zat V 5 = some a) {xd : Int32} (hx : xd.toInt = a) {u3 u4 u5 : Option Value} : bLR V (qA6 none none none) [some (.ref 76), some (.ref 1), some (.int xd), u3, u4, u5] := ⟨⟨_, rfl, rfl⟩, ⟨_, rfl, rfl⟩, ⟨_, rfl, xd, rfl, by rw [hx]; exact brel_v ha⟩, trivial, trivial, trivial, trivial⟩
set_option maxRecDepth 100000 in
theorem q_6s {V : List Int} {a b c g : Int} {fa fb fc : bI} (ha : zat V 5 = some a) (hb : brel V fa b) (hc : brel V fb c) (hg : brel V fc g) {ls : zLs} (h : bLR V (qA6 (some (.inl fa)) (some (.inl fb)) (some (.inl fc))) ls) : ∃ xd x3 x4 x5 : Int32, ls = [some (.ref 76), some (.ref 1), some (.int xd), some (.int x3), some (.int x4), some (.int x5)] ∧ xd.toInt = a ∧ x3.toInt = b ∧ x4.toInt = c ∧ x5.toInt = g := by
  obtain ⟨l1, e1, k1⟩ := bls_r h
  obtain ⟨l2, e2, k2⟩ := bls_r k1
  obtain ⟨x2, l3, e3, g3, k3⟩ := bls_i k2
  obtain ⟨x3, l4, e4, g4, k4⟩ := bls_i k3
  obtain ⟨x4, l5, e5, g5, k5⟩ := bls_i k4
  obtain ⟨x5, l6, e6, g6, k6⟩ := bls_i k5
  exact ⟨x2, x3, x4, x5, by rw [e1, e2, e3, e4, e5, e6, bls_0 k6], brel_f g3 (brel_v ha), brel_f g4 hb, brel_f g5 hc, brel_f g6 hg⟩
set_option maxRecDepth 100000 in
theorem q_5 {V : List Int} {a : Int} (ha : zat V 5 = some a) {xd : Int32} (hx : xd.toInt = a) {u3 u4 : Option Value} : bLR V (qA5 none) [some (.ref 76), some (.ref 1), some (.int xd), u3, u4] := ⟨⟨_, rfl, rfl⟩, ⟨_, rfl, rfl⟩, ⟨_, rfl, xd, rfl, by rw [hx]; exact brel_v ha⟩, trivial, trivial, trivial⟩
set_option maxRecDepth 100000 in
theorem q_5s {V : List Int} {a : Int} (ha : zat V 5 = some a) {ls : zLs} (h : bLR V (qA5 none) ls) : ∃ (x : Int32) (u3 u4 : Option Value), ls = [some (.ref 76), some (.ref 1), some (.int x), u3, u4] ∧ x.toInt = a := by
  obtain ⟨l1, e1, k1⟩ := bls_r h
  obtain ⟨l2, e2, k2⟩ := bls_r k1
  obtain ⟨x2, l3, e3, g3, k3⟩ := bls_i k2
  obtain ⟨u3, l4, e4, k4⟩ := bls_n k3
  obtain ⟨u4, l5, e5, k5⟩ := bls_n k4
  exact ⟨x2, u3, u4, by rw [e1, e2, e3, e4, e5, bls_0 k5], brel_f g3 (brel_v ha)⟩
set_option maxRecDepth 100000 in
theorem q_5c {V : List Int} {a c : Int} (ha : zat V 5 = some a) {ls : zLs} (h : bLR V (qA5 (kcc c)) ls) : ∃ (x y : Int32) (u4 : Option Value), ls = [some (.ref 76), some (.ref 1), some (.int x), some (.int y), u4] ∧ x.toInt = a ∧ y.toInt = c := by
  obtain ⟨l1, e1, k1⟩ := bls_r h
  obtain ⟨l2, e2, k2⟩ := bls_r k1
  obtain ⟨x2, l3, e3, g3, k3⟩ := bls_i k2
  obtain ⟨x3, l4, e4, g4, k4⟩ := bls_i k3
  obtain ⟨u4, l5, e5, k5⟩ := bls_n k4
  exact ⟨x2, x3, u4, by rw [e1, e2, e3, e4, e5, bls_0 k5], brel_f g3 (brel_v ha), brel_k g4⟩
set_option maxRecDepth 100000 in
theorem cn_of (hE : E.1 < 2147483648) (hsm : bSO E ctb B (60, smT)) (hF : 1000000 ≤ F) (hL4 : L ≤ 400) {n : Nat} (hcl : clP E B H h0 L n) {dp s : Nat} {xd : Int32} {h : zH} (hx : xd.toInt = (dp : Int)) (hdp : dp ≤ 6) (hs : s ≤ L) (hc : sk isBl (tp2 h0) L s = s) (hn : 2 * (L - s) + 2 ≤ n) (hr : bRQ ctb wC h0 0 0 h) (ht : CT h (tp2 h0) L s) :
    ∀ d f, 63 + 3 * (6 - dp) ≤ d → B + H * (n + 1) + F ≤ f → cvQ h0 L (pq (tp2 h0) L n true dp s) (zex E f d 160 0 [some (.ref 76), some (.ref 1), some (.int xd), none, none, none] [] h) := by
  intro d f hd hf
  have hj := pc_0 (1 + 3 * (6 - dp)) (by omega)
  rw [afo_eq] at hj
  refine q_one hE hsm hr ht (q_env (ey := kY) (ea := (0, 6)) (eb := q01) (ec := q01) (eg := kI) (ek := qk3) (y := 0) (a := (dp : Int)) (b := 0) (c := 0) (g := 0) hL4 hs hc ⟨by decide, by decide⟩ (q_i (by omega) (by omega)) ⟨by decide, by decide⟩ ⟨by decide, by decide⟩ ⟨by decide, by decide⟩ (q_k3 s)) bcs_n (k_ov ht) (q_6n rfl hx) (ak := []) (st := []) trivial hj rfl (B' := B + H * (n + 1)) (Nat.le_add_right _ _) (fun ls' h' j1 j2 j3 d' f' hd' hf' => ?_) d f (by omega) (by omega)
  obtain ⟨z2, z3, z4, z5, e1, e2, e3, e4, e5⟩ := q_6s (a := (dp : Int)) (b := 0) (c := 0) (g := 0) rfl (brel_c _ 0) (brel_c _ 0) (brel_c _ 0) j1
  rw [e1]
  exact hcl dp s 0 z2 z3 z4 z5 h' e2 hdp (by omega) (by omega) (by omega) (Nat.zero_le _) hs hc hn j2 j3 d' f' (by omega) hf'
set_option maxRecDepth 100000 in
theorem at_35 (hE : E.1 < 2147483648) (hsm : bSO E ctb B (60, smT)) (hb9 : ∀ i, 0 ≤ tp2 h0 i ∧ tp2 h0 i ≤ 255) (hF : 1000000 ≤ F) (hL4 : L ≤ 400) {n : Nat} (hat : atP E B H h0 L n) (hcl : clP E B H h0 L n) {dp s : Nat} (hs : s ≤ L) (hc : sk isBl (tp2 h0) L s = s) (hn : 2 * (L - s) + 1 ≤ n + 1) : dp ≤ 5 → kK (tp2 h0) L s ≠ 0 → ∀ (nt : Bool) (ls' : zLs) (h2 : zH), (∃ (z y : Int32) (u4 : Option Value), ls' = [some (.ref 76), some (.ref 1), some (.int z), some (.int y), u4] ∧ z.toInt = (dp : Int) ∧ y.toInt = (if nt = true then 1 else 0)) → bRQ ctb wC h0 0 0 h2 → CT h2 (tp2 h0) L s → ∀ d f, 62 + 3 * (6 - dp) ≤ d → B + H * (n + 1) + F * 2000 ≤ f → cvQ h0 L (if nt = true then pq (tp2 h0) L n false (dp + 1) (nxt (tp2 h0) L s) else brq (tp2 h0) L (pq (tp2 h0) L n true (dp + 1) (nxt (tp2 h0) L s))) (zex E f d 161 35 ls' [] h2) := by
  intro h5 hk nt ls' h2 hls j2 j3 d f hd hf
  obtain ⟨z, y, u4, z1, z2, z3⟩ := hls
  have hlt := q_lt hk
  obtain ⟨g1, g2, g3⟩ := gd_n hs hc hk
  obtain ⟨d', hd'⟩ : ∃ d', d = d' + 1 := ⟨d - 1, by omega⟩
  subst hd'
  have hz : (z + 1).toInt = ((dp + 1 : Nat) : Int) := by
    have h19 : (1 : Int32).toInt = 1 := rfl
    rw [i32_add (by rw [z2, h19]; omega) (by rw [z2, h19]; omega), z2, h19]
    omega
  cases nt with
  | true =>
    rw [if_pos rfl]
    rw [if_pos rfl] at z3
    obtain ⟨m, hm⟩ : ∃ m, f = m + 12 := ⟨f - 12, by omega⟩
    obtain ⟨h3, t1, t2, t3⟩ := cadv hE hsm hb9 hF hL4 hs hc j2 j3 d' (m + 10) (by omega) (by omega)
    obtain ⟨d2, hd2⟩ : ∃ d2, d' = d2 + 1 := ⟨d' - 1, by omega⟩
    subst hd2
    have hq := hat (dp + 1) (nxt (tp2 h0) L s) (z + 1) h3 hz (by omega) g2 g3 (by omega) t2 t3 d2 (m - 2) (by omega) (by omega)
    have hneg := q_neg hE hsm hF hL4 t2 (fun e he => (pq_g n false (dp + 1) _ e g2 g3 he).2) hz (by omega) (d := d2) (m := m - 2) (by omega) (by omega) hq
    rw [show m - 2 + 4 = m + 2 by omega] at hneg
    obtain ⟨x9, h9, n1, n2, n3⟩ := hneg
    refine ⟨x9, h9, ?_, n2, n3⟩
    rw [hm, z1, i32_1 z3]
    exact ca_35n (q_ha j2) (q_hb t2) (cv_01 n3) t1 n1
  | false =>
    rw [if_neg (by decide)]
    rw [if_neg (by decide)] at z3
    obtain ⟨m, hm⟩ : ∃ m, f = m + 11 := ⟨f - 11, by omega⟩
    obtain ⟨h3, t1, t2, t3⟩ := cadv hE hsm hb9 hF hL4 hs hc j2 j3 d' (m + 9) (by omega) (by omega)
    obtain ⟨d2, hd2⟩ : ∃ d2, d' = d2 + 1 := ⟨d' - 1, by omega⟩
    subst hd2
    have hq := cn_of hE hsm hF hL4 hcl hz (by omega) g2 g3 (by omega) t2 t3 d2 (m - 3) (by omega) (by omega)
    have hbr := q_brk hE hsm hb9 hF hL4 t2 (fun e he => (pq_g n true (dp + 1) _ e g2 g3 he).2) hz (by omega) (d := d2) (m := m - 3) (by omega) (by omega) hq
    rw [show m - 3 + 4 = m + 1 by omega] at hbr
    obtain ⟨x9, h9, n1, n2, n3⟩ := hbr
    refine ⟨x9, h9, ?_, n2, n3⟩
    rw [hm, z1, i32_0 z3]
    exact ca_35b (q_ha j2) (q_hb t2) (cv_01 n3) t1 n1
set_option maxRecDepth 100000 in
theorem at_63 (hE : E.1 < 2147483648) (hsm : bSO E ctb B (60, smT)) (hb9 : ∀ i, 0 ≤ tp2 h0 i ∧ tp2 h0 i ≤ 255) (hF : 1000000 ≤ F) (hG : F * 2000 ≤ G) (hL4 : L ≤ 400) {dp s : Nat} (hdp : dp ≤ 6) (hs : s ≤ L) (hc : sk isBl (tp2 h0) L s = s) : ∀ (ls' : zLs) (h2 : zH), (∃ (z : Int32) (u3 u4 : Option Value), ls' = [some (.ref 76), some (.ref 1), some (.int z), u3, u4] ∧ z.toInt = (dp : Int)) → bRQ ctb wC h0 0 0 h2 → CT h2 (tp2 h0) L s → ∀ d f, 62 ≤ d → B + G * 403 + F * 5000 ≤ f → cvQ h0 L (if (uSorts.any (wqs (tp2 h0) L s) || wqs (tp2 h0) L s uWet) = true then .inl (nxt (tp2 h0) L s) else cmpq (tp2 h0) L 401 s) (zex E f d 161 63 ls' [] h2) := by
  have ha6 : ((0, 6) : Int × Int).1 ≤ (dp : Int) ∧ (dp : Int) ≤ ((0, 6) : Int × Int).2 := q_i (by omega) (by omega)
  intro ls' h2 hls j2 j3 d f hd hf
  obtain ⟨z, u3, u4, z1, z2⟩ := hls
  obtain ⟨m, hm⟩ : ∃ m, f = m + 3 := ⟨f - 3, by omega⟩
  obtain ⟨d', hd'⟩ : ∃ d', d = d' + 1 := ⟨d - 1, by omega⟩
  subst hd'
  obtain ⟨x, h3, y1, y2, y3, y4, y5⟩ := q_wam hE hsm hb9 hF hL4 hs hc j2 j3 (w := 7) (ws := uSorts) (by decide) waw_7 (by decide) d' m (by omega) (by omega)
  rw [hm, z1, ca_63 (q_ha j2) y5]
  by_cases hso : uSorts.any (wqs (tp2 h0) L s) = true
  · rw [hso, Bool.true_or, if_pos rfl]
    obtain ⟨x1, x2⟩ := y1 hso
    have x2 : x.toInt < 5 := x2
    refine q_one hE hsm y3 y4 (q_env (ey := kY) (ea := (0, 6)) (eb := (0, 4)) (ec := qz) (eg := qz) (ek := qk3) (y := 0) (a := (dp : Int)) (b := x.toInt) (c := 0) (g := 0) hL4 hs hc ⟨by decide, by decide⟩ ha6 (q_i (by omega) (by omega)) q_0 q_0 (q_k3 s)) bcs_n (k_ov y4) (q_5 rfl z2) (show bKR _ [.inl (mv 6)] [.int x] from ⟨⟨x, rfl, brel_v rfl⟩, trivial⟩) pa_69a rfl (B' := B + F * 1000) (by omega) (fun ls3 h4 i1 i2 i3 d2 f2 hd2 hf2 => ?_) (d' + 1) m (by omega) (by omega)
    obtain ⟨v, v3, v4, v1, v2⟩ := q_5s (a := (dp : Int)) rfl i1
    obtain ⟨k, hk⟩ : ∃ k, f2 = k + 4 := ⟨f2 - 4, by omega⟩
    obtain ⟨d3, hd3⟩ : ∃ d3, d2 = d3 + 1 := ⟨d2 - 1, by omega⟩
    subst hd3
    obtain ⟨h5, t1, t2, t3⟩ := cadv hE hsm hb9 hF hL4 hs hc i2 i3 d3 (k + 2) (by omega) (by omega)
    rw [hk, v1, ca_90 (q_ha i2) t1]
    exact ⟨1, h5, rfl, t2, rfl, t3⟩
  · have hso := bFls hso
    rw [hso, Bool.false_or]
    refine q_one hE hsm y3 y4 (q_env (ey := kY) (ea := (0, 6)) (eb := qz) (ec := qz) (eg := qz) (ek := qk3) (y := 0) (a := (dp : Int)) (b := 0) (c := 0) (g := 0) hL4 hs hc ⟨by decide, by decide⟩ ha6 q_0 q_0 q_0 (q_k3 s)) bcs_n (k_ov y4) (q_5 rfl z2) (q_c (y2 hso)) pa_69b rfl (B' := B + G * 403 + F * 3000) (by omega) (fun ls3 h4 i1 i2 i3 d2 f2 hd2 hf2 => ?_) (d' + 1) m (by omega) (by omega)
    obtain ⟨v, v3, v4, v1, v2⟩ := q_5s (a := (dp : Int)) rfl i1
    obtain ⟨k, hk⟩ : ∃ k, f2 = k + 3 := ⟨f2 - 3, by omega⟩
    obtain ⟨d3, hd3⟩ : ∃ d3, d2 = d3 + 1 := ⟨d2 - 1, by omega⟩
    subst hd3
    obtain ⟨x6, h6, a1, a2, a3, a4⟩ := q_isw hE hsm hb9 hF hL4 hs hc i2 i3 (w := 8) (u := uWet) (by decide) waw_8 (by decide) d3 k (by omega) (by omega)
    rw [hk, v1, ca_96 (q_ha i2) a4]
    by_cases hwt : wqs (tp2 h0) L s uWet = true
    · rw [if_pos hwt] at a1 ⊢
      subst a1
      refine q_one hE hsm a2 a3 (q_env (ey := kY) (ea := (0, 6)) (eb := qz) (ec := qz) (eg := qz) (ek := qk3) (y := 0) (a := (dp : Int)) (b := 0) (c := 0) (g := 0) hL4 hs hc ⟨by decide, by decide⟩ ha6 q_0 q_0 q_0 (q_k3 s)) bcs_n (k_ov a3) (q_5 rfl v2) (q_c (c := 1) rfl) pa_102 rfl (B' := B + F * 1000) (by omega) (fun ls4 h7 i4 i5 i6 d4 f4 hd4 hf4 => ?_) (d3 + 1) k (by omega) (by omega)
      obtain ⟨t, t3, t4, t1, t2⟩ := q_5s (a := (dp : Int)) rfl i4
      obtain ⟨k2, hk2⟩ : ∃ k, f4 = k + 4 := ⟨f4 - 4, by omega⟩
      obtain ⟨d5, hd5⟩ : ∃ d5, d4 = d5 + 1 := ⟨d4 - 1, by omega⟩
      subst hd5
      obtain ⟨h8, b1, b2, b3⟩ := cadv hE hsm hb9 hF hL4 hs hc i5 i6 d5 (k2 + 2) (by omega) (by omega)
      rw [hk2, t1, ca_115 (q_ha i5) b1]
      exact ⟨1, h8, rfl, b2, rfl, b3⟩
    · rw [if_neg hwt] at a1 ⊢
      subst a1
      obtain ⟨k2, hk2⟩ : ∃ k2, k = k2 + 5 := ⟨k - 5, by omega⟩
      obtain ⟨x9, h9, c1, c2⟩ := comparison hE hsm hb9 hF hG hL4 hs hc a2 a3 d3 (k2 + 1) (by omega) (by omega)
      exact ⟨x9, h9, by rw [hk2]; exact ca_102 (q_hb a2) (cv_01 c2.2) c1, c2⟩
set_option maxRecDepth 100000 in
theorem at_s (hE : E.1 < 2147483648) (hsm : bSO E ctb B (60, smT)) (hb9 : ∀ i, 0 ≤ tp2 h0 i ∧ tp2 h0 i ≤ 255) (hF : 1000000 ≤ F) (hG : F * 2000 ≤ G) (hH : F * 9000 + G * 403 ≤ H) (hL4 : L ≤ 400) {n : Nat} (hat : atP E B H h0 L n) (hcl : clP E B H h0 L n) : atP E B H h0 L (n + 1) := by
  intro dp s xd h hx hdp hs hc hn hr ht d f hd hf
  have hmul : H * (n + 1 + 1) = H * (n + 1) + H := Nat.mul_succ H (n + 1)
  have ha6 : ((0, 6) : Int × Int).1 ≤ (dp : Int) ∧ (dp : Int) ≤ ((0, 6) : Int × Int).2 := q_i (by omega) (by omega)
  have hy9 := hb9 s
  obtain ⟨m, hm⟩ : ∃ m, f = m + 3 := ⟨f - 3, by omega⟩
  obtain ⟨d', hd'⟩ : ∃ d', d = d' + 1 := ⟨d - 1, by omega⟩
  subst hd'
  obtain ⟨x, h1, w1, w2, w3, w4⟩ := q_isw hE hsm hb9 hF hL4 hs hc hr ht (w := 6) (u := uNot) (by decide) waw_6 (by decide) d' m (by omega) (by omega)
  rw [hm, ca_0 (q_ha hr) w4, pq_f]
  have deeper := at_35 (dp := dp) hE hsm hb9 hF hL4 hat hcl hs hc hn
  by_cases hq1 : wqs (tp2 h0) L s uNot = true
  · rw [if_pos hq1] at w1 ⊢
    subst w1
    by_cases h6 : 6 ≤ dp
    · rw [if_pos h6]
      exact q_fin0 hE hsm w2 w3 (q_env (ey := kY) (ea := (6, 6)) (eb := qz) (ec := qz) (eg := qz) (ek := qk3) (y := 0) (a := (dp : Int)) (b := 0) (c := 0) (g := 0) hL4 hs hc ⟨by decide, by decide⟩ (q_i (by omega) (by omega)) q_0 q_0 q_0 (q_k3 s)) bcs_n (k_ov w3) (q_5 rfl hx) (q_c (c := 1) rfl) pa_6b (d' + 1) m (by omega) (by omega)
    · rw [if_neg h6]
      have hj := pa_6a (3 * (6 - dp)) (by omega)
      rw [afo_eq] at hj
      refine q_one hE hsm w2 w3 (q_env (ey := kY) (ea := (0, 5)) (eb := qz) (ec := qz) (eg := qz) (ek := qk3) (y := 0) (a := (dp : Int)) (b := 0) (c := 0) (g := 0) hL4 hs hc ⟨by decide, by decide⟩ (q_i (by omega) (by omega)) q_0 q_0 q_0 (q_k3 s)) bcs_n (k_ov w3) (q_5 rfl hx) (q_c (c := 1) rfl) hj rfl (B' := B + H * (n + 1) + F * 2000) (by omega) (fun ls' h2 j1 j2 j3 d2 f2 hd2 hf2 => ?_) (d' + 1) m (by omega) (by omega)
      exact deeper (by omega) (wqs_K hq1) true ls' h2 (q_5c (a := (dp : Int)) rfl j1) j2 j3 d2 f2 (by omega) hf2
  · rw [if_neg hq1] at w1 ⊢
    subst w1
    by_cases hq2 : sqs (tp2 h0) L s 40 = true
    · rw [if_pos hq2]
      obtain ⟨s1, s2⟩ := sqs_K3.mp hq2
      by_cases h6 : 6 ≤ dp
      · rw [if_pos h6]
        exact q_fin0 hE hsm w2 w3 (q_env (ey := (40, 40)) (ea := (6, 6)) (eb := qz) (ec := qz) (eg := qz) (ek := (3, 3)) (y := tp2 h0 s) (a := (dp : Int)) (b := 0) (c := 0) (g := 0) hL4 hs hc (q_i (by omega) (by omega)) (q_i (by omega) (by omega)) q_0 q_0 q_0 (q_i (by omega) (by omega))) (bcs_lt (q_lt (h0 := h0) (by omega))) (bov_app (k_ov w3) (k_ob w2)) (q_5 rfl hx) (q_c (c := 0) rfl) pa_6d (d' + 1) m (by omega) (by omega)
      · rw [if_neg h6]
        have hj := pa_6c (3 * (6 - dp)) (by omega)
        rw [afo_eq] at hj
        refine q_one hE hsm w2 w3 (q_env (ey := (40, 40)) (ea := (0, 5)) (eb := qz) (ec := qz) (eg := qz) (ek := (3, 3)) (y := tp2 h0 s) (a := (dp : Int)) (b := 0) (c := 0) (g := 0) hL4 hs hc (q_i (by omega) (by omega)) (q_i (by omega) (by omega)) q_0 q_0 q_0 (q_i (by omega) (by omega))) (bcs_lt (q_lt (h0 := h0) (by omega))) (bov_app (k_ov w3) (k_ob w2)) (q_5 rfl hx) (q_c (c := 0) rfl) hj rfl (B' := B + H * (n + 1) + F * 2000) (by omega) (fun ls' h2 j1 j2 j3 d2 f2 hd2 hf2 => ?_) (d' + 1) m (by omega) (by omega)
        exact deeper (by omega) (sqs_K hq2) false ls' h2 (q_5c (a := (dp : Int)) rfl j1) j2 j3 d2 f2 (by omega) hf2
    · rw [if_neg hq2]
      have h4n : ¬ (kK (tp2 h0) L s = 3 ∧ tp2 h0 s = 40) := fun z => hq2 (sqs_K3.mpr z)
      have rest := at_63 (dp := dp) hE hsm hb9 hF hG hL4 hdp hs hc
      have goto63 : ∀ {ey ek : Int × Int} {y : Int} {cs : bC} {ov : bO}, ey.1 ≤ y ∧ y ≤ ey.2 → ek.1 ≤ (kK (tp2 h0) L s : Int) ∧ (kK (tp2 h0) L s : Int) ≤ ek.2 → bcs (k9 L s (kE (tp2 h0) L s) (kV (tp2 h0) L s) y (dp : Int) 0 0 0 (kK (tp2 h0) L s)) cs → bOV E (k9 L s (kE (tp2 h0) L s) (kV (tp2 h0) L s) y (dp : Int) 0 0 0 (kK (tp2 h0) L s)) ov h1 → qG 62 161 6 (qA5 none) (qc 0) (qE ag_MX ey (0, 6) qz qz qz ek) cs ov 63 (qA5 none) = true → cvQ h0 L (if (uSorts.any (wqs (tp2 h0) L s) || wqs (tp2 h0) L s uWet) = true then .inl (nxt (tp2 h0) L s) else cmpq (tp2 h0) L 401 s) (zex E m (d' + 1) 161 6 [some (.ref 76), some (.ref 1), some (.int xd), none, none] [.int 0] h1) := by
        intro ey ek y cs ov p1 p2 p3 p4 p5
        refine q_one hE hsm w2 w3 (q_env (ey := ey) (ea := (0, 6)) (eb := qz) (ec := qz) (eg := qz) (ek := ek) (y := y) (a := (dp : Int)) (b := 0) (c := 0) (g := 0) hL4 hs hc p1 ha6 q_0 q_0 q_0 p2) p3 p4 (q_5 rfl hx) (q_c (c := 0) rfl) p5 rfl (B' := B + G * 403 + F * 5000) (by omega) (fun ls3 h4 i1 i2 i3 d2 f2 hd2 hf2 => ?_) (d' + 1) m (by omega) (by omega)
        exact rest ls3 h4 (q_5s (a := (dp : Int)) rfl i1) i2 i3 d2 f2 hd2 hf2
      by_cases hk2 : kK (tp2 h0) L s ≤ 2
      · exact goto63 (ey := kY) (ek := (0, 2)) (y := 0) ⟨by decide, by decide⟩ (q_i (by omega) (by omega)) bcs_n (k_ov w3) pa_6e
      · have hk3 := kK_b (tp2 h0) L s
        have hk33 : ((3, 3) : Int × Int).1 ≤ (kK (tp2 h0) L s : Int) ∧ (kK (tp2 h0) L s : Int) ≤ ((3, 3) : Int × Int).2 := q_i (by omega) (by omega)
        by_cases hlo : tp2 h0 s ≤ 39
        · exact goto63 (ey := (0, 39)) (ek := (3, 3)) (y := tp2 h0 s) (q_i hy9.1 hlo) hk33 (bcs_lt (q_lt (h0 := h0) (by omega))) (bov_app (k_ov w3) (k_ob w2)) pa_6f
        · exact goto63 (ey := (41, 255)) (ek := (3, 3)) (y := tp2 h0 s) (q_i (by omega) hy9.2) hk33 (bcs_lt (q_lt (h0 := h0) (by omega))) (bov_app (k_ov w3) (k_ob w2)) pa_6g
set_option maxRecDepth 100000 in
theorem cl_82 (hE : E.1 < 2147483648) (hsm : bSO E ctb B (60, smT)) (hb9 : ∀ i, 0 ≤ tp2 h0 i ∧ tp2 h0 i ≤ 255) (hF : 1000000 ≤ F) (hL4 : L ≤ 400) {n : Nat} (hcl : clP E B H h0 L n) {dp s i : Nat} (hdp : dp ≤ 6) (his : i ≤ s) (hs : s ≤ L) (hn : 2 * (L - s) + 2 ≤ n + 1) (hi : ¬ 400 ≤ i) : ∀ (e : Nat), gd (tp2 h0) L s e → kK (tp2 h0) L e ≠ 0 → ∀ (ls' : zLs) (h2 : zH), (∃ xd x3 x4 x5 : Int32, ls' = [some (.ref 76), some (.ref 1), some (.int xd), some (.int x3), some (.int x4), some (.int x5)] ∧ xd.toInt = (dp : Int) ∧ (0 ≤ x3.toInt ∧ x3.toInt ≤ 1) ∧ (0 ≤ x4.toInt ∧ x4.toInt ≤ 1) ∧ x5.toInt = (i : Int)) → bRQ ctb wC h0 0 0 h2 → CT h2 (tp2 h0) L e → ∀ d f, 63 + 3 * (6 - dp) ≤ d → B + H * (n + 1) + F * 1000 ≤ f → cvQ h0 L (pq (tp2 h0) L n true dp (nxt (tp2 h0) L e)) (zex E f d 160 82 ls' [] h2) := by
  have ha6 : ((0, 6) : Int × Int).1 ≤ (dp : Int) ∧ (dp : Int) ≤ ((0, 6) : Int × Int).2 := q_i (by omega) (by omega)
  have env : ∀ {s : Nat} {b c g : Int} {ei : Int × Int}, s ≤ L → sk isBl (tp2 h0) L s = s → (0 ≤ b ∧ b ≤ 1) → (0 ≤ c ∧ c ≤ 1) → (ei.1 ≤ g ∧ g ≤ ei.2) → benv (k9 L s (kE (tp2 h0) L s) (kV (tp2 h0) L s) 0 (dp : Int) b c g (kK (tp2 h0) L s)) (qE6 ei) := fun p1 p2 p3 p4 p5 => q_env (ey := kY) (ea := (0, 6)) (eb := q01) (ec := q01) (eg := _) (ek := qk3) hL4 p1 p2 ⟨by decide, by decide⟩ ha6 p3 p4 p5 (q_k3 _)
  have v6 : ∀ {s : Nat} {b c g : Int}, zat (k9 L s (kE (tp2 h0) L s) (kV (tp2 h0) L s) 0 (dp : Int) b c g (kK (tp2 h0) L s)) 5 = some (dp : Int) := rfl
  have hI : kI.1 ≤ (i : Int) ∧ (i : Int) ≤ kI.2 := ⟨by show (0 : Int) ≤ _; omega, by show _ ≤ (399 : Int); omega⟩
  have hj0 : 62 + (1 + 3 * (6 - dp)) = 63 + 3 * (6 - dp) := by omega
  intro e hg hk ls' h2 hls j2 j3 d f hd hf
  obtain ⟨xd, x3, x4, x5, e1, e2, e3, e4, e5⟩ := hls
  obtain ⟨g1, g2, g3⟩ := hg
  obtain ⟨r1, r2, r3⟩ := gd_n g2 g3 hk
  obtain ⟨m, hm⟩ : ∃ m, f = m + 2 := ⟨f - 2, by omega⟩
  obtain ⟨d', hd'⟩ : ∃ d', d = d' + 1 := ⟨d - 1, by omega⟩
  subst hd'
  obtain ⟨h3, t1, t2, t3⟩ := cadv hE hsm hb9 hF hL4 g2 g3 j2 j3 d' m (by omega) (by omega)
  rw [hm, e1, cc_82 (q_ha j2) t1]
  have hj := pc_86 (1 + 3 * (6 - dp)) (by omega)
  rw [afo_eq, hj0] at hj
  refine q_one hE hsm t2 t3 (env (ei := kI) (g := (i : Int)) r2 r3 e3 e4 hI) bcs_n (k_ov t3) (q_6 (a := (dp : Int)) rfl e2 (brel_v rfl) (brel_v rfl) (brel_v rfl) rfl rfl e5) (ak := []) (st := []) trivial hj rfl (B' := B + H * (n + 1)) (by omega) (fun ls3 h4 i1 i2 i3 d2 f2 hd2 hf2 => ?_) (d' + 1) m (by omega) (by omega)
  obtain ⟨zd, z3, z4, z5, a1, a2, a3, a4, a5⟩ := q_6s (a := (dp : Int)) (b := x3.toInt) (c := x4.toInt) (g := 1 + (1 * (i : Int) + 0)) (fc := (1, [(8, 1)])) rfl (brel_v rfl) (brel_v rfl) (brel_w rfl rfl) i1
  rw [a1]
  exact hcl dp _ (i + 1) zd z3 z4 z5 h4 a2 hdp (by rw [a3]; exact e3) (by rw [a4]; exact e4) (by rw [a5]; omega) (by omega) r2 r3 (by omega) i2 i3 d2 f2 hd2 hf2
set_option maxRecDepth 100000 in
theorem cl_s (hE : E.1 < 2147483648) (hsm : bSO E ctb B (60, smT)) (hb9 : ∀ i, 0 ≤ tp2 h0 i ∧ tp2 h0 i ≤ 255) (hF : 1000000 ≤ F) (hH : F * 9000 + G * 403 ≤ H) (hL4 : L ≤ 400) {n : Nat} (hat : atP E B H h0 L n) (hcl : clP E B H h0 L n) : clP E B H h0 L (n + 1) := by
  intro dp s i xd x3 x4 x5 h hx hdp h3 h4 h5 his hs hc hn hr ht d f hd hf
  have hmul : H * (n + 1 + 1) = H * (n + 1) + H := Nat.mul_succ H (n + 1)
  have ha6 : ((0, 6) : Int × Int).1 ≤ (dp : Int) ∧ (dp : Int) ≤ ((0, 6) : Int × Int).2 := q_i (by omega) (by omega)
  have env : ∀ {s : Nat} {b c g : Int} {ei : Int × Int}, s ≤ L → sk isBl (tp2 h0) L s = s → (0 ≤ b ∧ b ≤ 1) → (0 ≤ c ∧ c ≤ 1) → (ei.1 ≤ g ∧ g ≤ ei.2) → benv (k9 L s (kE (tp2 h0) L s) (kV (tp2 h0) L s) 0 (dp : Int) b c g (kK (tp2 h0) L s)) (qE6 ei) := fun p1 p2 p3 p4 p5 => q_env (ey := kY) (ea := (0, 6)) (eb := q01) (ec := q01) (eg := _) (ek := qk3) hL4 p1 p2 ⟨by decide, by decide⟩ ha6 p3 p4 p5 (q_k3 _)
  have v6 : ∀ {s : Nat} {b c g : Int}, zat (k9 L s (kE (tp2 h0) L s) (kV (tp2 h0) L s) 0 (dp : Int) b c g (kK (tp2 h0) L s)) 5 = some (dp : Int) := rfl
  by_cases hi : 400 ≤ i
  · have hk0 : kK (tp2 h0) L s = 0 := kK_0.mpr (by omega)
    rw [pq_0 hk0]
    exact q_fin0 hE hsm hr ht (env (ei := (400, 400)) (g := (i : Int)) hs hc h3 h4 (q_i (by omega) (by omega))) bcs_n (k_ov ht) (q_6 (a := (dp : Int)) rfl hx (brel_v rfl) (brel_v rfl) (brel_v rfl) rfl rfl h5) (ak := []) (st := []) trivial pc_8b d f (by omega) (by omega)
  · have hI : kI.1 ≤ (i : Int) ∧ (i : Int) ≤ kI.2 := ⟨by show (0 : Int) ≤ _; omega, by show _ ≤ (399 : Int); omega⟩
    have hj0 : 62 + (1 + 3 * (6 - dp)) = 63 + 3 * (6 - dp) := by omega
    have turn := cl_82 (dp := dp) hE hsm hb9 hF hL4 hcl hdp his hs hn hi
    have hj := pc_8a (1 + 3 * (6 - dp)) (by omega)
    rw [afo_eq, hj0] at hj
    refine q_one hE hsm hr ht (env (ei := kI) (g := (i : Int)) hs hc h3 h4 hI) bcs_n (k_ov ht) (q_6 (a := (dp : Int)) rfl hx (brel_v rfl) (brel_v rfl) (brel_v rfl) rfl rfl h5) (ak := []) (st := []) trivial hj rfl (B' := B + H * (n + 1) + F * 8000) (by omega) (fun ls1 h1 j1 j2 j3 d1 f1 hd1 hf1 => ?_) d f hd (by omega)
    obtain ⟨zd, z3, z4, z5, a1, a2, a3, a4, a5⟩ := q_6s (a := (dp : Int)) (b := x3.toInt) (c := x4.toInt) (g := (i : Int)) rfl (brel_v rfl) (brel_v rfl) (brel_v rfl) j1
    rw [← a3] at h3
    rw [← a4] at h4
    obtain ⟨m, hm⟩ : ∃ m, f1 = m + 4 := ⟨f1 - 4, by omega⟩
    obtain ⟨d', hd'⟩ : ∃ d', d1 = d' + 1 := ⟨d1 - 1, by omega⟩
    subst hd'
    obtain ⟨x, h2, c1, c2, c3⟩ := hat dp s zd h1 a2 hdp hs hc (by omega) j2 j3 d' m (by omega) (by omega)
    rw [hm, a1, cc_16 (q_hb j2) c1]
    cases hp : pq (tp2 h0) L n false dp s with
    | inr w =>
      rw [hp] at c3
      obtain ⟨c3, c4⟩ := c3
      rw [pq_tr hp, i32_0 c3]
      obtain ⟨k, hk⟩ : ∃ k, m = k + 3 := ⟨m - 3, by omega⟩
      rw [hk, cc_22]
      exact ⟨0, h2, rfl, c2, rfl, c4⟩
    | inl e =>
      rw [hp] at c3
      obtain ⟨c3, c4⟩ := c3
      rw [pq_ti hp]
      have hg := pq_g n false dp s e hs hc hp
      obtain ⟨g1, g2, g3⟩ := hg
      have hj := pc_22 (1 + 3 * (6 - dp)) (by omega)
      rw [afo_eq, hj0] at hj
      refine q_one hE hsm c2 c4 (env (ei := kI) (g := (i : Int)) g2 g3 h3 h4 hI) bcs_n (k_ov c4) (q_6 (a := (dp : Int)) rfl a2 (brel_v rfl) (brel_v rfl) (brel_v rfl) rfl rfl a5) (q_c c3) hj rfl (B' := B + H * (n + 1) + F * 6000) (by omega) (fun ls3 h3' i1 i2 i3 d3 f3 hd3 hf3 => ?_) (d' + 1) m (by omega) (by omega)
      obtain ⟨yd, y3, y4, y5, b1, b2, b3, b4, b5⟩ := q_6s (a := (dp : Int)) (b := z3.toInt) (c := z4.toInt) (g := (i : Int)) rfl (brel_v rfl) (brel_v rfl) (brel_v rfl) i1
      rw [← b3] at h3
      rw [← b4] at h4
      obtain ⟨m, hm⟩ : ∃ m, f3 = m + 3 := ⟨f3 - 3, by omega⟩
      obtain ⟨d', hd'⟩ : ∃ d', d3 = d' + 1 := ⟨d3 - 1, by omega⟩
      subst hd'
      obtain ⟨x, h5', w1, w2, w3, w4⟩ := q_isw hE hsm hb9 hF hL4 g2 g3 i2 i3 (w := 10) (u := uAnd) (by decide) waw_10 (by decide) d' m (by omega) (by omega)
      rw [hm, b1, cc_41 (q_ha i2) w4]
      by_cases hand : wqs (tp2 h0) L e uAnd = true
      · rw [if_pos hand] at w1
        subst w1
        rw [hand, Bool.true_or, if_pos rfl]
        have hj := pc_47a (1 + 3 * (6 - dp)) (by omega)
        rw [afo_eq, hj0] at hj
        refine q_one hE hsm w2 w3 (env (ei := kI) (g := (i : Int)) g2 g3 h3 h4 hI) bcs_n (k_ov w3) (q_6 (a := (dp : Int)) rfl b2 (brel_v rfl) (brel_v rfl) (brel_v rfl) rfl rfl b5) (q_c (c := 1) rfl) hj rfl (B' := B + H * (n + 1) + F * 1000) (by omega) (fun ls4 h6 l1 l2 l3 d4 f4 hd4 hf4 => ?_) (d' + 1) m (by omega) (by omega)
        obtain ⟨vd, v3, v4, v5, o1, o2, o3, o4, o5⟩ := q_6s (a := (dp : Int)) (b := 1) (c := y4.toInt) (g := (i : Int)) rfl (brel_c _ 1) (brel_v rfl) (brel_v rfl) l1
        exact turn e ⟨g1, g2, g3⟩ (wqs_K hand) ls4 h6 ⟨vd, v3, v4, v5, o1, o2, by omega, by omega, o5⟩ l2 l3 d4 f4 hd4 hf4
      · have hand := bFls hand
        rw [if_neg (by rw [hand]; decide)] at w1
        subst w1
        rw [hand, Bool.false_or]
        have hj := pc_47b (1 + 3 * (6 - dp)) (by omega)
        rw [afo_eq, hj0] at hj
        refine q_one hE hsm w2 w3 (env (ei := kI) (g := (i : Int)) g2 g3 h3 h4 hI) bcs_n (k_ov w3) (q_6 (a := (dp : Int)) rfl b2 (brel_v rfl) (brel_v rfl) (brel_v rfl) rfl rfl b5) (q_c (c := 0) rfl) hj rfl (B' := B + H * (n + 1) + F * 3000) (by omega) (fun ls4 h6 l1 l2 l3 d4 f4 hd4 hf4 => ?_) (d' + 1) m (by omega) (by omega)
        obtain ⟨vd, v3, v4, v5, o1, o2, o3, o4, o5⟩ := q_6s (a := (dp : Int)) (b := 0) (c := y4.toInt) (g := (i : Int)) rfl (brel_c _ 0) (brel_v rfl) (brel_v rfl) l1
        obtain ⟨m, hm⟩ : ∃ m, f4 = m + 3 := ⟨f4 - 3, by omega⟩
        obtain ⟨d', hd'⟩ : ∃ d', d4 = d' + 1 := ⟨d4 - 1, by omega⟩
        subst hd'
        obtain ⟨x, h7, w1, w2, w3, w4⟩ := q_isw hE hsm hb9 hF hL4 g2 g3 l2 l3 (w := 11) (u := uOr) (by decide) waw_11 (by decide) d' m (by omega) (by omega)
        rw [hm, o1, cc_67 (q_ha l2) w4]
        by_cases hor : wqs (tp2 h0) L e uOr = true
        · rw [if_pos hor] at w1
          subst w1
          rw [if_pos hor]
          have hj := pc_73a (1 + 3 * (6 - dp)) (by omega)
          rw [afo_eq, hj0] at hj
          refine q_one hE hsm w2 w3 (env (ei := kI) (g := (i : Int)) g2 g3 (b := v3.toInt) (c := v4.toInt) (by omega) (by omega) hI) bcs_n (k_ov w3) (q_6 (a := (dp : Int)) rfl o2 (brel_v rfl) (brel_v rfl) (brel_v rfl) rfl rfl o5) (q_c (c := 1) rfl) hj rfl (B' := B + H * (n + 1) + F * 1000) (by omega) (fun ls5 h8 l1 l2 l3 d5 f5 hd5 hf5 => ?_) (d' + 1) m (by omega) (by omega)
          obtain ⟨ud, u3, u4, u5, p1, p2, p3, p4, p5⟩ := q_6s (a := (dp : Int)) (b := v3.toInt) (c := 1) (g := (i : Int)) rfl (brel_v rfl) (brel_c _ 1) (brel_v rfl) l1
          exact turn e ⟨g1, g2, g3⟩ (wqs_K hor) ls5 h8 ⟨ud, u3, u4, u5, p1, p2, by omega, by omega, p5⟩ l2 l3 d5 f5 hd5 hf5
        · rw [if_neg hor] at w1
          subst w1
          rw [if_neg hor]
          exact q_fin1 hE hsm w2 w3 (env (ei := kI) (g := (i : Int)) g2 g3 (b := v3.toInt) (c := v4.toInt) (by omega) (by omega) hI) bcs_n (k_ov w3) (q_6 (a := (dp : Int)) rfl o2 (brel_v rfl) (brel_v rfl) (brel_v rfl) rfl rfl o5) (q_c (c := 0) rfl) pc_73b (d' + 1) m (by omega) (by omega)
set_option maxRecDepth 100000 in
theorem atcl (hE : E.1 < 2147483648) (hsm : bSO E ctb B (60, smT)) (hb9 : ∀ i, 0 ≤ tp2 h0 i ∧ tp2 h0 i ≤ 255) (hF : 1000000 ≤ F) (hG : F * 2000 ≤ G) (hH : F * 9000 + G * 403 ≤ H) (hL4 : L ≤ 400) : ∀ n, atP E B H h0 L n ∧ clP E B H h0 L n
  | 0 => ⟨fun dp s xd h _ _ _ _ hn => absurd hn (by omega), fun dp s i xd x3 x4 x5 h _ _ _ _ _ _ _ _ hn => absurd hn (by omega)⟩
  | n + 1 => by
    obtain ⟨h1, h2⟩ := atcl hE hsm hb9 hF hG hH hL4 n
    exact ⟨at_s hE hsm hb9 hF hG hH hL4 h1 h2, cl_s hE hsm hb9 hF hH hL4 h1 h2⟩
end QB
