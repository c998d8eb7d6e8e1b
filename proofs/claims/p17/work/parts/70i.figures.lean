/-! the model's figures -/
def mgL (v : Option bV) : bLs := [some (.inr (.inl (.ref 84))), some (.inl (mv 5)), some (.inl (mv 6)), some (.inl (mv 7)), v]
def mgE (y v : Int × Int) : bE := [(0, 400), (0, 400), (0, 400), y, v, (-2147483648, 2147483647), (-2147483648, 2147483647), (3, 5)]
def mgN (pc : Nat) (e : bE) (p v : bI) : bNd := (pc, mgL (some (.inl v)), e, [], mP p (mv 2), (0, []), (0, []), (0, []))
noncomputable def mgR (fin : bS → Option bV → Bool) (L : List bNd) (y v : Int × Int) (cs : bC) (ov : bO) (pc : Nat) (l4 : Option bV) : Bool := btz wM (60, smT) ctb fin 60 240 1000000 8 L (8, mgE y v, cs, ov, (0, []), (0, [])) pc (mgL l4)
noncomputable def mgF (r : bI) : bS → Option bV → Bool := bfn 0 0 8 (bidl 8 0) [([], [], some (.inl r), mP (mv 1) (mv 2))]
def mgV : Option bV := some (.inl (mv 4))
def V5 : Int × Int := (0, 99999)
set_option maxRecDepth 100000 in
theorem mg_0 : mgR ag_no9 [mgN 7 (mgE (0, 0) V5) (mv 1) (0, [])] (0, 0) V5 [] mO 4 none = true := by decide +kernel
set_option maxRecDepth 100000 in
theorem mg_1 : mgR ag_no9 [mgN 7 (mgE (48, 57) (0, 9999)) mf1 (-48, [(3, 1), (4, 10)])] (48, 57) (0, 9999) [mlt, (-1, [(1, -1), (2, 1), (7, 1)])] (mO ++ mB) 7 mgV = true := by decide +kernel
set_option maxRecDepth 100000 in
theorem mg_2 : mgR ag_no9 [mgN 7 (mgE (48, 57) V5) mf1 (mv 4)] (48, 57) V5 [mlt, (0, [(1, 1), (2, -1), (7, -1)])] (mO ++ mB) 7 mgV = true := by decide +kernel
set_option maxRecDepth 100000 in
theorem mg_3 : mgR ag_no9 [mgN 69 (mgE (0, 0) V5) (mv 1) (mv 4)] (0, 0) V5 [mge] mO 7 mgV = true := by decide +kernel
set_option maxRecDepth 100000 in
theorem mg_4 : mgR ag_no9 [mgN 69 (mgE (-128, 47) V5) (mv 1) (mv 4)] (-128, 47) V5 [mlt] (mO ++ mB) 7 mgV = true := by decide +kernel
set_option maxRecDepth 100000 in
theorem mg_5 : mgR ag_no9 [mgN 69 (mgE (58, 127) V5) (mv 1) (mv 4)] (58, 127) V5 [mlt] (mO ++ mB) 7 mgV = true := by decide +kernel
set_option maxRecDepth 100000 in
theorem mg_6 : mgR (mgF (-1, [])) [] (0, 0) V5 [(0, [(1, 1), (2, -1)]), (0, [(1, -1), (2, 1)])] mO 69 mgV = true := by decide +kernel
set_option maxRecDepth 100000 in
theorem mg_7 : mgR (mgF (-1, [])) [] (0, 0) V5 [(-1, [(1, 1), (2, -1)]), (-1, [(1, 1), (2, -1), (7, -1)])] mO 69 mgV = true := by decide +kernel
set_option maxRecDepth 100000 in
theorem mg_8 : mgR (mgF (-1, [])) [] (0, 0) V5 [(-1, [(1, 1), (2, -1)]), (0, [(1, -1), (2, 1), (7, 1)]), (-1, [(4, -1), (5, 1)])] mO 69 mgV = true := by decide +kernel
set_option maxRecDepth 100000 in
theorem mg_9 : mgR (mgF (-1, [])) [] (0, 0) V5 [(-1, [(1, 1), (2, -1)]), (0, [(1, -1), (2, 1), (7, 1)]), (0, [(4, 1), (5, -1)]), (-1, [(4, 1), (6, -1)])] mO 69 mgV = true := by decide +kernel
set_option maxRecDepth 100000 in
theorem mg_10 : mgR (mgF (mv 4)) [] (0, 0) V5 [(-1, [(1, 1), (2, -1)]), (0, [(1, -1), (2, 1), (7, 1)]), (0, [(4, 1), (5, -1)]), (0, [(4, -1), (6, 1)])] mO 69 mgV = true := by decide +kernel
set_option maxRecDepth 100000 in
theorem vln_5 {T : Nat → Int} {s : Nat} : ∀ n, (∀ i, i < n → 48 ≤ T (s + i) ∧ T (s + i) ≤ 57) → n ≤ 5 → 0 ≤ vln T s n ∧ vln T s n ≤ 99999 ∧ (n ≤ 4 → vln T s n ≤ 9999) := by
  have key : ∀ n, (∀ i, i < n → 48 ≤ T (s + i) ∧ T (s + i) ≤ 57) → 0 ≤ vln T s n ∧ vln T s n + 1 ≤ 10 ^ n := by
    intro n
    induction n with
    | zero => intro _; exact ⟨Int.le_refl _, by show (0 : Int) + 1 ≤ 10 ^ 0; decide⟩
    | succ n ih =>
      intro hh
      obtain ⟨h1, h2⟩ := ih fun i hi => hh i (by omega)
      have h3 := hh n (by omega)
      show 0 ≤ 10 * vln T s n + (T (s + n) - 48) ∧ 10 * vln T s n + (T (s + n) - 48) + 1 ≤ 10 ^ (n + 1)
      rw [Int.pow_succ]
      omega
  intro n hh hn
  obtain ⟨h1, h2⟩ := key n hh
  match n, hn with
  | 0, _ => have h2 : vln T s 0 + 1 ≤ 1 := h2; omega
  | 1, _ => have h2 : vln T s 1 + 1 ≤ 10 := h2; omega
  | 2, _ => have h2 : vln T s 2 + 1 ≤ 100 := h2; omega
  | 3, _ => have h2 : vln T s 3 + 1 ≤ 1000 := h2; omega
  | 4, _ => have h2 : vln T s 4 + 1 ≤ 10000 := h2; omega
  | 5, _ => have h2 : vln T s 5 + 1 ≤ 100000 := h2; omega
section MG
variable {E : zE} {B F : Nat} {Q : Option zR → Prop} {h0 h : zH} {L p b mo : Nat} {y v lo hi : Int}
set_option maxRecDepth 100000 in
theorem mg_o (h1 : (h.2.1 84 11).toInt = (L : Int)) (h2 : (h.2.1 84 10).toInt = (p : Int)) (h3 : (h.2.1 84 12).toInt = (b : Int)) : bOV E [(L : Int), (p : Int), (b : Int), y, v, lo, hi, (mo : Int)] mO h :=
  bov_c (k := 11) rfl rfl rfl rfl (by unfold mv; rw [bvx_v]; exact h1) (bov_c (k := 10) rfl rfl rfl rfl (by unfold mv; rw [bvx_v]; exact h2) (bov_c (k := 12) rfl rfl rfl rfl (by unfold mv; rw [bvx_v]; exact h3) bov_n))
set_option maxRecDepth 100000 in
theorem mg_oB (h2 : (h.2.1 90 p).toInt = y) : bOV E [(L : Int), (p : Int), (b : Int), y, v, lo, hi, (mo : Int)] mB h :=
  bov_c (k := p) rfl rfl (by rw [bvx_v]; rfl) rfl (by unfold mv; rw [bvx_v]; exact h2) bov_n
set_option maxRecDepth 100000 in
theorem mg_env {yb vb : Int × Int} (hL : L ≤ 400) (hp : p ≤ 400) (hb : b ≤ 400) (hy : yb.1 ≤ y ∧ y ≤ yb.2) (hv : vb.1 ≤ v ∧ v ≤ vb.2) (hlo : -2147483648 ≤ lo ∧ lo ≤ 2147483647) (hhi : -2147483648 ≤ hi ∧ hi ≤ 2147483647) (hm : 3 ≤ mo ∧ mo ≤ 5) : benv [(L : Int), (p : Int), (b : Int), y, v, lo, hi, (mo : Int)] (mgE yb vb) :=
  benv_c (by omega) (by omega) (benv_c (by omega) (by omega) (benv_c (by omega) (by omega) (benv_c hy.1 hy.2 (benv_c hv.1 hv.2 (benv_c hlo.1 hlo.2 (benv_c hhi.1 hhi.2 (benv_c (by omega) (by omega) benv_n)))))))
set_option maxRecDepth 100000 in
theorem mg_al {x1 x2 x3 x4 : Int32} (g1 : x1.toInt = lo) (g2 : x2.toInt = hi) (g3 : x3.toInt = (mo : Int)) (g4 : x4.toInt = v) : bLR [(L : Int), (p : Int), (b : Int), y, v, lo, hi, (mo : Int)] (mgL mgV) [some (.ref 84), some (.int x1), some (.int x2), some (.int x3), some (.int x4)] :=
  ⟨⟨_, rfl, rfl⟩, ⟨_, rfl, x1, rfl, by rw [g1]; exact brel_v rfl⟩, ⟨_, rfl, x2, rfl, by rw [g2]; exact brel_v rfl⟩, ⟨_, rfl, x3, rfl, by rw [g3]; exact brel_v rfl⟩, ⟨_, rfl, x4, rfl, by rw [g4]; exact brel_v rfl⟩, trivial⟩
set_option maxRecDepth 100000 in
theorem mg_one (hE : E.1 < 2147483648) (hsm : bSO E ctb B (60, smT)) (hr : bRQ ctb wM h0 0 0 h) {yb vb : Int × Int} (hv : benv [(L : Int), (p : Int), (b : Int), y, v, lo, hi, (mo : Int)] (mgE yb vb)) {cs : bC} {ov : bO} (hcs : bcs [(L : Int), (p : Int), (b : Int), y, v, lo, hi, (mo : Int)] cs) (hov : bOV E [(L : Int), (p : Int), (b : Int), y, v, lo, hi, (mo : Int)] ov h) {pc pc' : Nat} {l4 : Option bV} {ls : zLs} (hl : bLR [(L : Int), (p : Int), (b : Int), y, v, lo, hi, (mo : Int)] (mgL l4) ls) {pf vf : bI} (e : mgR ag_no9 [mgN pc' (mgE yb vb) pf vf] yb vb cs ov pc l4 = true) {B' : Nat} (hB : B ≤ B')
    (hk : ∀ h' (x1 x2 x3 x4 : Int32), x1.toInt = lo → x2.toInt = hi → x3.toInt = (mo : Int) → x4.toInt = bvx [(L : Int), (p : Int), (b : Int), y, v, lo, hi, (mo : Int)] vf → bRQ ctb wM h0 0 0 h' → (h'.2.1 84 11).toInt = (L : Int) → (h'.2.1 84 10).toInt = bvx [(L : Int), (p : Int), (b : Int), y, v, lo, hi, (mo : Int)] pf → (h'.2.1 84 12).toInt = (b : Int) → ∀ d f, 60 ≤ d → B' ≤ f → Q (zex E f d 240 pc' [some (.ref 84), some (.int x1), some (.int x2), some (.int x3), some (.int x4)] [] h')) : ∀ d f, 60 ≤ d → B' + 1000000 ≤ f → Q (zex E f d 240 pc ls [] h) := by
  refine seg (V := [(L : Int), (p : Int), (b : Int), y, v, lo, hi, (mo : Int)]) (ca := 0) (sa := 0) (nv := 8) hE hsm (fun V S v w h _ _ _ z => nomatch (show false = true from z)) hr hv rfl hcs hov hl e hB ?_ ?_
  · intro N hN
    cases hN with
    | head => exact ⟨rfl, rfl, rfl⟩
    | tail _ hN => exact absurd hN List.not_mem_nil
  · intro N hN ls' h' k1 k2 k3 d f hd hf
    cases hN with
    | tail _ hN => exact absurd hN List.not_mem_nil
    | head =>
      have q1 := bpv_x k3 (c := 84) (k := 11) rfl (List.Mem.head _)
      have q2 := bpv_x k3 (c := 84) (k := 10) rfl (List.Mem.tail _ (List.Mem.head _))
      have q3 := bpv_x k3 (c := 84) (k := 12) rfl (List.Mem.tail _ (List.Mem.tail _ (List.Mem.head _)))
      unfold mv at q1 q3
      rw [bvx_v] at q1 q3
      obtain ⟨l1, e1, j1⟩ := bls_r k1
      obtain ⟨x1, l2, e2, g1, j2⟩ := bls_i j1
      obtain ⟨x2, l3, e3, g2, j3⟩ := bls_i j2
      obtain ⟨x3, l4, e4, g3, j4⟩ := bls_i j3
      obtain ⟨x4, l5, e5, g4, j5⟩ := bls_i j4
      rw [e1, e2, e3, e4, e5, bls_0 j5]
      exact hk h' x1 x2 x3 x4 (by have := brel_x g1; unfold mv at this; rw [bvx_v] at this; exact this) (by have := brel_x g2; unfold mv at this; rw [bvx_v] at this; exact this) (by have := brel_x g3; unfold mv at this; rw [bvx_v] at this; exact this) (brel_x g4) k2 q1 q2 q3 d f hd hf
set_option maxRecDepth 100000 in
theorem mg_fin (hE : E.1 < 2147483648) (hsm : bSO E ctb B (60, smT)) (hr : bRQ ctb wM h0 0 0 h) (hv : benv [(L : Int), (p : Int), (b : Int), y, v, lo, hi, (mo : Int)] (mgE (0, 0) V5)) {cs : bC} {ov : bO} (hcs : bcs [(L : Int), (p : Int), (b : Int), y, v, lo, hi, (mo : Int)] cs) (hov : bOV E [(L : Int), (p : Int), (b : Int), y, v, lo, hi, (mo : Int)] ov h) {ls : zLs} (hl : bLR [(L : Int), (p : Int), (b : Int), y, v, lo, hi, (mo : Int)] (mgL mgV) ls) {rf : bI} (e : mgR (mgF rf) [] (0, 0) V5 cs ov 69 mgV = true) {r : Int} (hrr : bvx [(L : Int), (p : Int), (b : Int), y, v, lo, hi, (mo : Int)] rf = r) : ∀ d f, 60 ≤ d → B + 1000000 ≤ f → mvQ h0 L p b r (zex E f d 240 69 ls [] h) := by
  refine seg (V := [(L : Int), (p : Int), (b : Int), y, v, lo, hi, (mo : Int)]) (ca := 0) (sa := 0) (nv := 8) hE hsm (fin_n (V := [(L : Int), (p : Int), (b : Int), y, v, lo, hi, (mo : Int)]) (ca := 0) (sa := 0) rfl (fun w h' k1 k2 k3 => ?_)) hr hv rfl hcs hov hl e (Nat.le_refl B) (fun N hN => absurd hN List.not_mem_nil) (fun N hN => absurd hN List.not_mem_nil)
  have q1 := bpv_x k3 (c := 84) (k := 11) rfl (List.Mem.head _)
  have q2 := bpv_x k3 (c := 84) (k := 10) rfl (List.Mem.tail _ (List.Mem.head _))
  have q3 := bpv_x k3 (c := 84) (k := 12) rfl (List.Mem.tail _ (List.Mem.tail _ (List.Mem.head _)))
  unfold mv at q1 q2 q3
  rw [bvx_v] at q1 q2 q3
  cases w with
  | none => exact k2.elim
  | some w =>
    obtain ⟨z, z1, z2⟩ := k2
    exact ⟨z, h', by rw [z1], by rw [brel_x z2, hrr], k1, q1, q2, q3⟩
end MG
