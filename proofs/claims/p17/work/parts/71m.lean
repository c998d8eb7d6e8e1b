/-! law of the class and of the model, exactly -/
set_option maxRecDepth 100000 in
theorem ks0 : bg2 ctb 0 = some (.inr (.inl (11, [some (some 1), some (some 3), some (some 18), some (some 25), some (some 27), some (some 30), some (some 53), some (some 62), some (some 76), none]))) := rfl
set_option maxRecDepth 100000 in
theorem ks76 : bg2 ctb 76 = some (.inr (.inl (6, [some (some 77), none]))) := rfl
set_option maxRecDepth 100000 in
theorem ks94 : bg2 ctb 94 = some (.inl (2, 1, [])) := rfl
set_option maxRecDepth 100000 in
theorem ks85 : bg2 ctb 85 = some (.inl (0, 2475, [])) := rfl
set_option maxRecDepth 100000 in
theorem zs_at {h : zH} {c k : Nat} {f : Nat → Int32} : (zsetI h c f).2.1 c k = f k := by
  show zrow h.2.1 c f c k = _
  rw [zrow_at]
set_option maxRecDepth 100000 in
theorem zs_ne {h : zH} {c d k : Nat} {f : Nat → Int32} (e : d ≠ c) : (zsetI h c f).2.1 d k = h.2.1 d k := by
  show zrow h.2.1 c f d k = _
  rw [zrow_ne _ _ e]
set_option maxRecDepth 100000 in
theorem upd_e {f : Nat → Int32} {k : Nat} {y : Int32} : upd f k y k = y := if_pos rfl
set_option maxRecDepth 100000 in
theorem upd_n {f : Nat → Int32} {k i : Nat} {y : Int32} (e : i ≠ k) : upd f k y i = f i := if_neg e
set_option maxRecDepth 100000 in
theorem inl_j {o : Option zR} {v v' : Option Value} {h h' : zH} (a : o = some (.inl v, h)) (b : o = some (.inl v', h')) : v = v' ∧ h = h' := by
  rw [a] at b
  injection b with b
  injection b with b1 b2
  injection b1 with b1
  exact ⟨b1, b2⟩
set_option maxRecDepth 100000 in
theorem cpg_at {s : List zS} {v : Nat → Nat → Int32} {rest : (Nat → Nat → Int64) × Nat × Nat} {t w o q k a i : Nat} (e : a ≠ t) : ((s, zcpg v t w o q k, rest) : zH).2.1 a i = v a i := zcpg_a v e
set_option maxRecDepth 100000 in
theorem bRQ_J {tb : bTb} {W : Nat} {h0 h : zH} {a b c : Nat} {f : Nat → Int64} (hr : bRQ tb W h0 a b h) : bRQ tb W h0 a b (zsetJ h c f) := ⟨hr.1, hr.2.1, hr.2.2.1, hr.2.2.2.1, hr.2.2.2.2.1, hr.2.2.2.2.2⟩
set_option maxRecDepth 100000 in
theorem bRQ_ab {tb : bTb} {W : Nat} {h0 h : zH} {a b a' b' : Nat} (hr : bRQ tb W h0 a b h) (ha : a ≤ a') (hb : b ≤ b') : bRQ tb W h0 a' b' h := ⟨hr.1, hr.2.1, hr.2.2.1, hr.2.2.2.1, Nat.le_trans hr.2.2.2.2.1 (Nat.add_le_add_left ha _), Nat.le_trans hr.2.2.2.2.2 (Nat.add_le_add_left hb _)⟩
set_option maxRecDepth 100000 in
theorem bRQ_x {tb : bTb} {W : Nat} {h0 h : zH} (hr : bRQ tb W h0 0 0 h) : bRQ tb W h0 1 6 (h.1, h.2.1, h.2.2.1, h.2.2.2.1 + 1, h.2.2.2.2 + 6) := ⟨hr.1, hr.2.1, hr.2.2.1, hr.2.2.2.1, Nat.add_le_add_right hr.2.2.2.2.1 1, Nat.add_le_add_right hr.2.2.2.2.2 6⟩
set_option maxRecDepth 100000 in
theorem bpv_k {E : zE} {V : List Int} {h : zH} {l : bPv} {c k : Nat} {z : Int} (hp : bpv E V l h) (hc : Nat.blt c 900 = true) (hm : (c, k, (z, [])) ∈ l) : (h.2.1 c k).toInt = z := by
  have := bpv_x hp hc hm
  rw [bvx_k] at this
  exact this
set_option maxRecDepth 100000 in
theorem bpv_v {E : zE} {V : List Int} {h : zH} {l : bPv} {c k i : Nat} (hp : bpv E V l h) (hc : Nat.blt c 900 = true) (hm : (c, k, mv i) ∈ l) : (h.2.1 c k).toInt = nth V i := by
  have := bpv_x hp hc hm
  unfold mv at this
  rw [bvx_v] at this
  exact this
def p0L : bLs := [some (.inr (.inl (.ref 0)))]
def iFull : Int × Int := (-2147483648, 2147483647)
set_option maxRecDepth 100000 in
theorem sl_12 : btzk wD (60, smT) ctb ag_no9 60 42 1000000 2 [(23, p0L, [iFull, (-1, 12)], [], [(0, 9, mv 0), (1, 1, (0, [])), (77, 0, mv 1)], (0, []), (0, []), (0, []))] (2, [iFull, (-1, 12)], [], [(77, (0, []), mv 1)], (0, []), (0, [])) 12 p0L [.inl (mv 0), .inr (.inl (.ref 0))] = true := by decide +kernel
set_option maxRecDepth 100000 in
theorem sl_23s : btz wD (0, []) ctb (bfn 0 0 1 (bidl 1 0) [([], [], some (.inl (mv 0)), [(1, 1, (0, [])), (0, 9, (-1, []))])]) 60 42 1000000 1 [] (1, [(0, 12)], [], [(0, (9, []), (-1, [])), (1, (1, []), (0, [])), (77, (0, []), mv 0)], (0, []), (0, [])) 23 p0L = true := by decide +kernel
def slQ (h0 : zH) (r : Nat ⊕ Nat) (o : Option zR) : Prop := match r with
  | .inl n => ∃ (x : Int32) (h' : zH), o = some (.inl (some (.int x)), h') ∧ x.toInt = (n : Int) ∧ bRQ ctb wD h0 0 0 h' ∧ (h'.2.1 1 1).toInt = 0 ∧ (h'.2.1 0 9).toInt = -1
  | .inr w => ∃ h' : zH, o = some (.inr 0, h') ∧ bRQ ctb wD h0 1 6 h' ∧ (h'.2.1 1 1).toInt = 0 ∧ (h'.2.1 0 9).toInt = (w : Int)
set_option maxRecDepth 100000 in
theorem p0_m {V : List Int} : bLR V p0L [some (.ref 0)] := ⟨⟨_, rfl, rfl⟩, trivial⟩
set_option maxRecDepth 100000 in
theorem sl_k {x : Int32} {c : Int} : bKR [x.toInt, c] [.inl (mv 0), .inr (.inl (.ref 0))] [.int x, .ref 0] := ⟨⟨x, rfl, brel_v rfl⟩, rfl, trivial⟩
set_option maxRecDepth 100000 in
theorem ma_m {V : List Int} {u : Option Value} : bLR V [q84, kcc 0, none] [some (.ref 84), some (.int 0), u] := ⟨⟨_, rfl, rfl⟩, ⟨_, rfl, 0, rfl, brel_c _ 0⟩, trivial, trivial⟩
set_option maxRecDepth 100000 in
theorem p0_s {V : List Int} {ls : zLs} (h : bLR V p0L ls) : ls = [some (.ref 0)] := by
  obtain ⟨l1, e1, k1⟩ := bls_r h
  rw [e1, bls_0 k1]
section SL
variable {E : zE} {B F G H L : Nat} {h0 : zH}
set_option maxRecDepth 100000 in
theorem slaw_s (hE : E.1 < 2147483648) {h2 : zH} {n : Nat} (hn : n ≤ 12) (hr : bRQ ctb wD h0 0 0 h2) (q1 : (h2.2.1 0 9).toInt = -1) (q2 : (h2.2.1 1 1).toInt = 0) (q3 : (h2.2.1 77 0).toInt = (n : Int)) : ∀ d f, 60 ≤ d → 1000000 ≤ f → slQ h0 (.inl n) (zex E f d 42 23 [some (.ref 0)] [] h2) := by
  intro d f hd hf
  refine seg (V := [(n : Int)]) (ca := 0) (sa := 0) (nv := 1) (B := 0) (B' := 0) hE bSO_0 (fin_n (V := [(n : Int)]) (ca := 0) (sa := 0) rfl (fun u h' k1 k2 k3 => ?_)) hr (benv_c (by omega) (by omega) benv_n) rfl bcs_n (bov_c (k := 9) rfl rfl rfl rfl (by rw [bvx_k]; exact q1) (bov_c (k := 1) rfl rfl rfl rfl (by rw [bvx_k]; exact q2) (bov_c (k := 0) rfl rfl rfl rfl (by unfold mv; rw [bvx_v]; exact q3) bov_n))) p0_m sl_23s (Nat.le_refl 0) (fun N hN => absurd hN List.not_mem_nil) (fun N hN => absurd hN List.not_mem_nil) d f hd (by omega)
  cases u with
  | none => exact k2.elim
  | some u =>
    obtain ⟨x, x1, x2⟩ := k2
    have x3 := brel_x x2
    unfold mv at x3
    rw [bvx_v] at x3
    exact ⟨x, h', by rw [x1], x3, k1, bpv_k k3 (c := 1) (k := 1) rfl (List.Mem.head _), bpv_k k3 (c := 0) (k := 9) rfl (List.Mem.tail _ (List.Mem.head _))⟩
set_option maxRecDepth 100000 in
theorem slawE (hE : E.1 < 2147483648) (hsm : bSO E ctb B (60, smT)) (hb9 : ∀ i, 0 ≤ tp2 h0 i ∧ tp2 h0 i ≤ 255) (hF : 1000000 ≤ F) (hG : F * 2000 ≤ G) (hH : F * 9000 + G * 403 ≤ H) (hL4 : L ≤ 400) (hI : bHI h0) (hP : bPS h0) (hT : bTB ctb h0.1) (p1 : (h0.2.1 1 1).toInt = (L : Int)) :
    ∀ d f, 84 ≤ d → B + (H * 1001 + F * 20000) * 14 + 4000000 ≤ f → slQ h0 (lawq (tp2 h0) L) (zex E f d 42 0 [some (.ref 0)] [] h0) := by
  intro d f hd hf
  obtain ⟨n, hn⟩ : ∃ n, f = n + 6 := ⟨f - 6, by omega⟩
  obtain ⟨d', hd'⟩ : ∃ d', d = d' + 1 := ⟨d - 1, by omega⟩
  subst hd'
  obtain ⟨x, h1, e1, r1, t1⟩ := readE hE hsm hb9 hF hG hH hL4 hI hP hT p1 d' n (by omega) (by omega)
  rw [hn, sl_0 (hT 0 _ ks0 (by intro z; cases z)) (hT 76 _ ks76 (by intro z; cases z)) e1]
  have bx := x.le_toInt
  have bx2 := x.toInt_lt
  have b77 := r1.1.1 77 0
  refine segk (fin := ag_no9) (Q := slQ h0 (lawq (tp2 h0) L)) (V := [x.toInt, (h1.2.1 77 0).toInt]) (ca := 0) (sa := 0) (nv := 2) hE hsm (fun V S v w h _ _ _ z => nomatch (show false = true from z)) r1 (benv_c (by omega) (by omega) (benv_c b77.1 b77.2 benv_n)) rfl bcs_n (bov_c (k := 0) rfl rfl rfl rfl (by unfold mv; rw [bvx_v]; rfl) bov_n) p0_m sl_k sl_12 (B' := B + 2000000) (by omega) ?_ ?_ (d' + 1) n (by omega) (by omega)
  · intro N hN
    cases hN with
    | head => exact ⟨rfl, rfl, rfl⟩
    | tail _ hN => exact absurd hN List.not_mem_nil
  · intro N hN ls' h2 k1 k2 k3 d f hd hf
    cases hN with
    | tail _ hN => exact absurd hN List.not_mem_nil
    | head =>
      have q1 : (h2.2.1 0 9).toInt = x.toInt := bpv_v k3 (c := 0) (k := 9) rfl (List.Mem.head _)
      have q2 := bpv_k k3 (c := 1) (k := 1) rfl (List.Mem.tail _ (List.Mem.head _))
      have q3 : (h2.2.1 77 0).toInt = (h1.2.1 77 0).toInt := bpv_v k3 (c := 77) (k := 0) rfl (List.Mem.tail _ (List.Mem.tail _ (List.Mem.head _)))
      rw [p0_s k1]
      cases hl : lawq (tp2 h0) L with
      | inl m =>
        rw [hl] at t1
        obtain ⟨t1, t2⟩ := t1
        have b77 : (h1.2.1 77 0).toInt ≤ 12 := b77.2
        exact slaw_s hE (by omega) k2 (by omega) q2 (by omega) d f hd (by omega)
      | inr w =>
        rw [hl] at t1
        have t1 : x.toInt = (w : Int) := t1
        obtain ⟨m, hm⟩ : ∃ m, f = m + 5 := ⟨f - 5, by omega⟩
        obtain ⟨d9, hd9⟩ : ∃ d9, d = d9 + 1 := ⟨d - 1, by omega⟩
        subst hd9
        have hne : (h2.2.1 0 9).toInt ≠ (-1 : Int32).toInt := by
          rw [q1, t1, show (-1 : Int32).toInt = -1 from by decide]
          omega
        rw [hm, sl_23f hne (k2.2.2.1 0 _ ks0 (by intro z; cases z))]
        exact ⟨_, rfl, bRQ_x k2, q2, by show (h2.2.1 0 9).toInt = _; omega⟩
/-- the law's own method around it -/
def swQ (h0 : zH) (r : Nat ⊕ Nat) (o : Option zR) : Prop := ∃ (k : Int32) (h' : zH), o = some (.inl (some (.int k)), h') ∧ bRQ ctb wD h0 1 6 h' ∧ (h'.2.1 1 1).toInt = 0 ∧ (match r with
  | .inl n => k = 0 ∧ (h'.2.2.1 94 0).toInt = (n : Int) ∧ (h'.2.1 0 9).toInt = -1
  | .inr w => k = 1 ∧ (h'.2.1 0 9).toInt = (w : Int))
set_option maxRecDepth 100000 in
theorem slawW (hE : E.1 < 2147483648) (hsm : bSO E ctb B (60, smT)) (hb9 : ∀ i, 0 ≤ tp2 h0 i ∧ tp2 h0 i ≤ 255) (hF : 1000000 ≤ F) (hG : F * 2000 ≤ G) (hH : F * 9000 + G * 403 ≤ H) (hL4 : L ≤ 400) (hI : bHI h0) (hP : bPS h0) (hT : bTB ctb h0.1) (p1 : (h0.2.1 1 1).toInt = (L : Int)) {u2 : Option Value} :
    ∀ d f, 85 ≤ d → B + (H * 1001 + F * 20000) * 14 + 5000000 ≤ f → swQ h0 (lawq (tp2 h0) L) (zex E f d 2 0 [some (.ref 0), some (.ref 94), u2] [] h0) := by
  intro d f hd hf
  obtain ⟨d', hd'⟩ : ∃ d', d = d' + 1 := ⟨d - 1, by omega⟩
  subst hd'
  have a0 := hT 0 _ ks0 (by intro z; cases z)
  cases hl : lawq (tp2 h0) L with
  | inl m =>
    obtain ⟨n, hn⟩ : ∃ n, f = n + 9 := ⟨f - 9, by omega⟩
    have s := slawE hE hsm hb9 hF hG hH hL4 hI hP hT p1 d' (n + 5) (by omega) (by omega)
    rw [hl] at s
    obtain ⟨x, h1, e1, x1, r1, x2, x3⟩ := s
    rw [hn, sw_0 a0 (r1.2.2.1 94 _ ks94 (by intro z; cases z)) e1]
    refine ⟨0, _, rfl, bRQ_J (bRQ_ab r1 (by decide) (by decide)), x2, rfl, ?_, x3⟩
    show (zrow h1.2.2.1 94 (vp_updL (h1.2.2.1 94) 0 x.toInt64) 94 0).toInt = _
    rw [zrow_at]
    show (x.toInt64).toInt = _
    rw [Int32.toInt_toInt64]
    exact x1
  | inr w =>
    obtain ⟨n, hn⟩ : ∃ n, f = n + 7 := ⟨f - 7, by omega⟩
    have s := slawE hE hsm hb9 hF hG hH hL4 hI hP hT p1 d' (n + 3) (by omega) (by omega)
    rw [hl] at s
    obtain ⟨h1, e1, r1, x2, x3⟩ := s
    rw [hn, sw_0t a0 e1]
    exact ⟨1, _, rfl, r1, x2, rfl, x3⟩
end SL
/-! the model's -/
noncomputable def wL : Nat := sc343.2.1
set_option maxRecDepth 100000 in
theorem wL90 : Nat.testBit wL (bun 90 0) = false := by decide +kernel
set_option maxRecDepth 100000 in
theorem wN_L {i : Nat} (h : Nat.testBit wL i = false) : Nat.testBit wN i = false := by
  have e : wN = Nat.land wL wN := by decide +kernel
  rw [e]
  show Nat.testBit (wL &&& wN) i = false
  rw [Nat.testBit_and, h, Bool.false_and]
set_option maxRecDepth 100000 in
theorem wN840 : Nat.testBit wN (bun 84 0) = false := by decide +kernel
set_option maxRecDepth 100000 in
theorem wN849 : Nat.testBit wN (bun 84 9) = false := by decide +kernel
def maE : bE := [(0, 400), (0, 400), (0, 6)]
set_option maxRecDepth 100000 in
theorem ma_0 : btzk wL (0, []) ctb ag_no9 95 264 1000000 3 [(9, [q84, kcc 0, none], maE, [], [(84, 11, mv 0), (84, 10, (0, [])), (84, 12, mv 1), (84, 16, (0, [])), (84, 13, mv 2), (84, 0, (0, [])), (84, 9, (0, []))], (0, []), (0, []), (0, []))] (3, maE, [], [(84, (9, []), mv 0), (84, (12, []), mv 1), (84, (13, []), mv 2)], (0, []), (0, [])) 0 [q84, kcc 0, none] [] = true := by decide +kernel
def maQ (h0 : zH) (r : Nat ⊕ Nat) (o : Option zR) : Prop := ∃ (x : Int32) (h' : zH), o = some (.inl (some (.int x)), h') ∧ bRQ ctb wL h0 0 0 h' ∧ (h'.2.1 84 0).toInt = 0 ∧ (h'.2.1 84 9).toInt = 0 ∧ (match r with
  | .inl n => x.toInt = (n : Int)
  | .inr w => x.toInt = -1 ∧ (h'.2.1 84 12).toInt = (w : Int))
def mlQ (h0 : zH) (r : Nat ⊕ Nat) (o : Option zR) : Prop := ∃ (x : Int32) (h' : zH), o = some (.inl (some (.int x)), h') ∧ bRQ ctb wL h0 0 0 h' ∧ (h'.2.1 84 9).toInt = 0 ∧ (match r with
  | .inl n => x.toInt = (n : Int) ∧ (h'.2.1 84 0).toInt = 0 ∧ (h'.2.1 84 14).toInt = -1
  | .inr w => (h'.2.1 84 0).toInt = 1 ∧ (h'.2.1 84 14).toInt = (w : Int))
section ML
variable {E : zE} {B F G H L : Nat} {h0 : zH}
set_option maxRecDepth 100000 in
theorem mreadE (hE : E.1 < 2147483648) (hE4 : E.1 ≤ 4000) (hsm : bSO E ctb B (60, smT)) (hb9 : ∀ i, -128 ≤ tp90 h0 i ∧ tp90 h0 i ≤ 127) (hF : 1000000 ≤ F) (hG : F * 2000 ≤ G) (hH : F * 9000 + G * 403 ≤ H) (hL : L ≤ 400) (hI : bHI h0) (hP : bPS h0) (hT : bTB ctb h0.1) (p1 : (h0.2.1 84 9).toInt = (L : Int)) :
    ∀ d f, 95 ≤ d → B + H * 1017 + 2000000 ≤ f → maQ h0 (lawq (tp90 h0) L) (zex E f d 264 0 [some (.ref 84), some (.int 0), none] [] h0) := by
  intro d f hd hf
  have b12 := hI.1 84 12
  have b13 := hI.1 84 13
  rw [biv8412] at b12
  rw [biv8413] at b13
  have hr : bRQ ctb wL h0 0 0 h0 := ⟨hI, hP, hT, fun _ _ _ => rfl, Nat.le_refl _, Nat.le_refl _⟩
  refine segk (fin := ag_no9) (Q := maQ h0 (lawq (tp90 h0) L)) (V := [(L : Int), (h0.2.1 84 12).toInt, (h0.2.1 84 13).toInt]) (ca := 0) (sa := 0) (nv := 3) (B := 0) hE bSO_0 (fun V S v w h _ _ _ z => nomatch (show false = true from z)) hr (benv_c (by omega) (by omega) (benv_c b12.1 b12.2 (benv_c b13.1 b13.2 benv_n))) rfl bcs_n (bov_c (k := 9) rfl rfl rfl rfl (by unfold mv; rw [bvx_v]; exact p1) (bov_c (k := 12) rfl rfl rfl rfl (by unfold mv; rw [bvx_v]; rfl) (bov_c (k := 13) rfl rfl rfl rfl (by unfold mv; rw [bvx_v]; rfl) bov_n))) ma_m (ak := []) (st := []) trivial ma_0 (B' := B + H * 1017) (by omega) ?_ ?_ d f hd (by omega)
  · intro N hN
    cases hN with
    | head => exact ⟨rfl, rfl, rfl⟩
    | tail _ hN => exact absurd hN List.not_mem_nil
  · intro N hN ls' h1 k1 k2 k3 d2 f2 hd2 hf2
    cases hN with
    | tail _ hN => exact absurd hN List.not_mem_nil
    | head =>
      have q1 : (h1.2.1 84 11).toInt = (L : Int) := bpv_v k3 (c := 84) (k := 11) rfl (List.Mem.head _)
      have q2 : (h1.2.1 84 10).toInt = 0 := bpv_k k3 (c := 84) (k := 10) rfl (List.Mem.tail _ (List.Mem.head _))
      have q3 : (h1.2.1 84 12).toInt = (h0.2.1 84 12).toInt := bpv_v k3 (c := 84) (k := 12) rfl (List.Mem.tail _ (List.Mem.tail _ (List.Mem.head _)))
      have q4 : (h1.2.1 84 16).toInt = 0 := bpv_k k3 (c := 84) (k := 16) rfl (List.Mem.tail _ (List.Mem.tail _ (List.Mem.tail _ (List.Mem.head _))))
      have q5 : (h1.2.1 84 13).toInt = (h0.2.1 84 13).toInt := bpv_v k3 (c := 84) (k := 13) rfl (List.Mem.tail _ (List.Mem.tail _ (List.Mem.tail _ (List.Mem.tail _ (List.Mem.head _)))))
      have q6 : (h1.2.1 84 0).toInt = 0 := bpv_k k3 (c := 84) (k := 0) rfl (List.Mem.tail _ (List.Mem.tail _ (List.Mem.tail _ (List.Mem.tail _ (List.Mem.tail _ (List.Mem.head _))))))
      have q7 : (h1.2.1 84 9).toInt = 0 := bpv_k k3 (c := 84) (k := 9) rfl (List.Mem.tail _ (List.Mem.tail _ (List.Mem.tail _ (List.Mem.tail _ (List.Mem.tail _ (List.Mem.tail _ (List.Mem.head _)))))))
      have hT9 : tp90 h1 = tp90 h0 := tp90_e fun i => k2.2.2.2.1 90 i wL90
      obtain ⟨l1, e1, m1⟩ := bls_r k1
      obtain ⟨v1, l2, e2, g2, m2⟩ := bls_i m1
      obtain ⟨u, l3, e3, m3⟩ : ∃ u l3, l2 = u :: l3 ∧ bLR _ [] l3 := by
        cases l2 with
        | nil => exact m2.elim
        | cons u l3 => exact ⟨u, l3, rfl, m2.2⟩
      subst e1 e2 e3
      cases bls_0 m3
      have g2 : v1.toInt = 0 := brel_k g2
      obtain ⟨b, hb⟩ : ∃ b : Nat, (h0.2.1 84 12).toInt = (b : Int) := ⟨(h0.2.1 84 12).toInt.toNat, by omega⟩
      obtain ⟨dp, hdp⟩ : ∃ b : Nat, (h0.2.1 84 13).toInt = (b : Int) := ⟨(h0.2.1 84 13).toInt.toNat, by omega⟩
      have key := mra_9 (h0 := h1) (h := h1) (b := b) (dp := dp) (vh := v1) (u := u) hE hE4 hsm (by rw [hT9]; exact hb9) hF hG hH hL g2 (by omega) (by omega) ⟨k2.1, k2.2.1, k2.2.2.1, fun _ _ _ => rfl, Nat.le_refl _, Nat.le_refl _⟩ ⟨q1, q2, by omega, q4, by omega⟩ d2 f2 (by omega) (by omega)
      rw [hT9] at key
      obtain ⟨x, h', y1, y2, y3⟩ := key
      have y4 : bRQ ctb wL h1 0 0 h' := ⟨y2.1, y2.2.1, y2.2.2.1, fun c k z => y2.2.2.2.1 c k (wN_L z), y2.2.2.2.2.1, y2.2.2.2.2.2⟩
      exact ⟨x, h', y1, bRQ_tr k2 y4, by rw [y2.2.2.2.1 84 0 wN840]; exact q6, by rw [y2.2.2.2.1 84 9 wN849]; exact q7, y3⟩
set_option maxRecDepth 100000 in
theorem mlawE (hE : E.1 < 2147483648) (hE4 : E.1 ≤ 4000) (hsm : bSO E ctb B (60, smT)) (hb9 : ∀ i, -128 ≤ tp90 h0 i ∧ tp90 h0 i ≤ 127) (hF : 1000000 ≤ F) (hG : F * 2000 ≤ G) (hH : F * 9000 + G * 403 ≤ H) (hL : L ≤ 400) (hI : bHI h0) (hP : bPS h0) (hT : bTB ctb h0.1) (p1 : (h0.2.1 84 9).toInt = (L : Int)) :
    ∀ d f, 96 ≤ d → B + H * 1017 + 3000000 ≤ f → mlQ h0 (lawq (tp90 h0) L) (zex E f d 266 0 [some (.ref 84), none, none] [] h0) := by
  intro d f hd hf
  obtain ⟨v, h', c1, c2, ⟨c3, c4⟩, c5, c6, c7, c8⟩ := hsm 266 [sc343] rfl sc343 (List.Mem.head _) (by decide) [] [.ref 84] h0 d f (1, 3, 0, 12, 1, 0) rfl (by show 43 ≤ d; omega) (by omega) ⟨rfl, trivial⟩ benv_n bcs_n (fun e he => absurd he List.not_mem_nil) hI hP hT
  have c1 : zex E f d 266 0 [some (.ref 84), none, none] [] h0 = some (.inl v, h') := c1
  have cr : bRQ ctb wL h0 0 0 h' := ⟨c2, c3, c4, c5, c6, c7⟩
  obtain ⟨d', hd'⟩ : ∃ d', d = d' + 1 := ⟨d - 1, by omega⟩
  subst hd'
  obtain ⟨n, hn⟩ : ∃ n, f = n + 18 + 3 := ⟨f - 21, by omega⟩
  subst hn
  obtain ⟨x, h1, e1, r1, x1, x2, x3⟩ := mreadE hE hE4 hsm hb9 hF hG hH hL hI hP hT p1 d' (n + 18) (by omega) (by omega)
  have e2 := xq_0 (u1 := none) (u2 := none) (hT 84 _ cs84 (by intro z; cases z)) e1
  have a84 := r1.2.2.1 84 _ cs84 (by intro z; cases z)
  have a85 := r1.2.2.1 85 _ ks85 (by intro z; cases z)
  cases hl : lawq (tp90 h0) L with
  | inr w =>
    rw [hl] at x3
    obtain ⟨x3, x4⟩ := x3
    obtain ⟨m, hm⟩ : ∃ m, n = m + 4 := ⟨n - 4, by omega⟩
    subst hm
    have e3 := ml_5f (E := E) (n := m + 4) (d := d') (u1 := none) (u2 := none) (x := x) (h := h1) (by omega) a84 (mt_1 (n := m) a84)
    obtain ⟨f1, f2⟩ := inl_j c1 (e2.trans e3)
    refine ⟨0, h', by rw [c1, f1], cr, ?_, ?_, ?_⟩
    · rw [f2, zs_at, upd_n (by decide), zs_at, upd_n (by decide)]
      exact x2
    · rw [f2, zs_at, upd_e]
      decide
    · rw [f2, zs_at, upd_n (by decide), zs_at, upd_e]
      exact x4
  | inl m =>
    rw [hl] at x3
    have x3 : x.toInt = (m : Int) := x3
    obtain ⟨k, hk⟩ : ∃ k, n + 18 = k + 10 + 3 + 17 * 849 + 20 := ⟨n + 18 - 14466, by omega⟩
    rw [hk] at e2
    have e3 := ml_5s (E := E) (n := k + 10 + 3 + 17 * 849) (d := d') (u1 := none) (u2 := none) (x := x) (h := h1) (by omega) a84 a85 (mt_0 (u2 := some (.int 1)))
    have e4 := zllaw_loop (E := E) (d := d' + 1) (a := 84) (t := 85) (w := 85) (sh := h1.1) (v := (zsetI (zsetI h1 84 (upd (h1.2.1 84) 14 (-1))) 85 (upd ((zsetI h1 84 (upd (h1.2.1 84) 14 (-1))).2.1 85) 1626 x)).2.1) (rest := h1.2.2) (l1 := x) a84 rfl rfl a85 a85 (o := 777) (q := 1626) (fun k hk => baddk (by decide) (by omega) (by omega)) (fun k hk => baddk (by decide) (by omega) (by omega)) (by omega) (by omega) (Or.inr (by omega)) 849 0 (k + 10) rfl
    rw [zcpg_0] at e4
    have e5 := ml_85 (E := E) (n := k) (d := d') (u2 := some (.int (Int32.ofNat 849))) (x := x) (h := (h1.1, zcpg (zsetI (zsetI h1 84 (upd (h1.2.1 84) 14 (-1))) 85 (upd ((zsetI h1 84 (upd (h1.2.1 84) 14 (-1))).2.1 85) 1626 x)).2.1 85 85 777 1626 849, h1.2.2)) a84 a85
    have g9 : ∀ k, k ≠ 14 → (zsetI (zsetI h1 84 (upd (h1.2.1 84) 14 (-1))) 85 (upd ((zsetI h1 84 (upd (h1.2.1 84) 14 (-1))).2.1 85) 1626 x)).2.1 84 k = h1.2.1 84 k := fun k hk => by rw [zs_ne (by decide), zs_at, upd_n hk]
    have e6 := e2.trans (e3.trans (e4.trans e5))
    have f0 : k + 10 + 3 + 17 * 849 + 20 + 3 = n + 18 + 3 := by omega
    rw [f0] at e6
    obtain ⟨f1, f2⟩ := inl_j c1 e6
    refine ⟨x, h', ?_, cr, ?_, x3, ?_, ?_⟩
    · rw [c1, f1]
    · rw [f2, zs_at, upd_n (by decide), zs_ne (by decide), cpg_at (show (84 : Nat) ≠ 85 by decide), g9 9 (by decide)]
      exact x2
    · rw [f2, zs_at, upd_n (by decide), zs_ne (by decide), cpg_at (show (84 : Nat) ≠ 85 by decide), g9 0 (by decide)]
      exact x1
    · rw [f2, zs_at, upd_n (by decide), zs_ne (by decide), cpg_at (show (84 : Nat) ≠ 85 by decide), zs_ne (by decide), zs_at, upd_e]
      decide
end ML
