set_option maxRecDepth 100000 in
theorem bls_r {V : List Int} {a : Nat} {l : bLs} : ∀ {ls : zLs}, bLR V (some (.inr (.inl (.ref a))) :: l) ls → ∃ r, ls = some (.ref a) :: r ∧ bLR V l r
  | [], h => h.elim
  | o :: r, h => by
    obtain ⟨v, h1, h2⟩ := h.1
    have h2 : v = .ref a := h2
    exact ⟨r, by rw [h1, h2], h.2⟩
set_option maxRecDepth 100000 in
theorem bls_i {V : List Int} {f : bI} {l : bLs} : ∀ {ls : zLs}, bLR V (some (.inl f) :: l) ls → ∃ x r, ls = some (.int x) :: r ∧ brel V f x.toInt ∧ bLR V l r
  | [], h => h.elim
  | o :: r, h => by
    obtain ⟨v, h1, x, h2, h3⟩ := h.1
    exact ⟨x, r, by rw [h1, h2], h3, h.2⟩
set_option maxRecDepth 100000 in
theorem bls_n {V : List Int} {l : bLs} : ∀ {ls : zLs}, bLR V (none :: l) ls → ∃ o r, ls = o :: r ∧ bLR V l r
  | [], h => h.elim
  | o :: r, h => ⟨o, r, rfl, h.2⟩
set_option maxRecDepth 100000 in
theorem bls_0 {V : List Int} : ∀ {ls : zLs}, bLR V [] ls → ls = []
  | [], _ => rfl
  | _ :: _, h => h.elim
set_option maxRecDepth 100000 in
theorem bi0 {V : List Int} {x : Int32} {k : Nat} (hk : k < 100000) (h : brel V (.ofNat k, []) x.toInt) : x = Int32.ofNat k := Int32.toInt_inj.mp (by rw [zof9 hk]; exact brel_k h)
set_option maxRecDepth 100000 in
theorem bmulk {x : Int32} {k b : Nat} (hx : x.toInt = (b : Int)) (hb : b < 12) (hk : k < 777) : (777 * x + Int32.ofNat k).toInt = ((777 * b + k : Nat) : Int) := by
  have e1 : (777 * x).toInt = 777 * (b : Int) := by
    rw [Int32.toInt_mul, hx, show (777 : Int32).toInt = 777 by decide, bbm (by omega) (by omega)]
  rw [Int32.toInt_add, e1, zof9 (by omega), bbm (by omega) (by omega)]
  omega
set_option maxRecDepth 100000 in
theorem baddk {c : Int32} {k n : Nat} (hc : c.toInt = (n : Int)) (hn : n < 10000) (hk : k < 10000) : (c + Int32.ofNat k).toInt = ((n + k : Nat) : Int) := by
  rw [Int32.toInt_add, hc, zof9 (by omega), bbm (by omega) (by omega)]
  omega
set_option maxRecDepth 100000 in
theorem baddk2 {c : Int32} {k n : Nat} (hc : c.toInt = (n : Int)) (hn : n < 10000) (hk : k < 10000) : (Int32.ofNat k + c).toInt = ((n + k : Nat) : Int) := by
  rw [Int32.toInt_add, hc, zof9 (by omega), bbm (by omega) (by omega)]
  omega
set_option maxRecDepth 100000 in
theorem kc232_0 {E : zE} {B : Nat} : bGm E ctb B 212 sc232 1000000 nl232 nd232_0 := by
  refine bcp_good (N' := nd232_1) (List.Mem.tail _ (List.Mem.head _)) rfl rfl rfl rfl (fun V x hx h0 => ⟨0, brel_c V _, by decide, by have := brel_k hx; omega⟩) ?_
  intro V ls h hl hI hP hT hpv he
  obtain ⟨r0, e0, hl0⟩ := bls_r hl
  subst e0
  obtain ⟨x1, r1, e1, g1, hl1⟩ := bls_i hl0
  subst e1
  have ez := bls_0 hl1
  subst ez
  have ek : x1 = Int32.ofNat 0 := bi0 (by omega) g1
  subst ek
  have ha := hT 84 _ cs84 (by intro z; cases z)
  have ht := hT 86 _ cs86 (by intro z; cases z)
  have hw := hT 85 _ cs85 (by intro z; cases z)
  refine ⟨[some (.ref 84), some (.int (Int32.ofNat 1626))], (h.1, zcpg h.2.1 86 85 (0) (0) 1626, h.2.2), ?_, ?_, ?_, ?_, rfl, ?_, rfl, ?_⟩
  · intro d f hf
    refine ⟨f - 21141, by omega, ?_⟩
    have hz := zlimage_loop (E := E) (d := d) (v := h.2.1) (rest := h.2.2) ha rfl rfl ht hw (o := 0) (q := 0) (fun k hk => by rw [zof9 (by omega), Nat.zero_add]) (fun k hk => by rw [zof9 (by omega), Nat.zero_add]) (by omega) (by omega) (Or.inl (by decide)) 1626 0 (f - 21141) rfl
    rw [zcpg_0] at hz
    rw [show f - 21141 + 3 + 13 * 1626 = f by omega] at hz
    exact hz
  · exact ⟨⟨_, rfl, rfl⟩, ⟨_, rfl, _, rfl, by rw [zof9 (by omega)]; exact brel_c V _⟩, trivial⟩
  · exact bcp_full hI (by omega) (by omega) (by omega) (by omega)
  · exact bps_c rfl (show zcpg h.2.1 86 85 (0) (0) 1626 27 3 = h.2.1 27 3 from zcpg_a _ (by decide)) hP
  · intro e he9
    exact absurd he9 List.not_mem_nil
  · intro a i hb
    show zcpg h.2.1 86 85 (0) (0) 1626 a i = h.2.1 a i
    by_cases ha : a = 86
    · subst ha
      rw [show bun 86 i = bun 86 0 from rfl, show Nat.testBit sc232.2.1 (bun 86 0) = true from by decide +kernel] at hb
      cases hb
    · exact zcpg_a _ ha
set_option maxRecDepth 100000 in
theorem kc233_0 {E : zE} {B : Nat} : bGm E ctb B 213 sc233 1000000 nl233 nd233_0 := by
  refine bcp_good (N' := nd233_1) (List.Mem.tail _ (List.Mem.head _)) rfl rfl rfl rfl (fun V x hx h0 => ⟨0, brel_c V _, by decide, by have := brel_k hx; omega⟩) ?_
  intro V ls h hl hI hP hT hpv he
  obtain ⟨r0, e0, hl0⟩ := bls_r hl
  subst e0
  obtain ⟨x1, r1, e1, g1, hl1⟩ := bls_i hl0
  subst e1
  have ez := bls_0 hl1
  subst ez
  have ek : x1 = Int32.ofNat 0 := bi0 (by omega) g1
  subst ek
  have ha := hT 84 _ cs84 (by intro z; cases z)
  have ht := hT 85 _ cs85 (by intro z; cases z)
  have hw := hT 86 _ cs86 (by intro z; cases z)
  refine ⟨[some (.ref 84), some (.int (Int32.ofNat 1626))], (h.1, zcpg h.2.1 85 86 (0) (0) 1626, h.2.2), ?_, ?_, ?_, ?_, rfl, ?_, rfl, ?_⟩
  · intro d f hf
    refine ⟨f - 21141, by omega, ?_⟩
    have hz := zlback_loop (E := E) (d := d) (v := h.2.1) (rest := h.2.2) ha rfl rfl ht hw (o := 0) (q := 0) (fun k hk => by rw [zof9 (by omega), Nat.zero_add]) (fun k hk => by rw [zof9 (by omega), Nat.zero_add]) (by omega) (by omega) (Or.inl (by decide)) 1626 0 (f - 21141) rfl
    rw [zcpg_0] at hz
    rw [show f - 21141 + 3 + 13 * 1626 = f by omega] at hz
    exact hz
  · exact ⟨⟨_, rfl, rfl⟩, ⟨_, rfl, _, rfl, by rw [zof9 (by omega)]; exact brel_c V _⟩, trivial⟩
  · exact bcp_full hI (by omega) (by omega) (by omega) (by omega)
  · exact bps_c rfl (show zcpg h.2.1 85 86 (0) (0) 1626 27 3 = h.2.1 27 3 from zcpg_a _ (by decide)) hP
  · intro e he9
    exact absurd he9 List.not_mem_nil
  · intro a i hb
    show zcpg h.2.1 85 86 (0) (0) 1626 a i = h.2.1 a i
    by_cases ha : a = 85
    · subst ha
      rw [bun85] at hb
      rw [zcpg_t]
      by_cases hi : 0 ≤ i ∧ i < 0 + 1626
      · exfalso
        by_cases hr : i < 777
        · rw [breg_c, if_pos hr, bcl_a (W := sc233.2.1) (u := bU85) (by decide +kernel) i] at hb
          cases hb
        · rw [show breg i = 1 from by rw [breg_c, if_neg hr, if_pos (by omega)], show Nat.testBit sc233.2.1 (bU85 + 1) = true from by decide +kernel] at hb
          cases hb
      · exact if_neg hi
    · exact zcpg_a _ ha
set_option maxRecDepth 100000 in
theorem kc234_0 {E : zE} {B : Nat} : bGm E ctb B 214 sc234 1000000 nl234 nd234_0 := by
  refine bcp_good (N' := nd234_2) (List.Mem.tail _ (List.Mem.tail _ (List.Mem.head _))) rfl rfl rfl rfl (fun V x hx h0 => ⟨0, brel_c V _, by decide, by have := brel_k hx; omega⟩) ?_
  intro V ls h hl hI hP hT hpv he
  obtain ⟨r0, e0, hl0⟩ := bls_r hl
  subst e0
  obtain ⟨x1, r1, e1, g1, hl1⟩ := bls_i hl0
  subst e1
  have ez := bls_0 hl1
  subst ez
  have ek : x1 = Int32.ofNat 0 := bi0 (by omega) g1
  subst ek
  have h7 := hpv _ (List.Mem.head _)
  rw [bvl_n (show Nat.blt 84 900 = true from rfl)] at h7
  obtain ⟨v7, b1, b2, b3⟩ := he.2 0 _ _ rfl
  have b4 := brel_f h7 (brel_v b1)
  have b4 : (h.2.1 84 7).toInt = v7 := b4
  have ha := hT 84 _ cs84 (by intro z; cases z)
  have ht := hT 89 _ cs89 (by intro z; cases z)
  have hw := hT 85 _ cs85 (by intro z; cases z)
  refine ⟨[some (.ref 84), some (.int (Int32.ofNat 777))], (h.1, zcpg h.2.1 89 85 (777 * ((h.2.1 84 7).toInt - 1).toNat) (0) 777, h.2.2), ?_, ?_, ?_, ?_, rfl, ?_, rfl, ?_⟩
  · intro d f hf
    refine ⟨f - 15543, by omega, ?_⟩
    have hz := zlrem2_loop (E := E) (d := d) (v := h.2.1) (rest := h.2.2) (rho := h.2.1 84 7) ha rfl rfl ht hw rfl rfl (by decide) (o := 777 * ((h.2.1 84 7).toInt - 1).toNat) (q := 0) (fun k hk => bmulk (x := h.2.1 84 7 - 1) (by rw [Int32.toInt_sub, show (1 : Int32).toInt = 1 by decide, bbm (by omega) (by omega)]; omega) (by omega) hk) (fun k hk => by rw [zof9 (by omega), Nat.zero_add]) (by omega) (by omega) (Or.inl (by decide)) 777 0 (f - 15543) rfl
    rw [zcpg_0] at hz
    rw [show f - 15543 + 3 + 20 * 777 = f by omega] at hz
    exact hz
  · exact ⟨⟨_, rfl, rfl⟩, ⟨_, rfl, _, rfl, by rw [zof9 (by omega)]; exact brel_c V _⟩, trivial⟩
  · exact bcp_rem2 hI (b := ((h.2.1 84 7).toInt - 1).toNat) (by omega)
  · exact bps_c rfl (show zcpg h.2.1 89 85 (777 * ((h.2.1 84 7).toInt - 1).toNat) (0) 777 27 3 = h.2.1 27 3 from zcpg_a _ (by decide)) hP
  · intro e he9
    have hk : bvl E (h.1, zcpg h.2.1 89 85 (777 * ((h.2.1 84 7).toInt - 1).toNat) (0) 777, h.2.2) e.1 e.2.1 = bvl E h e.1 e.2.1 := by
      cases he9 with
      | head =>
        rw [bvl_n (show Nat.blt 84 900 = true from rfl), bvl_n (show Nat.blt 84 900 = true from rfl)]
        show (zcpg h.2.1 89 85 (777 * ((h.2.1 84 7).toInt - 1).toNat) (0) 777 84 7).toInt = _
        rw [zcpg_a _ (by decide)]
      | tail _ he9 => exact absurd he9 List.not_mem_nil
    rw [hk]
    exact hpv e he9
  · intro a i hb
    show zcpg h.2.1 89 85 (777 * ((h.2.1 84 7).toInt - 1).toNat) (0) 777 a i = h.2.1 a i
    by_cases ha : a = 89
    · subst ha
      rw [show bun 89 i = bun 89 0 from rfl, show Nat.testBit sc234.2.1 (bun 89 0) = true from by decide +kernel] at hb
      cases hb
    · exact zcpg_a _ ha
set_option maxRecDepth 100000 in
theorem kc234_1 {E : zE} {B : Nat} : bGm E ctb B 214 sc234 1000000 nl234 nd234_1 := by
  refine bcp_good (N' := nd234_3) (List.Mem.tail _ (List.Mem.tail _ (List.Mem.tail _ (List.Mem.head _)))) rfl rfl rfl rfl (fun V x hx h0 => ⟨2, brel_c V _, by decide, by have := brel_k hx; omega⟩) ?_
  intro V ls h hl hI hP hT hpv he
  obtain ⟨r0, e0, hl0⟩ := bls_r hl
  subst e0
  obtain ⟨x1, r1, e1, g1, hl1⟩ := bls_i hl0
  subst e1
  have ez := bls_0 hl1
  subst ez
  have ek : x1 = Int32.ofNat 0 := bi0 (by omega) g1
  subst ek
  have ha := hT 84 _ cs84 (by intro z; cases z)
  have ht := hT 89 _ cs89 (by intro z; cases z)
  have hw := hT 89 _ cs89 (by intro z; cases z)
  refine ⟨[some (.ref 84), some (.int (Int32.ofNat 8547))], (h.1, zcpg h.2.1 89 89 (0) (777) 8547, h.2.2), ?_, ?_, ?_, ?_, rfl, ?_, rfl, ?_⟩
  · intro d f hf
    refine ⟨f - 128208, by omega, ?_⟩
    have hz := zlrem1_loop (E := E) (d := d) (v := h.2.1) (rest := h.2.2) ha rfl rfl ht hw (o := 0) (q := 777) (fun k hk => by rw [zof9 (by omega), Nat.zero_add]) (fun k hk => baddk2 (by decide) (by omega) (by omega)) (by omega) (by omega) (Or.inr (by omega)) 8547 0 (f - 128208) rfl
    rw [zcpg_0] at hz
    rw [show f - 128208 + 3 + 15 * 8547 = f by omega] at hz
    exact hz
  · exact ⟨⟨_, rfl, rfl⟩, ⟨_, rfl, _, rfl, by rw [zof9 (by omega)]; exact brel_c V _⟩, trivial⟩
  · exact bcp_rem1 hI
  · exact bps_c rfl (show zcpg h.2.1 89 89 (0) (777) 8547 27 3 = h.2.1 27 3 from zcpg_a _ (by decide)) hP
  · intro e he9
    have hk : bvl E (h.1, zcpg h.2.1 89 89 (0) (777) 8547, h.2.2) e.1 e.2.1 = bvl E h e.1 e.2.1 := by
      cases he9 with
      | head =>
        rw [bvl_n (show Nat.blt 84 900 = true from rfl), bvl_n (show Nat.blt 84 900 = true from rfl)]
        show (zcpg h.2.1 89 89 (0) (777) 8547 84 7).toInt = _
        rw [zcpg_a _ (by decide)]
      | tail _ he9 => exact absurd he9 List.not_mem_nil
    rw [hk]
    exact hpv e he9
  · intro a i hb
    show zcpg h.2.1 89 89 (0) (777) 8547 a i = h.2.1 a i
    by_cases ha : a = 89
    · subst ha
      rw [show bun 89 i = bun 89 0 from rfl, show Nat.testBit sc234.2.1 (bun 89 0) = true from by decide +kernel] at hb
      cases hb
    · exact zcpg_a _ ha
set_option maxRecDepth 100000 in
theorem kc235_0 {E : zE} {B : Nat} : bGm E ctb B 215 sc235 1000000 nl235 nd235_0 := by
  refine bcp_good (N' := nd235_1) (List.Mem.tail _ (List.Mem.head _)) rfl rfl rfl rfl (fun V x hx h0 => ⟨0, brel_c V _, by decide, by have := brel_k hx; omega⟩) ?_
  intro V ls h hl hI hP hT hpv he
  obtain ⟨r0, e0, hl0⟩ := bls_r hl
  subst e0
  obtain ⟨x1, r1, e1, g1, hl1⟩ := bls_i hl0
  subst e1
  have ez := bls_0 hl1
  subst ez
  have ek : x1 = Int32.ofNat 0 := bi0 (by omega) g1
  subst ek
  have h7 := hpv _ (List.Mem.head _)
  rw [bvl_n (show Nat.blt 84 900 = true from rfl)] at h7
  obtain ⟨v7, b1, b2, b3⟩ := he.2 0 _ _ rfl
  have b4 := brel_f h7 (brel_v b1)
  have b4 : (h.2.1 84 7).toInt = v7 := b4
  have ha := hT 84 _ cs84 (by intro z; cases z)
  have ht := hT 85 _ cs85 (by intro z; cases z)
  have hw := hT 89 _ cs89 (by intro z; cases z)
  refine ⟨[some (.ref 84), some (.int (Int32.ofNat 777))], (h.1, zcpg h.2.1 85 89 (0) (777 * (h.2.1 84 7).toInt.toNat) 777, h.2.2), ?_, ?_, ?_, ?_, rfl, ?_, rfl, ?_⟩
  · intro d f hf
    refine ⟨f - 13989, by omega, ?_⟩
    have hz := zlundo_loop (E := E) (d := d) (v := h.2.1) (rest := h.2.2) (rho := h.2.1 84 7) ha rfl rfl ht hw rfl rfl (by decide) (o := 0) (q := 777 * (h.2.1 84 7).toInt.toNat) (fun k hk => by rw [zof9 (by omega), Nat.zero_add]) (fun k hk => bmulk (by omega) (by omega) hk) (by omega) (by omega) (Or.inl (by decide)) 777 0 (f - 13989) rfl
    rw [zcpg_0] at hz
    rw [show f - 13989 + 3 + 18 * 777 = f by omega] at hz
    exact hz
  · exact ⟨⟨_, rfl, rfl⟩, ⟨_, rfl, _, rfl, by rw [zof9 (by omega)]; exact brel_c V _⟩, trivial⟩
  · exact bcp_undo hI (b := (h.2.1 84 7).toInt.toNat) (by omega)
  · exact bps_c rfl (show zcpg h.2.1 85 89 (0) (777 * (h.2.1 84 7).toInt.toNat) 777 27 3 = h.2.1 27 3 from zcpg_a _ (by decide)) hP
  · intro e he9
    have hk : bvl E (h.1, zcpg h.2.1 85 89 (0) (777 * (h.2.1 84 7).toInt.toNat) 777, h.2.2) e.1 e.2.1 = bvl E h e.1 e.2.1 := by
      cases he9 with
      | head =>
        rw [bvl_n (show Nat.blt 84 900 = true from rfl), bvl_n (show Nat.blt 84 900 = true from rfl)]
        show (zcpg h.2.1 85 89 (0) (777 * (h.2.1 84 7).toInt.toNat) 777 84 7).toInt = _
        rw [zcpg_a _ (by decide)]
      | tail _ he9 => exact absurd he9 List.not_mem_nil
    rw [hk]
    exact hpv e he9
  · intro a i hb
    show zcpg h.2.1 85 89 (0) (777 * (h.2.1 84 7).toInt.toNat) 777 a i = h.2.1 a i
    by_cases ha : a = 85
    · subst ha
      rw [bun85] at hb
      rw [zcpg_t]
      by_cases hi : 0 ≤ i ∧ i < 0 + 777
      · exfalso
        rw [breg_c, if_pos (by omega), bcl_a (W := sc235.2.1) (u := bU85) (by decide +kernel) i] at hb
        cases hb
      · exact if_neg hi
    · exact zcpg_a _ ha
set_option maxRecDepth 100000 in
theorem kc342_0 {E : zE} {B : Nat} : bGm E ctb B 265 sc342 1000000 nl342 nd342_0 := by
  refine bcp_good (N' := nd342_1) (List.Mem.tail _ (List.Mem.head _)) rfl rfl rfl rfl (fun V x hx h0 => ⟨2, brel_c V _, by decide, by have := brel_k hx; omega⟩) ?_
  intro V ls h hl hI hP hT hpv he
  obtain ⟨r0, e0, hl0⟩ := bls_r hl
  subst e0
  obtain ⟨x1, r1, e1, g1, hl1⟩ := bls_i hl0
  subst e1
  obtain ⟨o2, r2, e2, hl2⟩ := bls_n hl1
  subst e2
  have ez := bls_0 hl2
  subst ez
  have ek : x1 = Int32.ofNat 0 := bi0 (by omega) g1
  subst ek
  have ha := hT 84 _ cs84 (by intro z; cases z)
  have ht := hT 87 _ cs87 (by intro z; cases z)
  have hw := hT 85 _ cs85 (by intro z; cases z)
  refine ⟨[some (.ref 84), some (.int (Int32.ofNat 1626)), o2], (h.1, zcpg h.2.1 87 85 (0) (0) 1626, h.2.2), ?_, ?_, ?_, ?_, rfl, ?_, rfl, ?_⟩
  · intro d f hf
    refine ⟨f - 21141, by omega, ?_⟩
    have hz := zlhouse1_loop (E := E) (d := d) (v := h.2.1) (rest := h.2.2) (l2 := o2) ha rfl rfl ht hw (o := 0) (q := 0) (fun k hk => by rw [zof9 (by omega), Nat.zero_add]) (fun k hk => by rw [zof9 (by omega), Nat.zero_add]) (by omega) (by omega) (Or.inl (by decide)) 1626 0 (f - 21141) rfl
    rw [zcpg_0] at hz
    rw [show f - 21141 + 3 + 13 * 1626 = f by omega] at hz
    exact hz
  · exact ⟨⟨_, rfl, rfl⟩, ⟨_, rfl, _, rfl, by rw [zof9 (by omega)]; exact brel_c V _⟩, trivial, trivial⟩
  · exact bcp_full hI (by omega) (by omega) (by omega) (by omega)
  · exact bps_c rfl (show zcpg h.2.1 87 85 (0) (0) 1626 27 3 = h.2.1 27 3 from zcpg_a _ (by decide)) hP
  · intro e he9
    have hk : bvl E (h.1, zcpg h.2.1 87 85 (0) (0) 1626, h.2.2) e.1 e.2.1 = bvl E h e.1 e.2.1 := by
      cases he9 with
      | head =>
        rw [bvl_n (show Nat.blt 84 900 = true from rfl), bvl_n (show Nat.blt 84 900 = true from rfl)]
        show (zcpg h.2.1 87 85 (0) (0) 1626 84 9).toInt = _
        rw [zcpg_a _ (by decide)]
      | tail _ he9 => exact absurd he9 List.not_mem_nil
    rw [hk]
    exact hpv e he9
  · intro a i hb
    show zcpg h.2.1 87 85 (0) (0) 1626 a i = h.2.1 a i
    by_cases ha : a = 87
    · subst ha
      rw [show bun 87 i = bun 87 0 from rfl, show Nat.testBit sc342.2.1 (bun 87 0) = true from by decide +kernel] at hb
      cases hb
    · exact zcpg_a _ ha
set_option maxRecDepth 100000 in
theorem kc342_2 {E : zE} {B : Nat} : bGm E ctb B 265 sc342 1000000 nl342 nd342_2 := by
  refine bcp_good (N' := nd342_3) (List.Mem.tail _ (List.Mem.tail _ (List.Mem.tail _ (List.Mem.head _)))) rfl rfl rfl rfl (fun V x hx h0 => ⟨0, brel_c V _, by decide, by have := brel_k hx; omega⟩) ?_
  intro V ls h hl hI hP hT hpv he
  obtain ⟨r0, e0, hl0⟩ := bls_r hl
  subst e0
  obtain ⟨x1, r1, e1, g1, hl1⟩ := bls_i hl0
  subst e1
  obtain ⟨x2, r2, e2, g2, hl2⟩ := bls_i hl1
  subst e2
  have ez := bls_0 hl2
  subst ez
  have ek : x2 = Int32.ofNat 0 := bi0 (by omega) g2
  subst ek
  have ha := hT 84 _ cs84 (by intro z; cases z)
  have ht := hT 85 _ cs85 (by intro z; cases z)
  have hw := hT 87 _ cs87 (by intro z; cases z)
  refine ⟨[some (.ref 84), some (.int x1), some (.int (Int32.ofNat 1626))], (h.1, zcpg h.2.1 85 87 (0) (0) 1626, h.2.2), ?_, ?_, ?_, ?_, rfl, ?_, rfl, ?_⟩
  · intro d f hf
    refine ⟨f - 21141, by omega, ?_⟩
    have hz := zlhouse2_loop (E := E) (d := d) (v := h.2.1) (rest := h.2.2) (l1 := x1) ha rfl rfl ht hw (o := 0) (q := 0) (fun k hk => by rw [zof9 (by omega), Nat.zero_add]) (fun k hk => by rw [zof9 (by omega), Nat.zero_add]) (by omega) (by omega) (Or.inl (by decide)) 1626 0 (f - 21141) rfl
    rw [zcpg_0] at hz
    rw [show f - 21141 + 3 + 13 * 1626 = f by omega] at hz
    exact hz
  · exact ⟨⟨_, rfl, rfl⟩, ⟨_, rfl, _, rfl, g1⟩, ⟨_, rfl, _, rfl, by rw [zof9 (by omega)]; exact brel_c V _⟩, trivial⟩
  · exact bcp_full hI (by omega) (by omega) (by omega) (by omega)
  · exact bps_c rfl (show zcpg h.2.1 85 87 (0) (0) 1626 27 3 = h.2.1 27 3 from zcpg_a _ (by decide)) hP
  · intro e he9
    have hk : bvl E (h.1, zcpg h.2.1 85 87 (0) (0) 1626, h.2.2) e.1 e.2.1 = bvl E h e.1 e.2.1 := by
      cases he9 with
      | head =>
        rw [bvl_n (show Nat.blt 84 900 = true from rfl), bvl_n (show Nat.blt 84 900 = true from rfl)]
        show (zcpg h.2.1 85 87 (0) (0) 1626 84 9).toInt = _
        rw [zcpg_a _ (by decide)]
      | tail _ he9 => exact absurd he9 List.not_mem_nil
    rw [hk]
    exact hpv e he9
  · intro a i hb
    show zcpg h.2.1 85 87 (0) (0) 1626 a i = h.2.1 a i
    by_cases ha : a = 85
    · subst ha
      rw [bun85] at hb
      rw [zcpg_t]
      by_cases hi : 0 ≤ i ∧ i < 0 + 1626
      · exfalso
        by_cases hr : i < 777
        · rw [breg_c, if_pos hr, bcl_a (W := sc342.2.1) (u := bU85) (by decide +kernel) i] at hb
          cases hb
        · rw [show breg i = 1 from by rw [breg_c, if_neg hr, if_pos (by omega)], show Nat.testBit sc342.2.1 (bU85 + 1) = true from by decide +kernel] at hb
          cases hb
      · exact if_neg hi
    · exact zcpg_a _ ha
set_option maxRecDepth 100000 in
theorem kc342_4 {E : zE} {B : Nat} : bGm E ctb B 265 sc342 1000000 nl342 nd342_4 := by
  refine bcp_good (N' := nd342_5) (List.Mem.tail _ (List.Mem.tail _ (List.Mem.tail _ (List.Mem.tail _ (List.Mem.tail _ (List.Mem.head _)))))) rfl rfl rfl rfl (fun V x hx h0 => ⟨0, brel_c V _, by decide, by have := brel_k hx; omega⟩) ?_
  intro V ls h hl hI hP hT hpv he
  obtain ⟨r0, e0, hl0⟩ := bls_r hl
  subst e0
  obtain ⟨x1, r1, e1, g1, hl1⟩ := bls_i hl0
  subst e1
  obtain ⟨x2, r2, e2, g2, hl2⟩ := bls_i hl1
  subst e2
  have ez := bls_0 hl2
  subst ez
  have ek : x2 = Int32.ofNat 0 := bi0 (by omega) g2
  subst ek
  have ha := hT 84 _ cs84 (by intro z; cases z)
  have ht := hT 85 _ cs85 (by intro z; cases z)
  have hw := hT 87 _ cs87 (by intro z; cases z)
  refine ⟨[some (.ref 84), some (.int x1), some (.int (Int32.ofNat 1626))], (h.1, zcpg h.2.1 85 87 (0) (0) 1626, h.2.2), ?_, ?_, ?_, ?_, rfl, ?_, rfl, ?_⟩
  · intro d f hf
    refine ⟨f - 21141, by omega, ?_⟩
    have hz := zlhouse2_loop (E := E) (d := d) (v := h.2.1) (rest := h.2.2) (l1 := x1) ha rfl rfl ht hw (o := 0) (q := 0) (fun k hk => by rw [zof9 (by omega), Nat.zero_add]) (fun k hk => by rw [zof9 (by omega), Nat.zero_add]) (by omega) (by omega) (Or.inl (by decide)) 1626 0 (f - 21141) rfl
    rw [zcpg_0] at hz
    rw [show f - 21141 + 3 + 13 * 1626 = f by omega] at hz
    exact hz
  · exact ⟨⟨_, rfl, rfl⟩, ⟨_, rfl, _, rfl, g1⟩, ⟨_, rfl, _, rfl, by rw [zof9 (by omega)]; exact brel_c V _⟩, trivial⟩
  · exact bcp_full hI (by omega) (by omega) (by omega) (by omega)
  · exact bps_c rfl (show zcpg h.2.1 85 87 (0) (0) 1626 27 3 = h.2.1 27 3 from zcpg_a _ (by decide)) hP
  · intro e he9
    have hk : bvl E (h.1, zcpg h.2.1 85 87 (0) (0) 1626, h.2.2) e.1 e.2.1 = bvl E h e.1 e.2.1 := by
      cases he9 with
      | head =>
        rw [bvl_n (show Nat.blt 84 900 = true from rfl), bvl_n (show Nat.blt 84 900 = true from rfl)]
        show (zcpg h.2.1 85 87 (0) (0) 1626 84 9).toInt = _
        rw [zcpg_a _ (by decide)]
      | tail _ he9 => exact absurd he9 List.not_mem_nil
    rw [hk]
    exact hpv e he9
  · intro a i hb
    show zcpg h.2.1 85 87 (0) (0) 1626 a i = h.2.1 a i
    by_cases ha : a = 85
    · subst ha
      rw [bun85] at hb
      rw [zcpg_t]
      by_cases hi : 0 ≤ i ∧ i < 0 + 1626
      · exfalso
        by_cases hr : i < 777
        · rw [breg_c, if_pos hr, bcl_a (W := sc342.2.1) (u := bU85) (by decide +kernel) i] at hb
          cases hb
        · rw [show breg i = 1 from by rw [breg_c, if_neg hr, if_pos (by omega)], show Nat.testBit sc342.2.1 (bU85 + 1) = true from by decide +kernel] at hb
          cases hb
      · exact if_neg hi
    · exact zcpg_a _ ha
set_option maxRecDepth 100000 in
theorem kc343_0 {E : zE} {B : Nat} : bGm E ctb B 266 sc343 1000000 nl343 nd343_0 := by
  refine bcp_good (N' := nd343_1) (List.Mem.tail _ (List.Mem.head _)) rfl rfl rfl rfl (fun V x hx h0 => ⟨0, brel_c V _, by decide, by have := brel_k hx; omega⟩) ?_
  intro V ls h hl hI hP hT hpv he
  obtain ⟨r0, e0, hl0⟩ := bls_r hl
  subst e0
  obtain ⟨x1, r1, e1, g1, hl1⟩ := bls_i hl0
  subst e1
  obtain ⟨x2, r2, e2, g2, hl2⟩ := bls_i hl1
  subst e2
  have ez := bls_0 hl2
  subst ez
  have ek : x2 = Int32.ofNat 0 := bi0 (by omega) g2
  subst ek
  have h6 := hpv _ (List.Mem.head _)
  rw [bvl_n (show Nat.blt 85 900 = true from rfl)] at h6
  have h6 := brel_k h6
  have h5 := hpv _ (List.Mem.tail _ (List.Mem.head _))
  rw [bvl_3] at h5
  have h5 := bpf_1 (brel_k h5)
  have hok : bokn h (h.2.1 85 1626).toInt.toNat := by
    rw [show (h.2.1 85 1626).toInt.toNat = 0 from by rw [show (h.2.1 85 1626).toInt = _ from h6]; rfl]
    exact h5
  have ha := hT 84 _ cs84 (by intro z; cases z)
  have ht := hT 85 _ cs85 (by intro z; cases z)
  have hw := hT 85 _ cs85 (by intro z; cases z)
  refine ⟨[some (.ref 84), some (.int x1), some (.int (Int32.ofNat 849))], (h.1, zcpg h.2.1 85 85 (777) (1626) 849, h.2.2), ?_, ?_, ?_, ?_, rfl, ?_, rfl, ?_⟩
  · intro d f hf
    refine ⟨f - 14436, by omega, ?_⟩
    have hz := zllaw_loop (E := E) (d := d) (v := h.2.1) (rest := h.2.2) (l1 := x1) ha rfl rfl ht hw (o := 777) (q := 1626) (fun k hk => baddk (by decide) (by omega) (by omega)) (fun k hk => baddk (by decide) (by omega) (by omega)) (by omega) (by omega) (Or.inr (by omega)) 849 0 (f - 14436) rfl
    rw [zcpg_0] at hz
    rw [show f - 14436 + 3 + 17 * 849 = f by omega] at hz
    exact hz
  · exact ⟨⟨_, rfl, rfl⟩, ⟨_, rfl, _, rfl, g1⟩, ⟨_, rfl, _, rfl, by rw [zof9 (by omega)]; exact brel_c V _⟩, trivial⟩
  · exact bcp_law hI hok
  · exact bps_c rfl (show zcpg h.2.1 85 85 (777) (1626) 849 27 3 = h.2.1 27 3 from zcpg_a _ (by decide)) hP
  · intro e he9
    have hk : bvl E (h.1, zcpg h.2.1 85 85 777 1626 849, h.2.2) e.1 e.2.1 = bvl E h e.1 e.2.1 := by
      cases he9 with
      | head =>
        rw [bvl_n (show Nat.blt 85 900 = true from rfl), bvl_n (show Nat.blt 85 900 = true from rfl)]
        show (zcpg h.2.1 85 85 777 1626 849 85 1626).toInt = _
        rw [zcpg_t, if_neg (by omega)]
      | tail _ he9 =>
        cases he9 with
        | head =>
          refine bvl_e rfl (fun z => by cases z) (fun z => by cases z) (fun _ => ⟨fun p hp => ?_, show zcpg h.2.1 85 85 777 1626 849 84 16 = h.2.1 84 16 from zcpg_a _ (by decide)⟩)
          show zcpg h.2.1 85 85 777 1626 849 85 p = _
          rw [zcpg_t, if_neg (by omega)]
        | tail _ he9 =>
          cases he9 with
          | head =>
            rw [bvl_n (show Nat.blt 84 900 = true from rfl), bvl_n (show Nat.blt 84 900 = true from rfl)]
            show (zcpg h.2.1 85 85 777 1626 849 84 9).toInt = _
            rw [zcpg_a _ (by decide)]
          | tail _ he9 => exact absurd he9 List.not_mem_nil
    rw [hk]
    exact hpv e he9
  · intro a i hb
    show zcpg h.2.1 85 85 (777) (1626) 849 a i = h.2.1 a i
    by_cases ha : a = 85
    · subst ha
      rw [bun85] at hb
      rw [zcpg_t]
      by_cases hi : 777 ≤ i ∧ i < 777 + 849
      · exfalso
        rw [show breg i = 1 from by rw [breg_c, if_neg (by omega), if_pos (by omega)], show Nat.testBit sc343.2.1 (bU85 + 1) = true from by decide +kernel] at hb
        cases hb
      · exact if_neg hi
    · exact zcpg_a _ ha
set_option maxRecDepth 100000 in
theorem kc343_2 {E : zE} {B : Nat} : bGm E ctb B 266 sc343 1000000 nl343 nd343_2 := by
  refine bcp_good (N' := nd343_3) (List.Mem.tail _ (List.Mem.tail _ (List.Mem.tail _ (List.Mem.head _)))) rfl rfl rfl rfl (fun V x hx h0 => ⟨0, brel_c V _, by decide, by have := brel_k hx; omega⟩) ?_
  intro V ls h hl hI hP hT hpv he
  obtain ⟨r0, e0, hl0⟩ := bls_r hl
  subst e0
  obtain ⟨x1, r1, e1, g1, hl1⟩ := bls_i hl0
  subst e1
  obtain ⟨x2, r2, e2, g2, hl2⟩ := bls_i hl1
  subst e2
  have ez := bls_0 hl2
  subst ez
  have ek : x2 = Int32.ofNat 0 := bi0 (by omega) g2
  subst ek
  have h6 := hpv _ (List.Mem.head _)
  rw [bvl_n (show Nat.blt 85 900 = true from rfl)] at h6
  have h6 := brel_k h6
  have h5 := hpv _ (List.Mem.tail _ (List.Mem.head _))
  rw [bvl_3] at h5
  have h5 := bpf_1 (brel_k h5)
  have hok : bokn h (h.2.1 85 1626).toInt.toNat := by
    rw [show (h.2.1 85 1626).toInt.toNat = 1 from by rw [show (h.2.1 85 1626).toInt = _ from h6]; rfl]
    exact h5
  have ha := hT 84 _ cs84 (by intro z; cases z)
  have ht := hT 85 _ cs85 (by intro z; cases z)
  have hw := hT 85 _ cs85 (by intro z; cases z)
  refine ⟨[some (.ref 84), some (.int x1), some (.int (Int32.ofNat 849))], (h.1, zcpg h.2.1 85 85 (777) (1626) 849, h.2.2), ?_, ?_, ?_, ?_, rfl, ?_, rfl, ?_⟩
  · intro d f hf
    refine ⟨f - 14436, by omega, ?_⟩
    have hz := zllaw_loop (E := E) (d := d) (v := h.2.1) (rest := h.2.2) (l1 := x1) ha rfl rfl ht hw (o := 777) (q := 1626) (fun k hk => baddk (by decide) (by omega) (by omega)) (fun k hk => baddk (by decide) (by omega) (by omega)) (by omega) (by omega) (Or.inr (by omega)) 849 0 (f - 14436) rfl
    rw [zcpg_0] at hz
    rw [show f - 14436 + 3 + 17 * 849 = f by omega] at hz
    exact hz
  · exact ⟨⟨_, rfl, rfl⟩, ⟨_, rfl, _, rfl, g1⟩, ⟨_, rfl, _, rfl, by rw [zof9 (by omega)]; exact brel_c V _⟩, trivial⟩
  · exact bcp_law hI hok
  · exact bps_c rfl (show zcpg h.2.1 85 85 (777) (1626) 849 27 3 = h.2.1 27 3 from zcpg_a _ (by decide)) hP
  · intro e he9
    have hk : bvl E (h.1, zcpg h.2.1 85 85 777 1626 849, h.2.2) e.1 e.2.1 = bvl E h e.1 e.2.1 := by
      cases he9 with
      | head =>
        rw [bvl_n (show Nat.blt 85 900 = true from rfl), bvl_n (show Nat.blt 85 900 = true from rfl)]
        show (zcpg h.2.1 85 85 777 1626 849 85 1626).toInt = _
        rw [zcpg_t, if_neg (by omega)]
      | tail _ he9 =>
        cases he9 with
        | head =>
          refine bvl_e rfl (fun z => by cases z) (fun z => by cases z) (fun _ => ⟨fun p hp => ?_, show zcpg h.2.1 85 85 777 1626 849 84 16 = h.2.1 84 16 from zcpg_a _ (by decide)⟩)
          show zcpg h.2.1 85 85 777 1626 849 85 p = _
          rw [zcpg_t, if_neg (by omega)]
        | tail _ he9 =>
          cases he9 with
          | head =>
            rw [bvl_n (show Nat.blt 84 900 = true from rfl), bvl_n (show Nat.blt 84 900 = true from rfl)]
            show (zcpg h.2.1 85 85 777 1626 849 84 9).toInt = _
            rw [zcpg_a _ (by decide)]
          | tail _ he9 => exact absurd he9 List.not_mem_nil
    rw [hk]
    exact hpv e he9
  · intro a i hb
    show zcpg h.2.1 85 85 (777) (1626) 849 a i = h.2.1 a i
    by_cases ha : a = 85
    · subst ha
      rw [bun85] at hb
      rw [zcpg_t]
      by_cases hi : 777 ≤ i ∧ i < 777 + 849
      · exfalso
        rw [show breg i = 1 from by rw [breg_c, if_neg (by omega), if_pos (by omega)], show Nat.testBit sc343.2.1 (bU85 + 1) = true from by decide +kernel] at hb
        cases hb
      · exact if_neg hi
    · exact zcpg_a _ ha
set_option maxRecDepth 100000 in
theorem kc343_4 {E : zE} {B : Nat} : bGm E ctb B 266 sc343 1000000 nl343 nd343_4 := by
  refine bcp_good (N' := nd343_5) (List.Mem.tail _ (List.Mem.tail _ (List.Mem.tail _ (List.Mem.tail _ (List.Mem.tail _ (List.Mem.head _)))))) rfl rfl rfl rfl (fun V x hx h0 => ⟨0, brel_c V _, by decide, by have := brel_k hx; omega⟩) ?_
  intro V ls h hl hI hP hT hpv he
  obtain ⟨r0, e0, hl0⟩ := bls_r hl
  subst e0
  obtain ⟨x1, r1, e1, g1, hl1⟩ := bls_i hl0
  subst e1
  obtain ⟨x2, r2, e2, g2, hl2⟩ := bls_i hl1
  subst e2
  have ez := bls_0 hl2
  subst ez
  have ek : x2 = Int32.ofNat 0 := bi0 (by omega) g2
  subst ek
  have h6 := hpv _ (List.Mem.head _)
  rw [bvl_n (show Nat.blt 85 900 = true from rfl)] at h6
  have h6 := brel_k h6
  have h5 := hpv _ (List.Mem.tail _ (List.Mem.head _))
  rw [bvl_3] at h5
  have h5 := bpf_1 (brel_k h5)
  have hok : bokn h (h.2.1 85 1626).toInt.toNat := by
    rw [show (h.2.1 85 1626).toInt.toNat = 2 from by rw [show (h.2.1 85 1626).toInt = _ from h6]; rfl]
    exact h5
  have ha := hT 84 _ cs84 (by intro z; cases z)
  have ht := hT 85 _ cs85 (by intro z; cases z)
  have hw := hT 85 _ cs85 (by intro z; cases z)
  refine ⟨[some (.ref 84), some (.int x1), some (.int (Int32.ofNat 849))], (h.1, zcpg h.2.1 85 85 (777) (1626) 849, h.2.2), ?_, ?_, ?_, ?_, rfl, ?_, rfl, ?_⟩
  · intro d f hf
    refine ⟨f - 14436, by omega, ?_⟩
    have hz := zllaw_loop (E := E) (d := d) (v := h.2.1) (rest := h.2.2) (l1 := x1) ha rfl rfl ht hw (o := 777) (q := 1626) (fun k hk => baddk (by decide) (by omega) (by omega)) (fun k hk => baddk (by decide) (by omega) (by omega)) (by omega) (by omega) (Or.inr (by omega)) 849 0 (f - 14436) rfl
    rw [zcpg_0] at hz
    rw [show f - 14436 + 3 + 17 * 849 = f by omega] at hz
    exact hz
  · exact ⟨⟨_, rfl, rfl⟩, ⟨_, rfl, _, rfl, g1⟩, ⟨_, rfl, _, rfl, by rw [zof9 (by omega)]; exact brel_c V _⟩, trivial⟩
  · exact bcp_law hI hok
  · exact bps_c rfl (show zcpg h.2.1 85 85 (777) (1626) 849 27 3 = h.2.1 27 3 from zcpg_a _ (by decide)) hP
  · intro e he9
    have hk : bvl E (h.1, zcpg h.2.1 85 85 777 1626 849, h.2.2) e.1 e.2.1 = bvl E h e.1 e.2.1 := by
      cases he9 with
      | head =>
        rw [bvl_n (show Nat.blt 85 900 = true from rfl), bvl_n (show Nat.blt 85 900 = true from rfl)]
        show (zcpg h.2.1 85 85 777 1626 849 85 1626).toInt = _
        rw [zcpg_t, if_neg (by omega)]
      | tail _ he9 =>
        cases he9 with
        | head =>
          refine bvl_e rfl (fun z => by cases z) (fun z => by cases z) (fun _ => ⟨fun p hp => ?_, show zcpg h.2.1 85 85 777 1626 849 84 16 = h.2.1 84 16 from zcpg_a _ (by decide)⟩)
          show zcpg h.2.1 85 85 777 1626 849 85 p = _
          rw [zcpg_t, if_neg (by omega)]
        | tail _ he9 =>
          cases he9 with
          | head =>
            rw [bvl_n (show Nat.blt 84 900 = true from rfl), bvl_n (show Nat.blt 84 900 = true from rfl)]
            show (zcpg h.2.1 85 85 777 1626 849 84 9).toInt = _
            rw [zcpg_a _ (by decide)]
          | tail _ he9 => exact absurd he9 List.not_mem_nil
    rw [hk]
    exact hpv e he9
  · intro a i hb
    show zcpg h.2.1 85 85 (777) (1626) 849 a i = h.2.1 a i
    by_cases ha : a = 85
    · subst ha
      rw [bun85] at hb
      rw [zcpg_t]
      by_cases hi : 777 ≤ i ∧ i < 777 + 849
      · exfalso
        rw [show breg i = 1 from by rw [breg_c, if_neg (by omega), if_pos (by omega)], show Nat.testBit sc343.2.1 (bU85 + 1) = true from by decide +kernel] at hb
        cases hb
      · exact if_neg hi
    · exact zcpg_a _ ha
set_option maxRecDepth 100000 in
theorem kc343_6 {E : zE} {B : Nat} : bGm E ctb B 266 sc343 1000000 nl343 nd343_6 := by
  refine bcp_good (N' := nd343_7) (List.Mem.tail _ (List.Mem.tail _ (List.Mem.tail _ (List.Mem.tail _ (List.Mem.tail _ (List.Mem.tail _ (List.Mem.tail _ (List.Mem.head _)))))))) rfl rfl rfl rfl (fun V x hx h0 => ⟨0, brel_c V _, by decide, by have := brel_k hx; omega⟩) ?_
  intro V ls h hl hI hP hT hpv he
  obtain ⟨r0, e0, hl0⟩ := bls_r hl
  subst e0
  obtain ⟨x1, r1, e1, g1, hl1⟩ := bls_i hl0
  subst e1
  obtain ⟨x2, r2, e2, g2, hl2⟩ := bls_i hl1
  subst e2
  have ez := bls_0 hl2
  subst ez
  have ek : x2 = Int32.ofNat 0 := bi0 (by omega) g2
  subst ek
  have h6 := hpv _ (List.Mem.head _)
  rw [bvl_n (show Nat.blt 85 900 = true from rfl)] at h6
  have h6 := brel_k h6
  have h5 := hpv _ (List.Mem.tail _ (List.Mem.head _))
  rw [bvl_3] at h5
  have h5 := bpf_1 (brel_k h5)
  have hok : bokn h (h.2.1 85 1626).toInt.toNat := by
    rw [show (h.2.1 85 1626).toInt.toNat = 3 from by rw [show (h.2.1 85 1626).toInt = _ from h6]; rfl]
    exact h5
  have ha := hT 84 _ cs84 (by intro z; cases z)
  have ht := hT 85 _ cs85 (by intro z; cases z)
  have hw := hT 85 _ cs85 (by intro z; cases z)
  refine ⟨[some (.ref 84), some (.int x1), some (.int (Int32.ofNat 849))], (h.1, zcpg h.2.1 85 85 (777) (1626) 849, h.2.2), ?_, ?_, ?_, ?_, rfl, ?_, rfl, ?_⟩
  · intro d f hf
    refine ⟨f - 14436, by omega, ?_⟩
    have hz := zllaw_loop (E := E) (d := d) (v := h.2.1) (rest := h.2.2) (l1 := x1) ha rfl rfl ht hw (o := 777) (q := 1626) (fun k hk => baddk (by decide) (by omega) (by omega)) (fun k hk => baddk (by decide) (by omega) (by omega)) (by omega) (by omega) (Or.inr (by omega)) 849 0 (f - 14436) rfl
    rw [zcpg_0] at hz
    rw [show f - 14436 + 3 + 17 * 849 = f by omega] at hz
    exact hz
  · exact ⟨⟨_, rfl, rfl⟩, ⟨_, rfl, _, rfl, g1⟩, ⟨_, rfl, _, rfl, by rw [zof9 (by omega)]; exact brel_c V _⟩, trivial⟩
  · exact bcp_law hI hok
  · exact bps_c rfl (show zcpg h.2.1 85 85 (777) (1626) 849 27 3 = h.2.1 27 3 from zcpg_a _ (by decide)) hP
  · intro e he9
    have hk : bvl E (h.1, zcpg h.2.1 85 85 777 1626 849, h.2.2) e.1 e.2.1 = bvl E h e.1 e.2.1 := by
      cases he9 with
      | head =>
        rw [bvl_n (show Nat.blt 85 900 = true from rfl), bvl_n (show Nat.blt 85 900 = true from rfl)]
        show (zcpg h.2.1 85 85 777 1626 849 85 1626).toInt = _
        rw [zcpg_t, if_neg (by omega)]
      | tail _ he9 =>
        cases he9 with
        | head =>
          refine bvl_e rfl (fun z => by cases z) (fun z => by cases z) (fun _ => ⟨fun p hp => ?_, show zcpg h.2.1 85 85 777 1626 849 84 16 = h.2.1 84 16 from zcpg_a _ (by decide)⟩)
          show zcpg h.2.1 85 85 777 1626 849 85 p = _
          rw [zcpg_t, if_neg (by omega)]
        | tail _ he9 =>
          cases he9 with
          | head =>
            rw [bvl_n (show Nat.blt 84 900 = true from rfl), bvl_n (show Nat.blt 84 900 = true from rfl)]
            show (zcpg h.2.1 85 85 777 1626 849 84 9).toInt = _
            rw [zcpg_a _ (by decide)]
          | tail _ he9 => exact absurd he9 List.not_mem_nil
    rw [hk]
    exact hpv e he9
  · intro a i hb
    show zcpg h.2.1 85 85 (777) (1626) 849 a i = h.2.1 a i
    by_cases ha : a = 85
    · subst ha
      rw [bun85] at hb
      rw [zcpg_t]
      by_cases hi : 777 ≤ i ∧ i < 777 + 849
      · exfalso
        rw [show breg i = 1 from by rw [breg_c, if_neg (by omega), if_pos (by omega)], show Nat.testBit sc343.2.1 (bU85 + 1) = true from by decide +kernel] at hb
        cases hb
      · exact if_neg hi
    · exact zcpg_a _ ha
set_option maxRecDepth 100000 in
theorem kc343_8 {E : zE} {B : Nat} : bGm E ctb B 266 sc343 1000000 nl343 nd343_8 := by
  refine bcp_good (N' := nd343_9) (List.Mem.tail _ (List.Mem.tail _ (List.Mem.tail _ (List.Mem.tail _ (List.Mem.tail _ (List.Mem.tail _ (List.Mem.tail _ (List.Mem.tail _ (List.Mem.tail _ (List.Mem.head _)))))))))) rfl rfl rfl rfl (fun V x hx h0 => ⟨0, brel_c V _, by decide, by have := brel_k hx; omega⟩) ?_
  intro V ls h hl hI hP hT hpv he
  obtain ⟨r0, e0, hl0⟩ := bls_r hl
  subst e0
  obtain ⟨x1, r1, e1, g1, hl1⟩ := bls_i hl0
  subst e1
  obtain ⟨x2, r2, e2, g2, hl2⟩ := bls_i hl1
  subst e2
  have ez := bls_0 hl2
  subst ez
  have ek : x2 = Int32.ofNat 0 := bi0 (by omega) g2
  subst ek
  have h6 := hpv _ (List.Mem.head _)
  rw [bvl_n (show Nat.blt 85 900 = true from rfl)] at h6
  have h6 := brel_k h6
  have h5 := hpv _ (List.Mem.tail _ (List.Mem.head _))
  rw [bvl_3] at h5
  have h5 := bpf_1 (brel_k h5)
  have hok : bokn h (h.2.1 85 1626).toInt.toNat := by
    rw [show (h.2.1 85 1626).toInt.toNat = 4 from by rw [show (h.2.1 85 1626).toInt = _ from h6]; rfl]
    exact h5
  have ha := hT 84 _ cs84 (by intro z; cases z)
  have ht := hT 85 _ cs85 (by intro z; cases z)
  have hw := hT 85 _ cs85 (by intro z; cases z)
  refine ⟨[some (.ref 84), some (.int x1), some (.int (Int32.ofNat 849))], (h.1, zcpg h.2.1 85 85 (777) (1626) 849, h.2.2), ?_, ?_, ?_, ?_, rfl, ?_, rfl, ?_⟩
  · intro d f hf
    refine ⟨f - 14436, by omega, ?_⟩
    have hz := zllaw_loop (E := E) (d := d) (v := h.2.1) (rest := h.2.2) (l1 := x1) ha rfl rfl ht hw (o := 777) (q := 1626) (fun k hk => baddk (by decide) (by omega) (by omega)) (fun k hk => baddk (by decide) (by omega) (by omega)) (by omega) (by omega) (Or.inr (by omega)) 849 0 (f - 14436) rfl
    rw [zcpg_0] at hz
    rw [show f - 14436 + 3 + 17 * 849 = f by omega] at hz
    exact hz
  · exact ⟨⟨_, rfl, rfl⟩, ⟨_, rfl, _, rfl, g1⟩, ⟨_, rfl, _, rfl, by rw [zof9 (by omega)]; exact brel_c V _⟩, trivial⟩
  · exact bcp_law hI hok
  · exact bps_c rfl (show zcpg h.2.1 85 85 (777) (1626) 849 27 3 = h.2.1 27 3 from zcpg_a _ (by decide)) hP
  · intro e he9
    have hk : bvl E (h.1, zcpg h.2.1 85 85 777 1626 849, h.2.2) e.1 e.2.1 = bvl E h e.1 e.2.1 := by
      cases he9 with
      | head =>
        rw [bvl_n (show Nat.blt 85 900 = true from rfl), bvl_n (show Nat.blt 85 900 = true from rfl)]
        show (zcpg h.2.1 85 85 777 1626 849 85 1626).toInt = _
        rw [zcpg_t, if_neg (by omega)]
      | tail _ he9 =>
        cases he9 with
        | head =>
          refine bvl_e rfl (fun z => by cases z) (fun z => by cases z) (fun _ => ⟨fun p hp => ?_, show zcpg h.2.1 85 85 777 1626 849 84 16 = h.2.1 84 16 from zcpg_a _ (by decide)⟩)
          show zcpg h.2.1 85 85 777 1626 849 85 p = _
          rw [zcpg_t, if_neg (by omega)]
        | tail _ he9 =>
          cases he9 with
          | head =>
            rw [bvl_n (show Nat.blt 84 900 = true from rfl), bvl_n (show Nat.blt 84 900 = true from rfl)]
            show (zcpg h.2.1 85 85 777 1626 849 84 9).toInt = _
            rw [zcpg_a _ (by decide)]
          | tail _ he9 => exact absurd he9 List.not_mem_nil
    rw [hk]
    exact hpv e he9
  · intro a i hb
    show zcpg h.2.1 85 85 (777) (1626) 849 a i = h.2.1 a i
    by_cases ha : a = 85
    · subst ha
      rw [bun85] at hb
      rw [zcpg_t]
      by_cases hi : 777 ≤ i ∧ i < 777 + 849
      · exfalso
        rw [show breg i = 1 from by rw [breg_c, if_neg (by omega), if_pos (by omega)], show Nat.testBit sc343.2.1 (bU85 + 1) = true from by decide +kernel] at hb
        cases hb
      · exact if_neg hi
    · exact zcpg_a _ ha
set_option maxRecDepth 100000 in
theorem kc343_10 {E : zE} {B : Nat} : bGm E ctb B 266 sc343 1000000 nl343 nd343_10 := by
  refine bcp_good (N' := nd343_11) (List.Mem.tail _ (List.Mem.tail _ (List.Mem.tail _ (List.Mem.tail _ (List.Mem.tail _ (List.Mem.tail _ (List.Mem.tail _ (List.Mem.tail _ (List.Mem.tail _ (List.Mem.tail _ (List.Mem.tail _ (List.Mem.head _)))))))))))) rfl rfl rfl rfl (fun V x hx h0 => ⟨0, brel_c V _, by decide, by have := brel_k hx; omega⟩) ?_
  intro V ls h hl hI hP hT hpv he
  obtain ⟨r0, e0, hl0⟩ := bls_r hl
  subst e0
  obtain ⟨x1, r1, e1, g1, hl1⟩ := bls_i hl0
  subst e1
  obtain ⟨x2, r2, e2, g2, hl2⟩ := bls_i hl1
  subst e2
  have ez := bls_0 hl2
  subst ez
  have ek : x2 = Int32.ofNat 0 := bi0 (by omega) g2
  subst ek
  have h6 := hpv _ (List.Mem.head _)
  rw [bvl_n (show Nat.blt 85 900 = true from rfl)] at h6
  have h6 := brel_k h6
  have h5 := hpv _ (List.Mem.tail _ (List.Mem.head _))
  rw [bvl_3] at h5
  have h5 := bpf_1 (brel_k h5)
  have hok : bokn h (h.2.1 85 1626).toInt.toNat := by
    rw [show (h.2.1 85 1626).toInt.toNat = 5 from by rw [show (h.2.1 85 1626).toInt = _ from h6]; rfl]
    exact h5
  have ha := hT 84 _ cs84 (by intro z; cases z)
  have ht := hT 85 _ cs85 (by intro z; cases z)
  have hw := hT 85 _ cs85 (by intro z; cases z)
  refine ⟨[some (.ref 84), some (.int x1), some (.int (Int32.ofNat 849))], (h.1, zcpg h.2.1 85 85 (777) (1626) 849, h.2.2), ?_, ?_, ?_, ?_, rfl, ?_, rfl, ?_⟩
  · intro d f hf
    refine ⟨f - 14436, by omega, ?_⟩
    have hz := zllaw_loop (E := E) (d := d) (v := h.2.1) (rest := h.2.2) (l1 := x1) ha rfl rfl ht hw (o := 777) (q := 1626) (fun k hk => baddk (by decide) (by omega) (by omega)) (fun k hk => baddk (by decide) (by omega) (by omega)) (by omega) (by omega) (Or.inr (by omega)) 849 0 (f - 14436) rfl
    rw [zcpg_0] at hz
    rw [show f - 14436 + 3 + 17 * 849 = f by omega] at hz
    exact hz
  · exact ⟨⟨_, rfl, rfl⟩, ⟨_, rfl, _, rfl, g1⟩, ⟨_, rfl, _, rfl, by rw [zof9 (by omega)]; exact brel_c V _⟩, trivial⟩
  · exact bcp_law hI hok
  · exact bps_c rfl (show zcpg h.2.1 85 85 (777) (1626) 849 27 3 = h.2.1 27 3 from zcpg_a _ (by decide)) hP
  · intro e he9
    have hk : bvl E (h.1, zcpg h.2.1 85 85 777 1626 849, h.2.2) e.1 e.2.1 = bvl E h e.1 e.2.1 := by
      cases he9 with
      | head =>
        rw [bvl_n (show Nat.blt 85 900 = true from rfl), bvl_n (show Nat.blt 85 900 = true from rfl)]
        show (zcpg h.2.1 85 85 777 1626 849 85 1626).toInt = _
        rw [zcpg_t, if_neg (by omega)]
      | tail _ he9 =>
        cases he9 with
        | head =>
          refine bvl_e rfl (fun z => by cases z) (fun z => by cases z) (fun _ => ⟨fun p hp => ?_, show zcpg h.2.1 85 85 777 1626 849 84 16 = h.2.1 84 16 from zcpg_a _ (by decide)⟩)
          show zcpg h.2.1 85 85 777 1626 849 85 p = _
          rw [zcpg_t, if_neg (by omega)]
        | tail _ he9 =>
          cases he9 with
          | head =>
            rw [bvl_n (show Nat.blt 84 900 = true from rfl), bvl_n (show Nat.blt 84 900 = true from rfl)]
            show (zcpg h.2.1 85 85 777 1626 849 84 9).toInt = _
            rw [zcpg_a _ (by decide)]
          | tail _ he9 => exact absurd he9 List.not_mem_nil
    rw [hk]
    exact hpv e he9
  · intro a i hb
    show zcpg h.2.1 85 85 (777) (1626) 849 a i = h.2.1 a i
    by_cases ha : a = 85
    · subst ha
      rw [bun85] at hb
      rw [zcpg_t]
      by_cases hi : 777 ≤ i ∧ i < 777 + 849
      · exfalso
        rw [show breg i = 1 from by rw [breg_c, if_neg (by omega), if_pos (by omega)], show Nat.testBit sc343.2.1 (bU85 + 1) = true from by decide +kernel] at hb
        cases hb
      · exact if_neg hi
    · exact zcpg_a _ ha
set_option maxRecDepth 100000 in
theorem kc343_12 {E : zE} {B : Nat} : bGm E ctb B 266 sc343 1000000 nl343 nd343_12 := by
  refine bcp_good (N' := nd343_13) (List.Mem.tail _ (List.Mem.tail _ (List.Mem.tail _ (List.Mem.tail _ (List.Mem.tail _ (List.Mem.tail _ (List.Mem.tail _ (List.Mem.tail _ (List.Mem.tail _ (List.Mem.tail _ (List.Mem.tail _ (List.Mem.tail _ (List.Mem.tail _ (List.Mem.head _)))))))))))))) rfl rfl rfl rfl (fun V x hx h0 => ⟨0, brel_c V _, by decide, by have := brel_k hx; omega⟩) ?_
  intro V ls h hl hI hP hT hpv he
  obtain ⟨r0, e0, hl0⟩ := bls_r hl
  subst e0
  obtain ⟨x1, r1, e1, g1, hl1⟩ := bls_i hl0
  subst e1
  obtain ⟨x2, r2, e2, g2, hl2⟩ := bls_i hl1
  subst e2
  have ez := bls_0 hl2
  subst ez
  have ek : x2 = Int32.ofNat 0 := bi0 (by omega) g2
  subst ek
  have h6 := hpv _ (List.Mem.head _)
  rw [bvl_n (show Nat.blt 85 900 = true from rfl)] at h6
  have h6 := brel_k h6
  have h5 := hpv _ (List.Mem.tail _ (List.Mem.head _))
  rw [bvl_3] at h5
  have h5 := bpf_1 (brel_k h5)
  have hok : bokn h (h.2.1 85 1626).toInt.toNat := by
    rw [show (h.2.1 85 1626).toInt.toNat = 6 from by rw [show (h.2.1 85 1626).toInt = _ from h6]; rfl]
    exact h5
  have ha := hT 84 _ cs84 (by intro z; cases z)
  have ht := hT 85 _ cs85 (by intro z; cases z)
  have hw := hT 85 _ cs85 (by intro z; cases z)
  refine ⟨[some (.ref 84), some (.int x1), some (.int (Int32.ofNat 849))], (h.1, zcpg h.2.1 85 85 (777) (1626) 849, h.2.2), ?_, ?_, ?_, ?_, rfl, ?_, rfl, ?_⟩
  · intro d f hf
    refine ⟨f - 14436, by omega, ?_⟩
    have hz := zllaw_loop (E := E) (d := d) (v := h.2.1) (rest := h.2.2) (l1 := x1) ha rfl rfl ht hw (o := 777) (q := 1626) (fun k hk => baddk (by decide) (by omega) (by omega)) (fun k hk => baddk (by decide) (by omega) (by omega)) (by omega) (by omega) (Or.inr (by omega)) 849 0 (f - 14436) rfl
    rw [zcpg_0] at hz
    rw [show f - 14436 + 3 + 17 * 849 = f by omega] at hz
    exact hz
  · exact ⟨⟨_, rfl, rfl⟩, ⟨_, rfl, _, rfl, g1⟩, ⟨_, rfl, _, rfl, by rw [zof9 (by omega)]; exact brel_c V _⟩, trivial⟩
  · exact bcp_law hI hok
  · exact bps_c rfl (show zcpg h.2.1 85 85 (777) (1626) 849 27 3 = h.2.1 27 3 from zcpg_a _ (by decide)) hP
  · intro e he9
    have hk : bvl E (h.1, zcpg h.2.1 85 85 777 1626 849, h.2.2) e.1 e.2.1 = bvl E h e.1 e.2.1 := by
      cases he9 with
      | head =>
        rw [bvl_n (show Nat.blt 85 900 = true from rfl), bvl_n (show Nat.blt 85 900 = true from rfl)]
        show (zcpg h.2.1 85 85 777 1626 849 85 1626).toInt = _
        rw [zcpg_t, if_neg (by omega)]
      | tail _ he9 =>
        cases he9 with
        | head =>
          refine bvl_e rfl (fun z => by cases z) (fun z => by cases z) (fun _ => ⟨fun p hp => ?_, show zcpg h.2.1 85 85 777 1626 849 84 16 = h.2.1 84 16 from zcpg_a _ (by decide)⟩)
          show zcpg h.2.1 85 85 777 1626 849 85 p = _
          rw [zcpg_t, if_neg (by omega)]
        | tail _ he9 =>
          cases he9 with
          | head =>
            rw [bvl_n (show Nat.blt 84 900 = true from rfl), bvl_n (show Nat.blt 84 900 = true from rfl)]
            show (zcpg h.2.1 85 85 777 1626 849 84 9).toInt = _
            rw [zcpg_a _ (by decide)]
          | tail _ he9 => exact absurd he9 List.not_mem_nil
    rw [hk]
    exact hpv e he9
  · intro a i hb
    show zcpg h.2.1 85 85 (777) (1626) 849 a i = h.2.1 a i
    by_cases ha : a = 85
    · subst ha
      rw [bun85] at hb
      rw [zcpg_t]
      by_cases hi : 777 ≤ i ∧ i < 777 + 849
      · exfalso
        rw [show breg i = 1 from by rw [breg_c, if_neg (by omega), if_pos (by omega)], show Nat.testBit sc343.2.1 (bU85 + 1) = true from by decide +kernel] at hb
        cases hb
      · exact if_neg hi
    · exact zcpg_a _ ha
set_option maxRecDepth 100000 in
theorem kc343_14 {E : zE} {B : Nat} : bGm E ctb B 266 sc343 1000000 nl343 nd343_14 := by
  refine bcp_good (N' := nd343_15) (List.Mem.tail _ (List.Mem.tail _ (List.Mem.tail _ (List.Mem.tail _ (List.Mem.tail _ (List.Mem.tail _ (List.Mem.tail _ (List.Mem.tail _ (List.Mem.tail _ (List.Mem.tail _ (List.Mem.tail _ (List.Mem.tail _ (List.Mem.tail _ (List.Mem.tail _ (List.Mem.tail _ (List.Mem.head _)))))))))))))))) rfl rfl rfl rfl (fun V x hx h0 => ⟨0, brel_c V _, by decide, by have := brel_k hx; omega⟩) ?_
  intro V ls h hl hI hP hT hpv he
  obtain ⟨r0, e0, hl0⟩ := bls_r hl
  subst e0
  obtain ⟨x1, r1, e1, g1, hl1⟩ := bls_i hl0
  subst e1
  obtain ⟨x2, r2, e2, g2, hl2⟩ := bls_i hl1
  subst e2
  have ez := bls_0 hl2
  subst ez
  have ek : x2 = Int32.ofNat 0 := bi0 (by omega) g2
  subst ek
  have h6 := hpv _ (List.Mem.head _)
  rw [bvl_n (show Nat.blt 85 900 = true from rfl)] at h6
  have h6 := brel_k h6
  have h5 := hpv _ (List.Mem.tail _ (List.Mem.head _))
  rw [bvl_3] at h5
  have h5 := bpf_1 (brel_k h5)
  have hok : bokn h (h.2.1 85 1626).toInt.toNat := by
    rw [show (h.2.1 85 1626).toInt.toNat = 7 from by rw [show (h.2.1 85 1626).toInt = _ from h6]; rfl]
    exact h5
  have ha := hT 84 _ cs84 (by intro z; cases z)
  have ht := hT 85 _ cs85 (by intro z; cases z)
  have hw := hT 85 _ cs85 (by intro z; cases z)
  refine ⟨[some (.ref 84), some (.int x1), some (.int (Int32.ofNat 849))], (h.1, zcpg h.2.1 85 85 (777) (1626) 849, h.2.2), ?_, ?_, ?_, ?_, rfl, ?_, rfl, ?_⟩
  · intro d f hf
    refine ⟨f - 14436, by omega, ?_⟩
    have hz := zllaw_loop (E := E) (d := d) (v := h.2.1) (rest := h.2.2) (l1 := x1) ha rfl rfl ht hw (o := 777) (q := 1626) (fun k hk => baddk (by decide) (by omega) (by omega)) (fun k hk => baddk (by decide) (by omega) (by omega)) (by omega) (by omega) (Or.inr (by omega)) 849 0 (f - 14436) rfl
    rw [zcpg_0] at hz
    rw [show f - 14436 + 3 + 17 * 849 = f by omega] at hz
    exact hz
  · exact ⟨⟨_, rfl, rfl⟩, ⟨_, rfl, _, rfl, g1⟩, ⟨_, rfl, _, rfl, by rw [zof9 (by omega)]; exact brel_c V _⟩, trivial⟩
  · exact bcp_law hI hok
  · exact bps_c rfl (show zcpg h.2.1 85 85 (777) (1626) 849 27 3 = h.2.1 27 3 from zcpg_a _ (by decide)) hP
  · intro e he9
    have hk : bvl E (h.1, zcpg h.2.1 85 85 777 1626 849, h.2.2) e.1 e.2.1 = bvl E h e.1 e.2.1 := by
      cases he9 with
      | head =>
        rw [bvl_n (show Nat.blt 85 900 = true from rfl), bvl_n (show Nat.blt 85 900 = true from rfl)]
        show (zcpg h.2.1 85 85 777 1626 849 85 1626).toInt = _
        rw [zcpg_t, if_neg (by omega)]
      | tail _ he9 =>
        cases he9 with
        | head =>
          refine bvl_e rfl (fun z => by cases z) (fun z => by cases z) (fun _ => ⟨fun p hp => ?_, show zcpg h.2.1 85 85 777 1626 849 84 16 = h.2.1 84 16 from zcpg_a _ (by decide)⟩)
          show zcpg h.2.1 85 85 777 1626 849 85 p = _
          rw [zcpg_t, if_neg (by omega)]
        | tail _ he9 =>
          cases he9 with
          | head =>
            rw [bvl_n (show Nat.blt 84 900 = true from rfl), bvl_n (show Nat.blt 84 900 = true from rfl)]
            show (zcpg h.2.1 85 85 777 1626 849 84 9).toInt = _
            rw [zcpg_a _ (by decide)]
          | tail _ he9 => exact absurd he9 List.not_mem_nil
    rw [hk]
    exact hpv e he9
  · intro a i hb
    show zcpg h.2.1 85 85 (777) (1626) 849 a i = h.2.1 a i
    by_cases ha : a = 85
    · subst ha
      rw [bun85] at hb
      rw [zcpg_t]
      by_cases hi : 777 ≤ i ∧ i < 777 + 849
      · exfalso
        rw [show breg i = 1 from by rw [breg_c, if_neg (by omega), if_pos (by omega)], show Nat.testBit sc343.2.1 (bU85 + 1) = true from by decide +kernel] at hb
        cases hb
      · exact if_neg hi
    · exact zcpg_a _ ha
set_option maxRecDepth 100000 in
theorem kc343_16 {E : zE} {B : Nat} : bGm E ctb B 266 sc343 1000000 nl343 nd343_16 := by
  refine bcp_good (N' := nd343_17) (List.Mem.tail _ (List.Mem.tail _ (List.Mem.tail _ (List.Mem.tail _ (List.Mem.tail _ (List.Mem.tail _ (List.Mem.tail _ (List.Mem.tail _ (List.Mem.tail _ (List.Mem.tail _ (List.Mem.tail _ (List.Mem.tail _ (List.Mem.tail _ (List.Mem.tail _ (List.Mem.tail _ (List.Mem.tail _ (List.Mem.tail _ (List.Mem.head _)))))))))))))))))) rfl rfl rfl rfl (fun V x hx h0 => ⟨0, brel_c V _, by decide, by have := brel_k hx; omega⟩) ?_
  intro V ls h hl hI hP hT hpv he
  obtain ⟨r0, e0, hl0⟩ := bls_r hl
  subst e0
  obtain ⟨x1, r1, e1, g1, hl1⟩ := bls_i hl0
  subst e1
  obtain ⟨x2, r2, e2, g2, hl2⟩ := bls_i hl1
  subst e2
  have ez := bls_0 hl2
  subst ez
  have ek : x2 = Int32.ofNat 0 := bi0 (by omega) g2
  subst ek
  have h6 := hpv _ (List.Mem.head _)
  rw [bvl_n (show Nat.blt 85 900 = true from rfl)] at h6
  have h6 := brel_k h6
  have h5 := hpv _ (List.Mem.tail _ (List.Mem.head _))
  rw [bvl_3] at h5
  have h5 := bpf_1 (brel_k h5)
  have hok : bokn h (h.2.1 85 1626).toInt.toNat := by
    rw [show (h.2.1 85 1626).toInt.toNat = 8 from by rw [show (h.2.1 85 1626).toInt = _ from h6]; rfl]
    exact h5
  have ha := hT 84 _ cs84 (by intro z; cases z)
  have ht := hT 85 _ cs85 (by intro z; cases z)
  have hw := hT 85 _ cs85 (by intro z; cases z)
  refine ⟨[some (.ref 84), some (.int x1), some (.int (Int32.ofNat 849))], (h.1, zcpg h.2.1 85 85 (777) (1626) 849, h.2.2), ?_, ?_, ?_, ?_, rfl, ?_, rfl, ?_⟩
  · intro d f hf
    refine ⟨f - 14436, by omega, ?_⟩
    have hz := zllaw_loop (E := E) (d := d) (v := h.2.1) (rest := h.2.2) (l1 := x1) ha rfl rfl ht hw (o := 777) (q := 1626) (fun k hk => baddk (by decide) (by omega) (by omega)) (fun k hk => baddk (by decide) (by omega) (by omega)) (by omega) (by omega) (Or.inr (by omega)) 849 0 (f - 14436) rfl
    rw [zcpg_0] at hz
    rw [show f - 14436 + 3 + 17 * 849 = f by omega] at hz
    exact hz
  · exact ⟨⟨_, rfl, rfl⟩, ⟨_, rfl, _, rfl, g1⟩, ⟨_, rfl, _, rfl, by rw [zof9 (by omega)]; exact brel_c V _⟩, trivial⟩
  · exact bcp_law hI hok
  · exact bps_c rfl (show zcpg h.2.1 85 85 (777) (1626) 849 27 3 = h.2.1 27 3 from zcpg_a _ (by decide)) hP
  · intro e he9
    have hk : bvl E (h.1, zcpg h.2.1 85 85 777 1626 849, h.2.2) e.1 e.2.1 = bvl E h e.1 e.2.1 := by
      cases he9 with
      | head =>
        rw [bvl_n (show Nat.blt 85 900 = true from rfl), bvl_n (show Nat.blt 85 900 = true from rfl)]
        show (zcpg h.2.1 85 85 777 1626 849 85 1626).toInt = _
        rw [zcpg_t, if_neg (by omega)]
      | tail _ he9 =>
        cases he9 with
        | head =>
          refine bvl_e rfl (fun z => by cases z) (fun z => by cases z) (fun _ => ⟨fun p hp => ?_, show zcpg h.2.1 85 85 777 1626 849 84 16 = h.2.1 84 16 from zcpg_a _ (by decide)⟩)
          show zcpg h.2.1 85 85 777 1626 849 85 p = _
          rw [zcpg_t, if_neg (by omega)]
        | tail _ he9 =>
          cases he9 with
          | head =>
            rw [bvl_n (show Nat.blt 84 900 = true from rfl), bvl_n (show Nat.blt 84 900 = true from rfl)]
            show (zcpg h.2.1 85 85 777 1626 849 84 9).toInt = _
            rw [zcpg_a _ (by decide)]
          | tail _ he9 => exact absurd he9 List.not_mem_nil
    rw [hk]
    exact hpv e he9
  · intro a i hb
    show zcpg h.2.1 85 85 (777) (1626) 849 a i = h.2.1 a i
    by_cases ha : a = 85
    · subst ha
      rw [bun85] at hb
      rw [zcpg_t]
      by_cases hi : 777 ≤ i ∧ i < 777 + 849
      · exfalso
        rw [show breg i = 1 from by rw [breg_c, if_neg (by omega), if_pos (by omega)], show Nat.testBit sc343.2.1 (bU85 + 1) = true from by decide +kernel] at hb
        cases hb
      · exact if_neg hi
    · exact zcpg_a _ ha
set_option maxRecDepth 100000 in
theorem kc343_18 {E : zE} {B : Nat} : bGm E ctb B 266 sc343 1000000 nl343 nd343_18 := by
  refine bcp_good (N' := nd343_19) (List.Mem.tail _ (List.Mem.tail _ (List.Mem.tail _ (List.Mem.tail _ (List.Mem.tail _ (List.Mem.tail _ (List.Mem.tail _ (List.Mem.tail _ (List.Mem.tail _ (List.Mem.tail _ (List.Mem.tail _ (List.Mem.tail _ (List.Mem.tail _ (List.Mem.tail _ (List.Mem.tail _ (List.Mem.tail _ (List.Mem.tail _ (List.Mem.tail _ (List.Mem.tail _ (List.Mem.head _)))))))))))))))))))) rfl rfl rfl rfl (fun V x hx h0 => ⟨0, brel_c V _, by decide, by have := brel_k hx; omega⟩) ?_
  intro V ls h hl hI hP hT hpv he
  obtain ⟨r0, e0, hl0⟩ := bls_r hl
  subst e0
  obtain ⟨x1, r1, e1, g1, hl1⟩ := bls_i hl0
  subst e1
  obtain ⟨x2, r2, e2, g2, hl2⟩ := bls_i hl1
  subst e2
  have ez := bls_0 hl2
  subst ez
  have ek : x2 = Int32.ofNat 0 := bi0 (by omega) g2
  subst ek
  have h6 := hpv _ (List.Mem.head _)
  rw [bvl_n (show Nat.blt 85 900 = true from rfl)] at h6
  have h6 := brel_k h6
  have h5 := hpv _ (List.Mem.tail _ (List.Mem.head _))
  rw [bvl_3] at h5
  have h5 := bpf_1 (brel_k h5)
  have hok : bokn h (h.2.1 85 1626).toInt.toNat := by
    rw [show (h.2.1 85 1626).toInt.toNat = 9 from by rw [show (h.2.1 85 1626).toInt = _ from h6]; rfl]
    exact h5
  have ha := hT 84 _ cs84 (by intro z; cases z)
  have ht := hT 85 _ cs85 (by intro z; cases z)
  have hw := hT 85 _ cs85 (by intro z; cases z)
  refine ⟨[some (.ref 84), some (.int x1), some (.int (Int32.ofNat 849))], (h.1, zcpg h.2.1 85 85 (777) (1626) 849, h.2.2), ?_, ?_, ?_, ?_, rfl, ?_, rfl, ?_⟩
  · intro d f hf
    refine ⟨f - 14436, by omega, ?_⟩
    have hz := zllaw_loop (E := E) (d := d) (v := h.2.1) (rest := h.2.2) (l1 := x1) ha rfl rfl ht hw (o := 777) (q := 1626) (fun k hk => baddk (by decide) (by omega) (by omega)) (fun k hk => baddk (by decide) (by omega) (by omega)) (by omega) (by omega) (Or.inr (by omega)) 849 0 (f - 14436) rfl
    rw [zcpg_0] at hz
    rw [show f - 14436 + 3 + 17 * 849 = f by omega] at hz
    exact hz
  · exact ⟨⟨_, rfl, rfl⟩, ⟨_, rfl, _, rfl, g1⟩, ⟨_, rfl, _, rfl, by rw [zof9 (by omega)]; exact brel_c V _⟩, trivial⟩
  · exact bcp_law hI hok
  · exact bps_c rfl (show zcpg h.2.1 85 85 (777) (1626) 849 27 3 = h.2.1 27 3 from zcpg_a _ (by decide)) hP
  · intro e he9
    have hk : bvl E (h.1, zcpg h.2.1 85 85 777 1626 849, h.2.2) e.1 e.2.1 = bvl E h e.1 e.2.1 := by
      cases he9 with
      | head =>
        rw [bvl_n (show Nat.blt 85 900 = true from rfl), bvl_n (show Nat.blt 85 900 = true from rfl)]
        show (zcpg h.2.1 85 85 777 1626 849 85 1626).toInt = _
        rw [zcpg_t, if_neg (by omega)]
      | tail _ he9 =>
        cases he9 with
        | head =>
          refine bvl_e rfl (fun z => by cases z) (fun z => by cases z) (fun _ => ⟨fun p hp => ?_, show zcpg h.2.1 85 85 777 1626 849 84 16 = h.2.1 84 16 from zcpg_a _ (by decide)⟩)
          show zcpg h.2.1 85 85 777 1626 849 85 p = _
          rw [zcpg_t, if_neg (by omega)]
        | tail _ he9 =>
          cases he9 with
          | head =>
            rw [bvl_n (show Nat.blt 84 900 = true from rfl), bvl_n (show Nat.blt 84 900 = true from rfl)]
            show (zcpg h.2.1 85 85 777 1626 849 84 9).toInt = _
            rw [zcpg_a _ (by decide)]
          | tail _ he9 => exact absurd he9 List.not_mem_nil
    rw [hk]
    exact hpv e he9
  · intro a i hb
    show zcpg h.2.1 85 85 (777) (1626) 849 a i = h.2.1 a i
    by_cases ha : a = 85
    · subst ha
      rw [bun85] at hb
      rw [zcpg_t]
      by_cases hi : 777 ≤ i ∧ i < 777 + 849
      · exfalso
        rw [show breg i = 1 from by rw [breg_c, if_neg (by omega), if_pos (by omega)], show Nat.testBit sc343.2.1 (bU85 + 1) = true from by decide +kernel] at hb
        cases hb
      · exact if_neg hi
    · exact zcpg_a _ ha
set_option maxRecDepth 100000 in
theorem kc343_20 {E : zE} {B : Nat} : bGm E ctb B 266 sc343 1000000 nl343 nd343_20 := by
  refine bcp_good (N' := nd343_21) (List.Mem.tail _ (List.Mem.tail _ (List.Mem.tail _ (List.Mem.tail _ (List.Mem.tail _ (List.Mem.tail _ (List.Mem.tail _ (List.Mem.tail _ (List.Mem.tail _ (List.Mem.tail _ (List.Mem.tail _ (List.Mem.tail _ (List.Mem.tail _ (List.Mem.tail _ (List.Mem.tail _ (List.Mem.tail _ (List.Mem.tail _ (List.Mem.tail _ (List.Mem.tail _ (List.Mem.tail _ (List.Mem.tail _ (List.Mem.head _)))))))))))))))))))))) rfl rfl rfl rfl (fun V x hx h0 => ⟨0, brel_c V _, by decide, by have := brel_k hx; omega⟩) ?_
  intro V ls h hl hI hP hT hpv he
  obtain ⟨r0, e0, hl0⟩ := bls_r hl
  subst e0
  obtain ⟨x1, r1, e1, g1, hl1⟩ := bls_i hl0
  subst e1
  obtain ⟨x2, r2, e2, g2, hl2⟩ := bls_i hl1
  subst e2
  have ez := bls_0 hl2
  subst ez
  have ek : x2 = Int32.ofNat 0 := bi0 (by omega) g2
  subst ek
  have h6 := hpv _ (List.Mem.head _)
  rw [bvl_n (show Nat.blt 85 900 = true from rfl)] at h6
  have h6 := brel_k h6
  have h5 := hpv _ (List.Mem.tail _ (List.Mem.head _))
  rw [bvl_3] at h5
  have h5 := bpf_1 (brel_k h5)
  have hok : bokn h (h.2.1 85 1626).toInt.toNat := by
    rw [show (h.2.1 85 1626).toInt.toNat = 10 from by rw [show (h.2.1 85 1626).toInt = _ from h6]; rfl]
    exact h5
  have ha := hT 84 _ cs84 (by intro z; cases z)
  have ht := hT 85 _ cs85 (by intro z; cases z)
  have hw := hT 85 _ cs85 (by intro z; cases z)
  refine ⟨[some (.ref 84), some (.int x1), some (.int (Int32.ofNat 849))], (h.1, zcpg h.2.1 85 85 (777) (1626) 849, h.2.2), ?_, ?_, ?_, ?_, rfl, ?_, rfl, ?_⟩
  · intro d f hf
    refine ⟨f - 14436, by omega, ?_⟩
    have hz := zllaw_loop (E := E) (d := d) (v := h.2.1) (rest := h.2.2) (l1 := x1) ha rfl rfl ht hw (o := 777) (q := 1626) (fun k hk => baddk (by decide) (by omega) (by omega)) (fun k hk => baddk (by decide) (by omega) (by omega)) (by omega) (by omega) (Or.inr (by omega)) 849 0 (f - 14436) rfl
    rw [zcpg_0] at hz
    rw [show f - 14436 + 3 + 17 * 849 = f by omega] at hz
    exact hz
  · exact ⟨⟨_, rfl, rfl⟩, ⟨_, rfl, _, rfl, g1⟩, ⟨_, rfl, _, rfl, by rw [zof9 (by omega)]; exact brel_c V _⟩, trivial⟩
  · exact bcp_law hI hok
  · exact bps_c rfl (show zcpg h.2.1 85 85 (777) (1626) 849 27 3 = h.2.1 27 3 from zcpg_a _ (by decide)) hP
  · intro e he9
    have hk : bvl E (h.1, zcpg h.2.1 85 85 777 1626 849, h.2.2) e.1 e.2.1 = bvl E h e.1 e.2.1 := by
      cases he9 with
      | head =>
        rw [bvl_n (show Nat.blt 85 900 = true from rfl), bvl_n (show Nat.blt 85 900 = true from rfl)]
        show (zcpg h.2.1 85 85 777 1626 849 85 1626).toInt = _
        rw [zcpg_t, if_neg (by omega)]
      | tail _ he9 =>
        cases he9 with
        | head =>
          refine bvl_e rfl (fun z => by cases z) (fun z => by cases z) (fun _ => ⟨fun p hp => ?_, show zcpg h.2.1 85 85 777 1626 849 84 16 = h.2.1 84 16 from zcpg_a _ (by decide)⟩)
          show zcpg h.2.1 85 85 777 1626 849 85 p = _
          rw [zcpg_t, if_neg (by omega)]
        | tail _ he9 =>
          cases he9 with
          | head =>
            rw [bvl_n (show Nat.blt 84 900 = true from rfl), bvl_n (show Nat.blt 84 900 = true from rfl)]
            show (zcpg h.2.1 85 85 777 1626 849 84 9).toInt = _
            rw [zcpg_a _ (by decide)]
          | tail _ he9 => exact absurd he9 List.not_mem_nil
    rw [hk]
    exact hpv e he9
  · intro a i hb
    show zcpg h.2.1 85 85 (777) (1626) 849 a i = h.2.1 a i
    by_cases ha : a = 85
    · subst ha
      rw [bun85] at hb
      rw [zcpg_t]
      by_cases hi : 777 ≤ i ∧ i < 777 + 849
      · exfalso
        rw [show breg i = 1 from by rw [breg_c, if_neg (by omega), if_pos (by omega)], show Nat.testBit sc343.2.1 (bU85 + 1) = true from by decide +kernel] at hb
        cases hb
      · exact if_neg hi
    · exact zcpg_a _ ha
set_option maxRecDepth 100000 in
theorem kc343_22 {E : zE} {B : Nat} : bGm E ctb B 266 sc343 1000000 nl343 nd343_22 := by
  refine bcp_good (N' := nd343_23) (List.Mem.tail _ (List.Mem.tail _ (List.Mem.tail _ (List.Mem.tail _ (List.Mem.tail _ (List.Mem.tail _ (List.Mem.tail _ (List.Mem.tail _ (List.Mem.tail _ (List.Mem.tail _ (List.Mem.tail _ (List.Mem.tail _ (List.Mem.tail _ (List.Mem.tail _ (List.Mem.tail _ (List.Mem.tail _ (List.Mem.tail _ (List.Mem.tail _ (List.Mem.tail _ (List.Mem.tail _ (List.Mem.tail _ (List.Mem.tail _ (List.Mem.tail _ (List.Mem.head _)))))))))))))))))))))))) rfl rfl rfl rfl (fun V x hx h0 => ⟨0, brel_c V _, by decide, by have := brel_k hx; omega⟩) ?_
  intro V ls h hl hI hP hT hpv he
  obtain ⟨r0, e0, hl0⟩ := bls_r hl
  subst e0
  obtain ⟨x1, r1, e1, g1, hl1⟩ := bls_i hl0
  subst e1
  obtain ⟨x2, r2, e2, g2, hl2⟩ := bls_i hl1
  subst e2
  have ez := bls_0 hl2
  subst ez
  have ek : x2 = Int32.ofNat 0 := bi0 (by omega) g2
  subst ek
  have h6 := hpv _ (List.Mem.head _)
  rw [bvl_n (show Nat.blt 85 900 = true from rfl)] at h6
  have h6 := brel_k h6
  have h5 := hpv _ (List.Mem.tail _ (List.Mem.head _))
  rw [bvl_3] at h5
  have h5 := bpf_1 (brel_k h5)
  have hok : bokn h (h.2.1 85 1626).toInt.toNat := by
    rw [show (h.2.1 85 1626).toInt.toNat = 11 from by rw [show (h.2.1 85 1626).toInt = _ from h6]; rfl]
    exact h5
  have ha := hT 84 _ cs84 (by intro z; cases z)
  have ht := hT 85 _ cs85 (by intro z; cases z)
  have hw := hT 85 _ cs85 (by intro z; cases z)
  refine ⟨[some (.ref 84), some (.int x1), some (.int (Int32.ofNat 849))], (h.1, zcpg h.2.1 85 85 (777) (1626) 849, h.2.2), ?_, ?_, ?_, ?_, rfl, ?_, rfl, ?_⟩
  · intro d f hf
    refine ⟨f - 14436, by omega, ?_⟩
    have hz := zllaw_loop (E := E) (d := d) (v := h.2.1) (rest := h.2.2) (l1 := x1) ha rfl rfl ht hw (o := 777) (q := 1626) (fun k hk => baddk (by decide) (by omega) (by omega)) (fun k hk => baddk (by decide) (by omega) (by omega)) (by omega) (by omega) (Or.inr (by omega)) 849 0 (f - 14436) rfl
    rw [zcpg_0] at hz
    rw [show f - 14436 + 3 + 17 * 849 = f by omega] at hz
    exact hz
  · exact ⟨⟨_, rfl, rfl⟩, ⟨_, rfl, _, rfl, g1⟩, ⟨_, rfl, _, rfl, by rw [zof9 (by omega)]; exact brel_c V _⟩, trivial⟩
  · exact bcp_law hI hok
  · exact bps_c rfl (show zcpg h.2.1 85 85 (777) (1626) 849 27 3 = h.2.1 27 3 from zcpg_a _ (by decide)) hP
  · intro e he9
    have hk : bvl E (h.1, zcpg h.2.1 85 85 777 1626 849, h.2.2) e.1 e.2.1 = bvl E h e.1 e.2.1 := by
      cases he9 with
      | head =>
        rw [bvl_n (show Nat.blt 85 900 = true from rfl), bvl_n (show Nat.blt 85 900 = true from rfl)]
        show (zcpg h.2.1 85 85 777 1626 849 85 1626).toInt = _
        rw [zcpg_t, if_neg (by omega)]
      | tail _ he9 =>
        cases he9 with
        | head =>
          refine bvl_e rfl (fun z => by cases z) (fun z => by cases z) (fun _ => ⟨fun p hp => ?_, show zcpg h.2.1 85 85 777 1626 849 84 16 = h.2.1 84 16 from zcpg_a _ (by decide)⟩)
          show zcpg h.2.1 85 85 777 1626 849 85 p = _
          rw [zcpg_t, if_neg (by omega)]
        | tail _ he9 =>
          cases he9 with
          | head =>
            rw [bvl_n (show Nat.blt 84 900 = true from rfl), bvl_n (show Nat.blt 84 900 = true from rfl)]
            show (zcpg h.2.1 85 85 777 1626 849 84 9).toInt = _
            rw [zcpg_a _ (by decide)]
          | tail _ he9 => exact absurd he9 List.not_mem_nil
    rw [hk]
    exact hpv e he9
  · intro a i hb
    show zcpg h.2.1 85 85 (777) (1626) 849 a i = h.2.1 a i
    by_cases ha : a = 85
    · subst ha
      rw [bun85] at hb
      rw [zcpg_t]
      by_cases hi : 777 ≤ i ∧ i < 777 + 849
      · exfalso
        rw [show breg i = 1 from by rw [breg_c, if_neg (by omega), if_pos (by omega)], show Nat.testBit sc343.2.1 (bU85 + 1) = true from by decide +kernel] at hb
        cases hb
      · exact if_neg hi
    · exact zcpg_a _ ha
set_option maxRecDepth 100000 in
theorem kc343_24 {E : zE} {B : Nat} : bGm E ctb B 266 sc343 1000000 nl343 nd343_24 := by
  refine bcp_good (N' := nd343_25) (List.Mem.tail _ (List.Mem.tail _ (List.Mem.tail _ (List.Mem.tail _ (List.Mem.tail _ (List.Mem.tail _ (List.Mem.tail _ (List.Mem.tail _ (List.Mem.tail _ (List.Mem.tail _ (List.Mem.tail _ (List.Mem.tail _ (List.Mem.tail _ (List.Mem.tail _ (List.Mem.tail _ (List.Mem.tail _ (List.Mem.tail _ (List.Mem.tail _ (List.Mem.tail _ (List.Mem.tail _ (List.Mem.tail _ (List.Mem.tail _ (List.Mem.tail _ (List.Mem.tail _ (List.Mem.tail _ (List.Mem.head _)))))))))))))))))))))))))) rfl rfl rfl rfl (fun V x hx h0 => ⟨0, brel_c V _, by decide, by have := brel_k hx; omega⟩) ?_
  intro V ls h hl hI hP hT hpv he
  obtain ⟨r0, e0, hl0⟩ := bls_r hl
  subst e0
  obtain ⟨x1, r1, e1, g1, hl1⟩ := bls_i hl0
  subst e1
  obtain ⟨x2, r2, e2, g2, hl2⟩ := bls_i hl1
  subst e2
  have ez := bls_0 hl2
  subst ez
  have ek : x2 = Int32.ofNat 0 := bi0 (by omega) g2
  subst ek
  have h6 := hpv _ (List.Mem.head _)
  rw [bvl_n (show Nat.blt 85 900 = true from rfl)] at h6
  have h6 := brel_k h6
  have h5 := hpv _ (List.Mem.tail _ (List.Mem.head _))
  rw [bvl_3] at h5
  have h5 := bpf_1 (brel_k h5)
  have hok : bokn h (h.2.1 85 1626).toInt.toNat := by
    rw [show (h.2.1 85 1626).toInt.toNat = 12 from by rw [show (h.2.1 85 1626).toInt = _ from h6]; rfl]
    exact h5
  have ha := hT 84 _ cs84 (by intro z; cases z)
  have ht := hT 85 _ cs85 (by intro z; cases z)
  have hw := hT 85 _ cs85 (by intro z; cases z)
  refine ⟨[some (.ref 84), some (.int x1), some (.int (Int32.ofNat 849))], (h.1, zcpg h.2.1 85 85 (777) (1626) 849, h.2.2), ?_, ?_, ?_, ?_, rfl, ?_, rfl, ?_⟩
  · intro d f hf
    refine ⟨f - 14436, by omega, ?_⟩
    have hz := zllaw_loop (E := E) (d := d) (v := h.2.1) (rest := h.2.2) (l1 := x1) ha rfl rfl ht hw (o := 777) (q := 1626) (fun k hk => baddk (by decide) (by omega) (by omega)) (fun k hk => baddk (by decide) (by omega) (by omega)) (by omega) (by omega) (Or.inr (by omega)) 849 0 (f - 14436) rfl
    rw [zcpg_0] at hz
    rw [show f - 14436 + 3 + 17 * 849 = f by omega] at hz
    exact hz
  · exact ⟨⟨_, rfl, rfl⟩, ⟨_, rfl, _, rfl, g1⟩, ⟨_, rfl, _, rfl, by rw [zof9 (by omega)]; exact brel_c V _⟩, trivial⟩
  · exact bcp_law hI hok
  · exact bps_c rfl (show zcpg h.2.1 85 85 (777) (1626) 849 27 3 = h.2.1 27 3 from zcpg_a _ (by decide)) hP
  · intro e he9
    have hk : bvl E (h.1, zcpg h.2.1 85 85 777 1626 849, h.2.2) e.1 e.2.1 = bvl E h e.1 e.2.1 := by
      cases he9 with
      | head =>
        rw [bvl_n (show Nat.blt 85 900 = true from rfl), bvl_n (show Nat.blt 85 900 = true from rfl)]
        show (zcpg h.2.1 85 85 777 1626 849 85 1626).toInt = _
        rw [zcpg_t, if_neg (by omega)]
      | tail _ he9 =>
        cases he9 with
        | head =>
          refine bvl_e rfl (fun z => by cases z) (fun z => by cases z) (fun _ => ⟨fun p hp => ?_, show zcpg h.2.1 85 85 777 1626 849 84 16 = h.2.1 84 16 from zcpg_a _ (by decide)⟩)
          show zcpg h.2.1 85 85 777 1626 849 85 p = _
          rw [zcpg_t, if_neg (by omega)]
        | tail _ he9 =>
          cases he9 with
          | head =>
            rw [bvl_n (show Nat.blt 84 900 = true from rfl), bvl_n (show Nat.blt 84 900 = true from rfl)]
            show (zcpg h.2.1 85 85 777 1626 849 84 9).toInt = _
            rw [zcpg_a _ (by decide)]
          | tail _ he9 => exact absurd he9 List.not_mem_nil
    rw [hk]
    exact hpv e he9
  · intro a i hb
    show zcpg h.2.1 85 85 (777) (1626) 849 a i = h.2.1 a i
    by_cases ha : a = 85
    · subst ha
      rw [bun85] at hb
      rw [zcpg_t]
      by_cases hi : 777 ≤ i ∧ i < 777 + 849
      · exfalso
        rw [show breg i = 1 from by rw [breg_c, if_neg (by omega), if_pos (by omega)], show Nat.testBit sc343.2.1 (bU85 + 1) = true from by decide +kernel] at hb
        cases hb
      · exact if_neg hi
    · exact zcpg_a _ ha
set_option maxRecDepth 100000 in
theorem kc373_0 {E : zE} {B : Nat} : bGm E ctb B 293 sc373 1000000 nl373 nd373_0 := by
  refine bcp_good (N' := nd373_1) (List.Mem.tail _ (List.Mem.head _)) rfl rfl rfl rfl (fun V x hx h0 => ⟨0, brel_c V _, by decide, by have := brel_k hx; omega⟩) ?_
  intro V ls h hl hI hP hT hpv he
  obtain ⟨r0, e0, hl0⟩ := bls_r hl
  subst e0
  obtain ⟨x1, r1, e1, g1, hl1⟩ := bls_i hl0
  subst e1
  have ez := bls_0 hl1
  subst ez
  have ek : x1 = Int32.ofNat 0 := bi0 (by omega) g1
  subst ek
  have ha := hT 84 _ cs84 (by intro z; cases z)
  have ht := hT 88 _ cs88 (by intro z; cases z)
  have hw := hT 85 _ cs85 (by intro z; cases z)
  refine ⟨[some (.ref 84), some (.int (Int32.ofNat 777))], (h.1, zcpg h.2.1 88 85 (0) (0) 777, h.2.2), ?_, ?_, ?_, ?_, rfl, ?_, rfl, ?_⟩
  · intro d f hf
    refine ⟨f - 10104, by omega, ?_⟩
    have hz := zlkeep_loop (E := E) (d := d) (v := h.2.1) (rest := h.2.2) ha rfl rfl ht hw (o := 0) (q := 0) (fun k hk => by rw [zof9 (by omega), Nat.zero_add]) (fun k hk => by rw [zof9 (by omega), Nat.zero_add]) (by omega) (by omega) (Or.inl (by decide)) 777 0 (f - 10104) rfl
    rw [zcpg_0] at hz
    rw [show f - 10104 + 3 + 13 * 777 = f by omega] at hz
    exact hz
  · exact ⟨⟨_, rfl, rfl⟩, ⟨_, rfl, _, rfl, by rw [zof9 (by omega)]; exact brel_c V _⟩, trivial⟩
  · exact bcp_88 hI
  · exact bps_c rfl (show zcpg h.2.1 88 85 (0) (0) 777 27 3 = h.2.1 27 3 from zcpg_a _ (by decide)) hP
  · intro e he9
    exact absurd he9 List.not_mem_nil
  · intro a i hb
    show zcpg h.2.1 88 85 (0) (0) 777 a i = h.2.1 a i
    by_cases ha : a = 88
    · subst ha
      rw [show bun 88 i = bun 88 0 from rfl, show Nat.testBit sc373.2.1 (bun 88 0) = true from by decide +kernel] at hb
      cases hb
    · exact zcpg_a _ ha
set_option maxRecDepth 100000 in
theorem kc374_0 {E : zE} {B : Nat} : bGm E ctb B 294 sc374 1000000 nl374 nd374_0 := by
  refine bcp_good (N' := nd374_1) (List.Mem.tail _ (List.Mem.head _)) rfl rfl rfl rfl (fun V x hx h0 => ⟨0, brel_c V _, by decide, by have := brel_k hx; omega⟩) ?_
  intro V ls h hl hI hP hT hpv he
  obtain ⟨r0, e0, hl0⟩ := bls_r hl
  subst e0
  obtain ⟨x1, r1, e1, g1, hl1⟩ := bls_i hl0
  subst e1
  have ez := bls_0 hl1
  subst ez
  have ek : x1 = Int32.ofNat 0 := bi0 (by omega) g1
  subst ek
  have ha := hT 84 _ cs84 (by intro z; cases z)
  have ht := hT 85 _ cs85 (by intro z; cases z)
  have hw := hT 88 _ cs88 (by intro z; cases z)
  refine ⟨[some (.ref 84), some (.int (Int32.ofNat 777))], (h.1, zcpg h.2.1 85 88 (0) (0) 777, h.2.2), ?_, ?_, ?_, ?_, rfl, ?_, rfl, ?_⟩
  · intro d f hf
    refine ⟨f - 10104, by omega, ?_⟩
    have hz := zlbring_loop (E := E) (d := d) (v := h.2.1) (rest := h.2.2) ha rfl rfl ht hw (o := 0) (q := 0) (fun k hk => by rw [zof9 (by omega), Nat.zero_add]) (fun k hk => by rw [zof9 (by omega), Nat.zero_add]) (by omega) (by omega) (Or.inl (by decide)) 777 0 (f - 10104) rfl
    rw [zcpg_0] at hz
    rw [show f - 10104 + 3 + 13 * 777 = f by omega] at hz
    exact hz
  · exact ⟨⟨_, rfl, rfl⟩, ⟨_, rfl, _, rfl, by rw [zof9 (by omega)]; exact brel_c V _⟩, trivial⟩
  · exact bcp_bring hI
  · exact bps_c rfl (show zcpg h.2.1 85 88 (0) (0) 777 27 3 = h.2.1 27 3 from zcpg_a _ (by decide)) hP
  · intro e he9
    exact absurd he9 List.not_mem_nil
  · intro a i hb
    show zcpg h.2.1 85 88 (0) (0) 777 a i = h.2.1 a i
    by_cases ha : a = 85
    · subst ha
      rw [bun85] at hb
      rw [zcpg_t]
      by_cases hi : 0 ≤ i ∧ i < 0 + 777
      · exfalso
        rw [breg_c, if_pos (by omega), bcl_a (W := sc374.2.1) (u := bU85) (by decide +kernel) i] at hb
        cases hb
      · exact if_neg hi
    · exact zcpg_a _ ha
