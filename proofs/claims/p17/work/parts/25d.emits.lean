set_option maxRecDepth 100000 in
theorem bHI_w {h : zH} (hI : bHI h) {c jn : Nat} {y : Int32} (hb : (biv c jn).1 ≤ y.toInt ∧ y.toInt ≤ (biv c jn).2) (hnx : bnx c = true) (hh : bhc c = false) (hw : c = 85 → 1626 ≤ jn) : bHI (zsetI h c (upd (h.2.1 c) jn y)) := by
  have hat : ∀ k, (zsetI h c (upd (h.2.1 c) jn y)).2.1 c k = if k = jn then y else h.2.1 c k := by
    intro k
    show zrow h.2.1 c (upd (h.2.1 c) jn y) c k = _
    rw [zrow_at]
    rfl
  have hne : ∀ d, d ≠ c → (zsetI h c (upd (h.2.1 c) jn y)).2.1 d = h.2.1 d := fun d hd => zrow_ne _ _ hd
  refine ⟨?_, ?_, bHX_w hI.1 hI.2.2.1 hnx (fun z => Or.inl (hw z)), ?_⟩
  · intro d k
    by_cases hd : d = c
    · subst hd
      rw [hat]
      by_cases hk : k = jn
      · subst hk
        rw [if_pos rfl]
        exact hb
      · rw [if_neg hk]
        exact hI.1 d k
    · rw [hne d hd]
      exact hI.1 d k
  · show blam ((zsetI h c (upd (h.2.1 c) jn y)).2.1 85)
    by_cases hd : 85 = c
    · have h1 := hw hd.symm
      have h2 : (h.2.1 85 2).toInt ≤ 8 := by
        have := (hI.1 85 2).2
        rw [biv85, bwi2] at this
        exact this
      subst hd
      refine blam_c ?_ (fun k hk => ?_) hI.2.1
      · rw [hat, if_neg (by omega)]
        exact h2
      · rw [hat, if_neg (by omega)]
        rfl
    · rw [hne 85 hd]
      exact hI.2.1
  · intro d hd k
    have hdc : d ≠ c := by
      intro z
      rw [z, hh] at hd
      cases hd
    rw [hne d hdc]
    exact hI.2.2.2 d hd k
set_option maxRecDepth 100000 in
theorem biv84st : biv 84 16 = (0, 400) := rfl
set_option maxRecDepth 100000 in
theorem bwiod : ∀ i : Nat, i < 400 → bwinv (1675 + 2 * i) = (-1, 14) ∧ bwinv (1675 + 2 * i + 1) = (-2147483648, 2147483647) := by decide +kernel
set_option maxRecDepth 100000 in
theorem zsI_ne {h : zH} {c d : Nat} {f : Nat → Int32} (hd : d ≠ c) : (zsetI h c f).2.1 d = h.2.1 d := zrow_ne _ _ hd
set_option maxRecDepth 100000 in
theorem zsI_at {h : zH} {c : Nat} {f : Nat → Int32} : (zsetI h c f).2.1 c = f := zrow_at _ _ _
set_option maxRecDepth 100000 in
theorem zem {E : zE} {h : zH} (hI : bHI h) (hP : bPS h) (hT : bTB ctb h.1) {x y : Int32} (hx : -1 ≤ x.toInt ∧ x.toInt ≤ 14) (hst : (h.2.1 84 16).toInt ≤ 399) (hs0 : (bs0 E : Int) ≤ (h.2.1 84 16).toInt) (d f : Nat) (hf : 29 ≤ f) :
    ∃ h', zex E f d 255 0 [some (.ref 84), some (.int x), some (.int y)] [] h = some (.inl none, h') ∧ bHI h' ∧ bPS h' ∧ h'.1 = h.1 ∧ h'.2.2 = h.2.2 ∧ (h'.2.1 84 16).toInt = (h.2.1 84 16).toInt + 1 ∧ bdv9 E h' = bstp x.toInt (bdv9 E h) ∧ (bokc E h' ↔ bokc E h) ∧
      (∀ a k, a ≠ 85 → (a ≠ 84 ∨ k ≠ 16) → h'.2.1 a k = h.2.1 a k) ∧ ∀ k, k < 1675 → h'.2.1 85 k = h.2.1 85 k := by
  have ha := hT 84 _ cs84 (by intro z; cases z)
  have ht := hT 85 _ cs85 (by intro z; cases z)
  have hb := bst9_b hI
  obtain ⟨s, hs⟩ : ∃ s : Nat, (h.2.1 84 16).toInt = (s : Int) := ⟨(h.2.1 84 16).toInt.toNat, by omega⟩
  have e1 : (1675 + 2 * h.2.1 84 16).toInt = ((1675 + 2 * s : Nat) : Int) := by
    have e2 : (2 * h.2.1 84 16).toInt = 2 * (s : Int) := by
      rw [Int32.toInt_mul, hs, show (2 : Int32).toInt = 2 by decide, bbm (by omega) (by omega)]
    rw [Int32.toInt_add, e2, show (1675 : Int32).toInt = 1675 by decide, bbm (by omega) (by omega)]
    omega
  have e3 : (1675 + 2 * h.2.1 84 16 + 1).toInt = ((1675 + 2 * s + 1 : Nat) : Int) := by
    rw [Int32.toInt_add, e1, show (1 : Int32).toInt = 1 by decide, bbm (by omega) (by omega)]
    omega
  have e4 : (h.2.1 84 16 + 1).toInt = (s : Int) + 1 := by
    rw [Int32.toInt_add, hs, show (1 : Int32).toInt = 1 by decide, bbm (by omega) (by omega)]
  have hz := zemit_all (E := E) (d := d) (v := h.2.1) (rest := h.2.2) (x := x) (y := y) (I := 1675 + 2 * s) (rho := h.2.1 84 16) ha rfl rfl ht (by decide) rfl e1 (by omega) e3 (by omega) (f - 29)
  rw [show f - 29 + 29 = f by omega] at hz
  let h1 := zsetI h 85 (upd (h.2.1 85) (1675 + 2 * s) x)
  let h2 := zsetI h1 85 (upd (h1.2.1 85) (1675 + 2 * s + 1) y)
  let h3 := zsetI h2 84 (upd (h2.2.1 84) 16 (h.2.1 84 16 + 1))
  have hod := bwiod s (by omega)
  have I1 : bHI h1 := bHI_w hI (by rw [biv85, hod.1]; exact hx) rfl rfl (fun _ => by omega)
  have I2 : bHI h2 := bHI_w I1 (by rw [biv85, hod.2]; exact bi32 y) rfl rfl (fun _ => by omega)
  have I3 : bHI h3 := bHI_w I2 (by rw [biv84st]; show 0 ≤ _ ∧ _ ≤ 400; rw [e4]; omega) rfl rfl (fun z => by cases z)
  have v85 : ∀ k, h3.2.1 85 k = if k = 1675 + 2 * s + 1 then y else if k = 1675 + 2 * s then x else h.2.1 85 k := by
    intro k
    have q1 : h3.2.1 85 = h2.2.1 85 := zsI_ne (by decide)
    have q2 : h2.2.1 85 = upd (h1.2.1 85) (1675 + 2 * s + 1) y := zsI_at
    have q3 : h1.2.1 85 = upd (h.2.1 85) (1675 + 2 * s) x := zsI_at
    rw [q1, q2]
    unfold upd
    by_cases hk : k = 1675 + 2 * s + 1
    · rw [if_pos hk, if_pos hk]
    · rw [if_neg hk, if_neg hk, q3]
      rfl
  have v84 : ∀ k, h3.2.1 84 k = if k = 16 then h.2.1 84 16 + 1 else h.2.1 84 k := by
    intro k
    have q1 : h3.2.1 84 = upd (h2.2.1 84) 16 (h.2.1 84 16 + 1) := zsI_at
    have q2 : h2.2.1 84 = h1.2.1 84 := zsI_ne (by decide)
    have q3 : h1.2.1 84 = h.2.1 84 := zsI_ne (by decide)
    rw [q1]
    unfold upd
    by_cases hk : k = 16
    · rw [if_pos hk, if_pos hk]
    · rw [if_neg hk, if_neg hk, q2, q3]
  have vo : ∀ a, a ≠ 84 → a ≠ 85 → h3.2.1 a = h.2.1 a := by
    intro a g1 g2
    have q1 : h3.2.1 a = h2.2.1 a := zsI_ne g1
    have q2 : h2.2.1 a = h1.2.1 a := zsI_ne g2
    have q3 : h1.2.1 a = h.2.1 a := zsI_ne g2
    rw [q1, q2, q3]
  refine ⟨h3, ?_, I3, bps_c rfl ?_ hP, rfl, rfl, ?_, ?_, ?_, ?_, ?_⟩
  · exact hz
  · rw [vo 27 (by decide) (by decide)]
  · rw [v84, if_pos rfl, e4, hs]
  · unfold bdv9 bst9
    rw [v84, if_pos rfl, e4, hs]
    have n1 : ((s : Int) + 1).toNat = s + 1 := by omega
    have n2 : ((s : Int)).toNat = s := by omega
    rw [n1, n2]
    have hle : bs0 E ≤ s := by omega
    rw [if_neg (by omega), if_neg (by omega), show s + 1 - bs0 E = (s - bs0 E) + 1 by omega]
    show bstp (h3.2.1 85 (1675 + 2 * (bs0 E + (s - bs0 E)))).toInt (bdf (h3.2.1 85) (bs0 E) (s - bs0 E)) = _
    rw [show bs0 E + (s - bs0 E) = s by omega, v85, if_neg (by omega), if_pos rfl]
    rw [bdf_e (f := h3.2.1 85) (g := h.2.1 85) fun i hi => by rw [v85, if_neg (by omega), if_neg (by omega)]]
  · have hle : bs0 E ≤ s := by omega
    constructor
    · intro q i hi
      have := q i hi
      rw [v85, if_neg (by omega), if_neg (by omega)] at this
      exact this
    · intro q i hi
      rw [v85, if_neg (by omega), if_neg (by omega)]
      exact q i hi
  · intro a k g1 g2
    by_cases g3 : a = 84
    · subst g3
      rw [v84, if_neg (by rcases g2 with z | z; exact absurd rfl z; exact z)]
    · rw [vo a g3 g1]
  · intro k hk
    rw [v85, if_neg (by omega), if_neg (by omega)]
set_option maxRecDepth 100000 in
theorem zmi255 : zat zmi 255 = some (3, 3, 0, 12, 0, 0) := rfl
set_option maxRecDepth 100000 in
theorem bun84 (k : Nat) : bun 84 k = bUst - 16 + k := rfl
set_option maxRecDepth 100000 in
theorem bem_mt {E : zE} {B W : Nat} {k need by9 : Int} {eN eS eD eV eO : Int × Int} (hB : 29 ≤ B) (hk : -1 ≤ k ∧ k ≤ 14) (heS : eS.2 ≤ 399) (hW1 : Nat.testBit W bUst = true) (hW2 : Nat.testBit W (bU85 + 15) = true) (hby : ∀ δ : Int, need ≤ δ → bstp k δ = δ + by9) :
    bMT E ctb B 255 (0, W, 0, 0, [.inr (.inl (.ref 84)), .inl (k, []), .inl (0, [(0, 1)])], [eN, eS, eD, eV, eO], [(0, [(1, 1), (3, -1)]), (-need, [(2, 1)])], [(84, 16, (0, [(1, 1)])), (901, 0, (0, [(2, 1)])), (901, 1, (0, [(3, 1)])), (902, 0, (0, [(4, 1)]))],
      [([], [], none, [(84, 16, (1, [(1, 1)])), (901, 0, (by9, [(2, 1)])), (902, 0, (0, [(4, 1)]))])]) := by
  intro Vc ss h d f q hq hd hf ha hv hcs hpv hI hP hT
  rw [zmi255] at hq
  cases hq
  obtain ⟨r, h1, ha2⟩ := bKR_o ha
  subst h1
  obtain ⟨x, r, h1, hx, ha3⟩ := bKR_i ha2
  subst h1
  obtain ⟨y, r, h1, hy, ha4⟩ := bKR_i ha3
  subst h1
  cases bKR_n ha4
  have hx : x.toInt = k := brel_k hx
  obtain ⟨v1, b1, b2, b3⟩ := hv.2 1 _ _ rfl
  obtain ⟨v2, b4, -, -⟩ := hv.2 2 _ _ rfl
  obtain ⟨v3, b5, -, -⟩ := hv.2 3 _ _ rfl
  obtain ⟨v4, b6, -, -⟩ := hv.2 4 _ _ rfl
  have p1 := hpv _ (List.Mem.head _)
  have p2 := hpv _ (List.Mem.tail _ (List.Mem.head _))
  have p3 := hpv _ (List.Mem.tail _ (List.Mem.tail _ (List.Mem.head _)))
  have p4 := hpv _ (List.Mem.tail _ (List.Mem.tail _ (List.Mem.tail _ (List.Mem.head _))))
  have p1 : bvl E h 84 16 = v1 := brel_f p1 (brel_v b1)
  have p2 : bvl E h 901 0 = v2 := brel_f p2 (brel_v b4)
  have p3 : bvl E h 901 1 = v3 := brel_f p3 (brel_v b5)
  have p4 : bvl E h 902 0 = v4 := brel_f p4 (brel_v b6)
  rw [bvl_n (show Nat.blt 84 900 = true from rfl)] at p1
  rw [bvl_0] at p2
  rw [bvl_1] at p3
  rw [bvl_2] at p4
  obtain ⟨c1, c2, c3⟩ := hcs _ (List.Mem.head _)
  obtain ⟨c4, c5, c6⟩ := hcs _ (List.Mem.tail _ (List.Mem.head _))
  have f1 : brel Vc (0, [(1, 1), (3, -1)]) (v1 - v3) := ⟨v1 - v3, ⟨v1, -v3, b1, ⟨v3, 0, b5, rfl, by show -v3 = -1 * v3 + 0; omega⟩, by show v1 - v3 = 1 * v1 + -v3; omega⟩, by show v1 - v3 = 0 + (v1 - v3); omega⟩
  have f2 : brel Vc (-need, [(2, 1)]) (v2 - need) := ⟨v2, ⟨v2, 0, b4, rfl, by show v2 = 1 * v2 + 0; omega⟩, by show v2 - need = -need + v2; omega⟩
  have c2 := brel_f c2 f1
  have c5 := brel_f c5 f2
  have hlt : eS.2 ≤ 399 := heS
  obtain ⟨h', z1, z2, z3, z4, z5, z6, z7, z8, z9, z10⟩ := zem (E := E) hI hP hT (x := x) (y := y) (by rw [hx]; exact hk) (by omega) (by omega) d f (by omega)
  refine ⟨none, h', z1, z2, ⟨z3, by rw [z4]; exact hT⟩, ?_, by rw [z5]; exact Nat.le_refl _, by rw [z5]; exact Nat.le_refl _, _, List.Mem.head _, [], ⟨rfl, fun i lo hi z => nomatch z⟩, fun C hC => absurd hC List.not_mem_nil, trivial, ?_⟩
  · intro a i hb
    have hb : Nat.testBit W (bun a i) = false := hb
    by_cases ga : a = 85
    · subst ga
      by_cases gi : i < 1675
      · exact z10 i gi
      · rw [bun85, breg_c, if_neg (by omega), if_neg (by omega), if_neg (by omega), if_neg (by omega), hW2] at hb
        cases hb
    · refine z9 a i ga ?_
      by_cases g2 : a = 84
      · refine Or.inr fun g3 => ?_
        subst g2
        subst g3
        rw [bunst, hW1] at hb
        cases hb
      · exact Or.inl g2
  · rw [List.append_nil]
    intro e he
    cases he with
    | head =>
      show brel Vc (1, [(1, 1)]) (bvl E h' 84 16)
      rw [bvl_n (show Nat.blt 84 900 = true from rfl), z6, p1]
      exact ⟨v1, ⟨v1, 0, b1, rfl, by show v1 = 1 * v1 + 0; omega⟩, by show v1 + 1 = 1 + v1; omega⟩
    | tail _ he =>
      cases he with
      | head =>
        show brel Vc (by9, [(2, 1)]) (bvl E h' 901 0)
        rw [bvl_0, z7, hx, p2, hby v2 (by omega)]
        exact ⟨v2, ⟨v2, 0, b4, rfl, by show v2 = 1 * v2 + 0; omega⟩, by show v2 + by9 = by9 + v2; omega⟩
      | tail _ he =>
        cases he with
        | head =>
          show brel Vc (0, [(4, 1)]) (bvl E h' 902 0)
          rw [bvl_2, bpf_c z8, p4]
          exact brel_v b6
        | tail _ he => exact absurd he List.not_mem_nil
