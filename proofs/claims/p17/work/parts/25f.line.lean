set_option maxRecDepth 100000 in
theorem brel_2 {V : List Int} {i j : Nat} {a b v w : Int} (h1 : zat V i = some v) (h2 : zat V j = some w) : brel V (0, [(i, a), (j, b)]) (a * v + b * w) := ⟨a * v + b * w, ⟨v, b * w, h1, ⟨w, 0, h2, rfl, (Int.add_zero _).symm⟩, rfl⟩, (Int.zero_add _).symm⟩
set_option maxRecDepth 100000 in
theorem bl3 {V : List Int} {a b c : Int} (hl : V.length = 3) (h0 : zat V 0 = some a) (h1 : zat V 1 = some b) (h2 : zat V 2 = some c) : V = [a, b, c] := by
  match V, hl, h0, h1, h2 with
  | [x, y, z], _, e0, e1, e2 => cases e0; cases e1; cases e2; rfl
set_option maxRecDepth 100000 in
theorem ble_line {E : zE} (hE : E.1 ≤ 4000) {B D D' W W' n : Nat} (hD : D ≤ D') (hWW : ∀ u, Nat.testBit W' u = false → Nat.testBit W u = false) {eP eB : Int × Int} {eS : Int × Int} (hPS : 0 ≤ eP.1 ∧ eP.2 ≤ 400) (hBS : 0 ≤ eB.1 ∧ eB.2 ≤ 400)
    (hWl : ∀ i, i < n → Nat.testBit W (bU85 + (3 + i)) = false) (hn : n < 12) {f0 fs : Int × Int} {fd : Int × Int} (hfd : 0 ≤ fd.1) {fp f6 : Int × Int} {fr0 fr1 fo : Int × Int} (hr0 : fr0 = (0, 0)) (hr1 : fr1 = (1, 1)) (hfo : fo = (1, 1)) (h400 : 0 ≤ f0.1 ∧ f0.2 ≤ 400 ∧ 0 ≤ fp.1 ∧ fp.2 ≤ 400 ∧ 0 ≤ fs.1 ∧ fs.2 ≤ 400)
    (hM : ∀ E9 : zE, E9.1 = E.1 → bMT E9 ctb B 262 (D, W, 0, 0, [.inr (.inl (.ref 84)), .inl (n, [])], [(0, 400), (0, 400), (0, 400)], [(0, [(1, -1), (2, 1)]), (0, [(0, 1), (2, -1)])],
      [(84, 10, (0, [(0, 1)])), (84, 16, (0, [(1, 1)])), (84, 12, (0, [(2, 1)])), (901, 1, (0, [(1, 1)])), (901, 0, (0, [])), (902, 0, (1, []))],
      [([fr0, f0], [(0, [(0, -1), (4, 1)])], some (.inl (0, [(3, 1)])), [(84, 10, (0, [(4, 1)]))]),
       ([fr1, fp, fs, f6, fd, fo], [(0, [(0, -1), (4, 1)]), (0, [(4, 1), (5, -1)]), (0, [(1, -1), (5, 1)]), (0, [(5, 1), (6, -1)]), (0, [(5, -1), (6, 1)])], some (.inl (0, [(3, 1)])),
         [(84, 10, (0, [(4, 1)])), (84, 16, (0, [(5, 1)])), (85, 1629 + 4 * n, (0, [(1, 1)])), (85, 1630 + 4 * n, (0, [(6, 1)])), (901, 0, (0, [(7, 1)])), (902, 0, (0, [(8, 1)]))])])) :
    bMT E ctb B 262 (D', W', 0, 0, [.inr (.inl (.ref 84)), .inl (n, [])], [eP, eS, eB], [(0, [(1, -1), (2, 1)]), (0, [(0, 1), (2, -1)])], [(84, 10, (0, [(0, 1)])), (84, 16, (0, [(1, 1)])), (84, 12, (0, [(2, 1)])), (903, n, (1, []))],
      [([(0, 400)], [(0, [(0, -1), (3, 1)])], some (.inl (0, [])), [(84, 10, (0, [(3, 1)]))]),
       ([(0, 400), (0, 400)], [(0, [(0, -1), (3, 1)]), (0, [(3, 1), (4, -1)])], some (.inl (1, [])), [(84, 10, (0, [(3, 1)])), (84, 16, (0, [(4, 1)])), (903, n + 1, (1, []))])]) := by
  intro Vc ss h d f q hq hd hf ha hv hcs hpv hI hP hT
  have hb := bst9_b hI
  obtain ⟨s, hs⟩ : ∃ s : Nat, (h.2.1 84 16).toInt = (s : Int) := ⟨(h.2.1 84 16).toInt.toNat, by omega⟩
  have hs4 : s ≤ 400 := by omega
  obtain ⟨v0, b0, b0l, b0h⟩ := hv.2 0 _ _ rfl
  obtain ⟨v1, b1, -, -⟩ := hv.2 1 _ _ rfl
  obtain ⟨v2, b2, b2l, b2h⟩ := hv.2 2 _ _ rfl
  have p1 := hpv _ (List.Mem.tail _ (List.Mem.head _))
  have p3 := hpv _ (List.Mem.tail _ (List.Mem.tail _ (List.Mem.tail _ (List.Mem.head _))))
  have pv1 : bvl E h 84 16 = v1 := brel_f p1 (brel_v b1)
  rw [bvl_n (show Nat.blt 84 900 = true from rfl)] at pv1
  have p3 : brel Vc (1, []) (bvl E h 903 n) := p3
  rw [bvl_3] at p3
  have hok : bokn h n := bpf_1 (brel_k p3)
  let g : Nat → Int32 := fun i => h.2.1 85 (1675 + (i - 5000))
  have hlen : Vc.length = 3 := hv.1
  have e84 : ∀ (E9 : zE) k, bvl E9 h 84 k = bvl E h 84 k := fun E9 k => by rw [bvl_n (show Nat.blt 84 900 = true from rfl), bvl_n (show Nat.blt 84 900 = true from rfl)]
  have hlo : eP.1 ≤ v0 ∧ v0 ≤ eP.2 := ⟨b0l, b0h⟩
  have hlo2 : eB.1 ≤ v2 ∧ v2 ≤ eB.2 := ⟨b2l, b2h⟩
  obtain ⟨v, h', m1, m2, m3, m4, m5, m6, p, m7, m8⟩ := hM (bgh E s g) rfl Vc ss h d f q hq (by show D ≤ d; have : D' ≤ d := hd; omega) hf ha ⟨hlen, fun i lo hi hz => by
      cases i with
      | zero => cases hz; exact ⟨v0, b0, by omega, by omega⟩
      | succ i =>
        cases i with
        | zero => cases hz; exact ⟨v1, b1, by omega, by omega⟩
        | succ i =>
          cases i with
          | zero => cases hz; exact ⟨v2, b2, by omega, by omega⟩
          | succ i => cases hz⟩ hcs (by
      intro e he
      cases he with
      | head => exact (e84 (bgh E s g) 10).symm ▸ hpv _ (List.Mem.head _)
      | tail _ he =>
        cases he with
        | head => exact (e84 (bgh E s g) 16).symm ▸ hpv _ (List.Mem.tail _ (List.Mem.head _))
        | tail _ he =>
          cases he with
          | head => exact (e84 (bgh E s g) 12).symm ▸ hpv _ (List.Mem.tail _ (List.Mem.tail _ (List.Mem.head _)))
          | tail _ he =>
            cases he with
            | head =>
              show brel Vc (0, [(1, 1)]) (bvl (bgh E s g) h 901 1)
              rw [bvl_1, bgh_0 hE hs4, ← hs, pv1]
              exact brel_v b1
            | tail _ he =>
              cases he with
              | head =>
                show brel Vc (0, []) (bvl (bgh E s g) h 901 0)
                rw [bvl_0]
                have : bdv9 (bgh E s g) h = 0 := by
                  unfold bdv9 bst9
                  rw [bgh_0 hE hs4, hs, show ((s : Int)).toNat = s by omega, if_neg (by omega), Nat.sub_self]
                  rfl
                rw [this]
                exact brel_c Vc 0
              | tail _ he =>
                cases he with
                | head =>
                  show brel Vc (1, []) (bvl (bgh E s g) h 902 0)
                  rw [bvl_2, bpf_p (bgh_c hE hs4)]
                  exact brel_c Vc 1
                | tail _ he => exact absurd he List.not_mem_nil) hI hP hT
  rw [← bgh_e] at m1
  refine ⟨v, h', m1, m2, m3, fun a k hb => m4 a k (hWW _ hb), m5, m6, ?_⟩
  have hV := bl3 hlen b0 b1 b2
  subst hr0
  subst hr1
  subst hfo
  subst hV
  have e84' : ∀ (E9 : zE) k, bvl E9 h' 84 k = bvl E h' 84 k := fun E9 k => by rw [bvl_n (show Nat.blt 84 900 = true from rfl), bvl_n (show Nat.blt 84 900 = true from rfl)]
  cases m7 with
  | head =>
    obtain ⟨U, u1, u2, u3, u4⟩ := m8
    obtain ⟨r, z0, z0l, z0h⟩ := u1.2 0 _ _ rfl
    obtain ⟨x, z1, z1l, z1h⟩ := u1.2 1 _ _ rfl
    have t0 : zat ([v0, v1, v2] ++ U) 0 = some v0 := rfl
    have t3 : zat ([v0, v1, v2] ++ U) 3 = some r := z0
    have t4 : zat ([v0, v1, v2] ++ U) 4 = some x := z1
    obtain ⟨y1, y1r, y1p⟩ := u2 _ (List.Mem.head _)
    have y1e := brel_f y1r (brel_2 t0 t4)
    have q10 := brel_f (u4 _ (List.Mem.head _)) (brel_v t4)
    have q10 : bvl (bgh E s g) h' 84 10 = x := q10
    rw [e84'] at q10
    refine ⟨_, List.Mem.head _, [x], ⟨rfl, fun i lo hi hz => by
      cases i with
      | zero => cases hz; exact ⟨x, rfl, by omega, by omega⟩
      | succ i => cases hz⟩, fun C hC => by
      cases hC with
      | head => exact ⟨_, brel_2 (V := [v0, v1, v2] ++ [x]) (i := 0) (j := 3) rfl rfl, by omega⟩
      | tail _ hC => exact absurd hC List.not_mem_nil, ?_, fun e he => by
      cases he with
      | head =>
        show brel ([v0, v1, v2] ++ [x]) (0, [(3, 1)]) (bvl E h' 84 10)
        rw [q10]
        exact brel_v rfl
      | tail _ he => exact absurd he List.not_mem_nil⟩
    cases v with
    | none => exact u3.elim
    | some w =>
      obtain ⟨x9, w1, w2⟩ := u3
      have w3 := brel_f w2 (brel_v t3)
      refine ⟨x9, w1, ?_⟩
      rw [w3, show r = 0 by omega]
      exact brel_c _ 0
  | tail _ m7 =>
    cases m7 with
    | tail _ m7 => exact absurd m7 List.not_mem_nil
    | head =>
      obtain ⟨U, u1, u2, u3, u4⟩ := m8
      obtain ⟨r, z0, z0l, z0h⟩ := u1.2 0 _ _ rfl
      obtain ⟨x, z1, z1l, z1h⟩ := u1.2 1 _ _ rfl
      obtain ⟨st, z2, z2l, z2h⟩ := u1.2 2 _ _ rfl
      obtain ⟨hi9, z3, z3l, z3h⟩ := u1.2 3 _ _ rfl
      obtain ⟨dv, z4, z4l, z4h⟩ := u1.2 4 _ _ rfl
      obtain ⟨oc, z5, z5l, z5h⟩ := u1.2 5 _ _ rfl
      have t0 : zat ([v0, v1, v2] ++ U) 0 = some v0 := rfl
      have t1 : zat ([v0, v1, v2] ++ U) 1 = some v1 := rfl
      have t3 : zat ([v0, v1, v2] ++ U) 3 = some r := z0
      have t4 : zat ([v0, v1, v2] ++ U) 4 = some x := z1
      have t5 : zat ([v0, v1, v2] ++ U) 5 = some st := z2
      have t6 : zat ([v0, v1, v2] ++ U) 6 = some hi9 := z3
      have t7 : zat ([v0, v1, v2] ++ U) 7 = some dv := z4
      have t8 : zat ([v0, v1, v2] ++ U) 8 = some oc := z5
      obtain ⟨y1, y1r, y1p⟩ := u2 _ (List.Mem.head _)
      have y1e := brel_f y1r (brel_2 t0 t4)
      obtain ⟨y2, y2r, y2p⟩ := u2 _ (List.Mem.tail _ (List.Mem.head _))
      have y2e := brel_f y2r (brel_2 t4 t5)
      obtain ⟨y3, y3r, y3p⟩ := u2 _ (List.Mem.tail _ (List.Mem.tail _ (List.Mem.head _)))
      have y3e := brel_f y3r (brel_2 t1 t5)
      obtain ⟨y4, y4r, y4p⟩ := u2 _ (List.Mem.tail _ (List.Mem.tail _ (List.Mem.tail _ (List.Mem.head _))))
      have y4e := brel_f y4r (brel_2 t5 t6)
      obtain ⟨y5, y5r, y5p⟩ := u2 _ (List.Mem.tail _ (List.Mem.tail _ (List.Mem.tail _ (List.Mem.tail _ (List.Mem.head _)))))
      have y5e := brel_f y5r (brel_2 t5 t6)
      have q10 : bvl (bgh E s g) h' 84 10 = x := brel_f (u4 _ (List.Mem.head _)) (brel_v t4)
      have q16 : bvl (bgh E s g) h' 84 16 = st := brel_f (u4 _ (List.Mem.tail _ (List.Mem.head _))) (brel_v t5)
      have qlo : bvl (bgh E s g) h' 85 (1629 + 4 * n) = v1 := brel_f (u4 _ (List.Mem.tail _ (List.Mem.tail _ (List.Mem.head _)))) (brel_v t1)
      have qhi : bvl (bgh E s g) h' 85 (1630 + 4 * n) = hi9 := brel_f (u4 _ (List.Mem.tail _ (List.Mem.tail _ (List.Mem.tail _ (List.Mem.head _))))) (brel_v t6)
      have qdv : bvl (bgh E s g) h' 901 0 = dv := brel_f (u4 _ (List.Mem.tail _ (List.Mem.tail _ (List.Mem.tail _ (List.Mem.tail _ (List.Mem.head _)))))) (brel_v t7)
      have qok : bvl (bgh E s g) h' 902 0 = oc := brel_f (u4 _ (List.Mem.tail _ (List.Mem.tail _ (List.Mem.tail _ (List.Mem.tail _ (List.Mem.tail _ (List.Mem.head _))))))) (brel_v t8)
      rw [e84'] at q10 q16
      rw [bvl_n (show Nat.blt 85 900 = true from rfl)] at qlo qhi
      rw [bvl_0] at qdv
      rw [bvl_2] at qok
      have qst : (h'.2.1 84 16).toInt = st := by rw [← q16, bvl_n (show Nat.blt 84 900 = true from rfl)]
      have hkp := bgh_k (h := h) (h' := h') hE hs4 (bpf_1 (by rw [qok]; omega))
      have hvs : v1 = (s : Int) := by rw [← pv1, hs]
      have hnew : bokn h' (n + 1) := by
        intro i hi
        by_cases hlt : i < n
        · obtain ⟨o1, o2, o3, o4⟩ := hok i hlt
          have c1 : h'.2.1 85 (1629 + 4 * i) = h.2.1 85 (1629 + 4 * i) := m4 85 _ (by
            show Nat.testBit W (bun 85 (1629 + 4 * i)) = false
            rw [bun85, breg_c, if_neg (by omega), if_neg (by omega), if_neg (by omega), if_pos (by omega), show 3 + (1629 + 4 * i - 1627) / 4 = 3 + i by omega]
            exact hWl i hlt)
          have c2 : h'.2.1 85 (1630 + 4 * i) = h.2.1 85 (1630 + 4 * i) := m4 85 _ (by
            show Nat.testBit W (bun 85 (1630 + 4 * i)) = false
            rw [bun85, breg_c, if_neg (by omega), if_neg (by omega), if_neg (by omega), if_pos (by omega), show 3 + (1630 + 4 * i - 1627) / 4 = 3 + i by omega]
            exact hWl i hlt)
          refine ⟨?_, ?_, ?_, ?_⟩
          · rw [c1]; exact o1
          · rw [c1, c2]; exact o2
          · rw [c2, qst]; omega
          · rw [c1, c2, bdf_e (g := h.2.1 85) (fun k hk => by
              have := hkp (2 * ((h.2.1 85 (1629 + 4 * i)).toInt.toNat + k)) (by omega)
              exact this)]
            exact o4
        · have hin : i = n := by omega
          subst hin
          refine ⟨?_, ?_, ?_, ?_⟩
          · rw [qlo]; omega
          · rw [qlo, qhi]; omega
          · rw [qhi, qst]; omega
          · rw [qlo, qhi]
            unfold bdv9 bst9 at qdv
            rw [bgh_0 hE hs4, qst, if_neg (by omega)] at qdv
            rw [show v1.toNat = s by omega, show (hi9 - v1).toNat = st.toNat - s by omega, qdv]
            omega
      refine ⟨_, List.Mem.tail _ (List.Mem.head _), [x, st], ⟨rfl, fun i lo hi hz => by
        cases i with
        | zero => cases hz; exact ⟨x, rfl, by omega, by omega⟩
        | succ i =>
          cases i with
          | zero => cases hz; exact ⟨st, rfl, by omega, by omega⟩
          | succ i => cases hz⟩, fun C hC => by
        cases hC with
        | head => exact ⟨_, brel_2 (V := [v0, v1, v2] ++ [x, st]) (i := 0) (j := 3) rfl rfl, by omega⟩
        | tail _ hC =>
          cases hC with
          | head => exact ⟨_, brel_2 (V := [v0, v1, v2] ++ [x, st]) (i := 3) (j := 4) rfl rfl, by omega⟩
          | tail _ hC => exact absurd hC List.not_mem_nil, ?_, fun e he => by
        cases he with
        | head =>
          show brel ([v0, v1, v2] ++ [x, st]) (0, [(3, 1)]) (bvl E h' 84 10)
          rw [q10]
          exact brel_v rfl
        | tail _ he =>
          cases he with
          | head =>
            show brel ([v0, v1, v2] ++ [x, st]) (0, [(4, 1)]) (bvl E h' 84 16)
            rw [q16]
            exact brel_v rfl
          | tail _ he =>
            cases he with
            | head =>
              show brel ([v0, v1, v2] ++ [x, st]) (1, []) (bvl E h' 903 (n + 1))
              rw [bvl_3, bpf_p hnew]
              exact brel_c _ 1
            | tail _ he => exact absurd he List.not_mem_nil⟩
      cases v with
      | none => exact u3.elim
      | some w =>
        obtain ⟨x9, w1, w2⟩ := u3
        have w3 := brel_f w2 (brel_v t3)
        refine ⟨x9, w1, ?_⟩
        rw [w3, show r = 1 by omega]
        exact brel_c _ 1
