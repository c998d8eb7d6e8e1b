set_option maxRecDepth 100000 in
theorem bQm_tb {E : zE} {tb : bTb} {c : bSm} {Vc : List Int} {h : zH} {o : Option zR} (q : bQm E tb c Vc h o) : bQm E ctb c Vc h o := by
  obtain ⟨v, h', e1, e2, ⟨e3, e4⟩, e5⟩ := q
  refine ⟨v, h', e1, e2, ⟨e3, ?_⟩, e5⟩
  obtain ⟨r, r1, r2, r3⟩ := e3
  rw [r2]
  exact ctb_B r1
set_option maxRecDepth 100000 in
theorem pa27 {h : zH} {r : Nat} (hr : r ≤ 12) (hs : h.1 = bsT r) : zat h.1 27 = some (.inr (.inl (7, [some (some 28), some (some 29), none, none]))) := by
  rw [hs]
  exact zse_s (bst27 r (by omega))
set_option maxRecDepth 100000 in
theorem biv273 : biv 27 3 = (0, 11) := rfl
set_option maxRecDepth 100000 in
theorem bRQ_next {W : Nat} {h0 h : zH} {a b r : Nat} (hq : bRQ ctb W h0 a b h) (hW : Nat.testBit W (bun 27 3) = true) (hs : h.1 = bsT r) (hr : r ≤ 12) {y : Int32} (y0 : 0 ≤ y.toInt) (y1 : y.toInt ≤ 11) (y2 : y.toInt ≤ (r : Int)) : bRQ ctb W h0 a b (zsetI h 27 (upd (h.2.1 27) 3 y)) := by
  obtain ⟨q1, q2, q3, q4, q5, q6⟩ := hq
  refine ⟨bHI_w q1 (by rw [biv273]; exact ⟨y0, y1⟩) rfl rfl (fun z => by cases z), ⟨r, hr, hs, ?_⟩, q3, fun c k hb => ?_, q5, q6⟩
  · show ((zrow h.2.1 27 (upd (h.2.1 27) 3 y)) 27 3).toInt ≤ _
    rw [zrow_at]
    exact y2
  · rw [← q4 c k hb]
    show zrow h.2.1 27 (upd (h.2.1 27) 3 y) c k = _
    by_cases hc : c = 27
    · subst hc
      rw [zrow_at]
      unfold upd
      by_cases hk : k = 3
      · subst hk
        rw [hW] at hb
        cases hb
      · rw [if_neg hk]
    · rw [zrow_ne _ _ hc]
set_option maxRecDepth 100000 in
theorem paLR (V : List Int) : bLR V paL paLs := ⟨⟨_, rfl, rfl⟩, ⟨_, rfl, rfl⟩, ⟨_, rfl, rfl⟩, trivial⟩
set_option maxRecDepth 100000 in
theorem paLR_s {V : List Int} {ls : zLs} (h : bLR V paL ls) : ls = paLs := by
  obtain ⟨l1, e1, k1⟩ := bls_r h
  obtain ⟨l2, e2, k2⟩ := bls_r k1
  obtain ⟨l3, e3, k3⟩ := bls_r k2
  rw [e1, e2, e3, bls_0 k3]
  rfl
set_option maxRecDepth 100000 in
theorem paW : Nat.testBit sc169.2.1 (bun 27 3) = true := by decide +kernel
set_option maxRecDepth 100000 in
theorem reW : Nat.testBit sc170.2.1 (bun 27 3) = true := by decide +kernel
set_option maxRecDepth 100000 in
theorem ov273 {E : zE} {V : List Int} {h : zH} {z : Int} (hx : (h.2.1 27 3).toInt = z) : bOV E V [(27, (3, []), (z, []))] h := by
  intro q hq
  cases hq with
  | tail _ hq => exact absurd hq List.not_mem_nil
  | head =>
    refine ⟨3, brel_c V 3, ?_⟩
    show brel V (z, []) (bvl E h 27 3)
    rw [bvl_n (show Nat.blt 27 900 = true from rfl), hx]
    exact brel_c V z
section PA
variable {E : zE} {h0 h : zH} {r n : Nat}
set_option maxRecDepth 100000 in
theorem pa_fin (hE : E.1 < 2147483648) (hq : bRQ ctb sc169.2.1 h0 9 1200 h) : ∀ d f, 3 ≤ d → 1000000 ≤ f → bQm E ctb sc169 [] h0 (zex E f d 167 107 paLs [] h) := by
  intro d f hd hf
  exact btz_s (V := []) (V0 := []) (B := 0) (sm := (0, [])) hE bSO_0 (bfn_fin (E := E) (tb := ctb) (c := sc169) (Vc := []) (h := h0)) (bxt_refl []) rfl (bSS_ofQ hq benv_n rfl (fun C hC => absurd hC List.not_mem_nil) (fun C hC => absurd hC List.not_mem_nil)) (paLR []) pa107 (Nat.le_refl 0) (fun N hN => absurd hN List.not_mem_nil) d f hd (by omega)
set_option maxRecDepth 100000 in
theorem pa_tail (hE : E.1 < 2147483648) (hq : bRQ ctb sc169.2.1 h0 9 1200 h) (hr : r ≤ 12) (hn : n < r) (hs : h.1 = bsT r) (hx : (h.2.1 27 3).toInt = (n : Int)) : ∀ d f, 3 ≤ d → 1000013 ≤ f → bQm E ctb sc169 [] h0 (zex E f d 167 82 paLs [] h) := by
  intro d f hd hf
  have hP := pa27 hr hs
  have z1 : (1 : Int32).toInt = 1 := by decide
  have z12 : (12 : Int32).toInt = 12 := by decide
  have hx1 : (h.2.1 27 3 + 1).toInt = (n : Int) + 1 := by rw [Int32.toInt_add, hx, z1, bbm (by omega) (by omega)]
  by_cases h11 : 11 ≤ n
  · obtain ⟨m, hm⟩ : ∃ m, f = m + 9 := ⟨f - 9, by omega⟩
    have hc : (12 : Int32) ≤ h.2.1 27 3 + 1 := by rw [Int32.le_iff_toInt_le, hx1, z12]; omega
    have e : zex E (m + 9) d 167 82 paLs [] h = zex E m d 167 107 paLs [] (zsetI h 27 (upd (h.2.1 27) 3 0)) := (zk167_82 (m + 8)).trans ((zk167_83 (m + 7)).trans ((zk167_84 hP (m + 6)).trans ((zk167_87 (m + 5)).trans ((zk167_88 (m + 4)).trans ((zk167_89 (m + 3)).trans ((zk167_91a hc (m + 2)).trans ((zk167_103 (m + 1)).trans (zk167_104 hP m))))))))
    rw [hm, e]
    exact pa_fin hE (bRQ_next hq paW hs hr (by decide) (by decide) (by show (0 : Int) ≤ _; omega)) d m hd (by omega)
  · obtain ⟨m, hm⟩ : ∃ m, f = m + 13 := ⟨f - 13, by omega⟩
    have hc : ¬ (12 : Int32) ≤ h.2.1 27 3 + 1 := by rw [Int32.le_iff_toInt_le, hx1, z12]; omega
    have e : zex E (m + 13) d 167 82 paLs [] h = zex E m d 167 107 paLs [] (zsetI h 27 (upd (h.2.1 27) 3 (h.2.1 27 3 + 1))) := (zk167_82 (m + 12)).trans ((zk167_83 (m + 11)).trans ((zk167_84 hP (m + 10)).trans ((zk167_87 (m + 9)).trans ((zk167_88 (m + 8)).trans ((zk167_89 (m + 7)).trans ((zk167_91b hc (m + 6)).trans ((zk167_94 (m + 5)).trans ((zk167_95 hP (m + 4)).trans ((zk167_98 (m + 3)).trans ((zk167_99 (m + 2)).trans ((zk167_100 (m + 1)).trans (zk167_104 hP m))))))))))))
    rw [hm, e]
    exact pa_fin hE (bRQ_next hq paW hs hr (by rw [hx1]; omega) (by rw [hx1]; omega) (by rw [hx1]; omega)) d m hd (by omega)
set_option maxRecDepth 100000 in
theorem pa_run (hE : E.1 < 2147483648) {pc : Nat} (e : pa0 pc r n = true) (hq : bRQ ctb sc169.2.1 h0 9 1200 h) (hr : r ≤ 12) (hn : n < r) (hs : h.1 = bsT r) (hx : (h.2.1 27 3).toInt = (n : Int)) : ∀ d f, 3 ≤ d → 2000013 ≤ f → bQm E ctb sc169 [] h0 (zex E f d 167 pc paLs [] h) := by
  intro d f hd hf
  unfold pa0 at e
  rw [bfo_eq] at e
  refine btz_s (V := []) (V0 := []) (B := 0) (B' := 1000013) (sm := (0, [])) (fin := fun _ _ => false) (D := 3) (MI := 167) (F := 1000000) (tb := cst r) (h0 := h0) (Q := bQm E ctb sc169 [] h0) hE bSO_0 (fun V S v w h _ _ _ z => nomatch (show false = true from z)) (bxt_refl []) rfl (bSS_ofQ (bRQ_tb hq (by rw [hs]; exact cst_B hr)) benv_n rfl (fun C hC => absurd hC List.not_mem_nil) (ov273 hx)) (paLR []) e (Nat.zero_le _) ?_ d f hd (by omega)
  intro N hN V' ls' h' hR d f hd hf
  cases hN with
  | tail _ hN => exact absurd hN List.not_mem_nil
  | head =>
    obtain ⟨-, k1, k2, k3⟩ := hR
    have q1 := bRQ_of (a := 9) (b := 1200) k2
    have s1 := cst_inj hr q1.2.2.1 q1.2.1
    have x1 := k3 _ (List.Mem.head _)
    have x1 : bvl E h' 27 3 = (n : Int) := brel_k x1
    rw [bvl_n (show Nat.blt 27 900 = true from rfl)] at x1
    rw [paLR_s k1]
    exact pa_tail hE (bRQ_tb q1 (by rw [s1]; exact ctb_B hr)) hr hn s1 x1 d f hd (by omega)
end PA
set_option maxRecDepth 100000 in
theorem zmi167 : zat zmi 167 = some (3, 3, 0, 7, 0, 0) := rfl
set_option maxRecDepth 100000 in
theorem zmi168 : zat zmi 168 = some (3, 4, 0, 7, 2, 0) := rfl
set_option maxRecDepth 100000 in
theorem st169 {E : zE} (hE : E.1 ≤ 4000) {B : Nat} (hB : 3000000 ≤ B) : bMT E ctb B 167 sc169 := by
  intro Vc ss h d f q hq hd hf ha hv hcs hpv hI hP hT
  rw [zmi167] at hq
  cases hq
  obtain ⟨w1, e1, ha1⟩ := bKR_o ha
  obtain ⟨w2, e2, ha2⟩ := bKR_o ha1
  obtain ⟨w3, e3, ha3⟩ := bKR_o ha2
  rw [bKR_n ha3] at e3
  rw [e3] at e2
  rw [e2] at e1
  subst e1
  cases benv_0 hv
  have hd3 : 3 ≤ d := hd
  obtain ⟨r, r1, r2, r3⟩ := hP
  have hb := hI.1 27 3
  rw [biv273] at hb
  have hb1 : 0 ≤ (h.2.1 27 3).toInt := hb.1
  have hb2 : (h.2.1 27 3).toInt ≤ 11 := hb.2
  obtain ⟨n, hn⟩ : ∃ n : Nat, (h.2.1 27 3).toInt = (n : Int) := ⟨_, (Int.toNat_of_nonneg hb1).symm⟩
  have hq : bRQ ctb sc169.2.1 h 9 1200 h := ⟨hI, ⟨r, r1, r2, r3⟩, hT, fun _ _ _ => rfl, Nat.le_add_right _ _, Nat.le_add_right _ _⟩
  have key : bQm E ctb sc169 [] h (zex E f d 167 0 paLs [] h) := by
    by_cases hnr : n < r
    · exact pa_run (by omega) (pa0_all r (by omega) n hnr) hq r1 hnr r2 hn d f hd3 (by omega)
    · have hrn : r = n := by omega
      subst hrn
      obtain ⟨d', hd'⟩ : ∃ d', d = d' + 1 := ⟨d - 1, by omega⟩
      obtain ⟨m, hm⟩ : ∃ m, f = m + 62 := ⟨f - 62, by omega⟩
      obtain ⟨h4, g1, g2, g3, g4, g5, g6, g7⟩ := pmake (E := E) (d := d') (r := r) (by omega) r2 hn
      subst hd'
      rw [hm, g7]
      have hI4 := pmake_I hI (r := r) (by omega) g2 g3 g4
      have hx4 : (h4.2.1 27 3).toInt = (r : Int) := by rw [g2 27 (by omega)]; exact hn
      exact pa_run (by omega) (pa56_all r (by omega)) ⟨hI4, ⟨r + 1, by omega, g1, by omega⟩, by rw [g1]; exact ctb_B (by omega), pmake_Q (by omega) g2 g3, by omega, by omega⟩ (by omega) (Nat.lt_succ_self r) g1 hx4 (d' + 1) (m + 34) hd3 (by omega)
  exact key
def reLs (y : Option Value) : zLs := [some (.ref 27), some (.ref 18), some (.ref 25), y]
set_option maxRecDepth 100000 in
theorem reLR_s {V : List Int} {v : Option bV} {ls : zLs} (h : bLR V (reL v) ls) : ∃ y, ls = reLs y ∧ boR V v y := by
  obtain ⟨l1, e1, k1⟩ := bls_r h
  obtain ⟨l2, e2, k2⟩ := bls_r k1
  obtain ⟨l3, e3, k3⟩ := bls_r k2
  cases l3 with
  | nil => exact k3.elim
  | cons y l =>
    refine ⟨y, ?_, k3.1⟩
    rw [e1, e2, e3, bls_0 k3.2]
    rfl
set_option maxRecDepth 100000 in
theorem reLR {V : List Int} {v : Option bV} {y : Option Value} (h : boR V v y) : bLR V (reL v) (reLs y) := ⟨⟨_, rfl, rfl⟩, ⟨_, rfl, rfl⟩, ⟨_, rfl, rfl⟩, h, trivial⟩
section RE
variable {E : zE} {h0 h : zH} {r n : Nat}
set_option maxRecDepth 100000 in
theorem re_fin (hE : E.1 < 2147483648) (hq : bRQ ctb sc170.2.1 h0 0 0 h) (z1 : 1 ≤ (h.2.1 27 2).toInt) (z2 : (h.2.1 27 2).toInt ≤ 12) {y : Option Value} : ∀ d f, 3 ≤ d → 1000000 ≤ f → bQm E ctb sc170 [] h0 (zex E f d 168 71 (reLs y) [] h) := by
  intro d f hd hf
  refine btz_s (V := [(h.2.1 27 2).toInt]) (V0 := []) (B := 0) (sm := (0, [])) hE bSO_0 (bfn_fin (E := E) (tb := ctb) (c := sc170) (Vc := []) (h := h0)) ⟨[(h.2.1 27 2).toInt], rfl⟩ rfl (bSS_ofQ hq (benv_c z1 z2 benv_n) rfl (fun C hC => absurd hC List.not_mem_nil) ?_) (reLR (v := none) trivial) re71 (Nat.le_refl 0) (fun N hN => absurd hN List.not_mem_nil) d f hd (by omega)
  intro q hq
  cases hq with
  | tail _ hq => exact absurd hq List.not_mem_nil
  | head =>
    refine ⟨2, brel_c _ 2, ?_⟩
    show brel _ (0, [(0, 1)]) (bvl E h 27 2)
    rw [bvl_n (show Nat.blt 27 900 = true from rfl)]
    exact brel_v rfl
set_option maxRecDepth 100000 in
theorem re_run (hE : E.1 < 2147483648) {L : List bNd} {z9 : Nat} (e : re0 r n L = true) (hL : ∀ N, N ∈ L → N = reN z9 ∧ z9 ≤ r ∧ z9 ≤ 11) (hq : bRQ ctb sc170.2.1 h0 0 0 h) (hr : r ≤ 12) (hs : h.1 = bsT r) (hx : (h.2.1 27 3).toInt = (n : Int)) : ∀ d f, 3 ≤ d → 2000003 ≤ f → bQm E ctb sc170 [] h0 (zex E f d 168 0 (reLs none) [] h) := by
  intro d f hd hf
  unfold re0 at e
  rw [bfo_eq] at e
  refine btz_s (V := []) (V0 := []) (B := 0) (B' := 1000003) (sm := (0, [])) (D := 3) (MI := 168) (F := 1000000) (tb := cst r) (h0 := h0) (Q := bQm E ctb sc170 [] h0) hE bSO_0 (fun V S v w h hx hS hv e => bQm_tb (bfn_fin (E := E) (tb := cst r) (c := sc170) (Vc := []) (h := h0) V S v w h hx hS hv e)) (bxt_refl []) rfl (bSS_ofQ (bRQ_tb hq (by rw [hs]; exact cst_B hr)) benv_n rfl (fun C hC => absurd hC List.not_mem_nil) (ov273 hx)) (reLR (v := none) trivial) e (Nat.zero_le _) ?_ d f hd (by omega)
  intro N hN V' ls' h' hR d f hd hf
  obtain ⟨hN, hz, hz2⟩ := hL N hN
  subst hN
  obtain ⟨-, k1, k2, k3⟩ := hR
  have q1 := bRQ_of (a := 0) (b := 0) k2
  have s1 := cst_inj hr q1.2.2.1 q1.2.1
  obtain ⟨y, y1, y2⟩ := reLR_s k1
  obtain ⟨w, w1, x, w2, w3⟩ := y2
  subst y1
  subst w1
  subst w2
  have w3 : x.toInt = (z9 : Int) := brel_k w3
  obtain ⟨s, U, u1, u2, u3, u4⟩ := benv_d k2.1
  cases benv_0 u4
  have x1 := k3 _ (List.Mem.head _)
  have x1 : bvl E h' 27 2 = s := brel_f x1 (brel_v (by rw [u1]; rfl))
  rw [bvl_n (show Nat.blt 27 900 = true from rfl)] at x1
  obtain ⟨m, hm⟩ : ∃ m, f = m + 3 := ⟨f - 3, by omega⟩
  have e2 : zex E (m + 3) d 168 66 (reLs (some (.int x))) [] h' = zex E m d 168 71 (reLs (some (.int x))) [] (zsetI h' 27 (upd (h'.2.1 27) 3 x)) := (zk168_66 (m + 2)).trans ((zk168_67 (m + 1)).trans (zk168_68 (pa27 hr s1) m))
  show bQm E ctb sc170 [] h0 (zex E f d 168 66 (reLs (some (.int x))) [] h')
  rw [hm, e2]
  have x2 : ((zsetI h' 27 (upd (h'.2.1 27) 3 x)).2.1 27 2).toInt = s := by
    show (zrow h'.2.1 27 (upd (h'.2.1 27) 3 x) 27 2).toInt = s
    rw [zrow_at]
    exact x1
  exact re_fin hE (bRQ_next (bRQ_tb q1 (by rw [s1]; exact ctb_B hr)) reW s1 hr (by omega) (by omega) (by omega)) (by rw [x2]; exact u2) (by rw [x2]; exact u3) d m hd (by omega)
end RE
set_option maxRecDepth 100000 in
theorem st170 {E : zE} (hE : E.1 ≤ 4000) {B : Nat} (hB : 3000000 ≤ B) : bMT E ctb B 168 sc170 := by
  intro Vc ss h d f q hq hd hf ha hv hcs hpv hI hP hT
  rw [zmi168] at hq
  cases hq
  obtain ⟨w1, e1, ha1⟩ := bKR_o ha
  obtain ⟨w2, e2, ha2⟩ := bKR_o ha1
  obtain ⟨w3, e3, ha3⟩ := bKR_o ha2
  rw [bKR_n ha3] at e3
  rw [e3] at e2
  rw [e2] at e1
  subst e1
  cases benv_0 hv
  have hd3 : 3 ≤ d := hd
  obtain ⟨r, r1, r2, r3⟩ := hP
  have hb := hI.1 27 3
  rw [biv273] at hb
  have hb1 : 0 ≤ (h.2.1 27 3).toInt := hb.1
  have hb2 : (h.2.1 27 3).toInt ≤ 11 := hb.2
  obtain ⟨n, hn⟩ : ∃ n : Nat, (h.2.1 27 3).toInt = (n : Int) := ⟨_, (Int.toNat_of_nonneg hb1).symm⟩
  have hq : bRQ ctb sc170.2.1 h 0 0 h := ⟨hI, ⟨r, r1, r2, r3⟩, hT, fun _ _ _ => rfl, Nat.le_refl _, Nat.le_refl _⟩
  have key : bQm E ctb sc170 [] h (zex E f d 168 0 (reLs none) [] h) := by
    cases n with
    | zero =>
      by_cases h12 : r = 12
      · subst h12
        refine re_run (by omega) (z9 := 11) re0_c ?_ hq r1 r2 hn d f hd3 (by omega)
        intro N hN
        cases hN with
        | head => exact ⟨rfl, by omega, by omega⟩
        | tail _ hN => exact absurd hN List.not_mem_nil
      · exact re_run (by omega) (z9 := 0) (re0_b r (by omega)) (fun N hN => absurd hN List.not_mem_nil) hq r1 r2 hn d f hd3 (by omega)
    | succ n =>
      refine re_run (by omega) (z9 := n) (re0_all r (by omega) n (by omega) (by omega)) ?_ hq r1 r2 hn d f hd3 (by omega)
      intro N hN
      cases hN with
      | head => exact ⟨rfl, by omega, by omega⟩
      | tail _ hN => exact absurd hN List.not_mem_nil
  exact key
