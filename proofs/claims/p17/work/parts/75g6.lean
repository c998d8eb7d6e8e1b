/-! the model's rows of acts, exactly (wip/zab2/c/lgen44.py) -/
/-- what remembers makes of the rows: h ahead, h' behind -/
def RZ9 (h h' : zH) : Prop := ((h.2.1 84 7).toInt = 12 → (∀ b k, b < 11 → k < 777 → h'.2.1 89 (777 * b + k) = h.2.1 89 (777 * (b + 1) + k)) ∧ ∀ k, k < 777 → h'.2.1 89 (777 * 11 + k) = h.2.1 85 k) ∧
  ∀ s : Nat, (h.2.1 84 7).toInt = (s : Int) → s < 12 → (∀ b k, b < s → k < 777 → h'.2.1 89 (777 * b + k) = h.2.1 89 (777 * b + k)) ∧ ∀ k, k < 777 → h'.2.1 89 (777 * s + k) = h.2.1 85 k
set_option maxRecDepth 100000 in
theorem RZ9_f {h h1 h2 : zH} (r : RZ9 h h1) (f : ∀ k, h2.2.1 89 k = h1.2.1 89 k) : RZ9 h h2 := ⟨fun z => ⟨fun b k hb hk => (f _).trans ((r.1 z).1 b k hb hk), fun k hk => (f _).trans ((r.1 z).2 k hk)⟩, fun s z h12 => ⟨fun b k hb hk => (f _).trans ((r.2 s z h12).1 b k hb hk), fun k hk => (f _).trans ((r.2 s z h12).2 k hk)⟩⟩
set_option maxRecDepth 100000 in
theorem RZ9_o {h g h1 : zH} (e7 : g.2.1 84 7 = h.2.1 84 7) (e5 : ∀ k, g.2.1 85 k = h.2.1 85 k) (e9 : ∀ k, g.2.1 89 k = h.2.1 89 k) (r : RZ9 g h1) : RZ9 h h1 := ⟨fun z => ⟨fun b k hb hk => ((r.1 (by rw [e7]; exact z)).1 b k hb hk).trans (e9 _), fun k hk => ((r.1 (by rw [e7]; exact z)).2 k hk).trans (e5 _)⟩, fun s z h12 => ⟨fun b k hb hk => ((r.2 s (by rw [e7]; exact z) h12).1 b k hb hk).trans (e9 _), fun k hk => ((r.2 s (by rw [e7]; exact z) h12).2 k hk).trans (e5 _)⟩⟩
set_option maxRecDepth 100000 in
theorem RZ9_g {h g h1 : zH} (hg : g = zsetI h 84 (upd (h.2.1 84) 0 0)) (r : RZ9 g h1) : RZ9 h h1 := RZ9_o (by rw [hg, zs_at, upd_n (by decide)]) (fun k => by rw [hg, zs_ne (by decide)]) (fun k => by rw [hg, zs_ne (by decide)]) r
def rm8Q (h : zH) (o : Option zR) : Prop := ∃ h', o = some (.inl none, h') ∧ RZ9 h h'
def un8Q (h : zH) (o : Option zR) : Prop := ∃ (x : Int32) (h' : zH), o = some (.inl (some (.int x)), h') ∧ ((h.2.1 84 7).toInt = 0 → ∀ c, c ≠ 84 → ∀ k, h'.2.1 c k = h.2.1 c k) ∧ ∀ s : Nat, (h.2.1 84 7).toInt = (s : Int) + 1 → ∀ k, k < 777 → h'.2.1 85 k = h.2.1 89 (777 * s + k)
section R8
variable {E : zE} {h : zH}
set_option maxRecDepth 100000 in
theorem rem8 (hI : bHI h) (hP : bPS h) (hT : bTB ctb h.1) {u1 : Option Value} : ∀ d f, 1000000 ≤ f → rm8Q h (zex E f d 214 0 [some (.ref 84), u1] [] h) := by
  intro d f hf
  have a84 := hT 84 _ cs84 (by intro z; cases z)
  have a85 := hT 85 _ cs85 (by intro z; cases z)
  have a89 := hT 89 _ cs89 (by intro z; cases z)
  have b7 := w847b hI
  -- the second half, from a heap with the number told
  have half : ∀ (g : zH) (r : Nat) (u : Option Value) (n : Nat), g.1 = h.1 → bHI g → r < 12 → (g.2.1 84 7).toInt = ((r + 1 : Nat) : Int) → zex E (n + 1 + 3 + 20 * 777) d 214 55 [some (.ref 84), some (.int 0)] [] g = some (.inl none, (g.1, zcpg g.2.1 89 85 (777 * r) 0 777, g.2.2)) := by
    intro g r u n hg gI hr h7
    have c84 : zat g.1 84 = some (.inr (.inl (12, [none, some (some 85), some (some 86), some (some 87), some (some 88), some (some 89), none, none, some (some 90), none, none, none, none, none, none, some (some 91), none, some (some 92), some (some 93)]))) := by rw [hg]; exact a84
    have c85 : zat g.1 85 = some (.inl (0, 2475, [])) := by rw [hg]; exact a85
    have c89 : zat g.1 89 = some (.inl (0, 9324, [])) := by rw [hg]; exact a89
    have m1 : (g.2.1 84 7 - 1).toInt = (r : Int) := by rw [i32_sub (by rw [h7, int1]; omega) (by rw [h7, int1]; omega), h7, int1]; omega
    have m2 := ri_8 m1 (by omega)
    have e := zlrem2_loop (E := E) (d := d) (a := 84) (t := 89) (w := 85) (rho := g.2.1 84 7) (sh := g.1) (v := g.2.1) (rest := g.2.2) c84 rfl rfl c89 c85 rfl rfl (by decide) (o := 777 * r) (q := 0) (fun k hk => baddk m2 (by omega) (by omega)) (fun k hk => by rw [zof9 (by omega), Nat.zero_add]) (by omega) (by omega) (Or.inl (by decide)) 777 0 (n + 1) rfl
    rw [zcpg_0] at e
    exact e.trans (rm_e (n := n) (d := d))
  have Bd : ∀ (g : zH) (r : Nat), bHI g → r < 12 → bHI (g.1, zcpg g.2.1 89 85 (777 * r) 0 777, g.2.2) := fun g r gI hr => bcp_rem2 gI hr
  by_cases hq : (h.2.1 84 7).toInt = 12
  · obtain ⟨m, hm⟩ : ∃ m, f = ((m + 1 + 3 + 20 * 777) + 3) + 3 + 15 * 8547 + 6 := ⟨f - (1 + 3 + 20 * 777 + 3 + 3 + 15 * 8547 + 6), by omega⟩
    subst hm
    have e0 := rm_f (E := E) (n := ((m + 1 + 3 + 20 * 777) + 3) + 3 + 15 * 8547) (d := d) (u1 := u1) (by rw [hq, int12]) a84
    have e1 := zlrem1_loop (E := E) (d := d) (a := 84) (t := 89) (w := 89) (sh := h.1) (v := h.2.1) (rest := h.2.2) a84 rfl rfl a89 a89 (o := 0) (q := 777) (fun k hk => by rw [zof9 (by omega), Nat.zero_add]) (fun k hk => baddk2 (by decide) (by omega) (by omega)) (by omega) (by omega) (Or.inr (by omega)) 8547 0 ((m + 1 + 3 + 20 * 777) + 3) rfl
    rw [zcpg_0] at e1
    have I1 := bcp_rem1 hI
    obtain ⟨g, hg⟩ : ∃ g : zH, g = (h.1, zcpg h.2.1 89 89 0 777 8547, h.2.2) := ⟨_, rfl⟩
    have g1 : g.1 = h.1 := by rw [hg]
    have g89 : ∀ i, i < 8547 → g.2.1 89 i = h.2.1 89 (777 + i) := fun i hi => by
      rw [hg]
      show zcpg h.2.1 89 89 0 777 8547 89 i = _
      rw [zcpg_t, if_pos ⟨by omega, by omega⟩, show 777 + (i - 0) = 777 + i by omega]
    have go : ∀ c, c ≠ 89 → ∀ k, g.2.1 c k = h.2.1 c k := fun c hc k => by rw [hg]; exact zcpg_a _ hc
    rw [← hg] at e1 I1
    have e2 := rm_g (E := E) (n := m + 1 + 3 + 20 * 777) (d := d) (u1 := some (.int (Int32.ofNat 8547))) (h := g)
    have e3 := half g 11 none m g1 I1 (by decide) (by rw [go 84 (by decide), hq]; rfl)
    refine ⟨_, (e0.trans (e1.trans (e2.trans e3))), fun _ => ⟨fun b k hb hk => ?_, fun k hk => ?_⟩, fun s hs h12 => by omega⟩
    · show zcpg g.2.1 89 85 (777 * 11) 0 777 89 (777 * b + k) = _
      rw [zcpg_t, if_neg (by omega), g89 _ (by omega), show 777 + (777 * b + k) = 777 * (b + 1) + k by omega]
    · show zcpg g.2.1 89 85 (777 * 11) 0 777 89 (777 * 11 + k) = _
      rw [zcpg_t, if_pos ⟨by omega, by omega⟩, show 0 + (777 * 11 + k - 777 * 11) = k by omega]
      exact go 85 (by decide) k
  · obtain ⟨r, hr⟩ : ∃ r : Nat, (h.2.1 84 7).toInt = (r : Int) := ⟨(h.2.1 84 7).toInt.toNat, by omega⟩
    obtain ⟨m, hm⟩ : ∃ m, f = (m + 1 + 3 + 20 * 777) + 12 := ⟨f - (1 + 3 + 20 * 777 + 12), by omega⟩
    subst hm
    have e0 := rm_n (E := E) (n := m + 1 + 3 + 20 * 777) (d := d) (u1 := u1) (by rw [int12]; exact hq) a84
    have v7 : (h.2.1 84 7 + 1).toInt = ((r + 1 : Nat) : Int) := by rw [i32_add (by rw [hr, int1]; omega) (by rw [hr, int1]; omega), hr, int1]; omega
    have hr0 : bRQ ctb wY h 0 0 h := ⟨hI, hP, hT, fun _ _ _ => rfl, Nat.le_refl _, Nat.le_refl _⟩
    have I1 := (bRQ_set (c := 84) (j := 7) (y := h.2.1 84 7 + 1) hr0 wY847 (by rw [show biv 84 7 = (0, 12) from rfl, v7]; exact ⟨by show (0 : Int) ≤ _; omega, by show _ ≤ (12 : Int); omega⟩) rfl rfl (by decide) (by decide)).1
    have g7 : ((zsetI h 84 (upd (h.2.1 84) 7 (h.2.1 84 7 + 1))).2.1 84 7).toInt = ((r + 1 : Nat) : Int) := by rw [zs_at, upd_e]; exact v7
    have go : ∀ c, c ≠ 84 → ∀ k, (zsetI h 84 (upd (h.2.1 84) 7 (h.2.1 84 7 + 1))).2.1 c k = h.2.1 c k := fun c hc k => zs_ne hc
    have g4 : ∀ k, k ≠ 7 → (zsetI h 84 (upd (h.2.1 84) 7 (h.2.1 84 7 + 1))).2.1 84 k = h.2.1 84 k := fun k hk => by rw [zs_at, upd_n hk]
    have g1 : (zsetI h 84 (upd (h.2.1 84) 7 (h.2.1 84 7 + 1))).1 = h.1 := rfl
    obtain ⟨g, hg⟩ : ∃ g : zH, g = zsetI h 84 (upd (h.2.1 84) 7 (h.2.1 84 7 + 1)) := ⟨_, rfl⟩
    rw [← hg] at e0 I1 g7 go g4 g1
    have e3 := half g r none m g1 I1 (by omega) g7
    refine ⟨_, e0.trans e3, fun z => absurd z hq, fun s hs h12 => ?_⟩
    have hsr : s = r := by omega
    subst hsr
    refine ⟨fun b k hb hk => ?_, fun k hk => ?_⟩
    · show zcpg g.2.1 89 85 (777 * s) 0 777 89 (777 * b + k) = _
      rw [zcpg_t, if_neg (by omega)]
      exact go 89 (by decide) _
    · show zcpg g.2.1 89 85 (777 * s) 0 777 89 (777 * s + k) = _
      rw [zcpg_t, if_pos ⟨by omega, by omega⟩, show 0 + (777 * s + k - 777 * s) = k by omega]
      exact go 85 (by decide) k

set_option maxRecDepth 100000 in
theorem undoM8 (hI : bHI h) (hT : bTB ctb h.1) {u1 : Option Value} : ∀ d f, 1000000 ≤ f → un8Q h (zex E f d 215 0 [some (.ref 84), u1] [] h) := by
  intro d f hf
  have a84 := hT 84 _ cs84 (by intro z; cases z)
  have a85 := hT 85 _ cs85 (by intro z; cases z)
  have a89 := hT 89 _ cs89 (by intro z; cases z)
  have b7 := w847b hI
  by_cases hq : (h.2.1 84 7).toInt = 0
  · obtain ⟨m, hm⟩ : ∃ m, f = m + 8 := ⟨f - 8, by omega⟩
    subst hm
    refine ⟨0, _, un_0 (n := m) (d := d) (by rw [zs_at, upd_n (by decide)]; exact hq) a84, fun _ c hc k => zs_ne hc, fun r hr => by omega⟩
  · obtain ⟨r, hr⟩ : ∃ r : Nat, (h.2.1 84 7).toInt = ((r + 1 : Nat) : Int) := ⟨(h.2.1 84 7).toInt.toNat - 1, by omega⟩
    obtain ⟨m, hm⟩ : ∃ m, f = (m + 2 + 3 + 18 * 777) + 14 := ⟨f - (2 + 3 + 18 * 777 + 14), by omega⟩
    subst hm
    have e0 := un_1 (E := E) (n := m + 2 + 3 + 18 * 777) (d := d) (u1 := u1) (by rw [zs_at, upd_n (by decide)]; exact hq) a84
    have v7 : ((zsetI h 84 (upd (h.2.1 84) 0 0)).2.1 84 7 - 1).toInt = (r : Int) := by rw [zs_at, upd_n (by decide), i32_sub (by rw [hr, int1]; omega) (by rw [hr, int1]; omega), hr, int1]; omega
    obtain ⟨g, hg⟩ : ∃ g : zH, g = zsetI (zsetI h 84 (upd (h.2.1 84) 0 0)) 84 (upd ((zsetI h 84 (upd (h.2.1 84) 0 0)).2.1 84) 7 ((zsetI h 84 (upd (h.2.1 84) 0 0)).2.1 84 7 - 1)) := ⟨_, rfl⟩
    have g7 : (g.2.1 84 7).toInt = (r : Int) := by rw [hg, zs_at, upd_e]; exact v7
    have go : ∀ c, c ≠ 84 → ∀ k, g.2.1 c k = h.2.1 c k := fun c hc k => by rw [hg, zs_ne hc, zs_ne hc]
    have g4 : ∀ k, k ≠ 0 → k ≠ 7 → g.2.1 84 k = h.2.1 84 k := fun k k0 k7 => by rw [hg, zs_at, upd_n k7, zs_at, upd_n k0]
    have g1 : g.1 = h.1 := by rw [hg]; rfl
    rw [← hg] at e0
    have c84 : zat g.1 84 = some (.inr (.inl (12, [none, some (some 85), some (some 86), some (some 87), some (some 88), some (some 89), none, none, some (some 90), none, none, none, none, none, none, some (some 91), none, some (some 92), some (some 93)]))) := by rw [g1]; exact a84
    have c85 : zat g.1 85 = some (.inl (0, 2475, [])) := by rw [g1]; exact a85
    have c89 : zat g.1 89 = some (.inl (0, 9324, [])) := by rw [g1]; exact a89
    have m2 := ri_8 g7 (by omega)
    have e := zlundo_loop (E := E) (d := d) (a := 84) (t := 85) (w := 89) (rho := g.2.1 84 7) (sh := g.1) (v := g.2.1) (rest := g.2.2) c84 rfl rfl c85 c89 rfl rfl (by decide) (o := 0) (q := 777 * r) (fun k hk => by rw [zof9 (by omega), Nat.zero_add]) (fun k hk => baddk m2 (by omega) (by omega)) (by omega) (by omega) (Or.inl (by decide)) 777 0 (m + 2) rfl
    rw [zcpg_0] at e
    refine ⟨1, _, (e0.trans (e.trans (un_e (n := m) (d := d)))), fun z => absurd z hq, fun r2 hr2 k hk => ?_⟩
    have hrr : r2 = r := by omega
    subst hrr
    show zcpg g.2.1 85 89 0 (777 * r2) 777 85 k = _
    rw [zcpg_t, if_pos ⟨by omega, by omega⟩, go 89 (by decide), show 777 * r2 + (k - 0) = 777 * r2 + k by omega]

set_option maxRecDepth 100000 in
theorem rm9 (hI : bHI h) (hP : bPS h) (hT : bTB ctb h.1) : ∀ d f, 1000000 ≤ f → ∃ h', zex E f d 214 0 [some (.ref 84), none] [] h = some (.inl none, h') ∧ bHI h' ∧ bPS h' ∧ bTB ctb h'.1 ∧ (h'.2.1 84 7).toInt = mnn (h.2.1 84 7).toInt ∧ RZ9 h h' ∧ (∀ c, c ≠ 84 → c ≠ 89 → ∀ k, h'.2.1 c k = h.2.1 c k) ∧ ∀ k, k ≠ 7 → h'.2.1 84 k = h.2.1 84 k := by
  intro d f hf
  obtain ⟨h', e1, e2, e3, e4, e5⟩ := rm7 (E := E) hI hP hT d f hf
  obtain ⟨h9, f1, f2⟩ := rem8 (E := E) hI hP hT (u1 := none) d f hf
  obtain ⟨h8, g1, g2, g3, g4, g5, g6⟩ := remE (E := E) hI hP hT (u1 := none) d f hf
  obtain ⟨-, y2⟩ := inl_j e1 f1
  obtain ⟨-, y3⟩ := inl_j e1 g1
  subst y2
  subst y3
  exact ⟨h', e1, e2, e3, e4, e5, f2, g4, g5⟩
end R8
def mzQ (c : Prop) (h : zH) (o : Option zR) : Prop := ∃ (x : Int32) (h1 : zH), o = some (.inl (some (.int x)), h1) ∧ (c → RZ9 h h1) ∧ (¬ c → ∀ k, h1.2.1 89 k = h.2.1 89 k)
/-- a number is told: what it was; ec: what is thrown -/
def mtQ (c : Prop) (ec : Int) (K : Nat) (v : Int32) (h : zH) (o : Option zR) : Prop := ∃ (x : Int32) (h1 : zH), o = some (.inl (some (.int x)), h1) ∧ (c → x = h.2.1 85 K ∧ (h1.2.1 84 0).toInt = 0 ∧ ∀ k, h1.2.1 85 k = upd (h.2.1 85) K v k) ∧ (¬ c → (h1.2.1 84 0).toInt = ec ∧ ∀ k, h1.2.1 85 k = h.2.1 85 k)
set_option maxRecDepth 100000 in
theorem wAc_89 : Nat.testBit wAc (bun 89 0) = false := by decide +kernel
set_option maxRecDepth 100000 in
theorem upd_c {f g : Nat → Int32} {K : Nat} {v : Int32} (e : ∀ k, f k = g k) (k : Nat) : upd f K v k = upd g K v k := by
  by_cases hk : k = K
  · rw [hk, upd_e, upd_e]
  · rw [upd_n hk, upd_n hk]; exact e k
section MB
variable {E : zE} {B : Nat} {h : zH} {σ : hSt}
set_option maxRecDepth 100000 in
theorem mbRoL (hsm : bSO E ctb B (60, smT)) {k9 : Int32} (hk : k9.toInt ≤ 100) : ∀ (m j : Nat) (s9 j9 : Int32) (h : zH), m + j = 100 → j9.toInt = (j : Int) → bHI h → bPS h → bTB ctb h.1 → ∀ d f, 70 ≤ d → B + 1000 * (m + 1) ≤ f → ∃ (x : Int32) (h2 : zH), zex E f d 284 38 [some (.ref 84), some (.int k9), some (.int s9), some (.int j9)] [] h = some (.inl (some (.int x)), h2) ∧ ∀ k, h2.2.1 89 k = h.2.1 89 k := by
  intro m
  induction m with
  | zero =>
    intro j s9 j9 h hm hj gI gP gT d f hd hf
    obtain ⟨n, hn9⟩ : ∃ n, f = n + 5 := ⟨f - 5, by omega⟩
    subst hn9
    exact ⟨s9, h, ro_e (n := n) (d := d) (by omega), fun _ => rfl⟩
  | succ m IH =>
    intro j s9 j9 h hm hj gI gP gT d f hd hf
    have hmul : 1000 * (m + 1 + 1) = 1000 * (m + 1) + 1000 := Nat.mul_succ _ _
    by_cases hjk : j9.toInt < k9.toInt
    · obtain ⟨d', hd'⟩ : ∃ d', d = d' + 1 := ⟨d - 1, by omega⟩
      obtain ⟨n, hn9⟩ : ∃ n, f = n + 10 := ⟨f - 10, by omega⟩
      subst hd' hn9
      obtain ⟨v, h1, c1, c2, ⟨c3, c4⟩, c5, c6, c7, q1, m1, b1⟩ := hsm 283 [sc366] rfl sc366 (List.Mem.head _) (by decide) [] [.ref 84] h d' (n + 4) (1, 3, 0, 12, 1, 0) rfl (by show 6 ≤ d'; omega) (by omega) ⟨rfl, trivial⟩ benv_n bcs_n (fun e he => absurd he List.not_mem_nil) gI gP gT
      have c1 : zex E (n + 4) d' 283 0 [some (.ref 84), none, none] [] h = some (.inl v, h1) := c1
      obtain ⟨y, hy⟩ := bPR_i m1 (by decide) b1
      rw [hy] at c1
      obtain ⟨x, h2, e2, s2⟩ := IH (j + 1) (s9 + y) (j9 + 1) h1 (by omega) (by rw [i32_add (by rw [hj, int1]; omega) (by rw [hj, int1]; omega), hj, int1]; omega) c2 c3 c4 (d' + 1) n (by omega) (by omega)
      exact ⟨x, h2, (ro_l (n := n) (d := d') (h := h) (h1 := h1) hjk (gT 84 _ cs84 (by intro z; cases z)) c1).trans e2, fun k => (s2 k).trans (c5 89 k (show Nat.testBit sc366.2.1 (bun 89 0) = false by decide +kernel))⟩
    · obtain ⟨n, hn9⟩ : ∃ n, f = n + 5 := ⟨f - 5, by omega⟩
      subst hn9
      exact ⟨s9, h, ro_e (n := n) (d := d) (by omega), fun _ => rfl⟩
set_option maxRecDepth 100000 in
theorem mbRo (hE : E.1 < 2147483648) (hsm : bSO E ctb B (60, smT)) (gI : bHI h) (gP : bPS h) (gT : bTB ctb h.1) (hM : RM h σ) (hW : WF σ) {k9 : Int32} : ∀ d f, 90 ≤ d → B + 5000000 ≤ f → mzQ (1 ≤ k9.toInt ∧ k9.toInt ≤ 100) h (zex E f d 284 0 [some (.ref 84), some (.int k9), none, none] [] h) := by
  intro d f hd hf
  obtain ⟨n, hn⟩ : ∃ n, f = n + 2000 := ⟨f - 2000, by omega⟩
  obtain ⟨d, hd'⟩ : ∃ d', d = d' + 4 := ⟨d - 4, by omega⟩
  subst hn hd'
  have w1 := hW.1
  have w3 := hW.2.2.1
  obtain ⟨g, hg, t1, t2, t3, gM, g7⟩ := mz_q gI gP gT hM
  have H0 := ja_0 (E := E) (n := n + 1987) (d := d + 3) (h := h)  (k := k9) (u2 := none) (u3 := none)
  rw [← hg] at H0
  have Ht := fun {h1 : zH} => ja_t (E := E) (n := n + 1984) (d := d + 3) (h := h) (h1 := h1) (k := k9) (u2 := none) (u3 := none)
  rw [← hg] at Ht
  unfold mzQ
  by_cases hp : 1 ≤ k9.toInt ∧ k9.toInt ≤ 100
  · skip
    have e2 := H0 (gT 84 _ cs84 (by intro z; cases z)) ((mz_n (E := E) (h := g) (x := k9) (a := 1) (b := 100) (d + 3) (n + 1992) (by omega)).trans (by rw [if_pos (by rw [show (1 : Int32).toInt = 1 from by decide, show (100 : Int32).toInt = 100 from by decide]; omega)])) (mt_0 (n := n + 1984))
    obtain ⟨h2, e3, i2, p2, q2, s2, w9, o9, z9⟩ := rm9 (E := E) t1 t2 t3 (d + 3) (n + 1985) (by omega)
    obtain ⟨x, h3, e4, s4⟩ := mbRoL (E := E) hsm (k9 := k9) (by omega) 100 0 0 0 h2 rfl rfl i2 p2 q2 (d + 4) (n + 1981) (by omega) (by omega)
    exact ⟨x, h3, e2.trans ((ro_r (n := n + 1981) (d := d + 3) (t3 84 _ cs84 (by intro z; cases z)) e3).trans e4), fun _ => RZ9_f (RZ9_g hg w9) s4, fun z => absurd hp z⟩
  · skip
    exact ⟨0, _, Ht (gT 84 _ cs84 (by intro z; cases z))  ((mz_n (E := E) (h := g) (x := k9) (a := 1) (b := 100) (d + 3) (n + 1992) (by omega)).trans (by rw [if_neg (by rw [show (1 : Int32).toInt = 1 from by decide, show (100 : Int32).toInt = 100 from by decide]; omega)])) (mt_1 (n := n + 1980) (y := 1) (t3 84 _ cs84 (by intro z; cases z))), fun z => absurd z hp, fun _ k => by rw [zs_ne (by decide), hg, zs_ne (by decide)]⟩
set_option maxRecDepth 100000 in
theorem mbSw (hE : E.1 < 2147483648) (hsm : bSO E ctb B (60, smT)) (gI : bHI h) (gP : bPS h) (gT : bTB ctb h.1) (hM : RM h σ) (hW : WF σ) {k9 : Int32} : ∀ d f, 90 ≤ d → B + 5000000 ≤ f → mzQ (0 ≤ k9.toInt ∧ k9.toInt < (sR σ : Int)) h (zex E f d 287 0 [some (.ref 84), some (.int k9)] [] h) := by
  intro d f hd hf
  obtain ⟨n, hn⟩ : ∃ n, f = n + 2000 := ⟨f - 2000, by omega⟩
  obtain ⟨d, hd'⟩ : ∃ d', d = d' + 4 := ⟨d - 4, by omega⟩
  subst hn hd'
  have w1 := hW.1
  have w3 := hW.2.2.1
  obtain ⟨g, hg, t1, t2, t3, gM, g7⟩ := mz_q gI gP gT hM
  have H0 := jb_0 (E := E) (n := n + 1990) (d := d + 3) (h := h)  (k := k9) 
  rw [← hg] at H0
  have Ht := fun {h1 : zH} => jb_t (E := E) (n := n + 1988) (d := d + 3) (h := h) (h1 := h1) (k := k9) 
  rw [← hg] at Ht
  unfold mzQ
  by_cases hp : 0 ≤ k9.toInt ∧ k9.toInt < (sR σ : Int)
  · skip
    have e2 := H0 (gT 84 _ cs84 (by intro z; cases z)) ((mz_r (E := E) t3 gM hW (p := k9) (d + 3) (n + 1993) (by omega) (by omega)).trans (by rw [if_pos (by omega)])) (mt_0 (n := n + 1987))
    obtain ⟨h2, e3, i2, p2, q2, s2, w9, o9, z9⟩ := rm9 (E := E) t1 t2 t3 (d + 3) (n + 1988) (by omega)
    obtain ⟨x, h3, e4, r4⟩ := seg (V := [k9.toInt]) (ca := 0) (sa := 0) (nv := 1) (Q := mlT h2) hE hsm (fin_i (V := [k9.toInt]) (ca := 0) (sa := 0) rfl (fun x h' k4 => ⟨x, h', rfl, k4⟩)) ⟨i2, p2, q2, fun _ _ _ => rfl, Nat.le_refl _, Nat.le_refl _⟩ (benv_c (by omega) (by omega) benv_n) rfl bcs_n bov_n (mlx_1 rfl (n := 0)) as_sw (B' := B) (Nat.le_refl _) (fun N hN => absurd hN List.not_mem_nil) (fun N hN => absurd hN List.not_mem_nil) (d + 4) (n + 1988) (by omega) (by omega)
    exact ⟨x, h3, e2.trans ((sx_r (n := n + 1988) (d := d + 3) (t3 84 _ cs84 (by intro z; cases z)) e3).trans e4), fun _ => RZ9_f (RZ9_g hg w9) (fun k => r4.2.2.2.1 89 k (show Nat.testBit wAc (bun 89 0) = false from wAc_89)), fun z => absurd hp z⟩
  · skip
    exact ⟨0, _, Ht (gT 84 _ cs84 (by intro z; cases z))  ((mz_r (E := E) t3 gM hW (p := k9) (d + 3) (n + 1993) (by omega) (by omega)).trans (by rw [if_neg (by omega)])) (mt_1 (n := n + 1984) (y := 1) (t3 84 _ cs84 (by intro z; cases z))), fun z => absurd z hp, fun _ k => by rw [zs_ne (by decide), hg, zs_ne (by decide)]⟩
set_option maxRecDepth 100000 in
theorem mbBe (hE : E.1 < 2147483648) (hsm : bSO E ctb B (60, smT)) (gI : bHI h) (gP : bPS h) (gT : bTB ctb h.1) (hM : RM h σ) (hW : WF σ) {k9 : Int32} : ∀ d f, 90 ≤ d → B + 5000000 ≤ f → mzQ (0 ≤ k9.toInt ∧ k9.toInt < (sP σ : Int)) h (zex E f d 288 0 [some (.ref 84), some (.int k9)] [] h) := by
  intro d f hd hf
  obtain ⟨n, hn⟩ : ∃ n, f = n + 2000 := ⟨f - 2000, by omega⟩
  obtain ⟨d, hd'⟩ : ∃ d', d = d' + 4 := ⟨d - 4, by omega⟩
  subst hn hd'
  have w1 := hW.1
  have w3 := hW.2.2.1
  obtain ⟨g, hg, t1, t2, t3, gM, g7⟩ := mz_q gI gP gT hM
  have H0 := jc_0 (E := E) (n := n + 1990) (d := d + 3) (h := h)  (k := k9) 
  rw [← hg] at H0
  have Ht := fun {h1 : zH} => jc_t (E := E) (n := n + 1988) (d := d + 3) (h := h) (h1 := h1) (k := k9) 
  rw [← hg] at Ht
  unfold mzQ
  by_cases hp : 0 ≤ k9.toInt ∧ k9.toInt < (sP σ : Int)
  · skip
    have e2 := H0 (gT 84 _ cs84 (by intro z; cases z)) ((mz_p (E := E) t3 gM hW (p := k9) (d + 3) (n + 1993) (by omega) (by omega)).trans (by rw [if_pos (by omega)])) (mt_0 (n := n + 1987))
    obtain ⟨h2, e3, i2, p2, q2, s2, w9, o9, z9⟩ := rm9 (E := E) t1 t2 t3 (d + 3) (n + 1988) (by omega)
    obtain ⟨x, h3, e4, r4⟩ := seg (V := [k9.toInt]) (ca := 0) (sa := 0) (nv := 1) (Q := mlT h2) hE hsm (fin_i (V := [k9.toInt]) (ca := 0) (sa := 0) rfl (fun x h' k4 => ⟨x, h', rfl, k4⟩)) ⟨i2, p2, q2, fun _ _ _ => rfl, Nat.le_refl _, Nat.le_refl _⟩ (benv_c (by omega) (by omega) benv_n) rfl bcs_n bov_n (mlx_1 rfl (n := 0)) as_be (B' := B) (Nat.le_refl _) (fun N hN => absurd hN List.not_mem_nil) (fun N hN => absurd hN List.not_mem_nil) (d + 4) (n + 1988) (by omega) (by omega)
    exact ⟨x, h3, e2.trans ((bx_r (n := n + 1988) (d := d + 3) (t3 84 _ cs84 (by intro z; cases z)) e3).trans e4), fun _ => RZ9_f (RZ9_g hg w9) (fun k => r4.2.2.2.1 89 k (show Nat.testBit wAc (bun 89 0) = false from wAc_89)), fun z => absurd hp z⟩
  · skip
    exact ⟨0, _, Ht (gT 84 _ cs84 (by intro z; cases z))  ((mz_p (E := E) t3 gM hW (p := k9) (d + 3) (n + 1993) (by omega) (by omega)).trans (by rw [if_neg (by omega)])) (mt_1 (n := n + 1984) (y := 1) (t3 84 _ cs84 (by intro z; cases z))), fun z => absurd z hp, fun _ k => by rw [zs_ne (by decide), hg, zs_ne (by decide)]⟩
set_option maxRecDepth 100000 in
theorem mbTo (hE : E.1 < 2147483648) (hsm : bSO E ctb B (60, smT)) (gI : bHI h) (gP : bPS h) (gT : bTB ctb h.1) (hM : RM h σ) (hW : WF σ) {k9 x9 : Int32} : ∀ d f, 90 ≤ d → B + 5000000 ≤ f → mzQ ((0 ≤ k9.toInt ∧ k9.toInt < (sR σ : Int)) ∧ (0 ≤ x9.toInt ∧ x9.toInt ≤ 100)) h (zex E f d 290 0 [some (.ref 84), some (.int k9), some (.int x9)] [] h) := by
  intro d f hd hf
  obtain ⟨n, hn⟩ : ∃ n, f = n + 2000 := ⟨f - 2000, by omega⟩
  obtain ⟨d, hd'⟩ : ∃ d', d = d' + 4 := ⟨d - 4, by omega⟩
  subst hn hd'
  have w1 := hW.1
  have w3 := hW.2.2.1
  obtain ⟨g, hg, t1, t2, t3, gM, g7⟩ := mz_q gI gP gT hM
  have H0 := jd_0 (E := E) (n := n + 1980) (d := d + 3) (h := h)  (k := k9) (x := x9) 
  rw [← hg] at H0
  have Ht := fun {h1 : zH} => jd_t (E := E) (n := n + 1987) (d := d + 3) (h := h) (h1 := h1) (k := k9) (x := x9) 
  rw [← hg] at Ht
  have Hu := fun {h1 : zH} => jd_u (E := E) (n := n + 1976) (d := d + 3) (h := h) (h1 := h1) (k := k9) (x := x9) 
  rw [← hg] at Hu
  unfold mzQ
  by_cases hp : (0 ≤ k9.toInt ∧ k9.toInt < (sR σ : Int)) ∧ (0 ≤ x9.toInt ∧ x9.toInt ≤ 100)
  · skip
    have e2 := H0 (gT 84 _ cs84 (by intro z; cases z)) ((mz_r (E := E) t3 gM hW (p := k9) (d + 3) (n + 1993) (by omega) (by omega)).trans (by rw [if_pos (by omega)])) (mt_0 (n := n + 1987)) ((mz_n (E := E) (h := g) (x := x9) (a := 0) (b := 100) (d + 3) (n + 1985) (by omega)).trans (by rw [if_pos (by rw [show (0 : Int32).toInt = 0 from by decide, show (100 : Int32).toInt = 100 from by decide]; omega)])) (mt_0 (n := n + 1977))
    have ja := room_i (r := k9) (j := 2) (a := k9.toInt.toNat) (b := 2) (by omega) (by omega) (by decide) (by decide)
    obtain ⟨h2, e3, i2, p2, q2, s2, w9, o9, z9⟩ := rm9 (E := E) t1 t2 t3 (d + 2) (n + 1972) (by omega)
    have e5 := td_1 (E := E) (n := n + 1960) (d := d + 2) (x := x9) (u3 := none) ja (by omega) rfl (t3 84 _ cs84 (by intro z; cases z)) (q2 84 _ cs84 (by intro z; cases z)) (q2 85 _ ks85 (by intro z; cases z)) e3
    exact ⟨_, _, e2.trans (to_290 (n := n + 1973) (d := d + 3) (t3 84 _ cs84 (by intro z; cases z)) (mh_ri (n := n + 1968) (d := d + 3)) e5), fun _ => RZ9_f (RZ9_g hg w9) (fun k => zs_ne (by decide)), fun z => absurd hp z⟩
  · skip
    by_cases hc : ¬ (0 ≤ k9.toInt ∧ k9.toInt < (sR σ : Int))
    · exact ⟨0, _, Ht (gT 84 _ cs84 (by intro z; cases z))  ((mz_r (E := E) t3 gM hW (p := k9) (d + 3) (n + 1993) (by omega) (by omega)).trans (by rw [if_neg (by omega)])) (mt_1 (n := n + 1984) (y := 1) (t3 84 _ cs84 (by intro z; cases z))), fun z => absurd z hp, fun _ k => by rw [zs_ne (by decide), hg, zs_ne (by decide)]⟩
    exact ⟨0, _, Hu (gT 84 _ cs84 (by intro z; cases z)) ((mz_r (E := E) t3 gM hW (p := k9) (d + 3) (n + 1993) (by omega) (by omega)).trans (by rw [if_pos (by omega)])) (mt_0 (n := n + 1987)) ((mz_n (E := E) (h := g) (x := x9) (a := 0) (b := 100) (d + 3) (n + 1985) (by omega)).trans (by rw [if_neg (by rw [show (0 : Int32).toInt = 0 from by decide, show (100 : Int32).toInt = 100 from by decide]; omega)])) (mt_1 (n := n + 1973) (y := 2) (t3 84 _ cs84 (by intro z; cases z))), fun z => absurd z hp, fun _ k => by rw [zs_ne (by decide), hg, zs_ne (by decide)]⟩
set_option maxRecDepth 100000 in
theorem mbKe (hE : E.1 < 2147483648) (hsm : bSO E ctb B (60, smT)) (gI : bHI h) (gP : bPS h) (gT : bTB ctb h.1) (hM : RM h σ) (hW : WF σ) {k9 x9 : Int32} : ∀ d f, 90 ≤ d → B + 5000000 ≤ f → mzQ ((0 ≤ k9.toInt ∧ k9.toInt < (sP σ : Int)) ∧ (0 ≤ x9.toInt ∧ x9.toInt ≤ 100)) h (zex E f d 291 0 [some (.ref 84), some (.int k9), some (.int x9)] [] h) := by
  intro d f hd hf
  obtain ⟨n, hn⟩ : ∃ n, f = n + 2000 := ⟨f - 2000, by omega⟩
  obtain ⟨d, hd'⟩ : ∃ d', d = d' + 4 := ⟨d - 4, by omega⟩
  subst hn hd'
  have w1 := hW.1
  have w3 := hW.2.2.1
  obtain ⟨g, hg, t1, t2, t3, gM, g7⟩ := mz_q gI gP gT hM
  have H0 := je_0 (E := E) (n := n + 1980) (d := d + 3) (h := h)  (k := k9) (x := x9) 
  rw [← hg] at H0
  have Ht := fun {h1 : zH} => je_t (E := E) (n := n + 1987) (d := d + 3) (h := h) (h1 := h1) (k := k9) (x := x9) 
  rw [← hg] at Ht
  have Hu := fun {h1 : zH} => je_u (E := E) (n := n + 1976) (d := d + 3) (h := h) (h1 := h1) (k := k9) (x := x9) 
  rw [← hg] at Hu
  unfold mzQ
  by_cases hp : (0 ≤ k9.toInt ∧ k9.toInt < (sP σ : Int)) ∧ (0 ≤ x9.toInt ∧ x9.toInt ≤ 100)
  · skip
    have e2 := H0 (gT 84 _ cs84 (by intro z; cases z)) ((mz_p (E := E) t3 gM hW (p := k9) (d + 3) (n + 1993) (by omega) (by omega)).trans (by rw [if_pos (by omega)])) (mt_0 (n := n + 1987)) ((mz_n (E := E) (h := g) (x := x9) (a := 0) (b := 100) (d + 3) (n + 1985) (by omega)).trans (by rw [if_pos (by rw [show (0 : Int32).toInt = 0 from by decide, show (100 : Int32).toInt = 100 from by decide]; omega)])) (mt_0 (n := n + 1977))
    have ja := pers_i (r := k9) (j := 1) (a := k9.toInt.toNat) (b := 1) (by omega) (by omega) (by decide) (by decide)
    obtain ⟨h2, e3, i2, p2, q2, s2, w9, o9, z9⟩ := rm9 (E := E) t1 t2 t3 (d + 2) (n + 1972) (by omega)
    have e5 := td_1 (E := E) (n := n + 1960) (d := d + 2) (x := x9) (u3 := none) ja (by omega) rfl (t3 84 _ cs84 (by intro z; cases z)) (q2 84 _ cs84 (by intro z; cases z)) (q2 85 _ ks85 (by intro z; cases z)) e3
    exact ⟨_, _, e2.trans (to_291 (n := n + 1973) (d := d + 3) (t3 84 _ cs84 (by intro z; cases z)) (mh_pi (n := n + 1968) (d := d + 3)) e5), fun _ => RZ9_f (RZ9_g hg w9) (fun k => zs_ne (by decide)), fun z => absurd hp z⟩
  · skip
    by_cases hc : ¬ (0 ≤ k9.toInt ∧ k9.toInt < (sP σ : Int))
    · exact ⟨0, _, Ht (gT 84 _ cs84 (by intro z; cases z))  ((mz_p (E := E) t3 gM hW (p := k9) (d + 3) (n + 1993) (by omega) (by omega)).trans (by rw [if_neg (by omega)])) (mt_1 (n := n + 1984) (y := 1) (t3 84 _ cs84 (by intro z; cases z))), fun z => absurd z hp, fun _ k => by rw [zs_ne (by decide), hg, zs_ne (by decide)]⟩
    exact ⟨0, _, Hu (gT 84 _ cs84 (by intro z; cases z)) ((mz_p (E := E) t3 gM hW (p := k9) (d + 3) (n + 1993) (by omega) (by omega)).trans (by rw [if_pos (by omega)])) (mt_0 (n := n + 1987)) ((mz_n (E := E) (h := g) (x := x9) (a := 0) (b := 100) (d + 3) (n + 1985) (by omega)).trans (by rw [if_neg (by rw [show (0 : Int32).toInt = 0 from by decide, show (100 : Int32).toInt = 100 from by decide]; omega)])) (mt_1 (n := n + 1973) (y := 2) (t3 84 _ cs84 (by intro z; cases z))), fun z => absurd z hp, fun _ k => by rw [zs_ne (by decide), hg, zs_ne (by decide)]⟩
set_option maxRecDepth 100000 in
theorem mbSo (hE : E.1 < 2147483648) (hsm : bSO E ctb B (60, smT)) (gI : bHI h) (gP : bPS h) (gT : bTB ctb h.1) (hM : RM h σ) (hW : WF σ) {k9 x9 : Int32} : ∀ d f, 90 ≤ d → B + 5000000 ≤ f → mzQ ((0 ≤ k9.toInt ∧ k9.toInt < (sP σ : Int)) ∧ (0 ≤ x9.toInt ∧ x9.toInt ≤ 99)) h (zex E f d 292 0 [some (.ref 84), some (.int k9), some (.int x9)] [] h) := by
  intro d f hd hf
  obtain ⟨n, hn⟩ : ∃ n, f = n + 2000 := ⟨f - 2000, by omega⟩
  obtain ⟨d, hd'⟩ : ∃ d', d = d' + 4 := ⟨d - 4, by omega⟩
  subst hn hd'
  have w1 := hW.1
  have w3 := hW.2.2.1
  obtain ⟨g, hg, t1, t2, t3, gM, g7⟩ := mz_q gI gP gT hM
  have H0 := jf_0 (E := E) (n := n + 1980) (d := d + 3) (h := h)  (k := k9) (x := x9) 
  rw [← hg] at H0
  have Ht := fun {h1 : zH} => jf_t (E := E) (n := n + 1987) (d := d + 3) (h := h) (h1 := h1) (k := k9) (x := x9) 
  rw [← hg] at Ht
  have Hu := fun {h1 : zH} => jf_u (E := E) (n := n + 1976) (d := d + 3) (h := h) (h1 := h1) (k := k9) (x := x9) 
  rw [← hg] at Hu
  unfold mzQ
  by_cases hp : (0 ≤ k9.toInt ∧ k9.toInt < (sP σ : Int)) ∧ (0 ≤ x9.toInt ∧ x9.toInt ≤ 99)
  · skip
    have e2 := H0 (gT 84 _ cs84 (by intro z; cases z)) ((mz_p (E := E) t3 gM hW (p := k9) (d + 3) (n + 1993) (by omega) (by omega)).trans (by rw [if_pos (by omega)])) (mt_0 (n := n + 1987)) ((mz_n (E := E) (h := g) (x := x9) (a := 0) (b := 99) (d + 3) (n + 1985) (by omega)).trans (by rw [if_pos (by rw [show (0 : Int32).toInt = 0 from by decide, show (99 : Int32).toInt = 99 from by decide]; omega)])) (mt_0 (n := n + 1977))
    have ja := pers_i (r := k9) (j := 2) (a := k9.toInt.toNat) (b := 2) (by omega) (by omega) (by decide) (by decide)
    obtain ⟨h2, e3, i2, p2, q2, s2, w9, o9, z9⟩ := rm9 (E := E) t1 t2 t3 (d + 2) (n + 1972) (by omega)
    have e5 := td_1 (E := E) (n := n + 1960) (d := d + 2) (x := x9) (u3 := none) ja (by omega) rfl (t3 84 _ cs84 (by intro z; cases z)) (q2 84 _ cs84 (by intro z; cases z)) (q2 85 _ ks85 (by intro z; cases z)) e3
    exact ⟨_, _, e2.trans (to_292 (n := n + 1973) (d := d + 3) (t3 84 _ cs84 (by intro z; cases z)) (mh_pi (n := n + 1968) (d := d + 3)) e5), fun _ => RZ9_f (RZ9_g hg w9) (fun k => zs_ne (by decide)), fun z => absurd hp z⟩
  · skip
    by_cases hc : ¬ (0 ≤ k9.toInt ∧ k9.toInt < (sP σ : Int))
    · exact ⟨0, _, Ht (gT 84 _ cs84 (by intro z; cases z))  ((mz_p (E := E) t3 gM hW (p := k9) (d + 3) (n + 1993) (by omega) (by omega)).trans (by rw [if_neg (by omega)])) (mt_1 (n := n + 1984) (y := 1) (t3 84 _ cs84 (by intro z; cases z))), fun z => absurd z hp, fun _ k => by rw [zs_ne (by decide), hg, zs_ne (by decide)]⟩
    exact ⟨0, _, Hu (gT 84 _ cs84 (by intro z; cases z)) ((mz_p (E := E) t3 gM hW (p := k9) (d + 3) (n + 1993) (by omega) (by omega)).trans (by rw [if_pos (by omega)])) (mt_0 (n := n + 1987)) ((mz_n (E := E) (h := g) (x := x9) (a := 0) (b := 99) (d + 3) (n + 1985) (by omega)).trans (by rw [if_neg (by rw [show (0 : Int32).toInt = 0 from by decide, show (99 : Int32).toInt = 99 from by decide]; omega)])) (mt_1 (n := n + 1973) (y := 2) (t3 84 _ cs84 (by intro z; cases z))), fun z => absurd z hp, fun _ k => by rw [zs_ne (by decide), hg, zs_ne (by decide)]⟩
set_option maxRecDepth 100000 in
theorem mtTo (hE : E.1 < 2147483648) (hsm : bSO E ctb B (60, smT)) (gI : bHI h) (gP : bPS h) (gT : bTB ctb h.1) (hM : RM h σ) (hW : WF σ) {k9 x9 : Int32} : ∀ d f, 90 ≤ d → B + 5000000 ≤ f → mtQ ((0 ≤ k9.toInt ∧ k9.toInt < (sR σ : Int)) ∧ (0 ≤ x9.toInt ∧ x9.toInt ≤ 100)) (if 0 ≤ k9.toInt ∧ k9.toInt < (sR σ : Int) then 2 else 1) (13 + 11 * k9.toInt.toNat + 2) x9 h (zex E f d 290 0 [some (.ref 84), some (.int k9), some (.int x9)] [] h) := by
  intro d f hd hf
  obtain ⟨n, hn⟩ : ∃ n, f = n + 2000 := ⟨f - 2000, by omega⟩
  obtain ⟨d, hd'⟩ : ∃ d', d = d' + 4 := ⟨d - 4, by omega⟩
  subst hn hd'
  have w1 := hW.1
  have w3 := hW.2.2.1
  obtain ⟨g, hg, t1, t2, t3, gM, g7⟩ := mz_q gI gP gT hM
  have H0 := jd_0 (E := E) (n := n + 1980) (d := d + 3) (h := h)  (k := k9) (x := x9) 
  rw [← hg] at H0
  have Ht := fun {h1 : zH} => jd_t (E := E) (n := n + 1987) (d := d + 3) (h := h) (h1 := h1) (k := k9) (x := x9) 
  rw [← hg] at Ht
  have Hu := fun {h1 : zH} => jd_u (E := E) (n := n + 1976) (d := d + 3) (h := h) (h1 := h1) (k := k9) (x := x9) 
  rw [← hg] at Hu
  unfold mtQ
  by_cases hp : (0 ≤ k9.toInt ∧ k9.toInt < (sR σ : Int)) ∧ (0 ≤ x9.toInt ∧ x9.toInt ≤ 100)
  · skip
    have e2 := H0 (gT 84 _ cs84 (by intro z; cases z)) ((mz_r (E := E) t3 gM hW (p := k9) (d + 3) (n + 1993) (by omega) (by omega)).trans (by rw [if_pos (by omega)])) (mt_0 (n := n + 1987)) ((mz_n (E := E) (h := g) (x := x9) (a := 0) (b := 100) (d + 3) (n + 1985) (by omega)).trans (by rw [if_pos (by rw [show (0 : Int32).toInt = 0 from by decide, show (100 : Int32).toInt = 100 from by decide]; omega)])) (mt_0 (n := n + 1977))
    have ja := room_i (r := k9) (j := 2) (a := k9.toInt.toNat) (b := 2) (by omega) (by omega) (by decide) (by decide)
    obtain ⟨h2, e3, i2, p2, q2, s2, w9, o9, z9⟩ := rm9 (E := E) t1 t2 t3 (d + 2) (n + 1972) (by omega)
    have e5 := td_1 (E := E) (n := n + 1960) (d := d + 2) (x := x9) (u3 := none) ja (by omega) rfl (t3 84 _ cs84 (by intro z; cases z)) (q2 84 _ cs84 (by intro z; cases z)) (q2 85 _ ks85 (by intro z; cases z)) e3
    exact ⟨_, _, e2.trans (to_290 (n := n + 1973) (d := d + 3) (t3 84 _ cs84 (by intro z; cases z)) (mh_ri (n := n + 1968) (d := d + 3)) e5), fun _ => ⟨(o9 85 (by decide) (by decide) _).trans (by rw [hg, zs_ne (by decide)]), by rw [zs_ne (by decide), z9 0 (by decide), hg, zs_at, upd_e]; rfl, fun k => by rw [zs_at]; exact upd_c (fun k => (o9 85 (by decide) (by decide) k).trans (by rw [hg, zs_ne (by decide)])) k⟩, fun z => absurd hp z⟩
  · skip
    by_cases hc : ¬ (0 ≤ k9.toInt ∧ k9.toInt < (sR σ : Int))
    · exact ⟨0, _, Ht (gT 84 _ cs84 (by intro z; cases z))  ((mz_r (E := E) t3 gM hW (p := k9) (d + 3) (n + 1993) (by omega) (by omega)).trans (by rw [if_neg (by omega)])) (mt_1 (n := n + 1984) (y := 1) (t3 84 _ cs84 (by intro z; cases z))), fun z => absurd z hp, fun _ => ⟨by rw [if_neg hc, zs_at, upd_e]; decide, fun k => by rw [zs_ne (by decide), hg, zs_ne (by decide)]⟩⟩
    exact ⟨0, _, Hu (gT 84 _ cs84 (by intro z; cases z)) ((mz_r (E := E) t3 gM hW (p := k9) (d + 3) (n + 1993) (by omega) (by omega)).trans (by rw [if_pos (by omega)])) (mt_0 (n := n + 1987)) ((mz_n (E := E) (h := g) (x := x9) (a := 0) (b := 100) (d + 3) (n + 1985) (by omega)).trans (by rw [if_neg (by rw [show (0 : Int32).toInt = 0 from by decide, show (100 : Int32).toInt = 100 from by decide]; omega)])) (mt_1 (n := n + 1973) (y := 2) (t3 84 _ cs84 (by intro z; cases z))), fun z => absurd z hp, fun _ => ⟨by rw [if_pos (Decidable.not_not.mp hc), zs_at, upd_e]; decide, fun k => by rw [zs_ne (by decide), hg, zs_ne (by decide)]⟩⟩
set_option maxRecDepth 100000 in
theorem mtKe (hE : E.1 < 2147483648) (hsm : bSO E ctb B (60, smT)) (gI : bHI h) (gP : bPS h) (gT : bTB ctb h.1) (hM : RM h σ) (hW : WF σ) {k9 x9 : Int32} : ∀ d f, 90 ≤ d → B + 5000000 ≤ f → mtQ ((0 ≤ k9.toInt ∧ k9.toInt < (sP σ : Int)) ∧ (0 ≤ x9.toInt ∧ x9.toInt ≤ 100)) (if 0 ≤ k9.toInt ∧ k9.toInt < (sP σ : Int) then 2 else 1) (185 + 24 * k9.toInt.toNat + 1) x9 h (zex E f d 291 0 [some (.ref 84), some (.int k9), some (.int x9)] [] h) := by
  intro d f hd hf
  obtain ⟨n, hn⟩ : ∃ n, f = n + 2000 := ⟨f - 2000, by omega⟩
  obtain ⟨d, hd'⟩ : ∃ d', d = d' + 4 := ⟨d - 4, by omega⟩
  subst hn hd'
  have w1 := hW.1
  have w3 := hW.2.2.1
  obtain ⟨g, hg, t1, t2, t3, gM, g7⟩ := mz_q gI gP gT hM
  have H0 := je_0 (E := E) (n := n + 1980) (d := d + 3) (h := h)  (k := k9) (x := x9) 
  rw [← hg] at H0
  have Ht := fun {h1 : zH} => je_t (E := E) (n := n + 1987) (d := d + 3) (h := h) (h1 := h1) (k := k9) (x := x9) 
  rw [← hg] at Ht
  have Hu := fun {h1 : zH} => je_u (E := E) (n := n + 1976) (d := d + 3) (h := h) (h1 := h1) (k := k9) (x := x9) 
  rw [← hg] at Hu
  unfold mtQ
  by_cases hp : (0 ≤ k9.toInt ∧ k9.toInt < (sP σ : Int)) ∧ (0 ≤ x9.toInt ∧ x9.toInt ≤ 100)
  · skip
    have e2 := H0 (gT 84 _ cs84 (by intro z; cases z)) ((mz_p (E := E) t3 gM hW (p := k9) (d + 3) (n + 1993) (by omega) (by omega)).trans (by rw [if_pos (by omega)])) (mt_0 (n := n + 1987)) ((mz_n (E := E) (h := g) (x := x9) (a := 0) (b := 100) (d + 3) (n + 1985) (by omega)).trans (by rw [if_pos (by rw [show (0 : Int32).toInt = 0 from by decide, show (100 : Int32).toInt = 100 from by decide]; omega)])) (mt_0 (n := n + 1977))
    have ja := pers_i (r := k9) (j := 1) (a := k9.toInt.toNat) (b := 1) (by omega) (by omega) (by decide) (by decide)
    obtain ⟨h2, e3, i2, p2, q2, s2, w9, o9, z9⟩ := rm9 (E := E) t1 t2 t3 (d + 2) (n + 1972) (by omega)
    have e5 := td_1 (E := E) (n := n + 1960) (d := d + 2) (x := x9) (u3 := none) ja (by omega) rfl (t3 84 _ cs84 (by intro z; cases z)) (q2 84 _ cs84 (by intro z; cases z)) (q2 85 _ ks85 (by intro z; cases z)) e3
    exact ⟨_, _, e2.trans (to_291 (n := n + 1973) (d := d + 3) (t3 84 _ cs84 (by intro z; cases z)) (mh_pi (n := n + 1968) (d := d + 3)) e5), fun _ => ⟨(o9 85 (by decide) (by decide) _).trans (by rw [hg, zs_ne (by decide)]), by rw [zs_ne (by decide), z9 0 (by decide), hg, zs_at, upd_e]; rfl, fun k => by rw [zs_at]; exact upd_c (fun k => (o9 85 (by decide) (by decide) k).trans (by rw [hg, zs_ne (by decide)])) k⟩, fun z => absurd hp z⟩
  · skip
    by_cases hc : ¬ (0 ≤ k9.toInt ∧ k9.toInt < (sP σ : Int))
    · exact ⟨0, _, Ht (gT 84 _ cs84 (by intro z; cases z))  ((mz_p (E := E) t3 gM hW (p := k9) (d + 3) (n + 1993) (by omega) (by omega)).trans (by rw [if_neg (by omega)])) (mt_1 (n := n + 1984) (y := 1) (t3 84 _ cs84 (by intro z; cases z))), fun z => absurd z hp, fun _ => ⟨by rw [if_neg hc, zs_at, upd_e]; decide, fun k => by rw [zs_ne (by decide), hg, zs_ne (by decide)]⟩⟩
    exact ⟨0, _, Hu (gT 84 _ cs84 (by intro z; cases z)) ((mz_p (E := E) t3 gM hW (p := k9) (d + 3) (n + 1993) (by omega) (by omega)).trans (by rw [if_pos (by omega)])) (mt_0 (n := n + 1987)) ((mz_n (E := E) (h := g) (x := x9) (a := 0) (b := 100) (d + 3) (n + 1985) (by omega)).trans (by rw [if_neg (by rw [show (0 : Int32).toInt = 0 from by decide, show (100 : Int32).toInt = 100 from by decide]; omega)])) (mt_1 (n := n + 1973) (y := 2) (t3 84 _ cs84 (by intro z; cases z))), fun z => absurd z hp, fun _ => ⟨by rw [if_pos (Decidable.not_not.mp hc), zs_at, upd_e]; decide, fun k => by rw [zs_ne (by decide), hg, zs_ne (by decide)]⟩⟩
set_option maxRecDepth 100000 in
theorem mtSo (hE : E.1 < 2147483648) (hsm : bSO E ctb B (60, smT)) (gI : bHI h) (gP : bPS h) (gT : bTB ctb h.1) (hM : RM h σ) (hW : WF σ) {k9 x9 : Int32} : ∀ d f, 90 ≤ d → B + 5000000 ≤ f → mtQ ((0 ≤ k9.toInt ∧ k9.toInt < (sP σ : Int)) ∧ (0 ≤ x9.toInt ∧ x9.toInt ≤ 99)) (if 0 ≤ k9.toInt ∧ k9.toInt < (sP σ : Int) then 2 else 1) (185 + 24 * k9.toInt.toNat + 2) x9 h (zex E f d 292 0 [some (.ref 84), some (.int k9), some (.int x9)] [] h) := by
  intro d f hd hf
  obtain ⟨n, hn⟩ : ∃ n, f = n + 2000 := ⟨f - 2000, by omega⟩
  obtain ⟨d, hd'⟩ : ∃ d', d = d' + 4 := ⟨d - 4, by omega⟩
  subst hn hd'
  have w1 := hW.1
  have w3 := hW.2.2.1
  obtain ⟨g, hg, t1, t2, t3, gM, g7⟩ := mz_q gI gP gT hM
  have H0 := jf_0 (E := E) (n := n + 1980) (d := d + 3) (h := h)  (k := k9) (x := x9) 
  rw [← hg] at H0
  have Ht := fun {h1 : zH} => jf_t (E := E) (n := n + 1987) (d := d + 3) (h := h) (h1 := h1) (k := k9) (x := x9) 
  rw [← hg] at Ht
  have Hu := fun {h1 : zH} => jf_u (E := E) (n := n + 1976) (d := d + 3) (h := h) (h1 := h1) (k := k9) (x := x9) 
  rw [← hg] at Hu
  unfold mtQ
  by_cases hp : (0 ≤ k9.toInt ∧ k9.toInt < (sP σ : Int)) ∧ (0 ≤ x9.toInt ∧ x9.toInt ≤ 99)
  · skip
    have e2 := H0 (gT 84 _ cs84 (by intro z; cases z)) ((mz_p (E := E) t3 gM hW (p := k9) (d + 3) (n + 1993) (by omega) (by omega)).trans (by rw [if_pos (by omega)])) (mt_0 (n := n + 1987)) ((mz_n (E := E) (h := g) (x := x9) (a := 0) (b := 99) (d + 3) (n + 1985) (by omega)).trans (by rw [if_pos (by rw [show (0 : Int32).toInt = 0 from by decide, show (99 : Int32).toInt = 99 from by decide]; omega)])) (mt_0 (n := n + 1977))
    have ja := pers_i (r := k9) (j := 2) (a := k9.toInt.toNat) (b := 2) (by omega) (by omega) (by decide) (by decide)
    obtain ⟨h2, e3, i2, p2, q2, s2, w9, o9, z9⟩ := rm9 (E := E) t1 t2 t3 (d + 2) (n + 1972) (by omega)
    have e5 := td_1 (E := E) (n := n + 1960) (d := d + 2) (x := x9) (u3 := none) ja (by omega) rfl (t3 84 _ cs84 (by intro z; cases z)) (q2 84 _ cs84 (by intro z; cases z)) (q2 85 _ ks85 (by intro z; cases z)) e3
    exact ⟨_, _, e2.trans (to_292 (n := n + 1973) (d := d + 3) (t3 84 _ cs84 (by intro z; cases z)) (mh_pi (n := n + 1968) (d := d + 3)) e5), fun _ => ⟨(o9 85 (by decide) (by decide) _).trans (by rw [hg, zs_ne (by decide)]), by rw [zs_ne (by decide), z9 0 (by decide), hg, zs_at, upd_e]; rfl, fun k => by rw [zs_at]; exact upd_c (fun k => (o9 85 (by decide) (by decide) k).trans (by rw [hg, zs_ne (by decide)])) k⟩, fun z => absurd hp z⟩
  · skip
    by_cases hc : ¬ (0 ≤ k9.toInt ∧ k9.toInt < (sP σ : Int))
    · exact ⟨0, _, Ht (gT 84 _ cs84 (by intro z; cases z))  ((mz_p (E := E) t3 gM hW (p := k9) (d + 3) (n + 1993) (by omega) (by omega)).trans (by rw [if_neg (by omega)])) (mt_1 (n := n + 1984) (y := 1) (t3 84 _ cs84 (by intro z; cases z))), fun z => absurd z hp, fun _ => ⟨by rw [if_neg hc, zs_at, upd_e]; decide, fun k => by rw [zs_ne (by decide), hg, zs_ne (by decide)]⟩⟩
    exact ⟨0, _, Hu (gT 84 _ cs84 (by intro z; cases z)) ((mz_p (E := E) t3 gM hW (p := k9) (d + 3) (n + 1993) (by omega) (by omega)).trans (by rw [if_pos (by omega)])) (mt_0 (n := n + 1987)) ((mz_n (E := E) (h := g) (x := x9) (a := 0) (b := 99) (d + 3) (n + 1985) (by omega)).trans (by rw [if_neg (by rw [show (0 : Int32).toInt = 0 from by decide, show (99 : Int32).toInt = 99 from by decide]; omega)])) (mt_1 (n := n + 1973) (y := 2) (t3 84 _ cs84 (by intro z; cases z))), fun z => absurd z hp, fun _ => ⟨by rw [if_pos (Decidable.not_not.mp hc), zs_at, upd_e]; decide, fun k => by rw [zs_ne (by decide), hg, zs_ne (by decide)]⟩⟩
end MB
