/-! what a text of THE HOUSE leaves of ROUND and SEED (wip/zab2/c/lgen56.py) -/
def r8q (k : Nat) : Option bV := some (.inr (.inl (.ref k)))
def poR8 : List bPo := [([iFull], [], some (.inl (0, [(2, 1)])), [(69, 10, mv 0), (69, 12, mv 1)])]
set_option maxRecDepth 100000 in
theorem rd_8 : btz sc79.2.1 (60, smT) ctb (bfn 0 0 2 (bidl 2 0) poR8) 70 129 1000000 2 [] (2, [iFull, iFull], [], [(18, (10, []), mv 0), (18, (12, []), mv 1)], (0, []), (0, [])) 0 [r8q 62, r8q 1, r8q 4, r8q 18, none] = true := by decide +kernel
set_option maxRecDepth 100000 in
theorem plB_1 (h : zH) : (plB h).1 = h.1 := rfl
set_option maxRecDepth 100000 in
theorem grB_1 (h : zH) : (grB h).1 = h.1 := rfl
set_option maxRecDepth 100000 in
theorem gB_10 (h : zH) : (grB (plB h)).2.1 18 10 = h.2.1 69 10 := rfl
set_option maxRecDepth 100000 in
theorem gB_12 (h : zH) : (grB (plB h)).2.1 18 12 = h.2.1 69 12 := rfl
section H8
variable {E : zE} {B : Nat} {h : zH}
set_option maxRecDepth 100000 in
theorem rdS (hE : E.1 < 2147483648) (hsm : bSO E ctb B (60, smT)) (gI : bHI h) (gP : bPS h) (gT : bTB ctb h.1) {d f : Nat} (hd : 70 ≤ d) (hf : B + 1000000 ≤ f) {v : Option Value} {h1 : zH} (e : zex E f d 129 0 [some (.ref 62), some (.ref 1), some (.ref 4), some (.ref 18), none] [] h = some (.inl v, h1)) : h1.2.1 69 10 = h.2.1 18 10 ∧ h1.2.1 69 12 = h.2.1 18 12 := by
  have ov : bOV E [(h.2.1 18 10).toInt, (h.2.1 18 12).toInt] [(18, (10, []), mv 0), (18, (12, []), mv 1)] h := bov_c (k := 10) rfl rfl rfl rfl (by unfold mv; rw [bvx_v]; rfl) (bov_c (k := 12) rfl rfl rfl rfl (by unfold mv; rw [bvx_v]; rfl) bov_n)
  have q := seg (V := [(h.2.1 18 10).toInt, (h.2.1 18 12).toInt]) (al := [r8q 62, r8q 1, r8q 4, r8q 18, none]) (ls := [some (.ref 62), some (.ref 1), some (.ref 4), some (.ref 18), none]) (ca := 0) (sa := 0) (nv := 2) (Q := rnQ E [(h.2.1 18 10).toInt, (h.2.1 18 12).toInt] poR8) hE hsm (fin_l (V := [(h.2.1 18 10).toInt, (h.2.1 18 12).toInt]) rfl (fun p hp v h' _ k => ⟨v, h', rfl, p, hp, k⟩)) ⟨gI, gP, gT, fun _ _ _ => rfl, Nat.le_refl _, Nat.le_refl _⟩ (benv_c (bi32 _).1 (bi32 _).2 (benv_c (bi32 _).1 (bi32 _).2 benv_n)) rfl bcs_n ov ⟨⟨_, rfl, rfl⟩, ⟨_, rfl, rfl⟩, ⟨_, rfl, rfl⟩, ⟨_, rfl, rfl⟩, trivial, trivial⟩ rd_8 (B' := B) (Nat.le_refl _) (fun N hN => absurd hN List.not_mem_nil) (fun N hN => absurd hN List.not_mem_nil) d f hd hf
  obtain ⟨v', h', e1, p, hp, k⟩ := q
  obtain ⟨z1, z2⟩ := inl_j e e1
  subst z2
  cases hp with
  | tail _ hp => exact absurd hp List.not_mem_nil
  | head =>
    obtain ⟨U, u1, u2, u3, u4⟩ := k
    have k10 : (h1.2.1 69 10).toInt = (h.2.1 18 10).toInt := bpv_v u4 (c := 69) (k := 10) (i := 0) rfl (List.Mem.head _)
    have k12 : (h1.2.1 69 12).toInt = (h.2.1 18 12).toInt := bpv_v u4 (c := 69) (k := 12) (i := 1) rfl (List.Mem.tail _ (List.Mem.head _))
    exact ⟨Int32.toInt_inj.mp k10, Int32.toInt_inj.mp k12⟩
def s8Q (h0 h1 : zH) : Prop := bTB ctb h1.1 ∧ h1.2.1 18 10 = h0.2.1 18 10 ∧ h1.2.1 18 12 = h0.2.1 18 12
def sh8 (h0 : zH) (o : Option zR) : Prop := ∃ h1 : zH, s8Q h0 h1 ∧ (o = some (.inr 0, h1) ∨ o = some (.inr 1, h1) ∨ ∃ x : Int32, o = some (.inl (some (.int x)), h1))
set_option maxRecDepth 100000 in
theorem shS {h0 : zH} (hE : E.1 < 2147483648) (hsm : bSO E ctb B (60, smT)) (hI : bHI h0) (hP : bPS h0) (hT : bTB ctb h0.1) : ∀ d f, 72 ≤ d → B + 2000000 ≤ f → sh8 h0 (zex E f d 41 0 [some (.ref 0)] [] h0) := by
  intro d f hd hf
  obtain ⟨d', hd'⟩ : ∃ d', d = d' + 1 := ⟨d - 1, by omega⟩
  obtain ⟨n, hn⟩ : ∃ n, f = n + 200 := ⟨f - 200, by omega⟩
  subst hd' hn
  have b43 := hI.1 4 3
  obtain ⟨v9, h9, c1, c2, ⟨c3, c4⟩, c5, c6, c7, p1, m1, b1⟩ := hsm 129 [sc79] rfl sc79 (List.Mem.head _) (by decide) [(h0.2.1 4 3).toInt] [.ref 62, .ref 1, .ref 4, .ref 18] h0 d' (n + 189) (4, 5, 0, 3, 1, 0) rfl (by show 5 ≤ d'; omega) (by omega) ⟨rfl, rfl, rfl, rfl, trivial⟩ (benv_c b43.1 b43.2 benv_n) bcs_n (fun q hq => by cases hq with | head => exact (show brel [(h0.2.1 4 3).toInt] (mv 0) (h0.2.1 4 3).toInt from brel_v rfl) | tail _ hq => exact absurd hq List.not_mem_nil) hI hP hT
  obtain ⟨x, hx⟩ := bPR_i m1 (by decide) b1
  subst hx
  have e9 : zex E (n + 189) d' 129 0 [some (.ref 62), some (.ref 1), some (.ref 4), some (.ref 18), none] [] h0 = some (.inl (some (.int x)), h9) := c1
  obtain ⟨s10, s12⟩ := rdS (E := E) hE hsm hI hP hT (by omega) (by omega) e9
  have f10 : h9.2.1 18 10 = h0.2.1 18 10 := c5 18 10 (by decide +kernel)
  have f12 : h9.2.1 18 12 = h0.2.1 18 12 := c5 18 12 (by decide +kernel)
  have T9 := c4
  have v09 : ((zsetI (zsetI h9 0 (upd (h9.2.1 0) 9 x)) 1 (upd ((zsetI h9 0 (upd (h9.2.1 0) 9 x)).2.1 1) 1 0)).2.1 0 9).toInt = x.toInt := by rw [zs_ne (by decide), zs_at, upd_e]
  by_cases hm : x.toInt = (-1 : Int32).toInt
  · have kb := hs_b (E := E) (n := n + 180) (d := d') (x := x) (by rw [v09]; exact hm) (hT 0 _ kt0 (by intro z; cases z)) (hT 3 _ kt3 (by intro z; cases z)) (hT 62 _ kt62 (by intro z; cases z)) (T9 0 _ kt0 (by intro z; cases z)) (T9 1 _ kt1 (by intro z; cases z)) e9
    rw [show n + 200 = n + 180 + 20 from by omega, kb]
    obtain ⟨hw, hhw⟩ : ∃ hw, hw = zsetI (zsetI h9 0 (upd (h9.2.1 0) 9 x)) 1 (upd ((zsetI h9 0 (upd (h9.2.1 0) 9 x)).2.1 1) 1 0) := ⟨_, rfl⟩
    have T9 : bTB ctb hw.1 := by rw [hhw]; exact c4
    have w10 : hw.2.1 18 10 = h0.2.1 18 10 := by rw [hhw, zs_ne (by decide), zs_ne (by decide)]; exact f10
    have w12 : hw.2.1 18 12 = h0.2.1 18 12 := by rw [hhw, zs_ne (by decide), zs_ne (by decide)]; exact f12
    have v10 : hw.2.1 69 10 = h0.2.1 18 10 := by rw [hhw, zs_ne (by decide), zs_ne (by decide)]; exact s10
    have v12 : hw.2.1 69 12 = h0.2.1 18 12 := by rw [hhw, zs_ne (by decide), zs_ne (by decide)]; exact s12
    rw [← hhw]
    by_cases h12 : (hw.2.1 4 3).toInt < (12 : Int32).toInt
    · have P1 : bTB ctb (plB hw).1 := by rw [plB_1]; exact T9
      have P2 : bTB ctb (grB (plB hw)).1 := by rw [grB_1]; exact P1
      have P3 : bTB ctb (zsetI (grB (plB hw)) 4 (upd ((grB (plB hw)).2.1 4) 3 ((grB (plB hw)).2.1 4 3 + 1))).1 := P2
      have P4 : bTB ctb (zsetI (zsetI (grB (plB hw)) 4 (upd ((grB (plB hw)).2.1 4) 3 ((grB (plB hw)).2.1 4 3 + 1))) 27 (upd ((zsetI (grB (plB hw)) 4 (upd ((grB (plB hw)).2.1 4) 3 ((grB (plB hw)).2.1 4 3 + 1))).2.1 27) 2 0)).1 := P3
      have e1 := cpl4 (E := E) (n := n + 110) (d := d') (h := hw) (T9 4 _ kt4 (by intro z; cases z)) (T9 5 _ kt5 (by intro z; cases z)) (T9 6 _ kt6 (by intro z; cases z)) (T9 7 _ kt7 (by intro z; cases z)) (T9 8 _ kt8 (by intro z; cases z)) (T9 9 _ kt9 (by intro z; cases z)) (T9 63 _ kt63 (by intro z; cases z)) (T9 64 _ kt64 (by intro z; cases z)) (T9 65 _ kt65 (by intro z; cases z)) (T9 66 _ kt66 (by intro z; cases z)) (T9 67 _ kt67 (by intro z; cases z)) (T9 68 _ kt68 (by intro z; cases z))
      have e2 := cgr18 (E := E) (n := n + 84) (d := d') (h := plB hw) (P1 18 _ kt18 (by intro z; cases z)) (P1 19 _ kt19 (by intro z; cases z)) (P1 20 _ kt20 (by intro z; cases z)) (P1 21 _ kt21 (by intro z; cases z)) (P1 22 _ kt22 (by intro z; cases z)) (P1 23 _ kt23 (by intro z; cases z)) (P1 24 _ kt24 (by intro z; cases z)) (P1 69 _ kt69 (by intro z; cases z)) (P1 70 _ kt70 (by intro z; cases z)) (P1 71 _ kt71 (by intro z; cases z)) (P1 72 _ kt72 (by intro z; cases z)) (P1 73 _ kt73 (by intro z; cases z)) (P1 74 _ kt74 (by intro z; cases z)) (P1 75 _ kt75 (by intro z; cases z))
      have e3 := fgt (E := E) (n := n + 146) (d := d') (h := zsetI (grB (plB hw)) 4 (upd ((grB (plB hw)).2.1 4) 3 ((grB (plB hw)).2.1 4 3 + 1))) (P3 27 _ kt27 (by intro z; cases z))
      refine ⟨_, ?_, Or.inr (Or.inr ⟨_, hs_d (n := n + 145) (d := d') h12 (T9 0 _ kt0 (by intro z; cases z)) (T9 3 _ kt3 (by intro z; cases z)) (T9 4 _ kt4 (by intro z; cases z)) (T9 62 _ kt62 (by intro z; cases z)) (P1 0 _ kt0 (by intro z; cases z)) (P1 18 _ kt18 (by intro z; cases z)) (P1 62 _ kt62 (by intro z; cases z)) (P2 0 _ kt0 (by intro z; cases z)) (P2 3 _ kt3 (by intro z; cases z)) (P2 4 _ kt4 (by intro z; cases z)) (P2 27 _ kt27 (by intro z; cases z)) (P4 0 _ kt0 (by intro z; cases z)) (P4 3 _ kt3 (by intro z; cases z)) (P4 4 _ kt4 (by intro z; cases z)) e1 e2 e3⟩)⟩
      refine ⟨P4, ?_, ?_⟩
      · rw [zs_ne (by decide), zs_ne (by decide), gB_10]; exact v10
      · rw [zs_ne (by decide), zs_ne (by decide), gB_12]; exact v12
    · refine ⟨_, ?_, Or.inr (Or.inl (hs_c (E := E) (n := n + 173) (d := d' + 1) (h := hw) (by omega) (T9 0 _ kt0 (by intro z; cases z)) (T9 3 _ kt3 (by intro z; cases z)) (T9 4 _ kt4 (by intro z; cases z))))⟩
      exact ⟨T9, w10, w12⟩
  · refine ⟨_, ?_, Or.inl (hs_a (E := E) (n := n + 179) (d := d') (x := x) (by rw [v09]; exact hm) (hT 0 _ kt0 (by intro z; cases z)) (hT 3 _ kt3 (by intro z; cases z)) (hT 62 _ kt62 (by intro z; cases z)) (T9 0 _ kt0 (by intro z; cases z)) (T9 1 _ kt1 (by intro z; cases z)) e9)⟩
    exact ⟨c4, f10, f12⟩
set_option maxRecDepth 100000 in
theorem w18h (hE : E.1 < 2147483648) (hsm : bSO E ctb B (60, smT)) (gI : bHI h) (gP : bPS h) (gT : bTB ctb h.1) {d f : Nat} (hd : 73 ≤ d) (hf : B + 3000000 ≤ f) {r : Option Value ⊕ Nat} {h1 : zH} (e : zex E f d 1 0 [some (.ref 0), some (.ref 94), none] [] h = some (r, h1)) : h1.2.1 18 10 = h.2.1 18 10 ∧ h1.2.1 18 12 = h.2.1 18 12 := by
  obtain ⟨d', hd'⟩ : ∃ d', d = d' + 1 := ⟨d - 1, by omega⟩
  obtain ⟨n, hn⟩ : ∃ n, f = n + 20 := ⟨f - 20, by omega⟩
  subst hd' hn
  have a0 := gT 0 _ ks0 (by intro z; cases z)
  have jj : ∀ {o : Option zR} {r' : Option Value ⊕ Nat} {h' : zH}, o = some (r, h1) → o = some (r', h') → h1 = h' := fun a b => congrArg Prod.snd (Option.some.inj (a.symm.trans b))
  obtain ⟨h2, ⟨t1, t2, t3⟩, k | k | ⟨x, k⟩⟩ := shS (E := E) hE hsm gI gP gT d' (n + 16) (by omega) (by omega)
  · rw [jj e (hw_1 (E := E) (n := n + 13) (d := d') a0 k)]; exact ⟨t2, t3⟩
  · rw [jj e (hw_2 (E := E) (n := n + 13) (d := d') a0 k)]; exact ⟨t2, t3⟩
  · have z := hw_0 (E := E) (n := n + 11) (d := d') (u2 := none) a0 (t1 94 _ ks94 (by intro z; cases z)) k
    rw [jj e z]; exact ⟨t2, t3⟩
end H8
