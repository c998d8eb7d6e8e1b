/-! the class's reader of THE HOUSE: a number, a room, two numbers, exactly -/
noncomputable def wX : Nat := Nat.lor sc0.2.1 wC
set_option maxRecDepth 100000 in
theorem wC_X {i : Nat} (h : Nat.testBit wX i = false) : Nat.testBit wC i = false := by
  unfold wX at h
  have h : Nat.testBit (sc0.2.1 ||| wC) i = false := h
  rw [Nat.testBit_or, Bool.or_eq_false_iff] at h
  exact h.2
set_option maxRecDepth 100000 in
theorem wX2 : Nat.testBit wX (bun 2 0) = false := by decide +kernel
set_option maxRecDepth 100000 in
theorem wX11 : Nat.testBit wX (bun 1 1) = true := by decide +kernel
def XL (h0 : zH) (L : Nat) (h : zH) (s : Nat) : Prop := bRQ ctb wX h0 0 0 h ∧ CT h (tp2 h0) L s ∧ s ≤ L ∧ sk isBl (tp2 h0) L s = s
set_option maxRecDepth 100000 in
theorem wX_2 {h0 h : zH} {a b : Nat} (hr : bRQ ctb wX h0 a b h) : tp2 h = tp2 h0 := tp2_e fun i => hr.2.2.2.1 2 i wX2
set_option maxRecDepth 100000 in
theorem bRQ_CX {h0 h : zH} {a b : Nat} (hr : bRQ ctb wC h0 a b h) : bRQ ctb wX h0 a b h := ⟨hr.1, hr.2.1, hr.2.2.1, fun c k z => hr.2.2.2.1 c k (wC_X z), hr.2.2.2.2.1, hr.2.2.2.2.2⟩
set_option maxRecDepth 100000 in
theorem bRQ_set {W : Nat} {h0 h : zH} {a b c j : Nat} {y : Int32} (hr : bRQ ctb W h0 a b h) (hW : Nat.testBit W (bun c j) = true) (hb : (biv c j).1 ≤ y.toInt ∧ y.toInt ≤ (biv c j).2) (hnx : bnx c = true) (hh : bhc c = false) (h85 : c ≠ 85) (h27 : c ≠ 27) : bRQ ctb W h0 a b (zsetI h c (upd (h.2.1 c) j y)) := by
  refine ⟨bHI_w hr.1 hb hnx hh (fun z => absurd z h85), bPS_w hr.2.1 (fun z => absurd z h27), hr.2.2.1, fun d k hbit => ?_, hr.2.2.2.2.1, hr.2.2.2.2.2⟩
  by_cases hd : d = c
  · subst hd
    rw [zs_at]
    by_cases hk : k = j
    · subst hk
      rw [hW] at hbit
      cases hbit
    · rw [upd_n hk]
      exact hr.2.2.2.1 d k hbit
  · rw [zs_ne hd]
    exact hr.2.2.2.1 d k hbit
/-- what the reader has read stays -/
def SM (h h' : zH) : Prop := (∀ k, k < 4 → h'.2.1 63 k = h.2.1 63 k) ∧ ∀ c, (64 ≤ c ∧ c ≤ 68) ∨ (70 ≤ c ∧ c ≤ 73) → h'.2.1 c = h.2.1 c
set_option maxRecDepth 100000 in
theorem SM_r (h : zH) : SM h h := ⟨fun _ _ => rfl, fun _ _ => rfl⟩
set_option maxRecDepth 100000 in
theorem SM_t {a b c : zH} (h1 : SM a b) (h2 : SM b c) : SM a c := ⟨fun k hk => (h2.1 k hk).trans (h1.1 k hk), fun k hk => (h2.2 k hk).trans (h1.2 k hk)⟩
set_option maxRecDepth 100000 in
theorem bun_a : ∀ c, (64 ≤ c ∧ c ≤ 68) ∨ (70 ≤ c ∧ c ≤ 75) → (∀ k, bun c k = bun c 0) ∧ Nat.testBit wC (bun c 0) = false := by
  intro c hc
  have : c = 64 ∨ c = 65 ∨ c = 66 ∨ c = 67 ∨ c = 68 ∨ c = 70 ∨ c = 71 ∨ c = 72 ∨ c = 73 ∨ c = 74 ∨ c = 75 := by omega
  rcases this with rfl | rfl | rfl | rfl | rfl | rfl | rfl | rfl | rfl | rfl | rfl
  all_goals exact ⟨fun _ => rfl, by decide +kernel⟩
set_option maxRecDepth 100000 in
theorem wC63 : ∀ k, k < 4 → Nat.testBit wC (bun 63 k) = false := by decide +kernel
set_option maxRecDepth 100000 in
theorem wC62 : ∀ k, k < 6 → Nat.testBit wC (bun 62 k) = false := by decide +kernel
set_option maxRecDepth 100000 in
theorem SM_C {h h' : zH} {a b : Nat} (hr : bRQ ctb wC h a b h') : SM h h' := ⟨fun k hk => hr.2.2.2.1 63 k (wC63 k hk), fun c hc => funext fun k => hr.2.2.2.1 c k (by rw [(bun_a c (by omega)).1 k]; exact (bun_a c (by omega)).2)⟩
set_option maxRecDepth 100000 in
theorem SM_62 {h : zH} {j : Nat} {y : Int32} : SM h (zsetI h 62 (upd (h.2.1 62) j y)) := ⟨fun _ _ => zs_ne (by decide), fun c hc => zs_nc (by omega)⟩
set_option maxRecDepth 100000 in
theorem ks62 : bg2 ctb 62 = some (.inr (.inl (3, [some (some 63), some (some 69), none, none, none, none]))) := rfl
set_option maxRecDepth 100000 in
theorem ks63 : bg2 ctb 63 = some (.inr (.inl (8, [none, none, none, none, some (some 64), some (some 65), some (some 66), some (some 67), some (some 68)]))) := rfl
set_option maxRecDepth 100000 in
theorem ks69 : bg2 ctb 69 = some (.inr (.inl (0, [some (some 70), some (some 71), some (some 72), some (some 73), some (some 74), some (some 75), none, none, none, none, none, none, none]))) := rfl
set_option maxRecDepth 100000 in
theorem ha_1 {W : Nat} {h0 h : zH} {a b : Nat} (hr : bRQ ctb W h0 a b h) : zat h.1 1 = some (.inr (.inl (9, [some (some 2), none, none, none, none, none]))) := hr.2.2.1 1 _ cs1 (by intro z; cases z)
set_option maxRecDepth 100000 in
theorem ha_62 {W : Nat} {h0 h : zH} {a b : Nat} (hr : bRQ ctb W h0 a b h) : zat h.1 62 = some (.inr (.inl (3, [some (some 63), some (some 69), none, none, none, none]))) := hr.2.2.1 62 _ ks62 (by intro z; cases z)
set_option maxRecDepth 100000 in
theorem ha_63 {W : Nat} {h0 h : zH} {a b : Nat} (hr : bRQ ctb W h0 a b h) : zat h.1 63 = some (.inr (.inl (8, [none, none, none, none, some (some 64), some (some 65), some (some 66), some (some 67), some (some 68)]))) := hr.2.2.1 63 _ ks63 (by intro z; cases z)
set_option maxRecDepth 100000 in
theorem ha_69 {W : Nat} {h0 h : zH} {a b : Nat} (hr : bRQ ctb W h0 a b h) : zat h.1 69 = some (.inr (.inl (0, [some (some 70), some (some 71), some (some 72), some (some 73), some (some 74), some (some 75), none, none, none, none, none, none, none]))) := hr.2.2.1 69 _ ks69 (by intro z; cases z)
set_option maxRecDepth 100000 in
theorem wX62 : ∀ k, k < 4 → Nat.testBit wX (bun 62 (k + 2)) = true := by decide +kernel
set_option maxRecDepth 100000 in
theorem biv62 : ∀ k, k < 4 → biv 62 (k + 2) = (-2147483648, 2147483647) := fun k hk => by
  match k, hk with
  | 0, _ => rfl
  | 1, _ => rfl
  | 2, _ => rfl
  | 3, _ => rfl
set_option maxRecDepth 100000 in
theorem bRQ_62 {h0 h : zH} {j : Nat} {y : Int32} (hr : bRQ ctb wX h0 0 0 h) (hj : 2 ≤ j ∧ j < 6) : bRQ ctb wX h0 0 0 (zsetI h 62 (upd (h.2.1 62) j y)) := by
  obtain ⟨k, hk⟩ : ∃ k, j = k + 2 := ⟨j - 2, by omega⟩
  subst hk
  exact bRQ_set hr (wX62 k (by omega)) (by rw [biv62 k (by omega)]; exact bi32 y) rfl rfl (by decide) (by decide)
set_option maxRecDepth 100000 in
theorem ct_62 {h : zH} {T : Nat → Int} {L s j : Nat} {y : Int32} (ht : CT h T L s) : CT (zsetI h 62 (upd (h.2.1 62) j y)) T L s := by
  unfold CT
  rw [zs_ne (by decide), zs_ne (by decide), zs_ne (by decide), zs_ne (by decide), zs_ne (by decide)]
  exact ht
set_option maxRecDepth 100000 in
theorem i32_sub {x y : Int32} (h1 : -2147483648 ≤ x.toInt - y.toInt) (h2 : x.toInt - y.toInt < 2147483648) : (x - y).toInt = x.toInt - y.toInt := by
  rw [Int32.toInt_sub, bbm (by omega) (by omega)]
set_option maxRecDepth 100000 in
theorem int5 : (5 : Int32).toInt = 5 := by decide
set_option maxRecDepth 100000 in
theorem isNumE {h : zH} {T : Nat → Int} {L s : Nat} (hct : CT h T L s) (hs : s ≤ L) (hc : sk isBl T L s = s) (hL4 : L ≤ 400) (a1 : zat h.1 1 = some (.inr (.inl (9, [some (some 2), none, none, none, none, none])))) : ∀ (E : zE) f d, zex E (f + 14) d 182 0 [some (.ref 1), some (.int 5)] [] h = some (.inl (some (.int (if nqs T L s 5 = true then 1 else 0))), h) := by
  intro E f d
  have hk := kE_b hs hc
  have hk1 : (h.2.1 1 2).toInt = (kK T L s : Int) := hct.2.1
  have hsub : ((h.2.1 1 4) - (h.2.1 1 3)).toInt = (kE T L s : Int) - (s : Int) := by rw [i32_sub (by rw [hct.2.2.1, hct.2.2.2.1]; omega) (by rw [hct.2.2.1, hct.2.2.2.1]; omega), hct.2.2.1, hct.2.2.2.1]
  unfold nqs
  by_cases h1 : kK T L s = 1
  · by_cases h2 : kE T L s - s ≤ 5
    · rw [decide_eq_true h1, decide_eq_true h2, if_pos (show (true && true) = true from rfl)]
      exact isN_c (E := E) (n := f) (d := d) (m := 5) (by rw [hk1, int1, h1]; rfl) (by rw [hsub, int5]; omega) a1
    · rw [decide_eq_true h1, decide_eq_false h2, if_neg (show ¬ (true && false) = true by decide)]
      exact isN_b (E := E) (n := f + 1) (d := d) (m := 5) (by rw [hk1, int1, h1]; rfl) (by rw [hsub, int5]; omega) a1
  · rw [decide_eq_false h1, Bool.false_and, if_neg (show ¬ false = true by decide)]
    exact isN_a (E := E) (n := f + 8) (d := d) (m := 5) (by rw [hk1, int1]; omega) a1
def tnQ (h0 : zH) (L : Nat) (h : zH) (s : Nat) (r : Option Int) (o : Option zR) : Prop := match r with
  | some v => ∃ h', o = some (.inl (some (.int 1)), h') ∧ XL h0 L h' (nxt (tp2 h0) L s) ∧ SM h h' ∧ (h'.2.1 62 4).toInt = v ∧ (h'.2.1 62 5).toInt = (s : Int) ∧ h'.2.1 62 3 = h.2.1 62 3
  | none => ∃ h', o = some (.inl (some (.int 0)), h') ∧ bRQ ctb wX h0 0 0 h' ∧ (h'.2.1 1 1).toInt = (L : Int) ∧ (h'.2.1 62 2).toInt = (s : Int)
section TN
variable {E : zE} {B F : Nat} {h0 h : zH} {L s : Nat}
set_option maxRecDepth 100000 in
theorem xadv (hE : E.1 < 2147483648) (hsm : bSO E ctb B (60, smT)) (hb9 : ∀ i, 0 ≤ tp2 h0 i ∧ tp2 h0 i ≤ 255) (hF : 1000000 ≤ F) (hL4 : L ≤ 400) (hX : XL h0 L h s) :
    ∀ d f, 60 ≤ d → B + F * 900 ≤ f → ∃ h', zex E f d 181 0 [some (.ref 1), none] [] h = some (.inl none, h') ∧ XL h0 L h' (nxt (tp2 h0) L s) ∧ bRQ ctb wC h 0 0 h' := by
  intro d f hd hf
  obtain ⟨hr, ht, hs, hc⟩ := hX
  have hT := wX_2 hr
  obtain ⟨h', e1, e2, e3⟩ := cadv (h0 := h) (h := h) hE hsm (by rw [hT]; exact hb9) hF hL4 hs (by rw [hT]; exact hc) ⟨hr.1, hr.2.1, hr.2.2.1, fun _ _ _ => rfl, Nat.le_refl _, Nat.le_refl _⟩ (by rw [hT]; exact ht) d f hd hf
  rw [hT] at e3
  exact ⟨h', e1, ⟨bRQ_tr hr (bRQ_CX e2), e3, nxt_le hs, sk_idem⟩, e2⟩
set_option maxRecDepth 100000 in
theorem tnumE (hE : E.1 < 2147483648) (hsm : bSO E ctb B (60, smT)) (hb9 : ∀ i, 0 ≤ tp2 h0 i ∧ tp2 h0 i ≤ 255) (hF : 1000000 ≤ F) (hL4 : L ≤ 400) (hX : XL h0 L h s) {lo hi : Int32} :
    ∀ d f, 61 ≤ d → B + F * 901 ≤ f → tnQ h0 L h s (nmq (tp2 h0) L s lo.toInt hi.toInt) (zex E f d 132 0 [some (.ref 62), some (.ref 1), some (.int lo), some (.int hi)] [] h) := by
  intro d f hd hf
  obtain ⟨hr, ht, hs, hc⟩ := hX
  obtain ⟨d', hd'⟩ : ∃ d', d = d' + 1 := ⟨d - 1, by omega⟩
  obtain ⟨n, hn⟩ : ∃ n, f = n + 100 := ⟨f - 100, by omega⟩
  subst hd' hn
  have a1 := ha_1 hr
  have a62 := ha_62 hr
  have h3 : (h.2.1 1 3).toInt = (s : Int) := ht.2.2.1
  have h5 : (h.2.1 1 5).toInt = kV (tp2 h0) L s := ht.2.2.2.2
  have nQ := isNumE ht hs hc hL4 a1
  have fl : ∀ o, o = some (.inl (some (.int 0)), zsetI h 62 (upd (h.2.1 62) 2 (h.2.1 1 3))) → tnQ h0 L h s none o := fun o e => ⟨_, e, bRQ_62 hr (by omega), by rw [zs_ne (by decide)]; exact ht.1, by rw [zs_at, upd_e]; exact h3⟩
  unfold nmq
  by_cases hq : nqs (tp2 h0) L s 5 = true
  · have nQ : ∀ (E : zE) f d, zex E (f + 14) d 182 0 [some (.ref 1), some (.int 5)] [] h = some (.inl (some (.int 1)), h) := fun E f d => by rw [nQ E f d, if_pos hq]
    by_cases hlo : lo.toInt ≤ kV (tp2 h0) L s
    · by_cases hhi : kV (tp2 h0) L s ≤ hi.toInt
      · rw [if_pos ⟨hq, hlo, hhi⟩]
        have g1 : bRQ ctb wX h0 0 0 (zsetI (zsetI h 62 (upd (h.2.1 62) 4 (h.2.1 1 5))) 62 (upd ((zsetI h 62 (upd (h.2.1 62) 4 (h.2.1 1 5))).2.1 62) 5 ((zsetI h 62 (upd (h.2.1 62) 4 (h.2.1 1 5))).2.1 1 3))) := bRQ_62 (bRQ_62 hr (by omega)) (by omega)
        obtain ⟨h1, e1, e2, e3⟩ := xadv hE hsm hb9 hF hL4 ⟨g1, ct_62 (ct_62 ht), hs, hc⟩ d' (n + 78) (by omega) (by omega)
        refine ⟨h1, tn_d (E := E) (n := n + 76) (d := d') (h1 := h1) (by rw [h5]; exact hlo) (by rw [h5]; exact hhi) a1 a62 (nQ E (n + 83) d') e1, e2, SM_t (SM_t SM_62 SM_62) (SM_C e3), ?_, ?_, ?_⟩
        · rw [e3.2.2.2.1 62 4 (wC62 4 (by decide)), zs_at, upd_n (by decide), zs_at, upd_e]
          exact h5
        · rw [e3.2.2.2.1 62 5 (wC62 5 (by decide)), zs_at, upd_e, zs_ne (by decide)]
          exact h3
        · rw [e3.2.2.2.1 62 3 (wC62 3 (by decide)), zs_at, upd_n (by decide), zs_at, upd_n (by decide)]
      · rw [if_neg fun z => hhi z.2.2]
        exact fl _ (tn_c (E := E) (n := n + 83) (d := d') (by rw [h5]; exact hlo) (by rw [h5]; omega) a1 a62 (nQ E (n + 83) d') (rfs (E := E) (n := n + 79) (d := d') a62))
    · rw [if_neg fun z => hlo z.2.1]
      exact fl _ (tn_b (E := E) (n := n + 87) (d := d') (by rw [h5]; omega) a1 a62 (nQ E (n + 83) d') (rfs (E := E) (n := n + 83) (d := d') a62))
  · have nQ : ∀ (E : zE) f d, zex E (f + 14) d 182 0 [some (.ref 1), some (.int 5)] [] h = some (.inl (some (.int 0)), h) := fun E f d => by rw [nQ E f d, if_neg hq]
    rw [if_neg fun z => hq z.1]
    exact fl _ (tn_a (E := E) (n := n + 91) (d := d') a1 a62 (nQ E (n + 83) d') (rfs (E := E) (n := n + 87) (d := d') a62))
end TN
