/-! the class's reader of THE HOUSE: its lines, exactly (wip/zab2/c/geng6.py) -/
def lnC (h0 : zH) (L : Nat) (r : (hSt × Nat) ⊕ Nat) (o : Option zR) : Prop := match r with
  | .inl (σ, e) => ∃ h', o = some (.inl (some (.int 1)), h') ∧ XL h0 L h' e ∧ RC h' 63 69 σ
  | .inr w => ∃ h', o = some (.inl (some (.int 0)), h') ∧ bRQ ctb wX h0 0 0 h' ∧ (h'.2.1 1 1).toInt = (L : Int) ∧ (h'.2.1 62 2).toInt = (w : Int)
set_option maxRecDepth 100000 in
theorem wrd_wix {T : Nat → Int} {L s : Nat} {ws : List (List Nat)} : wrd T (kK T L s) s (kE T L s) ws = wix T L s ws 0 := by
  have key : ∀ (l : List (List Nat)) (k : Nat), kK T L s = 2 → firstq T s (kE T L s) l k = wix T L s l (k : Int) := by
    intro l
    induction l with
    | nil => intro k _; rfl
    | cons u l ih =>
      intro k h2
      unfold firstq wix wqs
      rw [decide_eq_true h2, Bool.true_and, ih (k + 1) h2]
      rfl
  have key0 : ∀ (l : List (List Nat)) (k : Int), kK T L s ≠ 2 → wix T L s l k = -1 := by
    intro l
    induction l with
    | nil => intro k _; rfl
    | cons u l ih =>
      intro k h2
      unfold wix wqs
      rw [decide_eq_false h2, Bool.false_and, if_neg (by decide), ih (k + 1) h2]
  unfold wrd
  by_cases h2 : kK T L s = 2
  · rw [if_pos h2]; exact key ws 0 h2
  · rw [if_neg h2, key0 ws 0 h2]
set_option maxRecDepth 100000 in
theorem waw_0 : waWords 0 uHouse 0 0 = true := by decide +kernel
set_option maxRecDepth 100000 in
theorem waw_1 : waWords 1 uSorts 0 0 = true := by decide +kernel
set_option maxRecDepth 100000 in
theorem ks64 : bg2 ctb 64 = some (.inl (0, 12, [])) := rfl
set_option maxRecDepth 100000 in
theorem ks65 : bg2 ctb 65 = some (.inl (0, 12, [])) := rfl
set_option maxRecDepth 100000 in
theorem ks66 : bg2 ctb 66 = some (.inl (0, 12, [])) := rfl
set_option maxRecDepth 100000 in
theorem ks67 : bg2 ctb 67 = some (.inl (0, 8, [])) := rfl
set_option maxRecDepth 100000 in
theorem ks68 : bg2 ctb 68 = some (.inl (0, 96, [])) := rfl
set_option maxRecDepth 100000 in
theorem ks70 : bg2 ctb 70 = some (.inl (0, 12, [])) := rfl
set_option maxRecDepth 100000 in
theorem ks72 : bg2 ctb 72 = some (.inl (0, 8, [])) := rfl
set_option maxRecDepth 100000 in
theorem ks73 : bg2 ctb 73 = some (.inl (0, 8, [])) := rfl
set_option maxRecDepth 100000 in
theorem wXa : ∀ c, c < 76 → (64 ≤ c ∧ c ≤ 68) ∨ (70 ≤ c ∧ c ≤ 75) → Nat.testBit wX (bun c 0) = true := by decide +kernel
set_option maxRecDepth 100000 in
theorem wX63 : ∀ k, k < 3 → Nat.testBit wX (bun 63 k) = true := by decide +kernel
set_option maxRecDepth 100000 in
theorem bRQ_a {h0 h : zH} {c j : Nat} {y : Int32} (hr : bRQ ctb wX h0 0 0 h) (hc : (64 ≤ c ∧ c ≤ 68) ∨ (70 ≤ c ∧ c ≤ 75)) (hb : (biv c j).1 ≤ y.toInt ∧ y.toInt ≤ (biv c j).2) : bRQ ctb wX h0 0 0 (zsetI h c (upd (h.2.1 c) j y)) := by
  refine bRQ_set hr (by rw [(bun_a c hc).1 j]; exact wXa c (by omega) hc) hb ?_ ?_ (by omega) (by omega)
  · unfold bnx
    rw [show Nat.blt c 86 = true from abl.mpr (by omega)]
    rfl
  · unfold bhc
    rw [nbq (show c ≠ 15 by omega), nbq (show c ≠ 42 by omega), nbq (show c ≠ 82 by omega)]
    rfl
set_option maxRecDepth 100000 in
theorem bRQ_63 {h0 h : zH} {j : Nat} {y : Int32} (hr : bRQ ctb wX h0 0 0 h) (hj : j < 3) (hb : (biv 63 j).1 ≤ y.toInt ∧ y.toInt ≤ (biv 63 j).2) : bRQ ctb wX h0 0 0 (zsetI h 63 (upd (h.2.1 63) j y)) := bRQ_set hr (wX63 j hj) hb rfl rfl (by decide) (by decide)
set_option maxRecDepth 100000 in
theorem ct_x {h : zH} {T : Nat → Int} {L s c j : Nat} {y : Int32} (ht : CT h T L s) (hc : c ≠ 1) : CT (zsetI h c (upd (h.2.1 c) j y)) T L s := by
  unfold CT
  rw [zs_ne (Ne.symm hc), zs_ne (Ne.symm hc), zs_ne (Ne.symm hc), zs_ne (Ne.symm hc), zs_ne (Ne.symm hc)]
  exact ht
set_option maxRecDepth 100000 in
theorem biv64 (k : Nat) : biv 64 k = (0, 4) := rfl
set_option maxRecDepth 100000 in
theorem biv65 (k : Nat) : biv 65 k = (-2147483648, 2147483647) := rfl
set_option maxRecDepth 100000 in
theorem biv66 (k : Nat) : biv 66 k = (-2147483648, 2147483647) := rfl
set_option maxRecDepth 100000 in
theorem biv67 (k : Nat) : biv 67 k = (0, 12) := rfl
set_option maxRecDepth 100000 in
theorem biv68 (k : Nat) : biv 68 k = (0, 11) := rfl
set_option maxRecDepth 100000 in
theorem biv70 (k : Nat) : biv 70 k = (0, 100) := rfl
set_option maxRecDepth 100000 in
theorem biv72 (k : Nat) : biv 72 k = (0, 100) := rfl
set_option maxRecDepth 100000 in
theorem biv73 (k : Nat) : biv 73 k = (0, 99) := rfl
set_option maxRecDepth 100000 in
theorem biv630 : biv 63 0 = (0, 12) := rfl
set_option maxRecDepth 100000 in
theorem biv631 : biv 63 1 = (0, 20) := rfl
set_option maxRecDepth 100000 in
theorem biv632 : biv 63 2 = (0, 8) := rfl
set_option maxRecDepth 100000 in
theorem nmq_b {T : Nat → Int} {L s : Nat} {lo hi v : Int} (h : nmq T L s lo hi = some v) : lo ≤ v ∧ v ≤ hi := by
  unfold nmq at h
  split at h
  · rename_i g
    have h := Option.some.inj h
    omega
  · cases h
set_option maxRecDepth 100000 in
theorem twoq_b {T : Nat → Int} {L s e : Nat} {h1 h2 a b : Int} (h : twoq T L s h1 h2 = .inl (a, b, e)) : (0 ≤ a ∧ a ≤ h1) ∧ (0 ≤ b ∧ b ≤ h2) ∧ e = nxt T L (nxt T L s) := by
  unfold twoq at h
  cases g1 : nmq T L s 0 h1 with
  | none => rw [g1] at h; cases h
  | some a' =>
    rw [g1] at h
    dsimp only at h
    cases g2 : nmq T L (nxt T L s) 0 h2 with
    | none => rw [g2] at h; cases h
    | some b' =>
      rw [g2] at h
      dsimp only at h
      have h := Sum.inl.inj h
      obtain ⟨e1, h⟩ := Prod.mk.inj h
      obtain ⟨e2, e3⟩ := Prod.mk.inj h
      subst e1 e2 e3
      exact ⟨nmq_b g1, nmq_b g2, rfl⟩
section LC
variable {E : zE} {B F : Nat} {h0 h : zH} {L s : Nat} {σ : hSt}
set_option maxRecDepth 100000 in
theorem xwam (hE : E.1 < 2147483648) (hsm : bSO E ctb B (60, smT)) (hb9 : ∀ i, 0 ≤ tp2 h0 i ∧ tp2 h0 i ≤ 255) (hF : 1000000 ≤ F) (hL4 : L ≤ 400) (hX : XL h0 L h s) {w : Nat} (hw : w < 12) {ws : List (List Nat)} (hws : waWords w ws 0 0 = true) (hn : (ws.map fun u => u.length + 1).sum ≤ 97) :
    ∀ d f, 60 ≤ d → B + F * 100 ≤ f → ∃ (x : Int32) (h' : zH), zex E f d 185 0 [some (.ref 1), some (.retAddr w), none, none, none, none] [] h = some (.inl (some (.int x)), h') ∧ x.toInt = wix (tp2 h0) L s ws 0 ∧ XL h0 L h' s ∧ bRQ ctb wC h 0 0 h' := by
  intro d f hd hf
  obtain ⟨hr, ht, hs, hc⟩ := hX
  have hT := wX_2 hr
  have hk := kE_b hs hc
  obtain ⟨x, h1, e1, e2, e3⟩ := wordAmong hE hsm hF hr.1 hr.2.1 hr.2.2.1 (e := kE (tp2 h0) L s) (s := s) (K := kK (tp2 h0) L s) (by omega) hk.1 ht.2.1 (kK_b _ _ _) ht.2.2.1 ht.2.2.2.1 (by rw [hT]; exact hb9) hw hws hn d f hd hf
  rw [hT, wrd_wix] at e2
  have hr2 : bRQ ctb wC h 0 0 h := ⟨hr.1, hr.2.1, hr.2.2.1, fun _ _ _ => rfl, Nat.le_refl _, Nat.le_refl _⟩
  obtain ⟨k1, k2⟩ := ct_w0 hr2 (by rw [hT]; exact ht) e3
  rw [hT] at k2
  exact ⟨x, h1, e1, e2, ⟨bRQ_tr hr (bRQ_CX k1), k2, hs, hc⟩, k1⟩
set_option maxRecDepth 100000 in
theorem xref (hX : XL h0 L h s) {at9 : Int32} {w : Nat} (ha : at9.toInt = (w : Int)) : ∀ (E : zE) f d, zex E (f + 5) d 130 0 [some (.ref 62), some (.int at9)] [] h = some (.inl (some (.int 0)), zsetI h 62 (upd (h.2.1 62) 2 at9)) ∧ bRQ ctb wX h0 0 0 (zsetI h 62 (upd (h.2.1 62) 2 at9)) ∧ ((zsetI h 62 (upd (h.2.1 62) 2 at9)).2.1 1 1).toInt = (L : Int) ∧ ((zsetI h 62 (upd (h.2.1 62) 2 at9)).2.1 62 2).toInt = (w : Int) := fun E f d =>
  ⟨rfs (E := E) (n := f) (d := d) (ha_62 hX.1), bRQ_62 hX.1 (by omega), by rw [zs_ne (by decide)]; exact hX.2.1.1, by rw [zs_at, upd_e]; exact ha⟩
set_option maxRecDepth 100000 in
theorem roomE (hE : E.1 < 2147483648) (hsm : bSO E ctb B (60, smT)) (hb9 : ∀ i, 0 ≤ tp2 h0 i ∧ tp2 h0 i ≤ 255) (hF : 1000000 ≤ F) (hL4 : L ≤ 400) (hX : XL h0 L h s) (hR : RC h 63 69 σ) (hW : WF σ) {u2 : Option Value} :
    ∀ d f, 62 ≤ d → B + F * 903 ≤ f → lnC h0 L (roomq (tp2 h0) L σ s) (zex E f d 135 0 [some (.ref 62), some (.ref 1), u2] [] h) := by
  intro d f hd hf
  obtain ⟨d', hd'⟩ : ∃ d', d = d' + 1 := ⟨d - 1, by omega⟩
  obtain ⟨n, hn⟩ : ∃ n, f = n + 100 := ⟨f - 100, by omega⟩
  subst hd' hn
  have a1 := ha_1 hX.1
  have a62 := ha_62 hX.1
  have a63 := ha_63 hX.1
  have hr0 := hR.1.1
  unfold roomq
  by_cases h12 : 12 ≤ sR σ
  · rw [if_pos h12]
    obtain ⟨e1, e2⟩ := xref hX hX.2.1.2.2.1 E (n + 86) d'
    exact ⟨_, rl_a (n := n + 90) (d := d') (by rw [hr0, int12]; omega) a1 a62 a63 e1, e2⟩
  · rw [if_neg h12]
    have hlt : (h.2.1 63 0).toInt < (12 : Int32).toInt := by rw [hr0, int12]; omega
    obtain ⟨h1, e1, x1, c1⟩ := xadv hE hsm hb9 hF hL4 hX d' (n + 93) (by omega) (by omega)
    obtain ⟨x, h2, e2, ex, x2, c2⟩ := xwam hE hsm hb9 hF hL4 x1 (w := 1) (by decide) waw_1 (by decide) d' (n + 90) (by omega) (by omega)
    have hany : uSorts.any (wqs (tp2 h0) L (nxt (tp2 h0) L s)) = true ↔ x.toInt ≠ -1 := by
      rw [ex, ← wrd_wix]
      have b := (wrd_b (T := tp2 h0) (L := L) (s := nxt (tp2 h0) L s) (ws := uSorts)).1
      cases hz : uSorts.any (wqs (tp2 h0) L (nxt (tp2 h0) L s)) with
      | true => exact ⟨fun _ z => (by have := b.mp z; rw [hz] at this; cases this), fun _ => rfl⟩
      | false => exact ⟨fun z => (by cases z), fun z => absurd (b.mpr hz) z⟩
    by_cases hs9 : uSorts.any (wqs (tp2 h0) L (nxt (tp2 h0) L s)) = true
    · rw [if_pos hs9]
      have hx := hany.mp hs9
      have hxn : x.toInt ≠ (-1 : Int32).toInt := by rw [show (-1 : Int32).toInt = -1 by decide]; exact hx
      have hxb : 0 ≤ x.toInt ∧ x.toInt < 5 := by
        rw [ex, ← wrd_wix] at hx ⊢
        exact ((wrd_b (T := tp2 h0) (L := L) (s := nxt (tp2 h0) L s) (ws := uSorts)).2 hx).2
      obtain ⟨h3, e3, x3, c3⟩ := xadv hE hsm hb9 hF hL4 x2 d' (n + 84) (by omega) (by omega)
      have key := tnumE hE hsm hb9 hF hL4 x3 (lo := 1) (hi := 99) d' (n + 79) (by omega) (by omega)
      rw [int1, show (99 : Int32).toInt = 99 by decide] at key
      have hS3 : SM h h3 := SM_t (SM_C c1) (SM_t (SM_C c2) (SM_C c3))
      cases hq : nmq (tp2 h0) L (nxt (tp2 h0) L (nxt (tp2 h0) L s)) 1 99 with
      | none =>
        rw [hq] at key
        obtain ⟨h4, e4, k4⟩ := key
        exact ⟨h4, rl_c (n := n + 76) (d := d') hlt hxn (ha_1 hX.1) (ha_62 hX.1) (ha_63 hX.1) (ha_1 x1.1) (ha_1 x2.1) (ha_62 x3.1) e1 e2 e3 e4, k4⟩
      | some v =>
        rw [hq] at key
        obtain ⟨h4, e4, x4, s4, k4, k5, k6⟩ := key
        have hR4 := RC_S hR (SM_t hS3 s4)
        obtain ⟨⟨q1, q2, q3⟩, q4, q5, q6, q7, q8, q9, q10⟩ := hR4
        have g1 := bRQ_a (c := 64) (j := sR σ) (y := x) x4.1 (by omega) (by rw [biv64]; exact ⟨hxb.1, by show x.toInt ≤ (4 : Int); omega⟩)
        have g2 := bRQ_a (c := 65) (j := sR σ) (y := (zsetI h4 64 (upd (h4.2.1 64) (sR σ) x)).2.1 62 4) g1 (by omega) (by rw [biv65]; exact bi32 _)
        have hr4 : ((zsetI (zsetI h4 64 (upd (h4.2.1 64) (sR σ) x)) 65 (upd ((zsetI h4 64 (upd (h4.2.1 64) (sR σ) x)).2.1 65) (sR σ) ((zsetI h4 64 (upd (h4.2.1 64) (sR σ) x)).2.1 62 4))).2.1 63 0).toInt = (sR σ : Int) := by rw [zs_ne (by decide), zs_ne (by decide)]; exact q1
        have hr5 : ((zsetI (zsetI h4 64 (upd (h4.2.1 64) (sR σ) x)) 65 (upd ((zsetI h4 64 (upd (h4.2.1 64) (sR σ) x)).2.1 65) (sR σ) ((zsetI h4 64 (upd (h4.2.1 64) (sR σ) x)).2.1 62 4))).2.1 63 0 + 1).toInt = ((sR σ + 1 : Nat) : Int) := by rw [i32_add (by rw [hr4, int1]; omega) (by rw [hr4, int1]; omega), hr4, int1]; omega
        have g3 := bRQ_63 (j := 0) g2 (by decide) (by rw [hr5, biv630]; exact ⟨by show (0 : Int) ≤ _; omega, by show _ ≤ (12 : Int); omega⟩)
        refine ⟨_, (rl_d (n := n + 78) (d := d') hlt hxn (ha_1 hX.1) (ha_62 hX.1) (ha_63 hX.1) (ha_1 x1.1) (ha_1 x2.1) (ha_62 x3.1) e1 e2 e3 e4).trans (rl_e (n := n + 52) (d := d' + 1) (R := sR σ) q1 (by omega) (ha_62 x4.1) (ha_63 x4.1) (x4.1.2.2.1 64 _ ks64 (by intro z; cases z)) (x4.1.2.2.1 65 _ ks65 (by intro z; cases z))), ⟨g3, ct_x (ct_x (ct_x x4.2.1 (by decide)) (by decide)) (by decide), x4.2.2⟩, ⟨?_, ?_, ?_⟩, ?_, ?_, ?_, ?_, ?_, ?_, ?_⟩
        · rw [zs_at, upd_e]; exact hr5
        · rw [zs_at, upd_n (by decide), zs_ne (by decide), zs_ne (by decide)]; exact q2
        · rw [zs_at, upd_n (by decide), zs_ne (by decide), zs_ne (by decide)]; exact q3
        · intro a ha
          rw [zs_ne (by decide), zs_ne (by decide), zs_ne (by decide)]; exact q4 a ha
        · intro q hq; rw [zs_ne (by decide), zs_ne (by decide), zs_ne (by decide)]; exact q5 q hq
        · intro q hq k hk; rw [zs_ne (by decide), zs_ne (by decide), zs_ne (by decide)]; exact q6 q hq k hk
        · intro q hq; rw [zs_ne (by decide), zs_ne (by decide), zs_ne (by decide)]; exact q7 q hq
        · intro q hq; rw [zs_ne (by decide), zs_ne (by decide), zs_ne (by decide)]; exact q8 q hq
        · intro q hq; rw [zs_ne (by decide), zs_ne (by decide), zs_ne (by decide)]; exact q9 q hq
        · intro q hq; rw [zs_ne (by decide), zs_ne (by decide), zs_ne (by decide)]; exact q10 q hq
    · rw [if_neg hs9]
      have hx : x.toInt = -1 := by
        by_cases z : x.toInt = -1
        · exact z
        · exact absurd (hany.mpr z) hs9
      obtain ⟨e3, k3⟩ := xref x2 x2.2.1.2.2.1 E (n + 77) d'
      exact ⟨_, rl_b (n := n + 81) (d := d') hlt (by rw [hx]; decide) (ha_1 hX.1) (ha_62 hX.1) (ha_63 hX.1) (ha_1 x1.1) (ha_1 x2.1) (ha_62 x2.1) e1 e2 e3, k3⟩
set_option maxRecDepth 100000 in
theorem toolE (hE : E.1 < 2147483648) (hsm : bSO E ctb B (60, smT)) (hb9 : ∀ i, 0 ≤ tp2 h0 i ∧ tp2 h0 i ≤ 255) (hF : 1000000 ≤ F) (hL4 : L ≤ 400) (hX : XL h0 L h s) (hR : RC h 63 69 σ) (hW : WF σ) :
    ∀ d f, 63 ≤ d → B + F * 903 ≤ f → lnC h0 L (toolq (tp2 h0) L σ s) (zex E f d 140 0 [some (.ref 62), some (.ref 1)] [] h) := by
  intro d f hd hf
  obtain ⟨d', hd'⟩ : ∃ d', d = d' + 1 := ⟨d - 1, by omega⟩
  obtain ⟨n, hn⟩ : ∃ n, f = n + 100 := ⟨f - 100, by omega⟩
  subst hd' hn
  obtain ⟨w1, w2, w3, w4, w5, w6⟩ := hW
  obtain ⟨h1, e1, x1, c1⟩ := xadv hE hsm hb9 hF hL4 hX d' (n + 98) (by omega) (by omega)
  have hR1 := RC_S hR (SM_C c1)
  have hcn : (h1.2.1 63 0).toInt = (sR σ : Int) := hR1.1.1
  have key := twoE hE hsm hb9 hF hL4 x1 (cn := h1.2.1 63 0) (cm := 100) (by rw [hcn]; omega) d' (n + 91) (by omega) (by omega)
  rw [hcn, show (100 : Int32).toInt = 100 by decide] at key
  unfold toolq
  cases hq : twoq (tp2 h0) L (nxt (tp2 h0) L s) ((sR σ : Int) - 1) 100 with
  | inr w =>
    rw [hq] at key
    obtain ⟨h2, e2, k2⟩ := key
    exact ⟨h2, ol_0 (n := n + 88) (d := d') (ha_1 hX.1) (ha_62 x1.1) (ha_63 x1.1) e1 e2, k2⟩
  | inl q9 =>
    obtain ⟨a, b, e⟩ := q9
    rw [hq] at key
    obtain ⟨h2, e2, x2, s2, k2, k3, k4⟩ := key
    obtain ⟨⟨b1, b2⟩, ⟨b3, b4⟩, -⟩ := twoq_b hq
    have hR2 := RC_S hR1 s2
    obtain ⟨⟨q1, q2, q3⟩, q4, q5, q6, q7, q8, q9, q10⟩ := hR2
    have ha : (h2.2.1 62 3).toInt = (a.toNat : Int) := by rw [k2]; omega
    have g1 := bRQ_a (c := 70) (j := a.toNat) (y := h2.2.1 62 4) x2.1 (by omega) (by rw [biv70, k3]; exact ⟨b3, b4⟩)
    refine ⟨_, (ol_1 (n := n + 90) (d := d') (ha_1 hX.1) (ha_62 x1.1) (ha_63 x1.1) e1 e2).trans (ol_2 (n := n + 80) (d := d' + 1) (A := a.toNat) ha (by omega) (ha_62 x2.1) (ha_69 x2.1) (x2.1.2.2.1 70 _ ks70 (by intro z; cases z))), ⟨g1, ct_x x2.2.1 (by decide), x2.2.2⟩, ⟨?_, ?_, ?_⟩, ?_, ?_, ?_, ?_, ?_, ?_, ?_⟩
    · rw [zs_ne (by decide)]; exact q1
    · rw [zs_ne (by decide)]; exact q2
    · rw [zs_ne (by decide)]; exact q3
    · intro q hq; rw [zs_ne (by decide)]; exact q4 q hq
    · intro q hq; rw [zs_ne (by decide)]; exact q5 q hq
    · intro q hq k hk; rw [zs_ne (by decide)]; exact q6 q hq k hk
    · intro q hq
      show ((zsetI h2 70 (upd (h2.2.1 70) a.toNat (h2.2.1 62 4))).2.1 70 q).toInt = upf (spt σ) a b q
      unfold upf
      rw [zs_at]
      by_cases hqa : q = a.toNat
      · rw [if_pos hqa, hqa, upd_e]; exact k3
      · rw [if_neg hqa, upd_n hqa]; exact q7 q hq
    · intro q hq; rw [zs_ne (by decide)]; exact q8 q hq
    · intro q hq; rw [zs_ne (by decide)]; exact q9 q hq
    · intro q hq; rw [zs_ne (by decide)]; exact q10 q hq
set_option maxRecDepth 100000 in
theorem keepE (hE : E.1 < 2147483648) (hsm : bSO E ctb B (60, smT)) (hb9 : ∀ i, 0 ≤ tp2 h0 i ∧ tp2 h0 i ≤ 255) (hF : 1000000 ≤ F) (hL4 : L ≤ 400) (hX : XL h0 L h s) (hR : RC h 63 69 σ) (hW : WF σ) :
    ∀ d f, 63 ≤ d → B + F * 903 ≤ f → lnC h0 L (keepq (tp2 h0) L σ s) (zex E f d 141 0 [some (.ref 62), some (.ref 1)] [] h) := by
  intro d f hd hf
  obtain ⟨d', hd'⟩ : ∃ d', d = d' + 1 := ⟨d - 1, by omega⟩
  obtain ⟨n, hn⟩ : ∃ n, f = n + 100 := ⟨f - 100, by omega⟩
  subst hd' hn
  obtain ⟨w1, w2, w3, w4, w5, w6⟩ := hW
  obtain ⟨h1, e1, x1, c1⟩ := xadv hE hsm hb9 hF hL4 hX d' (n + 98) (by omega) (by omega)
  have hR1 := RC_S hR (SM_C c1)
  have hcn : (h1.2.1 63 2).toInt = (sP σ : Int) := hR1.1.2.2
  have key := twoE hE hsm hb9 hF hL4 x1 (cn := h1.2.1 63 2) (cm := 100) (by rw [hcn]; omega) d' (n + 91) (by omega) (by omega)
  rw [hcn, show (100 : Int32).toInt = 100 by decide] at key
  unfold keepq
  cases hq : twoq (tp2 h0) L (nxt (tp2 h0) L s) ((sP σ : Int) - 1) 100 with
  | inr w =>
    rw [hq] at key
    obtain ⟨h2, e2, k2⟩ := key
    exact ⟨h2, kl_0 (n := n + 88) (d := d') (ha_1 hX.1) (ha_62 x1.1) (ha_63 x1.1) e1 e2, k2⟩
  | inl q9 =>
    obtain ⟨a, b, e⟩ := q9
    rw [hq] at key
    obtain ⟨h2, e2, x2, s2, k2, k3, k4⟩ := key
    obtain ⟨⟨b1, b2⟩, ⟨b3, b4⟩, -⟩ := twoq_b hq
    have hR2 := RC_S hR1 s2
    obtain ⟨⟨q1, q2, q3⟩, q4, q5, q6, q7, q8, q9, q10⟩ := hR2
    have ha : (h2.2.1 62 3).toInt = (a.toNat : Int) := by rw [k2]; omega
    have g1 := bRQ_a (c := 72) (j := a.toNat) (y := h2.2.1 62 4) x2.1 (by omega) (by rw [biv72, k3]; exact ⟨b3, b4⟩)
    refine ⟨_, (kl_1 (n := n + 90) (d := d') (ha_1 hX.1) (ha_62 x1.1) (ha_63 x1.1) e1 e2).trans (kl_2 (n := n + 80) (d := d' + 1) (A := a.toNat) ha (by omega) (ha_62 x2.1) (ha_69 x2.1) (x2.1.2.2.1 72 _ ks72 (by intro z; cases z))), ⟨g1, ct_x x2.2.1 (by decide), x2.2.2⟩, ⟨?_, ?_, ?_⟩, ?_, ?_, ?_, ?_, ?_, ?_, ?_⟩
    · rw [zs_ne (by decide)]; exact q1
    · rw [zs_ne (by decide)]; exact q2
    · rw [zs_ne (by decide)]; exact q3
    · intro q hq; rw [zs_ne (by decide)]; exact q4 q hq
    · intro q hq; rw [zs_ne (by decide)]; exact q5 q hq
    · intro q hq k hk; rw [zs_ne (by decide)]; exact q6 q hq k hk
    · intro q hq; rw [zs_ne (by decide)]; exact q7 q hq
    · intro q hq; rw [zs_ne (by decide)]; exact q8 q hq
    · intro q hq
      show ((zsetI h2 72 (upd (h2.2.1 72) a.toNat (h2.2.1 62 4))).2.1 72 q).toInt = upf (skp σ) a b q
      unfold upf
      rw [zs_at]
      by_cases hqa : q = a.toNat
      · rw [if_pos hqa, hqa, upd_e]; exact k3
      · rw [if_neg hqa, upd_n hqa]; exact q9 q hq
    · intro q hq; rw [zs_ne (by decide)]; exact q10 q hq
set_option maxRecDepth 100000 in
theorem wetE (hE : E.1 < 2147483648) (hsm : bSO E ctb B (60, smT)) (hb9 : ∀ i, 0 ≤ tp2 h0 i ∧ tp2 h0 i ≤ 255) (hF : 1000000 ≤ F) (hL4 : L ≤ 400) (hX : XL h0 L h s) (hR : RC h 63 69 σ) (hW : WF σ) :
    ∀ d f, 63 ≤ d → B + F * 903 ≤ f → lnC h0 L (wetq (tp2 h0) L σ s) (zex E f d 142 0 [some (.ref 62), some (.ref 1)] [] h) := by
  intro d f hd hf
  obtain ⟨d', hd'⟩ : ∃ d', d = d' + 1 := ⟨d - 1, by omega⟩
  obtain ⟨n, hn⟩ : ∃ n, f = n + 100 := ⟨f - 100, by omega⟩
  subst hd' hn
  obtain ⟨w1, w2, w3, w4, w5, w6⟩ := hW
  obtain ⟨h1, e1, x1, c1⟩ := xadv hE hsm hb9 hF hL4 hX d' (n + 98) (by omega) (by omega)
  have hR1 := RC_S hR (SM_C c1)
  have hcn : (h1.2.1 63 2).toInt = (sP σ : Int) := hR1.1.2.2
  have key := twoE hE hsm hb9 hF hL4 x1 (cn := h1.2.1 63 2) (cm := 99) (by rw [hcn]; omega) d' (n + 91) (by omega) (by omega)
  rw [hcn, show (99 : Int32).toInt = 99 by decide] at key
  unfold wetq
  cases hq : twoq (tp2 h0) L (nxt (tp2 h0) L s) ((sP σ : Int) - 1) 99 with
  | inr w =>
    rw [hq] at key
    obtain ⟨h2, e2, k2⟩ := key
    exact ⟨h2, wl_0 (n := n + 88) (d := d') (ha_1 hX.1) (ha_62 x1.1) (ha_63 x1.1) e1 e2, k2⟩
  | inl q9 =>
    obtain ⟨a, b, e⟩ := q9
    rw [hq] at key
    obtain ⟨h2, e2, x2, s2, k2, k3, k4⟩ := key
    obtain ⟨⟨b1, b2⟩, ⟨b3, b4⟩, -⟩ := twoq_b hq
    have hR2 := RC_S hR1 s2
    obtain ⟨⟨q1, q2, q3⟩, q4, q5, q6, q7, q8, q9, q10⟩ := hR2
    have ha : (h2.2.1 62 3).toInt = (a.toNat : Int) := by rw [k2]; omega
    have g1 := bRQ_a (c := 73) (j := a.toNat) (y := h2.2.1 62 4) x2.1 (by omega) (by rw [biv73, k3]; exact ⟨b3, b4⟩)
    refine ⟨_, (wl_1 (n := n + 90) (d := d') (ha_1 hX.1) (ha_62 x1.1) (ha_63 x1.1) e1 e2).trans (wl_2 (n := n + 80) (d := d' + 1) (A := a.toNat) ha (by omega) (ha_62 x2.1) (ha_69 x2.1) (x2.1.2.2.1 73 _ ks73 (by intro z; cases z))), ⟨g1, ct_x x2.2.1 (by decide), x2.2.2⟩, ⟨?_, ?_, ?_⟩, ?_, ?_, ?_, ?_, ?_, ?_, ?_⟩
    · rw [zs_ne (by decide)]; exact q1
    · rw [zs_ne (by decide)]; exact q2
    · rw [zs_ne (by decide)]; exact q3
    · intro q hq; rw [zs_ne (by decide)]; exact q4 q hq
    · intro q hq; rw [zs_ne (by decide)]; exact q5 q hq
    · intro q hq k hk; rw [zs_ne (by decide)]; exact q6 q hq k hk
    · intro q hq; rw [zs_ne (by decide)]; exact q7 q hq
    · intro q hq; rw [zs_ne (by decide)]; exact q8 q hq
    · intro q hq; rw [zs_ne (by decide)]; exact q9 q hq
    · intro q hq
      show ((zsetI h2 73 (upd (h2.2.1 73) a.toNat (h2.2.1 62 4))).2.1 73 q).toInt = upf (swt σ) a b q
      unfold upf
      rw [zs_at]
      by_cases hqa : q = a.toNat
      · rw [if_pos hqa, hqa, upd_e]; exact k3
      · rw [if_neg hqa, upd_n hqa]; exact q10 q hq
set_option maxRecDepth 100000 in
theorem clogE (hE : E.1 < 2147483648) (hsm : bSO E ctb B (60, smT)) (hb9 : ∀ i, 0 ≤ tp2 h0 i ∧ tp2 h0 i ≤ 255) (hF : 1000000 ≤ F) (hL4 : L ≤ 400) (hX : XL h0 L h s) (hR : RC h 63 69 σ) :
    ∀ d f, 62 ≤ d → B + F * 903 ≤ f → lnC h0 L (clogq (tp2 h0) L σ s) (zex E f d 143 0 [some (.ref 62), some (.ref 1)] [] h) := by
  intro d f hd hf
  obtain ⟨d', hd'⟩ : ∃ d', d = d' + 1 := ⟨d - 1, by omega⟩
  obtain ⟨n, hn⟩ : ∃ n, f = n + 100 := ⟨f - 100, by omega⟩
  subst hd' hn
  obtain ⟨h1, e1, x1, c1⟩ := xadv hE hsm hb9 hF hL4 hX d' (n + 98) (by omega) (by omega)
  have key := tnumE hE hsm hb9 hF hL4 x1 (lo := 0) (hi := 99999) d' (n + 93) (by omega) (by omega)
  rw [zi0, show (99999 : Int32).toInt = 99999 by decide] at key
  unfold clogq
  cases hq : nmq (tp2 h0) L (nxt (tp2 h0) L s) 0 99999 with
  | none =>
    rw [hq] at key
    obtain ⟨h2, e2, k2⟩ := key
    exact ⟨h2, (cl9_0 (n := n + 93) (d := d') (ha_1 hX.1) (ha_62 x1.1) e1 e2).trans (cl9_1 (n := n + 90) (d := d' + 1)), k2⟩
  | some v =>
    rw [hq] at key
    obtain ⟨h2, e2, x2, s2, k2⟩ := key
    have hR2 := RC_S hR (SM_t (SM_C c1) s2)
    obtain ⟨⟨q1, q2, q3⟩, q4, q5, q6, q7, q8, q9, q10⟩ := hR2
    have g1 : bRQ ctb wX h0 0 0 (zsetI h2 69 (upd (h2.2.1 69) 9 (h2.2.1 62 4))) := bRQ_set x2.1 (by decide +kernel) (by rw [show biv 69 9 = (-2147483648, 2147483647) from rfl]; exact bi32 _) rfl rfl (by decide) (by decide)
    refine ⟨_, (cl9_0 (n := n + 93) (d := d') (ha_1 hX.1) (ha_62 x1.1) e1 e2).trans (cl9_2 (n := n + 85) (d := d' + 1) (ha_62 x2.1) (ha_69 x2.1)), ⟨g1, ct_x x2.2.1 (by decide), x2.2.2⟩, ⟨?_, ?_, ?_⟩, ?_, ?_, ?_, ?_, ?_, ?_, ?_⟩
    · rw [zs_ne (by decide)]; exact q1
    · rw [zs_ne (by decide)]; exact q2
    · rw [zs_ne (by decide)]; exact q3
    · intro q hq; rw [zs_ne (by decide)]; exact q4 q hq
    · intro q hq; rw [zs_ne (by decide)]; exact q5 q hq
    · intro q hq k hk; rw [zs_ne (by decide)]; exact q6 q hq k hk
    · intro q hq; rw [zs_ne (by decide)]; exact q7 q hq
    · intro q hq; rw [zs_ne (by decide)]; exact q8 q hq
    · intro q hq; rw [zs_ne (by decide)]; exact q9 q hq
    · intro q hq; rw [zs_ne (by decide)]; exact q10 q hq
end LC
