/-! the law's loop, whole -/
def tLK : Nat := 20000000000000000
set_option maxRecDepth 100000 in
theorem lt94 {h : zH} (a : zat h.1 94 = some (.inl (2, 1, []))) : 94 < h.1.length := by
  by_cases hl : 94 < h.1.length
  · exact hl
  · rw [zat_no (by omega)] at a
    cases a
section LW
variable {E : zE} {B : Nat} {h : zH} {L im : Nat}
set_option maxRecDepth 100000 in
theorem t5_lawstep (hE : E.1 ≤ 3072) (hsm : bSO E ctb B (60, smT)) (hI : LI h L im) {iv : Int32} {u5 u6 : Option Value} : ∀ d f, 100 ≤ d → B + tLK ≤ f → ∃ (h2 : zH) (v5 v6 : Option Value) (f9 : Nat), f ≤ f9 ∧ zex E (f + 23) d 0 362 (t5K iv u5 u6) [] h = zex E f9 d 0 23 (t5K (iv + 6) v5 v6) [] h2 ∧ LI h2 0 im ∧ h2.2.2.2.1 ≤ h.2.2.2.1 + 1 ∧ h2.2.2.2.2 ≤ h.2.2.2.2 + 6 := by
  intro d f hd hf
  unfold tLK at hf
  obtain ⟨gI, gP, gT, ⟨p1, p2, p3, p4⟩, p5, p6, p7, p8⟩ := hI
  obtain ⟨tR, u8⟩ := sg8_R (L := L) p7 p8
  obtain ⟨d', hd'⟩ : ∃ d', d = d' + 1 := ⟨d - 1, by omega⟩
  subst hd'
  obtain ⟨k, h1, e1, r1, x1, x2⟩ := slawW (F := 1000000) (G := 2000000000) (H := 815000000000) (show E.1 < 2147483648 by omega) hsm p7 (Nat.le_refl _) (by omega) (by omega) p5 gI gP gT p1 (u2 := none) d' (f + 20) (by omega) (by omega)
  have hT9 : tp90 h1 = tp90 h := tp90_e fun i => r1.2.2.2.1 90 i wD90
  have hT2 : tp2 h1 = tp2 h := tp2_e fun i => r1.2.2.2.1 2 i wD2
  obtain ⟨y, h2, e2, r2, y1, y2⟩ := mlawE (h0 := h1) (L := L) (F := 1000000) (G := 2000000000) (H := 815000000000) (show E.1 < 2147483648 by omega) (by omega) hsm (by rw [hT9]; exact u8) (Nat.le_refl _) (by omega) (by omega) p5 r1.1 r1.2.1 r1.2.2.1 (by rw [r1.2.2.2.1 84 9 wD849]; exact p2) d' (f + 17) (by omega) (by omega)
  rw [hT9, lawq_q tR] at y2
  have hU9 : tp90 h2 = tp90 h := (tp90_e fun i => r2.2.2.2.1 90 i wL90).trans hT9
  have hU2 : tp2 h2 = tp2 h := (tp2_e fun i => r2.2.2.2.1 2 i wL2).trans hT2
  have hLI : LI h2 0 im := ⟨r2.1, r2.2.1, r2.2.2.1, ⟨by rw [r2.2.2.2.1 1 1 wL11]; exact x1, y1, by rw [r2.2.2.2.1 30 4 wL304, r1.2.2.2.1 30 4 wD304]; exact p3, by rw [r2.2.2.2.1 84 6 wL846, r1.2.2.2.1 84 6 wD846]; exact p4⟩, Nat.zero_le _, p6, by rw [hU2]; exact p7, by rw [hU2, hU9]; exact p8⟩
  have c1 := r1.2.2.2.2
  have c2 := r2.2.2.2.2
  have a84 := r1.2.2.1 84 _ cs84 (by intro z; cases z)
  have b84 := r2.2.2.1 84 _ cs84 (by intro z; cases z)
  have a94 := r1.2.2.1 94 _ ks94 (by intro z; cases z)
  have b94 := r2.2.2.1 94 _ ks94 (by intro z; cases z)
  have lg := (zex_lg E (f + 17) _ _ _ _ _ _ _ _ (by decide) e2).2 94 (lt94 a94)
  cases hl : lawq (tp2 h) L with
  | inl m =>
    rw [hl] at x2 y2
    obtain ⟨x2, x3, x4⟩ := x2
    obtain ⟨y2, y3, y4⟩ := y2
    subst x2
    have hv : (lg_cmp (h2.2.2.1 94 0) y.toInt64).toInt = 0 := by
      have h1v : (h2.2.2.1 94 0).toInt = (m : Int) := by rw [lg]; exact x3
      have h2v : (y.toInt64).toInt = (m : Int) := by rw [Int32.toInt_toInt64]; exact y2
      rw [(blg (h2.2.2.1 94 0) y.toInt64).2.1 (by omega) (by omega)]
      decide
    exact ⟨h2, _, _, f, Nat.le_refl f, tl_362a (E := E) (n := f) (d := d') (h := h) (h1 := h1) (h2 := h2) (i := iv) (y := y) (t := h2.2.1 84 0) (u5 := u5) (u6 := u6) (v := h2.2.2.1 94 0) (by rw [y3, zi0]) rfl hv a84 b84 b94 e1 e2 (mth_0 (n := f + 11) b84), hLI, by omega, by omega⟩
  | inr w =>
    rw [hl] at x2 y2
    obtain ⟨x2, x3⟩ := x2
    obtain ⟨y3, y4⟩ := y2
    subst x2
    exact ⟨h2, _, _, f + 7, Nat.le_add_right f 7, tl_362b (E := E) (n := f + 7) (d := d') (h := h) (h1 := h1) (h2 := h2) (i := iv) (y := y) (t := h2.2.1 84 0) (u5 := u5) (u6 := u6) (by rw [y3]; decide) a84 b84 e1 e2 (mth_0 (n := f + 11) b84), hLI, by omega, by omega⟩
def t5Q (C S : Nat) (o : Option zR) : Prop := ∃ h', o = some (.inl (some (.int 1)), h') ∧ h'.2.2.2.1 ≤ C ∧ h'.2.2.2.2 ≤ S
set_option maxRecDepth 100000 in
theorem t5_head (hE : E.1 ≤ 3072) (hsm : bSO E ctb B (60, smT)) {C S i : Nat} {iv : Int32} {u5 u6 : Option Value} (hi : i ≤ 3072) (hiv : iv.toInt = (i : Int)) (hI : LI h L im) (hC : h.2.2.2.1 + 24 ≤ C) (hS : h.2.2.2.2 + 2400 ≤ S) {Bq : Nat} (hB : B ≤ Bq)
    (kN : ∀ (h' : zH) (L' im' : Nat) (jv : Int32) (v5 v6 : Option Value), i + 6 ≤ E.1 → jv.toInt = (i : Int) + 6 → LI h' L' im' → h'.2.2.2.1 ≤ h.2.2.2.1 + 24 → h'.2.2.2.2 ≤ h.2.2.2.2 + 2400 → ∀ d f, 100 ≤ d → Bq ≤ f → t5Q C S (zex E f d 0 23 (t5K jv v5 v6) [] h'))
    (kF : ∀ (h' : zH) (jv : Int32) (v5 v6 : Option Value), i + 6 ≤ E.1 → jv.toInt = (i : Int) → LI h' L im → h'.2.2.2.1 ≤ h.2.2.2.1 → h'.2.2.2.2 ≤ h.2.2.2.2 → ∀ d f, 100 ≤ d → Bq ≤ f → t5Q C S (zex E f d 0 248 (t5K jv v5 v6) [] h'))
    (kL : ∀ (h' : zH) (jv : Int32) (v5 v6 : Option Value), i + 6 ≤ E.1 → jv.toInt = (i : Int) → LI h' L im → h'.2.2.2.1 ≤ h.2.2.2.1 → h'.2.2.2.2 ≤ h.2.2.2.2 → ∀ d f, 100 ≤ d → Bq ≤ f → t5Q C S (zex E f d 0 362 (t5K jv v5 v6) [] h')) :
    ∀ d f, 100 ≤ d → Bq + 1000000 ≤ f → t5Q C S (zex E f d 0 23 (t5K iv u5 u6) [] h) := by
  intro d f hd hf
  obtain ⟨gI, gP, gT, ⟨p1, p2, p3, p4⟩, p5, p6, p7, p8⟩ := hI
  have hg : bGd E ctb w5W h [(E.1 : Int), (i : Int), (L : Int), (im : Int)] B (t5Q C S) 100 0 1000000 [t5N, t5F, t5L] t5S := zst_s (V0 := [(E.1 : Int), (i : Int), (L : Int), (im : Int)]) hsm ⟨by omega, fun N hN => by cases hN; exact brel_v rfl⟩ (fin_n (V := [(E.1 : Int), (i : Int), (L : Int), (im : Int)]) (ca := 24) (sa := 2400) rfl (fun u h' k1 k2 k3 => by
    cases u with
    | none => exact k2.elim
    | some u =>
      obtain ⟨x, x1, x2⟩ := k2
      have x3 : x.toInt = 1 := brel_k x2
      have x4 : x = 1 := zieq (x3.trans int1.symm)
      have c1 := k1.2.2.2.2.1
      have c2 := k1.2.2.2.2.2
      exact ⟨h', by rw [x1, x4], by omega, by omega⟩)) t5_turn
  have hr : bRQ ctb w5W h 0 0 h := ⟨gI, gP, gT, fun _ _ _ => rfl, Nat.le_refl _, Nat.le_refl _⟩
  refine hg Bq hB [(E.1 : Int), (i : Int), (L : Int), (im : Int)] (t5K iv u5 u6) h 1 ⟨bxt_refl _, t5A_m (by rw [hiv]; exact brel_v rfl), bSS_ofQ hr (benv_c (by omega) (by omega) (benv_c (by omega) (by omega) (benv_c (by omega) (by omega) (benv_c (by omega) (by omega) benv_n)))) rfl bcs_n bov_n, ?_⟩ (brel_c _ 1) (by decide) ?_ d f hd hf
  · intro e he
    cases he with
    | head =>
      show brel _ (0, [(2, 1)]) (bvl E h 1 1)
      rw [bvl_n (show Nat.blt 1 900 = true from rfl), p1]
      exact brel_v rfl
    | tail _ he =>
      cases he with
      | head =>
        show brel _ (0, [(2, 1)]) (bvl E h 84 9)
        rw [bvl_n (show Nat.blt 84 900 = true from rfl), p2]
        exact brel_v rfl
      | tail _ he =>
        cases he with
        | head =>
          show brel _ (0, [(3, 1)]) (bvl E h 30 4)
          rw [bvl_n (show Nat.blt 30 900 = true from rfl), p3]
          exact brel_v rfl
        | tail _ he =>
          cases he with
          | head =>
            show brel _ (0, [(3, 1)]) (bvl E h 84 6)
            rw [bvl_n (show Nat.blt 84 900 = true from rfl), p4]
            exact brel_v rfl
          | tail _ he => exact absurd he List.not_mem_nil
  · intro N hN V' ls' h' y hR hy h0 hlt d f hd hf
    have hcs : bcs V' t5C → V'.length = 4 ∨ True → ∀ U, V' = [(E.1 : Int), (i : Int), (L : Int), (im : Int)] ++ U → i + 6 ≤ E.1 := by
      intro hc _ U hU
      subst hU
      obtain ⟨x, x1, x2⟩ := hc _ (List.Mem.head _)
      have x3 : x = -6 + (1 * (E.1 : Int) + ((-1) * (i : Int) + 0)) := brel_x x1
      omega
    have tapes : bRQ ctb w5W h 24 2400 h' → (∀ i, 0 ≤ tp2 h' i ∧ tp2 h' i ≤ 255) ∧ ∀ i, tp90 h' i = sg8 (tp2 h' i) := by
      intro q
      rw [show tp2 h' = tp2 h from tp2_e fun i => q.2.2.2.1 2 i w5W2, show tp90 h' = tp90 h from tp90_e fun i => q.2.2.2.1 90 i w5W90]
      exact ⟨p7, p8⟩
    cases hN with
    | head =>
      obtain ⟨⟨U, hU⟩, k1, k2, k3⟩ := hR
      have hlen : (6 : Nat) = V'.length := k2.2.1
      obtain ⟨v4, v5, hU2⟩ : ∃ a b, U = [a, b] := by
        rw [hU, List.length_append] at hlen
        match U, hlen with
        | [], z => exact absurd z (by simp)
        | [a], z => exact absurd z (by simp)
        | [a, b], _ => exact ⟨a, b, rfl⟩
        | a :: b :: c :: U, z => exact absurd z (by simp only [List.length_cons]; omega)
      subst hU2
      have g1 := hcs k2.2.2.1 (Or.inr trivial) _ hU
      subst hU
      obtain ⟨jv, o5, o6, e1, e2⟩ := t5A_s k1
      have e2 : jv.toInt = 6 + (1 * (i : Int) + 0) := e2
      have q := bRQ_of (a := 24) (b := 2400) k2
      obtain ⟨a4, z4, b4, b5⟩ := k2.1.2 4 0 400 rfl
      obtain ⟨a5, z5, c4, c5⟩ := k2.1.2 5 0 1 rfl
      have z4 : v4 = a4 := Option.some.inj z4
      have z5 : v5 = a5 := Option.some.inj z5
      subst z4 z5
      have r1 : (h'.2.1 1 1).toInt = v4 := bpv_v k3 (c := 1) (k := 1) (i := 4) rfl (List.Mem.head _)
      have r2 : (h'.2.1 84 9).toInt = v4 := bpv_v k3 (c := 84) (k := 9) (i := 4) rfl (List.Mem.tail _ (List.Mem.head _))
      have r3 : (h'.2.1 30 4).toInt = v5 := bpv_v k3 (c := 30) (k := 4) (i := 5) rfl (List.Mem.tail _ (List.Mem.tail _ (List.Mem.head _)))
      have r4 : (h'.2.1 84 6).toInt = v5 := bpv_v k3 (c := 84) (k := 6) (i := 5) rfl (List.Mem.tail _ (List.Mem.tail _ (List.Mem.tail _ (List.Mem.head _))))
      rw [e1]
      exact kN h' v4.toNat v5.toNat jv o5 o6 g1 (by omega) ⟨q.1, q.2.1, q.2.2.1, ⟨by omega, by omega, by omega, by omega⟩, by omega, by omega, tapes q⟩ q.2.2.2.2.1 q.2.2.2.2.2 d f hd hf
    | tail _ hN =>
      cases hN with
      | head =>
        obtain ⟨⟨U, hU⟩, k1, k2, k3⟩ := hR
        have hlen : (4 : Nat) = V'.length := k2.2.1
        have hU2 : U = [] := by
          rw [hU, List.length_append] at hlen
          exact List.length_eq_zero_iff.mp (by simp only [List.length_cons, List.length_nil] at hlen; omega)
        subst hU2
        have g1 := hcs k2.2.2.1 (Or.inr trivial) _ hU
        subst hU
        obtain ⟨jv, o5, o6, e1, e2⟩ := t5A_s k1
        have e2 : jv.toInt = 0 + (1 * (i : Int) + 0) := e2
        have q := bRQ_of (a := 0) (b := 0) k2
        have r1 : (h'.2.1 1 1).toInt = (L : Int) := bpv_v k3 (c := 1) (k := 1) (i := 2) rfl (List.Mem.head _)
        have r2 : (h'.2.1 84 9).toInt = (L : Int) := bpv_v k3 (c := 84) (k := 9) (i := 2) rfl (List.Mem.tail _ (List.Mem.head _))
        have r3 : (h'.2.1 30 4).toInt = (im : Int) := bpv_v k3 (c := 30) (k := 4) (i := 3) rfl (List.Mem.tail _ (List.Mem.tail _ (List.Mem.head _)))
        have r4 : (h'.2.1 84 6).toInt = (im : Int) := bpv_v k3 (c := 84) (k := 6) (i := 3) rfl (List.Mem.tail _ (List.Mem.tail _ (List.Mem.tail _ (List.Mem.head _))))
        rw [e1]
        exact kF h' jv o5 o6 g1 (by omega) ⟨q.1, q.2.1, q.2.2.1, ⟨r1, r2, r3, r4⟩, p5, p6, tapes (bRQ_ab q (by decide) (by decide))⟩ q.2.2.2.2.1 q.2.2.2.2.2 d f hd hf
      | tail _ hN =>
        cases hN with
        | tail _ hN => exact absurd hN List.not_mem_nil
        | head =>
          obtain ⟨⟨U, hU⟩, k1, k2, k3⟩ := hR
          have hlen : (4 : Nat) = V'.length := k2.2.1
          have hU2 : U = [] := by
            rw [hU, List.length_append] at hlen
            exact List.length_eq_zero_iff.mp (by simp only [List.length_cons, List.length_nil] at hlen; omega)
          subst hU2
          have g1 := hcs k2.2.2.1 (Or.inr trivial) _ hU
          subst hU
          obtain ⟨jv, o5, o6, e1, e2⟩ := t5A_s k1
          have e2 : jv.toInt = 0 + (1 * (i : Int) + 0) := e2
          have q := bRQ_of (a := 0) (b := 0) k2
          have r1 : (h'.2.1 1 1).toInt = (L : Int) := bpv_v k3 (c := 1) (k := 1) (i := 2) rfl (List.Mem.head _)
          have r2 : (h'.2.1 84 9).toInt = (L : Int) := bpv_v k3 (c := 84) (k := 9) (i := 2) rfl (List.Mem.tail _ (List.Mem.head _))
          have r3 : (h'.2.1 30 4).toInt = (im : Int) := bpv_v k3 (c := 30) (k := 4) (i := 3) rfl (List.Mem.tail _ (List.Mem.tail _ (List.Mem.head _)))
          have r4 : (h'.2.1 84 6).toInt = (im : Int) := bpv_v k3 (c := 84) (k := 6) (i := 3) rfl (List.Mem.tail _ (List.Mem.tail _ (List.Mem.tail _ (List.Mem.head _))))
          rw [e1]
          exact kL h' jv o5 o6 g1 (by omega) ⟨q.1, q.2.1, q.2.2.1, ⟨r1, r2, r3, r4⟩, p5, p6, tapes (bRQ_ab q (by decide) (by decide))⟩ q.2.2.2.2.1 q.2.2.2.2.2 d f hd hf
set_option maxRecDepth 100000 in
theorem int6 : (6 : Int32).toInt = 6 := by decide
set_option maxRecDepth 100000 in
theorem t5_loop (hE : E.1 ≤ 3072) (hsm : bSO E ctb B (60, smT)) {C S : Nat} : ∀ (j i : Nat) (h : zH) (L im : Nat) (iv : Int32) (u5 u6 : Option Value), E.1 ≤ i + 6 * j → i ≤ 3072 → iv.toInt = (i : Int) → LI h L im → h.2.2.2.1 + 24 * (j + 1) ≤ C → h.2.2.2.2 + 2400 * (j + 1) ≤ S →
    ∀ d f, 100 ≤ d → B + tLK * 2 * (j + 1) ≤ f → t5Q C S (zex E f d 0 23 (t5K iv u5 u6) [] h) := by
  intro j
  have ht : 1000000 ≤ tLK := by decide
  induction j with
  | zero =>
    intro i h L im iv u5 u6 hj hi hiv hI hC hS d f hd hf
    have hone : tLK * 2 * (0 + 1) = tLK * 2 := Nat.mul_one _
    refine t5_head hE hsm hi hiv hI (by omega) (by omega) (Bq := B) (Nat.le_refl _) ?_ ?_ ?_ d f hd (by omega)
    · intro h' L' im' jv v5 v6 h1 h2; omega
    · intro h' jv v5 v6 h1 h2; omega
    · intro h' jv v5 v6 h1 h2; omega
  | succ j IH =>
    intro i h L im iv u5 u6 hj hi hiv hI hC hS d f hd hf
    have hmul : tLK * 2 * (j + 1 + 1) = tLK * 2 * (j + 1) + tLK * 2 := Nat.mul_succ (tLK * 2) (j + 1)
    have hq9 : tLK * 2 ≤ tLK * 2 * (j + 1) := Nat.le_mul_of_pos_right _ (Nat.succ_pos j)
    refine t5_head hE hsm hi hiv hI (by omega) (by omega) (Bq := B + tLK * 2 * (j + 1) + tLK) (by omega) ?_ ?_ ?_ d f hd (by omega)
    · intro h' L' im' jv v5 v6 g1 g2 g3 g4 g5 d f hd hf
      exact IH (i + 6) h' L' im' jv v5 v6 (by omega) (by omega) (by omega) g3 (by omega) (by omega) d f hd (by omega)
    · intro h' jv v5 v6 g1 g2 g3 g4 g5 d f hd hf
      obtain ⟨g, hg⟩ : ∃ g, f = g + 2000 := ⟨f - 2000, by omega⟩
      obtain ⟨d', hd'⟩ : ∃ d', d = d' + 1 + 1 := ⟨d - 2, by omega⟩
      subst hg hd'
      obtain ⟨x, y, h1, h2, L', e1, e2, s1, s2, s3, s4⟩ := t5_feed g3 (E.2 (i + 1)) (E.2 (i + 2)) (E.2 (i + 3)) (E.2 (i + 4)) (E.2 (i + 5))
      have a0 := g3.2.2.1 0 _ ks0 (by intro z; cases z)
      have a84 := g3.2.2.1 84 _ cs84 (by intro z; cases z)
      have key := tf_248 (E := E) (n := g + 1941) (d := d' + 1) (h := h') (h1 := h1) (h2 := h2) (i := jv) (x := x) (y := y) (u5 := v5) (u6 := v6) (I := i) (fun k hk => baddk g2 (by omega) (by omega)) g1 a0 (by rw [s1]; exact a84) (e1 E (g + 973) d') (e2 E (g + 945) d')
      have c1 : h2.2.2.2.1 = h'.2.2.2.1 := by rw [s3]
      have c2 : h2.2.2.2.2 = h'.2.2.2.2 := by rw [s3]
      have key2 := IH (i + 6) h2 L' im (jv + 6) v5 v6 (by omega) (by omega) (by rw [i32_add (by rw [g2, int6]; omega) (by rw [g2, int6]; omega), g2, int6]; omega) s4 (by omega) (by omega) (d' + 1 + 1) (g + 1941) hd (by omega)
      unfold t5K at key2 ⊢
      rw [key]
      exact key2
    · intro h' jv v5 v6 g1 g2 g3 g4 g5 d f hd hf
      obtain ⟨g, hg⟩ : ∃ g, f = g + 23 := ⟨f - 23, by omega⟩
      subst hg
      obtain ⟨h2, o5, o6, f9, k1, k2, k3, k4, k5⟩ := t5_lawstep hE hsm g3 (iv := jv) (u5 := v5) (u6 := v6) d g hd (by omega)
      rw [k2]
      exact IH (i + 6) h2 0 im (jv + 6) o5 o6 (by omega) (by omega) (by rw [i32_add (by rw [g2, int6]; omega) (by rw [g2, int6]; omega), g2, int6]; omega) k3 (by omega) (by omega) d f9 hd (by omega)
end LW
