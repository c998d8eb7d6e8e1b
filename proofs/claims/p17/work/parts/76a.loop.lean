/-! the second family's loop (wip/zab2/c/lgen41.py) -/
set_option maxRecDepth 100000 in
theorem sw_go {E : zE} {h : zH} {I : Nat} {iv : Int32} {u5 u6 : Option Value} (hE : E.1 ≤ 3072) (hi : iv.toInt = (I : Int)) (hI6 : I + 6 ≤ E.1) : ∃ t, t ∈ sp7 ∧ ∀ n d, zex E (n + 11 + 1) d 0 23 (t5K iv u5 u6) [] h = zex E n d 0 t (t5K iv u5 u6) [] h := by
  obtain ⟨k, k1, k2⟩ := and_63 (E.2 I)
  obtain ⟨t, t1, t2⟩ := sw_all k k1
  have hE1 : (Int32.ofNat E.1).toInt = (E.1 : Int) := zof9 (by omega)
  have hE6 : (Int32.ofNat E.1 - 6).toInt = (E.1 : Int) - 6 := by rw [i32_sub (by rw [hE1, show (6 : Int32).toInt = 6 from by decide]; omega) (by rw [hE1, show (6 : Int32).toInt = 6 from by decide]; omega), hE1]; rfl
  refine ⟨t, t1, fun n d => ?_⟩
  have e := sw_h (E := E) (n := n + 1) (d := d) (h := h) (i := iv) (u5 := u5) (u6 := u6) (I := I) (by omega) hi (by omega)
  rw [k2] at e
  rw [show n + 11 + 1 = n + 1 + 11 by omega]
  exact e.trans (yTsw zgq0_40 rfl t2)
set_option maxRecDepth 100000 in
theorem sw_end {E : zE} {h : zH} {I : Nat} {iv : Int32} {u5 u6 : Option Value} (hE : E.1 ≤ 3072) (hi : iv.toInt = (I : Int)) (hI6 : E.1 < I + 6) {n d : Nat} : zex E (n + 8) d 0 23 (t5K iv u5 u6) [] h = some (.inl (some (.int 1)), h) := by
  have hE1 : (Int32.ofNat E.1).toInt = (E.1 : Int) := zof9 (by omega)
  have hE6 : (Int32.ofNat E.1 - 6).toInt = (E.1 : Int) - 6 := by rw [i32_sub (by rw [hE1, show (6 : Int32).toInt = 6 from by decide]; omega) (by rw [hE1, show (6 : Int32).toInt = 6 from by decide]; omega), hE1]; rfl
  exact sw_e (E := E) (n := n) (d := d) (h := h) (i := iv) (u5 := u5) (u6 := u6) (by omega)
def wE9 : Nat := 1688287675811557399250998381303841618112286998140052939795672860672
set_option maxRecDepth 100000 in
theorem wE9P : wF wE9 lP = true := by decide +kernel
set_option maxRecDepth 100000 in
theorem wE9A : wF wE9 lA = true := by decide +kernel
set_option maxRecDepth 100000 in
theorem wE9I : wF wE9 lI = true := by decide +kernel
set_option maxRecDepth 100000 in
theorem wE9E : wF wE9 lE = true := by decide +kernel
section OE
variable {E : zE} {B : Nat} {h : zH} {L im : Nat}
set_option maxRecDepth 100000 in
theorem LX_e {h1 h2 : zH} {L' : Nat} {d f d2 f2 mi mi2 pc pc2 : Nat} {ls ls2 : zLs} {st st2 : List Value} {x y : Option Value ⊕ Nat} (hX : LX h L im) (r1 : bRQ ctb wE9 h 0 0 h1) (r2 : bRQ ctb wE9 h1 0 0 h2) (e1 : zex E f d mi pc ls st h = some (x, h1)) (e2 : zex E f2 d2 mi2 pc2 ls2 st2 h1 = some (y, h2)) (hL : L' ≤ 400) (z1 : (h2.2.1 1 1).toInt = (L' : Int)) (z9 : (h2.2.1 84 9).toInt = (L' : Int)) : LX h2 L' im := by
  obtain ⟨⟨-, -, -, ⟨p1, p2, p3, p4⟩, p5, p6, p7, p8⟩, pX, pE⟩ := hX
  have c5 := r1.2.2.2.1
  have g5 := r2.2.2.2.1
  have t2 : tp2 h2 = tp2 h := tp2_e fun i => (g5 2 i (show Nat.testBit wE9 (bun 2 0) = false by decide +kernel)).trans (c5 2 i (show Nat.testBit wE9 (bun 2 0) = false by decide +kernel))
  have t9 : tp90 h2 = tp90 h := tp90_e fun i => (g5 90 i (show Nat.testBit wE9 (bun 90 0) = false by decide +kernel)).trans (c5 90 i (show Nat.testBit wE9 (bun 90 0) = false by decide +kernel))
  refine ⟨⟨r2.1, r2.2.1, r2.2.2.1, ⟨z1, z9, ?_, ?_⟩, hL, p6, by rw [t2]; exact p7, by rw [t2, t9]; exact p8⟩, PX_f (FrP_t (FrP_w wE9P c5) (FrP_w wE9P g5)) (FrA_t (FrA_w wE9A c5) (FrA_w wE9A g5)) (FrI_t (FrI_w wE9I c5) (FrI_w wE9I g5)) pX, EX_z e2 r2.2.1 wE9E (by decide +kernel : wF wE9 lPa = true) g5 (Q85_w (by decide +kernel : wF wE9 l85 = true) g5) (EX_z e1 r1.2.1 wE9E (by decide +kernel : wF wE9 lPa = true) c5 (Q85_w (by decide +kernel : wF wE9 l85 = true) c5) pE)⟩
  · rw [g5 30 4 (by decide +kernel), c5 30 4 (by decide +kernel)]; exact p3
  · rw [g5 84 6 (by decide +kernel), c5 84 6 (by decide +kernel)]; exact p4
set_option maxRecDepth 100000 in
theorem op_end (hE : E.1 ≤ 3072) (hsm : bSO E ctb B (60, smT)) (hX : LX h L im) {iv : Int32} {I : Nat} (hiv : iv.toInt = (I : Int)) (hI6 : I + 6 ≤ E.1) {u5 u6 : Option Value} : ∀ d f, 100 ≤ d → B + 6000000 ≤ f → opS E d iv f h (zex E (f + 100) d 0 321 (t5K iv u5 u6) [] h) := by
  intro d f hd hf
  obtain ⟨d', hd'⟩ : ∃ d', d = d' + 1 := ⟨d - 1, by omega⟩
  subst hd'
  obtain ⟨hL9, pX, pE⟩ := id hX
  obtain ⟨gI, gP, gT, ⟨p1, p2, p3, p4⟩, p5, p6, p7, p8⟩ := id hL9
  have r0 : bRQ ctb wE9 h 0 0 h := ⟨gI, gP, gT, fun _ _ _ => rfl, Nat.le_refl _, Nat.le_refl _⟩
  have rz : bRQ ctb wE9 h 0 0 (zsetI h 84 (upd (h.2.1 84) 0 0)) := bRQ_set r0 (by decide +kernel) (by rw [biv840M]; exact bi32 _) rfl rfl (by decide) (by decide)
  have vz : (zsetI h 84 (upd (h.2.1 84) 0 0)).2.1 84 9 = h.2.1 84 9 := by rw [zs_at, upd_n (by decide)]
  have same : (zsetI h 84 (upd (h.2.1 84) 0 0)).2.1 1 1 = h.2.1 1 1 := by rw [zs_ne (by decide)]
  by_cases h0 : (E.2 (I + 1)).toInt < 0
  · have e1 := en_a (E := E) (n := f + 89) (d := d') (h := h) h0
    have e2 := em_a (E := E) (n := f + 78) (d := d') (h := h) h0 (gT 84 _ cs84 (by intro z; cases z))
    exact ⟨_, _, _, f + 81, L, im, by omega, tp_end (E := E) (n := f + 81) (d := d') (I := I) (i := iv) (u5 := u5) (u6 := u6) (fun k hk => baddk hiv (by omega) (by omega)) hI6 (gT 0 _ ks0 (by intro z; cases z)) (gT 84 _ cs84 (by intro z; cases z)) e1 e2, LX_e hX r0 rz e1 e2 p5 (by rw [same]; exact p1) (by rw [vz]; exact p2), Nat.le_add_right _ _, Nat.le_add_right _ _⟩
  · by_cases h1 : (L : Int) < (E.2 (I + 1)).toInt
    · have e1 := en_b (E := E) (n := f + 84) (d := d') (h := h) (k := E.2 (I + 1)) (by omega) (by rw [p1]; exact h1) (gT 0 _ ks0 (by intro z; cases z)) (gT 1 _ (show bg2 ctb 1 = some (.inr (.inl (9, [some (some 2), none, none, none, none, none]))) from rfl) (by intro z; cases z))
      have e2 := em_b (E := E) (n := f + 74) (d := d') (h := h) (k := E.2 (I + 1)) vz (by omega) (by rw [p2]; exact h1) (gT 84 _ cs84 (by intro z; cases z))
      exact ⟨_, _, _, f + 81, L, im, by omega, tp_end (E := E) (n := f + 81) (d := d') (I := I) (i := iv) (u5 := u5) (u6 := u6) (fun k hk => baddk hiv (by omega) (by omega)) hI6 (gT 0 _ ks0 (by intro z; cases z)) (gT 84 _ cs84 (by intro z; cases z)) e1 e2, LX_e hX r0 rz e1 e2 p5 (by rw [same]; exact p1) (by rw [vz]; exact p2), Nat.le_add_right _ _, Nat.le_add_right _ _⟩
    · obtain ⟨K, hK⟩ : ∃ K : Nat, (E.2 (I + 1)).toInt = (K : Int) := ⟨(E.2 (I + 1)).toInt.toNat, by omega⟩
      have e1 := en_c (E := E) (n := f + 80) (d := d') (h := h) (k := E.2 (I + 1)) (by omega) (by rw [p1]; omega) (gT 0 _ ks0 (by intro z; cases z)) (gT 1 _ (show bg2 ctb 1 = some (.inr (.inl (9, [some (some 2), none, none, none, none, none]))) from rfl) (by intro z; cases z))
      have r1 : bRQ ctb wE9 h 0 0 (zsetI h 1 (upd (h.2.1 1) 1 (E.2 (I + 1)))) := bRQ_set r0 (by decide +kernel) (by rw [biv11F]; exact ⟨by show (0 : Int) ≤ _; omega, by show _ ≤ (400 : Int); omega⟩) rfl rfl (by decide) (by decide)
      obtain ⟨g, hg⟩ : ∃ g, g = zsetI h 1 (upd (h.2.1 1) 1 (E.2 (I + 1))) := ⟨_, rfl⟩
      have g11 : (g.2.1 1 1).toInt = (K : Int) := by rw [hg, zs_at, upd_e]; exact hK
      have g849 : (g.2.1 84 9).toInt = (L : Int) := by rw [hg, zs_ne (by decide)]; exact p2
      rw [← hg] at e1 r1
      have gT := r1.2.2.1
      have wz : (zsetI g 84 (upd (g.2.1 84) 0 0)).2.1 84 9 = g.2.1 84 9 := by rw [zs_at, upd_n (by decide)]
      have e2 := em_c (E := E) (n := f + 71) (d := d') (h := g) (k := E.2 (I + 1)) wz (by omega) (by rw [g849]; omega) (gT 84 _ cs84 (by intro z; cases z))
      have q0 : bRQ ctb wE9 g 0 0 g := ⟨r1.1, r1.2.1, r1.2.2.1, fun _ _ _ => rfl, Nat.le_refl _, Nat.le_refl _⟩
      have q1 : bRQ ctb wE9 g 0 0 (zsetI g 84 (upd (g.2.1 84) 0 0)) := bRQ_set q0 (by decide +kernel) (by rw [biv840M]; exact bi32 _) rfl rfl (by decide) (by decide)
      have q2 := bRQ_set (c := 84) (j := 9) (y := E.2 (I + 1)) q1 (by decide +kernel) (by rw [biv849F]; exact ⟨by show (0 : Int) ≤ _; omega, by show _ ≤ (400 : Int); omega⟩) rfl rfl (by decide) (by decide)
      have c8 : g.2.2.2.1 ≤ h.2.2.2.1 + 0 := r1.2.2.2.2.1
      have c9 : g.2.2.2.2 ≤ h.2.2.2.2 + 0 := r1.2.2.2.2.2
      have m8 := q2.2.2.2.2.1
      have m9 := q2.2.2.2.2.2
      have a0 := hL9.2.2.1 0 _ ks0 (by intro z; cases z)
      refine ⟨_, _, _, f + 81, K, im, by omega, tp_end (E := E) (n := f + 81) (d := d') (I := I) (i := iv) (u5 := u5) (u6 := u6) (fun k hk => baddk hiv (by omega) (by omega)) hI6 a0 (gT 84 _ cs84 (by intro z; cases z)) e1 e2, LX_e hX r1 q2 e1 e2 (by omega) ?_ ?_, by omega, by omega⟩
      · rw [zs_ne (by decide), zs_ne (by decide)]; exact g11
      · rw [zs_at, upd_e]; exact hK
set_option maxRecDepth 100000 in
theorem op_def (hX : LX h L im) {iv : Int32} {u5 u6 : Option Value} : ∀ d f, opS E d iv f h (zex E (f + 100) d 0 1949 (t5K iv u5 u6) [] h) := fun d f => ⟨h, _, _, f + 98, L, im, by omega, sw_d (E := E) (n := f + 98) (d := d) (h := h) (i := iv) (u5 := u5) (u6 := u6), hX, Nat.le_add_right _ _, Nat.le_add_right _ _⟩
end OE
def tLK : Nat := 40000000000000000
def t5Q (C S : Nat) (o : Option zR) : Prop := ∃ h', o = some (.inl (some (.int 1)), h') ∧ h'.2.2.2.1 ≤ C ∧ h'.2.2.2.2 ≤ S
set_option maxRecDepth 100000 in
theorem int6 : (6 : Int32).toInt = 6 := by decide
section LW
variable {E : zE} {B : Nat} {h : zH} {L im : Nat}
set_option maxRecDepth 100000 in
theorem op_any (hE : E.1 ≤ 3072) (hsm : bSO E ctb B (60, smT)) (hX : LX h L im) {iv : Int32} {I : Nat} (hiv : iv.toInt = (I : Int)) (hI : I ≤ 3072) (hI6 : I + 6 ≤ E.1) {u5 u6 : Option Value} : ∀ pc, pc ∈ sp7 → ∀ d f, 100 ≤ d → B + 20000000000000000 ≤ f → opS E d iv f h (zex E (f + 100) d 0 pc (t5K iv u5 u6) [] h) := by
  intro pc hpc d f hd hf
  cases hpc with
  | head => exact op_feed hX hiv hI hI6 d f hd (by omega)
  | tail _ hpc =>
   cases hpc with
   | head => exact op_end hE hsm hX hiv hI6 d f hd (by omega)
   | tail _ hpc =>
    cases hpc with
    | head => exact op_house hE hsm hX hiv hI6 d f hd (by omega)
    | tail _ hpc =>
     cases hpc with
     | head => exact op_law hE hsm hX hiv hI6 d f hd (by omega)
     | tail _ hpc =>
      cases hpc with
      | head => exact op_fault hE hsm hX hiv hI6 d f hd (by omega)
      | tail _ hpc =>
       cases hpc with
       | head => exact op_room hE hsm hX hiv hI6 d f hd (by omega)
       | tail _ hpc =>
        cases hpc with
        | head => exact op_sand hE hsm hX hiv hI6 d f hd (by omega)
        | tail _ hpc =>
         cases hpc with
         | head => exact op_person hE hsm hX hiv hI6 d f hd (by omega)
         | tail _ hpc =>
          cases hpc with
          | head => exact op_load hE hsm hX hiv hI6 d f hd (by omega)
          | tail _ hpc =>
           cases hpc with
           | head => exact op_habit hE hsm hX hiv hI6 d f hd (by omega)
           | tail _ hpc =>
            cases hpc with
            | head => exact op_rule hE hsm hX hiv hI6 d f hd (by omega)
            | tail _ hpc =>
             cases hpc with
             | head => exact op_rounds hE hsm hX hiv hI6 d f hd (by omega)
             | tail _ hpc =>
              cases hpc with
              | head => exact op_sweep hE hsm hX hiv hI6 d f hd (by omega)
              | tail _ hpc =>
               cases hpc with
               | head => exact op_beat hE hsm hX hiv hI6 d f hd (by omega)
               | tail _ hpc =>
                cases hpc with
                | head => exact op_tool hE hsm hX hiv hI6 d f hd (by omega)
                | tail _ hpc =>
                 cases hpc with
                 | head => exact op_keep hE hsm hX hiv hI6 d f hd (by omega)
                 | tail _ hpc =>
                  cases hpc with
                  | head => exact op_soak hE hsm hX hiv hI6 d f hd (by omega)
                  | tail _ hpc =>
                   cases hpc with
                   | head => exact op_trial hE hsm hX hiv hI6 d f hd (by omega)
                   | tail _ hpc =>
                    cases hpc with
                    | head => exact op_worth hE hsm hX hiv hI6 d f hd (by omega)
                    | tail _ hpc =>
                     cases hpc with
                     | head => exact op_stand hE hsm hX hiv hI6 d f hd (by omega)
                     | tail _ hpc =>
                      cases hpc with
                      | head => exact op_two hE hsm hX hiv hI6 d f hd (by omega)
                      | tail _ hpc =>
                       cases hpc with
                       | head => exact op_keepers hE hsm hX hiv hI6 d f hd (by omega)
                       | tail _ hpc =>
                        cases hpc with
                        | head => exact op_chores hE hsm hX hiv hI6 d f hd (by omega)
                        | tail _ hpc =>
                         cases hpc with
                         | head => exact op_often hE hsm hX hiv hI6 d f hd (by omega)
                         | tail _ hpc =>
                          cases hpc with
                          | head => exact op_when hE hsm hX hiv hI6 d f hd (by omega)
                          | tail _ hpc =>
                           cases hpc with
                           | head => exact op_clogs hE hsm hX hiv hI6 d f hd (by omega)
                           | tail _ hpc =>
                            cases hpc with
                            | head => exact op_fades hE hsm hX hiv hI6 d f hd (by omega)
                            | tail _ hpc =>
                             cases hpc with
                             | head => exact op_later hE hsm hX hiv hI6 d f hd (by omega)
                             | tail _ hpc =>
                              cases hpc with
                              | head => exact op_towel hE hsm hX hiv hI6 d f hd (by omega)
                              | tail _ hpc =>
                               cases hpc with
                               | head => exact op_towelled hE hsm hX hiv hI6 d f hd (by omega)
                               | tail _ hpc =>
                                cases hpc with
                                | head => exact op_span hE hsm hX hiv hI6 d f hd (by omega)
                                | tail _ hpc =>
                                 cases hpc with
                                 | head => exact op_peak hE hsm hX hiv hI6 d f hd (by omega)
                                 | tail _ hpc =>
                                  cases hpc with
                                  | head => exact op_carries hE hsm hX hiv hI6 d f hd (by omega)
                                  | tail _ hpc =>
                                   cases hpc with
                                   | head => exact op_whose hE hsm hX hiv hI6 d f hd (by omega)
                                   | tail _ hpc =>
                                    cases hpc with
                                    | head => exact op_share hE hsm hX hiv hI6 d f hd (by omega)
                                    | tail _ hpc =>
                                     cases hpc with
                                     | head => exact op_blame hE hsm hX hiv hI6 d f hd (by omega)
                                     | tail _ hpc =>
                                      cases hpc with
                                      | head => exact op_itch hE hsm hX hiv hI6 d f hd (by omega)
                                      | tail _ hpc =>
                                       cases hpc with
                                       | head => exact op_ways hE hsm hX hiv hI6 d f hd (by omega)
                                       | tail _ hpc =>
                                        cases hpc with
                                        | head => exact op_cross hE hsm hX hiv hI6 d f hd (by omega)
                                        | tail _ hpc =>
                                         cases hpc with
                                         | head => exact op_noon hE hsm hX hiv hI6 d f hd (by omega)
                                         | tail _ hpc =>
                                          cases hpc with
                                          | head => exact op_heels hE hsm hX hiv hI6 d f hd (by omega)
                                          | tail _ hpc =>
                                           cases hpc with
                                           | head => exact op_log hE hsm hX hiv hI6 d f hd (by omega)
                                           | tail _ hpc =>
                                            cases hpc with
                                            | head => exact op_led hE hsm hX hiv hI6 d f hd (by omega)
                                            | tail _ hpc =>
                                             cases hpc with
                                             | head => exact op_seed hE hsm hX hiv hI6 d f hd (by omega)
                                             | tail _ hpc =>
                                              cases hpc with
                                              | head => exact op_undo hE hsm hX hiv hI6 d f hd (by omega)
                                              | tail _ hpc =>
                                               cases hpc with
                                               | head => exact op_image hE hsm hX hiv hI6 d f hd (by omega)
                                               | tail _ hpc =>
                                                cases hpc with
                                                | head => exact op_back hE hsm hX hiv hI6 d f hd (by omega)
                                                | tail _ hpc =>
                                                 cases hpc with
                                                 | head => exact op_count hE hsm hX hiv hI6 d f hd (by omega)
                                                 | tail _ hpc =>
                                                  cases hpc with
                                                  | head => exact op_def hX d f
                                                  | tail _ hpc =>
                                                   exact absurd hpc List.not_mem_nil
set_option maxRecDepth 100000 in
theorem t4_loop (hE : E.1 ≤ 3072) (hsm : bSO E ctb B (60, smT)) {C S : Nat} : ∀ (j i : Nat) (h : zH) (L im : Nat) (iv : Int32) (u5 u6 : Option Value), E.1 ≤ i + 6 * j → i ≤ 3072 → iv.toInt = (i : Int) → LX h L im → h.2.2.2.1 + 24 * (j + 1) ≤ C → h.2.2.2.2 + 2400 * (j + 1) ≤ S →
    ∀ d f, 100 ≤ d → B + tLK * 2 * (j + 1) ≤ f → t5Q C S (zex E f d 0 23 (t5K iv u5 u6) [] h) := by
  intro j
  have ht : tLK = 40000000000000000 := rfl
  induction j with
  | zero =>
    intro i h L im iv u5 u6 hj hi hiv hI hC hS d f hd hf
    have hone : tLK * 2 * (0 + 1) = tLK * 2 := Nat.mul_one _
    obtain ⟨g, hg⟩ : ∃ g, f = g + 8 := ⟨f - 8, by omega⟩
    subst hg
    exact ⟨h, sw_end (E := E) (h := h) (n := g) (d := d) hE hiv (by omega), by omega, by omega⟩
  | succ j IH =>
    intro i h L im iv u5 u6 hj hi hiv hI hC hS d f hd hf
    have hmul : tLK * 2 * (j + 1 + 1) = tLK * 2 * (j + 1) + tLK * 2 := Nat.mul_succ (tLK * 2) (j + 1)
    have hq9 : tLK * 2 ≤ tLK * 2 * (j + 1) := Nat.le_mul_of_pos_right _ (Nat.succ_pos j)
    by_cases h6 : i + 6 ≤ E.1
    · obtain ⟨t, t1, t2⟩ := sw_go (E := E) (h := h) (u5 := u5) (u6 := u6) hE hiv h6
      obtain ⟨g, hg⟩ : ∃ g, f = g + 100 + 11 + 1 := ⟨f - 11 - 101, by omega⟩
      subst hg
      rw [t2]
      obtain ⟨h2, o5, o6, f9, L2, im2, k1, k2, k3, k4, k5⟩ := op_any hE hsm hI hiv hi h6 (u5 := u5) (u6 := u6) t t1 d g hd (by omega)
      rw [k2]
      exact IH (i + 6) h2 L2 im2 (iv + 6) o5 o6 (by omega) (by omega) (by rw [i32_add (by rw [hiv, int6]; omega) (by rw [hiv, int6]; omega), hiv, int6]; omega) k3 (by omega) (by omega) d f9 hd (by omega)
    · obtain ⟨g, hg⟩ : ∃ g, f = g + 8 := ⟨f - 8, by omega⟩
      subst hg
      exact ⟨h, sw_end (E := E) (h := h) (n := g) (d := d) hE hiv (by omega), by omega, by omega⟩
end LW
