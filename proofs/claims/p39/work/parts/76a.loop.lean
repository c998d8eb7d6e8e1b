/-! the loop of the law: the plan stays alike (wip/zab2/c/lgen31.py) -/
def w4W : Nat := 4149515568880992958512407863691161151012446232242436899995657329690652811412908146399707048947103794287474072975354785270650727744947240828852822448390257952437647231082822456246271
def spc : List Nat := [248, 346, 362, 643, 671, 699, 727, 767, 807, 847, 887, 939, 1007, 1047, 1143, 1183, 1211, 1224, 1252, 1292, 1344, 1384, 1440, 1633, 1887, 1900, 1911]
def t5E : bE := [(0, 3072), (0, 3072), (0, 400), (0, 1)]
def t5P (l m : Nat) : bPv := [(1, 1, mv l), (84, 9, mv l), (30, 4, mv m), (84, 6, mv m)]
def t5C : bC := [(-6, [(0, 1), (1, -1)])]
def t5S : bNd := (23, t5A (mv 1), t5E, [], t5P 2 3, (0, []), (0, []), (1, []))
def t5N : bNd := (23, t5A (6, [(1, 1)]), [(0, 3072), (0, 3072), (0, 400), (0, 1), (0, 400), (0, 1)], t5C, t5P 4 5, (24, []), (2400, []), (0, []))
def t5X (pc : Nat) : bNd := (pc, t5A (mv 1), t5E, t5C, t5P 2 3, (0, []), (0, []), (0, []))
set_option maxRecDepth 100000 in
theorem t4_turn : zst w4W (60, smT) (some (0, [(0, 1)])) ctb (bfn 24 2400 4 (bidl 4 0) [([], [], some (.inl (1, [])), [])]) 4 100 0 1000000 (t5N :: spc.map t5X) t5S = true := by decide +kernel
set_option maxRecDepth 100000 in
theorem w4P : wF w4W lP = true := by decide +kernel
set_option maxRecDepth 100000 in
theorem w4A : wF w4W lA = true := by decide +kernel
set_option maxRecDepth 100000 in
theorem w4I : wF w4W lI = true := by decide +kernel
set_option maxRecDepth 100000 in
theorem w4E : wF w4W lE = true := by decide +kernel
set_option maxRecDepth 100000 in
theorem w430 : Nat.testBit w4W (bun 30 4) = false := by decide +kernel
set_option maxRecDepth 100000 in
theorem w5W2 : Nat.testBit w4W (bun 2 0) = false := by decide +kernel
set_option maxRecDepth 100000 in
theorem w5W90 : Nat.testBit w4W (bun 90 0) = false := by decide +kernel
def tLK : Nat := 1000000000000
def t5Q (C S : Nat) (o : Option zR) : Prop := ∃ h', o = some (.inl (some (.int 1)), h') ∧ h'.2.2.2.1 ≤ C ∧ h'.2.2.2.2 ≤ S
section LW
variable {E : zE} {B : Nat} {h : zH} {L im : Nat}
set_option maxRecDepth 100000 in
theorem t4_head (hE : E.1 ≤ 3072) (hsm : bSO E ctb B (60, smT)) {C S i : Nat} {iv : Int32} {u5 u6 : Option Value} (hi : i ≤ 3072) (hiv : iv.toInt = (i : Int)) (hX : LX h L im) (hC : h.2.2.2.1 + 24 ≤ C) (hS : h.2.2.2.2 + 2400 ≤ S) {Bq : Nat} (hB : B ≤ Bq)
    (kN : ∀ (h' : zH) (L' im' : Nat) (jv : Int32) (v5 v6 : Option Value), i + 6 ≤ E.1 → jv.toInt = (i : Int) + 6 → LX h' L' im' → h'.2.2.2.1 ≤ h.2.2.2.1 + 24 → h'.2.2.2.2 ≤ h.2.2.2.2 + 2400 → ∀ d f, 100 ≤ d → Bq ≤ f → t5Q C S (zex E f d 0 23 (t5K jv v5 v6) [] h'))
    (kX : ∀ pc, pc ∈ spc → ∀ (h' : zH) (jv : Int32) (v5 v6 : Option Value), i + 6 ≤ E.1 → jv.toInt = (i : Int) → LX h' L im → h'.2.2.2.1 ≤ h.2.2.2.1 → h'.2.2.2.2 ≤ h.2.2.2.2 → ∀ d f, 100 ≤ d → Bq ≤ f → t5Q C S (zex E f d 0 pc (t5K jv v5 v6) [] h')) :
    ∀ d f, 100 ≤ d → Bq + 1000000 ≤ f → t5Q C S (zex E f d 0 23 (t5K iv u5 u6) [] h) := by
  intro d f hd hf
  obtain ⟨⟨gI, gP, gT, ⟨p1, p2, p3, p4⟩, p5, p6, p7, p8⟩, pX, pE⟩ := hX
  have hg : bGd E ctb w4W h [(E.1 : Int), (i : Int), (L : Int), (im : Int)] B (t5Q C S) 100 0 1000000 (t5N :: spc.map t5X) t5S := zst_s (V0 := [(E.1 : Int), (i : Int), (L : Int), (im : Int)]) hsm ⟨by omega, fun N hN => by cases hN; exact brel_v rfl⟩ (fin_n (V := [(E.1 : Int), (i : Int), (L : Int), (im : Int)]) (ca := 24) (sa := 2400) rfl (fun u h' k1 k2 k3 => by
    cases u with
    | none => exact k2.elim
    | some u =>
      obtain ⟨x, x1, x2⟩ := k2
      have x3 : x.toInt = 1 := brel_k x2
      have x4 : x = 1 := zieq (x3.trans int1.symm)
      have c1 := k1.2.2.2.2.1
      have c2 := k1.2.2.2.2.2
      exact ⟨h', by rw [x1, x4], by omega, by omega⟩)) t4_turn
  have hr : bRQ ctb w4W h 0 0 h := ⟨gI, gP, gT, fun _ _ _ => rfl, Nat.le_refl _, Nat.le_refl _⟩
  refine hg Bq hB [(E.1 : Int), (i : Int), (L : Int), (im : Int)] (t5K iv u5 u6) h 1 ⟨bxt_refl _, t5A_m (by rw [hiv]; exact brel_v rfl), bSS_ofQ hr (benv_c (by omega) (by omega) (benv_c (by omega) (by omega) (benv_c (by omega) (by omega) (benv_c (by omega) (by omega) benv_n)))) rfl bcs_n bov_n, ?_⟩ (brel_c _ 1) (by decide) ?_ d f hd hf
  · intro e he
    cases he with
    | head =>
      show brel _ (0, [(2, 1)]) (bvl E h 1 1)
      rw [bvl_n (show Nat.blt 1 900 = true from rfl), p1]
      exact brel_v rfl
    | tail _ he =>
      cases he with
      | head =>
        show brel _ (0, [(2, 1)]) (bvl E h 84 9)
        rw [bvl_n (show Nat.blt 84 900 = true from rfl), p2]
        exact brel_v rfl
      | tail _ he =>
        cases he with
        | head =>
          show brel _ (0, [(3, 1)]) (bvl E h 30 4)
          rw [bvl_n (show Nat.blt 30 900 = true from rfl), p3]
          exact brel_v rfl
        | tail _ he =>
          cases he with
          | head =>
            show brel _ (0, [(3, 1)]) (bvl E h 84 6)
            rw [bvl_n (show Nat.blt 84 900 = true from rfl), p4]
            exact brel_v rfl
          | tail _ he => exact absurd he List.not_mem_nil
  · intro N hN V' ls' h' y hR hy h0 hlt d f hd hf
    have hcs : bcs V' t5C → V'.length = 4 ∨ True → ∀ U, V' = [(E.1 : Int), (i : Int), (L : Int), (im : Int)] ++ U → i + 6 ≤ E.1 := by
      intro hc _ U hU
      subst hU
      obtain ⟨x, x1, x2⟩ := hc _ (List.Mem.head _)
      have x3 : x = -6 + (1 * (E.1 : Int) + ((-1) * (i : Int) + 0)) := brel_x x1
      omega
    have px : bRQ ctb w4W h 24 2400 h' → ∀ im2, (im2 = 1 → im = 1) → PX h' im2 := fun q im2 hz => ⟨PL_f (FrP_w w4P q.2.2.2.1) pX.1, AI_f (FrA_w w4A q.2.2.2.1) (FrP_w w4P q.2.2.2.1).2.2.2.2 pX.2.1, fun z => PI_f (FrI_w w4I q.2.2.2.1) (pX.2.2 (hz z))⟩
    have tapes : bRQ ctb w4W h 24 2400 h' → (∀ i, 0 ≤ tp2 h' i ∧ tp2 h' i ≤ 255) ∧ ∀ i, tp90 h' i = sg8 (tp2 h' i) := by
      intro q
      rw [show tp2 h' = tp2 h from tp2_e fun i => q.2.2.2.1 2 i w5W2, show tp90 h' = tp90 h from tp90_e fun i => q.2.2.2.1 90 i w5W90]
      exact ⟨p7, p8⟩
    cases hN with
    | head =>
      obtain ⟨⟨U, hU⟩, k1, k2, k3⟩ := hR
      have hlen : (6 : Nat) = V'.length := k2.2.1
      obtain ⟨v4, v5, hU2⟩ : ∃ a b, U = [a, b] := by
        rw [hU, List.length_append] at hlen
        match U, hlen with
        | [], z => exact absurd z (by simp)
        | [a], z => exact absurd z (by simp)
        | [a, b], _ => exact ⟨a, b, rfl⟩
        | a :: b :: c :: U, z => exact absurd z (by simp only [List.length_cons]; omega)
      subst hU2
      have g1 := hcs k2.2.2.1 (Or.inr trivial) _ hU
      subst hU
      obtain ⟨jv, o5, o6, e1, e2⟩ := t5A_s k1
      have e2 : jv.toInt = 6 + (1 * (i : Int) + 0) := e2
      have q := bRQ_of (a := 24) (b := 2400) k2
      obtain ⟨a4, z4, b4, b5⟩ := k2.1.2 4 0 400 rfl
      obtain ⟨a5, z5, c4, c5⟩ := k2.1.2 5 0 1 rfl
      have z4 : v4 = a4 := Option.some.inj z4
      have z5 : v5 = a5 := Option.some.inj z5
      subst z4 z5
      have r1 : (h'.2.1 1 1).toInt = v4 := bpv_v k3 (c := 1) (k := 1) (i := 4) rfl (List.Mem.head _)
      have r2 : (h'.2.1 84 9).toInt = v4 := bpv_v k3 (c := 84) (k := 9) (i := 4) rfl (List.Mem.tail _ (List.Mem.head _))
      have r3 : (h'.2.1 30 4).toInt = v5 := bpv_v k3 (c := 30) (k := 4) (i := 5) rfl (List.Mem.tail _ (List.Mem.tail _ (List.Mem.head _)))
      have r4 : (h'.2.1 84 6).toInt = v5 := bpv_v k3 (c := 84) (k := 6) (i := 5) rfl (List.Mem.tail _ (List.Mem.tail _ (List.Mem.tail _ (List.Mem.head _))))
      have r30 : (h'.2.1 30 4).toInt = (im : Int) := by rw [q.2.2.2.1 30 4 w430]; exact p3
      rw [e1]
      exact kN h' v4.toNat v5.toNat jv o5 o6 g1 (by omega) ⟨⟨q.1, q.2.1, q.2.2.1, ⟨by omega, by omega, by omega, by omega⟩, by omega, by omega, tapes q⟩, px q _ (fun z => by omega), EX_w w4E q.2.2.2.1 pE⟩ q.2.2.2.2.1 q.2.2.2.2.2 d f hd hf
    | tail _ hN =>
      obtain ⟨pc, hpc, hN⟩ := List.mem_map.mp hN
      subst hN
      obtain ⟨⟨U, hU⟩, k1, k2, k3⟩ := hR
      have hlen : (4 : Nat) = V'.length := k2.2.1
      have hU2 : U = [] := by
        rw [hU, List.length_append] at hlen
        exact List.length_eq_zero_iff.mp (by simp only [List.length_cons, List.length_nil] at hlen; omega)
      subst hU2
      have g1 := hcs k2.2.2.1 (Or.inr trivial) _ hU
      subst hU
      obtain ⟨jv, o5, o6, e1, e2⟩ := t5A_s k1
      have e2 : jv.toInt = 0 + (1 * (i : Int) + 0) := e2
      have q := bRQ_of (a := 0) (b := 0) k2
      have r1 : (h'.2.1 1 1).toInt = (L : Int) := bpv_v k3 (c := 1) (k := 1) (i := 2) rfl (List.Mem.head _)
      have r2 : (h'.2.1 84 9).toInt = (L : Int) := bpv_v k3 (c := 84) (k := 9) (i := 2) rfl (List.Mem.tail _ (List.Mem.head _))
      have r3 : (h'.2.1 30 4).toInt = (im : Int) := bpv_v k3 (c := 30) (k := 4) (i := 3) rfl (List.Mem.tail _ (List.Mem.tail _ (List.Mem.head _)))
      have r4 : (h'.2.1 84 6).toInt = (im : Int) := bpv_v k3 (c := 84) (k := 6) (i := 3) rfl (List.Mem.tail _ (List.Mem.tail _ (List.Mem.tail _ (List.Mem.head _))))
      rw [e1]
      exact kX pc hpc h' jv o5 o6 g1 (by omega) ⟨⟨q.1, q.2.1, q.2.2.1, ⟨r1, r2, r3, r4⟩, p5, p6, tapes (bRQ_ab q (by decide) (by decide))⟩, px (bRQ_ab q (by decide) (by decide)) im (fun z => z), EX_w w4E q.2.2.2.1 pE⟩ q.2.2.2.2.1 q.2.2.2.2.2 d f hd hf
set_option maxRecDepth 100000 in
theorem op_any (hE : E.1 ≤ 3072) (hsm : bSO E ctb B (60, smT)) (hX : LX h L im) {iv : Int32} {I : Nat} (hiv : iv.toInt = (I : Int)) (hI : I ≤ 3072) (hI6 : I + 6 ≤ E.1) {u5 u6 : Option Value} : ∀ pc, pc ∈ spc → ∀ d f, 100 ≤ d → B + 500000000000 ≤ f → opS E d iv f h (zex E (f + 100) d 0 pc (t5K iv u5 u6) [] h) := by
  intro pc hpc d f hd hf
  cases hpc with
  | head => exact op_feed hX hiv hI hI6 d f hd (by omega)
  | tail _ hpc =>
    cases hpc with
    | head => exact op_house hE hsm hX hiv hI6 d f hd (by omega)
    | tail _ hpc =>
      cases hpc with
      | head => exact op_law hE hsm hX hiv hI6 d f hd (by omega)
      | tail _ hpc =>
        cases hpc with
        | head => exact op_rounds hE hsm hX hiv hI6 d f hd (by omega)
        | tail _ hpc =>
          cases hpc with
          | head => exact op_sweep hE hsm hX hiv hI6 d f hd (by omega)
          | tail _ hpc =>
            cases hpc with
            | head => exact op_beat hE hsm hX hiv hI6 d f hd (by omega)
            | tail _ hpc =>
              cases hpc with
              | head => exact op_tool hE hsm hX hiv hI6 d f hd (by omega)
              | tail _ hpc =>
                cases hpc with
                | head => exact op_keep hE hsm hX hiv hI6 d f hd (by omega)
                | tail _ hpc =>
                  cases hpc with
                  | head => exact op_soak hE hsm hX hiv hI6 d f hd (by omega)
                  | tail _ hpc =>
                    cases hpc with
                    | head => exact op_trial hE hsm hX hiv hI6 d f hd (by omega)
                    | tail _ hpc =>
                      cases hpc with
                      | head => exact op_worth hE hsm hX hiv hI6 d f hd (by omega)
                      | tail _ hpc =>
                        cases hpc with
                        | head => exact op_stand hE hsm hX hiv hI6 d f hd (by omega)
                        | tail _ hpc =>
                          cases hpc with
                          | head => exact op_two hE hsm hX hiv hI6 d f hd (by omega)
                          | tail _ hpc =>
                            cases hpc with
                            | head => exact op_keepers hE hsm hX hiv hI6 d f hd (by omega)
                            | tail _ hpc =>
                              cases hpc with
                              | head => exact op_often hE hsm hX hiv hI6 d f hd (by omega)
                              | tail _ hpc =>
                                cases hpc with
                                | head => exact op_when hE hsm hX hiv hI6 d f hd (by omega)
                                | tail _ hpc =>
                                  cases hpc with
                                  | head => exact op_clogs hE hsm hX hiv hI6 d f hd (by omega)
                                  | tail _ hpc =>
                                    cases hpc with
                                    | head => exact op_fades hE hsm hX hiv hI6 d f hd (by omega)
                                    | tail _ hpc =>
                                      cases hpc with
                                      | head => exact op_later hE hsm hX hiv hI6 d f hd (by omega)
                                      | tail _ hpc =>
                                        cases hpc with
                                        | head => exact op_towel hE hsm hX hiv hI6 d f hd (by omega)
                                        | tail _ hpc =>
                                          cases hpc with
                                          | head => exact op_towelled hE hsm hX hiv hI6 d f hd (by omega)
                                          | tail _ hpc =>
                                            cases hpc with
                                            | head => exact op_span hE hsm hX hiv hI6 d f hd (by omega)
                                            | tail _ hpc =>
                                              cases hpc with
                                              | head => exact op_peak hE hsm hX hiv hI6 d f hd (by omega)
                                              | tail _ hpc =>
                                                cases hpc with
                                                | head => exact op_ways hE hsm hX hiv hI6 d f hd (by omega)
                                                | tail _ hpc =>
                                                  cases hpc with
                                                  | head => exact op_undo hE hsm hX hiv hI6 d f hd (by omega)
                                                  | tail _ hpc =>
                                                    cases hpc with
                                                    | head => exact op_image hE hsm hX hiv hI6 d f hd (by omega)
                                                    | tail _ hpc =>
                                                      cases hpc with
                                                      | head => exact op_back hE hsm hX hiv hI6 d f hd (by omega)
                                                      | tail _ hpc =>
                                                        exact absurd hpc List.not_mem_nil
set_option maxRecDepth 100000 in
theorem int6 : (6 : Int32).toInt = 6 := by decide
set_option maxRecDepth 100000 in
theorem t4_loop (hE : E.1 ≤ 3072) (hsm : bSO E ctb B (60, smT)) {C S : Nat} : ∀ (j i : Nat) (h : zH) (L im : Nat) (iv : Int32) (u5 u6 : Option Value), E.1 ≤ i + 6 * j → i ≤ 3072 → iv.toInt = (i : Int) → LX h L im → h.2.2.2.1 + 24 * (j + 1) ≤ C → h.2.2.2.2 + 2400 * (j + 1) ≤ S →
    ∀ d f, 100 ≤ d → B + tLK * 2 * (j + 1) ≤ f → t5Q C S (zex E f d 0 23 (t5K iv u5 u6) [] h) := by
  intro j
  have ht : tLK = 1000000000000 := rfl
  induction j with
  | zero =>
    intro i h L im iv u5 u6 hj hi hiv hI hC hS d f hd hf
    have hone : tLK * 2 * (0 + 1) = tLK * 2 := Nat.mul_one _
    refine t4_head hE hsm hi hiv hI (by omega) (by omega) (Bq := B) (Nat.le_refl _) ?_ ?_ d f hd (by omega)
    · intro h' L' im' jv v5 v6 h1 h2; omega
    · intro pc hpc h' jv v5 v6 h1 h2; omega
  | succ j IH =>
    intro i h L im iv u5 u6 hj hi hiv hI hC hS d f hd hf
    have hmul : tLK * 2 * (j + 1 + 1) = tLK * 2 * (j + 1) + tLK * 2 := Nat.mul_succ (tLK * 2) (j + 1)
    have hq9 : tLK * 2 ≤ tLK * 2 * (j + 1) := Nat.le_mul_of_pos_right _ (Nat.succ_pos j)
    refine t4_head hE hsm hi hiv hI (by omega) (by omega) (Bq := B + tLK * 2 * (j + 1) + tLK) (by omega) ?_ ?_ d f hd (by omega)
    · intro h' L' im' jv v5 v6 g1 g2 g3 g4 g5 d f hd hf
      exact IH (i + 6) h' L' im' jv v5 v6 (by omega) (by omega) (by omega) g3 (by omega) (by omega) d f hd (by omega)
    · intro pc hpc h' jv v5 v6 g1 g2 g3 g4 g5 d f hd hf
      obtain ⟨g, hg⟩ : ∃ g, f = g + 100 := ⟨f - 100, by omega⟩
      subst hg
      obtain ⟨h2, o5, o6, f9, L2, im2, k1, k2, k3, k4, k5⟩ := op_any hE hsm g3 g2 hi g1 (u5 := v5) (u6 := v6) pc hpc d g hd (by omega)
      rw [k2]
      exact IH (i + 6) h2 L2 im2 (jv + 6) o5 o6 (by omega) (by omega) (by rw [i32_add (by rw [g2, int6]; omega) (by rw [g2, int6]; omega), g2, int6]; omega) k3 (by omega) (by omega) d f9 hd (by omega)
end LW
