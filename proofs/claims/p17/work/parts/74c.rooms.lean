/-! the model's reader of THE HOUSE: rooms, sorts, doors, exactly (wip/zab2/c/geng14.py) -/
set_option maxRecDepth 100000 in
theorem b84_ha {W : Nat} {h0 h : zH} {a b : Nat} (hr : bRQ ctb W h0 a b h) : zat h.1 84 = some (.inr (.inl (12, [none, some (some 85), some (some 86), some (some 87), some (some 88), some (some 89), none, none, some (some 90), none, none, none, none, none, none, some (some 91), none, some (some 92), some (some 93)]))) := hr.2.2.1 84 _ cs84 (by intro z; cases z)
set_option maxRecDepth 100000 in
theorem b85_ha {W : Nat} {h0 h : zH} {a b : Nat} (hr : bRQ ctb W h0 a b h) : zat h.1 85 = some (.inl (0, 2475, [])) := hr.2.2.1 85 _ ks85 (by intro z; cases z)
/-- what a number is -/
def nqM (T : Nat → Int) (L s : Nat) (r : Option Int) (y : Int32) (p' : Nat) : Prop := match r with
  | some v => y.toInt = v ∧ p' = kE T L s
  | none => y.toInt = -1
set_option maxRecDepth 100000 in
theorem door_i {i : Int32} {n : Nat} (hi : i.toInt = (n : Int)) (hn : n < 20) : (145 + 2 * i).toInt = ((145 + 2 * n : Nat) : Int) ∧ (145 + 2 * i + 1).toInt = ((146 + 2 * n : Nat) : Int) := by
  rw [i32_nat hi]
  have : ∀ n, n < 20 → (145 + 2 * Int32.ofNat n).toInt = ((145 + 2 * n : Nat) : Int) ∧ (145 + 2 * Int32.ofNat n + 1).toInt = ((146 + 2 * n : Nat) : Int) := by decide +kernel
  exact this n hn
/-- the HABITS in the model's row -/
def RH9 (f : Nat → Int32) (σ : hSt) : Prop := ∀ p, p < sP σ → (f (188 + 24 * p)).toInt = (ssl σ p : Int) ∧ ∀ i, i < ssl σ p → (f (189 + 24 * p + i)).toInt = (swk σ p i : Int)
/-- what the model's row tells of the house -/
def RMf (f : Nat → Int32) (σ : hSt) : Prop := ((f 0).toInt = (sR σ : Int) ∧ (f 1).toInt = (sD σ : Int) ∧ (f 2).toInt = (sP σ : Int)) ∧ (∀ i q, (sdl σ)[i]? = some q → (f (145 + 2 * i)).toInt = (q.1 : Int) ∧ (f (146 + 2 * i)).toInt = (q.2 : Int)) ∧ RH9 f σ
def RM (h : zH) (σ : hSt) : Prop := RMf (h.2.1 85) σ
set_option maxRecDepth 100000 in
theorem RM_w {h h' : zH} {σ : hSt} (hR : RM h σ) (hW : WF σ) (hw : RW h h') : RM h' σ := by
  obtain ⟨⟨r1, r2, r3⟩, r4, r5⟩ := hR
  have w2 := hW.2.1
  have w3 := hW.2.2.1
  have w4 := hW.2.2.2.1
  have w6 := hW.2.2.2.2.2
  refine ⟨⟨by rw [hw 0 (by decide)]; exact r1, by rw [hw 1 (by decide)]; exact r2, by rw [hw 2 (by decide)]; exact r3⟩, fun i q hi => ?_, fun p hp => ?_⟩
  · have hl := (List.getElem?_eq_some_iff.mp hi).1
    rw [hw (145 + 2 * i) (by omega), hw (146 + 2 * i) (by omega)]
    exact r4 i q hi
  · have w7 := w6 p hp
    rw [hw (188 + 24 * p) (by omega)]
    refine ⟨(r5 p hp).1, fun i hi => ?_⟩
    rw [hw (189 + 24 * p + i) (by omega)]
    exact (r5 p hp).2 i hi
section MZ
variable {E : zE} {B F : Nat} {h0 h : zH} {L p b : Nat} {σ : hSt}
set_option maxRecDepth 100000 in
theorem y_room (hE : E.1 < 2147483648) (hsm : bSO E ctb B (60, smT)) (hF : 1000000 ≤ F) (hL : L ≤ 400) (ht : YT h0 L h p b) (hR : (h.2.1 85 0).toInt = (sR σ : Int)) (hW : sR σ ≤ 12) :
    ∀ d f, 63 ≤ d → B + F * 406 ≤ f → ∃ y h' p', zex E f d 245 0 [some (.ref 84)] [] h = some (.inl (some (.int y)), h') ∧ RW h h' ∧ YT h0 L h' p' (sk isBl (tp90 h0) L p) ∧ nqM (tp90 h0) L (sk isBl (tp90 h0) L p) (nmq (tp90 h0) L (sk isBl (tp90 h0) L p) 0 ((sR σ : Int) - 1)) y p' := by
  intro d f hd hf
  obtain ⟨d', hd'⟩ : ∃ d', d = d' + 1 := ⟨d - 1, by omega⟩
  obtain ⟨n, hn⟩ : ∃ n, f = n + 60 := ⟨f - 60, by omega⟩
  subst hd' hn
  have h1 : (h.2.1 85 0 - 1).toInt = (sR σ : Int) - 1 := by rw [i32_sub (by rw [hR, int1]; omega) (by rw [hR, int1]; omega), hR, int1]
  have e1 := mh_rooms (E := E) (n := n + 51) (d := d') (x := h.2.1 85 0) rfl (b84_ha ht.1) (b85_ha ht.1)
  obtain ⟨y, h', p', e2, k1, k2, k3⟩ := y_num hE hsm hF hL ht (x1 := 0) (x2 := h.2.1 85 0 - 1) (by decide) d' (n + 53) (by omega) (by omega)
  rw [h1, zi0] at k3
  exact ⟨y, h', p', mh_room (n := n + 52) (d := d') (b84_ha ht.1) e1 e2, k1, k2, k3⟩
set_option maxRecDepth 100000 in
theorem y_pers (hE : E.1 < 2147483648) (hsm : bSO E ctb B (60, smT)) (hF : 1000000 ≤ F) (hL : L ≤ 400) (ht : YT h0 L h p b) (hR : (h.2.1 85 2).toInt = (sP σ : Int)) (hW : sP σ ≤ 8) :
    ∀ d f, 63 ≤ d → B + F * 406 ≤ f → ∃ y h' p', zex E f d 246 0 [some (.ref 84)] [] h = some (.inl (some (.int y)), h') ∧ RW h h' ∧ YT h0 L h' p' (sk isBl (tp90 h0) L p) ∧ nqM (tp90 h0) L (sk isBl (tp90 h0) L p) (nmq (tp90 h0) L (sk isBl (tp90 h0) L p) 0 ((sP σ : Int) - 1)) y p' := by
  intro d f hd hf
  obtain ⟨d', hd'⟩ : ∃ d', d = d' + 1 := ⟨d - 1, by omega⟩
  obtain ⟨n, hn⟩ : ∃ n, f = n + 60 := ⟨f - 60, by omega⟩
  subst hd' hn
  have h1 : (h.2.1 85 2 - 1).toInt = (sP σ : Int) - 1 := by rw [i32_sub (by rw [hR, int1]; omega) (by rw [hR, int1]; omega), hR, int1]
  have e1 := mh_people (E := E) (n := n + 51) (d := d') (x := h.2.1 85 2) rfl (b84_ha ht.1) (b85_ha ht.1)
  obtain ⟨y, h', p', e2, k1, k2, k3⟩ := y_num hE hsm hF hL ht (x1 := 0) (x2 := h.2.1 85 2 - 1) (by decide) d' (n + 53) (by omega) (by omega)
  rw [h1, zi0] at k3
  exact ⟨y, h', p', mh_pers (n := n + 52) (d := d') (b84_ha ht.1) e1 e2, k1, k2, k3⟩
set_option maxRecDepth 100000 in
theorem y_numc (hE : E.1 < 2147483648) (hsm : bSO E ctb B (60, smT)) (hF : 1000000 ≤ F) (hL : L ≤ 400) (ht : YT h0 L h p b) {x1 x2 : Int32} {lo hi : Int} (h1 : x1.toInt = lo) (h2 : x2.toInt = hi) (h3 : 0 ≤ lo) :
    ∀ d f, 62 ≤ d → B + F * 405 ≤ f → ∃ y h' p', zex E f d 241 0 [some (.ref 84), some (.int x1), some (.int x2)] [] h = some (.inl (some (.int y)), h') ∧ RW h h' ∧ YT h0 L h' p' (sk isBl (tp90 h0) L p) ∧ nqM (tp90 h0) L (sk isBl (tp90 h0) L p) (nmq (tp90 h0) L (sk isBl (tp90 h0) L p) lo hi) y p' := by
  intro d f hd hf
  subst h1 h2
  exact y_num hE hsm hF hL ht h3 d f hd hf
set_option maxRecDepth 100000 in
theorem y_sorts (hE : E.1 < 2147483648) (hsm : bSO E ctb B (60, smT)) (hF : 1000000 ≤ F) (hL : L ≤ 400) {q : Nat} (hq : q ≤ L) (hpq : p = sk isLt (tp90 h0) L b) (hbq : b = sk isBl (tp90 h0) L q) (ht : YT h0 L h p b) :
    ∀ d f, 61 ≤ d → B + 2000000 ≤ f → ∃ (x : Int32) (h' : zH), zex E f d 242 0 [some (.ref 84)] [] h = some (.inl (some (.int x)), h') ∧ RW h h' ∧ YT h0 L h' p b ∧ ((x.toInt = -1 ∧ uSorts.any (wqs (tp90 h0) L b) = false) ∨ (0 ≤ x.toInt ∧ x.toInt ≤ 4 ∧ uSorts.any (wqs (tp90 h0) L b) = true)) := by
  intro d f hd hf
  obtain ⟨d', hd'⟩ : ∃ d', d = d' + 1 := ⟨d - 1, by omega⟩
  obtain ⟨n, hn⟩ : ∃ n, f = n + 60 := ⟨f - 60, by omega⟩
  subst hd' hn
  have st : ∀ {h : zH} (ht : YT h0 L h p b) {w : Nat} {u : List Nat} (hw : (w, u) ∈ mws) (hu : u ≠ []) (f : Nat), B + 1000000 ≤ f → ∃ h', zex E f d' 237 0 [some (.ref 84), some (.retAddr w), none, none] [] h = some (.inl (some (.int (if wqs (tp90 h0) L b u = true then 1 else 0))), h') ∧ RW h h' ∧ YT h0 L h' p b := fun {h} ht {w u} hw hu f hf => y_word hE hsm hF hL hq hpq hbq ht hw hu d' f (by omega) hf
  unfold uSorts
  simp only [List.any_cons, List.any_nil]
  by_cases q0 : wqs (tp90 h0) L b [111, 117, 116] = true
  · obtain ⟨h1, e1, r1, y1⟩ := st ht (w := 24) (u := [111, 117, 116]) (by decide) (by decide) (n + 57) (by omega)
    rw [if_pos q0] at e1
    exact ⟨0, h1, mh_so0 (n := n + 53) (d := d') (b84_ha ht.1) e1, r1, y1, Or.inr ⟨by decide, by decide, by simp only [q0, Bool.true_or, Bool.or_true]⟩⟩
  · skip
    by_cases q1 : wqs (tp90 h0) L b [115, 116, 111, 110, 101] = true
    · obtain ⟨h1, e1, r1, y1⟩ := st ht (w := 24) (u := [111, 117, 116]) (by decide) (by decide) (n + 57) (by omega)
      rw [if_neg q0] at e1
      obtain ⟨h2, e2, r2, y2⟩ := st y1 (w := 25) (u := [115, 116, 111, 110, 101]) (by decide) (by decide) (n + 53) (by omega)
      rw [if_pos q1] at e2
      exact ⟨1, h2, mh_so1 (n := n + 49) (d := d') (b84_ha ht.1) (b84_ha y1.1) e1 e2, (RW_t r1 r2), y2, Or.inr ⟨by decide, by decide, by simp only [q1, Bool.true_or, Bool.or_true]⟩⟩
    · skip
      by_cases q2 : wqs (tp90 h0) L b [99, 97, 114, 112, 101, 116] = true
      · obtain ⟨h1, e1, r1, y1⟩ := st ht (w := 24) (u := [111, 117, 116]) (by decide) (by decide) (n + 57) (by omega)
        rw [if_neg q0] at e1
        obtain ⟨h2, e2, r2, y2⟩ := st y1 (w := 25) (u := [115, 116, 111, 110, 101]) (by decide) (by decide) (n + 53) (by omega)
        rw [if_neg q1] at e2
        obtain ⟨h3, e3, r3, y3⟩ := st y2 (w := 26) (u := [99, 97, 114, 112, 101, 116]) (by decide) (by decide) (n + 49) (by omega)
        rw [if_pos q2] at e3
        exact ⟨2, h3, mh_so2 (n := n + 45) (d := d') (b84_ha ht.1) (b84_ha y1.1) (b84_ha y2.1) e1 e2 e3, (RW_t (RW_t r1 r2) r3), y3, Or.inr ⟨by decide, by decide, by simp only [q2, Bool.true_or, Bool.or_true]⟩⟩
      · skip
        by_cases q3 : wqs (tp90 h0) L b [98, 101, 100] = true
        · obtain ⟨h1, e1, r1, y1⟩ := st ht (w := 24) (u := [111, 117, 116]) (by decide) (by decide) (n + 57) (by omega)
          rw [if_neg q0] at e1
          obtain ⟨h2, e2, r2, y2⟩ := st y1 (w := 25) (u := [115, 116, 111, 110, 101]) (by decide) (by decide) (n + 53) (by omega)
          rw [if_neg q1] at e2
          obtain ⟨h3, e3, r3, y3⟩ := st y2 (w := 26) (u := [99, 97, 114, 112, 101, 116]) (by decide) (by decide) (n + 49) (by omega)
          rw [if_neg q2] at e3
          obtain ⟨h4, e4, r4, y4⟩ := st y3 (w := 27) (u := [98, 101, 100]) (by decide) (by decide) (n + 45) (by omega)
          rw [if_pos q3] at e4
          exact ⟨3, h4, mh_so3 (n := n + 41) (d := d') (b84_ha ht.1) (b84_ha y1.1) (b84_ha y2.1) (b84_ha y3.1) e1 e2 e3 e4, (RW_t (RW_t (RW_t r1 r2) r3) r4), y4, Or.inr ⟨by decide, by decide, by simp only [q3, Bool.true_or, Bool.or_true]⟩⟩
        · skip
          by_cases q4 : wqs (tp90 h0) L b [100, 114, 97, 105, 110] = true
          · obtain ⟨h1, e1, r1, y1⟩ := st ht (w := 24) (u := [111, 117, 116]) (by decide) (by decide) (n + 57) (by omega)
            rw [if_neg q0] at e1
            obtain ⟨h2, e2, r2, y2⟩ := st y1 (w := 25) (u := [115, 116, 111, 110, 101]) (by decide) (by decide) (n + 53) (by omega)
            rw [if_neg q1] at e2
            obtain ⟨h3, e3, r3, y3⟩ := st y2 (w := 26) (u := [99, 97, 114, 112, 101, 116]) (by decide) (by decide) (n + 49) (by omega)
            rw [if_neg q2] at e3
            obtain ⟨h4, e4, r4, y4⟩ := st y3 (w := 27) (u := [98, 101, 100]) (by decide) (by decide) (n + 45) (by omega)
            rw [if_neg q3] at e4
            obtain ⟨h5, e5, r5, y5⟩ := st y4 (w := 28) (u := [100, 114, 97, 105, 110]) (by decide) (by decide) (n + 41) (by omega)
            rw [if_pos q4] at e5
            exact ⟨4, h5, mh_so4 (n := n + 37) (d := d') (b84_ha ht.1) (b84_ha y1.1) (b84_ha y2.1) (b84_ha y3.1) (b84_ha y4.1) e1 e2 e3 e4 e5, (RW_t (RW_t (RW_t (RW_t r1 r2) r3) r4) r5), y5, Or.inr ⟨by decide, by decide, by simp only [q4, Bool.true_or, Bool.or_true]⟩⟩
          · skip
            obtain ⟨h1, e1, r1, y1⟩ := st ht (w := 24) (u := [111, 117, 116]) (by decide) (by decide) (n + 57) (by omega)
            rw [if_neg q0] at e1
            obtain ⟨h2, e2, r2, y2⟩ := st y1 (w := 25) (u := [115, 116, 111, 110, 101]) (by decide) (by decide) (n + 53) (by omega)
            rw [if_neg q1] at e2
            obtain ⟨h3, e3, r3, y3⟩ := st y2 (w := 26) (u := [99, 97, 114, 112, 101, 116]) (by decide) (by decide) (n + 49) (by omega)
            rw [if_neg q2] at e3
            obtain ⟨h4, e4, r4, y4⟩ := st y3 (w := 27) (u := [98, 101, 100]) (by decide) (by decide) (n + 45) (by omega)
            rw [if_neg q3] at e4
            obtain ⟨h5, e5, r5, y5⟩ := st y4 (w := 28) (u := [100, 114, 97, 105, 110]) (by decide) (by decide) (n + 41) (by omega)
            rw [if_neg q4] at e5
            have z0 := eq_false_of_ne_true q0
            have z1 := eq_false_of_ne_true q1
            have z2 := eq_false_of_ne_true q2
            have z3 := eq_false_of_ne_true q3
            have z4 := eq_false_of_ne_true q4
            exact ⟨-1, h5, mh_so5 (n := n + 38) (d := d') (b84_ha ht.1) (b84_ha y1.1) (b84_ha y2.1) (b84_ha y3.1) (b84_ha y4.1) e1 e2 e3 e4 e5, (RW_t (RW_t (RW_t (RW_t r1 r2) r3) r4) r5), y5, Or.inl ⟨by decide, by rw [z0, z1, z2, z3, z4]; rfl⟩⟩
set_option maxRecDepth 100000 in
theorem near_k {l : List (Nat × Nat)} {a b i : Nat} {q : Nat × Nat} (h : l[i]? = some q) : (l.take (i + 1)).any (fun q => (Nat.beq q.1 a && Nat.beq q.2 b) || (Nat.beq q.1 b && Nat.beq q.2 a)) = ((l.take i).any (fun q => (Nat.beq q.1 a && Nat.beq q.2 b) || (Nat.beq q.1 b && Nat.beq q.2 a)) || ((Nat.beq q.1 a && Nat.beq q.2 b) || (Nat.beq q.1 b && Nat.beq q.2 a))) := by
  rw [List.take_add_one, h, List.any_append]
  simp only [Option.toList, List.any_cons, List.any_nil, Bool.or_false]
set_option maxRecDepth 100000 in
theorem y_nearL {W : Nat} {g0 : zH} {ga gb : Nat} (hr : bRQ ctb W g0 ga gb h) (hR : RM h σ) (hW : WF σ) {a9 b9 : Int32} {a b : Nat} (ha : a9.toInt = (a : Int)) (hb : b9.toInt = (b : Int)) : ∀ (k i : Nat) (f9 i9 : Int32) (u5 u6 : Option Value), k + i = sD σ → i9.toInt = (i : Int) → f9 = (if (((sdl σ).take i).any fun q => (Nat.beq q.1 a && Nat.beq q.2 b) || (Nat.beq q.1 b && Nat.beq q.2 a)) = true then 1 else 0) →
    ∀ d f, 100 * (k + 1) ≤ f → zex E f d 230 5 [some (.ref 84), some (.int a9), some (.int b9), some (.int f9), some (.int i9), u5, u6] [] h = some (.inl (some (.int (if dor (sdl σ) a b = true then 1 else 0))), h) := by
  intro k
  have w2 := hW.2.1
  have w4 := hW.2.2.2.1
  obtain ⟨⟨r1, r2, r3⟩, r4, _⟩ := hR
  have a84 := b84_ha hr
  have a85 := b85_ha hr
  induction k with
  | zero =>
    intro i f9 i9 u5 u6 hk hi hf9 d f hf
    obtain ⟨n, hn⟩ : ∃ n, f = n + 100 := ⟨f - 100, by omega⟩
    subst hn
    have : (sdl σ).take i = sdl σ := List.take_of_length_le (by omega)
    rw [this] at hf9
    have hx01 : f9 = 0 ∨ f9 = 1 := by rw [hf9]; split; exact Or.inr rfl; exact Or.inl rfl
    rw [mn_1 (n := n + 92) (d := d) hx01 rfl (by rw [r2, hi]; omega) a84 a85, hf9]
    rfl
  | succ k IH =>
    intro i f9 i9 u5 u6 hk hi hf9 d f hf
    obtain ⟨n, hn⟩ : ∃ n, f = n + 100 := ⟨f - 100, by omega⟩
    subst hn
    have hlt : i < (sdl σ).length := by omega
    have hq : (sdl σ)[i]? = some ((sdl σ)[i]) := List.getElem?_eq_getElem hlt
    generalize (sdl σ)[i] = q at hq
    obtain ⟨q1, q2⟩ := r4 i q hq
    obtain ⟨j1, j2⟩ := door_i hi (by omega)
    rw [mn_2 (n := n + 74) (d := d) (x := h.2.1 85 (145 + 2 * i)) (y := h.2.1 85 (146 + 2 * i)) rfl (by rw [r2, hi]; omega) j1 (by omega) rfl j2 (by omega) rfl a84 a85]
    have hi1 : (i9 + 1).toInt = ((i + 1 : Nat) : Int) := by rw [i32_add (by rw [hi, int1]; omega) (by rw [hi, int1]; omega), hi, int1]; omega
    have nk := near_k (a := a) (b := b) hq
    have to1 : ∀ m, 100 * (k + 1) + 5 ≤ m → (((sdl σ).take (i + 1)).any fun q => (Nat.beq q.1 a && Nat.beq q.2 b) || (Nat.beq q.1 b && Nat.beq q.2 a)) = true → zex E m d 230 76 [some (.ref 84), some (.int a9), some (.int b9), some (.int f9), some (.int i9), some (.int (h.2.1 85 (145 + 2 * i))), some (.int (h.2.1 85 (146 + 2 * i)))] [] h = some (.inl (some (.int (if dor (sdl σ) a b = true then 1 else 0))), h) := fun m hm ht => by
      obtain ⟨n, hn⟩ : ∃ n, m = n + 5 := ⟨m - 5, by omega⟩
      rw [hn, mn_a (n := n) (d := d)]
      exact IH (i + 1) 1 (i9 + 1) _ _ (by omega) hi1 (by rw [if_pos ht]) d n (by omega)
    have to0 : ∀ m, 100 * (k + 1) + 5 ≤ m → ¬ (((sdl σ).take (i + 1)).any fun q => (Nat.beq q.1 a && Nat.beq q.2 b) || (Nat.beq q.1 b && Nat.beq q.2 a)) = true → zex E m d 230 80 [some (.ref 84), some (.int a9), some (.int b9), some (.int f9), some (.int i9), some (.int (h.2.1 85 (145 + 2 * i))), some (.int (h.2.1 85 (146 + 2 * i)))] [] h = some (.inl (some (.int (if dor (sdl σ) a b = true then 1 else 0))), h) := fun m hm ht => by
      obtain ⟨n, hn⟩ : ∃ n, m = n + 4 := ⟨m - 4, by omega⟩
      rw [hn, mn_b (n := n) (d := d)]
      exact IH (i + 1) 0 (i9 + 1) _ _ (by omega) hi1 (by rw [if_neg ht]) d n (by omega)
    by_cases hpre : (((sdl σ).take i).any fun q => (Nat.beq q.1 a && Nat.beq q.2 b) || (Nat.beq q.1 b && Nat.beq q.2 a)) = true
    · rw [if_pos hpre] at hf9
      rw [mn_3 (n := n + 72) (d := d) (by rw [hf9]; decide)]
      exact to1 _ (by omega) (by rw [nk, hpre, Bool.true_or])
    · rw [if_neg hpre] at hf9
      have hf0 : f9.toInt = 0 := by rw [hf9]; rfl
      have hpf := eq_false_of_ne_true hpre
      rw [hpf, Bool.false_or] at nk
      have at64 : ∀ m, 100 * (k + 1) + 30 ≤ m → (Nat.beq q.1 a && Nat.beq q.2 b) = false → zex E m d 230 64 [some (.ref 84), some (.int a9), some (.int b9), some (.int f9), some (.int i9), some (.int (h.2.1 85 (145 + 2 * i))), some (.int (h.2.1 85 (146 + 2 * i)))] [] h = some (.inl (some (.int (if dor (sdl σ) a b = true then 1 else 0))), h) := fun m hm h1 => by
        rw [h1, Bool.false_or] at nk
        by_cases hb1 : q.1 = b
        · by_cases ha1 : q.2 = a
          · obtain ⟨n, hn⟩ : ∃ n, m = n + 6 := ⟨m - 6, by omega⟩
            rw [hn, mn_9 (n := n) (d := d) (by rw [q1, hb, hb1]) (by rw [q2, ha, ha1])]
            exact to1 n (by omega) (by rw [nk, hb1, ha1, Nat.beq_refl, Nat.beq_refl]; rfl)
          · obtain ⟨n, hn⟩ : ∃ n, m = n + 6 := ⟨m - 6, by omega⟩
            rw [hn, mn_8 (n := n) (d := d) (by rw [q1, hb, hb1]) (by rw [q2, ha]; omega)]
            exact to0 n (by omega) (by rw [nk, nbq ha1, Bool.and_false]; decide)
        · obtain ⟨n, hn⟩ : ∃ n, m = n + 3 := ⟨m - 3, by omega⟩
          rw [hn, mn_7 (n := n) (d := d) (by rw [q1, hb]; omega)]
          exact to0 n (by omega) (by rw [nk, nbq hb1, Bool.false_and]; decide)
      by_cases ha1 : q.1 = a
      · by_cases hb1 : q.2 = b
        · rw [mn_5 (n := n + 66) (d := d) hf0 (by rw [q1, ha, ha1]) (by rw [q2, hb, hb1])]
          exact to1 _ (by omega) (by rw [nk, ha1, hb1, Nat.beq_refl, Nat.beq_refl]; rfl)
        · rw [mn_6 (n := n + 66) (d := d) hf0 (by rw [q1, ha, ha1]) (by rw [q2, hb]; omega)]
          exact at64 _ (by omega) (by rw [nbq hb1, Bool.and_false])
      · rw [mn_4 (n := n + 69) (d := d) hf0 (by rw [q1, ha]; omega)]
        exact at64 _ (by omega) (by rw [nbq ha1, Bool.false_and])
end MZ
