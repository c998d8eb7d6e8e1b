noncomputable def afl {α : Type} (l : List α) (k : List α → Bool) : Bool := List.rec (motive := fun _ => Bool) (k []) (fun a t _ => k (a :: t)) l
set_option maxRecDepth 100000 in
theorem afl_eq {α : Type} (l : List α) (k : List α → Bool) : afl l k = k l := by cases l <;> rfl
noncomputable def a_c7 (tw tt : aT) (k : aT → Bool) : Bool :=
  afl (agd [] (agd [] tw 0) 0) fun b0 => afl (agd [] (agd [] tw 0) 1) fun b1 => afl (agd [] (agd [] tw 0) 2) fun b2 =>
  asd [] 0 b0 (agd [] tt 0) fun t2 => asd [] 1 b1 t2 fun t2 => asd [] 2 b2 t2 fun t2 => asd [] 0 t2 tt fun t1 => a_cp tw 768 768 9 t1 k
set_option maxRecDepth 100000 in
theorem a_c7_s {tw tt : aT} {k : aT → Bool} (h : a_c7 tw tt k = true) : ∃ t', (∀ i, agI t' i = if i < 777 then agI tw i else agI tt i) ∧ k t' = true := by
  unfold a_c7 at h
  simp only [afl_eq, asd_eq] at h
  obtain ⟨t', h1, h2⟩ := a_cp_s h
  refine ⟨t', fun i => ?_, h2⟩
  rw [h1]
  by_cases h3 : i < 777
  · rw [if_pos h3]
    by_cases h4 : 768 ≤ i ∧ i < 768 + 9
    · rw [if_pos h4, show 768 + (i - 768) = i by omega]
    · rw [if_neg h4]
      unfold agI
      rw [agd_asl, if_pos (show i / 4096 = 0 by omega), show i / 4096 = 0 by omega]
      have h5 : i / 256 % 16 = 0 ∨ i / 256 % 16 = 1 ∨ i / 256 % 16 = 2 := by omega
      rcases h5 with h5 | h5 | h5
      · rw [h5, agd_asl, if_neg (by decide), agd_asl, if_neg (by decide), agd_asl, if_pos rfl]
      · rw [h5, agd_asl, if_neg (by decide), agd_asl, if_pos rfl]
      · rw [h5, agd_asl, if_pos rfl]
  · rw [if_neg h3, if_neg (by omega)]
    unfold agI
    rw [agd_asl]
    by_cases h5 : i / 4096 = 0
    · rw [if_pos h5, agd_asl, agd_asl, agd_asl, if_neg (by omega), if_neg (by omega), if_neg (by omega), h5]
    · rw [if_neg h5]
noncomputable def a_cpx (F1 F2 : Nat) (sl : List (Option (Option Nat))) (cs : List (List (zS × aT))) (k : List (List (zS × aT)) → Bool) : Bool := match agt sl F1, agt sl F2 with
  | some (some (some t)), some (some (some w)) => (match aget cs t, aget cs w with
    | some (.inl (t1, nt, rt), tt), some (.inl (t2, nw, _), tw) => cond (Nat.beq t1 0 && Nat.beq t2 0 && Nat.ble 777 nt && Nat.ble 777 nw && !(Nat.beq w t)) (a_c7 tw tt fun tt' => aput cs t (.inl (t1, nt, rt), tt') k) false
    | _, _ => false)
  | _, _ => false
noncomputable def a_cps (F1 F2 : Nat) (n : Nat) (as : aSt) (ah : aHp) (k : Option aV → aHp → Bool) : Bool := match as with
  | [.inr (.ref a)] => (match aget ah.1 a with
    | some (.inr (.inl (ci, sl)), _) => cond (Nat.beq ci 12 && Nat.ble 10107 n) (a_cpx F1 F2 sl ah.1 fun cs => a_mk cs ah (k none)) false
    | _ => false)
  | _ => false
noncomputable def a_rem (n : Nat) (as : aSt) (ah : aHp) (k : Option aV → aHp → Bool) : Bool := match as with
  | [.inr (.ref a)] => (match aget ah.1 a with
    | some (.inr (.inl (ci, sl)), ta) => cond (Nat.beq ci 12 && Nat.ble 15556 n && Nat.beq (agI ta 7) 2147483648) (match agt sl 7 with
      | some none => asI ta 7 2147483649 fun ta' => aput ah.1 a (.inr (.inl (ci, sl)), ta') fun cs => a_cpx 5 1 sl cs fun cs => a_mk cs ah (k none)
      | _ => false) false
    | _ => false)
  | _ => false
def sj9 (j : Nat) : Bool := Nat.beq j 294 || Nat.beq j 295 || Nat.beq j 215
noncomputable def sm9 : aSM := fun j n _ _ as ah k => cond (Nat.beq j 294) (a_cps 4 1 n as ah k) (cond (Nat.beq j 295) (a_cps 1 4 n as ah k) (cond (Nat.beq j 215) (a_rem n as ah k) false))
section ASUM
variable {E : zE} {V : Nat → Int32} {G : zH} {ah : aHp} {sh : List zS} {v : Nat → Nat → Int32} {rest : (Nat → Nat → Int64) × Nat × Nat}
set_option maxRecDepth 100000 in
theorem a_cpx_s {F1 F2 : Nat} {sl : List (Option (Option Nat))} {k : List (List (zS × aT)) → Bool} (hh : aHR V G ah (sh, v, rest)) (e : a_cpx F1 F2 sl ah.1 k = true) : ∃ t w nt nw rt rw9, zat sl F1 = some (some (some t)) ∧ zat sl F2 = some (some (some w)) ∧ zat sh t = some (.inl (0, nt, rt)) ∧ zat sh w = some (.inl (0, nw, rw9)) ∧ 777 ≤ nt ∧ 777 ≤ nw ∧ w ≠ t ∧ ∃ cs, aHR V G (cs, ah.2) (sh, zcpf v t w 0 0 777, rest) ∧ k cs = true := by
  unfold a_cpx at e
  rw [agt_eq, agt_eq] at e
  split at e
  · rename_i t w h1 h2
    split at e
    · rename_i t1 nt rt tt t2 nw rw9 tw g1 g2
      obtain ⟨h3, e9⟩ := acnd e
      simp only [Bool.and_eq_true, Bool.not_eq_true'] at h3
      obtain ⟨⟨⟨⟨q1, q2⟩, q3⟩, q4⟩, q5⟩ := h3
      have q1 := abq q1
      have q2 := abq q2
      subst q1
      subst q2
      obtain ⟨f1, f2⟩ := hh.1 _ _ _ g1 (by intro z; cases z)
      obtain ⟨f3, f4⟩ := hh.1 _ _ _ g2 (by intro z; cases z)
      obtain ⟨tt', c1, e8⟩ := a_c7_s e9
      obtain ⟨cs, c2, e7⟩ := aI_s (f := fun i => if 0 + 0 ≤ i ∧ i < 0 + 777 then v w (i - 0) else v t i) hh g1 (by intro z; cases z) (fun j => by
        rw [c1]
        by_cases hj : j < 777
        · rw [if_pos hj, if_pos (by omega)]
          exact f4 _
        · rw [if_neg hj, if_neg (by omega)]
          exact f2 _) e8
      exact ⟨t, w, nt, nw, rt, rw9, h1, h2, f1, f3, abe.mp q3, abe.mp q4, abq0 q5, cs, c2, e7⟩
    · cases e
  · cases e
set_option maxRecDepth 100000 in
theorem a_one {as : aSt} {ss : List Value} {a : Nat} (hs : aSR V as ss) (h : as = [.inr (.ref a)]) : ss = [.ref a] := by
  subst h
  obtain ⟨r, h1, h2⟩ := aSR_o hs
  cases (aSR_n h2)
  exact h1
set_option maxRecDepth 100000 in
theorem sm9_s (B : Nat) : aSm E V G B sm9 := by
  intro j n d env as ah k q hz ss h he hs hh e
  obtain ⟨sh, v, rest⟩ := h
  have core : ∀ (F1 F2 : Nat), (∀ {a t w nt nw : Nat} {sl : List (Option (Option Nat))} {rt rw9 : List (Option Nat)} (n : Nat), zat sh a = some (.inr (.inl (12, sl))) → zat sl F1 = some (some (some t)) → zat sl F2 = some (some (some w)) → zat sh t = some (.inl (0, nt, rt)) → zat sh w = some (.inl (0, nw, rw9)) → 777 ≤ nt → 777 ≤ nw → w ≠ t → zex E (n + 1 + 3 + 13 * 777 + 2) d j 0 [some (.ref a), none] [] (sh, v, rest) = some (.inl none, (sh, zcpf v t w 0 0 777, rest))) → q.2.1 = 2 → a_cps F1 F2 n as ah k = true →
      ∃ v' w' ah' h', zex E (B + n) d j 0 (zent q.2.1 ss) [] (sh, v, rest) = some (.inl w', h') ∧ aoV V v' w' ∧ aHR V G ah' h' ∧ k v' ah' = true := by
    intro F1 F2 hsp hq e
    unfold a_cps at e
    split at e
    · rename_i a
      have h1 := a_one hs rfl
      subst h1
      split at e
      · rename_i ci sl ta hg
        obtain ⟨h2, e9⟩ := acnd e
        rw [Bool.and_eq_true] at h2
        have h3 := abq h2.1
        subst h3
        have h4 := abe.mp h2.2
        obtain ⟨f1, -⟩ := hh.1 _ _ _ hg (by intro z; cases z)
        obtain ⟨t, w, nt, nw, rt, rw9, g1, g2, g3, g4, g5, g6, g7, cs, c1, e8⟩ := a_cpx_s hh e9
        rw [a_mk_eq] at e8
        refine ⟨none, none, _, _, ?_, (show aoV V none none from trivial), c1, e8⟩
        rw [hq]
        have h5 := hsp (B + n - 10107) f1 g1 g2 g3 g4 g5 g6 g7
        rw [show B + n - 10107 + 1 + 3 + 13 * 777 + 2 = B + n by omega] at h5
        exact h5
      · cases e
    · cases e
  unfold sm9 at e
  cases h1 : Nat.beq j 294 with
  | true =>
    rw [h1, cond_true] at e
    have h2 := abq h1
    subst h2
    have h3 : q = (1, 2, 0, 12, 0, 0) := (Option.some.inj hz).symm
    exact core 4 1 (fun n ha g1 g2 g3 g4 g5 g6 g7 => zkeep_spec ha g1 g2 g3 g4 g5 g6 g7 n) (by rw [h3]) e
  | false =>
    rw [h1, cond_false] at e
    cases h2 : Nat.beq j 295 with
    | true =>
      rw [h2, cond_true] at e
      have h2 := abq h2
      subst h2
      have h3 : q = (1, 2, 0, 12, 0, 0) := (Option.some.inj hz).symm
      exact core 1 4 (fun n ha g1 g2 g3 g4 g5 g6 g7 => zbring_spec ha g1 g2 g3 g4 g5 g6 g7 n) (by rw [h3]) e
    | false =>
      rw [h2, cond_false] at e
      cases h3 : Nat.beq j 215 with
      | false =>
        rw [h3, cond_false] at e
        cases e
      | true =>
        rw [h3, cond_true] at e
        have h4 := abq h3
        subst h4
        have h5 : q = (1, 2, 0, 12, 0, 0) := (Option.some.inj hz).symm
        unfold a_rem at e
        split at e
        · rename_i a
          have h1 := a_one hs rfl
          subst h1
          split at e
          · rename_i ci sl ta hg
            obtain ⟨h2, e9⟩ := acnd e
            rw [Bool.and_eq_true, Bool.and_eq_true] at h2
            have h6 := abq h2.1.1
            subst h6
            have h7 := abe.mp h2.1.2
            have h8 := abq h2.2
            obtain ⟨f1, f2⟩ := hh.1 _ _ _ hg (by intro z; cases z)
            have h9 : v a 7 = 0 := by
              have := f2 7
              rw [h8] at this
              exact arel_eq this (by decide) (arel0 V)
            rw [agt_eq] at e9
            split at e9
            · rename_i hs7
              obtain ⟨ta', c1, e8⟩ := asI_s e9
              obtain ⟨cs, c2, e7⟩ := aI_s (f := upd (v a) 7 1) hh hg (by intro z; cases z) (fun j => by
                rw [c1]
                unfold upd
                by_cases hj : j = 7
                · rw [if_pos hj, if_pos hj]
                  exact arel_of (by decide)
                · rw [if_neg hj, if_neg hj]
                  exact f2 j) e8
              obtain ⟨t, w, nt, nw, rt, rw9, g1, g2, g3, g4, g5, g6, g7, cs', c3, e6⟩ := a_cpx_s (ah := (cs, ah.2)) (sh := sh) (v := zrow v a (upd (v a) 7 1)) (rest := rest) c2 e7
              rw [a_mk_eq] at e6
              refine ⟨none, none, _, _, ?_, (show aoV V none none from trivial), c3, e6⟩
              rw [h5]
              have h5 := zrem_spec (E := E) (d := d) (rest := rest) f1 hs7 h9 g1 g2 g3 g4 g5 g6 g7 (B + n - 15556)
              rw [show B + n - 15556 + 1 + 3 + 20 * 777 + 12 = B + n by omega] at h5
              exact h5
            · cases e9
          · cases e
        · cases e
end ASUM
