def bcov (w : Bool) (A B a b : Int) : Prop := match w with
  | false => A ≤ a ∧ b ≤ B
  | true => a ≤ A ∧ B ≤ b
set_option maxRecDepth 100000 in
theorem bcov_r (w : Bool) (A B : Int) : bcov w A B A B := by cases w <;> exact ⟨Int.le_refl _, Int.le_refl _⟩
set_option maxRecDepth 100000 in
theorem bcov_t {w : Bool} {A B a b x y : Int} (h : bcov w A B a b) (h' : bcov w a b x y) : bcov w A B x y := by
  cases w
  · exact ⟨Int.le_trans h.1 h'.1, Int.le_trans h'.2 h.2⟩
  · exact ⟨Int.le_trans h'.1 h.1, Int.le_trans h.2 h'.2⟩
noncomputable def bgc (w : Bool) (c : Nat) (p : Int) (A B : Int) (k : Int → Int → Bool) : Bool := match biv c p.toNat with
  | (a, b) => (match w with
    | false => bfo (bmn A a) fun A => bfo (bmx B b) fun B => k A B
    | true => bfo (bmx A a) fun A => bfo (bmn B b) fun B => k A B)
set_option maxRecDepth 100000 in
theorem bmn_l (a b : Int) : bmn a b ≤ a := by
  unfold bmn
  cases h : bLe a b
  · exact Int.le_of_lt (bLe_no h)
  · exact Int.le_refl _
set_option maxRecDepth 100000 in
theorem bmn_r (a b : Int) : bmn a b ≤ b := by
  unfold bmn
  cases h : bLe a b
  · exact Int.le_refl _
  · exact bLe_iff.mp h
set_option maxRecDepth 100000 in
theorem bmx_l (a b : Int) : a ≤ bmx a b := by
  unfold bmx
  cases h : bLe a b
  · exact Int.le_refl _
  · exact bLe_iff.mp h
set_option maxRecDepth 100000 in
theorem bmx_r (a b : Int) : b ≤ bmx a b := by
  unfold bmx
  cases h : bLe a b
  · exact Int.le_of_lt (bLe_no h)
  · exact Int.le_refl _
set_option maxRecDepth 100000 in
theorem bgc_s {w : Bool} {c : Nat} {p A B : Int} {k : Int → Int → Bool} (e : bgc w c p A B k = true) : ∃ A' B', bcov w A' B' A B ∧ bcov w A' B' (biv c p.toNat).1 (biv c p.toNat).2 ∧ k A' B' = true := by
  unfold bgc at e
  split at e
  rename_i a b hz
  rw [hz]
  split at e
  · simp only [bfo_eq] at e
    exact ⟨_, _, ⟨bmn_l _ _, bmx_l _ _⟩, ⟨bmn_r _ _, bmx_r _ _⟩, e⟩
  · simp only [bfo_eq] at e
    exact ⟨_, _, ⟨bmx_l _ _, bmn_l _ _⟩, ⟨bmx_r _ _, bmn_r _ _⟩, e⟩
abbrev bGf : Type := Int → Int → Int → (Int → Int → Bool) → Bool
/-- over all values of a form's variables within their bounds -/
noncomputable def bnm (env : bE) (G : bGf) (l : bT) : Int → Int → Int → (Int → Int → Bool) → Bool := List.rec (motive := fun _ => Int → Int → Int → (Int → Int → Bool) → Bool)
  (fun c A B k => bfo c fun c => G c A B k)
  (fun q _ ih c A B k => match agt env q.1 with
    | none => false
    | some (lo, hi) => afo ((hi - lo).toNat + 1) fun m => cond (Nat.blt m 1000) ((Nat.rec (motive := fun _ => Int → Int → Int → (Int → Int → Bool) → Bool) (fun _ A B k => k A B)
      (fun _ it v A B k => ih (c + q.2 * v) A B fun A B => bfo (v + 1) fun v => it v A B k) m : Int → Int → Int → (Int → Int → Bool) → Bool) lo A B k) false) l
noncomputable def bnmI (ih : Int → Int → Int → (Int → Int → Bool) → Bool) (c a : Int) (m : Nat) : Int → Int → Int → (Int → Int → Bool) → Bool := Nat.rec (motive := fun _ => Int → Int → Int → (Int → Int → Bool) → Bool) (fun _ A B k => k A B)
      (fun _ it v A B k => ih (c + a * v) A B fun A B => bfo (v + 1) fun v => it v A B k) m
def bGok (w : Bool) (R : Int → Int → Int → Prop) (G : bGf) : Prop := ∀ p A B k, G p A B k = true → ∃ A' B', bcov w A' B' A B ∧ R p A' B' ∧ k A' B' = true
set_option maxRecDepth 100000 in
theorem bnmI_s {w : Bool} {R : Int → Int → Int → Prop} {ih : Int → Int → Int → (Int → Int → Bool) → Bool} {c a : Int} {x : Int}
    (hm : ∀ p A B A' B', bcov w A' B' A B → R p A B → R p A' B')
    (hw : ∀ c A B k, ih c A B k = true → ∃ A' B', bcov w A' B' A B ∧ k A' B' = true)
    (hih : ∀ A B k, ih (c + a * x) A B k = true → ∃ A' B', bcov w A' B' A B ∧ R (c + a * x) A' B' ∧ k A' B' = true) :
    ∀ (m : Nat) (v A B : Int) (k : Int → Int → Bool), bnmI ih c a m v A B k = true → ∃ A' B', bcov w A' B' A B ∧ (v ≤ x → x < v + m → R (c + a * x) A' B') ∧ k A' B' = true
  | 0, v, A, B, k, e => ⟨A, B, bcov_r _ _ _, fun h1 h2 => by omega, e⟩
  | m + 1, v, A, B, k, e => by
    have e : ih (c + a * v) A B (fun A B => bfo (v + 1) fun v => bnmI ih c a m v A B k) = true := e
    by_cases hv : v = x
    · subst hv
      obtain ⟨A1, B1, h1, h2, e⟩ := hih _ _ _ e
      rw [bfo_eq] at e
      obtain ⟨A2, B2, h3, -, e⟩ := bnmI_s hm hw hih m _ _ _ _ e
      exact ⟨A2, B2, bcov_t h3 h1, fun _ _ => hm _ _ _ _ _ h3 h2, e⟩
    · obtain ⟨A1, B1, h1, e⟩ := hw _ _ _ _ e
      rw [bfo_eq] at e
      obtain ⟨A2, B2, h3, h4, e⟩ := bnmI_s hm hw hih m _ _ _ _ e
      exact ⟨A2, B2, bcov_t h3 h1, fun g1 g2 => h4 (by omega) (by omega), e⟩
set_option maxRecDepth 100000 in
theorem bnmI_w {w : Bool} {ih : Int → Int → Int → (Int → Int → Bool) → Bool} {c a : Int}
    (hw : ∀ c A B k, ih c A B k = true → ∃ A' B', bcov w A' B' A B ∧ k A' B' = true) :
    ∀ (m : Nat) (v A B : Int) (k : Int → Int → Bool), bnmI ih c a m v A B k = true → ∃ A' B', bcov w A' B' A B ∧ k A' B' = true
  | 0, v, A, B, k, e => ⟨A, B, bcov_r _ _ _, e⟩
  | m + 1, v, A, B, k, e => by
    have e : ih (c + a * v) A B (fun A B => bfo (v + 1) fun v => bnmI ih c a m v A B k) = true := e
    obtain ⟨A1, B1, h1, e⟩ := hw _ _ _ _ e
    rw [bfo_eq] at e
    obtain ⟨A2, B2, h3, e⟩ := bnmI_w hw m _ _ _ _ e
    exact ⟨A2, B2, bcov_t h3 h1, e⟩
set_option maxRecDepth 100000 in
theorem bnm_w {w : Bool} {R : Int → Int → Int → Prop} {env : bE} {G : bGf} (hG : bGok w R G) : ∀ {l : bT} {c A B : Int} {k : Int → Int → Bool}, bnm env G l c A B k = true → ∃ A' B', bcov w A' B' A B ∧ k A' B' = true
  | [], c, A, B, k, e => by
    have e : (bfo c fun c => G c A B k) = true := e
    rw [bfo_eq] at e
    obtain ⟨A', B', h1, -, h2⟩ := hG _ _ _ _ e
    exact ⟨A', B', h1, h2⟩
  | (i, a) :: l, c, A, B, k, e => by
    have e : (match agt env i with
    | none => false
    | some (lo, hi) => afo ((hi - lo).toNat + 1) fun m => cond (Nat.blt m 1000) (bnmI (bnm env G l) c a m lo A B k) false) = true := e
    split at e
    · cases e
    · rw [afo_eq] at e
      obtain ⟨-, e⟩ := bcnd e
      exact bnmI_w (fun c A B k e => bnm_w hG (l := l) e) _ _ _ _ _ e
set_option maxRecDepth 100000 in
theorem bnm_s {V : List Int} {w : Bool} {R : Int → Int → Int → Prop} {env : bE} {G : bGf} (hm : ∀ p A B A' B', bcov w A' B' A B → R p A B → R p A' B') (hG : bGok w R G) (he : benv V env) : ∀ {l : bT} {s : Int}, bev V l s → ∀ {c A B : Int} {k : Int → Int → Bool}, bnm env G l c A B k = true → ∃ A' B', bcov w A' B' A B ∧ R (c + s) A' B' ∧ k A' B' = true
  | [], s, h, c, A, B, k, e => by
    have h : s = 0 := h
    have e : (bfo c fun c => G c A B k) = true := e
    rw [bfo_eq] at e
    rw [h, Int.add_zero]
    exact hG _ _ _ _ e
  | (i, a) :: l, s, ⟨v, t, h1, h2, h3⟩, c, A, B, k, e => by
    have h1 : zat V i = some v := h1
    have h3 : s = a * v + t := h3
    have e : (match agt env i with
    | none => false
    | some (lo, hi) => afo ((hi - lo).toNat + 1) fun m => cond (Nat.blt m 1000) (bnmI (bnm env G l) c a m lo A B k) false) = true := e
    split at e
    · cases e
    · rename_i lo hi hz
      rw [agt_eq] at hz
      obtain ⟨v', h4, h5, h6⟩ := he.2 _ _ _ hz
      rw [h1] at h4
      cases h4
      rw [afo_eq] at e
      obtain ⟨-, e⟩ := bcnd e
      obtain ⟨A', B', g1, g2, g3⟩ := bnmI_s (w := w) (ih := bnm env G l) (c := c) (a := a) (R := fun p A B => R (p + t) A B) (x := v) (fun p A B A' B' h h' => hm _ _ _ _ _ h h') (fun c A B k e => bnm_w hG (l := l) e) (fun A B k e => bnm_s hm hG he (l := l) h2 e) _ _ _ _ _ e
      refine ⟨A', B', g1, ?_, g3⟩
      have := g2 h5 (by omega)
      rw [h3, ← Int.add_assoc]
      exact this
section BHP
variable {E : zE} {tb : bTb} {W : Nat} {h0 : zH} {V : List Int} {S : bS} {h : zH}
/-- bounds of all places that an index may stand for: w: of what may be written -/
noncomputable def bir (w : Bool) (c : Nat) (j : bI) (S : bS) (k : Int → Int → Bool) : Bool := match bg2 ivt c with
  | none => k (-2147483648) 2147483647
  | some (0, l) => (match agd (-2147483648, 2147483647) l 0 with
    | (a, b) => k a b)
  | some (_ + 1, _) => (match S with
    | (_, env, _, _, _, _) => bnm env (bgc w c) j.2 j.1 (cond w (-2147483648) 2147483647) (cond w 2147483647 (-2147483648)) k)
set_option maxRecDepth 100000 in
theorem bir_s (hS : bSS E tb W h0 V S h) {w : Bool} {c jn : Nat} {j : bI} (hj : brel V j (jn : Int)) {k : Int → Int → Bool} (e : bir w c j S k = true) : ∃ a b, bcov w a b (biv c jn).1 (biv c jn).2 ∧ k a b = true := by
  unfold bir at e
  split at e
  · rename_i hz
    refine ⟨_, _, ?_, e⟩
    unfold biv
    rw [hz]
    exact bcov_r _ _ _
  · rename_i l hz
    split at e
    rename_i a b hq
    refine ⟨a, b, ?_, e⟩
    unfold biv
    rw [hz]
    simp only [hq]
    exact bcov_r _ _ _
  · rename_i n l hz
    obtain ⟨nv, env, cs, ov, ca, sa⟩ := S
    obtain ⟨s, h1, h2⟩ := hj
    simp only at e
    obtain ⟨A', B', -, g2, g3⟩ := bnm_s (w := w) (R := fun p A B => bcov w A B (biv c p.toNat).1 (biv c p.toNat).2) (fun p A B A' B' g g' => bcov_t g g') (fun p A B k e => bgc_s e) hS.1 h1 e
    refine ⟨A', B', ?_, g3⟩
    rw [← h2] at g2
    exact g2
noncomputable def bmd (a : Int) (l : bT) : (bT → Bool) → Bool := List.rec (motive := fun _ => (bT → Bool) → Bool) (fun k => k []) (fun q _ ih k => bfo (q.2 / a) fun c => ih fun r => k ((q.1, c) :: r)) l
set_option maxRecDepth 100000 in
theorem bmd_s {a : Int} : ∀ {l : bT} {s : Int} {k : bT → Bool}, bev V l s → bmd a l k = true → ∃ r t, bev V r t ∧ k r = true
  | [], _, _, _, e => ⟨[], 0, rfl, e⟩
  | (i, b) :: l, s, k, ⟨v, t, h1, h2, h3⟩, e => by
    have e : (bfo (b / a) fun c => bmd a l fun r => k ((i, c) :: r)) = true := e
    rw [bfo_eq] at e
    obtain ⟨r, t', g1, g2⟩ := bmd_s (l := l) h2 e
    exact ⟨(i, b / a) :: r, b / a * v + t', ⟨v, t', h1, g1, rfl⟩, g2⟩
/-- f / a, where that is whole -/
noncomputable def bdv (a : Int) (f : bI) (k : bI → Bool) : Bool := bmd a f.2 fun ts => bfo (f.1 / a) fun c => bsum (-a) (c, ts) f fun r => cond (bfq r (0, [])) (k (c, ts)) false
set_option maxRecDepth 100000 in
theorem bdv_s {a : Int} {f : bI} {x : Int} (hf : brel V f x) {k : bI → Bool} (e : bdv a f k = true) : ∃ g y, brel V g y ∧ x = a * y ∧ k g = true := by
  obtain ⟨s, h1, h2⟩ := hf
  unfold bdv at e
  obtain ⟨ts, t, g1, e⟩ := bmd_s h1 e
  rw [bfo_eq] at e
  have g2 : brel V (f.1 / a, ts) (f.1 / a + t) := ⟨t, g1, rfl⟩
  obtain ⟨r, g3, e⟩ := bsum_s (x := x) ⟨s, h1, h2⟩ g2 e
  obtain ⟨g4, e⟩ := bcnd e
  rw [bfq_s g4] at g3
  have := brel_k g3
  refine ⟨_, _, g2, ?_, e⟩
  rw [Int.neg_mul] at this
  omega
/-- the k-th number of a row of PEOPLE, one of them: its LENGTH is at least 1 -/
noncomputable def blm (j : bI) (S : bS) : Bool := match blS bWc (2, []) S with
  | none => false
  | some n => bsum (-1) (188, []) j fun d => bdv 24 d fun p => cond (bch p S) (bsum (-1) p n fun q => bsum 1 (-1, []) q fun q => bch q S) false
set_option maxRecDepth 100000 in
theorem blS_s (hS : bSS E tb W h0 V S h) {c jn : Nat} {j f : bI} (hj : brel V j (jn : Int)) (e : blS c j S = some f) : brel V f (bvl E h c jn) := by
  obtain ⟨nv, env, cs, ov, ca, sa⟩ := S
  exact blk_s hj hS.2.2.2.1 e
set_option maxRecDepth 100000 in
theorem blm_s (hS : bSS E tb W h0 V S h) {jn : Nat} {j : bI} (hj : brel V j (jn : Int)) (e : blm j S = true) : 1 ≤ (h.2.1 bWc jn).toInt := by
  unfold blm at e
  split at e
  · cases e
  · rename_i n hz
    have h1 := blS_s hS (jn := 2) (brel_c V 2) hz
    rw [bvl_n bWn] at h1
    obtain ⟨d, h2, e⟩ := bsum_s hj (brel_c V 188) e
    obtain ⟨p, y, h3, h4, e⟩ := bdv_s h2 e
    obtain ⟨h5, e⟩ := bcnd e
    have h6 := bch_s hS h3 h5
    obtain ⟨q, h7, e⟩ := bsum_s h1 h3 e
    obtain ⟨q', h8, e⟩ := bsum_s h7 (brel_c V (-1)) e
    have h9 := bch_s hS h8 e
    have h10 := hS.2.2.2.2.1.2.1 y.toNat (by omega)
    have h11 : 188 + 24 * y.toNat = jn := by omega
    rw [h11] at h10
    exact h10
/-- an int of the heap, or one that is computed from it -/
noncomputable def bri (c : Nat) (j : bI) (S : bS) (k : bI → bS → Bool) : Bool := cond (Nat.blt c 900) (bir false c j S fun lo hi =>
  cond (bhc c) (cond (brd c j lo 1011 S k) (brd c j 1020 hi S k) false)
  (cond (cond (Nat.beq c bWc) (cond (bie lo 0) (cond (bie hi 12) (blm j S) false) false) false) (brd c j 1 hi S k) (brd c j lo hi S k)))
  (cond (Nat.beq c 901) (cond (bfq j (0, [])) (brd c j (-1) 400 S k) (cond (bfq j (1, [])) (brd c j 0 2147483647 S k) false)) (cond (cond (Nat.beq c 903) (bfq j (0, [])) false) (brd c j 1 1 S k) (cond (cond (Nat.beq c 902) true (Nat.beq c 903)) (brd c j 0 1 S k) false)))
set_option maxRecDepth 100000 in
theorem bst9_b (hI : bHI h) : 0 ≤ (h.2.1 84 16).toInt ∧ (h.2.1 84 16).toInt ≤ 400 := by
  have h1 := hI.1 84 16
  have h2 : biv 84 16 = (0, 400) := rfl
  rw [h2] at h1
  exact h1
set_option maxRecDepth 100000 in
theorem bri_s (hS : bSS E tb W h0 V S h) {c jn : Nat} {j : bI} (hj : brel V j (jn : Int)) {k : bI → bS → Bool} (e : bri c j S k = true) : ∃ V' f S', bxt V V' ∧ brel V' f (bvl E h c jn) ∧ bSS E tb W h0 V' S' h ∧ k f S' = true := by
  unfold bri at e
  cases hc : Nat.blt c 900 with
  | false =>
    rw [hc, cond_false] at e
    have hn : Nat.beq c 1000000 = false ∨ c = 1000000 := by
      cases hb : Nat.beq c 1000000 with
      | false => exact Or.inl rfl
      | true => exact Or.inr (abq hb)
    cases g1 : Nat.beq c 901 with
    | true =>
      rw [g1, cond_true] at e
      have g1 := abq g1
      subst g1
      cases g2 : bfq j (0, []) with
      | true =>
        rw [g2, cond_true] at e
        have hj0 : jn = 0 := by
          have hj' := hj
          rw [bfq_s g2] at hj'
          have := brel_k hj'
          omega
        subst hj0
        have b1 : bvl E h 901 0 = bdv9 E h := bvl_0
        have b2 := bst9_b hS.2.2.2.2.1
        have b3 : -1 ≤ bdv9 E h ∧ bdv9 E h ≤ 400 := by
          unfold bdv9
          split
          · omega
          · have := bdf_b (h.2.1 85) (bs0 E) (bst9 h - bs0 E)
            unfold bst9 at this ⊢
            omega
        exact brd_s hS hj (by rw [b1]; exact b3.1) (by rw [b1]; exact b3.2) e
      | false =>
        rw [g2, cond_false] at e
        cases g3 : bfq j (1, []) with
        | false => rw [g3] at e; cases e
        | true =>
          rw [g3, cond_true] at e
          have hj0 : jn = 1 := by
            have hj' := hj
            rw [bfq_s g3] at hj'
            have := brel_k hj'
            omega
          subst hj0
          have b1 : bvl E h 901 1 = (bs0 E : Int) := bvl_1
          have b2 := (E.2 4000).toInt_lt
          exact brd_s hS hj (by rw [b1]; omega) (by rw [b1]; unfold bs0; omega) e
    | false =>
      rw [g1, cond_false] at e
      cases g0 : (cond (Nat.beq c 903) (bfq j (0, [])) false) with
      | true =>
        rw [g0, cond_true] at e
        obtain ⟨q1, q2⟩ := bcnd g0
        have hj' := hj
        rw [bfq_s q2] at hj'
        have := brel_k hj'
        have hj0 : jn = 0 := by omega
        have q1 := abq q1
        subst q1
        subst hj0
        have b1 : bvl E h 903 0 = 1 := bvl_3.trans <| bpf_p (p := bokn h 0) (fun i hi => absurd hi (Nat.not_lt_zero i))
        exact brd_s hS hj (by rw [b1]; omega) (by rw [b1]; omega) e
      | false =>
      rw [g0, cond_false] at e
      obtain ⟨g2, e⟩ := bcnd e
      have hb : 0 ≤ bvl E h c jn ∧ bvl E h c jn ≤ 1 := by
        unfold bvl
        rw [hc, g1]
        cases g3 : Nat.beq c 902 with
        | true =>
          have g4 : Nat.beq c 1000000 = false := by rw [abq g3]; rfl
          rw [g4]
          exact bpf_b _
        | false =>
          rw [g3, cond_false] at g2
          have g4 : Nat.beq c 1000000 = false := by rw [abq g2]; rfl
          rw [g4, g2]
          exact bpf_b _
      exact brd_s hS hj hb.1 hb.2 e
  | true =>
    rw [hc, cond_true] at e
    obtain ⟨a, b, h1, e⟩ := bir_s hS hj e
    have h1 : a ≤ (biv c jn).1 ∧ (biv c jn).2 ≤ b := h1
    have h2 := hS.2.2.2.2.1.1 c jn
    cases hh : bhc c with
    | true =>
      rw [hh, cond_true] at e
      obtain ⟨e1, e2⟩ := bcnd e
      rcases hS.2.2.2.2.1.2.2.2 c hh jn with h3 | h3
      · exact brd_s hS hj (by rw [bvl_n hc]; omega) (by rw [bvl_n hc]; omega) e1
      · exact brd_s hS hj (by rw [bvl_n hc]; omega) (by rw [bvl_n hc]; omega) e2
    | false =>
      rw [hh, cond_false] at e
      cases hm : (cond (Nat.beq c bWc) (cond (bie a 0) (cond (bie b 12) (blm j S) false) false) false) with
      | false =>
        rw [hm, cond_false] at e
        exact brd_s hS hj (by rw [bvl_n hc]; omega) (by rw [bvl_n hc]; omega) e
      | true =>
        rw [hm, cond_true] at e
        obtain ⟨g1, hm⟩ := bcnd hm
        obtain ⟨g2, hm⟩ := bcnd hm
        obtain ⟨g3, hm⟩ := bcnd hm
        have g4 := blm_s hS hj hm
        rw [← abq g1] at g4
        exact brd_s hS hj (by rw [bvl_n hc]; omega) (by rw [bvl_n hc]; omega) e
noncomputable def brr (c : Nat) (j : bI) (S : bS) (k : bI → bS → Bool) : Bool := cond (Nat.blt c 900) (bri c j S k) false
set_option maxRecDepth 100000 in
theorem brr_s (hS : bSS E tb W h0 V S h) {c jn : Nat} {j : bI} (hj : brel V j (jn : Int)) {k : bI → bS → Bool} (e : brr c j S k = true) : ∃ V' f S', bxt V V' ∧ brel V' f (h.2.1 c jn).toInt ∧ bSS E tb W h0 V' S' h ∧ k f S' = true := by
  obtain ⟨h1, e⟩ := bcnd e
  have h2 := bri_s hS hj e
  rw [bvl_n h1] at h2
  exact h2
/-- is what was computed (cell v) still so behind a write to a place of cell c? -/
noncomputable def bvk (v : Nat) (i : bI) (c : Nat) (j : bI) (env : bE) : Bool := cond (Nat.beq v 1000000) true (cond (cond (Nat.beq v 901) (bfq i (1, [])) false) true
  (cond (Nat.beq c 85) (brg env (fun _ b => bLe b (cond (Nat.beq v 903) 1626 1674)) j.2 j.1 j.1) (cond (Nat.beq c 84) (cond (Nat.beq v 902) true (brg env (fun a b => cond (bLe b 15) true (bLe 17 a)) j.2 j.1 j.1)) true)))
set_option maxRecDepth 100000 in
theorem bvk_s {env : bE} (he : benv V env) {v c jn m : Nat} {i j : bI} (hj : brel V j (jn : Int)) (hi : brel V i (m : Int)) (hv : Nat.blt v 900 = false) {y : Int32} (e : bvk v i c j env = true) : bvl E (zsetI h c (upd (h.2.1 c) jn y)) v m = bvl E h v m := by
  have hz : ∀ d p, (d = c → p ≠ jn) → (zsetI h c (upd (h.2.1 c) jn y)).2.1 d p = h.2.1 d p := by
    intro d p hd
    show zrow h.2.1 c (upd (h.2.1 c) jn y) d p = _
    by_cases hdc : d = c
    · subst hdc
      rw [zrow_at]
      unfold upd
      rw [if_neg (hd rfl)]
    · rw [zrow_ne _ _ hdc]
  unfold bvk at e
  cases g1 : Nat.beq v 1000000 with
  | true =>
    have g1 := abq g1
    subst g1
    rw [bvl_s, bvl_s]
  | false =>
    rw [g1, cond_false] at e
    cases g2 : (cond (Nat.beq v 901) (bfq i (1, [])) false) with
    | true =>
      obtain ⟨g3, g4⟩ := bcnd g2
      rw [bfq_s g4] at hi
      have := brel_k hi
      have hm : m = 1 := by omega
      have g3 := abq g3
      subst g3
      subst hm
      rw [bvl_1, bvl_1]
    | false =>
      rw [g2, cond_false] at e
      have hlo : (v = 903 → c = 85 → jn ≤ 1626) ∧ (v ≠ 903 → c = 85 → jn ≤ 1674) := by
        constructor
        · intro h1 h2
          subst h2
          rw [show Nat.beq 85 85 = true from rfl, cond_true, h1, show Nat.beq 903 903 = true from rfl, cond_true] at e
          obtain ⟨a, b, f1, f2, -, f3⟩ := brgf_s he hj e
          have := bLe_iff.mp f3
          omega
        · intro h1 h2
          subst h2
          have h3 : Nat.beq v 903 = false := by
            cases hb : Nat.beq v 903 with
            | true => exact absurd (abq hb) h1
            | false => rfl
          rw [show Nat.beq 85 85 = true from rfl, cond_true, h3, cond_false] at e
          obtain ⟨a, b, f1, f2, -, f3⟩ := brgf_s he hj e
          have := bLe_iff.mp f3
          omega
      have h84 : v ≠ 902 → c = 84 → jn ≠ 16 := by
        intro h1 h2
        subst h2
        have h3 : Nat.beq v 902 = false := by
          cases hb : Nat.beq v 902 with
          | true => exact absurd (abq hb) h1
          | false => rfl
        rw [show Nat.beq 84 85 = false from rfl, cond_false, show Nat.beq 84 84 = true from rfl, cond_true, h3, cond_false] at e
        obtain ⟨a, b, f1, f2, -, f3⟩ := brgf_s he hj e
        cases f4 : bLe b 15 with
        | true => have := bLe_iff.mp f4; omega
        | false =>
          rw [f4, cond_false] at f3
          have := bLe_iff.mp f3
          omega
      refine bvl_e hv (fun h1 _ => ⟨fun p hp => hz 85 p (fun h3 => ?_), hz 84 16 (fun h3 => ?_)⟩) (fun h1 p hp => hz 85 p (fun h3 => ?_)) (fun h1 => ⟨fun p hp => hz 85 p (fun h3 => ?_), hz 84 16 (fun h3 => ?_)⟩)
      · have := hlo.2 (by omega) h3.symm
        omega
      · have := h84 (by omega) h3.symm
        omega
      · have := hlo.2 (by omega) h3.symm
        omega
      · have := hlo.1 h1 h3.symm
        omega
      · have := h84 (by omega) h3.symm
        omega
/-- what a write at an index leaves -/
noncomputable def bkl9 (c : Nat) (j : bI) (env : bE) (ov : bO) : (bO → Bool) → Bool := List.rec (motive := fun _ => (bO → Bool) → Bool) (fun k => k [])
  (fun q _ ih k => cond (Nat.blt q.1 900) (cond (Nat.beq q.1 c) (cond (bsum (-1) j q.2.1 fun d => brg env (fun a b => cond (bLe 1 a) true (bLe b (-1))) d.2 d.1 d.1) (ih fun r => k (q :: r)) (ih k)) (ih fun r => k (q :: r)))
    (cond (bvk q.1 q.2.1 c j env) (ih fun r => k (q :: r)) (ih k))) ov
set_option maxRecDepth 100000 in
theorem bkl9_s {env : bE} (he : benv V env) {c jn : Nat} {j : bI} (hj : brel V j (jn : Int)) {y : Int32} : ∀ {ov : bO} {k : bO → Bool}, bOV E V ov h → bkl9 c j env ov k = true → ∃ ov', bOV E V ov' (zsetI h c (upd (h.2.1 c) jn y)) ∧ k ov' = true
  | [], k, _, e => ⟨[], fun q hq => absurd hq List.not_mem_nil, e⟩
  | q :: ov, k, hO, e => by
    have e : cond (Nat.blt q.1 900) (cond (Nat.beq q.1 c) (cond (bsum (-1) j q.2.1 fun d => brg env (fun a b => cond (bLe 1 a) true (bLe b (-1))) d.2 d.1 d.1) (bkl9 c j env ov fun r => k (q :: r)) (bkl9 c j env ov k)) (bkl9 c j env ov fun r => k (q :: r)))
      (cond (bvk q.1 q.2.1 c j env) (bkl9 c j env ov fun r => k (q :: r)) (bkl9 c j env ov k)) = true := e
    have hO' : bOV E V ov h := fun p hp => hO p (List.mem_cons_of_mem _ hp)
    obtain ⟨i, g1, g2⟩ := hO q List.mem_cons_self
    have keep : bvl E (zsetI h c (upd (h.2.1 c) jn y)) q.1 i = bvl E h q.1 i → bkl9 c j env ov (fun r => k (q :: r)) = true → ∃ ov', bOV E V ov' (zsetI h c (upd (h.2.1 c) jn y)) ∧ k ov' = true := by
      intro hn e
      obtain ⟨ov', g3, g4⟩ := bkl9_s he hj (y := y) hO' e
      refine ⟨q :: ov', ?_, g4⟩
      intro p hp
      cases hp with
      | tail _ hp => exact g3 p hp
      | head =>
        refine ⟨i, g1, ?_⟩
        rw [hn]
        exact g2
    have real : Nat.blt q.1 900 = true → (¬ (q.1 = c ∧ i = jn)) → bvl E (zsetI h c (upd (h.2.1 c) jn y)) q.1 i = bvl E h q.1 i := by
      intro h9 hn
      rw [bvl_n h9, bvl_n h9]
      show (zrow h.2.1 c (upd (h.2.1 c) jn y) q.1 i).toInt = (h.2.1 q.1 i).toInt
      by_cases h1 : q.1 = c
      · rw [h1, zrow_at]
        unfold upd
        rw [if_neg (fun h2 => hn ⟨h1, h2⟩)]
      · rw [zrow_ne _ _ h1]
    cases h9 : Nat.blt q.1 900 with
    | false =>
      rw [h9, cond_false] at e
      cases h8 : bvk q.1 q.2.1 c j env with
      | false =>
        rw [h8, cond_false] at e
        exact bkl9_s he hj hO' e
      | true =>
        rw [h8, cond_true] at e
        exact keep (bvk_s he hj g1 h9 h8) e
    | true =>
      rw [h9, cond_true] at e
      cases h1 : Nat.beq q.1 c with
      | false =>
        rw [h1, cond_false] at e
        have h1 := abq0 h1
        exact keep (real h9 (fun h2 => h1 h2.1)) e
      | true =>
        rw [h1, cond_true] at e
        cases h2 : (bsum (-1) j q.2.1 fun d => brg env (fun a b => cond (bLe 1 a) true (bLe b (-1))) d.2 d.1 d.1) with
        | false =>
          rw [h2, cond_false] at e
          exact bkl9_s he hj hO' e
        | true =>
          rw [h2, cond_true] at e
          refine keep (real h9 (fun h3 => ?_)) e
          obtain ⟨d, h4, h5⟩ := bsum_s g1 hj h2
          obtain ⟨a, b, h6, h7, -, h8⟩ := brgf_s he h4 h5
          rw [h3.2] at h6 h7
          cases h10 : bLe 1 a with
          | true =>
            have := bLe_iff.mp h10
            omega
          | false =>
            rw [h10, cond_false] at h8
            have := bLe_iff.mp h8
            omega
/-- does a write keep what is known of the row of the world? -/
noncomputable def bG0 : bGf := fun p A B k => cond (Nat.beq p.toNat 2) false (cond (Nat.blt p.toNat 188) (k A B) (cond (Nat.beq ((p.toNat - 188) % 24) 0) (cond (Nat.blt p.toNat 377) false (k A B)) (k A B)))
noncomputable def bn0 (j : bI) (S : bS) : Bool := match S with
  | (_, env, _, _, _, _) => bnm env bG0 j.2 j.1 0 0 fun _ _ => true
noncomputable def bwl (j v : bI) (hi : Int) (S : bS) : Bool := cond (brS j S fun a _ => bLe 1626 a) true
  (cond (brS j S fun _ b => bLe b 776)
  (cond (bie hi 2147483647) true
    (cond (bfq j (2, [])) (match blS bWc (2, []) S with
      | none => false
      | some n => cond (bsum (-1) n v fun d => bfq d (1, [])) (bsum 24 n (188, []) fun i => (match blS bWc i S with
        | none => false
        | some l => bsum 1 (-1, []) l fun l => bch l S)) false)
      (cond (bn0 j S) true
        (cond (cond (bsum 1 (-1, []) v fun g => bch g S) (brS j S fun a _ => bLe 3 a) false) true
          (match blS bWc (2, []) S with
            | none => false
            | some n => bsum (-24) n j fun d => bsum 1 (-185, []) d fun d => bch d S))))) false)
set_option maxRecDepth 100000 in
theorem bG0_s : bGok false (fun p _ _ => p.toNat ≠ 2 ∧ ∀ q : Nat, q < 8 → p.toNat ≠ 188 + 24 * q) bG0 := by
  intro p A B k e
  unfold bG0 at e
  cases h1 : Nat.beq p.toNat 2 with
  | true => rw [h1] at e; cases e
  | false =>
    have h1 := abq0 h1
    rw [show Nat.beq p.toNat 2 = false from by
      cases hb : Nat.beq p.toNat 2 with
      | true => exact absurd (abq hb) h1
      | false => rfl, cond_false] at e
    cases h2 : Nat.blt p.toNat 188 with
    | true =>
      rw [h2, cond_true] at e
      have := abl.mp h2
      exact ⟨A, B, bcov_r _ _ _, ⟨h1, fun q _ => by omega⟩, e⟩
    | false =>
      rw [h2, cond_false] at e
      have h2 := abl0 h2
      cases h3 : Nat.beq ((p.toNat - 188) % 24) 0 with
      | false =>
        rw [h3, cond_false] at e
        have := abq0 h3
        exact ⟨A, B, bcov_r _ _ _, ⟨h1, fun q _ => by omega⟩, e⟩
      | true =>
        rw [h3, cond_true] at e
        cases h4 : Nat.blt p.toNat 377 with
        | true => rw [h4] at e; cases e
        | false =>
          rw [h4, cond_false] at e
          have := abl0 h4
          exact ⟨A, B, bcov_r _ _ _, ⟨h1, fun q _ => by omega⟩, e⟩
set_option maxRecDepth 100000 in
theorem bwl_s (hS : bSS E tb W h0 V S h) {jn : Nat} {j v : bI} {y : Int32} {hi : Int} (hj : brel V j (jn : Int)) (hv : brel V v y.toInt) (hhi : hi ≤ (biv bWc jn).2) (e : bwl j v hi S = true) :
    blam (upd (h.2.1 bWc) jn y) ∧ (1626 ≤ jn ∨ jn ≤ 776) := by
  have hI := hS.2.2.2.2.1
  have hl := hI.2.1
  have h8 : (h.2.1 bWc 2).toInt ≤ 8 := by have := (hI.1 bWc 2).2; rw [bW2] at this; exact this
  have gen : jn ≠ 2 → (∀ q : Nat, (q : Int) < (h.2.1 bWc 2).toInt → jn = 188 + 24 * q → 1 ≤ y.toInt) → blam (upd (h.2.1 bWc) jn y) := by
    intro g1 g2 p hp
    have hp : (p : Int) < (upd (h.2.1 bWc) jn y 2).toInt := hp
    unfold upd at hp ⊢
    rw [if_neg (fun z => g1 z.symm)] at hp
    by_cases hq : 188 + 24 * p = jn
    · rw [if_pos hq]
      exact g2 p hp hq.symm
    · rw [if_neg hq]
      exact hl p hp
  unfold bwl at e
  cases c1 : (brS j S fun a _ => bLe 1626 a) with
  | true =>
    obtain ⟨a, b, h1, h2, h3⟩ := brS_s hS hj c1
    have := bLe_iff.mp h3
    exact ⟨gen (by omega) (fun q hq hz => by omega), Or.inl (by omega)⟩
  | false =>
    rw [c1, cond_false] at e
    obtain ⟨c2, e⟩ := bcnd e
    obtain ⟨a, b, h1, h2, h3⟩ := brS_s hS hj c2
    have h4 := bLe_iff.mp h3
    refine ⟨?_, Or.inr (by omega)⟩
    cases c3 : bie hi 2147483647 with
    | true =>
      have c3 := bie_s c3
      have h6 := bWl jn
      refine gen (fun z => ?_) (fun q hq hz => ?_)
      · rw [z, bW2] at hhi
        omega
      · have := h6 q (by omega) hz
        omega
    | false =>
      rw [c3, cond_false] at e
      cases c4 : bfq j (2, []) with
      | true =>
        rw [c4, cond_true] at e
        have c4 := bfq_s c4
        rw [c4] at hj
        have hj2 := brel_k hj
        have hj3 : jn = 2 := by omega
        split at e
        · cases e
        · rename_i n hz
          have g1 := blS_s hS (jn := 2) (brel_c V 2) hz
          rw [bvl_n bWn] at g1
          obtain ⟨e1, e⟩ := bcnd e
          obtain ⟨d, g2, e1⟩ := bsum_s hv g1 e1
          rw [bfq_s e1] at g2
          have g3 := brel_k g2
          obtain ⟨i, g4, e⟩ := bsum_s (brel_c V 188) g1 e
          have hnn : 0 ≤ (h.2.1 bWc 2).toInt := by have := (hI.1 bWc 2).1; rw [bW20] at this; exact this
          split at e
          · cases e
          · rename_i l hz2
            have g5 := blS_s hS (jn := 188 + 24 * (h.2.1 bWc 2).toInt.toNat) (by
              have : ((188 + 24 * (h.2.1 bWc 2).toInt.toNat : Nat) : Int) = 188 + 24 * (h.2.1 bWc 2).toInt := by omega
              rw [this]
              exact g4) hz2
            rw [bvl_n bWn] at g5
            obtain ⟨l', g6, e⟩ := bsum_s g5 (brel_c V (-1)) e
            have g7 := bch_s hS g6 e
            intro p hp
            have hp : (p : Int) < (upd (h.2.1 bWc) jn y 2).toInt := hp
            unfold upd at hp ⊢
            rw [if_pos hj3.symm] at hp
            rw [if_neg (by omega)]
            by_cases hq : (p : Int) < (h.2.1 bWc 2).toInt
            · exact hl p hq
            · have : p = (h.2.1 bWc 2).toInt.toNat := by omega
              rw [this]
              omega
      | false =>
        rw [c4, cond_false] at e
        cases c5 : bn0 j S with
        | true =>
          obtain ⟨nv, env, cs, ov, ca, sa⟩ := S
          obtain ⟨s, s1, s2⟩ := hj
          have c5 : (bnm env bG0 j.2 j.1 0 0 fun _ _ => true) = true := c5
          obtain ⟨A', B', -, g2, -⟩ := bnm_s (w := false) (R := fun p _ _ => p.toNat ≠ 2 ∧ ∀ q : Nat, q < 8 → p.toNat ≠ 188 + 24 * q) (fun p A B A' B' _ g => g) bG0_s hS.1 s1 c5
          rw [← s2] at g2
          exact gen g2.1 (fun q hq hz => absurd hz (g2.2 q (by omega)))
        | false =>
          rw [c5, cond_false] at e
          cases c6 : (cond (bsum 1 (-1, []) v fun g => bch g S) (brS j S fun a _ => bLe 3 a) false) with
          | true =>
            obtain ⟨e1, e2⟩ := bcnd c6
            obtain ⟨l', g6, e1⟩ := bsum_s hv (brel_c V (-1)) e1
            have g7 := bch_s hS g6 e1
            obtain ⟨a', b', h6, h7, h8⟩ := brS_s hS hj e2
            have := bLe_iff.mp h8
            exact gen (by omega) (fun q hq hz => by omega)
          | false =>
            rw [c6, cond_false] at e
            split at e
            · cases e
            · rename_i n hz
              have g1 := blS_s hS (jn := 2) (brel_c V 2) hz
              rw [bvl_n bWn] at g1
              obtain ⟨d, g2, e⟩ := bsum_s hj g1 e
              obtain ⟨d', g3, e⟩ := bsum_s g2 (brel_c V (-185)) e
              have g4 := bch_s hS g3 e
              have hnn : 0 ≤ (h.2.1 bWc 2).toInt := by have := (hI.1 bWc 2).1; rw [bW20] at this; exact this
              exact gen (by omega) (fun q hq hz => by omega)
noncomputable def bG9 (u W : Nat) : bGf := fun p A B k => cond (Nat.testBit W (u + breg p.toNat)) (k A B) false
set_option maxRecDepth 100000 in
theorem bG9_s (u W : Nat) : bGok false (fun p _ _ => Nat.testBit W (u + breg p.toNat) = true) (bG9 u W) := by
  intro p A B k e
  obtain ⟨e1, e2⟩ := bcnd (show cond (Nat.testBit W (u + breg p.toNat)) (k A B) false = true from e)
  exact ⟨A, B, bcov_r _ _ _, e1, e2⟩
noncomputable def bn9 (u W : Nat) (j : bI) (S : bS) : Bool := match S with
  | (_, env, _, _, _, _) => bnm env (bG9 u W) j.2 j.1 0 0 fun _ _ => true
noncomputable def buk (c : Nat) (j : bI) (W : Nat) (S : bS) : Bool := match bg2 unt c with
  | some (0, u) => Nat.testBit W u
  | some (1, u) => (match j with
    | (a, []) => Nat.testBit W (u + a.toNat)
    | (_, _ :: _) => false)
  | some (_ + 2, u) => cond (brS j S fun a b => cond (bLe 377 a) (cond (Nat.beq (breg a.toNat) (breg b.toNat)) (Nat.testBit W (u + breg a.toNat)) false) false) true (bn9 u W j S)
  | none => false
set_option maxRecDepth 100000 in
theorem buk_s (hS : bSS E tb W h0 V S h) {W9 c jn : Nat} {j : bI} (hj : brel V j (jn : Int)) (e : buk c j W9 S = true) : Nat.testBit W9 (bun c jn) = true := by
  unfold buk at e
  unfold bun
  split at e
  · rename_i u hz
    rw [hz]
    exact e
  · rename_i u hz
    rw [hz]
    split at e
    · rename_i a
      have h1 := brel_k hj
      have h2 : jn = a.toNat := by omega
      show Nat.testBit W9 (u + jn) = true
      rw [h2]
      exact e
    · cases e
  · rename_i n u hz
    rw [hz]
    cases h9 : (brS j S fun a b => cond (bLe 377 a) (cond (Nat.beq (breg a.toNat) (breg b.toNat)) (Nat.testBit W9 (u + breg a.toNat)) false) false) with
    | true =>
      obtain ⟨a, b, h1, h2, e⟩ := brS_s hS hj h9
      obtain ⟨h0, e⟩ := bcnd e
      obtain ⟨h3, e⟩ := bcnd e
      have h0 := bLe_iff.mp h0
      have h3 := abq h3
      have h4 : breg a.toNat ≤ breg jn := breg_m (by omega) (by omega)
      have h5 : breg jn ≤ breg b.toNat := breg_m (by omega) (by omega)
      have h6 : breg jn = breg a.toNat := by omega
      show Nat.testBit W9 (u + breg jn) = true
      rw [h6]
      exact e
    | false =>
      rw [h9, cond_false] at e
      obtain ⟨nv, env, cs, ov, ca, sa⟩ := S
      obtain ⟨s, s1, s2⟩ := hj
      have e : (bnm env (bG9 u W9) j.2 j.1 0 0 fun _ _ => true) = true := e
      obtain ⟨A', B', -, g2, -⟩ := bnm_s (w := false) (R := fun p _ _ => Nat.testBit W9 (u + breg p.toNat) = true) (fun p A B A' B' _ g => g) (bG9_s u W9) hS.1 s1 e
      rw [← s2] at g2
      exact g2
  · cases e
set_option maxRecDepth 100000 in
theorem bPS_w (h6 : bPS h) {c jn : Nat} {y : Int32} (h27 : c = 27 → jn = 2) : bPS (zsetI h c (upd (h.2.1 c) jn y)) := by
  obtain ⟨r, h1, h2, h3⟩ := h6
  refine ⟨r, h1, h2, ?_⟩
  show (zrow h.2.1 c (upd (h.2.1 c) jn y) 27 3).toInt ≤ _
  by_cases hc : c = 27
  · subst hc
    rw [zrow_at, h27 rfl]
    exact h3
  · rw [zrow_ne _ _ (fun z => hc z.symm)]
    exact h3
/-- a write of v at a place -/
noncomputable def bwr (W c : Nat) (j v : bI) (S : bS) (k : bS → Bool) : Bool := cond (cond (Nat.blt c 900) (cond (Nat.beq c 27) (cond (bfq j (2, [])) false true) false) true) false (cond (buk c j W S) (cond (bnx c) (bir true c j S fun lo hi => cond (bwi v lo hi S)
  (cond (cond (bhc c) (brS v S fun a b => cond (bLe b 1011) true (bLe 1020 a)) (cond (Nat.beq c bWc) (bwl j v hi S) true)) (match S with
    | (nv, env, cs, ov, ca, sa) => bkl9 c j env ov fun ov => k (nv, env, cs, (c, j, v) :: ov, ca, sa)) false) false) false) false)
set_option maxRecDepth 100000 in
theorem bwr_s (hS : bSS E tb W h0 V S h) {c jn : Nat} {j v : bI} {y : Int32} (hj : brel V j (jn : Int)) (hv : brel V v y.toInt) {k : bS → Bool} (e : bwr W c j v S k = true) : ∃ S', bSS E tb W h0 V S' (zsetI h c (upd (h.2.1 c) jn y)) ∧ k S' = true := by
  unfold bwr at e
  cases hc0 : (cond (Nat.blt c 900) (cond (Nat.beq c 27) (cond (bfq j (2, [])) false true) false) true) with
  | true => rw [hc0] at e; cases e
  | false =>
    rw [hc0, cond_false] at e
    have hc : Nat.blt c 900 = true := by
      cases hb : Nat.blt c 900 with
      | true => rfl
      | false => rw [hb] at hc0; cases hc0
    have h27 : c = 27 → jn = 2 := by
      intro z
      subst z
      have hc1 : cond (bfq j (2, [])) false true = false := hc0
      cases hb : bfq j (2, []) with
      | true =>
        rw [bfq_s hb] at hj
        have := brel_k hj
        omega
      | false => rw [hb] at hc1; cases hc1
    obtain ⟨c1, e⟩ := bcnd e
    obtain ⟨c2, e⟩ := bcnd e
    obtain ⟨lo, hi, h1, e⟩ := bir_s hS hj e
    have h1 : (biv c jn).1 ≤ lo ∧ hi ≤ (biv c jn).2 := h1
    obtain ⟨c3, e⟩ := bcnd e
    obtain ⟨c4, e⟩ := bcnd e
    have h2 := bwi_s hS hv c3
    have h3 : c = bWc → blam (upd (h.2.1 bWc) jn y) ∧ (1626 ≤ jn ∨ jn ≤ 776) := by
      intro hcw
      subst hcw
      rw [show bhc bWc = false from rfl, cond_false, show Nat.beq bWc bWc = true from Nat.beq_refl _, cond_true] at c4
      exact bwl_s hS hj hv h1.2 c4
    have h4 : bhc c = true → y.toInt ≤ 1011 ∨ 1020 ≤ y.toInt := by
      intro hh
      rw [hh, cond_true] at c4
      obtain ⟨a, b, f1, f2, f3⟩ := brS_s hS hv c4
      cases f4 : bLe b 1011 with
      | true => have := bLe_iff.mp f4; exact Or.inl (by omega)
      | false =>
        rw [f4, cond_false] at f3
        have := bLe_iff.mp f3
        exact Or.inr (by omega)
    obtain ⟨nv, env, cs, ov, ca, sa⟩ := S
    obtain ⟨g1, g2, g3, g4, g5, g6, g7, g8, g9, g10⟩ := hS
    obtain ⟨ov', f1, f2⟩ := bkl9_s (y := y) g1 hj g4 e
    refine ⟨(nv, env, cs, (c, j, v) :: ov', ca, sa), ⟨g1, g2, g3, ?_, ?_, bPS_w g6 h27, g7, ?_, g9, g10⟩, f2⟩
    · intro q hq
      cases hq with
      | tail _ hq => exact f1 q hq
      | head =>
        refine ⟨jn, hj, ?_⟩
        have : bvl E (zsetI h c (upd (h.2.1 c) jn y)) c jn = y.toInt := by
          rw [bvl_n hc]
          show (zrow h.2.1 c (upd (h.2.1 c) jn y) c jn).toInt = y.toInt
          rw [zrow_at]
          unfold upd
          rw [if_pos rfl]
        rw [this]
        exact hv
    · refine ⟨?_, ?_, ?_, ?_⟩
      · intro c' k'
        show (biv c' k').1 ≤ (zrow h.2.1 c (upd (h.2.1 c) jn y) c' k').toInt ∧ (zrow h.2.1 c (upd (h.2.1 c) jn y) c' k').toInt ≤ (biv c' k').2
        by_cases hcc : c' = c
        · subst hcc
          rw [zrow_at]
          unfold upd
          by_cases hk : k' = jn
          · subst hk
            rw [if_pos rfl]
            omega
          · rw [if_neg hk]
            exact g5.1 c' k'
        · rw [zrow_ne _ _ hcc]
          exact g5.1 c' k'
      · by_cases hcw : bWc = c
        · subst hcw
          show blam (zrow h.2.1 bWc (upd (h.2.1 bWc) jn y) bWc)
          rw [zrow_at]
          exact (h3 rfl).1
        · show blam (zrow h.2.1 c (upd (h.2.1 c) jn y) bWc)
          rw [zrow_ne _ _ hcw]
          exact g5.2.1
      · exact bHX_w g5.1 g5.2.2.1 c2 (fun z => (h3 z).2)
      · intro c' hh k'
        by_cases hcc : c' = c
        · subst hcc
          show (zrow h.2.1 c' (upd (h.2.1 c') jn y) c' k').toInt ≤ 1011 ∨ 1020 ≤ (zrow h.2.1 c' (upd (h.2.1 c') jn y) c' k').toInt
          rw [zrow_at]
          unfold upd
          by_cases hk : k' = jn
          · subst hk
            rw [if_pos rfl]
            exact h4 hh
          · rw [if_neg hk]
            exact g5.2.2.2 c' hh k'
        · show (zrow h.2.1 c (upd (h.2.1 c) jn y) c' k').toInt ≤ 1011 ∨ 1020 ≤ (zrow h.2.1 c (upd (h.2.1 c) jn y) c' k').toInt
          rw [zrow_ne _ _ hcc]
          exact g5.2.2.2 c' hh k'
    · intro c' k' hb
      show zrow h.2.1 c (upd (h.2.1 c) jn y) c' k' = _
      by_cases hcc : c' = c
      · subst hcc
        rw [zrow_at]
        unfold upd
        by_cases hk : k' = jn
        · subst hk
          rw [buk_s ⟨g1, g2, g3, g4, g5, g6, g7, g8, g9, g10⟩ hj c1] at hb
          cases hb
        · rw [if_neg hk]
          exact g8 c' k' hb
      · rw [zrow_ne _ _ hcc]
        exact g8 c' k' hb
end BHP
