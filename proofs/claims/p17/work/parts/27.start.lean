/-! the start: what the constructors leave -/
set_option maxRecDepth 100000 in
theorem cond_P {P : Int × Int → Prop} {b : Bool} {x y : Int × Int} (h1 : P x) (h2 : P y) : P (cond b x y) := by
  cases b
  · exact h2
  · exact h1
set_option maxRecDepth 100000 in
theorem agd_P {α : Type} {P : α → Prop} {d : α} (hd : P d) : ∀ {l : List α} {k : Nat}, (∀ x, x ∈ l → P x) → P (agd d l k)
  | [], _, _ => hd
  | a :: l, 0, h => h a List.mem_cons_self
  | a :: l, k + 1, h => agd_P (l := l) (k := k) hd fun x hx => h x (List.mem_cons_of_mem _ hx)
def z0P (q : Int × Int) : Prop := q.1 ≤ 0 ∧ 0 ≤ q.2
def z0b (q : Int × Int) : Bool := bLe q.1 0 && bLe 0 q.2
set_option maxRecDepth 100000 in
theorem z0b_s {q : Int × Int} (h : z0b q = true) : z0P q := by
  unfold z0b at h
  rw [Bool.and_eq_true] at h
  exact ⟨bLe_iff.mp h.1, bLe_iff.mp h.2⟩
set_option maxRecDepth 100000 in
theorem z0l {l : List (Int × Int)} (h : l.all z0b = true) : ∀ x, x ∈ l → z0P x := fun x hx => z0b_s (List.all_eq_true.mp h x hx)
set_option maxRecDepth 100000 in
theorem bwinv0 (i : Nat) : z0P (bwinv i) := by
  have F : z0P (-2147483648, 2147483647) := z0b_s rfl
  unfold bwinv
  repeat' apply cond_P (P := z0P)
  all_goals first
    | exact F
    | exact z0b_s rfl
    | exact agd_P F (z0l rfl)
set_option maxRecDepth 100000 in
theorem ivt_all : ivt.all (fun r => r.all fun q => q.2.all z0b) = true := by decide +kernel
set_option maxRecDepth 100000 in
theorem zat_mem {α : Type} : ∀ {l : List α} {i : Nat} {x : α}, zat l i = some x → x ∈ l
  | [], _, _, h => nomatch h
  | a :: l, 0, x, h => by cases h; exact List.mem_cons_self
  | a :: l, i + 1, x, h => List.mem_cons_of_mem _ (zat_mem (l := l) h)
set_option maxRecDepth 100000 in
theorem bg2_mem {α : Type} {t : List (List α)} {c : Nat} {x : α} (h : bg2 t c = some x) : ∃ r, r ∈ t ∧ x ∈ r := by
  unfold bg2 at h
  split at h
  · rename_i r hr
    rw [agt_eq] at hr h
    exact ⟨r, zat_mem hr, zat_mem h⟩
  · cases h
set_option maxRecDepth 100000 in
theorem biv0 (c k : Nat) : z0P (biv c k) := by
  have F : z0P (-2147483648, 2147483647) := z0b_s rfl
  have key : ∀ m l, bg2 ivt c = some (m, l) → ∀ x, x ∈ l → z0P x := by
    intro m l h
    obtain ⟨r, h1, h2⟩ := bg2_mem h
    have h3 := List.all_eq_true.mp ivt_all r h1
    have h4 := List.all_eq_true.mp h3 _ h2
    exact z0l h4
  unfold biv
  split
  · rename_i l hz; exact agd_P F (key _ _ hz)
  · rename_i l hz; exact agd_P F (key _ _ hz)
  · exact bwinv0 k
  · exact bwinv0 _
  · exact F
noncomputable def vck (c j code : Nat) : Bool := cond (Nat.blt code 4294967296) (cond (bLe (biv c j).1 (Int.subNatNat code 2147483648)) (bLe (Int.subNatNat code 2147483648) (biv c j).2) false) false
noncomputable def nall (n : Nat) (f : Nat → Bool) : Bool := Nat.rec (motive := fun _ => Bool) true (fun i ih => cond (f i) ih false) n
set_option maxRecDepth 100000 in
theorem nall_s {f : Nat → Bool} : ∀ {n : Nat}, nall n f = true → ∀ i, i < n → f i = true
  | 0, _, i, hi => absurd hi (Nat.not_lt_zero i)
  | n + 1, h, i, hi => by
    have h : cond (f n) (nall n f) false = true := h
    obtain ⟨h1, h2⟩ := acnd h
    by_cases hn : i = n
    · rw [hn]; exact h1
    · exact nall_s h2 i (by omega)
noncomputable def tck (c : Nat) (t : aT) : Bool := match t with
  | [] => true
  | [[]] => true
  | [[l]] => nall (16 * l.length) fun j => vck c j (agI t j)
  | [_] => nall 4096 fun j => vck c j (agI t j)
  | _ => false
set_option maxRecDepth 100000 in
theorem vck_s {V : Nat → Int32} {c j code : Nat} {x : Int32} (h : vck c j code = true) (hx : arel V code x) : (biv c j).1 ≤ x.toInt ∧ x.toInt ≤ (biv c j).2 := by
  obtain ⟨h1, h⟩ := acnd h
  obtain ⟨h2, h3⟩ := acnd h
  have h2 := bLe_iff.mp h2
  have h3 := bLe_iff.mp h3
  have h4 := hx.1 (abl.mp h1)
  have h5 : Int.subNatNat code 2147483648 = x.toInt := by rw [Int.subNatNat_eq_coe]; omega
  rw [h5] at h2 h3
  exact ⟨h2, h3⟩
set_option maxRecDepth 100000 in
theorem v0 {V : Nat → Int32} {x : Int32} (hx : arel V 2147483648 x) : x.toInt = 0 := by
  have := hx.1 (by decide)
  omega
set_option maxRecDepth 100000 in
theorem tck_s {V : Nat → Int32} {c j : Nat} {t : aT} {x : Int32} (h : tck c t = true) (hx : arel V (agI t j) x) : (biv c j).1 ≤ x.toInt ∧ x.toInt ≤ (biv c j).2 := by
  have zz : agI t j = 2147483648 → (biv c j).1 ≤ x.toInt ∧ x.toInt ≤ (biv c j).2 := by
    intro z
    rw [z] at hx
    rw [v0 hx]
    exact biv0 c j
  unfold tck at h
  split at h
  · exact zz rfl
  · refine zz ?_
    unfold agI
    cases hj : j / 4096 with
    | zero =>
      show agd 2147483648 (agd [] (agd [] [] (j / 256 % 16)) (j / 16 % 16)) (j % 16) = _
      rfl
    | succ m => rfl
  · rename_i l
    by_cases hj : j < 16 * l.length
    · exact vck_s (nall_s h j hj) hx
    · refine zz ?_
      unfold agI
      cases hj4 : j / 4096 with
      | succ m => rfl
      | zero =>
        show agd 2147483648 (agd [] (agd [] [l] (j / 256 % 16)) (j / 16 % 16)) (j % 16) = _
        cases hj2 : j / 256 % 16 with
        | succ m => rfl
        | zero =>
          show agd 2147483648 (agd [] l (j / 16 % 16)) (j % 16) = _
          rw [show agd [] l (j / 16 % 16) = [] from agd_no (by omega)]
          rfl
  · rename_i y _ _
    by_cases hj : j < 4096
    · exact vck_s (nall_s h j hj) hx
    · refine zz ?_
      unfold agI
      obtain ⟨m, hm⟩ : ∃ m, j / 4096 = m + 1 := ⟨j / 4096 - 1, by omega⟩
      rw [hm]
      rfl
  · cases h
noncomputable def ack (h : aHp) (c : Nat) : Bool := match aget h.1 c with
  | some (s, t) => cond (zse (some s) (some (.inr (.inr ())))) false (cond (zse (some s) (zat (bsT 0) c)) (cond (tck c t) (cond (bhc c) (match t with
    | [] => true
    | _ => false) true) false) false)
  | none => false
noncomputable def avk (h : aHp) (c j : Nat) : Bool := match aget h.1 c with
  | some (s, t) => cond (zse (some s) (some (.inr (.inr ())))) false (Nat.beq (agI t j) 2147483648)
  | none => false
set_option maxRecDepth 100000 in
theorem avk_s {V : Nat → Int32} {G : zH} {ah : aHp} {h : zH} {c j : Nat} (hh : aHR V G ah h) (e : avk ah c j = true) : (h.2.1 c j).toInt = 0 := by
  unfold avk at e
  split at e
  · rename_i s t hz
    cases h1 : zse (some s) (some (.inr (.inr ()))) with
    | true => rw [h1] at e; cases e
    | false =>
      rw [h1, cond_false] at e
      have h2 := (hh.1 c s t hz (fun z => zse_n h1 (congrArg some z))).2 j
      rw [abq e] at h2
      exact v0 h2
  · cases e
/-- is that the start? -/
noncomputable def stk (ls : aLs) (h : aHp) : Bool := match ls with
  | [some (.inr w0), some (.inr w1), some (.inr w2), some (.inr w3), some (.inl i), _, _] =>
    cond (bvq w0 (.float 0) && bvq w1 (.ref 0)) (cond (bvq w2 (.ref 84)) (cond (bvq w3 (.ref 94)) (cond (Nat.beq i 2147483648) (match h.2 with
      | some (m, _, cc, q) => cond (Nat.beq m 95) (cond (Nat.ble cc 588000) (cond (Nat.ble q 5900000) (cond (nall 95 fun c => ack h c) (cond (avk h 1 1 && avk h 84 9) (cond (avk h 30 4 && avk h 84 6) (cond (avk h 27 3) (cond (avk h 85 2 && avk h 86 2) (cond (avk h 87 2 && avk h 88 2) (cond (avk h 85 777 && avk h 86 777) (cond (avk h 87 777) (nall 12 fun b => avk h 89 (777 * b + 2)) false) false) false) false) false) false) false) false) false) false) false
      | none => false) false) false) false) false
  | _ => false

set_option maxRecDepth 100000 in
theorem zat_ext {α : Type} : ∀ {l m : List α}, l.length = m.length → (∀ i, i < l.length → zat l i = zat m i) → l = m
  | [], [], _, _ => rfl
  | [], _ :: _, h, _ => by cases h
  | _ :: _, [], h, _ => by cases h
  | a :: l, b :: m, h, h2 => by
    have h3 : some a = some b := h2 0 (by simp)
    cases h3
    rw [zat_ext (l := l) (m := m) (Nat.succ.inj h) fun i hi => h2 (i + 1) (by simpa using hi)]
def zG9 : zH := ([], fun _ _ => 0, fun _ _ => 0, 0, 0)
set_option maxRecDepth 100000 in
theorem stk_s {V : Nat → Int32} {ls : aLs} {lc : zLs} {ah : aHp} {h : zH} (hl : aLR V ls lc) (hh : aHR V zG9 ah h) (e : stk ls ah = true) : (∃ w5 w6, lc = [some (.float 0), some (.ref 0), some (.ref 84), some (.ref 94), some (.int 0), w5, w6]) ∧ bHI h ∧ bPS h ∧ bTB ctb h.1 ∧
    ((h.2.1 1 1).toInt = 0 ∧ (h.2.1 84 9).toInt = 0 ∧ (h.2.1 30 4).toInt = 0 ∧ (h.2.1 84 6).toInt = 0) ∧ h.2.2.2.1 ≤ 588000 ∧ h.2.2.2.2 ≤ 5900000 := by
  unfold stk at e
  split at e
  · rename_i w0 w1 w2 w3 i o5 o6
    obtain ⟨c0, e⟩ := acnd e
    obtain ⟨c2, e⟩ := acnd e
    obtain ⟨c3, e⟩ := acnd e
    obtain ⟨c4, e⟩ := acnd e
    rw [Bool.and_eq_true] at c0
    split at e
    · rename_i m J cc q hq
      obtain ⟨d1, e⟩ := acnd e
      obtain ⟨d2, e⟩ := acnd e
      obtain ⟨d3, e⟩ := acnd e
      obtain ⟨d4, e⟩ := acnd e
      obtain ⟨d5, e⟩ := acnd e
      obtain ⟨d6, e⟩ := acnd e
      obtain ⟨d7, e⟩ := acnd e
      obtain ⟨d8, e⟩ := acnd e
      obtain ⟨d9, e⟩ := acnd e
      obtain ⟨d10, e⟩ := acnd e
      obtain ⟨d11, d12⟩ := acnd e
      rw [Bool.and_eq_true] at d5 d6 d8 d9 d10
      have hq2 := hh.2.2
      rw [hq] at hq2
      obtain ⟨r1, r2, r3, r4⟩ := hq2
      have r1 : m = h.1.length := r1
      have r3 : h.2.2.2.1 = cc := r3
      have r4 : h.2.2.2.2 = q := r4
      have hlen : h.1.length = 95 := by rw [← r1]; exact abq d1
      have hack : ∀ c, c < 95 → ∃ s t, aget ah.1 c = some (s, t) ∧ s ≠ .inr (.inr ()) ∧ some s = zat (bsT 0) c ∧ tck c t = true ∧ (bhc c = true → t = []) := by
        intro c hc
        have q1 := nall_s d4 c hc
        unfold ack at q1
        split at q1
        · rename_i s t hz
          cases h1 : zse (some s) (some (.inr (.inr ()))) with
          | true => rw [h1] at q1; cases q1
          | false =>
            rw [h1, cond_false] at q1
            obtain ⟨q2, q1⟩ := acnd q1
            obtain ⟨q3, q1⟩ := acnd q1
            refine ⟨s, t, hz, fun z => zse_n h1 (congrArg some z), zse_s q2, q3, fun z => ?_⟩
            rw [z, cond_true] at q1
            split at q1
            · rfl
            · cases q1
        · cases q1
      have hsh : h.1 = bsT 0 := by
        refine zat_ext (by rw [hlen]; exact (shk_t 0 (by omega)).1.1.symm) fun c hc => ?_
        obtain ⟨s, t, g1, g2, g3, -, -⟩ := hack c (by omega)
        rw [← g3]
        exact (hh.1 c s t g1 g2).1
      have hv : ∀ c k, (95 ≤ c → h.2.1 c k = 0) := by
        intro c k hc
        cases hg : aget ah.1 c with
        | none =>
          have := (hh.2.1 c (Or.inl hg)).2
          rw [this]
          rfl
        | some p =>
          obtain ⟨s, t⟩ := p
          by_cases hs : s = .inr (.inr ())
          · have := (hh.2.1 c (Or.inr ⟨t, by rw [hg, hs]⟩)).2
            rw [this]
            rfl
          · have := (hh.1 c s t hg hs).1
            rw [zat_no (by omega)] at this
            cases this
      have hz0 : (0 : Int32).toInt = 0 := by decide
      have hbiv : ∀ c k, (biv c k).1 ≤ (h.2.1 c k).toInt ∧ (h.2.1 c k).toInt ≤ (biv c k).2 := by
        intro c k
        by_cases hc : c < 95
        · obtain ⟨s, t, g1, g2, g3, g4, -⟩ := hack c hc
          exact tck_s g4 ((hh.1 c s t g1 g2).2 k)
        · rw [hv c k (by omega), hz0]
          exact biv0 c k
      have bl : ∀ f : Nat → Int32, (f 2).toInt = 0 → blam f := by
        intro f hf p hp
        rw [hf] at hp
        omega
      have bo : ∀ f : Nat → Int32, (f 777).toInt = 0 → bOm f := by
        intro f hf n hn
        rw [hf] at hn
        omega
      refine ⟨?_, ⟨hbiv, bl _ (avk_s hh d8.1), ⟨⟨bl _ (avk_s hh d8.2), bl _ (avk_s hh d9.1), bl _ (avk_s hh d9.2), fun b hb => bl _ (avk_s hh (nall_s d12 b hb))⟩, bo _ (avk_s hh d10.1), bo _ (avk_s hh d10.2), bo _ (avk_s hh d11)⟩, fun c hc k => ?_⟩, ⟨0, by omega, hsh, by rw [avk_s hh d7]; exact Int.le_refl _⟩, by rw [hsh]; exact ctb_B (by omega), ⟨avk_s hh d5.1, avk_s hh d5.2, avk_s hh d6.1, avk_s hh d6.2⟩, by rw [r3]; exact Nat.le_of_ble_eq_true d2, by rw [r4]; exact Nat.le_of_ble_eq_true d3⟩
      · have c0a := bvq_s c0.1
        have c0b := bvq_s c0.2
        have c2 := bvq_s c2
        have c3 := bvq_s c3
        subst c0a
        subst c0b
        subst c2
        subst c3
        match lc, hl with
        | [p0, p1, p2, p3, p4, p5, p6], hl =>
          obtain ⟨⟨v0', e0, f0⟩, ⟨v1', e1, f1⟩, ⟨v2', e2', f2⟩, ⟨v3', e3, f3⟩, ⟨v4', e4, x, f4, f5⟩, -, -, -⟩ := hl
          have f0 : v0' = _ := f0
          have f1 : v1' = _ := f1
          have f2 : v2' = _ := f2
          have f3 : v3' = _ := f3
          rw [abq c4] at f5
          have f6 : x = 0 := Int32.toInt_inj.mp (by rw [v0 f5]; rfl)
          refine ⟨p5, p6, ?_⟩
          rw [e0, e1, e2', e3, e4, f0, f1, f2, f3, f4, f6]
      · by_cases h95 : c < 95
        · obtain ⟨s, t, g1, g2, g3, g4, g5⟩ := hack c h95
          have g6 := (hh.1 c s t g1 g2).2 k
          rw [g5 hc] at g6
          have g7 : (h.2.1 c k).toInt = 0 := v0 g6
          omega
        · rw [hv c k (by omega), hz0]
          omega
    · cases e
  · cases e
noncomputable def stp : aF := fun _ _ fs d mi pc ls st h => match fs, st with
  | [], [] => cond (Nat.beq d 100) (cond (Nat.beq mi 0) (cond (Nat.beq pc 23) (stk ls h) false) false) false
  | _, _ => false
noncomputable def sm0 : aSM := fun _ _ _ _ _ _ _ => false
def ah9 : aHp := ([], some (0, fun _ _ => 0, 0, 0))
def als9 : aLs := [some (.inr (.float 0)), none, none, none, none, none, none]
noncomputable def zrun9 : Bool := zab 2147483648 (fun mi pc => Nat.beq pc 23 && Nat.beq mi 0) stp (fun _ => false) sm0 (fun _ _ _ => false) 1000000 1000000 [] [] 100 0 0 als9 [] ah9
set_option maxRecDepth 100000 in
theorem zrun9_ok : zrun9 = true := by decide +kernel
