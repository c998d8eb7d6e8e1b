section BCL
variable {E : zE} {tb : bTb} {W : Nat} {h0 : zH} {V : List Int} {S : bS} {h : zH}
noncomputable def bfl (l : bE) : Nat → List bI → bS → (List bI → bS → Bool) → Bool := List.rec (motive := fun _ => Nat → List bI → bS → (List bI → bS → Bool) → Bool) (fun _ σ S k => k σ S)
  (fun q _ ih m σ S k => bfre q.1 q.2 S fun g S => asd (0, []) m g σ fun σ => afo (m + 1) fun m => ih m σ S k) l
set_option maxRecDepth 100000 in
theorem bfl_s : ∀ {l : bE} {U V : List Int} {S : bS} {σ : List bI} {Vc : List Int} {m : Nat} {k : List bI → bS → Bool}, benv U l → bSS E tb W h0 V S h → bsg V σ Vc → m = σ.length → bfl l m σ S k = true → ∃ V' S' σ', bxt V V' ∧ bSS E tb W h0 V' S' h ∧ bsg V' σ' (Vc ++ U) ∧ k σ' S' = true
  | [], U, V, S, σ, Vc, m, k, hU, hS, hσ, _, e => by
    cases U with
    | cons u U => exact absurd hU.1 (by simp)
    | nil =>
      rw [List.append_nil]
      exact ⟨V, S, σ, bxt_refl V, hS, hσ, e⟩
  | q :: l, U, V, S, σ, Vc, m, k, hU, hS, hσ, hm, e => by
    cases U with
    | nil => exact absurd hU.1 (by simp)
    | cons u U =>
      have e : (bfre q.1 q.2 S fun g S => asd (0, []) m g σ fun σ => afo (m + 1) fun m => bfl l m σ S k) = true := e
      obtain ⟨u', h1, h2, h3⟩ := hU.2 0 q.1 q.2 rfl
      have h1 : some u = some u' := h1
      cases h1
      obtain ⟨V', g, S', g1, g2, g3, e⟩ := bfre_s hS h2 h3 e
      rw [asd_eq, afo_eq, hm, asl_app] at e
      have hU' : benv U l := ⟨by have := hU.1; simp at this; exact this, fun i lo hi hz => hU.2 (i + 1) lo hi hz⟩
      obtain ⟨V9, S9, σ9, f1, f2, f3, e⟩ := bfl_s (m := σ.length + 1) hU' g3 (bsg_app (bsg_up g1 hσ) g2) (by simp) e
      refine ⟨V9, S9, σ9, bxt_trans g1 f1, f2, ?_, e⟩
      rw [List.append_assoc] at f3
      exact f3
noncomputable def bal9 (σ : List bI) (cs : bC) : bS → (bS → Bool) → Bool := List.rec (motive := fun _ => bS → (bS → Bool) → Bool) (fun S k => k S) (fun C _ ih S k => bsF σ C fun g => bas g S fun S => ih S k) cs
set_option maxRecDepth 100000 in
theorem bal9_s {σ : List bI} {Vc : List Int} (hσ : bsg V σ Vc) : ∀ {cs : bC} {S : bS} {k : bS → Bool}, bcs Vc cs → bSS E tb W h0 V S h → bal9 σ cs S k = true → ∃ S', bSS E tb W h0 V S' h ∧ k S' = true
  | [], S, k, _, hS, e => ⟨S, hS, e⟩
  | C :: cs, S, k, hc, hS, e => by
    have e : (bsF σ C fun g => bas g S fun S => bal9 σ cs S k) = true := e
    obtain ⟨x, h1, h2⟩ := hc C List.mem_cons_self
    obtain ⟨r, h3, e⟩ := bsF_s hσ h1 e
    obtain ⟨S', h4, e⟩ := bas_s hS h3 h2 e
    exact bal9_s hσ (fun D hD => hc D (List.mem_cons_of_mem _ hD)) h4 e
noncomputable def bpl (σ : List bI) (l : bPv) : bS → (bS → Bool) → Bool := List.rec (motive := fun _ => bS → (bS → Bool) → Bool) (fun S k => k S)
  (fun q _ ih S k => bsF σ q.2.2 fun g => cond (Nat.beq q.1 1000000) (ih S k) (match S with
    | (nv, env, cs, ov, ca, sa) => ih (nv, env, cs, (q.1, (.ofNat q.2.1, []), g) :: ov, ca, sa) k)) l
set_option maxRecDepth 100000 in
theorem bpl_s {σ : List bI} {Vc : List Int} (hσ : bsg V σ Vc) : ∀ {l : bPv} {S : bS} {k : bS → Bool}, bpv E Vc l h → bSS E tb W h0 V S h → bpl σ l S k = true → ∃ S', bSS E tb W h0 V S' h ∧ k S' = true
  | [], S, k, _, hS, e => ⟨S, hS, e⟩
  | q :: l, S, k, hp, hS, e => by
    have e : (bsF σ q.2.2 fun g => cond (Nat.beq q.1 1000000) (bpl σ l S k) (match S with
      | (nv, env, cs, ov, ca, sa) => bpl σ l (nv, env, cs, (q.1, (.ofNat q.2.1, []), g) :: ov, ca, sa) k)) = true := e
    obtain ⟨r, h3, e⟩ := bsF_s hσ (hp q List.mem_cons_self) e
    have hp' : bpv E Vc l h := fun p hq => hp p (List.mem_cons_of_mem _ hq)
    cases hc : Nat.beq q.1 1000000 with
    | true =>
      rw [hc, cond_true] at e
      exact bpl_s hσ hp' hS e
    | false =>
      rw [hc, cond_false] at e
      obtain ⟨nv, env, cs, ov, ca, sa⟩ := S
      obtain ⟨g1, g2, g3, g4, g5⟩ := hS
      refine bpl_s (S := (nv, env, cs, (q.1, (.ofNat q.2.1, []), r) :: ov, ca, sa)) hσ hp' ⟨g1, g2, g3, ?_, g5⟩ e
      intro p hq
      cases hq with
      | head => exact ⟨q.2.1, brel_c V _, h3⟩
      | tail _ hq => exact g4 p hq
noncomputable def bre (σ : List bI) (r : Option bV) (k : Option bV → Bool) : Bool := match r with
  | none => k none
  | some (.inl f) => bsF σ f fun g => k (some (.inl g))
  | some (.inr (.inl w)) => k (some (.inr (.inl w)))
  | some (.inr (.inr f)) => bsF σ f fun g => k (some (.inr (.inr g)))
def boV (V : List Int) (v : Option bV) (w : Option Value) : Prop := match v, w with
  | none, none => True
  | some v, some w => bVR V v w
  | none, some _ => False
  | some _, none => False
set_option maxRecDepth 100000 in
theorem bre_s {σ : List bI} {Vc : List Int} (hσ : bsg V σ Vc) {r : Option bV} {w : Option Value} (hr : boV Vc r w) {k : Option bV → Bool} (e : bre σ r k = true) : ∃ r', boV V r' w ∧ k r' = true := by
  unfold bre at e
  split at e
  · cases w with
    | none => exact ⟨none, trivial, e⟩
    | some w => exact hr.elim
  · cases w with
    | none => exact hr.elim
    | some w =>
      obtain ⟨x, h1, h2⟩ := hr
      obtain ⟨g, h3, e⟩ := bsF_s hσ h2 e
      exact ⟨some (.inl g), ⟨x, h1, h3⟩, e⟩
  · rename_i w9
    cases w with
    | none => exact hr.elim
    | some w => exact ⟨some (.inr (.inl w9)), hr, e⟩
  · cases w with
    | none => exact hr.elim
    | some w =>
      obtain ⟨x, h1, h2⟩ := hr
      obtain ⟨g, h3, e⟩ := bsF_s hσ h2 e
      exact ⟨some (.inr (.inr g)), ⟨x, h1, h3⟩, e⟩
def bPR (E : zE) (Vc : List Int) (p : bPo) (v : Option Value) (h : zH) : Prop := ∃ U, benv U p.1 ∧ bcs (Vc ++ U) p.2.1 ∧ boV (Vc ++ U) p.2.2.1 v ∧ bpv E (Vc ++ U) p.2.2.2 h
def bMT (E : zE) (tb : bTb) (B j : Nat) (c : bSm) : Prop := ∀ (Vc : List Int) (ss : List Value) (h : zH) (d f : Nat) (q : Nat × Nat × Nat × Nat × Nat × Nat), zat zmi j = some q → c.1 ≤ d → B ≤ f →
  bKR Vc c.2.2.2.2.1 ss → benv Vc c.2.2.2.2.2.1 → bcs Vc c.2.2.2.2.2.2.1 → bpv E Vc c.2.2.2.2.2.2.2.1 h → bHI h → bPS h → bTB tb h.1 →
  ∃ v h', zex E f d j 0 (zent q.2.1 ss) [] h = some (.inl v, h') ∧ bHI h' ∧ (bPS h' ∧ bTB tb h'.1) ∧ (∀ a k, Nat.testBit c.2.1 (bun a k) = false → h'.2.1 a k = h.2.1 a k) ∧
    h'.2.2.2.1 ≤ h.2.2.2.1 + c.2.2.1 ∧ h'.2.2.2.2 ≤ h.2.2.2.2 + c.2.2.2.1 ∧ ∃ p, p ∈ c.2.2.2.2.2.2.2.2 ∧ bPR E Vc p v h'
noncomputable def bad (n : Nat) (f : bI) (k : bI → Bool) : Bool := bfo (f.1 + n) fun c => k (c, f.2)
set_option maxRecDepth 100000 in
theorem bad_s {n : Nat} {f : bI} {x : Int} (hf : brel V f x) {k : bI → Bool} (e : bad n f k = true) : ∃ g, brel V g (x + n) ∧ k g = true := by
  unfold bad at e
  rw [bfo_eq] at e
  obtain ⟨s, h1, h2⟩ := hf
  exact ⟨(f.1 + n, f.2), ⟨s, h1, by rw [h2]; show f.1 + s + n = f.1 + n + s; omega⟩, e⟩
noncomputable def bap (W A B m : Nat) (σ : List bI) (p : bPo) (S : bS) (k : Option bV → bS → Bool) : Bool := match S with
  | (nv, env, cs, ov, ca, sa) => bdr W ov fun ov => bad A ca fun ca => bad B sa fun sa => bfl p.1 m σ (nv, env, cs, ov, ca, sa) fun σ S => bal9 σ p.2.1 S fun S => bpl σ p.2.2.2 S fun S => bre σ p.2.2.1 fun r => k r S
set_option maxRecDepth 100000 in
theorem bap_s {W' : Nat} (hW : ∀ u, Nat.testBit W u = false → Nat.testBit W' u = false) (hS : bSS E tb W h0 V S h) {σ : List bI} {Vc : List Int} (hσ : bsg V σ Vc) {m : Nat} (hm : m = σ.length) {A B : Nat} {p : bPo} {v : Option Value} {h' : zH}
    (h1 : bHI h') (h2 : bPS h' ∧ bTB tb h'.1) (h3 : ∀ a k, Nat.testBit W' (bun a k) = false → h'.2.1 a k = h.2.1 a k) (h4 : h'.2.2.2.1 ≤ h.2.2.2.1 + A) (h5 : h'.2.2.2.2 ≤ h.2.2.2.2 + B) (h6 : bPR E Vc p v h') {k : Option bV → bS → Bool} (e : bap W' A B m σ p S k = true) :
    ∃ V' S' r, bxt V V' ∧ bSS E tb W h0 V' S' h' ∧ boV V' r v ∧ k r S' = true := by
  obtain ⟨nv, env, cs, ov, ca, sa⟩ := S
  obtain ⟨g1, g2, g3, g4, g5, g6, g7, g8, ⟨x, g9, g10⟩, ⟨y, g11, g12⟩⟩ := hS
  have e : (bdr W' ov fun ov => bad A ca fun ca => bad B sa fun sa => bfl p.1 m σ (nv, env, cs, ov, ca, sa) fun σ S => bal9 σ p.2.1 S fun S => bpl σ p.2.2.2 S fun S => bre σ p.2.2.1 fun r => k r S) = true := e
  obtain ⟨ov', f1, e⟩ := bdr_s h3 g4 e
  obtain ⟨ca', f2, e⟩ := bad_s g9 e
  obtain ⟨sa', f3, e⟩ := bad_s g11 e
  obtain ⟨U, u1, u2, u3, u4⟩ := h6
  have hS' : bSS E tb W h0 V (nv, env, cs, ov', ca', sa') h' := by
    refine ⟨g1, g2, g3, f1, h1, h2.1, h2.2, ?_, ⟨_, f2, ?_⟩, ⟨_, f3, ?_⟩⟩
    · intro c k' hb
      rw [h3 c k' (hW _ hb)]
      exact g8 c k' hb
    · omega
    · omega
  obtain ⟨V', S', σ', d1, d2, d3, e⟩ := bfl_s u1 hS' hσ hm e
  obtain ⟨S2, d4, e⟩ := bal9_s d3 u2 d2 e
  obtain ⟨S3, d5, e⟩ := bpl_s d3 u4 d4 e
  obtain ⟨r, d6, e⟩ := bre_s d3 u3 e
  exact ⟨V', S3, r, d1, d5, d6, e⟩
noncomputable def bps (W A B m : Nat) (σ : List bI) (S : bS) (k : Option bV → bS → Bool) (l : List bPo) : Bool := List.rec (motive := fun _ => Bool) true (fun p _ ih => cond (bap W A B m σ p S k) ih false) l
set_option maxRecDepth 100000 in
theorem bps_s {W A B m : Nat} {σ : List bI} {k : Option bV → bS → Bool} : ∀ {l : List bPo} {p : bPo}, p ∈ l → bps W A B m σ S k l = true → bap W A B m σ p S k = true
  | [], _, hp, _ => absurd hp List.not_mem_nil
  | q :: l, p, hp, e => by
    have e : cond (bap W A B m σ q S k) (bps W A B m σ S k l) false = true := e
    obtain ⟨h1, e⟩ := bcnd e
    cases hp with
    | head => exact h1
    | tail _ hp => exact bps_s hp e
/-- a call, by what is known of it -/
noncomputable def bsc (Dm W dn : Nat) (as : bSt) (S : bS) (k : Option bV → bS → Bool) (c : bSm) : Bool := match c with
  | (D, W', A, B, args, env, cs, ov, posts) => cond (cond (Nat.blt D Dm) (Nat.ble D dn) false) (cond (Nat.beq (Nat.land W' W) W') (bms S args 0 [] as fun m σ => bmo ov m σ S fun m σ S => cond (bck S env σ) (cond (bcc S σ cs) (bps W' A B m σ S k posts) false) false) false) false
set_option maxRecDepth 100000 in
theorem bsc_s {Dm B0 j : Nat} {c : bSm} (hM : c.1 < Dm → bMT E tb B0 j c) {q : Nat × Nat × Nat × Nat × Nat × Nat} (hq : zat zmi j = some q) {dn d f : Nat} (hd : dn ≤ d) (hf : B0 ≤ f) (hS : bSS E tb W h0 V S h) {as : bSt} {ss : List Value} (ha : bKR V as ss) {k : Option bV → bS → Bool} (e : bsc Dm W dn as S k c = true) :
    ∃ v h' V' S' r, zex E f d j 0 (zent q.2.1 ss) [] h = some (.inl v, h') ∧ bxt V V' ∧ bSS E tb W h0 V' S' h' ∧ boV V' r v ∧ k r S' = true := by
  obtain ⟨D, W', A, B, args, env, cs, ov, posts⟩ := c
  have e : cond (cond (Nat.blt D Dm) (Nat.ble D dn) false) (cond (Nat.beq (Nat.land W' W) W') (bms S args 0 [] as fun m σ => bmo ov m σ S fun m σ S => cond (bck S env σ) (cond (bcc S σ cs) (bps W' A B m σ S k posts) false) false) false) false = true := e
  obtain ⟨h1, e⟩ := bcnd e
  obtain ⟨h2, e⟩ := bcnd e
  obtain ⟨h9, h1⟩ := bcnd h1
  have h1 := abe.mp h1
  have hM := hM (show D < Dm from abl.mp h9)
  have hW : ∀ u, Nat.testBit W u = false → Nat.testBit W' u = false := by
    intro u hu
    have h3 : W' &&& W = W' := abq h2
    rw [← h3, Nat.testBit_and, hu, Bool.and_false]
  obtain ⟨Vc, σ, g1, g2, g3, e⟩ := bms_s (Vc := []) hS (σ := []) ⟨rfl, fun i g z => nomatch z⟩ rfl ha e
  obtain ⟨V', S', Vc', σ', f1, f2, f3, f4, f5, e⟩ := bmo_s hS g2 rfl e
  obtain ⟨c1, e⟩ := bcnd e
  obtain ⟨c2, e⟩ := bcnd e
  have c1 := bck_s f2 f4 c1
  have c2 := bcc_s f2 f4 c2
  obtain ⟨v, h', m1, m2, m3, m4, m5, m6, p, m7, m8⟩ := hM Vc' ss h d f q hq (by show D ≤ d; omega) hf (bKR_up f3 g3) c1 c2 f5 f2.2.2.2.2.1 f2.2.2.2.2.2.1 f2.2.2.2.2.2.2.1
  have e := bps_s m7 e
  obtain ⟨V9, S9, r, d1, d2, d3, e⟩ := bap_s hW f2 f4 rfl m2 m3 m4 m5 m6 m8 e
  exact ⟨v, h', V9, S9, r, m1, bxt_trans f1 d1, d2, d3, e⟩
noncomputable def bsl (Dm W dn : Nat) (as : bSt) (S : bS) (k : Option bV → bS → Bool) (l : List bSm) : Bool := List.rec (motive := fun _ => Bool) false (fun c _ ih => cond (bsc Dm W dn as S k c) true ih) l
set_option maxRecDepth 100000 in
theorem bsl_s {Dm W dn : Nat} {as : bSt} {k : Option bV → bS → Bool} : ∀ {l : List bSm}, bsl Dm W dn as S k l = true → ∃ c, c ∈ l ∧ bsc Dm W dn as S k c = true
  | [], e => nomatch e
  | c :: l, e => by
    have e : cond (bsc Dm W dn as S k c) true (bsl Dm W dn as S k l) = true := e
    cases h1 : bsc Dm W dn as S k c with
    | true => exact ⟨c, List.mem_cons_self, h1⟩
    | false =>
      rw [h1, cond_false] at e
      obtain ⟨c', h2, h3⟩ := bsl_s e
      exact ⟨c', List.mem_cons_of_mem _ h2, h3⟩
end BCL
/-- what is known of calls: of those with a depth below a bound -/
abbrev bSt9 : Type := Nat × List (List (List bSm))
abbrev bFm : Type := Nat × Nat × Nat × Nat × bLs × bSt × Bool × Nat × Nat
abbrev bF : Type := Nat → bS → List bFm → Nat → Nat → Nat → bLs → bSt → Bool
abbrev dFm : Type := Nat × Nat × Nat × Nat × zLs × List Value × Bool × Nat × Nat
/-- the units of writes, what calls do, the script's length, the shapes, where a run stops, what holds there, what holds at its end -/
abbrev bPm : Type := Nat × bSt9 × Option bI × bTb × (Nat → Bool) × (Nat → Nat → Nat → bS → bLs → Bool) × (bS → Option bV → Bool)
noncomputable def b_ret (ih : bF) (fin : bS → Option bV → Bool) (S : bS) (fs : List bFm) (v : Option bV) : Bool := match fs with
  | [] => fin S v
  | (d, mi, _, nx, ls, r, _, _, n) :: fs => (match v with
    | some v => ih n S fs d mi nx ls (v :: r)
    | none => ih n S fs d mi nx ls r)
noncomputable def b_thr (ih : bF) (S : bS) (x : Nat) (fs : List bFm) : Bool := List.rec (motive := fun _ => Bool) false (fun f fs r => match f with
  | (d, mi, pc, _, ls, _, tx, kd, n) => cond (tx && Nat.beq kd 0) (match zat zhs mi with
    | some (e :: l) => (match zhand (e :: l) pc x with
      | some t => afo t fun t => ih n S fs d mi t ls [.inr (.inl (.double 0))]
      | none => false)
    | _ => r) false) fs
noncomputable def b_inv (tb : bTb) (W : Nat) (sm : bSt9) (ih : bF) (n : Nat) (S : bS) (fs : List bFm) (d mi pc nx j : Nat) (tx : Bool) (ls : bLs) (st : bSt) : Bool := match zat zmi j with
  | none => false
  | some (na, mL, stc, ci, _, kd) => bpop na st [] fun as r => cond (Nat.ble (bsu r) 8 && as.all bc1) (b_recv tb stc ci as (match d with
    | 0 => false
    | d' + 1 => (match bg2 sm.2 j with
      | some (c :: l) => bsl sm.1 W d' as S (fun v S => (match v with
        | some v => ih n S fs d mi nx ls (v :: r)
        | none => ih n S fs d mi nx ls r)) (c :: l)
      | _ => bent as mL fun l => ih n S ((d, mi, pc, nx, ls, r, tx, kd, n) :: fs) d' j 0 l []))) false
noncomputable def b_sw (k : bS → Nat → Bool) (x : bI) (t : Nat) (l : List (Int32 × Nat)) : bS → Bool := List.rec (motive := fun _ => bS → Bool) (fun S => afo t fun t => k S t) (fun q _ ih S => bfo q.1.toInt fun c => bq2 x (c, []) S (fun S => afo q.2 fun t => k S t) ih) l
noncomputable def b_tsw (k : bS → Nat → bSt → Bool) (S : bS) (a1 : Nat) (st : bSt) : Bool := match st with
  | .inl x :: r => (match zat zsws a1 with
    | some (l, t) => b_sw (fun S p => k S p r) x t l S
    | none => false)
  | _ => false
noncomputable def b_new (ih : bF) (S : bS) (fs : List bFm) (a1 a2 : Nat) (st : bSt) : Bool := match a1 with
  | 0 => false
  | _ + 1 => cond (Nat.ble (bsu st) 8) (match S with
    | (nv, env, cs, ov, ca, sa) => bad 1 ca fun ca => bad 6 sa fun sa => b_thr ih (nv, env, cs, ov, ca, sa) a2 fs) false
noncomputable def bun9 (a b : Nat) : Bool := match bg2 ivt a, bg2 ivt b with
  | some (0, l), some (0, m) => (match agd (-2147483648, 2147483647) l 0, agd (-2147483648, 2147483647) m 0 with
    | (x, y), (u, v) => cond (bLe u x) (bLe y v) false)
  | _, _ => false
noncomputable def b_copy (tb : bTb) (W : Nat) (k : bS → bSt → Bool) (S : bS) (st : bSt) : Bool := match st with
  | .inl (.ofNat n, []) :: .inl (.ofNat dp, []) :: .inr (.inl (.ref b)) :: .inl (.ofNat sp, []) :: .inr (.inl (.ref a)) :: r => b_arr tb 0 a fun na => b_arr tb 0 b fun nb =>
    cond (Nat.ble (sp + n) na && Nat.ble (dp + n) nb && Nat.ble (bsu r) 8) (cond (bun9 a b) (cond (cond (bhc b) (bhc a) true) (cond (cond (cond (bnx b) (cond (Nat.beq b 85) false true) false) (cond (Nat.beq b 27) false true) false) (match bg2 unt b with
      | some (0, u) => cond (Nat.testBit W u) (match S with
        | (nv, env, cs, ov, ca, sa) => bdr (2 ^ u) ov fun ov => k (nv, env, cs, ov, ca, sa) r) false
      | _ => false) false) false) false) false
  | _ => false
noncomputable def b_pri (tb : bTb) (W : Nat) (k : bS → bSt → Bool) (S : bS) (kind : Nat) (st : bSt) : Bool := match kind with
  | 1 => (match st with
    | .inr (.inl (.ref _)) :: r => cond (Nat.ble (bsu r) 8) (k S r) false
    | _ => false)
  | 2 => (match st with
    | .inl y :: .inl x :: r => cond (Nat.ble (bsu r) 8) (brS x S fun lx hx => brS y S fun ly hy => bfre (bmn lx ly) (bmn hx hy) S fun f S => k S (.inl f :: r)) false
    | _ => false)
  | 3 => (match st with
    | .inl y :: .inl x :: r => cond (Nat.ble (bsu r) 8) (brS x S fun lx hx => brS y S fun ly hy => bfre (bmx lx ly) (bmx hx hy) S fun f S => k S (.inl f :: r)) false
    | _ => false)
  | 4 => (match st with
    | .inr (.inl (.retAddr i)) :: r => cond (Nat.ble (bsu r) 8) (match zat zstrs i with
      | some bs => cond (Nat.blt bs.length 2147483648) (afo bs.length fun n => k S (.inl (.ofNat n, []) :: r)) false
      | none => false) false
    | _ => false)
  | 5 => (match st with
    | .inl (.ofNat j, []) :: .inr (.inl (.retAddr i)) :: r => cond (Nat.ble (bsu r) 8) (match zat zstrs i with
      | some bs => (match zat bs j with
        | some b => bfo b.toInt fun c => k S (.inl (c, []) :: r)
        | none => false)
      | none => false) false
    | _ => false)
  | 6 => b_copy tb W k S st
  | _ => false
noncomputable def b_ire (ih : bF) (fin : bS → Option bV → Bool) (S : bS) (fs : List bFm) (mi : Nat) (st : bSt) : Bool := match st with
  | [.inl c] => (match zat zmi mi with
    | some (_, _, _, _, 1, _) => b_ret ih fin S fs (some (.inl c))
    | some (_, _, _, _, 2, _) => cond (bwi c 0 1 S) (b_ret ih fin S fs (some (.inl c))) false
    | _ => false)
  | _ => false
noncomputable def b_rtv (ih : bF) (fin : bS → Option bV → Bool) (S : bS) (fs : List bFm) (mi : Nat) (st : bSt) : Bool := match st with
  | [] => (match zat zmi mi with
    | some (_, _, _, _, 0, _) => b_ret ih fin S fs none
    | _ => false)
  | _ => false
section BSEM
variable (E : zE) (tb : bTb) (W : Nat) (h0 : zH) (V0 : List Int) (B : Nat) (Q : Option zR → Prop)
def bsem : List dFm → Option zR → Prop
  | [], o => Q o
  | (d, mi, pc, nx, ls, r, tx, kd, f) :: fs, o => bsem fs (zcall o (fun v h1 => zex E f d mi nx ls (v.toList ++ r) h1)
      (fun x h1 => cond (tx && Nat.beq kd 0) (match zat zhs mi with
        | some (e :: l) => (match zhand (e :: l) pc x with
          | some t => zex E f d mi t ls [.double 0] h1
          | none => none)
        | _ => some (.inr x, h1)) none))
def bFR (V : List Int) : List bFm → List dFm → Prop
  | [], [] => True
  | (d, mi, pc, nx, al, ar, tx, kd, n) :: a, (d', mi', pc', nx', ls, r, tx', kd', f) :: c => d ≤ d' ∧ mi' = mi ∧ pc' = pc ∧ nx' = nx ∧ tx' = tx ∧ kd' = kd ∧ B + n ≤ f ∧ bLR V al ls ∧ bKR V ar r ∧ bFR V a c
  | [], _ :: _ => False
  | _ :: _, [] => False
def bIH (ih : bF) : Prop := ∀ n S afs d mi pc als a, ih n S afs d mi pc als a = true → ∀ V cfs ls s h d' f, d ≤ d' → B + n ≤ f → bxt V0 V → bSS E tb W h0 V S h → bFR B V afs cfs → bLR V als ls → bKR V a s → bsem E Q cfs (zex E f d' mi pc ls s h)
def bFin (fin : bS → Option bV → Bool) : Prop := ∀ V S v w h, bxt V0 V → bSS E tb W h0 V S h → boV V v w → fin S v = true → Q (some (.inl w, h))
def bArr (arr : Nat → Nat → Nat → bS → bLs → Bool) : Prop := ∀ V S d mi pc als ls h d' f, d ≤ d' → B ≤ f → bxt V0 V → bSS E tb W h0 V S h → bLR V als ls → arr d mi pc S als = true → Q (zex E f d' mi pc ls [] h)
def bSO (sm : bSt9) : Prop := ∀ j l, bg2 sm.2 j = some l → ∀ c, c ∈ l → c.1 < sm.1 → bMT E tb B j c
end BSEM
set_option maxRecDepth 100000 in
theorem bFR_up {B : Nat} {V V' : List Int} (hx : bxt V V') : ∀ {a : List bFm} {c : List dFm}, bFR B V a c → bFR B V' a c
  | [], [], _ => trivial
  | [], _ :: _, h => h.elim
  | _ :: _, [], h => h.elim
  | (_, _, _, _, _, _, _, _, _) :: _, (_, _, _, _, _, _, _, _, _) :: _, ⟨h1, h2, h3, h4, h5, h6, h7, h8, h9, h10⟩ => ⟨h1, h2, h3, h4, h5, h6, h7, bLR_up hx h8, bKR_up hx h9, bFR_up hx h10⟩
section BSEM2
variable {E : zE} {tb : bTb} {W : Nat} {h0 : zH} {V0 V : List Int} {B : Nat} {Q : Option zR → Prop} {ih : bF} {fin : bS → Option bV → Bool} {S : bS} {afs : List bFm} {cfs : List dFm} {h : zH}
set_option maxRecDepth 100000 in
theorem b_ret_s (IH : bIH E tb W h0 V0 B Q ih) (hfin : bFin E tb W h0 V0 Q fin) (hx : bxt V0 V) (hS : bSS E tb W h0 V S h) (hf : bFR B V afs cfs) {v : Option bV} {w : Option Value} (hv : boV V v w) (e : b_ret ih fin S afs v = true) : bsem E Q cfs (some (.inl w, h)) := by
  cases afs with
  | nil =>
    cases cfs with
    | cons c cs => exact hf.elim
    | nil => exact hfin _ _ _ _ _ hx hS hv e
  | cons f fs =>
    cases cfs with
    | nil => exact hf.elim
    | cons c cs =>
      obtain ⟨d, mi, pc, nx, al, ar, tx, kd, n⟩ := f
      obtain ⟨d', mi', pc', nx', ls, r, tx', kd', f'⟩ := c
      obtain ⟨h1, rfl, rfl, rfl, rfl, rfl, h2, hl, hr, hf2⟩ := hf
      unfold b_ret at e
      cases v with
      | none =>
        cases w with
        | some w => exact hv.elim
        | none => exact IH _ _ _ _ _ _ _ _ e _ _ _ _ _ _ _ h1 h2 hx hS hf2 hl hr
      | some v =>
        cases w with
        | none => exact hv.elim
        | some w => exact IH _ _ _ _ _ _ _ _ e _ _ _ (w :: r) _ _ _ h1 h2 hx hS hf2 hl (bKR_cv hv hr)
set_option maxRecDepth 100000 in
theorem b_thr_s (IH : bIH E tb W h0 V0 B Q ih) (hx : bxt V0 V) (hS : bSS E tb W h0 V S h) {x : Nat} : ∀ {afs : List bFm} {cfs : List dFm}, bFR B V afs cfs → b_thr ih S x afs = true → bsem E Q cfs (some (.inr x, h))
  | [], _, _, e => nomatch e
  | _ :: _, [], hf, _ => hf.elim
  | (d, mi, pc, nx, al, ar, tx, kd, n) :: fs, (d', mi', pc', nx', ls, r, tx', kd', f') :: cs, hf, e => by
    obtain ⟨g1, rfl, rfl, rfl, rfl, rfl, g2, hl, hr, hf2⟩ := hf
    have e : (cond (tx' && Nat.beq kd' 0) (match zat zhs mi' with
      | some (e :: l) => (match zhand (e :: l) pc' x with
        | some t => afo t fun t => ih n S fs d mi' t al [.inr (.inl (.double 0))]
        | none => false)
      | _ => b_thr ih S x fs) false) = true := e
    obtain ⟨h1, e⟩ := bcnd e
    show bsem E Q cs (cond (tx' && Nat.beq kd' 0) (match zat zhs mi' with
        | some (e :: l) => (match zhand (e :: l) pc' x with
          | some t => zex E f' d' mi' t ls [.double 0] h
          | none => none)
        | _ => some (.inr x, h)) none)
    rw [h1, cond_true]
    split at e
    · split at e
      · rw [afo_eq] at e
        exact IH _ _ _ _ _ _ _ _ e _ _ _ [.double 0] _ _ _ g1 g2 hx hS hf2 hl (bKR_co (show bKR V [] [] from trivial))
      · cases e
    · exact b_thr_s IH hx hS hf2 e
set_option maxRecDepth 100000 in
theorem b_inv_s {sm : bSt9} (IH : bIH E tb W h0 V0 B Q ih) (hsm : bSO E tb B sm) (hx : bxt V0 V) (hS : bSS E tb W h0 V S h) (hf : bFR B V afs cfs) {n d d' f mi pc nx j : Nat} (hd : d ≤ d') (hn : B + n ≤ f) {tx : Bool} {als : bLs} {ls : zLs} {a : bSt} {s : List Value} (hl : bLR V als ls) (hs : bKR V a s) (e : b_inv tb W sm ih n S afs d mi pc nx j tx als a = true) : bsem E Q cfs (zinv (zex E f) (zex E f d' mi nx) d' mi pc j tx ls s h) := by
  unfold b_inv at e
  unfold zinv
  split at e
  · cases e
  · rename_i na mL stc ci rk kd hz
    rw [hz]
    simp only
    obtain ⟨as, ar, ss, sr, h1, h2, h3, e⟩ := bpop_s hs (show bKR V [] [] from trivial) e
    rw [h1]
    simp only
    obtain ⟨h4, e⟩ := bcnd e
    rw [← bsu_s h3, ← bal_s h2] at h4
    rw [h4, cond_true]
    cases d with
    | zero =>
      obtain ⟨e, -⟩ := b_recv_s hS h2 e
      cases e
    | succ d =>
      obtain ⟨e, h5⟩ := b_recv_s hS h2 e
      cases d' with
      | zero => omega
      | succ d' =>
        simp only at e ⊢
        rw [h5]
        split at e
        · rename_i c l hg
          obtain ⟨c', hc', e⟩ := bsl_s e
          have hM := hsm j _ hg c' hc'
          obtain ⟨v, h', V', S', r, g1, g2, g3, g4, e⟩ := bsc_s hM hz (d := d') (f := f) (by omega) (by omega) hS h2 e
          have g1 : zex E f d' j 0 (zent mL ss) [] h = some (.inl v, h') := g1
          rw [g1]
          cases r with
          | none =>
            cases v with
            | some w => exact g4.elim
            | none => exact IH _ _ _ _ _ _ _ _ e _ _ _ _ _ _ _ hd hn (bxt_trans hx g2) g3 (bFR_up g2 hf) (bLR_up g2 hl) (bKR_up g2 h3)
          | some r =>
            cases v with
            | none => exact g4.elim
            | some w => exact IH _ _ _ _ _ _ _ _ e _ _ _ (w :: sr) _ _ _ hd hn (bxt_trans hx g2) g3 (bFR_up g2 hf) (bLR_up g2 hl) (bKR_cv g4 (bKR_up g2 h3))
        · obtain ⟨l, h6, e⟩ := bent_s h2 e
          exact IH _ _ _ _ _ _ _ _ e V ((d' + 1, mi, pc, nx, ls, sr, tx, kd, f) :: cfs) _ _ _ _ _ (by omega) hn hx hS ⟨hd, rfl, rfl, rfl, rfl, rfl, hn, hl, h3, hf⟩ h6 trivial
set_option maxRecDepth 100000 in
theorem b_sw_s {P : Option zR → Prop} {k : bS → Nat → Bool} {K : Nat → Option zR} {t : Nat} (hk : ∀ S p, bSS E tb W h0 V S h → k S p = true → P (K p)) : ∀ {l : List (Int32 × Nat)} {S : bS} {cx : bI} {x : Int32}, bSS E tb W h0 V S h → brel V cx x.toInt → b_sw k cx t l S = true → P (zsw x l t K)
  | [], S, cx, x, hS, hx, e => hk _ _ hS (by have e : (afo t fun t => k S t) = true := e; rw [afo_eq] at e; exact e)
  | (b, p) :: l, S, cx, x, hS, hx, e => by
    have e : (bfo b.toInt fun c => bq2 cx (c, []) S (fun S => afo p fun t => k S t) (b_sw k cx t l)) = true := e
    rw [bfo_eq] at e
    have q := bq2_s hS hx (brel_c V b.toInt) e
    unfold zsw
    by_cases hc : x = b
    · rw [if_pos hc]
      obtain ⟨S', g1, e⟩ := q.1 (by rw [hc])
      rw [afo_eq] at e
      exact hk _ _ g1 e
    · rw [if_neg hc]
      obtain ⟨S', g1, e⟩ := q.2 (fun z => hc (Int32.toInt_inj.mp z))
      exact b_sw_s hk g1 hx e
set_option maxRecDepth 100000 in
theorem b_new_s (IH : bIH E tb W h0 V0 B Q ih) (hx : bxt V0 V) (hS : bSS E tb W h0 V S h) (hf : bFR B V afs cfs) {K : List Value → zH → Option zR} {a1 a2 : Nat} {a : bSt} {s : List Value} (hs : bKR V a s) (e : b_new ih S afs a1 a2 a = true) : bsem E Q cfs (match (generalizing := false) a1 with
      | 0 => (match zat zcsh a2 with
        | some sl => K (.ref h.1.length :: s) (zpush h (.inr (.inl (a2, sl))) sl.length)
        | none => none)
      | _ => cond (Nat.ble (zsum s) 8) (some (.inr a2, (h.1, h.2.1, h.2.2.1, h.2.2.2.1 + 1, h.2.2.2.2 + 6))) none) := by
  unfold b_new at e
  cases a1 with
  | zero => cases e
  | succ a1 =>
    simp only at e ⊢
    obtain ⟨h1, e⟩ := bcnd e
    rw [bsu_s hs, h1, cond_true]
    obtain ⟨nv, env, cs, ov, ca, sa⟩ := S
    obtain ⟨g1, g2, g3, g4, g5, g6, g7, g8, ⟨x, g9, g10⟩, ⟨y, g11, g12⟩⟩ := hS
    have e : (bad 1 ca fun ca => bad 6 sa fun sa => b_thr ih (nv, env, cs, ov, ca, sa) a2 afs) = true := e
    obtain ⟨ca', f1, e⟩ := bad_s g9 e
    obtain ⟨sa', f2, e⟩ := bad_s g11 e
    refine b_thr_s IH hx ?_ hf e
    refine ⟨g1, g2, g3, g4, g5, g6, g7, g8, ⟨_, f1, ?_⟩, ⟨_, f2, ?_⟩⟩
    · show ((h.2.2.2.1 + 1 : Nat) : Int) ≤ _
      omega
    · show ((h.2.2.2.2 + 6 : Nat) : Int) ≤ _
      omega
set_option maxRecDepth 100000 in
theorem b_ire_s (IH : bIH E tb W h0 V0 B Q ih) (hfin : bFin E tb W h0 V0 Q fin) (hx : bxt V0 V) (hS : bSS E tb W h0 V S h) (hf : bFR B V afs cfs) {mi : Nat} {a : bSt} {s : List Value} (hs : bKR V a s) (e : b_ire ih fin S afs mi a = true) : bsem E Q cfs (match (generalizing := false) s with
    | [.int x] => (match zat zmi mi with
      | some (_, _, _, _, 1, _) => some (.inl (some (.int x)), h)
      | some (_, _, _, _, 2, _) => zc01 x (some (.inl (some (.int x)), h))
      | _ => none)
    | _ => none) := by
  unfold b_ire at e
  split at e
  · rename_i c
    obtain ⟨x, r, h1, h2, h3⟩ := bKR_i hs
    cases (bKR_n h3)
    subst h1
    simp only
    split at e
    · exact b_ret_s IH hfin hx hS hf (show boV V (some (.inl c)) (some (.int x)) from ⟨x, rfl, h2⟩) e
    · obtain ⟨h5, e⟩ := bcnd e
      have c3 := bwi_s hS h2 h5
      have h6 : ∀ R, zc01 x R = R := by
        intro R
        unfold zc01
        by_cases y0 : x = 0
        · rw [if_pos y0]
        · have y1 : x = 1 := Int32.toInt_inj.mp (by
            have z0 : (0 : Int32).toInt = 0 := by decide
            have z1 : (1 : Int32).toInt = 1 := by decide
            have : x.toInt ≠ 0 := fun q => y0 (Int32.toInt_inj.mp (by rw [q, z0]))
            omega)
          rw [if_neg y0, if_pos y1]
      rw [h6]
      exact b_ret_s IH hfin hx hS hf (show boV V (some (.inl c)) (some (.int x)) from ⟨x, rfl, h2⟩) e
    · cases e
  · cases e
set_option maxRecDepth 100000 in
theorem b_rtv_s (IH : bIH E tb W h0 V0 B Q ih) (hfin : bFin E tb W h0 V0 Q fin) (hx : bxt V0 V) (hS : bSS E tb W h0 V S h) (hf : bFR B V afs cfs) {mi : Nat} {a : bSt} {s : List Value} (hs : bKR V a s) (e : b_rtv ih fin S afs mi a = true) : bsem E Q cfs (match (generalizing := false) s with
    | [] => (match zat zmi mi with
      | some (_, _, _, _, 0, _) => some (.inl none, h)
      | _ => none)
    | _ => none) := by
  unfold b_rtv at e
  split at e
  · cases (bKR_n hs)
    simp only
    split at e
    · exact b_ret_s IH hfin hx hS hf (show boV V none none from trivial) e
    · cases e
  · cases e
set_option maxRecDepth 100000 in
theorem bun9_s {a b : Nat} (e : bun9 a b = true) : ∀ i j, (biv b i).1 ≤ (biv a j).1 ∧ (biv a j).2 ≤ (biv b i).2 := by
  intro i j
  unfold bun9 at e
  unfold biv
  split at e
  · rename_i l m h1 h2
    rw [h1, h2]
    simp only
    split at e
    rename_i x y u v g1 g2
    rw [g1, g2]
    obtain ⟨f1, f2⟩ := bcnd e
    exact ⟨bLe_iff.mp f1, bLe_iff.mp f2⟩
  · cases e
set_option maxRecDepth 100000 in
theorem b_copy_s {P : Option zR → Prop} {k : bS → bSt → Bool} {K : List Value → zH → Option zR} {a : bSt} {s : List Value} (hS : bSS E tb W h0 V S h) (hs : bKR V a s) (hk : bKH E tb W h0 P V k K) (e : b_copy tb W k S a = true) : P (zcopy K h s) := by
  unfold b_copy at e
  split at e
  · rename_i n dp b sp a r
    obtain ⟨n', r', h1, hn, h3⟩ := bKR_i hs
    subst h1
    obtain ⟨dp', r', h1, hd, h4⟩ := bKR_i h3
    subst h1
    obtain ⟨r', h1, h5⟩ := bKR_o h4
    subst h1
    obtain ⟨sp', r', h1, hp, h6⟩ := bKR_i h5
    subst h1
    obtain ⟨r', h1, h7⟩ := bKR_o h6
    subst h1
    obtain ⟨na, e, hK1⟩ := b_arr_s hS e
    obtain ⟨nb, e, hK2⟩ := b_arr_s hS e
    obtain ⟨c1, e⟩ := bcnd e
    obtain ⟨c2, e⟩ := bcnd e
    obtain ⟨c3, e⟩ := bcnd e
    obtain ⟨c4, e⟩ := bcnd e
    have hn : n'.toInt = (n : Int) := brel_k hn
    have hd : dp'.toInt = (dp : Int) := brel_k hd
    have hp : sp'.toInt = (sp : Int) := brel_k hp
    have z0 : (0 : Int32).toInt = 0 := by decide
    have tn : ∀ (x : Int32) (m : Nat), x.toInt = (m : Int) → x.toNatClampNeg = m := by
      intro x m hx
      rw [← Int32.toNat_toInt]
      omega
    unfold zcopy
    simp only
    rw [hK1, hK2]
    rw [if_neg (by rw [Int32.lt_iff_toInt_lt]; omega), if_neg (by rw [Int32.lt_iff_toInt_lt]; omega), if_neg (by rw [Int32.lt_iff_toInt_lt]; omega)]
    rw [tn _ _ hn, tn _ _ hd, tn _ _ hp, bsu_s h7, c1, cond_true]
    split at e
    · rename_i u hu
      obtain ⟨c5, e⟩ := bcnd e
      obtain ⟨c4, c8⟩ := bcnd c4
      obtain ⟨c6, c7⟩ := bcnd c4
      have h27 : (27 : Nat) ≠ b := by
        intro z
        rw [← z] at c8
        cases c8
      have h85 : (85 : Nat) ≠ b := by
        intro z
        rw [← z] at c7
        cases c7
      have hb9 : b < 86 ∨ 89 < b := by
        unfold bnx at c6
        cases h9 : Nat.blt b 86 with
        | true => exact Or.inl (abl.mp h9)
        | false =>
          rw [h9, cond_false] at c6
          exact Or.inr (abl.mp c6)
      have c2 := bun9_s c2
      obtain ⟨nv, env, cs, ov, ca, sa⟩ := S
      obtain ⟨g1, g2, g3, g4, g5, g6, g7, g8, g9, g10⟩ := hS
      have hz : ∀ i, (∃ i', va_cpy (h.2.1 a) (h.2.1 b) sp dp n i = h.2.1 a i') ∨ va_cpy (h.2.1 a) (h.2.1 b) sp dp n i = h.2.1 b i := by
        intro i
        unfold va_cpy
        by_cases hi : dp ≤ i ∧ i < dp + n
        · rw [if_pos hi]; exact Or.inl ⟨_, rfl⟩
        · rw [if_neg hi]; exact Or.inr rfl
      have hne : ∀ c, c ≠ b → (zsetI h b (va_cpy (h.2.1 a) (h.2.1 b) sp dp n)).2.1 c = h.2.1 c := fun c hc => zrow_ne _ _ hc
      have hat : (zsetI h b (va_cpy (h.2.1 a) (h.2.1 b) sp dp n)).2.1 b = va_cpy (h.2.1 a) (h.2.1 b) sp dp n := zrow_at _ _ _
      have hub : ∀ i, bun b i = u := by
        intro i
        unfold bun
        rw [hu]
      obtain ⟨ov', f1, e⟩ := bdr_s (W := 2 ^ u) (h' := zsetI h b (va_cpy (h.2.1 a) (h.2.1 b) sp dp n)) (by
        intro c i hb
        by_cases hc : c = b
        · subst hc
          rw [hub, Nat.testBit_two_pow_self] at hb
          cases hb
        · rw [hne c hc]) g4 e
      refine hk V (nv, env, cs, ov', ca, sa) r r' _ (bxt_refl V) ⟨g1, g2, g3, f1, ?_, ⟨g6.choose, g6.choose_spec.1, g6.choose_spec.2.1, by rw [hne 27 h27]; exact g6.choose_spec.2.2⟩, g7, ?_, g9, g10⟩ h7 e
      · have h86 : (86 : Nat) ≠ b := fun z => by rcases hb9 with q | q <;> (rw [← z] at q; exact absurd q (by decide))
        have h87 : (87 : Nat) ≠ b := fun z => by rcases hb9 with q | q <;> (rw [← z] at q; exact absurd q (by decide))
        have h88 : (88 : Nat) ≠ b := fun z => by rcases hb9 with q | q <;> (rw [← z] at q; exact absurd q (by decide))
        have h89 : (89 : Nat) ≠ b := fun z => by rcases hb9 with q | q <;> (rw [← z] at q; exact absurd q (by decide))
        refine ⟨?_, ?_, ?_, ?_⟩
        · intro c i
          by_cases hc : c = b
          · subst hc
            rw [hat]
            rcases hz i with ⟨i', q⟩ | q
            · rw [q]
              have q1 := c2 i i'
              have q2 := g5.1 a i'
              omega
            · rw [q]
              exact g5.1 c i
          · rw [hne c hc]
            exact g5.1 c i
        · rw [hne bWc h85]
          exact g5.2.1
        · obtain ⟨⟨q1, q2, q3, q4⟩, q5, q6, q7⟩ := g5.2.2.1
          refine ⟨⟨?_, ?_, ?_, ?_⟩, ?_, ?_, ?_⟩
          · rw [hne 86 h86]; exact q1
          · rw [hne 87 h87]; exact q2
          · rw [hne 88 h88]; exact q3
          · intro i hi
            rw [hne 89 h89]
            exact q4 i hi
          · rw [hne 85 h85]; exact q5
          · rw [hne 86 h86]; exact q6
          · rw [hne 87 h87]; exact q7
        · intro c hc i
          by_cases hcb : c = b
          · subst hcb
            rw [hc, cond_true] at c3
            rw [hat]
            rcases hz i with ⟨i', q⟩ | q
            · rw [q]
              exact g5.2.2.2 a c3 i'
            · rw [q]
              exact g5.2.2.2 c hc i
          · rw [hne c hcb]
            exact g5.2.2.2 c hc i
      · intro c i hb
        by_cases hc : c = b
        · subst hc
          rw [hub, c5] at hb
          cases hb
        · rw [hne c hc]
          exact g8 c i hb
    · cases e
  · cases e
set_option maxRecDepth 100000 in
theorem b_pri_s {P : Option zR → Prop} {kind : Nat} {k : bS → bSt → Bool} {K : zLs → List Value → zH → Option zR} {ls : zLs} {a : bSt} {s : List Value} (hS : bSS E tb W h0 V S h) (hs : bKR V a s) (hk : bKH E tb W h0 P V k (K ls)) (e : b_pri tb W k S kind a = true) : P (zpri K kind ls s h) := by
  unfold b_pri at e
  split at e
  · split at e
    · obtain ⟨r, h1, h3⟩ := bKR_o hs
      subst h1
      obtain ⟨h4, e⟩ := bcnd e
      rw [← bsu_s h3] at h4
      unfold zpri
      simp only
      rw [h4]
      exact hk _ _ _ _ _ (bxt_refl V) hS h3 e
    · cases e
  · split at e
    · obtain ⟨y, r, h1, h2, h3⟩ := bKR_i hs
      subst h1
      obtain ⟨x, r, h1, h4, h5⟩ := bKR_i h3
      subst h1
      obtain ⟨h6, e⟩ := bcnd e
      rw [← bsu_s h5] at h6
      obtain ⟨lx, hx, q1, q2, e⟩ := brS_s hS h4 e
      obtain ⟨ly, hy, q3, q4, e⟩ := brS_s hS h2 e
      unfold zpri
      simp only
      rw [h6, cond_true]
      have hlt : y < x ↔ y.toInt < x.toInt := Int32.lt_iff_toInt_lt
      by_cases hc : y < x
      · rw [if_pos hc]
        have hc := hlt.mp hc
        obtain ⟨V', f, S', f1, f2, f3, e⟩ := bfre_s (x := y.toInt) hS (Int.le_trans (bmn_r _ _) q3) (ble_mn (by omega) q4) e
        exact hk _ _ _ _ _ f1 f3 (bKR_ci f2 (bKR_up f1 h5)) e
      · rw [if_neg hc]
        have hc : ¬ y.toInt < x.toInt := fun z => hc (hlt.mpr z)
        obtain ⟨V', f, S', f1, f2, f3, e⟩ := bfre_s (x := x.toInt) hS (Int.le_trans (bmn_l _ _) q1) (ble_mn q2 (by omega)) e
        exact hk _ _ _ _ _ f1 f3 (bKR_ci f2 (bKR_up f1 h5)) e
    · cases e
  · split at e
    · obtain ⟨y, r, h1, h2, h3⟩ := bKR_i hs
      subst h1
      obtain ⟨x, r, h1, h4, h5⟩ := bKR_i h3
      subst h1
      obtain ⟨h6, e⟩ := bcnd e
      rw [← bsu_s h5] at h6
      obtain ⟨lx, hx, q1, q2, e⟩ := brS_s hS h4 e
      obtain ⟨ly, hy, q3, q4, e⟩ := brS_s hS h2 e
      unfold zpri
      simp only
      rw [h6, cond_true]
      have hlt : x < y ↔ x.toInt < y.toInt := Int32.lt_iff_toInt_lt
      by_cases hc : x < y
      · rw [if_pos hc]
        have hc := hlt.mp hc
        obtain ⟨V', f, S', f1, f2, f3, e⟩ := bfre_s (x := y.toInt) hS (bmx_le (by omega) q3) (Int.le_trans q4 (bmx_r _ _)) e
        exact hk _ _ _ _ _ f1 f3 (bKR_ci f2 (bKR_up f1 h5)) e
      · rw [if_neg hc]
        have hc : ¬ x.toInt < y.toInt := fun z => hc (hlt.mpr z)
        obtain ⟨V', f, S', f1, f2, f3, e⟩ := bfre_s (x := x.toInt) hS (bmx_le q1 (by omega)) (Int.le_trans q2 (bmx_l _ _)) e
        exact hk _ _ _ _ _ f1 f3 (bKR_ci f2 (bKR_up f1 h5)) e
    · cases e
  · split at e
    · obtain ⟨r, h1, h3⟩ := bKR_o hs
      subst h1
      obtain ⟨h4, e⟩ := bcnd e
      rw [← bsu_s h3] at h4
      unfold zpri
      simp only
      rw [h4, cond_true]
      split at e
      · rename_i bs hz
        rw [hz]
        obtain ⟨h5, e⟩ := bcnd e
        have h5 := abl.mp h5
        rw [afo_eq] at e
        have h6 : (Int32.ofNat bs.length).toInt = (bs.length : Int) := by
          rw [Int32.toInt_ofNat']
          exact bbm (by omega) (by omega)
        exact hk _ _ _ _ _ (bxt_refl V) hS (bKR_ci (by rw [h6]; exact brel_c V _) h3) e
      · cases e
    · cases e
  · split at e
    · rename_i j i r
      obtain ⟨x, r', h1, h2, h3⟩ := bKR_i hs
      subst h1
      obtain ⟨r', h1, h5⟩ := bKR_o h3
      subst h1
      obtain ⟨h4, e⟩ := bcnd e
      rw [← bsu_s h5] at h4
      have h2 : x.toInt = (j : Int) := brel_k h2
      unfold zpri
      simp only
      rw [h4, cond_true]
      split at e
      · rename_i bs hz
        rw [hz]
        split at e
        · rename_i b hb
          have hlt := zat_lt hb
          have h9 : x.toNatClampNeg = j := by
            rw [← Int32.toNat_toInt]
            omega
          have hck : ∀ r, zck x bs.length r = r := by
            intro r
            unfold zck
            rw [if_neg, if_neg]
            · omega
            · rw [Int32.lt_iff_toInt_lt]
              have h9 : (0 : Int32).toInt = 0 := by decide
              omega
          simp only
          rw [hck, h9, hb]
          rw [bfo_eq] at e
          exact hk _ _ _ _ _ (bxt_refl V) hS (bKR_ci (brel_c V _) h5) e
        · cases e
      · cases e
    · cases e
  · exact b_copy_s hS hs hk e
  · cases e
end BSEM2
