def hdq (T : Nat → Int) (L : Nat) (g : Int) (n s : Nat) : Nat ⊕ Nat := if g = -1 then (match sumq T L n s with
  | .inr w => .inr w
  | .inl e => if (sqs T L e 60 || sqs T L e 62) = true then sumq T L 401 (nxt T L e) else .inr e) else sumq T L n s
set_option maxRecDepth 100000 in
theorem sumq_n {T : Nat → Int} {L n s : Nat} (h : facq T L s = none) : sumq T L (n + 1) s = .inr s := by
  show (match facq T L s with
    | none => Sum.inr s
    | some e => if sqs T L e 43 = true then sumq T L n (nxt T L e) else .inl e) = (Sum.inr s : Nat ⊕ Nat)
  rw [h]
set_option maxRecDepth 100000 in
theorem sumq_p {T : Nat → Int} {L n s e : Nat} (h : facq T L s = some e) : sumq T L (n + 1) s = if sqs T L e 43 = true then sumq T L n (nxt T L e) else .inl e := by
  show (match facq T L s with
    | none => Sum.inr s
    | some e => if sqs T L e 43 = true then sumq T L n (nxt T L e) else .inl e) = _
  rw [h]
set_option maxRecDepth 100000 in
theorem hdq_n {T : Nat → Int} {L n s : Nat} {g : Int} (h : facq T L s = none) : hdq T L g (n + 1) s = .inr s := by
  unfold hdq
  rw [sumq_n h]
  split <;> rfl
set_option maxRecDepth 100000 in
theorem sqs_K3 {T : Nat → Int} {L s : Nat} {c : Int} : sqs T L s c = true ↔ kK T L s = 3 ∧ T s = c := by
  unfold sqs
  rw [Bool.and_eq_true, decide_eq_true_iff, decide_eq_true_iff]
section CL
variable {E : zE} {B F G : Nat} {h0 : zH} {L : Nat}
set_option maxRecDepth 100000 in
theorem k_alw {s e k : Nat} {v y g pl i w : Int} {x2 x3 x4 x5 : Int32} (g2 : x2.toInt = g) (g3 : x3.toInt = pl) (g4 : x4.toInt = i) (g5 : x5.toInt = w) : bLR (k9 L s e v y g pl i w k) kAw (kls x2 x3 x4 (some (.int x5))) :=
  ⟨⟨_, rfl, rfl⟩, ⟨_, rfl, rfl⟩, ⟨_, rfl, x2, rfl, by rw [g2]; exact brel_v rfl⟩, ⟨_, rfl, x3, rfl, by rw [g3]; exact brel_v rfl⟩, ⟨_, rfl, x4, rfl, by rw [g4]; exact brel_v rfl⟩, ⟨_, rfl, x5, rfl, by rw [g5]; exact brel_v rfl⟩, trivial⟩
set_option maxRecDepth 100000 in
theorem cmp_162 (hE : E.1 < 2147483648) (hsm : bSO E ctb B (60, smT)) (hb9 : ∀ i, 0 ≤ tp2 h0 i ∧ tp2 h0 i ≤ 255) (hF : 1000000 ≤ F) (hL4 : L ≤ 400) {n s : Nat} (hs : s ≤ L) (hc : sk isBl (tp2 h0) L s = s) {o : Nat ⊕ Nat} {g : Int} (hg : -1 ≤ g ∧ g ≤ 1023) {B2 : Nat} (hB2 : B ≤ B2)
    (ih : ∀ (x2 x3 x4 : Int32) (u : Option Value) (h : zH) (pl : Int), x2.toInt = g → x3.toInt = pl → 0 ≤ pl ∧ pl ≤ 1 → x4.toInt = ((n + 1 : Nat) : Int) → bRQ ctb wC h0 0 0 h → CT h (tp2 h0) L (nxt (tp2 h0) L s) → ∀ d f, 61 ≤ d → B2 ≤ f → cvQ h0 L o (zex E f d 164 7 (kls x2 x3 x4 u) [] h)) {x2 x3 x4 : Int32} {u : Option Value} {h : zH} {pl : Int} (g2 : x2.toInt = g) (g3 : x3.toInt = pl) (hp : 0 ≤ pl ∧ pl ≤ 1) (g4 : x4.toInt = (n : Int)) (hn : n ≤ 399) (hr : bRQ ctb wC h0 0 0 h) (ht : CT h (tp2 h0) L s) :
    ∀ d f, 61 ≤ d → B2 + F * 902 ≤ f → cvQ h0 L o (zex E f d 164 162 (kls x2 x3 x4 u) [] h) := by
  intro d f hd hf
  obtain ⟨m, hm⟩ : ∃ m, f = m + 2 := ⟨f - 2, by omega⟩
  obtain ⟨d', hd'⟩ : ∃ d', d = d' + 1 := ⟨d - 1, by omega⟩
  subst hd'
  obtain ⟨h', k1, k2, -, k3⟩ := ks_adv hE hsm hb9 hF hL4 hs hc hr ht (x2 := x2) (x3 := x3) (x4 := x4) (u := u) d' m (by omega) (by omega)
  rw [hm, k3]
  have hn1 := nxt_le (T := tp2 h0) hs
  have he := kE_b hn1 (nxt_c (T := tp2 h0) (s := s))
  refine k_one hE hsm k1 k2 (y := 0) (g := g) (pl := pl) (i := (n : Int)) (w := 0) (k_env (ev := ag_MX) (ey := kY) (eg := kGA) (ei := kI) (ew := kW) (ek := (0, 3)) hL4 (by omega) (by omega) kV_bb ⟨by decide, by decide⟩ hg hp ⟨by show (0 : Int) ≤ _; omega, by show _ ≤ (399 : Int); omega⟩ ⟨by decide, by decide⟩ ⟨by show (0 : Int) ≤ _; omega, by have := kK_b (tp2 h0) L (nxt (tp2 h0) L s); show _ ≤ (3 : Int); omega⟩) bcs_n (k_ov k2) (k_al g2 g3 g4) kc_9 rfl (B' := B2) hB2 ?_ (d' + 1) m (by omega) (by omega)
  intro ls' h2 j1 j2 j3 d f hd hf
  obtain ⟨z2, z3, z4, u', e1, e2, e3, e4⟩ := k_als j1
  rw [e1]
  unfold mv at e2 e3
  rw [bvx_v] at e2 e3
  exact ih z2 z3 z4 u' h2 pl e2 e3 hp (by rw [e4]; show 1 + (1 * (n : Int) + 0) = ((n + 1 : Nat) : Int); omega) j2 j3 d f hd hf
end CL
