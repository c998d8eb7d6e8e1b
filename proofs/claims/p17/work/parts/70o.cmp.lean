/-! the class's comparison: its loop -/
def cvQ (h0 : zH) (L : Nat) (r : Nat ⊕ Nat) (o : Option zR) : Prop := ∃ (x : Int32) (h' : zH), o = some (.inl (some (.int x)), h') ∧ bRQ ctb wC h0 0 0 h' ∧ (match r with
  | .inr w => x.toInt = 0 ∧ (h'.2.1 76 1).toInt = (w : Int)
  | .inl e => x.toInt = 1 ∧ CT h' (tp2 h0) L e)
def k9 (L s e : Nat) (v y g pl : Int) (i : Int) (w : Int) (k : Nat) : List Int := [(L : Int), (s : Int), (e : Int), v, y, g, pl, i, w, (k : Int)]
def kls (x2 x3 x4 : Int32) (w : Option Value) : zLs := [some (.ref 76), some (.ref 1), some (.int x2), some (.int x3), some (.int x4), w]
section KL
variable {E : zE} {B F : Nat} {Q : Option zR → Prop} {h0 h : zH} {L s : Nat} {y g pl i w : Int}
set_option maxRecDepth 100000 in
theorem k_env {ev ey eg ei ew ek : Int × Int} {v : Int} {e k : Nat} (hL : L ≤ 400) (hs : s ≤ 400) (he : e ≤ 400) (hv : ev.1 ≤ v ∧ v ≤ ev.2) (hy : ey.1 ≤ y ∧ y ≤ ey.2) (hg : eg.1 ≤ g ∧ g ≤ eg.2) (hp : 0 ≤ pl ∧ pl ≤ 1) (hi : ei.1 ≤ i ∧ i ≤ ei.2) (hw : ew.1 ≤ w ∧ w ≤ ew.2) (hk : ek.1 ≤ (k : Int) ∧ (k : Int) ≤ ek.2) : benv (k9 L s e v y g pl i w k) (kE9 ev ey eg ew ei ek) :=
  benv_c (by omega) (by omega) (benv_c (by omega) (by omega) (benv_c (by omega) (by omega) (benv_c hv.1 hv.2 (benv_c hy.1 hy.2 (benv_c hg.1 hg.2 (benv_c hp.1 hp.2 (benv_c hi.1 hi.2 (benv_c hw.1 hw.2 (benv_c hk.1 hk.2 benv_n)))))))))
set_option maxRecDepth 100000 in
theorem k_ov (ht : CT h (tp2 h0) L s) : bOV E (k9 L s (kE (tp2 h0) L s) (kV (tp2 h0) L s) y g pl i w (kK (tp2 h0) L s)) kO h :=
  bov_c (k := 1) rfl rfl rfl rfl (by unfold mv; rw [bvx_v]; exact ht.1) (bov_c (k := 2) rfl rfl rfl rfl (by unfold mv; rw [bvx_v]; exact ht.2.1) (bov_c (k := 3) rfl rfl rfl rfl (by unfold mv; rw [bvx_v]; exact ht.2.2.1) (bov_c (k := 4) rfl rfl rfl rfl (by unfold mv; rw [bvx_v]; exact ht.2.2.2.1) (bov_c (k := 5) rfl rfl rfl rfl (by unfold mv; rw [bvx_v]; exact ht.2.2.2.2) bov_n))))
set_option maxRecDepth 100000 in
theorem k_ob {e k : Nat} {v : Int} (hr : bRQ ctb wC h0 0 0 h) : bOV E (k9 L s e v (tp2 h0 s) g pl i w k) kB h :=
  bov_c (k := s) rfl rfl (by rw [bvx_v]; rfl) rfl (by unfold mv; rw [bvx_v]; show _ = tp2 h0 s; unfold tp2; rw [wC_2 hr]) bov_n
set_option maxRecDepth 100000 in
theorem k_ct {h' : zH} (hp : bpv E (k9 L s (kE (tp2 h0) L s) (kV (tp2 h0) L s) y g pl i w (kK (tp2 h0) L s)) kPv h') : CT h' (tp2 h0) L s := by
  have q1 := bpv_x hp (c := 1) (k := 1) rfl (List.Mem.head _)
  have q2 := bpv_x hp (c := 1) (k := 2) rfl (List.Mem.tail _ (List.Mem.head _))
  have q3 := bpv_x hp (c := 1) (k := 3) rfl (List.Mem.tail _ (List.Mem.tail _ (List.Mem.head _)))
  have q4 := bpv_x hp (c := 1) (k := 4) rfl (List.Mem.tail _ (List.Mem.tail _ (List.Mem.tail _ (List.Mem.head _))))
  have q5 := bpv_x hp (c := 1) (k := 5) rfl (List.Mem.tail _ (List.Mem.tail _ (List.Mem.tail _ (List.Mem.tail _ (List.Mem.head _)))))
  unfold mv at q1 q2 q3 q4 q5
  rw [bvx_v] at q1 q2 q3 q4 q5
  exact ⟨q1, q2, q3, q4, q5⟩
set_option maxRecDepth 100000 in
theorem k_one (hE : E.1 < 2147483648) (hsm : bSO E ctb B (60, smT)) (hr : bRQ ctb wC h0 0 0 h) (ht : CT h (tp2 h0) L s) {en : bE} (hv : benv (k9 L s (kE (tp2 h0) L s) (kV (tp2 h0) L s) y g pl i w (kK (tp2 h0) L s)) en) {cs : bC} {ov : bO} (hcs : bcs (k9 L s (kE (tp2 h0) L s) (kV (tp2 h0) L s) y g pl i w (kK (tp2 h0) L s)) cs) (hov : bOV E (k9 L s (kE (tp2 h0) L s) (kV (tp2 h0) L s) y g pl i w (kK (tp2 h0) L s)) ov h) {pc pc' : Nat} {al al' : bLs} {ls : zLs} (hl : bLR (k9 L s (kE (tp2 h0) L s) (kV (tp2 h0) L s) y g pl i w (kK (tp2 h0) L s)) al ls) (c : kR ag_no9 [kN pc' al' en] en cs ov pc al = true) (hen : en.length = 10) {B' : Nat} (hB : B ≤ B')
    (hk : ∀ ls' h', bLR (k9 L s (kE (tp2 h0) L s) (kV (tp2 h0) L s) y g pl i w (kK (tp2 h0) L s)) al' ls' → bRQ ctb wC h0 0 0 h' → CT h' (tp2 h0) L s → ∀ d f, 61 ≤ d → B' ≤ f → Q (zex E f d 164 pc' ls' [] h')) : ∀ d f, 61 ≤ d → B' + 1000000 ≤ f → Q (zex E f d 164 pc ls [] h) := by
  refine seg (V := k9 L s (kE (tp2 h0) L s) (kV (tp2 h0) L s) y g pl i w (kK (tp2 h0) L s)) (ca := 0) (sa := 0) (nv := 10) hE hsm (fun V S v w h _ _ _ z => nomatch (show false = true from z)) hr hv rfl hcs hov hl c hB ?_ ?_
  · intro N hN
    cases hN with
    | head => exact ⟨hen, rfl, rfl⟩
    | tail _ hN => exact absurd hN List.not_mem_nil
  · intro N hN ls' h' k1 k2 k3 d f hd hf
    cases hN with
    | tail _ hN => exact absurd hN List.not_mem_nil
    | head => exact hk ls' h' k1 k2 (k_ct k3) d f hd hf
set_option maxRecDepth 100000 in
theorem k_fin1 (hE : E.1 < 2147483648) (hsm : bSO E ctb B (60, smT)) (hr : bRQ ctb wC h0 0 0 h) (ht : CT h (tp2 h0) L s) {en : bE} (hv : benv (k9 L s (kE (tp2 h0) L s) (kV (tp2 h0) L s) y g pl i w (kK (tp2 h0) L s)) en) {cs : bC} {ov : bO} (hcs : bcs (k9 L s (kE (tp2 h0) L s) (kV (tp2 h0) L s) y g pl i w (kK (tp2 h0) L s)) cs) (hov : bOV E (k9 L s (kE (tp2 h0) L s) (kV (tp2 h0) L s) y g pl i w (kK (tp2 h0) L s)) ov h) {pc : Nat} {al : bLs} {ls : zLs} (hl : bLR (k9 L s (kE (tp2 h0) L s) (kV (tp2 h0) L s) y g pl i w (kK (tp2 h0) L s)) al ls) (c : kR (kF 1) [] en cs ov pc al = true) {o : Nat ⊕ Nat} (ho : o = .inl s) : ∀ d f, 61 ≤ d → B + 1000000 ≤ f → cvQ h0 L o (zex E f d 164 pc ls [] h) := by
  refine seg (V := k9 L s (kE (tp2 h0) L s) (kV (tp2 h0) L s) y g pl i w (kK (tp2 h0) L s)) (ca := 0) (sa := 0) (nv := 10) hE hsm (fin_n (V := k9 L s (kE (tp2 h0) L s) (kV (tp2 h0) L s) y g pl i w (kK (tp2 h0) L s)) (ca := 0) (sa := 0) rfl (fun u h' k1 k2 k3 => ?_)) hr hv rfl hcs hov hl c (Nat.le_refl B) (fun N hN => absurd hN List.not_mem_nil) (fun N hN => absurd hN List.not_mem_nil)
  cases u with
  | none => exact k2.elim
  | some u =>
    obtain ⟨x, x1, x2⟩ := k2
    have x3 := brel_k x2
    subst ho
    exact ⟨x, h', by rw [x1], k1, x3, k_ct k3⟩
set_option maxRecDepth 100000 in
theorem k_fin0 (hE : E.1 < 2147483648) (hsm : bSO E ctb B (60, smT)) (hr : bRQ ctb wC h0 0 0 h) (ht : CT h (tp2 h0) L s) {en : bE} (hv : benv (k9 L s (kE (tp2 h0) L s) (kV (tp2 h0) L s) y g pl i w (kK (tp2 h0) L s)) en) {cs : bC} {ov : bO} (hcs : bcs (k9 L s (kE (tp2 h0) L s) (kV (tp2 h0) L s) y g pl i w (kK (tp2 h0) L s)) cs) (hov : bOV E (k9 L s (kE (tp2 h0) L s) (kV (tp2 h0) L s) y g pl i w (kK (tp2 h0) L s)) ov h) {pc : Nat} {al : bLs} {ls : zLs} (hl : bLR (k9 L s (kE (tp2 h0) L s) (kV (tp2 h0) L s) y g pl i w (kK (tp2 h0) L s)) al ls) (c : kR kF0 [] en cs ov pc al = true) {o : Nat ⊕ Nat} (ho : o = .inr s) : ∀ d f, 61 ≤ d → B + 1000000 ≤ f → cvQ h0 L o (zex E f d 164 pc ls [] h) := by
  refine seg (V := k9 L s (kE (tp2 h0) L s) (kV (tp2 h0) L s) y g pl i w (kK (tp2 h0) L s)) (ca := 0) (sa := 0) (nv := 10) hE hsm (fin_n (V := k9 L s (kE (tp2 h0) L s) (kV (tp2 h0) L s) y g pl i w (kK (tp2 h0) L s)) (ca := 0) (sa := 0) rfl (fun u h' k1 k2 k3 => ?_)) hr hv rfl hcs hov hl c (Nat.le_refl B) (fun N hN => absurd hN List.not_mem_nil) (fun N hN => absurd hN List.not_mem_nil)
  cases u with
  | none => exact k2.elim
  | some u =>
    obtain ⟨x, x1, x2⟩ := k2
    have x3 := brel_k x2
    subst ho
    have q1 := bpv_x k3 (c := 76) (k := 1) rfl (List.Mem.head _)
    unfold mv at q1
    rw [bvx_v] at q1
    exact ⟨x, h', by rw [x1], k1, x3, q1⟩
set_option maxRecDepth 100000 in
theorem k_al {e k : Nat} {v : Int} {x2 x3 x4 : Int32} {u : Option Value} (g2 : x2.toInt = g) (g3 : x3.toInt = pl) (g4 : x4.toInt = i) : bLR (k9 L s e v y g pl i w k) kA (kls x2 x3 x4 u) :=
  ⟨⟨_, rfl, rfl⟩, ⟨_, rfl, rfl⟩, ⟨_, rfl, x2, rfl, by rw [g2]; exact brel_v rfl⟩, ⟨_, rfl, x3, rfl, by rw [g3]; exact brel_v rfl⟩, ⟨_, rfl, x4, rfl, by rw [g4]; exact brel_v rfl⟩, trivial, trivial⟩
set_option maxRecDepth 100000 in
theorem k_als {V : List Int} {a b c : bI} {ls : zLs} (h : bLR V (kL (some (.inl a)) (some (.inl b)) (some (.inl c)) none) ls) : ∃ x2 x3 x4 u, ls = kls x2 x3 x4 u ∧ x2.toInt = bvx V a ∧ x3.toInt = bvx V b ∧ x4.toInt = bvx V c := by
  obtain ⟨l1, e1, k1⟩ := bls_r h
  obtain ⟨l2, e2, k2⟩ := bls_r k1
  obtain ⟨x2, l3, e3, g3, k3⟩ := bls_i k2
  obtain ⟨x3, l4, e4, g4, k4⟩ := bls_i k3
  obtain ⟨x4, l5, e5, g5, k5⟩ := bls_i k4
  obtain ⟨u, l6, e6, k6⟩ := bls_n k5
  exact ⟨x2, x3, x4, u, by rw [e1, e2, e3, e4, e5, e6, bls_0 k6]; rfl, brel_x g3, brel_x g4, brel_x g5⟩
end KL
