/-! runs from where something stands on the stack -/
noncomputable def btzk (W : Nat) (sm : bSt9) (tb : bTb) (fin : bS → Option bV → Bool) (D MI F g : Nat) (L : List bNd) (S : bS) (pc : Nat) (al : bLs) (ak : bSt) : Bool := bid g 0 fun σ0 => bbod1 W sm none tb fin (zbc W sm none tb (bcuf L) (fun d mi pc S als => cond (Nat.beq mi MI) (cond (Nat.beq d D) (barn (1, []) g σ0 pc S als L) false) false) fin F) F S [] D MI pc al ak
set_option maxRecDepth 100000 in
theorem btzk_s {E : zE} (hE : E.1 < 2147483648) {tb : bTb} {W : Nat} {h0 h : zH} {V0 V : List Int} {B : Nat} {Q : Option zR → Prop} {sm : bSt9} {fin : bS → Option bV → Bool} {D MI F g : Nat} {L : List bNd} {S : bS} {pc : Nat} {al : bLs} {ls : zLs} {ak : bSt} {st : List Value}
    (hsm : bSO E tb B sm) (hfin : bFin E tb W h0 V0 Q fin) (hx : bxt V0 V) (hg : V.length = g) (hS : bSS E tb W h0 V S h) (hl : bLR V al ls) (hk : bKR V ak st) (e : btzk W sm tb fin D MI F g L S pc al ak = true) {B' : Nat} (hB : B ≤ B')
    (hL : ∀ N, N ∈ L → ∀ V' ls' h', bNR E tb W h0 V N V' ls' h' → ∀ d f, D ≤ d → B' ≤ f → Q (zex E f d MI N.1 ls' [] h')) : ∀ d f, D ≤ d → B' + F ≤ f → Q (zex E f d MI pc ls st h) := by
  intro d f hd hf
  unfold btzk at e
  rw [bid_eq, ← hg] at e
  have hsm' : bSO E tb B' sm := bSO_mono hB hsm
  have hsc' : bSC E V (none : Option bI) := ⟨hE, fun N z => by cases z⟩
  have hfin' : bFin E tb W h0 V Q fin := fun V' S v w h hy => hfin V' S v w h (bxt_trans hx hy)
  refine bbod1_s (B := B') (V0 := V) (zbc_s ?_ hsm' hsc' hfin' F) hsm' hsc' hfin' _ _ _ _ _ _ _ _ e V [] ls st h d f hd hf (bxt_refl V) hS trivial hl hk
  intro V' S' d1 mi1 pc1 als1 ls1 h1 d2 f2 e1 e2 e3 e4 e5 e6
  obtain ⟨c1, e6⟩ := bcnd e6
  obtain ⟨c2, e6⟩ := bcnd e6
  have c1 := abq c1
  have c2 := abq c2
  obtain ⟨N', n1, n2, n3⟩ := barn_s e6
  obtain ⟨V9, y, k1, k2, k3, k4⟩ := bar1_s e3 e4 (brel_c V' 1) e5 n3
  rw [c1, ← n2]
  exact hL N' n1 V9 ls1 h1 k1 d2 f2 (by omega) e2
set_option maxRecDepth 100000 in
theorem segk {E : zE} (hE : E.1 < 2147483648) {tb : bTb} {W : Nat} {h0 h : zH} {V : List Int} {B : Nat} {Q : Option zR → Prop} {sm : bSt9} {fin : bS → Option bV → Bool} {D MI F nv : Nat} {L : List bNd} {env : bE} {cs : bC} {ov : bO} {pc : Nat} {al : bLs} {ls : zLs} {ca sa : Nat} {ak : bSt} {st : List Value}
    (hsm : bSO E tb B sm) (hfin : bFin E tb W h0 V Q fin) (hr : bRQ tb W h0 ca sa h) (hv : benv V env) (hn : nv = V.length) (hcs : bcs V cs) (hov : bOV E V ov h) (hl : bLR V al ls) (hk : bKR V ak st)
    (e : btzk W sm tb fin D MI F nv L (nv, env, cs, ov, ((ca : Int), []), ((sa : Int), [])) pc al ak = true) {B' : Nat} (hB : B ≤ B')
    (hN : ∀ N, N ∈ L → N.2.2.1.length = nv ∧ N.2.2.2.2.2.1 = ((ca : Int), []) ∧ N.2.2.2.2.2.2.1 = ((sa : Int), []))
    (hL : ∀ N, N ∈ L → ∀ ls' h', bLR V N.2.1 ls' → bRQ tb W h0 ca sa h' → bpv E V N.2.2.2.2.1 h' → ∀ d f, D ≤ d → B' ≤ f → Q (zex E f d MI N.1 ls' [] h')) : ∀ d f, D ≤ d → B' + F ≤ f → Q (zex E f d MI pc ls st h) := by
  refine btzk_s (V := V) (V0 := V) hE hsm hfin (bxt_refl V) hn.symm (bSS_ofQ hr hv hn hcs hov) hl hk e hB ?_
  intro N hm V' ls' h' hR d f hd hf
  obtain ⟨n1, n2, n3⟩ := hN N hm
  have hV := bNR_V hR (n1.trans hn)
  subst hV
  obtain ⟨-, k1, k2, k3⟩ := hR
  rw [n2, n3] at k2
  exact hL N hm ls' h' k1 (bRQ_of k2) k3 d f hd hf
/-! the class's law reader: pieces; 0 L, 1 start, 2 end, 3 value, 4 byte, 5 to 8 numbers, 9 kind -/
def qE (v y a b c g k : Int × Int) : bE := [(0, 400), (0, 400), (0, 400), v, y, a, b, c, g, k]
noncomputable def qR (D MI : Nat) (fin : bS → Option bV → Bool) (L : List bNd) (e : bE) (cs : bC) (ov : bO) (pc : Nat) (al : bLs) (ak : bSt) : Bool := btzk wC (60, smT) ctb fin D MI 1000000 10 L (10, e, cs, ov, (0, []), (0, [])) pc al ak
def qlt : bC := [(-1, [(0, 1), (1, -1)])]
def qOB : bO := kO ++ kB
def q76 : Option bV := some (.inr (.inl (.ref 76)))
def q1 : Option bV := some (.inr (.inl (.ref 1)))
def qA5 (x3 : Option bV) : bLs := [q76, q1, kvv 5, x3, none]
def q01 : Int × Int := (0, 1)
def qk3 : Int × Int := (0, 3)
def qz : Int × Int := (0, 0)
def qc (n : Int) : bSt := [.inl (n, [])]
/-- one check: it goes on at a place, or it ends right, or it refuses -/
noncomputable def qG (D MI pc : Nat) (al : bLs) (ak : bSt) (e : bE) (cs : bC) (ov : bO) (pc' : Nat) (al' : bLs) : Bool := qR D MI ag_no9 [kN pc' al' e] e cs ov pc al ak
noncomputable def qY (MI pc : Nat) (al : bLs) (ak : bSt) (e : bE) (cs : bC) (ov : bO) : Bool := qR 62 MI (kF 1) [] e cs ov pc al ak
noncomputable def qN (MI pc : Nat) (al : bLs) (ak : bSt) (e : bE) (cs : bC) (ov : bO) : Bool := qR 62 MI kF0 [] e cs ov pc al ak
-- atom: 5 how deep
set_option maxRecDepth 100000 in
theorem pa_6a : ∀ j, j < 24 → (afo (62 + j) fun D => qG D 161 6 (qA5 none) (qc 1) (qE ag_MX kY (0, 5) qz qz qz qk3) [] kO 35 (qA5 (kcc 1))) = true := by decide +kernel
set_option maxRecDepth 100000 in
theorem pa_6b : qN 161 6 (qA5 none) (qc 1) (qE ag_MX kY (6, 6) qz qz qz qk3) [] kO = true := by decide +kernel
set_option maxRecDepth 100000 in
theorem pa_6c : ∀ j, j < 24 → (afo (62 + j) fun D => qG D 161 6 (qA5 none) (qc 0) (qE ag_MX (40, 40) (0, 5) qz qz qz (3, 3)) qlt qOB 35 (qA5 (kcc 0))) = true := by decide +kernel
set_option maxRecDepth 100000 in
theorem pa_6d : qN 161 6 (qA5 none) (qc 0) (qE ag_MX (40, 40) (6, 6) qz qz qz (3, 3)) qlt qOB = true := by decide +kernel
set_option maxRecDepth 100000 in
theorem pa_6e : qG 62 161 6 (qA5 none) (qc 0) (qE ag_MX kY (0, 6) qz qz qz (0, 2)) [] kO 63 (qA5 none) = true := by decide +kernel
set_option maxRecDepth 100000 in
theorem pa_6f : qG 62 161 6 (qA5 none) (qc 0) (qE ag_MX (0, 39) (0, 6) qz qz qz (3, 3)) qlt qOB 63 (qA5 none) = true := by decide +kernel
set_option maxRecDepth 100000 in
theorem pa_6g : qG 62 161 6 (qA5 none) (qc 0) (qE ag_MX (41, 255) (0, 6) qz qz qz (3, 3)) qlt qOB 63 (qA5 none) = true := by decide +kernel
set_option maxRecDepth 100000 in
theorem pa_69a : qG 62 161 69 (qA5 none) [.inl (mv 6)] (qE ag_MX kY (0, 6) (0, 4) qz qz qk3) [] kO 90 (qA5 none) = true := by decide +kernel
set_option maxRecDepth 100000 in
theorem pa_69b : qG 62 161 69 (qA5 none) (qc (-1)) (qE ag_MX kY (0, 6) qz qz qz qk3) [] kO 96 (qA5 none) = true := by decide +kernel
set_option maxRecDepth 100000 in
theorem pa_102 : qG 62 161 102 (qA5 none) (qc 1) (qE ag_MX kY (0, 6) qz qz qz qk3) [] kO 115 (qA5 none) = true := by decide +kernel
-- negation, bracket
def qA3 : bLs := [q76, q1, kvv 5]
set_option maxRecDepth 100000 in
theorem pk_6 : qY 162 6 qA3 (qc 1) (qE ag_MX kY (0, 6) qz qz qz qk3) [] kO = true := by decide +kernel
set_option maxRecDepth 100000 in
theorem pb_6a : qG 62 163 6 qA3 (qc 1) (qE ag_MX (41, 41) (0, 6) qz qz qz (3, 3)) qlt qOB 29 qA3 = true := by decide +kernel
set_option maxRecDepth 100000 in
theorem pb_6b : qN 163 6 qA3 (qc 1) (qE ag_MX kY (0, 6) qz qz qz (0, 2)) [] kO = true := by decide +kernel
set_option maxRecDepth 100000 in
theorem pb_6c : qN 163 6 qA3 (qc 1) (qE ag_MX (0, 40) (0, 6) qz qz qz (3, 3)) qlt qOB = true := by decide +kernel
set_option maxRecDepth 100000 in
theorem pb_6d : qN 163 6 qA3 (qc 1) (qE ag_MX (42, 255) (0, 6) qz qz qz (3, 3)) qlt qOB = true := by decide +kernel
-- condition: 5 how deep, 6 and, 7 or, 8 i
def qA6 (a b c : Option bV) : bLs := [q76, q1, kvv 5, a, b, c]
def qE6 (i : Int × Int) : bE := qE ag_MX kY (0, 6) q01 q01 i qk3
set_option maxRecDepth 100000 in
theorem pc_0 : ∀ j, j < 24 → (afo (62 + j) fun D => qG D 160 0 (qA6 none none none) [] (qE6 kI) [] kO 8 (qA6 (kcc 0) (kcc 0) (kcc 0))) = true := by decide +kernel
set_option maxRecDepth 100000 in
theorem pc_8a : ∀ j, j < 24 → (afo (62 + j) fun D => qG D 160 8 (qA6 (kvv 6) (kvv 7) (kvv 8)) [] (qE6 kI) [] kO 16 (qA6 (kvv 6) (kvv 7) (kvv 8))) = true := by decide +kernel
set_option maxRecDepth 100000 in
theorem pc_8b : qN 160 8 (qA6 (kvv 6) (kvv 7) (kvv 8)) [] (qE6 (400, 400)) [] kO = true := by decide +kernel
set_option maxRecDepth 100000 in
theorem pc_22 : ∀ j, j < 24 → (afo (62 + j) fun D => qG D 160 22 (qA6 (kvv 6) (kvv 7) (kvv 8)) (qc 1) (qE6 kI) [] kO 41 (qA6 (kvv 6) (kvv 7) (kvv 8))) = true := by decide +kernel
set_option maxRecDepth 100000 in
theorem pc_47a : ∀ j, j < 24 → (afo (62 + j) fun D => qG D 160 47 (qA6 (kvv 6) (kvv 7) (kvv 8)) (qc 1) (qE6 kI) [] kO 82 (qA6 (kcc 1) (kvv 7) (kvv 8))) = true := by decide +kernel
set_option maxRecDepth 100000 in
theorem pc_47b : ∀ j, j < 24 → (afo (62 + j) fun D => qG D 160 47 (qA6 (kvv 6) (kvv 7) (kvv 8)) (qc 0) (qE6 kI) [] kO 67 (qA6 (kcc 0) (kvv 7) (kvv 8))) = true := by decide +kernel
set_option maxRecDepth 100000 in
theorem pc_73a : ∀ j, j < 24 → (afo (62 + j) fun D => qG D 160 73 (qA6 (kvv 6) (kvv 7) (kvv 8)) (qc 1) (qE6 kI) [] kO 82 (qA6 (kvv 6) (kcc 1) (kvv 8))) = true := by decide +kernel
set_option maxRecDepth 100000 in
theorem pc_73b : qY 160 73 (qA6 (kvv 6) (kvv 7) (kvv 8)) (qc 0) (qE6 kI) [] kO = true := by decide +kernel
set_option maxRecDepth 100000 in
theorem pc_86 : ∀ j, j < 24 → (afo (62 + j) fun D => qG D 160 86 (qA6 (kvv 6) (kvv 7) (kvv 8)) [] (qE6 kI) [] kO 8 (qA6 (kvv 6) (kvv 7) (some (.inl (1, [(8, 1)]))))) = true := by decide +kernel
section QP
variable {E : zE} {B F : Nat} {Q : Option zR → Prop} {h0 h : zH} {L s D MI : Nat} {y a b c g : Int}
set_option maxRecDepth 100000 in
theorem q_one (hE : E.1 < 2147483648) (hsm : bSO E ctb B (60, smT)) (hr : bRQ ctb wC h0 0 0 h) (ht : CT h (tp2 h0) L s) {en : bE} (hv : benv (k9 L s (kE (tp2 h0) L s) (kV (tp2 h0) L s) y a b c g (kK (tp2 h0) L s)) en) {cs : bC} {ov : bO} (hcs : bcs (k9 L s (kE (tp2 h0) L s) (kV (tp2 h0) L s) y a b c g (kK (tp2 h0) L s)) cs) (hov : bOV E (k9 L s (kE (tp2 h0) L s) (kV (tp2 h0) L s) y a b c g (kK (tp2 h0) L s)) ov h) {pc pc' : Nat} {al al' : bLs} {ls : zLs} (hl : bLR (k9 L s (kE (tp2 h0) L s) (kV (tp2 h0) L s) y a b c g (kK (tp2 h0) L s)) al ls) {ak : bSt} {st : List Value} (hk : bKR (k9 L s (kE (tp2 h0) L s) (kV (tp2 h0) L s) y a b c g (kK (tp2 h0) L s)) ak st) (ch : qG D MI pc al ak en cs ov pc' al' = true) (hen : en.length = 10) {B' : Nat} (hB : B ≤ B')
    (hL : ∀ ls' h', bLR (k9 L s (kE (tp2 h0) L s) (kV (tp2 h0) L s) y a b c g (kK (tp2 h0) L s)) al' ls' → bRQ ctb wC h0 0 0 h' → CT h' (tp2 h0) L s → ∀ d f, D ≤ d → B' ≤ f → Q (zex E f d MI pc' ls' [] h')) : ∀ d f, D ≤ d → B' + 1000000 ≤ f → Q (zex E f d MI pc ls st h) := by
  unfold qG qR at ch
  refine segk (fin := ag_no9) (V := k9 L s (kE (tp2 h0) L s) (kV (tp2 h0) L s) y a b c g (kK (tp2 h0) L s)) (ca := 0) (sa := 0) (nv := 10) hE hsm (fun V S v w h _ _ _ z => nomatch (show false = true from z)) hr hv rfl hcs hov hl hk ch hB ?_ ?_
  · intro N hN
    cases hN with
    | head => exact ⟨hen, rfl, rfl⟩
    | tail _ hN => exact absurd hN List.not_mem_nil
  · intro N hN ls' h' k1 k2 k3 d f hd hf
    cases hN with
    | tail _ hN => exact absurd hN List.not_mem_nil
    | head => exact hL ls' h' k1 k2 (k_ct k3) d f hd hf
set_option maxRecDepth 100000 in
theorem q_fin1 (hE : E.1 < 2147483648) (hsm : bSO E ctb B (60, smT)) (hr : bRQ ctb wC h0 0 0 h) (ht : CT h (tp2 h0) L s) {en : bE} (hv : benv (k9 L s (kE (tp2 h0) L s) (kV (tp2 h0) L s) y a b c g (kK (tp2 h0) L s)) en) {cs : bC} {ov : bO} (hcs : bcs (k9 L s (kE (tp2 h0) L s) (kV (tp2 h0) L s) y a b c g (kK (tp2 h0) L s)) cs) (hov : bOV E (k9 L s (kE (tp2 h0) L s) (kV (tp2 h0) L s) y a b c g (kK (tp2 h0) L s)) ov h) {pc : Nat} {al : bLs} {ls : zLs} (hl : bLR (k9 L s (kE (tp2 h0) L s) (kV (tp2 h0) L s) y a b c g (kK (tp2 h0) L s)) al ls) {ak : bSt} {st : List Value} (hk : bKR (k9 L s (kE (tp2 h0) L s) (kV (tp2 h0) L s) y a b c g (kK (tp2 h0) L s)) ak st) (ch : qY MI pc al ak en cs ov = true) : ∀ d f, 62 ≤ d → B + 1000000 ≤ f → cvQ h0 L (.inl s) (zex E f d MI pc ls st h) := by
  unfold qY qR kF at ch
  refine segk (V := k9 L s (kE (tp2 h0) L s) (kV (tp2 h0) L s) y a b c g (kK (tp2 h0) L s)) (ca := 0) (sa := 0) (nv := 10) hE hsm (fin_n (V := k9 L s (kE (tp2 h0) L s) (kV (tp2 h0) L s) y a b c g (kK (tp2 h0) L s)) (ca := 0) (sa := 0) rfl (fun u h' k1 k2 k3 => ?_)) hr hv rfl hcs hov hl hk ch (Nat.le_refl B) (fun N hN => absurd hN List.not_mem_nil) (fun N hN => absurd hN List.not_mem_nil)
  cases u with
  | none => exact k2.elim
  | some u =>
    obtain ⟨x, x1, x2⟩ := k2
    exact ⟨x, h', by rw [x1], k1, brel_k x2, k_ct k3⟩
set_option maxRecDepth 100000 in
theorem q_fin0 (hE : E.1 < 2147483648) (hsm : bSO E ctb B (60, smT)) (hr : bRQ ctb wC h0 0 0 h) (ht : CT h (tp2 h0) L s) {en : bE} (hv : benv (k9 L s (kE (tp2 h0) L s) (kV (tp2 h0) L s) y a b c g (kK (tp2 h0) L s)) en) {cs : bC} {ov : bO} (hcs : bcs (k9 L s (kE (tp2 h0) L s) (kV (tp2 h0) L s) y a b c g (kK (tp2 h0) L s)) cs) (hov : bOV E (k9 L s (kE (tp2 h0) L s) (kV (tp2 h0) L s) y a b c g (kK (tp2 h0) L s)) ov h) {pc : Nat} {al : bLs} {ls : zLs} (hl : bLR (k9 L s (kE (tp2 h0) L s) (kV (tp2 h0) L s) y a b c g (kK (tp2 h0) L s)) al ls) {ak : bSt} {st : List Value} (hk : bKR (k9 L s (kE (tp2 h0) L s) (kV (tp2 h0) L s) y a b c g (kK (tp2 h0) L s)) ak st) (ch : qN MI pc al ak en cs ov = true) : ∀ d f, 62 ≤ d → B + 1000000 ≤ f → cvQ h0 L (.inr s) (zex E f d MI pc ls st h) := by
  unfold qN qR kF0 at ch
  refine segk (V := k9 L s (kE (tp2 h0) L s) (kV (tp2 h0) L s) y a b c g (kK (tp2 h0) L s)) (ca := 0) (sa := 0) (nv := 10) hE hsm (fin_n (V := k9 L s (kE (tp2 h0) L s) (kV (tp2 h0) L s) y a b c g (kK (tp2 h0) L s)) (ca := 0) (sa := 0) rfl (fun u h' k1 k2 k3 => ?_)) hr hv rfl hcs hov hl hk ch (Nat.le_refl B) (fun N hN => absurd hN List.not_mem_nil) (fun N hN => absurd hN List.not_mem_nil)
  cases u with
  | none => exact k2.elim
  | some u =>
    obtain ⟨x, x1, x2⟩ := k2
    have q1 := bpv_x k3 (c := 76) (k := 1) rfl (List.Mem.head _)
    unfold mv at q1
    rw [bvx_v] at q1
    exact ⟨x, h', by rw [x1], k1, brel_k x2, q1⟩
end QP
