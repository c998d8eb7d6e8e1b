/-! the model's reader: pieces; 0 end, 1 point, 2 begin, 3 steps, 4 how deep, 5 and 6 numbers -/
def nV (L p b k dp : Nat) (x y : Int) : List Int := [(L : Int), (p : Int), (b : Int), (k : Int), (dp : Int), x, y]
def nE (d x y : Int × Int) : bE := [(0, 400), (0, 400), (0, 400), (0, 400), d, x, y]
def nO : bO := [(84, (11, []), mv 0), (84, (10, []), mv 1), (84, (12, []), mv 2), (84, (16, []), mv 3), (84, (13, []), mv 4)]
def nP (p d : bI) : bPv := [(84, 11, mv 0), (84, 10, p), (84, 12, mv 2), (84, 16, mv 3), (84, 13, d)]
noncomputable def nR (D MI : Nat) (fin : bS → Option bV → Bool) (L : List bNd) (e : bE) (cs : bC) (ov : bO) (pc : Nat) (al : bLs) (ak : bSt) : Bool := btzk wN (60, smT) ctb fin D MI 1000000 7 L (7, e, cs, ov, (0, []), (0, [])) pc al ak
/-- it goes on at a place -/
noncomputable def nG (D MI pc : Nat) (al : bLs) (ak : bSt) (e : bE) (cs : bC) (ov : bO) (pc' : Nat) (al' : bLs) (p d : bI) : Bool := nR D MI ag_no9 [(pc', al', e, [], nP p d, (0, []), (0, []), (0, []))] e cs ov pc al ak
/-- it answers -/
noncomputable def nY (MI pc : Nat) (al : bLs) (ak : bSt) (e : bE) (cs : bC) (ov : bO) (r p d : bI) : Bool := nR 60 MI (bfn 0 0 7 (bidl 7 0) [([], [], some (.inl r), nP p d)]) [] e cs ov pc al ak
def q84 : Option bV := some (.inr (.inl (.ref 84)))
def nD : Int × Int := (0, 6)
def nEq : bC := [(0, [(1, 1), (2, -1)]), (0, [(1, -1), (2, 1)])]
def nLe : bC := [(0, [(0, 1), (1, -1)]), (0, [(0, -1), (1, 1)])]
def n1 : bI := (1, [])
def n0 : bI := (0, [])
-- readPart
set_option maxRecDepth 100000 in
theorem np_4a : nG 62 256 4 [q84, none] [] (nE nD qz qz) nEq nO 15 [q84, none] (mv 1) (mv 4) = true := by decide +kernel
set_option maxRecDepth 100000 in
theorem np_4b : nG 62 256 4 [q84, none] [] (nE nD qz qz) [(-1, [(1, 1), (2, -1)])] nO 35 [q84, none] (mv 1) (mv 4) = true := by decide +kernel
set_option maxRecDepth 100000 in
theorem np_121a : nY 256 121 [q84, kvv 5] [] (nE nD (0, 999) qz) [] nO n1 (mv 1) (mv 4) = true := by decide +kernel
set_option maxRecDepth 100000 in
theorem np_121b : nY 256 121 [q84, kvv 5] [] (nE nD (-1, -1) qz) [] nO n0 (mv 1) (mv 4) = true := by decide +kernel
-- readTag
set_option maxRecDepth 100000 in
theorem nt_8a : nG 62 258 8 [q84, none, none] [.inl (mv 5)] (nE nD (0, 4) qz) [] nO 38 [q84, kvv 5, kcc 6] (mv 1) (mv 4) = true := by decide +kernel
set_option maxRecDepth 100000 in
theorem nt_8b : nG 62 258 8 [q84, none, none] (qc (-1)) (nE nD qz qz) [] nO 18 [q84, kcc (-1), none] (mv 1) (mv 4) = true := by decide +kernel
set_option maxRecDepth 100000 in
theorem nt_24a : nG 62 258 24 [q84, kcc (-1), none] (qc 1) (nE nD qz qz) [] nO 38 [q84, kcc (-1), kcc 7] (mv 1) (mv 4) = true := by decide +kernel
set_option maxRecDepth 100000 in
theorem nt_24b : nY 258 24 [q84, kcc (-1), none] (qc 0) (nE nD qz qz) [] nO n0 (mv 2) (mv 4) = true := by decide +kernel
set_option maxRecDepth 100000 in
theorem nt_55 : nY 258 55 [q84, none, kvv 5] [] (nE nD (6, 7) qz) [] nO n1 (mv 1) (mv 4) = true := by decide +kernel
-- readAtom
set_option maxRecDepth 100000 in
theorem na_6a : ∀ j, j < 30 → (afo (62 + j) fun D => nG D 259 6 [q84, none] (qc 1) (nE (0, 5) qz qz) [] nO 30 [q84, none] (mv 1) (1, [(4, 1)])) = true := by decide +kernel
set_option maxRecDepth 100000 in
theorem na_6b : nY 259 6 [q84, none] (qc 1) (nE (6, 6) qz qz) [] nO n0 (mv 1) (mv 4) = true := by decide +kernel
set_option maxRecDepth 100000 in
theorem na_34 : nG 62 259 34 [q84, none] (qc 1) (nE (1, 6) qz qz) [] nO 49 [q84, none] (mv 1) (-1, [(4, 1)]) = true := by decide +kernel
set_option maxRecDepth 100000 in
theorem na_62a : ∀ j, j < 30 → (afo (62 + j) fun D => nG D 259 62 [q84, none] (qc 1) (nE (0, 5) qz qz) [] nO 86 [q84, none] (mv 1) (1, [(4, 1)])) = true := by decide +kernel
set_option maxRecDepth 100000 in
theorem na_62b : nY 259 62 [q84, none] (qc 1) (nE (6, 6) qz qz) [] nO n0 (mv 1) (mv 4) = true := by decide +kernel
set_option maxRecDepth 100000 in
theorem na_90 : nG 62 259 90 [q84, none] (qc 1) (nE (1, 6) qz qz) [] nO 105 [q84, none] (mv 1) (-1, [(4, 1)]) = true := by decide +kernel
-- readLawLine: 5 which line, 6 what is told
noncomputable def nWK (n : Nat) (k : Int → Int → Bool) : Bool := bfo (.ofNat n) fun i => bfo (1627 + 4 * i) fun j => k i j
set_option maxRecDepth 100000 in
theorem nWK_e {n : Nat} {k : Int → Int → Bool} : nWK n k = k (n : Int) (1627 + 4 * (n : Int)) := by
  unfold nWK
  rw [bfo_eq, bfo_eq]
  rfl
def nWL (i j : Int) : bLs := [q84, kcc i, kcc j]
set_option maxRecDepth 100000 in
theorem nw_0 : ∀ n, n < 12 → (nWK n fun i j => nG 92 262 0 [q84, kcc i, none] [] (nE nD qz qz) [] nO 8 (nWL i j) (mv 1) (mv 4)) = true := by decide +kernel
set_option maxRecDepth 100000 in
theorem nw_66a : ∀ n, n < 12 → (nWK n fun i j => nG 92 262 66 (nWL i j) [.inl (mv 6), .inl (j, []), .inr (.inl (.ref 85))] (nE nD qz (0, 3)) [] nO 78 (nWL i j) (mv 1) (mv 4)) = true := by decide +kernel
set_option maxRecDepth 100000 in
theorem nw_66b : ∀ n, n < 12 → (nWK n fun i j => nY 262 66 (nWL i j) [.inl (-1, []), .inl (j, []), .inr (.inl (.ref 85))] (nE nD qz qz) [] nO n0 (mv 1) (mv 4)) = true := by decide +kernel
set_option maxRecDepth 100000 in
theorem nw_94a : ∀ n, n < 12 → (nWK n fun i j => bfo (j + 1) fun j1 => nG 92 262 94 (nWL i j) [.inl (mv 6), .inl (j1, []), .inr (.inl (.ref 85))] (nE nD qz (0, 999)) [] nO 125 (nWL i j) (mv 1) n0) = true := by decide +kernel
set_option maxRecDepth 100000 in
theorem nw_94b : ∀ n, n < 12 → (nWK n fun i j => bfo (j + 1) fun j1 => nY 262 94 (nWL i j) [.inl (-1, []), .inl (j1, []), .inr (.inl (.ref 85))] (nE nD qz qz) [] nO n0 (mv 1) (mv 4)) = true := by decide +kernel
set_option maxRecDepth 100000 in
theorem nw_143 : ∀ n, n < 12 → (nWK n fun i j => nY 262 143 (nWL i j) [] (nE nD qz qz) [] nO n1 (mv 1) (mv 4)) = true := by decide +kernel
def nLn : Int × Int := (0, 11)
-- readLine: 5 which line
set_option maxRecDepth 100000 in
theorem nr_4a : nG 93 263 4 [q84, kcc 0, kvv 5] [] (nE nD nLn qz) [] nO 33 [q84, kcc 0, kvv 5] (mv 1) (mv 4) = true := by decide +kernel
set_option maxRecDepth 100000 in
theorem nr_4b : nY 263 4 [q84, kcc 0, kvv 5] [] (nE nD (12, 12) qz) [] nO n0 (mv 1) (mv 4) = true := by decide +kernel
-- readAll: 5 which line, 6 the byte
set_option maxRecDepth 100000 in
theorem nz_13a : nY 264 13 [q84, kcc 0, none] [] (nE nD qz qz) nLe nO n0 (mv 1) (mv 4) = true := by decide +kernel
set_option maxRecDepth 100000 in
theorem nz_13b : nG 94 264 13 [q84, kcc 0, none] [] (nE nD qz qz) [(-1, [(0, 1), (1, -1)])] nO 28 [q84, kcc 0, kcc 0] (mv 1) (mv 4) = true := by decide +kernel
set_option maxRecDepth 100000 in
theorem nz_43a : nY 264 43 [q84, kcc 0, kvv 5] [] (nE nD nLn qz) nLe nO (1, [(5, 1)]) (mv 1) (mv 4) = true := by decide +kernel
def nB : bO := [(90, (0, [(1, 1)]), mv 6)]
set_option maxRecDepth 100000 in
theorem nz_43b : nG 94 264 43 [q84, kcc 0, kvv 5] [] (nE nD nLn (59, 59)) [(-1, [(0, 1), (1, -1)])] (nO ++ nB) 28 [q84, kcc 0, some (.inl (1, [(5, 1)]))] (1, [(1, 1)]) (mv 4) = true := by decide +kernel
set_option maxRecDepth 100000 in
theorem nz_43c : nY 264 43 [q84, kcc 0, kvv 5] [] (nE nD nLn (-128, 58)) [(-1, [(0, 1), (1, -1)])] (nO ++ nB) (-1, []) (mv 1) (mv 4) = true := by decide +kernel
set_option maxRecDepth 100000 in
theorem nz_43d : nY 264 43 [q84, kcc 0, kvv 5] [] (nE nD nLn (60, 127)) [(-1, [(0, 1), (1, -1)])] (nO ++ nB) (-1, []) (mv 1) (mv 4) = true := by decide +kernel
section NP
variable {E : zE} {B F : Nat} {Q : Option zR → Prop} {h0 h : zH} {L p b k dp D MI : Nat} {x y : Int}
set_option maxRecDepth 100000 in
theorem n_ov (ht : MT h L p b k dp) : bOV E (nV L p b k dp x y) nO h :=
  bov_c (k := 11) rfl rfl rfl rfl (by unfold mv; rw [bvx_v]; exact ht.1) (bov_c (k := 10) rfl rfl rfl rfl (by unfold mv; rw [bvx_v]; exact ht.2.1) (bov_c (k := 12) rfl rfl rfl rfl (by unfold mv; rw [bvx_v]; exact ht.2.2.1) (bov_c (k := 16) rfl rfl rfl rfl (by unfold mv; rw [bvx_v]; exact ht.2.2.2.1) (bov_c (k := 13) rfl rfl rfl rfl (by unfold mv; rw [bvx_v]; exact ht.2.2.2.2) bov_n))))
set_option maxRecDepth 100000 in
theorem n_env {ed ex ey : Int × Int} (hL : L ≤ 400) (hp : p ≤ 400) (hb : b ≤ 400) (hk : k ≤ 400) (hd : ed.1 ≤ (dp : Int) ∧ (dp : Int) ≤ ed.2) (hx : ex.1 ≤ x ∧ x ≤ ex.2) (hy : ey.1 ≤ y ∧ y ≤ ey.2) : benv (nV L p b k dp x y) (nE ed ex ey) :=
  benv_c (by omega) (by omega) (benv_c (by omega) (by omega) (benv_c (by omega) (by omega) (benv_c (by omega) (by omega) (benv_c hd.1 hd.2 (benv_c hx.1 hx.2 (benv_c hy.1 hy.2 benv_n))))))
set_option maxRecDepth 100000 in
theorem n_pv {pf df : bI} {h' : zH} {p' dp' : Nat} (hp : bpv E (nV L p b k dp x y) (nP pf df) h') (e1 : bvx (nV L p b k dp x y) pf = (p' : Int)) (e2 : bvx (nV L p b k dp x y) df = (dp' : Int)) : MT h' L p' b k dp' := by
  have q1 := bpv_x hp (c := 84) (k := 11) rfl (List.Mem.head _)
  have q2 := bpv_x hp (c := 84) (k := 10) rfl (List.Mem.tail _ (List.Mem.head _))
  have q3 := bpv_x hp (c := 84) (k := 12) rfl (List.Mem.tail _ (List.Mem.tail _ (List.Mem.head _)))
  have q4 := bpv_x hp (c := 84) (k := 16) rfl (List.Mem.tail _ (List.Mem.tail _ (List.Mem.tail _ (List.Mem.head _))))
  have q5 := bpv_x hp (c := 84) (k := 13) rfl (List.Mem.tail _ (List.Mem.tail _ (List.Mem.tail _ (List.Mem.tail _ (List.Mem.head _)))))
  unfold mv at q1 q3 q4
  rw [bvx_v] at q1 q3 q4
  exact ⟨q1, q2.trans e1, q3, q4, q5.trans e2⟩
set_option maxRecDepth 100000 in
theorem n_v1 : bvx (nV L p b k dp x y) (mv 1) = (p : Int) := by unfold mv; rw [bvx_v]; rfl
set_option maxRecDepth 100000 in
theorem n_v2 : bvx (nV L p b k dp x y) (mv 2) = (b : Int) := by unfold mv; rw [bvx_v]; rfl
set_option maxRecDepth 100000 in
theorem n_v4 : bvx (nV L p b k dp x y) (mv 4) = (dp : Int) := by unfold mv; rw [bvx_v]; rfl
set_option maxRecDepth 100000 in
theorem n_one (hE : E.1 < 2147483648) (hsm : bSO E ctb B (60, smT)) (hr : bRQ ctb wN h0 0 0 h) {en : bE} (hv : benv (nV L p b k dp x y) en) {cs : bC} {ov : bO} (hcs : bcs (nV L p b k dp x y) cs) (hov : bOV E (nV L p b k dp x y) ov h) {pc pc' : Nat} {al al' : bLs} {ls : zLs} (hl : bLR (nV L p b k dp x y) al ls) {ak : bSt} {st : List Value} (hk : bKR (nV L p b k dp x y) ak st) {pf df : bI} (ch : nG D MI pc al ak en cs ov pc' al' pf df = true) (hen : en.length = 7) {p' dp' : Nat} (e1 : bvx (nV L p b k dp x y) pf = (p' : Int)) (e2 : bvx (nV L p b k dp x y) df = (dp' : Int)) {B' : Nat} (hB : B ≤ B')
    (hL : ∀ ls' h', bLR (nV L p b k dp x y) al' ls' → bRQ ctb wN h0 0 0 h' → MT h' L p' b k dp' → ∀ d f, D ≤ d → B' ≤ f → Q (zex E f d MI pc' ls' [] h')) : ∀ d f, D ≤ d → B' + 1000000 ≤ f → Q (zex E f d MI pc ls st h) := by
  unfold nG nR at ch
  refine segk (fin := ag_no9) (V := nV L p b k dp x y) (ca := 0) (sa := 0) (nv := 7) hE hsm (fun V S v w h _ _ _ z => nomatch (show false = true from z)) hr hv rfl hcs hov hl hk ch hB ?_ ?_
  · intro N hN
    cases hN with
    | head => exact ⟨hen, rfl, rfl⟩
    | tail _ hN => exact absurd hN List.not_mem_nil
  · intro N hN ls' h' k1 k2 k3 d f hd hf
    cases hN with
    | tail _ hN => exact absurd hN List.not_mem_nil
    | head => exact hL ls' h' k1 k2 (n_pv k3 e1 e2) d f hd hf
set_option maxRecDepth 100000 in
theorem n_fin (hE : E.1 < 2147483648) (hsm : bSO E ctb B (60, smT)) (hr : bRQ ctb wN h0 0 0 h) {en : bE} (hv : benv (nV L p b k dp x y) en) {cs : bC} {ov : bO} (hcs : bcs (nV L p b k dp x y) cs) (hov : bOV E (nV L p b k dp x y) ov h) {pc : Nat} {al : bLs} {ls : zLs} (hl : bLR (nV L p b k dp x y) al ls) {ak : bSt} {st : List Value} (hk : bKR (nV L p b k dp x y) ak st) {r pf df : bI} (ch : nY MI pc al ak en cs ov r pf df = true) {p' dp' : Nat} (e1 : bvx (nV L p b k dp x y) pf = (p' : Int)) (e2 : bvx (nV L p b k dp x y) df = (dp' : Int)) : ∀ d f, 60 ≤ d → B + 1000000 ≤ f → ∃ (v : Int32) (h' : zH), zex E f d MI pc ls st h = some (.inl (some (.int v)), h') ∧ v.toInt = bvx (nV L p b k dp x y) r ∧ bRQ ctb wN h0 0 0 h' ∧ MT h' L p' b k dp' := by
  unfold nY nR at ch
  refine segk (Q := fun o => ∃ (v : Int32) (h' : zH), o = some (.inl (some (.int v)), h') ∧ v.toInt = bvx (nV L p b k dp x y) r ∧ bRQ ctb wN h0 0 0 h' ∧ MT h' L p' b k dp') (V := nV L p b k dp x y) (ca := 0) (sa := 0) (nv := 7) hE hsm (fin_n (V := nV L p b k dp x y) (ca := 0) (sa := 0) rfl (fun u h' k1 k2 k3 => ?_)) hr hv rfl hcs hov hl hk ch (Nat.le_refl B) (fun N hN => absurd hN List.not_mem_nil) (fun N hN => absurd hN List.not_mem_nil)
  cases u with
  | none => exact k2.elim
  | some u =>
    obtain ⟨v, x1, x2⟩ := k2
    exact ⟨v, h', by rw [x1], brel_x x2, k1, n_pv k3 e1 e2⟩
end NP
