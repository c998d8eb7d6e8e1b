/-! the model's words -/
def mwL (w : Nat) : bLs := [some (.inr (.inl (.ref 84))), some (.inr (.inl (.retAddr w))), none, none]
def mwO : bO := [(84, (10, []), (0, [(0, 1)])), (84, (12, []), (0, [(1, 1)]))]
noncomputable def mwR (w : Nat) (r : Int) (y : Int × Int) (cs : bC) (ov : bO) : Bool := btz 0 (60, smT) ctb (bfn 0 0 3 (bidl 3 0) [([], [], some (.inl (r, [])), [])]) 60 237 1000000 3 [] (3, [(0, 400), (0, 400), y], cs, ov, (0, []), (0, [])) 0 (mwL w)
def mwEq (n : Int) : bC := [(0 - n, [(0, 1), (1, -1)]), (n, [(0, -1), (1, 1)])]
noncomputable def mwC (w : Nat) (n : Int) : List Nat → bO → Nat → Bool
  | [], done, _ => mwR w 1 (0, 0) (mwEq n) (done ++ mwO)
  | c :: u, done, j => bfo (.ofNat c) fun c => bfo (.ofNat j) fun ji => bfo (c - 1) fun cl => bfo (c + 1) fun ch => cond (mwR w 0 (-128, cl) (mwEq n) ((90, (ji, [(1, 1)]), (0, [(2, 1)])) :: (done ++ mwO))) (cond (mwR w 0 (ch, 127) (mwEq n) ((90, (ji, [(1, 1)]), (0, [(2, 1)])) :: (done ++ mwO))) (mwC w n u ((90, (ji, [(1, 1)]), (c, [])) :: done) (j + 1)) false) false
noncomputable def mwA (w : Nat) (u : List Nat) : Bool := bfo (.ofNat u.length) fun n => bfo (n - 1) fun nl => bfo (n + 1) fun nh => cond (mwR w 0 (0, 0) [(nl, [(0, -1), (1, 1)])] mwO) (cond (mwR w 0 (0, 0) [(0 - nh, [(0, 1), (1, -1)])] mwO) (mwC w n u [] 0) false) false
def mws : List (Nat × List Nat) := [(23, [114, 111, 111, 109]), (24, [111, 117, 116]), (25, [115, 116, 111, 110, 101]), (26, [99, 97, 114, 112, 101, 116]), (27, [98, 101, 100]), (28, [100, 114, 97, 105, 110]), (29, [100, 111, 111, 114]), (30, [112, 101, 114, 115, 111, 110]), (31, [108, 111, 97, 100]), (32, [115, 97, 110, 100]), (33, [116, 111, 111, 108]), (34, [107, 101, 101, 112, 115]), (35, [119, 101, 116]), (36, [99, 108, 111, 103]), (37, [98, 114, 105, 110, 103]), (38, [100, 114, 111, 112]), (39, [112, 105, 99, 107]), (40, [115, 119, 101, 101, 112]), (41, [105, 102]), (42, [110, 111, 116]), (43, [104, 101, 114, 101]), (44, [114, 111, 117, 110, 100]), (45, [112, 97, 114, 116]), (46, [97, 110, 100]), (47, [111, 114])]
set_option maxRecDepth 100000 in
theorem mwAll : mws.all (fun q => mwA q.1 q.2) = true := by decide +kernel
section MW
variable {E : zE} {B : Nat} {h : zH} {p b w : Nat}
set_option maxRecDepth 100000 in
theorem mw_ret (hE : E.1 < 2147483648) (hsm : bSO E ctb B (60, smT)) (hI : bHI h) (hP : bPS h) (hT : bTB ctb h.1) (hp : p ≤ 400) (hb : b ≤ 400) {r : Int} {y : Int} {yb : Int × Int} (hy : yb.1 ≤ y ∧ y ≤ yb.2) {cs : bC} {ov : bO} (hcs : bcs [(p : Int), (b : Int), y] cs) (hov : bOV E [(p : Int), (b : Int), y] ov h) (c : mwR w r yb cs ov = true) :
    ∀ d f, 60 ≤ d → B + 1000000 ≤ f → waQ h r (zex E f d 237 0 [some (.ref 84), some (.retAddr w), none, none] [] h) := by
  refine seg (V := [(p : Int), (b : Int), y]) (ca := 0) (sa := 0) (nv := 3) hE hsm (fin_n (V := [(p : Int), (b : Int), y]) (ca := 0) (sa := 0) rfl (fun u h' k1 k2 k3 => ?_)) (show bRQ ctb 0 h 0 0 h from ⟨hI, hP, hT, fun _ _ _ => rfl, Nat.le_refl _, Nat.le_refl _⟩) (benv_c (by omega) (by omega) (benv_c (by omega) (by omega) (benv_c hy.1 hy.2 benv_n))) rfl hcs hov (show bLR _ (mwL w) [some (.ref 84), some (.retAddr w), none, none] from ⟨⟨_, rfl, rfl⟩, ⟨_, rfl, rfl⟩, trivial, trivial, trivial⟩) c (Nat.le_refl B) (fun N hN => absurd hN List.not_mem_nil) (fun N hN => absurd hN List.not_mem_nil)
  cases u with
  | none => exact k2.elim
  | some u =>
    obtain ⟨x, x1, x2⟩ := k2
    exact ⟨x, h', by rw [x1], brel_k x2, k1⟩
set_option maxRecDepth 100000 in
theorem mw_o {y : Int} (h1 : (h.2.1 84 10).toInt = (p : Int)) (h2 : (h.2.1 84 12).toInt = (b : Int)) : bOV E [(p : Int), (b : Int), y] mwO h :=
  bov_c (k := 10) rfl rfl rfl rfl (by rw [bvx_v]; exact h1) (bov_c (k := 12) rfl rfl rfl rfl (by rw [bvx_v]; exact h2) bov_n)
set_option maxRecDepth 100000 in
theorem mw_C (hE : E.1 < 2147483648) (hsm : bSO E ctb B (60, smT)) (hI : bHI h) (hP : bPS h) (hT : bTB ctb h.1) (hp : p ≤ 400) (hb : b ≤ 400) (h1 : (h.2.1 84 10).toInt = (p : Int)) (h2 : (h.2.1 84 12).toInt = (b : Int)) {n : Nat} (hn : p = b + n) : ∀ (u : List Nat) (done : bO) (j : Nat), mwC w n u done j = true → (∀ y, bOV E [(p : Int), (b : Int), y] done h) →
    ∀ d f, 60 ≤ d → B + 1000000 ≤ f → waQ h (if txm (tp90 h) u (b + j) = true then 1 else 0) (zex E f d 237 0 [some (.ref 84), some (.retAddr w), none, none] [] h) := by
  intro u
  have hcs : ∀ y, bcs [(p : Int), (b : Int), y] (mwEq n) := fun y => bcs_c rfl (by show 0 ≤ 0 - (n : Int) + (1 * (p : Int) + ((-1) * (b : Int) + 0)); omega) (bcs_c rfl (by show 0 ≤ (n : Int) + ((-1) * (p : Int) + (1 * (b : Int) + 0)); omega) bcs_n)
  induction u with
  | nil =>
    intro done j hc hd0 d f hd hf
    rw [show txm (tp90 h) [] (b + j) = true from rfl, if_pos rfl]
    exact mw_ret hE hsm hI hP hT hp hb (y := 0) (yb := (0, 0)) ⟨Int.le_refl _, Int.le_refl _⟩ (hcs 0) (bov_app (hd0 0) (mw_o h1 h2)) hc d f hd hf
  | cons c u ih =>
    intro done j hc hd0 d f hd hf
    unfold mwC at hc
    simp only [bfo_eq] at hc
    obtain ⟨c1, hc⟩ := bcnd hc
    obtain ⟨c2, c3⟩ := bcnd hc
    have hbb := hI.1 90 (b + j)
    rw [biv90] at hbb
    have hb1 : -128 ≤ (h.2.1 90 (b + j)).toInt := hbb.1
    have hb2 : (h.2.1 90 (b + j)).toInt ≤ 127 := hbb.2
    have ht : txm (tp90 h) (c :: u) (b + j) = (decide (tp90 h (b + j) = (c : Int)) && txm (tp90 h) u (b + j + 1)) := rfl
    have hvar : bOV E [(p : Int), (b : Int), (h.2.1 90 (b + j)).toInt] ((90, ((j : Int), [(1, 1)]), (0, [(2, 1)])) :: (done ++ mwO)) h := bov_c (k := b + j) rfl rfl (by show ((b + j : Nat) : Int) = (j : Int) + (1 * (b : Int) + 0); omega) rfl (by rw [bvx_v]; rfl) (bov_app (hd0 _) (mw_o h1 h2))
    by_cases he : (h.2.1 90 (b + j)).toInt = (c : Int)
    · have he2 : tp90 h (b + j) = (c : Int) := he
      rw [ht, decide_eq_true he2, Bool.true_and, show b + j + 1 = b + (j + 1) by omega]
      refine ih _ (j + 1) c3 (fun y => ?_) d f hd hf
      exact bov_c (k := b + j) rfl rfl (by show ((b + j : Nat) : Int) = (j : Int) + (1 * (b : Int) + 0); omega) rfl (by rw [bvx_k]; exact he) (hd0 y)
    · have he2 : ¬ tp90 h (b + j) = (c : Int) := he
      rw [ht, decide_eq_false he2, Bool.false_and, if_neg (by decide)]
      by_cases hlo : (h.2.1 90 (b + j)).toInt ≤ (c : Int) - 1
      · exact mw_ret hE hsm hI hP hT hp hb (yb := (-128, (c : Int) - 1)) ⟨hb1, hlo⟩ (hcs _) hvar c1 d f hd hf
      · exact mw_ret hE hsm hI hP hT hp hb (yb := ((c : Int) + 1, 127)) ⟨by show (c : Int) + 1 ≤ _; omega, hb2⟩ (hcs _) hvar c2 d f hd hf
set_option maxRecDepth 100000 in
theorem m_isWord (hE : E.1 < 2147483648) (hsm : bSO E ctb B (60, smT)) (hI : bHI h) (hP : bPS h) (hT : bTB ctb h.1) (hp : p ≤ 400) (hb : b ≤ 400) (h1 : (h.2.1 84 10).toInt = (p : Int)) (h2 : (h.2.1 84 12).toInt = (b : Int)) {u : List Nat} (hw : (w, u) ∈ mws) :
    ∀ d f, 60 ≤ d → B + 1000000 ≤ f → waQ h (if txq (tp90 h) b p u = true then 1 else 0) (zex E f d 237 0 [some (.ref 84), some (.retAddr w), none, none] [] h) := by
  intro d f hd hf
  have hc := List.all_eq_true.mp mwAll (w, u) hw
  have hc : mwA w u = true := hc
  unfold mwA at hc
  simp only [bfo_eq] at hc
  obtain ⟨c1, hc⟩ := bcnd hc
  obtain ⟨c2, c3⟩ := bcnd hc
  unfold txq
  by_cases hn : p = b + u.length
  · rw [decide_eq_true hn, Bool.true_and]
    exact mw_C hE hsm hI hP hT hp hb h1 h2 hn u [] 0 c3 (fun y => bov_n) d f hd hf
  · rw [decide_eq_false hn, Bool.false_and, if_neg (by decide)]
    by_cases hlt : p < b + u.length
    · exact mw_ret hE hsm hI hP hT hp hb (y := 0) (yb := (0, 0)) ⟨Int.le_refl _, Int.le_refl _⟩ (bcs_c rfl (by show 0 ≤ (u.length : Int) - 1 + ((-1) * (p : Int) + (1 * (b : Int) + 0)); omega) bcs_n) (mw_o h1 h2) c1 d f hd hf
    · exact mw_ret hE hsm hI hP hT hp hb (y := 0) (yb := (0, 0)) ⟨Int.le_refl _, Int.le_refl _⟩ (bcs_c rfl (by show 0 ≤ 0 - ((u.length : Int) + 1) + (1 * (p : Int) + ((-1) * (b : Int) + 0)); omega) bcs_n) (mw_o h1 h2) c2 d f hd hf
end MW
