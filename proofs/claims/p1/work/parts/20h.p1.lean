noncomputable def a_fin (env : aEn) (v : Option aV) (h : aHp) : Bool := match v with
  | some (.inl c) => ares env c fun c => cond (Nat.beq c 2147483649) (match h.2 with
    | some (_, _, c, q) => Nat.ble c 600002 && Nat.ble q 7302231
    | none => false) false
  | _ => false
def zQ1 (o : Option zR) : Prop := ∃ h, o = some (.inl (some (.int 1)), h) ∧ h.2.2.2.1 ≤ 600002 ∧ h.2.2.2.2 ≤ 7302231
set_option maxRecDepth 100000 in
theorem a_fin_s (V : Nat → Int32) (G : zH) : aFin V G zQ1 a_fin := by
  intro env v w ah h he hv hh e
  unfold a_fin at e
  split at e
  · cases w with
    | none => exact hv.elim
    | some w =>
      obtain ⟨x, hx, hr⟩ := hv
      subst hx
      obtain ⟨c', h1, e⟩ := ares_s he hr e
      obtain ⟨h2, e9⟩ := acnd e
      have h3 := abq h2
      subst h3
      have h5 : x = 1 := arel_eq h1 (by decide) (arel_of (by decide))
      subst h5
      split at e9
      · rename_i m J c q hq
        rw [Bool.and_eq_true, abe, abe] at e9
        have h9 := hh.2.2
        rw [hq] at h9
        exact ⟨_, rfl, by rw [h9.2.2.1]; exact e9.1, by rw [h9.2.2.2]; exact e9.2⟩
      · cases e9
  · cases e
def ah0 : aHp := ([], some (0, fun _ _ => 0, 0, 0))
def aV0 (E : zE) (i : Nat) : Int32 := if i < 6 then E.2 i else E.2 0 &&& 63
set_option maxRecDepth 100000 in
theorem aV0_ok (E : zE) : aOK E (aV0 E) := ⟨fun i hi => if_pos hi, rfl⟩
abbrev zG0 : zH := ([], fun _ _ => 0, fun _ _ => 0, 0, 0)
def als0 : aLs := [some (.inr (.float 0)), none, none, none, none, none, none]
def aen (l2 h2 lo hi : Nat) : aEn := [(0, 4294967295), (0, 4294967295), (l2, h2), (0, 4294967295), (0, 4294967295), (0, 4294967295), (lo, hi)]
noncomputable def zrunD (hit : Nat → Nat → Bool) (D : Nat → Nat → List (Nat × Nat × Nat) × List Nat × List (Nat × Nat)) (m N l2 h2 lo hi : Nat) : Bool := zlv N hit (a_gen D) sj9 sm9 a_fin 3000000 (m + 1) 3000000 (aen l2 h2 lo hi) [] 100 0 0 als0 [] ah0
set_option maxRecDepth 100000 in
theorem zh0_rel (V : Nat → Int32) : aHR V zG0 ah0 zG0 := ⟨fun k s t hk => (nomatch (show (none : Option (zS × aT)) = some (s, t) from hk)), fun k _ => ⟨rfl, rfl⟩, rfl, rfl, rfl, rfl⟩
set_option maxRecDepth 100000 in
theorem zal0_rel (V : Nat → Int32) : aLR V als0 (zent 7 [.float 0]) := ⟨⟨_, rfl, rfl⟩, trivial, trivial, trivial, trivial, trivial, trivial, trivial⟩
set_option maxRecDepth 100000 in
theorem aen_rel {E : zE} {l2 h2 lo hi : Nat} (g1 : (l2 : Int) ≤ (E.2 2).toInt + 2147483648) (g2 : (E.2 2).toInt + 2147483648 ≤ (h2 : Int)) (h1 : (lo : Int) ≤ (E.2 0 &&& 63).toInt + 2147483648) (k2 : (E.2 0 &&& 63).toInt + 2147483648 ≤ (hi : Int)) : aenv (aV0 E) (aen l2 h2 lo hi) := by
  intro i a b hi'
  have l := alo (aV0 E i)
  match i, hi' with
  | 0, hi' => cases hi'; exact ⟨l.1, by omega⟩
  | 1, hi' => cases hi'; exact ⟨l.1, by omega⟩
  | 2, hi' => cases hi'; exact ⟨g1, g2⟩
  | 3, hi' => cases hi'; exact ⟨l.1, by omega⟩
  | 4, hi' => cases hi'; exact ⟨l.1, by omega⟩
  | 5, hi' => cases hi'; exact ⟨l.1, by omega⟩
  | 6, hi' => cases hi'; exact ⟨h1, k2⟩
  | i + 7, hi' => exact absurd (show (none : Option (Nat × Nat)) = some (a, b) from hi') (fun z => nomatch z)
set_option maxRecDepth 100000 in
theorem zrunD_s {hit : Nat → Nat → Bool} {D : Nat → Nat → List (Nat × Nat × Nat) × List Nat × List (Nat × Nat)} {m : Nat} {E : zE} {N l2 h2 lo hi : Nat} (hN : E.1 = N) (g1 : (l2 : Int) ≤ (E.2 2).toInt + 2147483648) (g2 : (E.2 2).toInt + 2147483648 ≤ (h2 : Int)) (h1 : (lo : Int) ≤ (E.2 0 &&& 63).toInt + 2147483648) (k2 : (E.2 0 &&& 63).toInt + 2147483648 ≤ (hi : Int)) (e : zrunD hit D m N l2 h2 lo hi = true) : ∃ n h', zex E n 100 0 0 (zent 7 [.float 0]) [] ([], fun _ _ => 0, fun _ _ => 0, 0, 0) = some (.inl (some (.int 1)), h') ∧ h'.2.2.2.1 ≤ 600002 ∧ h'.2.2.2.2 ≤ 7302231 := by
  obtain ⟨h', e1, e2⟩ := zlv_s (V := aV0 E) (G := zG0) (B := 0) (Q := zQ1) (sm9_s 0) (aV0_ok E) hN (a_fin_s _ _) 3000000 (m + 1) _ _ _ _ _ _ _ _ _ e [] _ [] _ (aen_rel g1 g2 h1 k2) trivial (zal0_rel _) trivial (zh0_rel _)
  exact ⟨_, h', e1, e2⟩
noncomputable def zrun (N lo hi : Nat) : Bool := zrunD (fun _ _ => false) (fun _ _ => ([], [], [])) 0 N 0 4294967295 lo hi
set_option maxRecDepth 100000 in
theorem zand63 (x : Int32) : 0 ≤ (x &&& 63).toInt ∧ (x &&& 63).toInt ≤ 63 := by
  have h1 : (x &&& 63).toBitVec.toNat ≤ 63 := by
    rw [Int32.toBitVec_and, BitVec.toNat_and]
    exact Nat.and_le_right
  have h2 : (x &&& 63).toInt = ((x &&& 63).toBitVec.toNat : Int) := by
    rw [← Int32.toInt_toBitVec]
    exact BitVec.toInt_eq_toNat_of_lt (by omega)
  omega
set_option maxRecDepth 100000 in
theorem zall (x : Int32) : ((0 : Nat) : Int) ≤ x.toInt + 2147483648 ∧ x.toInt + 2147483648 ≤ ((4294967295 : Nat) : Int) := by
  have l := alo x
  omega
