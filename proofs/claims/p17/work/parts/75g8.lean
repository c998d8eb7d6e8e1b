/-! quiet places alike (wip/zab2/c/lgen46.py) -/
def kdS : Prop := False
def kdR : Prop := False
/-- which place of grains is which place of the model's row -/
def qk (c k m : Nat) : Prop := (kdP ∧ c = 1 ∧ k < 12 ∧ m = 15 + 11 * k) ∨ (kdA ∧ c = 2 ∧ k < 8 ∧ m = 185 + 24 * k) ∨ (kdK ∧ c = 3 ∧ k < 8 ∧ m = 186 + 24 * k) ∨ (kdW ∧ c = 4 ∧ k < 8 ∧ m = 187 + 24 * k) ∨ (kdS ∧ c = 0 ∧ k = 12 ∧ m = 12) ∨ (kdR ∧ c = 0 ∧ k = 10 ∧ m = 5)
set_option maxRecDepth 100000 in
theorem qk_g {c k m : Nat} (h : qk c k m) : gqP c k ∧ m < 777 ∧ c < 5 := by
  unfold gqP
  rcases h with ⟨_, h⟩ | ⟨_, h⟩ | ⟨_, h⟩ | ⟨_, h⟩ | ⟨_, h⟩ | ⟨_, h⟩ <;> omega
def alk (h : zH) (p g row off : Nat) : Prop := ∀ c k m, qk c k m → (c = 3 → (k : Int) < (h.2.1 p 2).toInt) → h.2.1 (g + c) k = h.2.1 row (off + m)
/-- what isn't told is 0; who is there, is in a place of the HABIT -/
def WZq (h : zH) (p g : Nat) : Prop := (kdP → ∀ r : Nat, r < 12 → (h.2.1 p 0).toInt ≤ (r : Int) → (h.2.1 (g + 1) r).toInt = 0) ∧ ∀ q : Nat, q < 8 → ((h.2.1 p 2).toInt ≤ (q : Int) → (kdA → (h.2.1 (g + 2) q).toInt = 0) ∧ (kdW → (h.2.1 (g + 4) q).toInt = 0)) ∧ ((q : Int) < (h.2.1 p 2).toInt → kdA → 0 ≤ (h.2.1 (g + 2) q).toInt ∧ (h.2.1 (g + 2) q).toInt < (h.2.1 (p + 4) q).toInt)
def SX (h : zH) (p g row off : Nat) : Prop := alk h p g row off ∧ WZq h p g
set_option maxRecDepth 100000 in
theorem SX_f {h h' : zH} {p p' g g' row row' off off' : Nat} (e1 : h'.2.1 p' 0 = h.2.1 p 0) (e2 : h'.2.1 p' 2 = h.2.1 p 2) (e3 : ∀ k : Nat, k < 8 → (k : Int) < (h.2.1 p 2).toInt → h'.2.1 (p' + 4) k = h.2.1 (p + 4) k) (e4 : ∀ c k m, qk c k m → h'.2.1 (g' + c) k = h.2.1 (g + c) k) (e5 : ∀ c k m, qk c k m → h'.2.1 row' (off' + m) = h.2.1 row (off + m)) (s : SX h p g row off) : SX h' p' g' row' off' := by
  refine ⟨fun c k m q hc => ?_, fun hk r hr h0 => ?_, fun q hq => ⟨fun h2 => ⟨fun hk => ?_, fun hk => ?_⟩, fun h2 hk => ?_⟩⟩
  · rw [e4 c k m q, e5 c k m q]
    exact s.1 c k m q (fun z => by rw [← e2]; exact hc z)
  · rw [e4 1 r _ (Or.inl ⟨hk, rfl, hr, rfl⟩)]
    exact s.2.1 hk r hr (by rw [← e1]; exact h0)
  · rw [e4 2 q _ (Or.inr (Or.inl ⟨hk, rfl, hq, rfl⟩))]
    exact ((s.2.2 q hq).1 (by rw [← e2]; exact h2)).1 hk
  · rw [e4 4 q _ (Or.inr (Or.inr (Or.inr (Or.inl ⟨hk, rfl, hq, rfl⟩))))]
    exact ((s.2.2 q hq).1 (by rw [← e2]; exact h2)).2 hk
  · rw [e4 2 q _ (Or.inr (Or.inl ⟨hk, rfl, hq, rfl⟩)), e3 q hq (by rw [← e2]; exact h2)]
    exact (s.2.2 q hq).2 (by rw [← e2]; exact h2) hk
/-- the b-th of the acts remembered stands in the r-th row of the class's -/
def vld (h : zH) (b r : Nat) : Prop := (b : Int) < (h.2.1 27 2).toInt ∧ r < 12 ∧ ((r : Int) + (h.2.1 27 2).toInt = (h.2.1 27 3).toInt + b ∨ (r : Int) + (h.2.1 27 2).toInt = (h.2.1 27 3).toInt + b + 12)
def QP (h : zH) : Prop := ∀ b r, vld h b r → SX h 4 (95 + 9 * r) 89 (777 * b)
def QI (h : zH) : Prop := (h.2.1 30 4).toInt ≠ 0 → SX h 31 44 86 0
def QX (h : zH) : Prop := SX h 4 18 85 0 ∧ QI h ∧ QP h
set_option maxRecDepth 100000 in
theorem QP_0 {h : zH} (z : (h.2.1 27 2).toInt = 0) : QP h := fun b r v => by
  have := v.1
  rw [z] at this
  omega
set_option maxRecDepth 100000 in
theorem QP_f {h h' : zH} (e1 : h'.2.1 4 0 = h.2.1 4 0) (e2 : h'.2.1 4 2 = h.2.1 4 2) (e3 : ∀ k : Nat, k < 8 → (k : Int) < (h.2.1 4 2).toInt → h'.2.1 8 k = h.2.1 8 k) (s2 : h'.2.1 27 2 = h.2.1 27 2) (s3 : h'.2.1 27 3 = h.2.1 27 3) (e4 : ∀ r, r < 12 → ∀ c, c < 5 → ∀ k, h'.2.1 (95 + 9 * r + c) k = h.2.1 (95 + 9 * r + c) k) (e5 : ∀ k, h'.2.1 89 k = h.2.1 89 k) (q : QP h) : QP h' := fun b r v => by
  obtain ⟨v1, v2, v3⟩ := v
  rw [s2] at v1 v3
  rw [s3] at v3
  exact SX_f e1 e2 e3 (fun c k m hq => e4 r v2 c (qk_g hq).2.2 k) (fun _ _ _ _ => e5 _) (q b r ⟨v1, v2, v3⟩)
set_option maxRecDepth 100000 in
theorem QI_f {h h' : zH} (e0 : h'.2.1 30 4 = h.2.1 30 4) (e1 : h'.2.1 31 0 = h.2.1 31 0) (e2 : h'.2.1 31 2 = h.2.1 31 2) (e3 : ∀ k : Nat, k < 8 → (k : Int) < (h.2.1 31 2).toInt → h'.2.1 35 k = h.2.1 35 k) (e4 : ∀ c k m, qk c k m → h'.2.1 (44 + c) k = h.2.1 (44 + c) k) (e5 : ∀ k, h'.2.1 86 k = h.2.1 86 k) (q : QI h) : QI h' := fun z => SX_f e1 e2 e3 e4 (fun _ _ _ _ => e5 _) (q (by rw [← e0]; exact z))
set_option maxRecDepth 100000 in
theorem QP_act {h h' : zH} {n : Nat} (hn : (h.2.1 27 3).toInt = (n : Int)) (hn12 : n < 12) (b2 : 0 ≤ (h.2.1 27 2).toInt ∧ (h.2.1 27 2).toInt ≤ 12) (e1 : h'.2.1 4 0 = h.2.1 4 0) (e2 : h'.2.1 4 2 = h.2.1 4 2) (e3 : ∀ k : Nat, k < 8 → (k : Int) < (h.2.1 4 2).toInt → h'.2.1 8 k = h.2.1 8 k)
    (s2 : (h'.2.1 27 2).toInt = (if (h.2.1 27 2).toInt = 12 then 12 else (h.2.1 27 2).toInt + 1)) (s3 : (h'.2.1 27 3).toInt = (if n = 11 then 0 else (n : Int) + 1))
    (rn : ∀ c k, gqP c k → h'.2.1 (95 + 9 * n + c) k = h.2.1 (18 + c) k) (ro : ∀ r, r < 12 → r ≠ n → ∀ c, c < 5 → ∀ k, h'.2.1 (95 + 9 * r + c) k = h.2.1 (95 + 9 * r + c) k)
    (m12 : (h.2.1 27 2).toInt = 12 → (∀ b k, b < 11 → k < 777 → h'.2.1 89 (777 * b + k) = h.2.1 89 (777 * (b + 1) + k)) ∧ ∀ k, k < 777 → h'.2.1 89 (777 * 11 + k) = h.2.1 85 k)
    (ml : ∀ s : Nat, (h.2.1 27 2).toInt = (s : Int) → s < 12 → (∀ b k, b < s → k < 777 → h'.2.1 89 (777 * b + k) = h.2.1 89 (777 * b + k)) ∧ ∀ k, k < 777 → h'.2.1 89 (777 * s + k) = h.2.1 85 k)
    (sx : SX h 4 18 85 0) (q : QP h) : QP h' := fun b r v => by
  obtain ⟨v1, v2, v3⟩ := v
  obtain ⟨s, hs⟩ : ∃ s : Nat, (h.2.1 27 2).toInt = (s : Int) := ⟨(h.2.1 27 2).toInt.toNat, by omega⟩
  rw [s2] at v1 v3
  rw [s3] at v3
  by_cases h12 : (h.2.1 27 2).toInt = 12
  · rw [if_pos h12] at v1 v3
    obtain ⟨k1, k2⟩ := m12 h12
    by_cases hb : b = 11
    · have hrn : r = n := by split at v3 <;> omega
      subst hrn
      subst hb
      exact SX_f e1 e2 e3 (fun c k m hq => rn c k (qk_g hq).1) (fun c k m hq => by rw [k2 m (qk_g hq).2.1, Nat.zero_add]) sx
    · have hrn : r ≠ n := by split at v3 <;> omega
      have hv : vld h (b + 1) r := ⟨by omega, v2, by split at v3 <;> omega⟩
      exact SX_f e1 e2 e3 (fun c k m hq => ro r v2 hrn c (qk_g hq).2.2 k) (fun c k m hq => k1 b m (by omega) (qk_g hq).2.1) (q (b + 1) r hv)
  · rw [if_neg h12] at v1 v3
    obtain ⟨k1, k2⟩ := ml s hs (by omega)
    by_cases hb : b = s
    · have hrn : r = n := by split at v3 <;> omega
      subst hrn
      subst hb
      exact SX_f e1 e2 e3 (fun c k m hq => rn c k (qk_g hq).1) (fun c k m hq => by rw [k2 m (qk_g hq).2.1, Nat.zero_add]) sx
    · have hrn : r ≠ n := by split at v3 <;> omega
      have hv : vld h b r := ⟨by omega, v2, by split at v3 <;> omega⟩
      exact SX_f e1 e2 e3 (fun c k m hq => ro r v2 hrn c (qk_g hq).2.2 k) (fun c k m hq => k1 b m (by omega) (qk_g hq).2.1) (q b r hv)
set_option maxRecDepth 100000 in
theorem QX_undo {h h' : zH} {z : Nat} (b2 : 0 < (h.2.1 27 2).toInt ∧ (h.2.1 27 2).toInt ≤ 12) (hz : z < 12) (hx : (h.2.1 27 3).toInt = (if z = 11 then 0 else (z : Int) + 1)) (e1 : h'.2.1 4 0 = h.2.1 4 0) (e2 : h'.2.1 4 2 = h.2.1 4 2) (e3 : ∀ k : Nat, k < 8 → (k : Int) < (h.2.1 4 2).toInt → h'.2.1 8 k = h.2.1 8 k)
    (s2 : (h'.2.1 27 2).toInt = (h.2.1 27 2).toInt - 1) (s3 : (h'.2.1 27 3).toInt = (z : Int)) (rn : ∀ c k, gqP c k → h'.2.1 (18 + c) k = h.2.1 (95 + 9 * z + c) k) (ro : ∀ r, r < 12 → ∀ c, c < 5 → ∀ k, h'.2.1 (95 + 9 * r + c) k = h.2.1 (95 + 9 * r + c) k) (m89 : ∀ k, h'.2.1 89 k = h.2.1 89 k)
    (m85 : ∀ s : Nat, (h.2.1 27 2).toInt = (s : Int) + 1 → ∀ k, k < 777 → h'.2.1 85 k = h.2.1 89 (777 * s + k)) (q : QP h) : SX h' 4 18 85 0 ∧ QP h' := by
  obtain ⟨s, hs⟩ : ∃ s : Nat, (h.2.1 27 2).toInt = (s : Int) + 1 := ⟨((h.2.1 27 2).toInt - 1).toNat, by omega⟩
  refine ⟨?_, fun b r v => ?_⟩
  · have hv : vld h s z := ⟨by omega, hz, by split at hx <;> omega⟩
    exact SX_f e1 e2 e3 (fun c k m hq => rn c k (qk_g hq).1) (fun c k m hq => by rw [Nat.zero_add]; exact m85 s hs m (qk_g hq).2.1) (q s z hv)
  · obtain ⟨v1, v2, v3⟩ := v
    rw [s2] at v1 v3
    rw [s3] at v3
    have hv : vld h b r := ⟨by omega, v2, by split at hx <;> omega⟩
    exact SX_f e1 e2 e3 (fun c k m hq => ro r v2 c (qk_g hq).2.2 k) (fun _ _ _ _ => m89 _) (q b r hv)
