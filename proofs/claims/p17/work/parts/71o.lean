/-! feed of the class and of the model, exactly -/
def shs : Nat → Int32
  | 0 => 24
  | n + 1 => shs n + (-8)
def byC (w : Int32) (j : Nat) : Int32 := (w >>> (shs j &&& 31)) &&& 255
def byM (w : Int32) (j : Nat) : Int32 := ((w >>> (shs j &&& 31)).toInt8.toInt32).toInt8.toInt32
def w5 (w0 w1 w2 w3 w4 : Int32) : Nat → Int32
  | 0 => w0
  | 1 => w1
  | 2 => w2
  | 3 => w3
  | _ => w4
/-- the class's tape with n bytes more behind T -/
def apR (h h' : zH) (T n : Nat) (b : Nat → Int32) : Prop := h'.1 = h.1 ∧ h'.2.2 = h.2.2 ∧ (∀ c, c ≠ 1 → c ≠ 2 → h'.2.1 c = h.2.1 c) ∧ (∀ k, k ≠ 1 → h'.2.1 1 k = h.2.1 1 k) ∧ (h'.2.1 1 1).toInt = ((T + n : Nat) : Int) ∧ ∀ i, h'.2.1 2 i = if T ≤ i ∧ i < T + n then b (i - T) else h.2.1 2 i
/-- the model's -/
def mpR9 (h h' : zH) (T n : Nat) (b : Nat → Int32) : Prop := h'.1 = h.1 ∧ h'.2.2 = h.2.2 ∧ (∀ c, c ≠ 90 → h'.2.1 c = h.2.1 c) ∧ ∀ i, h'.2.1 90 i = if T ≤ i ∧ i < T + n then b (i - T) else h.2.1 90 i
set_option maxRecDepth 100000 in
theorem zs_nc {h : zH} {c d : Nat} {f : Nat → Int32} (e : d ≠ c) : (zsetI h c f).2.1 d = h.2.1 d := zrow_ne _ _ e
set_option maxRecDepth 100000 in
theorem apR_0 {h : zH} {T : Nat} {b : Nat → Int32} (e : (h.2.1 1 1).toInt = (T : Int)) : apR h h T 0 b := ⟨rfl, rfl, fun _ _ _ => rfl, fun _ _ => rfl, e, fun i => by rw [if_neg (by omega)]⟩
set_option maxRecDepth 100000 in
theorem mpR9_0 {h : zH} {T : Nat} {b : Nat → Int32} : mpR9 h h T 0 b := ⟨rfl, rfl, fun _ _ => rfl, fun i => by rw [if_neg (by omega)]⟩
set_option maxRecDepth 100000 in
theorem int1 : (1 : Int32).toInt = 1 := by decide
set_option maxRecDepth 100000 in
theorem apR_s {h h' : zH} {T n : Nat} {b : Nat → Int32} (q : apR h h' T n b) (hN : T + n < 400) : apR h (zsetI (zsetI h' 2 (upd (h'.2.1 2) (T + n) (b n))) 1 (upd ((zsetI h' 2 (upd (h'.2.1 2) (T + n) (b n))).2.1 1) 1 ((zsetI h' 2 (upd (h'.2.1 2) (T + n) (b n))).2.1 1 1 + 1))) T (n + 1) b := by
  obtain ⟨q1, q2, q3, q4, q5, q6⟩ := q
  refine ⟨q1, q2, ?_, ?_, ?_, ?_⟩
  · intro c h1 h2
    rw [zs_nc h1, zs_nc h2]
    exact q3 c h1 h2
  · intro k hk
    rw [zs_at, upd_n hk, zs_ne (by decide)]
    exact q4 k hk
  · rw [zs_at, upd_e, zs_ne (by decide), i32_add (by rw [q5, int1]; omega) (by rw [q5, int1]; omega), q5, int1]
    omega
  · intro i
    rw [zs_ne (by decide), zs_at]
    by_cases hi : i = T + n
    · subst hi
      rw [upd_e, if_pos ⟨by omega, by omega⟩, show T + n - T = n by omega]
    · rw [upd_n hi, q6 i]
      by_cases hh : T ≤ i ∧ i < T + n
      · rw [if_pos hh, if_pos ⟨hh.1, by omega⟩]
      · rw [if_neg hh, if_neg (by omega)]
set_option maxRecDepth 100000 in
theorem mpR9_s {h h' : zH} {T n : Nat} {b : Nat → Int32} (q : mpR9 h h' T n b) : mpR9 h (zsetI h' 90 (upd (h'.2.1 90) (T + n) (b n))) T (n + 1) b := by
  obtain ⟨q1, q2, q3, q6⟩ := q
  refine ⟨q1, q2, ?_, ?_⟩
  · intro c h1
    rw [zs_nc h1]
    exact q3 c h1
  · intro i
    rw [zs_at]
    by_cases hi : i = T + n
    · subst hi
      rw [upd_e, if_pos ⟨by omega, by omega⟩, show T + n - T = n by omega]
    · rw [upd_n hi, q6 i]
      by_cases hh : T ≤ i ∧ i < T + n
      · rw [if_pos hh, if_pos ⟨hh.1, by omega⟩]
      · rw [if_neg hh, if_neg (by omega)]
set_option maxRecDepth 100000 in
theorem shs4 : ∀ j, j < 4 → 0 ≤ (shs j).toInt := by decide
set_option maxRecDepth 100000 in
theorem shs4e : (shs 4).toInt < 0 := by decide
set_option maxRecDepth 100000 in
theorem int400 : (400 : Int32).toInt = 400 := by decide
section AP
variable {h h' : zH} {T n : Nat} {b : Nat → Int32} {v : Int32}
set_option maxRecDepth 100000 in
theorem ap_t {j : Nat} (q : apR h h' T n b) (hb : b n = byC v j) (hj : j < 4) (hN : T + n < 400) (a1 : zat h.1 1 = some (.inr (.inl (9, [some (some 2), none, none, none, none, none])))) (a2 : zat h.1 2 = some (.inl (0, 400, []))) : ∃ h'', (∀ (E : zE) f d, zex E (f + 24) d 179 3 [some (.ref 1), some (.int v), some (.int (shs j))] [] h' = zex E f d 179 3 [some (.ref 1), some (.int v), some (.int (shs (j + 1)))] [] h'') ∧ apR h h'' T (n + 1) b := by
  have q5 := q.2.2.2.2.1
  refine ⟨_, fun E f d => ap_3 (E := E) (n := f) (d := d) (h := h') (v := v) (s := shs j) (T := T + n) (shs4 j hj) (by rw [q5, int400]; omega) q5 hN (by rw [q.1]; exact a1) (by rw [q.1]; exact a2), ?_⟩
  have := apR_s q hN
  rw [hb] at this
  exact this
set_option maxRecDepth 100000 in
theorem append_e (q : apR h h' T n b) (hb : ∀ j, j < 4 → b (n + j) = byC v j) (hN : T + n + 4 ≤ 400) (a1 : zat h.1 1 = some (.inr (.inl (9, [some (some 2), none, none, none, none, none])))) (a2 : zat h.1 2 = some (.inl (0, 400, []))) : ∃ h'', (∀ (E : zE) f d, zex E (f + 101) d 179 0 [some (.ref 1), some (.int v), none] [] h' = some (.inl none, h'')) ∧ apR h h'' T (n + 4) b := by
  obtain ⟨h1, e1, q1⟩ := ap_t (j := 0) q (hb 0 (by decide)) (by decide) (by omega) a1 a2
  obtain ⟨h2, e2, q2⟩ := ap_t (j := 1) q1 (hb 1 (by decide)) (by decide) (by omega) a1 a2
  obtain ⟨h3, e3, q3⟩ := ap_t (j := 2) q2 (hb 2 (by decide)) (by decide) (by omega) a1 a2
  obtain ⟨h4, e4, q4⟩ := ap_t (j := 3) q3 (hb 3 (by decide)) (by decide) (by omega) a1 a2
  refine ⟨h4, fun E f d => ?_, q4⟩
  exact (ap_0 (E := E) (n := f + 3 + 24 + 24 + 24 + 24) (d := d) (h := h') (v := v) (u2 := none)).trans ((e1 E (f + 3 + 24 + 24 + 24) d).trans ((e2 E (f + 3 + 24 + 24) d).trans ((e3 E (f + 3 + 24) d).trans ((e4 E (f + 3) d).trans (ap_49 (E := E) (n := f) (d := d) (h := h4) (v := v) shs4e)))))
end AP
section FC
variable {h : zH} {T : Nat} {w0 w1 w2 w3 w4 : Int32}
def fbC (w : Nat → Int32) (i : Nat) : Int32 := byC (w (i / 4)) (i % 4)
def fbM (w : Nat → Int32) (i : Nat) : Int32 := byM (w (i / 4)) (i % 4)
set_option maxRecDepth 100000 in
theorem fbC_q {w : Nat → Int32} (q : Nat) : ∀ j, j < 4 → fbC w (4 * q + j) = byC (w q) j := fun j hj => by
  unfold fbC
  rw [show (4 * q + j) / 4 = q by omega, show (4 * q + j) % 4 = j by omega]
set_option maxRecDepth 100000 in
theorem feedCn (e : (h.2.1 1 1).toInt = (T : Int)) (hT : 380 < T) (hT4 : T ≤ 400) (a0 : zat h.1 0 = some (.inr (.inl (11, [some (some 1), some (some 3), some (some 18), some (some 25), some (some 27), some (some 30), some (some 53), some (some 62), some (some 76), none])))) (a1 : zat h.1 1 = some (.inr (.inl (9, [some (some 2), none, none, none, none, none])))) : ∀ (E : zE) f d, zex E (f + 9) d 39 0 [some (.ref 0), some (.int w0), some (.int w1), some (.int w2), some (.int w3), some (.int w4)] [] h = some (.inl (some (.int (-1))), h) := fun E f d =>
  fe_0n (E := E) (n := f) (d := d) (by rw [i32_add (by rw [e, show (20 : Int32).toInt = 20 from by decide]; omega) (by rw [e, show (20 : Int32).toInt = 20 from by decide]; omega), e, int400, show (20 : Int32).toInt = 20 from by decide]; omega) a0 a1
set_option maxRecDepth 100000 in
theorem feedC (e : (h.2.1 1 1).toInt = (T : Int)) (hT : T ≤ 380) (a0 : zat h.1 0 = some (.inr (.inl (11, [some (some 1), some (some 3), some (some 18), some (some 25), some (some 27), some (some 30), some (some 53), some (some 62), some (some 76), none])))) (a1 : zat h.1 1 = some (.inr (.inl (9, [some (some 2), none, none, none, none, none])))) (a2 : zat h.1 2 = some (.inl (0, 400, []))) : ∃ (x : Int32) (h' : zH), (∀ (E : zE) f d, zex E (f + 1000) (d + 1) 39 0 [some (.ref 0), some (.int w0), some (.int w1), some (.int w2), some (.int w3), some (.int w4)] [] h = some (.inl (some (.int x)), h')) ∧ apR h h' T 20 (fbC (w5 w0 w1 w2 w3 w4)) := by
  have g0 : (h.2.1 1 1 + 20).toInt ≤ (400 : Int32).toInt := by rw [i32_add (by rw [e, show (20 : Int32).toInt = 20 from by decide]; omega) (by rw [e, show (20 : Int32).toInt = 20 from by decide]; omega), e, int400, show (20 : Int32).toInt = 20 from by decide]; omega
  obtain ⟨h1, e1, q1⟩ := append_e (v := w0) (apR_0 (b := fbC (w5 w0 w1 w2 w3 w4)) e) (fun j hj => by have := fbC_q (w := w5 w0 w1 w2 w3 w4) 0 j hj; exact this) (by omega) a1 a2
  obtain ⟨h2, e2, q2⟩ := append_e (v := w1) q1 (fun j hj => by have := fbC_q (w := w5 w0 w1 w2 w3 w4) 1 j hj; exact this) (by omega) a1 a2
  obtain ⟨h3, e3, q3⟩ := append_e (v := w2) q2 (fun j hj => by have := fbC_q (w := w5 w0 w1 w2 w3 w4) 2 j hj; exact this) (by omega) a1 a2
  obtain ⟨h4, e4, q4⟩ := append_e (v := w3) q3 (fun j hj => by have := fbC_q (w := w5 w0 w1 w2 w3 w4) 3 j hj; exact this) (by omega) a1 a2
  obtain ⟨h5, e5, q5⟩ := append_e (v := w4) q4 (fun j hj => by have := fbC_q (w := w5 w0 w1 w2 w3 w4) 4 j hj; exact this) (by omega) a1 a2
  refine ⟨h5.2.1 1 1, h5, fun E f d => ?_, q5⟩
  exact (fe_0 (E := E) (n := f + 993) (d := d + 1) g0 a0 a1).trans (fe_18 (E := E) (n := f + 969) (d := d) (h := h) (h1 := h1) (h2 := h2) (h3 := h3) (h4 := h4) (h5 := h5) a0 a1 (by rw [q1.1]; exact a0) (by rw [q1.1]; exact a1) (by rw [q2.1]; exact a0) (by rw [q2.1]; exact a1) (by rw [q3.1]; exact a0) (by rw [q3.1]; exact a1) (by rw [q4.1]; exact a0) (by rw [q4.1]; exact a1) (by rw [q5.1]; exact a0) (by rw [q5.1]; exact a1) (e1 E (f + 888) d) (e2 E (f + 884) d) (e3 E (f + 880) d) (e4 E (f + 876) d) (e5 E (f + 872) d))
end FC
set_option maxRecDepth 100000 in
theorem m20a : ∀ k, k < 20 → (Int32.ofNat k / 4).toInt = ((k / 4 : Nat) : Int) := by decide +kernel
set_option maxRecDepth 100000 in
theorem m20b : ∀ k, k < 20 → 24 - 8 * (Int32.ofNat k - Int32.ofNat k / 4 * 4) = shs (k % 4) := by decide +kernel
set_option maxRecDepth 100000 in
theorem int20 : (20 : Int32).toInt = 20 := by decide
section FM
variable {h : zH} {T : Nat} {w0 w1 w2 w3 w4 : Int32}
set_option maxRecDepth 100000 in
theorem zs_b {h h0 : zH} {f : Nat → Int32} (e : h.1 = h0.1 ∧ h.2.2 = h0.2.2 ∧ (∀ c, c ≠ 84 → c ≠ 91 → h.2.1 c = h0.2.1 c) ∧ (∀ k, k ≠ 0 → h.2.1 84 k = h0.2.1 84 k) ∧ h.2.1 84 0 = 0) : (zsetI h 91 f).1 = h0.1 ∧ (zsetI h 91 f).2.2 = h0.2.2 ∧ (∀ c, c ≠ 84 → c ≠ 91 → (zsetI h 91 f).2.1 c = h0.2.1 c) ∧ (∀ k, k ≠ 0 → (zsetI h 91 f).2.1 84 k = h0.2.1 84 k) ∧ (zsetI h 91 f).2.1 84 0 = 0 := by
  obtain ⟨e1, e2, e3, e4, e5⟩ := e
  refine ⟨e1, e2, fun c h1 h2 => ?_, fun k hk => ?_, ?_⟩
  · rw [zs_nc h2]; exact e3 c h1 h2
  · rw [zs_ne (by decide)]; exact e4 k hk
  · rw [zs_ne (by decide)]; exact e5
set_option maxRecDepth 100000 in
theorem feedM0 (e : (h.2.1 84 9).toInt = (T : Int)) (hT : T ≤ 380) (a84 : zat h.1 84 = some (.inr (.inl (12, [none, some (some 85), some (some 86), some (some 87), some (some 88), some (some 89), none, none, some (some 90), none, none, none, none, none, none, some (some 91), none, some (some 92), some (some 93)])))) (a91 : zat h.1 91 = some (.inl (0, 5, []))) {u6 : Option Value} : ∃ hB : zH, (∀ (E : zE) f d, zex E (f + 36) d 232 0 [some (.ref 84), some (.int w0), some (.int w1), some (.int w2), some (.int w3), some (.int w4), u6] [] h = zex E f d 232 60 [some (.ref 84), some (.int w0), some (.int w1), some (.int w2), some (.int w3), some (.int w4), some (.int (Int32.ofNat 0))] [] hB) ∧ (hB.1 = h.1 ∧ hB.2.2 = h.2.2 ∧ (∀ c, c ≠ 84 → c ≠ 91 → hB.2.1 c = h.2.1 c) ∧ (∀ k, k ≠ 0 → hB.2.1 84 k = h.2.1 84 k) ∧ hB.2.1 84 0 = 0) ∧ ∀ q, q < 5 → hB.2.1 91 q = w5 w0 w1 w2 w3 w4 q := by
  have g0 : ((zsetI h 84 (upd (h.2.1 84) 0 0)).2.1 84 9 + 20).toInt ≤ (400 : Int32).toInt := by
    rw [zs_at, upd_n (by decide), i32_add (by rw [e, int20]; omega) (by rw [e, int20]; omega), e, int400, int20]
    omega
  refine ⟨_, fun E f d => (mf_0 (E := E) (n := f + 27) (d := d) (u6 := u6) g0 a84).trans (mf_20 (E := E) (n := f) (d := d) (h := zsetI h 84 (upd (h.2.1 84) 0 0)) (u6 := u6) a84 a91), ?_, ?_⟩
  · refine zs_b (zs_b (zs_b (zs_b (zs_b ⟨rfl, rfl, fun c h1 h2 => zs_nc h1, fun k hk => ?_, ?_⟩))))
    · rw [zs_at, upd_n hk]
    · rw [zs_at, upd_e]
  · intro q hq
    match q, hq with
    | 0, _ =>
      rw [zs_at, upd_n (by decide), zs_at, upd_n (by decide), zs_at, upd_n (by decide), zs_at, upd_n (by decide), zs_at, upd_e]
      rfl
    | 1, _ =>
      rw [zs_at, upd_n (by decide), zs_at, upd_n (by decide), zs_at, upd_n (by decide), zs_at, upd_e]
      rfl
    | 2, _ =>
      rw [zs_at, upd_n (by decide), zs_at, upd_n (by decide), zs_at, upd_e]
      rfl
    | 3, _ =>
      rw [zs_at, upd_n (by decide), zs_at, upd_e]
      rfl
    | 4, _ =>
      rw [zs_at, upd_e]
      rfl
set_option maxRecDepth 100000 in
theorem feedM1 {hB : zH} (e : (hB.2.1 84 9).toInt = (T : Int)) (hT : T ≤ 380) (hw : ∀ q, q < 5 → hB.2.1 91 q = w5 w0 w1 w2 w3 w4 q) (a84 : zat hB.1 84 = some (.inr (.inl (12, [none, some (some 85), some (some 86), some (some 87), some (some 88), some (some 89), none, none, some (some 90), none, none, none, none, none, none, some (some 91), none, some (some 92), some (some 93)])))) (a90 : zat hB.1 90 = some (.inl (1, 400, []))) (a91 : zat hB.1 91 = some (.inl (0, 5, []))) : ∀ k, k ≤ 20 → ∃ h' : zH, (∀ (E : zE) f d, zex E (f + 27 * k) d 232 60 [some (.ref 84), some (.int w0), some (.int w1), some (.int w2), some (.int w3), some (.int w4), some (.int (Int32.ofNat 0))] [] hB = zex E f d 232 60 [some (.ref 84), some (.int w0), some (.int w1), some (.int w2), some (.int w3), some (.int w4), some (.int (Int32.ofNat k))] [] h') ∧ mpR9 hB h' T k (fbM (w5 w0 w1 w2 w3 w4)) := by
  intro k
  induction k with
  | zero => exact fun _ => ⟨hB, fun E f d => rfl, mpR9_0⟩
  | succ k IH =>
    intro hk
    obtain ⟨h', e1, q⟩ := IH (by omega)
    have key : ∀ (E : zE) f d, zex E (f + 27) d 232 60 [some (.ref 84), some (.int w0), some (.int w1), some (.int w2), some (.int w3), some (.int w4), some (.int (Int32.ofNat k))] [] h' = zex E f d 232 60 [some (.ref 84), some (.int w0), some (.int w1), some (.int w2), some (.int w3), some (.int w4), some (.int (Int32.ofNat (k + 1)))] [] (zsetI h' 90 (upd (h'.2.1 90) (T + k) (fbM (w5 w0 w1 w2 w3 w4) k))) := by
      intro E f d
      have := mf_60 (E := E) (n := f) (d := d) (h := h') (w0 := w0) (w1 := w1) (w2 := w2) (w3 := w3) (w4 := w4) (k := Int32.ofNat k) (w := w5 w0 w1 w2 w3 w4 (k / 4)) (Q := k / 4) (I := T + k) (by rw [zof9 (by omega), int20]; omega) (m20a k (by omega)) (by omega) (by rw [q.2.2.1 91 (by decide)]; exact hw _ (by omega)) (baddk (by rw [q.2.2.1 84 (by decide)]; exact e) (by omega) (by omega)) (by omega) (by rw [q.1]; exact a84) (by rw [q.1]; exact a90) (by rw [q.1]; exact a91)
      rw [zsuc9, m20b k (by omega)] at this
      exact this
    refine ⟨_, fun E f d => ?_, mpR9_s q⟩
    rw [show f + 27 * (k + 1) = f + 27 + 27 * k by omega, e1 E (f + 27) d]
    exact key E f d
set_option maxRecDepth 100000 in
theorem feedMn (e : (h.2.1 84 9).toInt = (T : Int)) (hT : 380 < T) (hT4 : T ≤ 400) (a84 : zat h.1 84 = some (.inr (.inl (12, [none, some (some 85), some (some 86), some (some 87), some (some 88), some (some 89), none, none, some (some 90), none, none, none, none, none, none, some (some 91), none, some (some 92), some (some 93)])))) {u6 : Option Value} : ∀ (E : zE) f d, zex E (f + 11) d 232 0 [some (.ref 84), some (.int w0), some (.int w1), some (.int w2), some (.int w3), some (.int w4), u6] [] h = some (.inl (some (.int (-1))), zsetI h 84 (upd (h.2.1 84) 0 0)) := fun E f d =>
  mf_0n (E := E) (n := f) (d := d) (u6 := u6) (by
    rw [zs_at, upd_n (by decide), i32_add (by rw [e, int20]; omega) (by rw [e, int20]; omega), e, int400, int20]
    omega) a84
set_option maxRecDepth 100000 in
theorem feedM (e : (h.2.1 84 9).toInt = (T : Int)) (hT : T ≤ 380) (a84 : zat h.1 84 = some (.inr (.inl (12, [none, some (some 85), some (some 86), some (some 87), some (some 88), some (some 89), none, none, some (some 90), none, none, none, none, none, none, some (some 91), none, some (some 92), some (some 93)])))) (a90 : zat h.1 90 = some (.inl (1, 400, []))) (a91 : zat h.1 91 = some (.inl (0, 5, []))) {u6 : Option Value} : ∃ (x : Int32) (h' : zH), (∀ (E : zE) f d, zex E (f + 1000) d 232 0 [some (.ref 84), some (.int w0), some (.int w1), some (.int w2), some (.int w3), some (.int w4), u6] [] h = some (.inl (some (.int x)), h')) ∧
    h'.1 = h.1 ∧ h'.2.2 = h.2.2 ∧ (∀ c, c ≠ 84 → c ≠ 90 → c ≠ 91 → h'.2.1 c = h.2.1 c) ∧ (∀ k, k ≠ 0 → k ≠ 9 → h'.2.1 84 k = h.2.1 84 k) ∧ (h'.2.1 84 0).toInt = 0 ∧ (h'.2.1 84 9).toInt = ((T + 20 : Nat) : Int) ∧ ∀ i, h'.2.1 90 i = if T ≤ i ∧ i < T + 20 then fbM (w5 w0 w1 w2 w3 w4) (i - T) else h.2.1 90 i := by
  obtain ⟨hB, e1, ⟨b1, b2, b3, b4, b5⟩, b6⟩ := feedM0 (w0 := w0) (w1 := w1) (w2 := w2) (w3 := w3) (w4 := w4) (u6 := u6) e hT a84 a91
  have e9 : (hB.2.1 84 9).toInt = (T : Int) := by rw [b4 9 (by decide)]; exact e
  obtain ⟨h1, e2, q1, q2, q3, q4⟩ := feedM1 (w0 := w0) (w1 := w1) (w2 := w2) (w3 := w3) (w4 := w4) e9 hT b6 (by rw [b1]; exact a84) (by rw [b1]; exact a90) (by rw [b1]; exact a91) 20 (Nat.le_refl 20)
  have z9 : (h1.2.1 84 9).toInt = (T : Int) := by rw [q3 84 (by decide)]; exact e9
  refine ⟨(zsetI h1 84 (upd (h1.2.1 84) 9 (h1.2.1 84 9 + 20))).2.1 84 9, zsetI h1 84 (upd (h1.2.1 84) 9 (h1.2.1 84 9 + 20)), fun E f d => ?_, by show h1.1 = h.1; rw [q1, b1], by show h1.2.2 = h.2.2; rw [q2, b2], fun c h5 h6 h7 => ?_, fun k h5 h6 => ?_, ?_, ?_, fun i => ?_⟩
  · exact (e1 E (f + 964) d).trans ((e2 E (f + 424) d).trans (mf_106 (E := E) (n := f + 412) (d := d) (h := h1) (w0 := w0) (w1 := w1) (w2 := w2) (w3 := w3) (w4 := w4) (k := Int32.ofNat 20) (by rw [zof9 (by omega), int20]; omega) (by rw [q1, b1]; exact a84)))
  · rw [zs_nc h5, q3 c h6, b3 c h5 h7]
  · rw [zs_at, upd_n h6, q3 84 (by decide), b4 k h5]
  · rw [zs_at, upd_n (by decide), q3 84 (by decide), b5]
    decide
  · rw [zs_at, upd_e, i32_add (by rw [z9, int20]; omega) (by rw [z9, int20]; omega), z9, int20]
    omega
  · rw [zs_ne (by decide), q4 i]
    by_cases hh : T ≤ i ∧ i < T + 20
    · rw [if_pos hh, if_pos hh]
    · rw [if_neg hh, if_neg hh, b3 90 (by decide) (by decide)]
end FM
/-! the same byte on both sides -/
set_option maxRecDepth 100000 in
theorem by_and (x : Int32) : (x &&& 255).toInt = x.toInt % 256 := by
  have h3 : (x &&& 255).toBitVec.toNat = x.toBitVec.toNat % 256 := by
    rw [Int32.toBitVec_and, BitVec.toNat_and]
    exact Nat.and_two_pow_sub_one_eq_mod _ 8
  have h4 := btn2 (x := x &&& 255) (by omega)
  have h5 : x.toInt = x.toBitVec.toInt := rfl
  rw [h4, h3, h5, BitVec.toInt_eq_toNat_cond]
  have h2 := x.toBitVec.isLt
  split <;> omega
set_option maxRecDepth 100000 in
theorem by_i8 (x : Int32) : x.toInt8.toInt32.toInt = x.toInt.bmod (2 ^ 8) := by rw [Int8.toInt_toInt32, Int32.toInt_toInt8]
set_option maxRecDepth 100000 in
theorem bm8 (x : Int) : x.bmod (2 ^ 8) = if x % 256 < 128 then x % 256 else x % 256 - 256 := by
  rw [Int.bmod_def]
  split <;> split <;> omega
/-- the model's byte of the class's -/
def sg8 (x : Int) : Int := if x < 128 then x else x - 256
set_option maxRecDepth 100000 in
theorem by_eq (w : Int32) (j : Nat) : (byM w j).toInt = sg8 (byC w j).toInt ∧ 0 ≤ (byC w j).toInt ∧ (byC w j).toInt ≤ 255 := by
  unfold byM byC
  rw [by_i8, by_i8, by_and]
  generalize (w >>> (shs j &&& 31)).toInt = x
  unfold sg8
  refine ⟨?_, by omega, by omega⟩
  have b1 := bm8 x
  have b2 := bm8 (x.bmod (2 ^ 8))
  split at b1 <;> split at b2 <;> split <;> omega
