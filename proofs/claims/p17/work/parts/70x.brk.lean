/-! the class's negation and bracket -/
section QA
variable {E : zE} {B F : Nat} {h0 : zH} {L : Nat}
set_option maxRecDepth 100000 in
theorem q_env {s : Nat} {y a b c g : Int} {ey ea eb ec eg ek : Int × Int} (hL4 : L ≤ 400) (hs : s ≤ L) (hc : sk isBl (tp2 h0) L s = s) (hy : ey.1 ≤ y ∧ y ≤ ey.2) (ha : ea.1 ≤ a ∧ a ≤ ea.2) (hb : eb.1 ≤ b ∧ b ≤ eb.2) (hcc : ec.1 ≤ c ∧ c ≤ ec.2) (hg : eg.1 ≤ g ∧ g ≤ eg.2) (hk : ek.1 ≤ (kK (tp2 h0) L s : Int) ∧ (kK (tp2 h0) L s : Int) ≤ ek.2) : benv (k9 L s (kE (tp2 h0) L s) (kV (tp2 h0) L s) y a b c g (kK (tp2 h0) L s)) (qE ag_MX ey ea eb ec eg ek) := by
  have he := kE_b hs hc
  exact benv_c (by omega) (by omega) (benv_c (by omega) (by omega) (benv_c (by omega) (by omega) (benv_c kV_bb.1 kV_bb.2 (benv_c hy.1 hy.2 (benv_c ha.1 ha.2 (benv_c hb.1 hb.2 (benv_c hcc.1 hcc.2 (benv_c hg.1 hg.2 (benv_c hk.1 hk.2 benv_n)))))))))
set_option maxRecDepth 100000 in
theorem q_k3 (s : Nat) : qk3.1 ≤ (kK (tp2 h0) L s : Int) ∧ (kK (tp2 h0) L s : Int) ≤ qk3.2 := ⟨by show (0 : Int) ≤ _; omega, by have := kK_b (tp2 h0) L s; show _ ≤ (3 : Int); omega⟩
set_option maxRecDepth 100000 in
theorem q_0 : qz.1 ≤ (0 : Int) ∧ (0 : Int) ≤ qz.2 := ⟨by decide, by decide⟩
set_option maxRecDepth 100000 in
theorem q_lt {s : Nat} (h : kK (tp2 h0) L s ≠ 0) : s < L := by
  by_cases h9 : L ≤ s
  · exact absurd ((kK_0 (T := tp2 h0)).mpr h9) h
  · omega
set_option maxRecDepth 100000 in
theorem q_y (hb9 : ∀ i, 0 ≤ tp2 h0 i ∧ tp2 h0 i ≤ 255) (s : Nat) : kY.1 ≤ tp2 h0 s ∧ tp2 h0 s ≤ kY.2 := hb9 s
set_option maxRecDepth 100000 in
theorem q_i {lo hi x : Int} (a : lo ≤ x) (b : x ≤ hi) : (lo, hi).1 ≤ x ∧ x ≤ (lo, hi).2 := ⟨a, b⟩
set_option maxRecDepth 100000 in
theorem q_ha {h : zH} (hr : bRQ ctb wC h0 0 0 h) : zat h.1 1 = some (.inr (.inl (9, [some (some 2), none, none, none, none, none]))) := hr.2.2.1 1 _ cs1 (by intro z; cases z)
set_option maxRecDepth 100000 in
theorem q_hb {h : zH} (hr : bRQ ctb wC h0 0 0 h) : zat h.1 76 = some (.inr (.inl (6, [some (some 77), none]))) := hr.2.2.1 76 _ cs76 (by intro z; cases z)
set_option maxRecDepth 100000 in
theorem q_3 {V : List Int} {a : Int} (ha : zat V 5 = some a) {xd : Int32} (hx : xd.toInt = a) : bLR V qA3 [some (.ref 76), some (.ref 1), some (.int xd)] := ⟨⟨_, rfl, rfl⟩, ⟨_, rfl, rfl⟩, ⟨_, rfl, xd, rfl, by rw [hx]; exact brel_v ha⟩, trivial⟩
set_option maxRecDepth 100000 in
theorem q_3s {V : List Int} {a : Int} (ha : zat V 5 = some a) {ls : zLs} (h : bLR V qA3 ls) : ∃ x : Int32, ls = [some (.ref 76), some (.ref 1), some (.int x)] ∧ x.toInt = a := by
  obtain ⟨l1, e1, k1⟩ := bls_r h
  obtain ⟨l2, e2, k2⟩ := bls_r k1
  obtain ⟨x2, l3, e3, g3, k3⟩ := bls_i k2
  exact ⟨x2, by rw [e1, e2, e3, bls_0 k3], brel_f g3 (brel_v ha)⟩
set_option maxRecDepth 100000 in
theorem q_c {V : List Int} {x : Int32} {c : Int} (hx : x.toInt = c) : bKR V (qc c) [.int x] := ⟨⟨x, rfl, by rw [hx]; exact brel_c V c⟩, trivial⟩
set_option maxRecDepth 100000 in
theorem i32_1 {x : Int32} (h : x.toInt = 1) : x = 1 := Int32.toInt_inj.mp (by rw [h]; rfl)
set_option maxRecDepth 100000 in
theorem i32_0 {x : Int32} (h : x.toInt = 0) : x = 0 := Int32.toInt_inj.mp (by rw [h]; rfl)
set_option maxRecDepth 100000 in
theorem cv_01 {h0 h' : zH} {L : Nat} {x : Int32} {o : Nat ⊕ Nat} (k : match o with
  | .inr w => x.toInt = 0 ∧ (h'.2.1 76 1).toInt = (w : Int)
  | .inl e => x.toInt = 1 ∧ CT h' (tp2 h0) L e) : x = 0 ∨ x = 1 := by
  cases o with
  | inr w => exact Or.inl (i32_0 k.1)
  | inl e => exact Or.inr (i32_1 k.1)
set_option maxRecDepth 100000 in
theorem q_neg (hE : E.1 < 2147483648) (hsm : bSO E ctb B (60, smT)) (hF : 1000000 ≤ F) (hL4 : L ≤ 400) {h : zH} (hr : bRQ ctb wC h0 0 0 h) {o : Nat ⊕ Nat} (hg : ∀ e, o = .inl e → e ≤ L ∧ sk isBl (tp2 h0) L e = e) {xd : Int32} {a : Nat} (hx : xd.toInt = (a : Int)) (ha : a ≤ 6) {d m : Nat} (hd : 62 ≤ d + 1) (hm : B + F ≤ m) (hq : cvQ h0 L o (zex E m d 161 0 [some (.ref 76), some (.ref 1), some (.int xd), none, none] [] h)) :
    cvQ h0 L o (zex E (m + 4) (d + 1) 162 0 [some (.ref 76), some (.ref 1), some (.int xd)] [] h) := by
  obtain ⟨x, h1, e1, k1, k2⟩ := hq
  rw [ck_0 (q_hb hr) e1]
  cases o with
  | inr w =>
    obtain ⟨k2, k3⟩ := k2
    rw [i32_0 k2]
    obtain ⟨n, hn⟩ : ∃ n, m = n + 3 := ⟨m - 3, by omega⟩
    rw [hn, ck_6]
    exact ⟨0, h1, rfl, k1, rfl, k3⟩
  | inl e =>
    obtain ⟨k2, k3⟩ := k2
    obtain ⟨g1, g2⟩ := hg e rfl
    exact q_fin1 hE hsm k1 k3 (q_env (ey := kY) (ea := (0, 6)) (eb := qz) (ec := qz) (eg := qz) (ek := qk3) (y := 0) (a := (a : Int)) (b := 0) (c := 0) (g := 0) hL4 g1 g2 ⟨by decide, by decide⟩ (q_i (by omega) (by omega)) q_0 q_0 q_0 (q_k3 e)) bcs_n (k_ov k3) (q_3 rfl hx) (q_c k2) pk_6 (d + 1) m hd (by omega)
set_option maxRecDepth 100000 in
theorem q_brk (hE : E.1 < 2147483648) (hsm : bSO E ctb B (60, smT)) (hb9 : ∀ i, 0 ≤ tp2 h0 i ∧ tp2 h0 i ≤ 255) (hF : 1000000 ≤ F) (hL4 : L ≤ 400) {h : zH} (hr : bRQ ctb wC h0 0 0 h) {o : Nat ⊕ Nat} (hg : ∀ e, o = .inl e → e ≤ L ∧ sk isBl (tp2 h0) L e = e) {xd : Int32} {a : Nat} (hx : xd.toInt = (a : Int)) (ha : a ≤ 6) {d m : Nat} (hd : 62 ≤ d + 1) (hm : B + F * 1000 ≤ m) (hq : cvQ h0 L o (zex E m d 160 0 [some (.ref 76), some (.ref 1), some (.int xd), none, none, none] [] h)) :
    cvQ h0 L (brq (tp2 h0) L o) (zex E (m + 4) (d + 1) 163 0 [some (.ref 76), some (.ref 1), some (.int xd)] [] h) := by
  obtain ⟨x, h1, e1, k1, k2⟩ := hq
  rw [cb_0 (q_hb hr) e1]
  cases o with
  | inr w =>
    obtain ⟨k2, k3⟩ := k2
    rw [i32_0 k2]
    obtain ⟨n, hn⟩ : ∃ n, m = n + 3 := ⟨m - 3, by omega⟩
    rw [hn, cb_6]
    exact ⟨0, h1, rfl, k1, rfl, k3⟩
  | inl e =>
    obtain ⟨k2, k3⟩ := k2
    obtain ⟨g1, g2⟩ := hg e rfl
    have ha6 : ((0, 6) : Int × Int).1 ≤ (a : Int) ∧ (a : Int) ≤ ((0, 6) : Int × Int).2 := q_i (by omega) (by omega)
    have hy9 := hb9 e
    show cvQ h0 L (if sqs (tp2 h0) L e 41 = true then .inl (nxt (tp2 h0) L e) else .inr e) _
    by_cases h4 : sqs (tp2 h0) L e 41 = true
    · rw [if_pos h4]
      obtain ⟨s1, s2⟩ := sqs_K3.mp h4
      refine q_one hE hsm k1 k3 (q_env (ey := (41, 41)) (ea := (0, 6)) (eb := qz) (ec := qz) (eg := qz) (ek := (3, 3)) (y := tp2 h0 e) (a := (a : Int)) (b := 0) (c := 0) (g := 0) hL4 g1 g2 (q_i (by omega) (by omega)) ha6 q_0 q_0 q_0 (q_i (by omega) (by omega))) (bcs_lt (q_lt (h0 := h0) (by omega))) (bov_app (k_ov k3) (k_ob k1)) (q_3 rfl hx) (q_c k2) pb_6a rfl (B' := B + F * 999) (Nat.le_add_right _ _) ?_ (d + 1) m hd (by omega)
      intro ls' h2 j1 j2 j3 d f hd hf
      obtain ⟨z, z1, z2⟩ := q_3s rfl j1
      rw [z1]
      obtain ⟨n, hn⟩ : ∃ n, f = n + 4 := ⟨f - 4, by omega⟩
      obtain ⟨d', hd'⟩ : ∃ d', d = d' + 1 := ⟨d - 1, by omega⟩
      subst hd'
      obtain ⟨h3, e3, t1, t2⟩ := cadv hE hsm hb9 hF hL4 g1 g2 j2 j3 d' (n + 2) (by omega) (by omega)
      rw [hn, cb_29 (q_ha j2) e3]
      exact ⟨1, h3, rfl, t1, rfl, t2⟩
    · rw [if_neg h4]
      have h4n : ¬ (kK (tp2 h0) L e = 3 ∧ tp2 h0 e = 41) := fun z => h4 (sqs_K3.mpr z)
      by_cases hk2 : kK (tp2 h0) L e ≤ 2
      · exact q_fin0 hE hsm k1 k3 (q_env (ey := kY) (ea := (0, 6)) (eb := qz) (ec := qz) (eg := qz) (ek := (0, 2)) (y := 0) (a := (a : Int)) (b := 0) (c := 0) (g := 0) hL4 g1 g2 ⟨by decide, by decide⟩ ha6 q_0 q_0 q_0 (q_i (by omega) (by omega))) bcs_n (k_ov k3) (q_3 rfl hx) (q_c k2) pb_6b (d + 1) m hd (by omega)
      · have hk3 := kK_b (tp2 h0) L e
        have hk33 : ((3, 3) : Int × Int).1 ≤ (kK (tp2 h0) L e : Int) ∧ (kK (tp2 h0) L e : Int) ≤ ((3, 3) : Int × Int).2 := q_i (by omega) (by omega)
        by_cases hlo : tp2 h0 e ≤ 40
        · exact q_fin0 hE hsm k1 k3 (q_env (ey := (0, 40)) (ea := (0, 6)) (eb := qz) (ec := qz) (eg := qz) (ek := (3, 3)) (y := tp2 h0 e) (a := (a : Int)) (b := 0) (c := 0) (g := 0) hL4 g1 g2 (q_i hy9.1 hlo) ha6 q_0 q_0 q_0 hk33) (bcs_lt (q_lt (h0 := h0) (by omega))) (bov_app (k_ov k3) (k_ob k1)) (q_3 rfl hx) (q_c k2) pb_6c (d + 1) m hd (by omega)
        · exact q_fin0 hE hsm k1 k3 (q_env (ey := (42, 255)) (ea := (0, 6)) (eb := qz) (ec := qz) (eg := qz) (ek := (3, 3)) (y := tp2 h0 e) (a := (a : Int)) (b := 0) (c := 0) (g := 0) hL4 g1 g2 (q_i (by omega) hy9.2) ha6 q_0 q_0 q_0 hk33) (bcs_lt (q_lt (h0 := h0) (by omega))) (bov_app (k_ov k3) (k_ob k1)) (q_3 rfl hx) (q_c k2) pb_6d (d + 1) m hd (by omega)
end QA
