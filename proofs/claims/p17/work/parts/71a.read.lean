/-! the class's reader of THE LAW: from its begin to its answer -/
def rdQ (h0 : zH) (r : Nat ⊕ Nat) (o : Option zR) : Prop := ∃ (x : Int32) (h' : zH), o = some (.inl (some (.int x)), h') ∧ bRQ ctb wD h0 0 0 h' ∧ (match r with
  | .inl n => x.toInt = -1 ∧ (h'.2.1 77 0).toInt = (n : Int)
  | .inr w => x.toInt = (w : Int))
def kL12 : Int × Int := (0, 12)
def rE0 : bE := qE qz qz qz qz qz qz qz
set_option maxRecDepth 100000 in
theorem pg_0 : btzk wC (60, smT) ctb ag_no9 62 180 1000000 10 [(5, [q1], rE0, [], [(1, 1, mv 0), (1, 4, (0, []))], (0, []), (0, []), (0, []))] (10, rE0, [], [(1, (1, []), mv 0)], (0, []), (0, [])) 0 [q1] [] = true := by decide +kernel
set_option maxRecDepth 100000 in
theorem pr_0 : btzk wD (60, smT) ctb ag_no9 83 157 1000000 10 [(12, qA2 none, rE0, [], [(1, 1, mv 0), (77, 0, (0, []))], (0, []), (0, []), (0, []))] (10, rE0, [], [(1, (1, []), mv 0)], (0, []), (0, [])) 0 (qA2 none) [] = true := by decide +kernel
set_option maxRecDepth 100000 in
theorem pr_16a : rY 157 16 (qA2 none) [] (qE ag_MX kY qz qz qz kL12 qz) [] rO (-1, []) (mv 8) = true := by decide +kernel
set_option maxRecDepth 100000 in
theorem pr_16b : rG 83 157 16 (qA2 none) [] (qE ag_MX kY qz qz qz kL12 (1, 3)) [] rO 27 (qA2 (kcc 0)) (mv 8) = true := by decide +kernel
set_option maxRecDepth 100000 in
theorem pr_27a : rG 83 157 27 (qA2 (kvv 5)) [] (qE ag_MX kY kLn qz qz kL12 qk3) [] rO 33 (qA2 (kvv 5)) (mv 8) = true := by decide +kernel
set_option maxRecDepth 100000 in
theorem pr_27b : rY 157 27 (qA2 (kvv 5)) [] (qE ag_MX kY (12, 12) qz qz kL12 qk3) [] rO (mv 1) (mv 8) = true := by decide +kernel
set_option maxRecDepth 100000 in
theorem pr_38 : btzk wD (60, smT) ctb (bfn 0 0 10 (bidl 10 0) [([], [], some (.inl (mv 7)), [])]) 62 157 1000000 10 [] (10, qE qz qz qz qz (-2147483648, 2147483647) qz qz, [], [(76, (1, []), mv 7)], (0, []), (0, [])) 38 (qA2 none) (qc 0) = true := by decide +kernel
set_option maxRecDepth 100000 in
theorem pr_38a : rY 157 38 (qA2 (kvv 5)) (qc 1) (qE ag_MX kY kLn qz qz kL12 qz) [] rO (-1, []) (mv 8) = true := by decide +kernel
set_option maxRecDepth 100000 in
theorem pr_38b : rG 83 157 38 (qA2 (kvv 5)) (qc 1) (qE ag_MX (59, 59) kLn qz qz kL12 (3, 3)) qlt (rO ++ kB) 69 (qA2 (kvv 5)) (mv 8) = true := by decide +kernel
set_option maxRecDepth 100000 in
theorem pr_38c : rY 157 38 (qA2 (kvv 5)) (qc 1) (qE ag_MX kY kLn qz qz kL12 (1, 2)) [] rO (mv 1) (mv 8) = true := by decide +kernel
set_option maxRecDepth 100000 in
theorem pr_38d : rY 157 38 (qA2 (kvv 5)) (qc 1) (qE ag_MX (0, 58) kLn qz qz kL12 (3, 3)) qlt (rO ++ kB) (mv 1) (mv 8) = true := by decide +kernel
set_option maxRecDepth 100000 in
theorem pr_38e : rY 157 38 (qA2 (kvv 5)) (qc 1) (qE ag_MX (60, 255) kLn qz qz kL12 (3, 3)) qlt (rO ++ kB) (mv 1) (mv 8) = true := by decide +kernel
set_option maxRecDepth 100000 in
theorem pr_73 : rG 83 157 73 (qA2 (kvv 5)) [] (qE ag_MX kY kLn qz qz kL12 qk3) [] rO 27 (qA2 (some (.inl (1, [(5, 1)])))) (mv 8) = true := by decide +kernel
section RD
variable {E : zE} {B F G H : Nat} {h0 : zH} {L : Nat}
set_option maxRecDepth 100000 in
theorem r_ob {h : zH} {s e k : Nat} {v a b c g : Int} (hT : tp2 h = tp2 h0) : bOV E (k9 L s e v (tp2 h0 s) a b c g k) kB h :=
  bov_c (k := s) rfl rfl (by rw [bvx_v]; rfl) rfl (by unfold mv; rw [bvx_v]; show _ = tp2 h0 s; rw [← hT]; rfl) bov_n
set_option maxRecDepth 100000 in
theorem beginE (hE : E.1 < 2147483648) (hsm : bSO E ctb B (60, smT)) {h : zH} (hb9 : ∀ i, 0 ≤ tp2 h i ∧ tp2 h i ≤ 255) (hF : 1000000 ≤ F) (hL4 : L ≤ 400) (hI : bHI h) (hP : bPS h) (hT : bTB ctb h.1) (p1 : (h.2.1 1 1).toInt = (L : Int)) :
    ∀ d f, 62 ≤ d → B + F * 1000 ≤ f → ∃ h', zex E f d 180 0 [some (.ref 1)] [] h = some (.inl none, h') ∧ bRQ ctb wC h 0 0 h' ∧ CT h' (tp2 h) L (sk isBl (tp2 h) L 0) := by
  intro d f hd hf
  have hr : bRQ ctb wC h 0 0 h := ⟨hI, hP, hT, fun _ _ _ => rfl, Nat.le_refl _, Nat.le_refl _⟩
  refine segk (Q := fun o => ∃ h', o = some (.inl none, h') ∧ bRQ ctb wC h 0 0 h' ∧ CT h' (tp2 h) L (sk isBl (tp2 h) L 0)) (V := k9 L 0 0 0 0 0 0 0 0 0) (ca := 0) (sa := 0) (nv := 10) hE hsm (fun V S v w h _ _ _ z => nomatch (show false = true from z)) hr (benv_c (by omega) (by omega) (benv_c (by omega) (by omega) (benv_c (by omega) (by omega) (benv_c q_0.1 q_0.2 (benv_c q_0.1 q_0.2 (benv_c q_0.1 q_0.2 (benv_c q_0.1 q_0.2 (benv_c q_0.1 q_0.2 (benv_c q_0.1 q_0.2 (benv_c q_0.1 q_0.2 benv_n)))))))))) rfl bcs_n (bov_c (k := 1) rfl rfl rfl rfl (by unfold mv; rw [bvx_v]; exact p1) bov_n) (show bLR _ [q1] [some (.ref 1)] from ⟨⟨_, rfl, rfl⟩, trivial⟩) (ak := []) (st := []) trivial pg_0 (B' := B + F * 999) (Nat.le_add_right _ _) ?_ ?_ d f hd (by omega)
  · intro N hN
    cases hN with
    | head => exact ⟨rfl, rfl, rfl⟩
    | tail _ hN => exact absurd hN List.not_mem_nil
  · intro N hN ls' h1 k1 k2 k3 d f hd hf
    cases hN with
    | tail _ hN => exact absurd hN List.not_mem_nil
    | head =>
      obtain ⟨l1, e1, l2⟩ := bls_r k1
      have q1 := bpv_x k3 (c := 1) (k := 1) rfl (List.Mem.head _)
      have q4 := bpv_x k3 (c := 1) (k := 4) rfl (List.Mem.tail _ (List.Mem.head _))
      unfold mv at q1
      rw [bvx_v] at q1
      rw [bvx_k] at q4
      have hT1 : tp2 h1 = tp2 h := tp2_e fun i => wC_2 k2 i
      obtain ⟨n, hn⟩ : ∃ n, f = n + 3 := ⟨f - 3, by omega⟩
      obtain ⟨d', hd'⟩ : ∃ d', d = d' + 1 := ⟨d - 1, by omega⟩
      subst hd'
      obtain ⟨h2, a1, a2, a3, a4, a5, a6, a7⟩ := adv (h := h1) hE hsm (by rw [hT1]; exact hb9) hF hL4 (q := 0) (Nat.zero_le _) k2.1 k2.2.1 k2.2.2.1 q1 q4 d' (n + 1) (by omega) (by omega)
      rw [hT1] at a4 a5 a6 a7
      exact ⟨h2, by rw [e1, bls_0 l2, hn]; exact cg_5 (q_ha k2) a1, bRQ_tr k2 a2, a3, a4, a5, a6, a7⟩
set_option maxRecDepth 100000 in
theorem rd_27 (hE : E.1 < 2147483648) (hsm : bSO E ctb B (60, smT)) (hb9 : ∀ i, 0 ≤ tp2 h0 i ∧ tp2 h0 i ≤ 255) (hF : 1000000 ≤ F) (hG : F * 2000 ≤ G) (hH : F * 9000 + G * 403 ≤ H) (hL4 : L ≤ 400) : ∀ (k i s : Nat) (xi : Int32) (h : zH), k + i = 12 → s ≤ L → sk isBl (tp2 h0) L s = s → xi.toInt = (i : Int) → bRQ ctb wD h0 0 0 h → CT h (tp2 h0) L s → (h.2.1 77 0).toInt = (i : Int) →
    ∀ d f, 83 ≤ d → B + (H * 1001 + F * 20000) * (k + 1) ≤ f → rdQ h0 (lsq (tp2 h0) L k i s) (zex E f d 157 27 [some (.ref 76), some (.ref 1), some (.int xi)] [] h) := by
  intro k
  induction k with
  | zero =>
    intro i s xi h hki hs hc hx hr ht hg d f hd hf
    have he := kE_b hs hc
    obtain ⟨x, h', x1, x2, x3, x4, x5⟩ := r_fin hE hsm hr (q_env (ey := kY) (ea := (12, 12)) (eb := qz) (ec := qz) (eg := kL12) (ek := qk3) (y := 0) (a := (i : Int)) (b := 0) (c := 0) (g := (i : Int)) hL4 hs hc ⟨by decide, by decide⟩ (q_i (by omega) (by omega)) q_0 q_0 (q_i (by omega) (by omega)) (q_k3 s)) bcs_n (r_ov ht hg) (q_2m (brel_v rfl) hx) (ak := []) (st := []) trivial pr_27b d f (by omega) (by omega)
    refine ⟨x, h', x1, x3, ?_⟩
    unfold mv at x2
    rw [bvx_v] at x2
    exact x2
  | succ k IH =>
    intro i s xi h hki hs hc hx hr ht hg d f hd hf
    have hmul : (H * 1001 + F * 20000) * (k + 1 + 1) = (H * 1001 + F * 20000) * (k + 1) + (H * 1001 + F * 20000) := Nat.mul_succ _ _
    have hI : kLn.1 ≤ (i : Int) ∧ (i : Int) ≤ kLn.2 := q_i (by omega) (by omega)
    have hI2 : kL12.1 ≤ (i : Int) ∧ (i : Int) ≤ kL12.2 := q_i (by omega) (by omega)
    have hI3 : kL12.1 ≤ ((i + 1 : Nat) : Int) ∧ ((i + 1 : Nat) : Int) ≤ kL12.2 := q_i (by omega) (by omega)
    refine r_one hE hsm hr (q_env (ey := kY) (ea := kLn) (eb := qz) (ec := qz) (eg := kL12) (ek := qk3) (y := 0) (a := (i : Int)) (b := 0) (c := 0) (g := (i : Int)) hL4 hs hc ⟨by decide, by decide⟩ hI q_0 q_0 hI2 (q_k3 s)) bcs_n (r_ov ht hg) (q_2m (brel_v rfl) hx) (ak := []) (st := []) trivial pr_27a rfl (B' := B + (H * 1001 + F * 20000) * (k + 1) + H * 1001 + F * 19000) (by omega) (fun ls1 h1 i1 i2 i3 i4 d1 f1 hd1 hf1 => ?_) d f (by omega) (by omega)
    obtain ⟨xj, e1, e2⟩ := q_2i i1
    unfold mv at e2 i4
    rw [bvx_v] at e2 i4
    have e2 : xj.toInt = (i : Int) := e2
    have i4 : (h1.2.1 77 0).toInt = (i : Int) := i4
    have hT1 : tp2 h1 = tp2 h0 := wD_2 i2
    obtain ⟨m, hm⟩ : ∃ m, f1 = m + 3 := ⟨f1 - 3, by omega⟩
    obtain ⟨d', hd'⟩ : ∃ d', d1 = d' + 1 := ⟨d1 - 1, by omega⟩
    subst hd'
    obtain ⟨x, h2, a1, a2, a3⟩ := linE (h0 := h1) hE hsm (by rw [hT1]; exact hb9) hF hG hH hL4 hs (by rw [hT1]; exact hc) (bRQ_r i2) (by rw [hT1]; exact i3) (by rw [i4]; omega) d' m (by omega) (by omega)
    rw [hT1] at a3
    have a4 := bRQ_tr i2 a2
    have ha4 : zat h1.1 76 = some (.inr (.inl (6, [some (some 77), none]))) := i2.2.2.1 76 _ cs76 (by intro z; cases z)
    rw [hm, e1, cr_33 ha4 a1]
    show rdQ h0 (match lnq (tp2 h0) L s with
      | .inr w => Sum.inr w
      | .inl e => if L ≤ e then Sum.inl (i + 1) else if sqs (tp2 h0) L e 59 = true then lsq (tp2 h0) L k (i + 1) (nxt (tp2 h0) L e) else .inr e) _
    cases hl : lnq (tp2 h0) L s with
    | inr w =>
      rw [hl] at a3
      obtain ⟨a5, a6⟩ := a3
      have hw := bi32 (h2.2.1 76 1)
      refine segk (Q := rdQ h0 (.inr w)) (V := k9 0 0 0 0 0 0 0 (w : Int) 0 0) (ca := 0) (sa := 0) (nv := 10) hE hsm (fin_n (V := k9 0 0 0 0 0 0 0 (w : Int) 0 0) (ca := 0) (sa := 0) rfl (fun u h' k1 k2 k3 => ?_)) a4 (benv_c (by omega) (by omega) (benv_c (by omega) (by omega) (benv_c (by omega) (by omega) (benv_c q_0.1 q_0.2 (benv_c q_0.1 q_0.2 (benv_c q_0.1 q_0.2 (benv_c q_0.1 q_0.2 (benv_c (by rw [← a6]; exact hw.1) (by rw [← a6]; exact hw.2) (benv_c q_0.1 q_0.2 (benv_c q_0.1 q_0.2 benv_n)))))))))) rfl bcs_n (bov_c (k := 1) rfl rfl rfl rfl (by unfold mv; rw [bvx_v]; exact a6) bov_n) (q_2n) (q_c a5) pr_38 (Nat.le_refl B) (fun N hN => absurd hN List.not_mem_nil) (fun N hN => absurd hN List.not_mem_nil) (d' + 1) m (by omega) (by omega)
      cases u with
      | none => exact k2.elim
      | some u =>
        obtain ⟨x9, x1, x2⟩ := k2
        have x2 := brel_x x2
        unfold mv at x2
        rw [bvx_v] at x2
        exact ⟨x9, h', by rw [x1], k1, x2⟩
    | inl e =>
      rw [hl] at a3
      obtain ⟨a5, a6, a7⟩ := a3
      have a8 : (h2.2.1 77 0).toInt = ((i + 1 : Nat) : Int) := by rw [a7, i4]; omega
      have hge := lnq_g hs hc hl
      obtain ⟨-, g2, g3⟩ := hge
      have hT2 : tp2 h2 = tp2 h0 := wD_2 a4
      have hk3 := kK_b (tp2 h0) L e
      have hy9 := hb9 e
      have env : ∀ {y : Int} {ey ek : Int × Int}, (ey.1 ≤ y ∧ y ≤ ey.2) → (ek.1 ≤ (kK (tp2 h0) L e : Int) ∧ (kK (tp2 h0) L e : Int) ≤ ek.2) → benv (k9 L e (kE (tp2 h0) L e) (kV (tp2 h0) L e) y (i : Int) 0 0 ((i + 1 : Nat) : Int) (kK (tp2 h0) L e)) (qE ag_MX ey kLn qz qz kL12 ek) := fun p1 p2 => q_env (eb := qz) (ec := qz) hL4 g2 g3 p1 hI q_0 q_0 hI3 p2
      have hls : ∀ {y : Int}, bLR (k9 L e (kE (tp2 h0) L e) (kV (tp2 h0) L e) y (i : Int) 0 0 ((i + 1 : Nat) : Int) (kK (tp2 h0) L e)) (qA2 (kvv 5)) [some (.ref 76), some (.ref 1), some (.int xj)] := q_2m (brel_v rfl) e2
      show rdQ h0 (if L ≤ e then .inl (i + 1) else if sqs (tp2 h0) L e 59 = true then lsq (tp2 h0) L k (i + 1) (nxt (tp2 h0) L e) else .inr e) _
      by_cases hend : L ≤ e
      · rw [if_pos hend]
        have hk0 : kK (tp2 h0) L e = 0 := kK_0.mpr hend
        obtain ⟨x9, h', x1, x2, x3, x4, x5⟩ := r_fin hE hsm a4 (env (y := 0) (ey := kY) (ek := qz) ⟨by decide, by decide⟩ (q_i (by omega) (by omega))) bcs_n (r_ov a6 a8) hls (q_c a5) pr_38a (d' + 1) m (by omega) (by omega)
        refine ⟨x9, h', x1, x3, ?_, ?_⟩
        · rw [x2, bvx_k]
        · unfold mv at x5
          rw [bvx_v] at x5
          exact x5
      · rw [if_neg hend]
        have hk0 : kK (tp2 h0) L e ≠ 0 := fun z => hend (kK_0.mp z)
        have out : ∀ {y : Int} {ey ek : Int × Int} {cs : bC} {ov : bO}, (ey.1 ≤ y ∧ y ≤ ey.2) → (ek.1 ≤ (kK (tp2 h0) L e : Int) ∧ (kK (tp2 h0) L e : Int) ≤ ek.2) → bcs (k9 L e (kE (tp2 h0) L e) (kV (tp2 h0) L e) y (i : Int) 0 0 ((i + 1 : Nat) : Int) (kK (tp2 h0) L e)) cs → bOV E (k9 L e (kE (tp2 h0) L e) (kV (tp2 h0) L e) y (i : Int) 0 0 ((i + 1 : Nat) : Int) (kK (tp2 h0) L e)) ov h2 → rY 157 38 (qA2 (kvv 5)) (qc 1) (qE ag_MX ey kLn qz qz kL12 ek) cs ov (mv 1) (mv 8) = true → rdQ h0 (.inr e) (zex E m (d' + 1) 157 38 [some (.ref 76), some (.ref 1), some (.int xj)] [.int x] h2) := by
          intro y ey ek cs ov p1 p2 p3 p4 p5
          obtain ⟨x9, h', x1, x2, x3, x4, x5⟩ := r_fin hE hsm a4 (env p1 p2) p3 p4 hls (q_c a5) p5 (d' + 1) m (by omega) (by omega)
          refine ⟨x9, h', x1, x3, ?_⟩
          unfold mv at x2
          rw [bvx_v] at x2
          exact x2
        by_cases hsm9 : sqs (tp2 h0) L e 59 = true
        · rw [if_pos hsm9]
          obtain ⟨s1, s2⟩ := sqs_K3.mp hsm9
          obtain ⟨r1, r2, r3⟩ := gd_n g2 g3 hk0
          refine r_one hE hsm a4 (env (y := tp2 h0 e) (ey := (59, 59)) (ek := (3, 3)) (q_i (by omega) (by omega)) (q_i (by omega) (by omega))) (bcs_lt (q_lt hk0)) (bov_app (r_ov a6 a8) (r_ob hT2)) hls (q_c a5) pr_38b rfl (B' := B + (H * 1001 + F * 20000) * (k + 1) + F * 2000) (by omega) (fun ls3 h3 j1 j2 j3 j4 d3 f3 hd3 hf3 => ?_) (d' + 1) m (by omega) (by omega)
          obtain ⟨xk, c1, c2⟩ := q_2i j1
          unfold mv at c2 j4
          rw [bvx_v] at c2 j4
          have c2 : xk.toInt = (i : Int) := c2
          have j4 : (h3.2.1 77 0).toInt = ((i + 1 : Nat) : Int) := j4
          have hT3 : tp2 h3 = tp2 h0 := wD_2 j2
          obtain ⟨m2, hm2⟩ : ∃ m2, f3 = m2 + 2 := ⟨f3 - 2, by omega⟩
          obtain ⟨d4, hd4⟩ : ∃ d4, d3 = d4 + 1 := ⟨d3 - 1, by omega⟩
          subst hd4
          obtain ⟨h4, t1, t2, t3⟩ := cadv (h0 := h3) hE hsm (by rw [hT3]; exact hb9) hF hL4 g2 (by rw [hT3]; exact g3) (bRQ_r j2) (by rw [hT3]; exact j3) d4 m2 (by omega) (by omega)
          rw [hT3] at t3
          have t4 := bRQ_tr j2 (bRQ_CD t2)
          have t5 : (h4.2.1 77 0).toInt = ((i + 1 : Nat) : Int) := by rw [t2.2.2.2.1 77 0 wC77]; exact j4
          have ha5 : zat h3.1 1 = some (.inr (.inl (9, [some (some 2), none, none, none, none, none]))) := j2.2.2.1 1 _ cs1 (by intro z; cases z)
          rw [hm2, c1, cr_69 ha5 t1]
          refine r_one hE hsm t4 (q_env (ey := kY) (ea := kLn) (eb := qz) (ec := qz) (eg := kL12) (ek := qk3) (y := 0) (a := (i : Int)) (b := 0) (c := 0) (g := ((i + 1 : Nat) : Int)) hL4 r2 r3 ⟨by decide, by decide⟩ hI q_0 q_0 hI3 (q_k3 _)) bcs_n (r_ov t3 t5) (q_2m (brel_v rfl) c2) (ak := []) (st := []) trivial pr_73 rfl (B' := B + (H * 1001 + F * 20000) * (k + 1)) (by omega) (fun ls5 h5 l1 l2 l3 l4 d5 f5 hd5 hf5 => ?_) (d4 + 1) m2 (by omega) (by omega)
          obtain ⟨xn, n1, n2⟩ := q_2i l1
          unfold mv at l4
          rw [bvx_v] at l4
          rw [n1]
          exact IH (i + 1) _ xn h5 (by omega) r2 r3 (by rw [n2]; show 1 + (1 * (i : Int) + 0) = _; omega) l2 l3 l4 d5 f5 hd5 hf5
        · rw [if_neg hsm9]
          have h4n : ¬ (kK (tp2 h0) L e = 3 ∧ tp2 h0 e = 59) := fun z => hsm9 (sqs_K3.mpr z)
          by_cases hk2 : kK (tp2 h0) L e ≤ 2
          · exact out (y := 0) (ey := kY) (ek := (1, 2)) ⟨by decide, by decide⟩ (q_i (by omega) (by omega)) bcs_n (r_ov a6 a8) pr_38c
          · have hk33 : ((3, 3) : Int × Int).1 ≤ (kK (tp2 h0) L e : Int) ∧ (kK (tp2 h0) L e : Int) ≤ ((3, 3) : Int × Int).2 := q_i (by omega) (by omega)
            by_cases hlo : tp2 h0 e ≤ 58
            · exact out (y := tp2 h0 e) (ey := (0, 58)) (ek := (3, 3)) (q_i hy9.1 hlo) hk33 (bcs_lt (q_lt hk0)) (bov_app (r_ov a6 a8) (r_ob hT2)) pr_38d
            · exact out (y := tp2 h0 e) (ey := (60, 255)) (ek := (3, 3)) (q_i (by omega) hy9.2) hk33 (bcs_lt (q_lt hk0)) (bov_app (r_ov a6 a8) (r_ob hT2)) pr_38e
set_option maxRecDepth 100000 in
theorem readE (hE : E.1 < 2147483648) (hsm : bSO E ctb B (60, smT)) (hb9 : ∀ i, 0 ≤ tp2 h0 i ∧ tp2 h0 i ≤ 255) (hF : 1000000 ≤ F) (hG : F * 2000 ≤ G) (hH : F * 9000 + G * 403 ≤ H) (hL4 : L ≤ 400) (hI : bHI h0) (hP : bPS h0) (hT : bTB ctb h0.1) (p1 : (h0.2.1 1 1).toInt = (L : Int)) :
    ∀ d f, 83 ≤ d → B + (H * 1001 + F * 20000) * 14 ≤ f → rdQ h0 (lawq (tp2 h0) L) (zex E f d 157 0 [some (.ref 76), some (.ref 1), none] [] h0) := by
  intro d f hd hf
  have hr : bRQ ctb wD h0 0 0 h0 := ⟨hI, hP, hT, fun _ _ _ => rfl, Nat.le_refl _, Nat.le_refl _⟩
  refine segk (Q := rdQ h0 (lawq (tp2 h0) L)) (V := k9 L 0 0 0 0 0 0 0 0 0) (ca := 0) (sa := 0) (nv := 10) hE hsm (fun V S v w h _ _ _ z => nomatch (show false = true from z)) hr (benv_c (by omega) (by omega) (benv_c (by omega) (by omega) (benv_c (by omega) (by omega) (benv_c q_0.1 q_0.2 (benv_c q_0.1 q_0.2 (benv_c q_0.1 q_0.2 (benv_c q_0.1 q_0.2 (benv_c q_0.1 q_0.2 (benv_c q_0.1 q_0.2 (benv_c q_0.1 q_0.2 benv_n)))))))))) rfl bcs_n (bov_c (k := 1) rfl rfl rfl rfl (by unfold mv; rw [bvx_v]; exact p1) bov_n) q_2n (ak := []) (st := []) trivial pr_0 (B' := B + (H * 1001 + F * 20000) * 13 + F * 3000) (by omega) ?_ ?_ d f hd (by omega)
  · intro N hN
    cases hN with
    | head => exact ⟨rfl, rfl, rfl⟩
    | tail _ hN => exact absurd hN List.not_mem_nil
  · intro N hN ls' h1 k1 k2 k3 d f hd hf
    cases hN with
    | tail _ hN => exact absurd hN List.not_mem_nil
    | head =>
      obtain ⟨u, e1⟩ := q_2s k1
      have q1 := bpv_x k3 (c := 1) (k := 1) rfl (List.Mem.head _)
      have q7 := bpv_x k3 (c := 77) (k := 0) rfl (List.Mem.tail _ (List.Mem.head _))
      unfold mv at q1
      rw [bvx_v] at q1
      rw [bvx_k] at q7
      have hT1 : tp2 h1 = tp2 h0 := wD_2 k2
      obtain ⟨m, hm⟩ : ∃ m, f = m + 2 := ⟨f - 2, by omega⟩
      obtain ⟨d', hd'⟩ : ∃ d', d = d' + 1 := ⟨d - 1, by omega⟩
      subst hd'
      obtain ⟨h2, a1, a2, a3⟩ := beginE (h := h1) hE hsm (by rw [hT1]; exact hb9) hF hL4 k2.1 k2.2.1 k2.2.2.1 q1 d' m (by omega) (by omega)
      rw [hT1] at a3
      have a4 := bRQ_tr k2 (bRQ_CD a2)
      have a5 : (h2.2.1 77 0).toInt = 0 := by rw [a2.2.2.2.1 77 0 wC77]; exact q7
      have ha5 : zat h1.1 1 = some (.inr (.inl (9, [some (some 2), none, none, none, none, none]))) := k2.2.2.1 1 _ cs1 (by intro z; cases z)
      have hs : sk isBl (tp2 h0) L 0 ≤ L := sk_le (Nat.zero_le _)
      have hc : sk isBl (tp2 h0) L (sk isBl (tp2 h0) L 0) = sk isBl (tp2 h0) L 0 := sk_idem
      rw [hm, e1, cr_12 ha5 a1]
      unfold lawq
      have env : ∀ {ek : Int × Int}, (ek.1 ≤ (kK (tp2 h0) L (sk isBl (tp2 h0) L 0) : Int) ∧ (kK (tp2 h0) L (sk isBl (tp2 h0) L 0) : Int) ≤ ek.2) → benv (k9 L (sk isBl (tp2 h0) L 0) (kE (tp2 h0) L (sk isBl (tp2 h0) L 0)) (kV (tp2 h0) L (sk isBl (tp2 h0) L 0)) 0 0 0 0 0 (kK (tp2 h0) L (sk isBl (tp2 h0) L 0))) (qE ag_MX kY qz qz qz kL12 ek) := fun p => q_env (ey := kY) (ea := qz) (eb := qz) (ec := qz) hL4 hs hc ⟨by decide, by decide⟩ q_0 q_0 q_0 ⟨by decide, by decide⟩ p
      by_cases hend : L ≤ sk isBl (tp2 h0) L 0
      · rw [if_pos hend]
        have hk0 : kK (tp2 h0) L (sk isBl (tp2 h0) L 0) = 0 := kK_0.mpr hend
        obtain ⟨x9, h', x1, x2, x3, x4, x5⟩ := r_fin hE hsm a4 (env (ek := qz) (q_i (by omega) (by omega))) bcs_n (r_ov a3 a5) q_2n (ak := []) (st := []) trivial pr_16a (d' + 1) m (by omega) (by omega)
        refine ⟨x9, h', x1, x3, ?_, ?_⟩
        · rw [x2, bvx_k]
        · unfold mv at x5
          rw [bvx_v] at x5
          exact x5
      · rw [if_neg hend]
        have hk0 : kK (tp2 h0) L (sk isBl (tp2 h0) L 0) ≠ 0 := fun z => hend (kK_0.mp z)
        have hk3 := kK_b (tp2 h0) L (sk isBl (tp2 h0) L 0)
        refine r_one hE hsm a4 (env (ek := (1, 3)) (q_i (by omega) (by omega))) bcs_n (r_ov a3 a5) q_2n (ak := []) (st := []) trivial pr_16b rfl (B' := B + (H * 1001 + F * 20000) * 13) (by omega) (fun ls5 h5 l1 l2 l3 l4 d5 f5 hd5 hf5 => ?_) (d' + 1) m (by omega) (by omega)
        obtain ⟨xn, n1, n2⟩ := q_2i l1
        rw [bvx_k] at n2
        unfold mv at l4
        rw [bvx_v] at l4
        rw [n1]
        exact rd_27 hE hsm hb9 hF hG hH hL4 12 0 _ xn h5 rfl hs hc n2 l2 l3 l4 d5 f5 hd5 hf5
end RD
