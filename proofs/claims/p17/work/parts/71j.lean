/-! the model's reader of THE LAW, whole -/
def raQ (h0 : zH) (r : Nat ⊕ Nat) (o : Option zR) : Prop := ∃ (x : Int32) (h' : zH), o = some (.inl (some (.int x)), h') ∧ bRQ ctb wN h0 0 0 h' ∧ (match r with
  | .inl n => x.toInt = (n : Int)
  | .inr w => x.toInt = -1 ∧ (h'.2.1 84 12).toInt = (w : Int))
set_option maxRecDepth 100000 in
theorem biv8412 : biv 84 12 = (0, 400) := rfl
set_option maxRecDepth 100000 in
theorem biv8413 : biv 84 13 = (0, 6) := rfl
section RA
variable {E : zE} {B F G H : Nat} {h0 : zH} {L : Nat}
set_option maxRecDepth 100000 in
theorem n_l0 {V : List Int} {vh vn : Int32} {f : bI} {x : Int} (hvh : vh.toInt = 0) (hf : brel V f x) (hvn : vn.toInt = x) : bLR V [q84, kcc 0, some (.inl f)] [some (.ref 84), some (.int vh), some (.int vn)] := ⟨⟨_, rfl, rfl⟩, ⟨_, rfl, vh, rfl, by rw [hvh]; exact brel_c _ 0⟩, ⟨_, rfl, vn, rfl, by rw [hvn]; exact hf⟩, trivial⟩
set_option maxRecDepth 100000 in
theorem mra_28 (hE : E.1 < 2147483648) (hE4 : E.1 ≤ 4000) (hsm : bSO E ctb B (60, smT)) (hb9 : ∀ i, -128 ≤ tp90 h0 i ∧ tp90 h0 i ≤ 127) (hF : 1000000 ≤ F) (hG : F * 2000 ≤ G) (hH : F * 9000 + G * 403 ≤ H) (hL : L ≤ 400) : ∀ (j i p b k dp : Nat) (vh vi : Int32) (h : zH), j + i = 12 → vh.toInt = 0 → vi.toInt = (i : Int) → p ≤ L → b ≤ 400 → k ≤ p → dp ≤ 6 → bRQ ctb wN h0 0 0 h → MT h L p b k dp →
    ∀ d f, 94 ≤ d → B + H * (1004 + j) ≤ f → raQ h0 (lsq (tp90 h0) L j i (sk isBl (tp90 h0) L p)) (zex E f d 264 28 [some (.ref 84), some (.int vh), some (.int vi)] [] h) := by
  intro j
  induction j with
  | zero =>
    intro i p b k dp vh vi h hji hvh hvi hp hb hk hdp hr ht d f hd hf
    have hmul : H * (1004 + 0) = H * 1003 + H := Nat.mul_succ H 1003
    obtain ⟨m, hm⟩ : ∃ m, f = m + 4 := ⟨f - 4, by omega⟩
    obtain ⟨d', hd'⟩ : ∃ d', d = d' + 1 := ⟨d - 1, by omega⟩
    subst hd'
    obtain ⟨x, h1, e1, r1, t1⟩ := mRl hE hE4 hsm hF hG hH hL hvh hvi (by omega) hp hb hk hdp hr ht d' m (by omega) (by omega)
    rw [if_neg (by omega)] at t1
    obtain ⟨t2, t3⟩ := t1
    subst t2
    obtain ⟨m3, hm3⟩ : ∃ m3, m = m3 + 3 := ⟨m - 3, by omega⟩
    rw [hm, xz_28 (q_84 hr) e1, hm3, xz_34n]
    exact ⟨-1, h1, rfl, r1, rfl, t3⟩
  | succ j IH =>
    intro i p b k dp vh vi h hji hvh hvi hp hb hk hdp hr ht d f hd hf
    have hmul : H * (1004 + (j + 1)) = H * (1004 + j) + H := Nat.mul_succ H (1004 + j)
    have hmon : H * 1003 ≤ H * (1004 + j) := Nat.mul_le_mul_left H (by omega)
    obtain ⟨m, hm⟩ : ∃ m, f = m + 4 := ⟨f - 4, by omega⟩
    obtain ⟨d', hd'⟩ : ∃ d', d = d' + 1 := ⟨d - 1, by omega⟩
    subst hd'
    obtain ⟨x, h1, e1, r1, t1⟩ := mRl hE hE4 hsm hF hG hH hL hvh hvi (by omega) hp hb hk hdp hr ht d' m (by omega) (by omega)
    rw [if_pos (by omega)] at t1
    rw [hm, xz_28 (q_84 hr) e1]
    show raQ h0 (match lnq (tp90 h0) L (sk isBl (tp90 h0) L p) with
      | .inr w => Sum.inr w
      | .inl e => if L ≤ e then Sum.inl (i + 1) else if sqs (tp90 h0) L e 59 = true then lsq (tp90 h0) L j (i + 1) (nxt (tp90 h0) L e) else .inr e) _
    cases hl : lnq (tp90 h0) L (sk isBl (tp90 h0) L p) with
    | inr w =>
      rw [hl] at t1
      obtain ⟨t2, t3⟩ := t1
      subst t2
      obtain ⟨m3, hm3⟩ : ∃ m3, m = m3 + 3 := ⟨m - 3, by omega⟩
      rw [hm3, xz_34n]
      exact ⟨-1, h1, rfl, r1, rfl, t3⟩
    | inl e =>
      rw [hl] at t1
      obtain ⟨t2, p2, b2, k2, t3, u1, u2, u3, u4, u5⟩ := t1
      subst t2 u3
      have hs := sk_le (P := isBl) (T := tp90 h0) u1
      have hsg := sk_ge (P := isBl) (T := tp90 h0) (L := L) (q := p2)
      obtain ⟨m3, hm3⟩ : ∃ m3, m = m3 + 3 := ⟨m - 3, by omega⟩
      obtain ⟨h2, e2, r2, t4⟩ := x_blanks hE hsm hF hL u1 u2 r1 t3 d' m3 (by omega) (by omega)
      rw [hm3, xz_34y (q_84 r1) e2]
      have hi : nLn.1 ≤ (i : Int) ∧ (i : Int) ≤ nLn.2 := q_i (by omega) (by omega)
      show raQ h0 (if L ≤ sk isBl (tp90 h0) L p2 then Sum.inl (i + 1) else if sqs (tp90 h0) L (sk isBl (tp90 h0) L p2) 59 = true then lsq (tp90 h0) L j (i + 1) (nxt (tp90 h0) L (sk isBl (tp90 h0) L p2)) else .inr (sk isBl (tp90 h0) L p2)) _
      by_cases hend : L ≤ sk isBl (tp90 h0) L p2
      · rw [if_pos hend]
        obtain ⟨x9, h9, x1, x2, x3, x4⟩ := n_fin hE hsm r2 (n_env (x := (i : Int)) (y := 0) (ex := nLn) (ey := qz) hL (by omega) (by omega) (by omega) (n_dp (by decide)) hi q_0) (bcs_c rfl (by show 0 ≤ 0 + (1 * (L : Int) + ((-1) * (sk isBl (tp90 h0) L p2 : Int) + 0)); omega) (bcs_c rfl (by show 0 ≤ 0 + ((-1) * (L : Int) + (1 * (sk isBl (tp90 h0) L p2 : Int) + 0)); omega) bcs_n)) (n_ov t4) (n_l0 hvh (brel_v rfl) hvi) (ak := []) (st := []) trivial nz_43a n_v1 n_v4 (d' + 1) m3 (by omega) (by omega)
        exact ⟨x9, h9, x1, x3, by rw [x2]; show 1 + (1 * (i : Int) + 0) = _; omega⟩
      · rw [if_neg hend]
        have hb : bOV E (nV L (sk isBl (tp90 h0) L p2) (sk isBl (tp90 h0) L p2) k2 0 (i : Int) (tp90 h0 (sk isBl (tp90 h0) L p2))) nB h2 := bov_c (k := sk isBl (tp90 h0) L p2) rfl rfl (by rw [bvx_v]; rfl) rfl (by unfold mv; rw [bvx_v]; show _ = tp90 h0 (sk isBl (tp90 h0) L p2); rw [← wN_90 r2]; rfl) bov_n
        have hlt : bcs (nV L (sk isBl (tp90 h0) L p2) (sk isBl (tp90 h0) L p2) k2 0 (i : Int) (tp90 h0 (sk isBl (tp90 h0) L p2))) [(-1, [(0, 1), (1, -1)])] := bcs_c rfl (by show 0 ≤ -1 + (1 * (L : Int) + ((-1) * (sk isBl (tp90 h0) L p2 : Int) + 0)); omega) bcs_n
        have hy := hb9 (sk isBl (tp90 h0) L p2)
        by_cases h59 : tp90 h0 (sk isBl (tp90 h0) L p2) = 59
        · have hq : sqs (tp90 h0) L (sk isBl (tp90 h0) L p2) 59 = true := (sqs_m ⟨by decide, by decide⟩ rfl rfl).mp ⟨by omega, h59⟩
          have hk3 := (sqs_K3.mp hq).1
          rw [if_pos hq, nx_p, kE_3 hk3]
          refine n_one hE hsm r2 (n_env (x := (i : Int)) (y := tp90 h0 (sk isBl (tp90 h0) L p2)) (ex := nLn) (ey := (59, 59)) hL (by omega) (by omega) (by omega) (n_dp (by decide)) hi (q_i (by omega) (by omega))) hlt (bov_app (n_ov t4) hb) (n_l0 hvh (brel_v rfl) hvi) (ak := []) (st := []) trivial nz_43b rfl (p' := sk isBl (tp90 h0) L p2 + 1) (dp' := 0) (by show 1 + (1 * (sk isBl (tp90 h0) L p2 : Int) + 0) = _; omega) n_v4 (B' := B + H * (1004 + j)) (by omega) (fun ls5 g5 i1 i2 i3 d5 f5 hd5 hf5 => ?_) (d' + 1) m3 (by omega) (by omega)
          obtain ⟨vx, vy, l1, l2, l3⟩ := n_l2a i1
          rw [bvx_k] at l2
          rw [l1]
          exact IH (i + 1) _ _ k2 0 vx vy g5 (by omega) l2 (by rw [l3]; show 1 + (1 * (i : Int) + 0) = _; omega) (by omega) (by omega) (by omega) (by decide) i2 i3 d5 f5 hd5 hf5
        · have hq : ¬ sqs (tp90 h0) L (sk isBl (tp90 h0) L p2) 59 = true := fun z => h59 (sqs_K3.mp z).2
          rw [if_neg hq]
          have out : ∀ {ey : Int × Int}, (ey.1 ≤ tp90 h0 (sk isBl (tp90 h0) L p2) ∧ tp90 h0 (sk isBl (tp90 h0) L p2) ≤ ey.2) → nY 264 43 [q84, kcc 0, kvv 5] [] (nE nD nLn ey) [(-1, [(0, 1), (1, -1)])] (nO ++ nB) (-1, []) (mv 1) (mv 4) = true → raQ h0 (.inr (sk isBl (tp90 h0) L p2)) (zex E m3 (d' + 1) 264 43 [some (.ref 84), some (.int vh), some (.int vi)] [] h2) := by
            intro ey p1 p3
            obtain ⟨x9, h9, x1, x2, x3, x4⟩ := n_fin hE hsm r2 (n_env (x := (i : Int)) (y := tp90 h0 (sk isBl (tp90 h0) L p2)) (ex := nLn) (ey := ey) hL (by omega) (by omega) (by omega) (n_dp (by decide)) hi p1) hlt (bov_app (n_ov t4) hb) (n_l0 hvh (brel_v rfl) hvi) (ak := []) (st := []) trivial p3 n_v1 n_v4 (d' + 1) m3 (by omega) (by omega)
            exact ⟨x9, h9, x1, x3, by rw [x2, bvx_k], x4.2.2.1⟩
          by_cases hlo : tp90 h0 (sk isBl (tp90 h0) L p2) ≤ 58
          · exact out (q_i hy.1 hlo) nz_43c
          · exact out (q_i (by omega) hy.2) nz_43d
set_option maxRecDepth 100000 in
theorem mra_9 (hE : E.1 < 2147483648) (hE4 : E.1 ≤ 4000) (hsm : bSO E ctb B (60, smT)) (hb9 : ∀ i, -128 ≤ tp90 h0 i ∧ tp90 h0 i ≤ 127) (hF : 1000000 ≤ F) (hG : F * 2000 ≤ G) (hH : F * 9000 + G * 403 ≤ H) (hL : L ≤ 400) {b dp : Nat} {vh : Int32} {u : Option Value} {h : zH} (hvh : vh.toInt = 0) (hb : b ≤ 400) (hdp : dp ≤ 6) (hr : bRQ ctb wN h0 0 0 h) (ht : MT h L 0 b 0 dp) :
    ∀ d f, 94 ≤ d → B + H * 1017 ≤ f → raQ h0 (lawq (tp90 h0) L) (zex E f d 264 9 [some (.ref 84), some (.int vh), u] [] h) := by
  intro d f hd hf
  have hmul : H * 1017 = H * 1016 + H := Nat.mul_succ H 1016
  have hs : sk isBl (tp90 h0) L 0 ≤ L := sk_le (Nat.zero_le _)
  obtain ⟨m, hm⟩ : ∃ m, f = m + 2 := ⟨f - 2, by omega⟩
  obtain ⟨d', hd'⟩ : ∃ d', d = d' + 1 := ⟨d - 1, by omega⟩
  subst hd'
  obtain ⟨h2, e2, r2, t4⟩ := x_blanks hE hsm hF hL (Nat.zero_le _) hb hr ht d' m (by omega) (by omega)
  rw [hm, xz_9 (q_84 hr) e2]
  unfold lawq
  have hl : ∀ {V : List Int}, bLR V [q84, kcc 0, none] [some (.ref 84), some (.int vh), u] := ⟨⟨_, rfl, rfl⟩, ⟨_, rfl, vh, rfl, by rw [hvh]; exact brel_c _ 0⟩, trivial, trivial⟩
  by_cases hend : L ≤ sk isBl (tp90 h0) L 0
  · rw [if_pos hend]
    obtain ⟨x9, h9, x1, x2, x3, x4⟩ := n_fin hE hsm r2 (n_env (x := 0) (y := 0) (ex := qz) (ey := qz) hL (by omega) (by omega) (by omega) (n_dp hdp) q_0 q_0) (bcs_c rfl (by show 0 ≤ 0 + (1 * (L : Int) + ((-1) * (sk isBl (tp90 h0) L 0 : Int) + 0)); omega) (bcs_c rfl (by show 0 ≤ 0 + ((-1) * (L : Int) + (1 * (sk isBl (tp90 h0) L 0 : Int) + 0)); omega) bcs_n)) (n_ov t4) hl (ak := []) (st := []) trivial nz_13a n_v1 n_v4 (d' + 1) m (by omega) (by omega)
    exact ⟨x9, h9, x1, x3, by rw [x2]; rfl⟩
  · rw [if_neg hend]
    refine n_one hE hsm r2 (n_env (x := 0) (y := 0) (ex := qz) (ey := qz) hL (by omega) (by omega) (by omega) (n_dp hdp) q_0 q_0) (bcs_c rfl (by show 0 ≤ -1 + (1 * (L : Int) + ((-1) * (sk isBl (tp90 h0) L 0 : Int) + 0)); omega) bcs_n) (n_ov t4) hl (ak := []) (st := []) trivial nz_13b rfl n_v1 n_v4 (B' := B + H * 1016) (by omega) (fun ls5 g5 i1 i2 i3 d5 f5 hd5 hf5 => ?_) (d' + 1) m (by omega) (by omega)
    obtain ⟨vx, vy, l1, l2, l3⟩ := n_l2a i1
    rw [bvx_k] at l2 l3
    rw [l1]
    have := mra_28 hE hE4 hsm hb9 hF hG hH hL 12 0 _ _ 0 dp vx vy g5 rfl l2 l3 hs (by omega) (Nat.zero_le _) hdp i2 i3 d5 f5 hd5 hf5
    rw [sk_idem] at this
    exact this
end RA
