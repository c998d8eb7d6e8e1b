set_option maxRecDepth 100000 in
theorem comparison {E : zE} {B F G : Nat} {h0 h : zH} {L s : Nat} (hE : E.1 < 2147483648) (hsm : bSO E ctb B (60, smT)) (hb9 : ∀ i, 0 ≤ tp2 h0 i ∧ tp2 h0 i ≤ 255) (hF : 1000000 ≤ F) (hG : F * 2000 ≤ G) (hL4 : L ≤ 400) (hs : s ≤ L) (hc : sk isBl (tp2 h0) L s = s) (hr : bRQ ctb wC h0 0 0 h) (ht : CT h (tp2 h0) L s) :
    ∀ d f, 61 ≤ d → B + G * 403 ≤ f → cvQ h0 L (cmpq (tp2 h0) L 401 s) (zex E f d 164 0 [some (.ref 76), some (.ref 1), none, none, none, none] [] h) := by
  intro d f hd hf
  have hmul : G * 403 = G * 402 + G := Nat.mul_succ G 402
  have he := kE_b hs hc
  have hk3 := kK_b (tp2 h0) L s
  have e9 : cmpq (tp2 h0) L 401 s = hdq (tp2 h0) L (-1) 401 s := by
    unfold hdq
    rw [if_pos rfl]
    rfl
  rw [e9]
  refine k_one hE hsm hr ht (y := 0) (g := 0) (pl := 0) (i := 0) (w := 0) (k_env (ev := ag_MX) (ey := kY) (eg := kGA) (ei := kI) (ew := kW) (ek := (0, 3)) hL4 (by omega) (by omega) kV_bb ⟨by decide, by decide⟩ ⟨by show (-1 : Int) ≤ 0; decide, by show (0 : Int) ≤ 1023; decide⟩ ⟨by decide, by decide⟩ ⟨by decide, by decide⟩ ⟨by show (-1 : Int) ≤ 0; decide, by show (0 : Int) ≤ 5; decide⟩ ⟨by show (0 : Int) ≤ _; omega, by show _ ≤ (3 : Int); omega⟩) bcs_n (k_ov ht) (al := kL none none none none) (show bLR _ (kL none none none none) [some (.ref 76), some (.ref 1), none, none, none, none] from ⟨⟨_, rfl, rfl⟩, ⟨_, rfl, rfl⟩, trivial, trivial, trivial, trivial, trivial⟩) kc_0 rfl (B' := B + G * 402) (Nat.le_add_right _ _) ?_ d f hd (by omega)
  intro ls' h' j1 j2 j3 d f hd hf
  obtain ⟨z2, z3, z4, u', e1, e2, e3, e4⟩ := k_als j1
  rw [e1]
  rw [bvx_k] at e2 e3 e4
  exact cmp_7 hE hsm hb9 hF hG hL4 401 s (-1) z2 z3 z4 u' h' 0 0 hc hs (by omega) (Or.inl rfl) e2 e3 ⟨by decide, by decide⟩ e4 (Nat.zero_le _) j2 j3 d f hd hf
