/-! a word that may stand next -/
noncomputable def mpR : Bool := btz wM (60, smT) ctb (bfn 0 0 4 (bidl 4 0) [([], [], some (.inl (0, [])), mP (mv 2) (mv 2))]) 60 238 1000000 4 [] (4, mE (0, 0), [], mO, (0, []), (0, [])) 14 [some (.inr (.inl (.ref 84))), none]
set_option maxRecDepth 100000 in
theorem mp_1 : mpR = true := by decide +kernel
set_option maxRecDepth 100000 in
theorem zmi236 : zat zmi 236 = some (1, 1, 0, 12, 0, 0) := rfl
set_option maxRecDepth 100000 in
theorem zmi237 : zat zmi 237 = some (2, 4, 0, 12, 2, 0) := rfl
set_option maxRecDepth 100000 in
theorem zf238_0 : zfetch 238 0 = some (.aload_n 0, 1, (0, 0, 0), 0, 0) := by decide +kernel
set_option maxRecDepth 100000 in
theorem zf238_1 : zfetch 238 1 = some (.invokevirtual 109, 3, (0, 236, 0), 0, 1723) := by decide +kernel
set_option maxRecDepth 100000 in
theorem zf238_4 : zfetch 238 4 = some (.aload_n 0, 1, (0, 0, 0), 0, 0) := by decide +kernel
set_option maxRecDepth 100000 in
theorem zf238_5 : zfetch 238 5 = some (.aload_n 1, 1, (0, 0, 0), 0, 0) := by decide +kernel
set_option maxRecDepth 100000 in
theorem zf238_6 : zfetch 238 6 = some (.invokevirtual 112, 3, (0, 237, 0), 0, 1732) := by decide +kernel
set_option maxRecDepth 100000 in
theorem zf238_9 : zfetch 238 9 = some (.ifCond .eq 5, 3, (14, 0, 0), 0, 0) := by decide +kernel
set_option maxRecDepth 100000 in
theorem zf238_12 : zfetch 238 12 = some (.iconst 1, 1, (0, 0, 0), 1, 0) := by decide +kernel
set_option maxRecDepth 100000 in
theorem zf238_13 : zfetch 238 13 = some (.ireturn, 1, (0, 0, 0), 0, 0) := by decide +kernel
section MP
variable {E : zE} {B F : Nat} {h0 h : zH} {L p b w : Nat}
set_option maxRecDepth 100000 in
theorem tp90_e {h1 h2 : zH} (a : ∀ i, h2.2.1 90 i = h1.2.1 90 i) : tp90 h2 = tp90 h1 := by
  funext i
  unfold tp90
  rw [a]
set_option maxRecDepth 100000 in
theorem m_passes (hE : E.1 < 2147483648) (hsm : bSO E ctb B (60, smT)) (hF : 1000000 ≤ F) (hL : L ≤ 400) (hp : p ≤ L) (hb : b ≤ 400) (hr : bRQ ctb wM h0 0 0 h) (p1 : (h.2.1 84 11).toInt = (L : Int)) (p2 : (h.2.1 84 10).toInt = (p : Int)) (p3 : (h.2.1 84 12).toInt = (b : Int)) {u : List Nat} (hw : (w, u) ∈ mws) :
    ∀ d f, 62 ≤ d → B + F * 404 ≤ f → mvQ h0 L (if txq (tp90 h0) (sk isBl (tp90 h0) L p) (sk isLt (tp90 h0) L (sk isBl (tp90 h0) L p)) u = true then sk isLt (tp90 h0) L (sk isBl (tp90 h0) L p) else sk isBl (tp90 h0) L p) (sk isBl (tp90 h0) L p) (if txq (tp90 h0) (sk isBl (tp90 h0) L p) (sk isLt (tp90 h0) L (sk isBl (tp90 h0) L p)) u = true then 1 else 0) (zex E f d 238 0 [some (.ref 84), some (.retAddr w)] [] h) := by
  intro d f hd hf
  have hmul : F * 404 = F * 402 + F + F := by rw [show 404 = 402 + 1 + 1 from rfl, Nat.mul_succ, Nat.mul_succ]
  obtain ⟨n, hn⟩ : ∃ n, f = n + 8 := ⟨f - 8, by omega⟩
  obtain ⟨d', hd'⟩ : ∃ d', d = d' + 1 := ⟨d - 1, by omega⟩
  subst hd'
  have hf0 : B + 1000000 ≤ n := by
    have : F * 402 = F * 401 + F := Nat.mul_succ F 401
    omega
  obtain ⟨h1, e1, k1, k2, k3, k4⟩ := m_letters hE hsm hF hL hp hb hr p1 p2 p3 d' (n + 6) (by omega) (by omega)
  have ha := hr.2.2.1 84 _ cs84 (by intro z; cases z)
  have ha1 := k1.2.2.1 84 _ cs84 (by intro z; cases z)
  have hs := sk_le (P := isBl) (T := tp90 h0) hp
  have he := sk_le (P := isLt) (T := tp90 h0) hs
  have hT : tp90 h1 = tp90 h0 := tp90_e fun i => wM_90 k1 i
  obtain ⟨x, h2, g1, g2, g3⟩ := m_isWord hE hsm k1.1 k1.2.1 k1.2.2.1 (p := sk isLt (tp90 h0) L (sk isBl (tp90 h0) L p)) (b := sk isBl (tp90 h0) L p) (by omega) (by omega) k3 k4 hw d' (n + 3) (by omega) (by omega)
  rw [hT] at g2
  have e2 : zex E (n + 8) (d' + 1) 238 0 [some (.ref 84), some (.retAddr w)] [] h = zex E (n + 6) (d' + 1) 238 4 [some (.ref 84), some (.retAddr w)] [] h1 :=
    ((zx1 zf238_0).trans rfl : zex E (n + 8) (d' + 1) 238 0 [some (.ref 84), some (.retAddr w)] [] h = zex E (n + 7) (d' + 1) 238 1 [some (.ref 84), some (.retAddr w)] [.ref 84] h).trans (zcv1 zf238_1 zmi236 ha rfl e1)
  have e3 : zex E (n + 6) (d' + 1) 238 4 [some (.ref 84), some (.retAddr w)] [] h1 = zex E (n + 3) (d' + 1) 238 9 [some (.ref 84), some (.retAddr w)] [.int x] h2 :=
    ((zx1 zf238_4).trans rfl : zex E (n + 6) (d' + 1) 238 4 [some (.ref 84), some (.retAddr w)] [] h1 = zex E (n + 5) (d' + 1) 238 5 [some (.ref 84), some (.retAddr w)] [.ref 84] h1).trans
    (((zx1 zf238_5).trans rfl : zex E (n + 5) (d' + 1) 238 5 [some (.ref 84), some (.retAddr w)] [.ref 84] h1 = zex E (n + 4) (d' + 1) 238 6 [some (.ref 84), some (.retAddr w)] [.retAddr w, .ref 84] h1).trans
    (zcvg (as := [.retAddr w]) (r := []) zf238_6 zmi237 rfl ha1 rfl g1))
  rw [hn, e2, e3]
  have k9 : bRQ ctb wM h0 0 0 h2 := bRQ_tr k1 (bRQ_w0 g3)
  have q1 : (h2.2.1 84 11).toInt = (L : Int) := by rw [b0_eq g3]; exact k2
  have q2 : (h2.2.1 84 10).toInt = ((sk isLt (tp90 h0) L (sk isBl (tp90 h0) L p) : Nat) : Int) := by rw [b0_eq g3]; exact k3
  have q3 : (h2.2.1 84 12).toInt = ((sk isBl (tp90 h0) L p : Nat) : Int) := by rw [b0_eq g3]; exact k4
  by_cases hx : txq (tp90 h0) (sk isBl (tp90 h0) L p) (sk isLt (tp90 h0) L (sk isBl (tp90 h0) L p)) u = true
  · rw [if_pos hx] at g2
    rw [if_pos hx, if_pos hx]
    have hx1 : x = 1 := Int32.toInt_inj.mp (by rw [g2]; rfl)
    refine ⟨1, h2, ?_, rfl, k9, q1, q2, q3⟩
    rw [hx1]
    exact ((zx1 zf238_9).trans rfl : zex E (n + 3) (d' + 1) 238 9 [some (.ref 84), some (.retAddr w)] [.int 1] h2 = zex E (n + 2) (d' + 1) 238 12 [some (.ref 84), some (.retAddr w)] [] h2).trans
      (((zx1 zf238_12).trans rfl : zex E (n + 2) (d' + 1) 238 12 [some (.ref 84), some (.retAddr w)] [] h2 = zex E (n + 1) (d' + 1) 238 13 [some (.ref 84), some (.retAddr w)] [.int 1] h2).trans ((zx1 zf238_13).trans rfl))
  · rw [if_neg hx] at g2
    rw [if_neg hx, if_neg hx]
    have hx1 : x = 0 := Int32.toInt_inj.mp (by rw [g2]; rfl)
    rw [hx1]
    have e4 : zex E (n + 3) (d' + 1) 238 9 [some (.ref 84), some (.retAddr w)] [.int 0] h2 = zex E (n + 2) (d' + 1) 238 14 [some (.ref 84), some (.retAddr w)] [] h2 := (zx1 zf238_9).trans rfl
    rw [e4]
    refine seg (V := [(L : Int), ((sk isLt (tp90 h0) L (sk isBl (tp90 h0) L p) : Nat) : Int), ((sk isBl (tp90 h0) L p : Nat) : Int), 0]) (ca := 0) (sa := 0) (nv := 4) hE hsm (fin_n (V := [(L : Int), ((sk isLt (tp90 h0) L (sk isBl (tp90 h0) L p) : Nat) : Int), ((sk isBl (tp90 h0) L p : Nat) : Int), 0]) (ca := 0) (sa := 0) rfl (fun y h' j1 j2 j3 => ?_)) k9 (benv_c (by omega) (by omega) (benv_c (by omega) (by omega) (benv_c (by omega) (by omega) (benv_c (by decide) (by decide) benv_n)))) rfl bcs_n (m_o q1 q2 q3) (show bLR [(L : Int), ((sk isLt (tp90 h0) L (sk isBl (tp90 h0) L p) : Nat) : Int), ((sk isBl (tp90 h0) L p : Nat) : Int), 0] [some (.inr (.inl (.ref 84))), none] [some (.ref 84), some (.retAddr w)] from ⟨⟨_, rfl, rfl⟩, trivial, trivial⟩) mp_1 (Nat.le_refl B) (fun N hN => absurd hN List.not_mem_nil) (fun N hN => absurd hN List.not_mem_nil) (d' + 1) (n + 2) (by omega) (by omega)
    obtain ⟨r1, r2, r3⟩ := m_pv j3
    rw [m_v2] at r2 r3
    cases y with
    | none => exact j2.elim
    | some y =>
      obtain ⟨z, z1, z2⟩ := j2
      exact ⟨z, h', by rw [z1], brel_k z2, j1, r1, r2, r3⟩
end MP
