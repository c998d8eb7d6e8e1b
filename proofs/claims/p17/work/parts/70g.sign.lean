/-! the model's signs, and words that may stand next -/
def msL (c : bI) : bLs := [some (.inr (.inl (.ref 84))), some (.inl c)]
def msE (y : Int × Int) : bE := [(0, 400), (0, 400), (0, 400), y, (33, 126)]
noncomputable def msF (r : Int) (p : bI) : bS → Option bV → Bool := bfn 0 0 5 (bidl 5 0) [([], [], some (.inl (r, [])), [(84, 11, mv 0), (84, 10, p), (84, 12, mv 2)])]
noncomputable def msR (r : Int) (p : bI) (y : Int × Int) (cs : bC) (ov : bO) : Bool := btz wM (60, smT) ctb (msF r p) 60 239 1000000 5 [] (5, msE y, cs, ov, (0, []), (0, [])) 4 (msL (mv 4))
set_option maxRecDepth 100000 in
theorem ms_1 : msR 0 (mv 1) (-128, 127) [mge] mO = true := by decide +kernel
set_option maxRecDepth 100000 in
theorem ms_2 : msR 0 (mv 1) (-128, 127) [mlt, (-1, [(3, -1), (4, 1)])] (mO ++ mB) = true := by decide +kernel
set_option maxRecDepth 100000 in
theorem ms_3 : msR 0 (mv 1) (-128, 127) [mlt, (-1, [(3, 1), (4, -1)])] (mO ++ mB) = true := by decide +kernel
set_option maxRecDepth 100000 in
theorem ms_4 : msR 1 mf1 (-128, 127) [mlt, (0, [(3, 1), (4, -1)]), (0, [(3, -1), (4, 1)])] (mO ++ mB) = true := by decide +kernel
/-- what a method of the model ends in that answers -/
def mvQ (h0 : zH) (L p b : Nat) (r : Int) (o : Option zR) : Prop := ∃ (x : Int32) (h' : zH), o = some (.inl (some (.int x)), h') ∧ x.toInt = r ∧ bRQ ctb wM h0 0 0 h' ∧ (h'.2.1 84 11).toInt = (L : Int) ∧ (h'.2.1 84 10).toInt = (p : Int) ∧ (h'.2.1 84 12).toInt = (b : Int)
set_option maxRecDepth 100000 in
theorem bRQ_tr {tb : bTb} {W : Nat} {h0 h1 h2 : zH} (a : bRQ tb W h0 0 0 h1) (b : bRQ tb W h1 0 0 h2) : bRQ tb W h0 0 0 h2 :=
  ⟨b.1, b.2.1, b.2.2.1, fun c k z => (b.2.2.2.1 c k z).trans (a.2.2.2.1 c k z), Nat.le_trans b.2.2.2.2.1 (Nat.add_le_add_right a.2.2.2.2.1 0), Nat.le_trans b.2.2.2.2.2 (Nat.add_le_add_right a.2.2.2.2.2 0)⟩
set_option maxRecDepth 100000 in
theorem bRQ_w0 {tb : bTb} {W : Nat} {h0 h1 : zH} (a : bRQ tb 0 h0 0 0 h1) : bRQ tb W h0 0 0 h1 :=
  ⟨a.1, a.2.1, a.2.2.1, fun c k _ => a.2.2.2.1 c k (Nat.zero_testBit _), a.2.2.2.2⟩
set_option maxRecDepth 100000 in
theorem zf239_0 : zfetch 239 0 = some (.aload_n 0, 1, (0, 0, 0), 0, 0) := by decide +kernel
set_option maxRecDepth 100000 in
theorem zf239_1 : zfetch 239 1 = some (.invokevirtual 97, 3, (0, 235, 0), 0, 1711) := by decide +kernel
section MS
variable {E : zE} {B F : Nat} {h0 h : zH} {L p b : Nat}
set_option maxRecDepth 100000 in
theorem ms_o {y c : Int} (h1 : (h.2.1 84 11).toInt = (L : Int)) (h2 : (h.2.1 84 10).toInt = (p : Int)) (h3 : (h.2.1 84 12).toInt = (b : Int)) : bOV E [(L : Int), (p : Int), (b : Int), y, c] mO h :=
  bov_c (k := 11) rfl rfl rfl rfl (by unfold mv; rw [bvx_v]; exact h1) (bov_c (k := 10) rfl rfl rfl rfl (by unfold mv; rw [bvx_v]; exact h2) (bov_c (k := 12) rfl rfl rfl rfl (by unfold mv; rw [bvx_v]; exact h3) bov_n))
set_option maxRecDepth 100000 in
theorem ms_oB {y c : Int} (h2 : (h.2.1 90 p).toInt = y) : bOV E [(L : Int), (p : Int), (b : Int), y, c] mB h :=
  bov_c (k := p) rfl rfl (by rw [bvx_v]; rfl) rfl (by unfold mv; rw [bvx_v]; exact h2) bov_n
set_option maxRecDepth 100000 in
theorem ms_fin (hE : E.1 < 2147483648) (hsm : bSO E ctb B (60, smT)) (hr : bRQ ctb wM h0 0 0 h) (hL : L ≤ 400) (hp : p ≤ 400) (hb : b ≤ 400) {c : Int} (hc : 33 ≤ c ∧ c ≤ 126) {y : Int} (hy : -128 ≤ y ∧ y ≤ 127) {cs : bC} {ov : bO} (hcs : bcs [(L : Int), (p : Int), (b : Int), y, c] cs) (hov : bOV E [(L : Int), (p : Int), (b : Int), y, c] ov h) {r : Int} {pf : bI} (e : msR r pf (-128, 127) cs ov = true)
    {p9 : Nat} (g1 : bvx [(L : Int), (p : Int), (b : Int), y, c] pf = (p9 : Int)) {x : Int32} (hx : x.toInt = c) : ∀ d f, 60 ≤ d → B + 1000000 ≤ f → mvQ h0 L p9 b r (zex E f d 239 4 [some (.ref 84), some (.int x)] [] h) := by
  refine seg (V := [(L : Int), (p : Int), (b : Int), y, c]) (ca := 0) (sa := 0) (nv := 5) hE hsm (fin_n (V := [(L : Int), (p : Int), (b : Int), y, c]) (ca := 0) (sa := 0) rfl (fun w h' k1 k2 k3 => ?_)) hr (benv_c (by omega) (by omega) (benv_c (by omega) (by omega) (benv_c (by omega) (by omega) (benv_c hy.1 hy.2 (benv_c hc.1 hc.2 benv_n))))) rfl hcs hov (show bLR [(L : Int), (p : Int), (b : Int), y, c] (msL (mv 4)) [some (.ref 84), some (.int x)] from ⟨⟨_, rfl, rfl⟩, ⟨_, rfl, x, rfl, by rw [hx]; exact brel_v rfl⟩, trivial⟩) e (Nat.le_refl B) (fun N hN => absurd hN List.not_mem_nil) (fun N hN => absurd hN List.not_mem_nil)
  have p1 := bpv_x k3 (c := 84) (k := 11) rfl (List.Mem.head _)
  have p2 := bpv_x k3 (c := 84) (k := 10) rfl (List.Mem.tail _ (List.Mem.head _))
  have p3 := bpv_x k3 (c := 84) (k := 12) rfl (List.Mem.tail _ (List.Mem.tail _ (List.Mem.head _)))
  unfold mv at p1 p3
  rw [bvx_v] at p1 p3
  cases w with
  | none => exact k2.elim
  | some w =>
    obtain ⟨z, z1, z2⟩ := k2
    exact ⟨z, h', by rw [z1], brel_k z2, k1, p1, by rw [p2, g1], p3⟩
set_option maxRecDepth 100000 in
theorem m_sign (hE : E.1 < 2147483648) (hsm : bSO E ctb B (60, smT)) (hF : 1000000 ≤ F) (hL : L ≤ 400) (hp : p ≤ L) (hb : b ≤ 400) (hr : bRQ ctb wM h0 0 0 h) (p1 : (h.2.1 84 11).toInt = (L : Int)) (p2 : (h.2.1 84 10).toInt = (p : Int)) (p3 : (h.2.1 84 12).toInt = (b : Int)) {c : Int} (hc : 33 ≤ c ∧ c ≤ 126) {x : Int32} (hx : x.toInt = c) :
    ∀ d f, 61 ≤ d → B + F * 402 ≤ f → mvQ h0 L (if sk isBl (tp90 h0) L p < L ∧ tp90 h0 (sk isBl (tp90 h0) L p) = c then sk isBl (tp90 h0) L p + 1 else sk isBl (tp90 h0) L p) (sk isBl (tp90 h0) L p) (if sk isBl (tp90 h0) L p < L ∧ tp90 h0 (sk isBl (tp90 h0) L p) = c then 1 else 0) (zex E f d 239 0 [some (.ref 84), some (.int x)] [] h) := by
  intro d f hd hf
  have hmul : F * 402 = F * 401 + F := Nat.mul_succ F 401
  obtain ⟨n, hn⟩ : ∃ n, f = n + 2 := ⟨f - 2, by omega⟩
  obtain ⟨d', hd'⟩ : ∃ d', d = d' + 1 := ⟨d - 1, by omega⟩
  subst hd'
  have hf1 : B + F * 401 ≤ n := by omega
  have hf2 : B + 1000000 ≤ n := by
    have : F * 401 = F * 400 + F := Nat.mul_succ F 400
    omega
  obtain ⟨h1, e1, k1, k2, k3, k4⟩ := m_blanks hE hsm hF hL hp hb hr p1 p2 p3 d' n (by omega) hf1
  have ha := hr.2.2.1 84 _ cs84 (by intro z; cases z)
  have e2 : zex E (n + 2) (d' + 1) 239 0 [some (.ref 84), some (.int x)] [] h = zex E n (d' + 1) 239 4 [some (.ref 84), some (.int x)] [] h1 := ((zx1 zf239_0).trans rfl : zex E (n + 2) (d' + 1) 239 0 [some (.ref 84), some (.int x)] [] h = zex E (n + 1) (d' + 1) 239 1 [some (.ref 84), some (.int x)] [.ref 84] h).trans (zcv1 zf239_1 zmi235 ha rfl e1)
  have hs := sk_le (P := isBl) (T := tp90 h0) hp
  rw [hn, e2]
  have v1 : ∀ (q b : Nat) (y : Int), bvx [(L : Int), (q : Int), (b : Int), y, c] (mv 1) = (q : Int) := fun q b y => by unfold mv; rw [bvx_v]; rfl
  have vf : ∀ (q b : Nat) (y : Int), bvx [(L : Int), (q : Int), (b : Int), y, c] mf1 = ((q + 1 : Nat) : Int) := fun q b y => by
    show 1 + (1 * (q : Int) + 0) = ((q + 1 : Nat) : Int)
    omega
  by_cases hlt : sk isBl (tp90 h0) L p < L
  · have hbb := k1.1.1 90 (sk isBl (tp90 h0) L p)
    rw [biv90] at hbb
    have hT : tp90 h0 (sk isBl (tp90 h0) L p) = (h1.2.1 90 (sk isBl (tp90 h0) L p)).toInt := by unfold tp90; rw [wM_90 k1]
    have hl9 : ∀ y c : Int, 0 ≤ bvx [(L : Int), ((sk isBl (tp90 h0) L p : Nat) : Int), ((sk isBl (tp90 h0) L p : Nat) : Int), y, c] mlt := fun y c => by
      show 0 ≤ -1 + (1 * (L : Int) + ((-1) * ((sk isBl (tp90 h0) L p : Nat) : Int) + 0))
      omega
    by_cases hc9 : tp90 h0 (sk isBl (tp90 h0) L p) = c
    · rw [if_pos ⟨hlt, hc9⟩, if_pos ⟨hlt, hc9⟩]
      exact ms_fin hE hsm k1 hL (by omega) (by omega) hc (y := (h1.2.1 90 (sk isBl (tp90 h0) L p)).toInt) hbb (bcs_c rfl (hl9 _ _) (bcs_c rfl (by show 0 ≤ 0 + (1 * (h1.2.1 90 (sk isBl (tp90 h0) L p)).toInt + ((-1) * c + 0)); omega) (bcs_c rfl (by show 0 ≤ 0 + ((-1) * (h1.2.1 90 (sk isBl (tp90 h0) L p)).toInt + (1 * c + 0)); omega) bcs_n))) (bov_app (ms_o k2 k3 k4) (ms_oB rfl)) ms_4 (vf _ _ _) hx (d' + 1) n (by omega) hf2
    · rw [if_neg (fun z => hc9 z.2), if_neg (fun z => hc9 z.2)]
      by_cases hlo : (h1.2.1 90 (sk isBl (tp90 h0) L p)).toInt < c
      · exact ms_fin hE hsm k1 hL (by omega) (by omega) hc (y := (h1.2.1 90 (sk isBl (tp90 h0) L p)).toInt) hbb (bcs_c rfl (hl9 _ _) (bcs_c rfl (by show 0 ≤ -1 + ((-1) * (h1.2.1 90 (sk isBl (tp90 h0) L p)).toInt + (1 * c + 0)); omega) bcs_n)) (bov_app (ms_o k2 k3 k4) (ms_oB rfl)) ms_2 (v1 _ _ _) hx (d' + 1) n (by omega) hf2
      · exact ms_fin hE hsm k1 hL (by omega) (by omega) hc (y := (h1.2.1 90 (sk isBl (tp90 h0) L p)).toInt) hbb (bcs_c rfl (hl9 _ _) (bcs_c rfl (by show 0 ≤ -1 + (1 * (h1.2.1 90 (sk isBl (tp90 h0) L p)).toInt + ((-1) * c + 0)); omega) bcs_n)) (bov_app (ms_o k2 k3 k4) (ms_oB rfl)) ms_3 (v1 _ _ _) hx (d' + 1) n (by omega) hf2
  · rw [if_neg (fun z => hlt z.1), if_neg (fun z => hlt z.1)]
    exact ms_fin hE hsm k1 hL (by omega) (by omega) hc (y := 0) ⟨by decide, by decide⟩ (bcs_c rfl (by show 0 ≤ 0 + ((-1) * (L : Int) + (1 * ((sk isBl (tp90 h0) L p : Nat) : Int) + 0)); omega) bcs_n) (ms_o k2 k3 k4) ms_1 (v1 _ _ _) hx (d' + 1) n (by omega) hf2
end MS
