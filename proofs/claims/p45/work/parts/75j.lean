/-! p45: seed, compared (wip/zab2/c/lgen58.py) -/
set_option maxRecDepth 100000 in
theorem zgu82_0 : zfetch 82 0 = some (.aload_n 0, 1, (0, 0, 0), 0, 0) := by decide +kernel
set_option maxRecDepth 100000 in
theorem zgu82_1 : zfetch 82 1 = some (.getfield 26, 3, (11, 2, 0), 0, 577) := by decide +kernel
set_option maxRecDepth 100000 in
theorem zgu82_4 : zfetch 82 4 = some (.getfield 346, 3, (0, 12, 1), 0, 413) := by decide +kernel
set_option maxRecDepth 100000 in
theorem zgu82_7 : zfetch 82 7 = some (.istore_n 2, 1, (0, 0, 0), 0, 0) := by decide +kernel
set_option maxRecDepth 100000 in
theorem zgu82_8 : zfetch 82 8 = some (.aload_n 0, 1, (0, 0, 0), 0, 0) := by decide +kernel
set_option maxRecDepth 100000 in
theorem zgu82_9 : zfetch 82 9 = some (.getfield 26, 3, (11, 2, 0), 0, 577) := by decide +kernel
set_option maxRecDepth 100000 in
theorem zgu82_12 : zfetch 82 12 = some (.iload_n 1, 1, (0, 0, 0), 0, 0) := by decide +kernel
set_option maxRecDepth 100000 in
theorem zgu82_13 : zfetch 82 13 = some (.putfield 346, 3, (0, 12, 1), 0, 413) := by decide +kernel
set_option maxRecDepth 100000 in
theorem zgu82_16 : zfetch 82 16 = some (.iload_n 2, 1, (0, 0, 0), 0, 0) := by decide +kernel
set_option maxRecDepth 100000 in
theorem zgu82_17 : zfetch 82 17 = some (.ireturn, 1, (0, 0, 0), 0, 0) := by decide +kernel
set_option maxRecDepth 100000 in
theorem zgu334_0 : zfetch 334 0 = some (.aload_n 0, 1, (0, 0, 0), 0, 0) := by decide +kernel
set_option maxRecDepth 100000 in
theorem zgu334_1 : zfetch 334 1 = some (.iconst 0, 1, (0, 0, 0), 0, 0) := by decide +kernel
set_option maxRecDepth 100000 in
theorem zgu334_2 : zfetch 334 2 = some (.putfield 3, 3, (12, 0, 0), 0, 1613) := by decide +kernel
set_option maxRecDepth 100000 in
theorem zgu334_5 : zfetch 334 5 = some (.aload_n 0, 1, (0, 0, 0), 0, 0) := by decide +kernel
set_option maxRecDepth 100000 in
theorem zgu334_6 : zfetch 334 6 = some (.getfield 13, 3, (12, 1, 0), 0, 1614) := by decide +kernel
set_option maxRecDepth 100000 in
theorem zgu334_9 : zfetch 334 9 = some (.bipush 12, 2, (0, 0, 0), 12, 0) := by decide +kernel
set_option maxRecDepth 100000 in
theorem zgu334_11 : zfetch 334 11 = some (.iaload, 1, (0, 0, 0), 0, 0) := by decide +kernel
set_option maxRecDepth 100000 in
theorem zgu334_12 : zfetch 334 12 = some (.istore_n 2, 1, (0, 0, 0), 0, 0) := by decide +kernel
set_option maxRecDepth 100000 in
theorem zgu334_13 : zfetch 334 13 = some (.aload_n 0, 1, (0, 0, 0), 0, 0) := by decide +kernel
set_option maxRecDepth 100000 in
theorem zgu334_14 : zfetch 334 14 = some (.getfield 13, 3, (12, 1, 0), 0, 1614) := by decide +kernel
set_option maxRecDepth 100000 in
theorem zgu334_17 : zfetch 334 17 = some (.bipush 12, 2, (0, 0, 0), 12, 0) := by decide +kernel
set_option maxRecDepth 100000 in
theorem zgu334_19 : zfetch 334 19 = some (.iload_n 1, 1, (0, 0, 0), 0, 0) := by decide +kernel
set_option maxRecDepth 100000 in
theorem zgu334_20 : zfetch 334 20 = some (.iastore, 1, (0, 0, 0), 0, 0) := by decide +kernel
set_option maxRecDepth 100000 in
theorem zgu334_21 : zfetch 334 21 = some (.iload_n 2, 1, (0, 0, 0), 0, 0) := by decide +kernel
set_option maxRecDepth 100000 in
theorem zgu334_22 : zfetch 334 22 = some (.ireturn, 1, (0, 0, 0), 0, 0) := by decide +kernel
set_option maxRecDepth 100000 in
theorem se_c {E : zE} {n d : Nat} {h : zH} {k : Int32}  (a0 : zat h.1 0 = some (.inr (.inl (11, [some (some 1), some (some 3), some (some 18), some (some 25), some (some 27), some (some 30), some (some 53), some (some 62), some (some 76), none])))) (a18 : zat h.1 18 = some (.inr (.inl (0, [some (some 19), some (some 20), some (some 21), some (some 22), some (some 23), some (some 24), none, none, none, none, none, none, none]))))  : zex E (n + 10) d 82 0 [some (.ref 0), some (.int k), none] [] h = some (.inl (some (.int (h.2.1 18 12))), (zsetI h 18 (upd (h.2.1 18) 12 k))) :=
  ((yAn zgu82_0 rfl rfl) : zex E (n + 10) d 82 0 [some (.ref 0), some (.int k), none] [] h = zex E (n + 9) d 82 1 [some (.ref 0), some (.int k), none] [.ref 0] h).trans (((zgx zgu82_1 a0 rfl) : zex E (n + 9) d 82 1 [some (.ref 0), some (.int k), none] [.ref 0] h = zex E (n + 8) d 82 4 [some (.ref 0), some (.int k), none] [.ref 18] h).trans (((zgi zgu82_4 a18 rfl) : zex E (n + 8) d 82 4 [some (.ref 0), some (.int k), none] [.ref 18] h = zex E (n + 7) d 82 7 [some (.ref 0), some (.int k), none] [.int (h.2.1 18 12)] h).trans (((ySn zgu82_7) : zex E (n + 7) d 82 7 [some (.ref 0), some (.int k), none] [.int (h.2.1 18 12)] h = zex E (n + 6) d 82 8 [some (.ref 0), some (.int k), some (.int (h.2.1 18 12))] [] h).trans (((yAn zgu82_8 rfl rfl) : zex E (n + 6) d 82 8 [some (.ref 0), some (.int k), some (.int (h.2.1 18 12))] [] h = zex E (n + 5) d 82 9 [some (.ref 0), some (.int k), some (.int (h.2.1 18 12))] [.ref 0] h).trans (((zgx zgu82_9 a0 rfl) : zex E (n + 5) d 82 9 [some (.ref 0), some (.int k), some (.int (h.2.1 18 12))] [.ref 0] h = zex E (n + 4) d 82 12 [some (.ref 0), some (.int k), some (.int (h.2.1 18 12))] [.ref 18] h).trans (((yIn zgu82_12 rfl) : zex E (n + 4) d 82 12 [some (.ref 0), some (.int k), some (.int (h.2.1 18 12))] [.ref 18] h = zex E (n + 3) d 82 13 [some (.ref 0), some (.int k), some (.int (h.2.1 18 12))] [.int k, .ref 18] h).trans (((zpx zgu82_13 a18 rfl) : zex E (n + 3) d 82 13 [some (.ref 0), some (.int k), some (.int (h.2.1 18 12))] [.int k, .ref 18] h = zex E (n + 2) d 82 16 [some (.ref 0), some (.int k), some (.int (h.2.1 18 12))] [] (zsetI h 18 (upd (h.2.1 18) 12 k))).trans (((yIn zgu82_16 rfl) : zex E (n + 2) d 82 16 [some (.ref 0), some (.int k), some (.int (h.2.1 18 12))] [] (zsetI h 18 (upd (h.2.1 18) 12 k)) = zex E (n + 1) d 82 17 [some (.ref 0), some (.int k), some (.int (h.2.1 18 12))] [.int (h.2.1 18 12)] (zsetI h 18 (upd (h.2.1 18) 12 k))).trans (((yRet1 zgu82_17 rfl) : zex E (n + 1) d 82 17 [some (.ref 0), some (.int k), some (.int (h.2.1 18 12))] [.int (h.2.1 18 12)] (zsetI h 18 (upd (h.2.1 18) 12 k)) = some (.inl (some (.int (h.2.1 18 12))), (zsetI h 18 (upd (h.2.1 18) 12 k)))))))))))))
set_option maxRecDepth 100000 in
theorem se_m {E : zE} {n d : Nat} {h : zH} {k s : Int32} (hs : (zsetI h 84 (upd (h.2.1 84) 0 0)).2.1 85 12 = s) (a84 : zat h.1 84 = some (.inr (.inl (12, [none, some (some 85), some (some 86), some (some 87), some (some 88), some (some 89), none, none, some (some 90), none, none, none, none, none, none, some (some 91), none, some (some 92), some (some 93)])))) (a85 : zat h.1 85 = some (.inl (0, 2475, [])))  : zex E (n + 15) d 334 0 [some (.ref 84), some (.int k), none] [] h = some (.inl (some (.int s)), (zsetI (zsetI h 84 (upd (h.2.1 84) 0 0)) 85 (upd ((zsetI h 84 (upd (h.2.1 84) 0 0)).2.1 85) 12 k))) :=
  ((yAn zgu334_0 rfl rfl) : zex E (n + 15) d 334 0 [some (.ref 84), some (.int k), none] [] h = zex E (n + 14) d 334 1 [some (.ref 84), some (.int k), none] [.ref 84] h).trans (((yCi zgu334_1) : zex E (n + 14) d 334 1 [some (.ref 84), some (.int k), none] [.ref 84] h = zex E (n + 13) d 334 2 [some (.ref 84), some (.int k), none] [.int 0, .ref 84] h).trans (((zpx zgu334_2 a84 rfl) : zex E (n + 13) d 334 2 [some (.ref 84), some (.int k), none] [.int 0, .ref 84] h = zex E (n + 12) d 334 5 [some (.ref 84), some (.int k), none] [] (zsetI h 84 (upd (h.2.1 84) 0 0))).trans (((yAn zgu334_5 rfl rfl) : zex E (n + 12) d 334 5 [some (.ref 84), some (.int k), none] [] (zsetI h 84 (upd (h.2.1 84) 0 0)) = zex E (n + 11) d 334 6 [some (.ref 84), some (.int k), none] [.ref 84] (zsetI h 84 (upd (h.2.1 84) 0 0))).trans (((zgx zgu334_6 a84 rfl) : zex E (n + 11) d 334 6 [some (.ref 84), some (.int k), none] [.ref 84] (zsetI h 84 (upd (h.2.1 84) 0 0)) = zex E (n + 10) d 334 9 [some (.ref 84), some (.int k), none] [.ref 85] (zsetI h 84 (upd (h.2.1 84) 0 0))).trans (((yCb zgu334_9) : zex E (n + 10) d 334 9 [some (.ref 84), some (.int k), none] [.ref 85] (zsetI h 84 (upd (h.2.1 84) 0 0)) = zex E (n + 9) d 334 11 [some (.ref 84), some (.int k), none] [.int 12, .ref 85] (zsetI h 84 (upd (h.2.1 84) 0 0))).trans (((zlk zgu334_11 a85 (by decide : (12 : Int32).toInt = ((12 : Nat) : Int)) (by decide) hs) : zex E (n + 9) d 334 11 [some (.ref 84), some (.int k), none] [.int 12, .ref 85] (zsetI h 84 (upd (h.2.1 84) 0 0)) = zex E (n + 8) d 334 12 [some (.ref 84), some (.int k), none] [.int s] (zsetI h 84 (upd (h.2.1 84) 0 0))).trans (((ySn zgu334_12) : zex E (n + 8) d 334 12 [some (.ref 84), some (.int k), none] [.int s] (zsetI h 84 (upd (h.2.1 84) 0 0)) = zex E (n + 7) d 334 13 [some (.ref 84), some (.int k), some (.int s)] [] (zsetI h 84 (upd (h.2.1 84) 0 0))).trans (((yAn zgu334_13 rfl rfl) : zex E (n + 7) d 334 13 [some (.ref 84), some (.int k), some (.int s)] [] (zsetI h 84 (upd (h.2.1 84) 0 0)) = zex E (n + 6) d 334 14 [some (.ref 84), some (.int k), some (.int s)] [.ref 84] (zsetI h 84 (upd (h.2.1 84) 0 0))).trans (((zgx zgu334_14 a84 rfl) : zex E (n + 6) d 334 14 [some (.ref 84), some (.int k), some (.int s)] [.ref 84] (zsetI h 84 (upd (h.2.1 84) 0 0)) = zex E (n + 5) d 334 17 [some (.ref 84), some (.int k), some (.int s)] [.ref 85] (zsetI h 84 (upd (h.2.1 84) 0 0))).trans (((yCb zgu334_17) : zex E (n + 5) d 334 17 [some (.ref 84), some (.int k), some (.int s)] [.ref 85] (zsetI h 84 (upd (h.2.1 84) 0 0)) = zex E (n + 4) d 334 19 [some (.ref 84), some (.int k), some (.int s)] [.int 12, .ref 85] (zsetI h 84 (upd (h.2.1 84) 0 0))).trans (((yIn zgu334_19 rfl) : zex E (n + 4) d 334 19 [some (.ref 84), some (.int k), some (.int s)] [.int 12, .ref 85] (zsetI h 84 (upd (h.2.1 84) 0 0)) = zex E (n + 3) d 334 20 [some (.ref 84), some (.int k), some (.int s)] [.int k, .int 12, .ref 85] (zsetI h 84 (upd (h.2.1 84) 0 0))).trans (((zsk zgu334_20 a85 (by decide : (12 : Int32).toInt = ((12 : Nat) : Int)) (by decide)) : zex E (n + 3) d 334 20 [some (.ref 84), some (.int k), some (.int s)] [.int k, .int 12, .ref 85] (zsetI h 84 (upd (h.2.1 84) 0 0)) = zex E (n + 2) d 334 21 [some (.ref 84), some (.int k), some (.int s)] [] (zsetI (zsetI h 84 (upd (h.2.1 84) 0 0)) 85 (upd ((zsetI h 84 (upd (h.2.1 84) 0 0)).2.1 85) 12 k))).trans (((yIn zgu334_21 rfl) : zex E (n + 2) d 334 21 [some (.ref 84), some (.int k), some (.int s)] [] (zsetI (zsetI h 84 (upd (h.2.1 84) 0 0)) 85 (upd ((zsetI h 84 (upd (h.2.1 84) 0 0)).2.1 85) 12 k)) = zex E (n + 1) d 334 22 [some (.ref 84), some (.int k), some (.int s)] [.int s] (zsetI (zsetI h 84 (upd (h.2.1 84) 0 0)) 85 (upd ((zsetI h 84 (upd (h.2.1 84) 0 0)).2.1 85) 12 k))).trans (((yRet1 zgu334_22 rfl) : zex E (n + 1) d 334 22 [some (.ref 84), some (.int k), some (.int s)] [.int s] (zsetI (zsetI h 84 (upd (h.2.1 84) 0 0)) 85 (upd ((zsetI h 84 (upd (h.2.1 84) 0 0)).2.1 85) 12 k)) = some (.inl (some (.int s)), (zsetI (zsetI h 84 (upd (h.2.1 84) 0 0)) 85 (upd ((zsetI h 84 (upd (h.2.1 84) 0 0)).2.1 85) 12 k))))))))))))))))))
set_option maxRecDepth 100000 in
theorem SX_seed {h h2 : zH} {v : Int32} (e1 : h2.2.1 4 0 = h.2.1 4 0) (e2 : h2.2.1 4 2 = h.2.1 4 2) (e3 : ∀ k : Nat, k < 8 → (k : Int) < (h.2.1 4 2).toInt → h2.2.1 (4 + 4) k = h.2.1 (4 + 4) k) (a1 : ∀ c k m, qk c k m → c ≠ 0 → h2.2.1 (18 + c) k = h.2.1 (18 + c) k) (a2 : ∀ c k m, qk c k m → m ≠ 12 → h2.2.1 85 m = h.2.1 85 m) (b1 : h2.2.1 18 12 = v) (b2 : h2.2.1 85 12 = v) (s : SX h 4 18 85 0) : SX h2 4 18 85 0 := by
  refine ⟨fun c k m q hc => ?_, fun hk r hr h0 => ?_, fun q hq => ⟨fun hs => ⟨fun hk => ?_, fun hk => ?_⟩, fun hs hk => ?_⟩⟩
  · by_cases hc0 : c = 0
    · subst hc0
      rcases q with ⟨_, x1, _⟩ | ⟨_, x1, _⟩ | ⟨_, x1, _⟩ | ⟨_, x1, _⟩ | ⟨x0, x1, x2, x3⟩ | ⟨x0, x1, x2, x3⟩
      · exact absurd x1 (by decide)
      · exact absurd x1 (by decide)
      · exact absurd x1 (by decide)
      · exact absurd x1 (by decide)
      · subst x2; subst x3
        rw [Nat.zero_add]
        exact b1.trans b2.symm
      · exact (show False from x0).elim
    · have hm : m ≠ 12 := by
        rcases qk_m q with ⟨_, z⟩ | ⟨_, z⟩ | ⟨_, z⟩ | ⟨_, z⟩ | z <;> omega
      have t := s.1 c k m q (fun z => by rw [← e2]; exact hc z)
      rw [Nat.zero_add] at t ⊢
      rw [a1 c k m q hc0, a2 c k m q hm]
      exact t
  · rw [e1] at h0
    rw [a1 1 r (15 + 11 * r) (Or.inl ⟨hk, rfl, hr, rfl⟩) (by decide)]
    exact s.2.1 hk r hr h0
  · rw [e2] at hs
    rw [a1 2 q (185 + 24 * q) (Or.inr (Or.inl ⟨hk, rfl, hq, rfl⟩)) (by decide)]
    exact ((s.2.2 q hq).1 hs).1 hk
  · rw [e2] at hs
    rw [a1 4 q (187 + 24 * q) (Or.inr (Or.inr (Or.inr (Or.inl ⟨hk, rfl, hq, rfl⟩)))) (by decide)]
    exact ((s.2.2 q hq).1 hs).2 hk
  · rw [e2] at hs
    rw [a1 2 q (185 + 24 * q) (Or.inr (Or.inl ⟨hk, rfl, hq, rfl⟩)) (by decide), e3 q hq hs]
    exact (s.2.2 q hq).2 hs hk
section OU
variable {E : zE} {B : Nat} {h : zH} {L im : Nat}
set_option maxRecDepth 100000 in
theorem op_seed (hE : E.1 ≤ 3072) (hsm : bSO E ctb B (60, smT)) (hX : LX h L im) {iv : Int32} {I : Nat} (hiv : iv.toInt = (I : Int)) (hI6 : I + 6 ≤ E.1) {u5 u6 : Option Value} : ∀ d f, 100 ≤ d → B + 6000000 ≤ f → opS E d iv f h (zex E (f + 100) d 0 1834 (t5K iv u5 u6) [] h) := by
  intro d f hd hf
  obtain ⟨d', hd'⟩ : ∃ d', d = d' + 1 := ⟨d - 1, by omega⟩
  subst hd'
  obtain ⟨hL9, pX, pE⟩ := id hX
  obtain ⟨gI, gP, gT, q4⟩ := id hL9
  have w1 := bi32 (E.2 (I + 1))
  obtain ⟨v1, h1, c1, c2, ⟨c3, c4⟩, c5, c6, c7, p1, m1, b1⟩ := hsm 82 [sc41] rfl sc41 (List.Mem.head _) (by decide) [(E.2 (I + 1)).toInt] [.ref 0, .int (E.2 (I + 1))] h d' (f + 93) (2, 3, 0, 11, 1, 0) rfl (by show 0 ≤ d'; omega) (by omega) ⟨rfl, ⟨_, rfl, brel_v rfl⟩, trivial⟩ (benv_c w1.1 w1.2 benv_n) bcs_n (fun e he => absurd he List.not_mem_nil) gI gP gT
  obtain ⟨x, hx⟩ := bPR_i m1 (by decide) b1
  subst hx
  have c1 : zex E (f + 93) d' 82 0 [some (.ref 0), some (.int (E.2 (I + 1))), none] [] h = some (.inl (some (.int x)), h1) := c1
  obtain ⟨v2, h2, g1, g2, ⟨g3, g4⟩, g5, g6, g7, p2, m2, b2⟩ := hsm 334 [sc410] rfl sc410 (List.Mem.head _) (by decide) [(E.2 (I + 1)).toInt] [.ref 84, .int (E.2 (I + 1))] h1 d' (f + 86) (2, 3, 0, 12, 1, 0) rfl (by show 0 ≤ d'; omega) (by omega) ⟨rfl, ⟨_, rfl, brel_v rfl⟩, trivial⟩ (benv_c w1.1 w1.2 benv_n) bcs_n (fun e he => absurd he List.not_mem_nil) c2 c3 c4
  obtain ⟨y, hy⟩ := bPR_i m2 (by decide) b2
  subst hy
  have g1 : zex E (f + 86) d' 334 0 [some (.ref 84), some (.int (E.2 (I + 1))), none] [] h1 = some (.inl (some (.int y)), h2) := g1
  have c8 : h1.2.2.2.1 ≤ h.2.2.2.1 + 0 := c6
  have c9 : h1.2.2.2.2 ≤ h.2.2.2.2 + 0 := c7
  have g8 : h2.2.2.2.1 ≤ h1.2.2.2.1 + 0 := g6
  have g9 : h2.2.2.2.2 ≤ h1.2.2.2.2 + 0 := g7
  have k1 := se_c (E := E) (n := f + 83) (d := d') (h := h) (k := E.2 (I + 1)) (gT 0 _ (show bg2 ctb 0 = some (.inr (.inl (11, [some (some 1), some (some 3), some (some 18), some (some 25), some (some 27), some (some 30), some (some 53), some (some 62), some (some 76), none]))) from rfl) (by intro z; cases z)) (gT 18 _ (show bg2 ctb 18 = some (.inr (.inl (0, [some (some 19), some (some 20), some (some 21), some (some 22), some (some 23), some (some 24), none, none, none, none, none, none, none]))) from rfl) (by intro z; cases z))
  have a1 := inl_j c1 k1
  have hx0 := a1.1
  injection hx0 with hx0
  injection hx0 with hx0
  have k2 := se_m (E := E) (n := f + 71) (d := d') (h := h1) (k := E.2 (I + 1)) (s := h1.2.1 85 12) (by rw [zs_ne (by decide)]) (c4 84 _ (show bg2 ctb 84 = some (.inr (.inl (12, [none, some (some 85), some (some 86), some (some 87), some (some 88), some (some 89), none, none, some (some 90), none, none, none, none, none, none, some (some 91), none, some (some 92), some (some 93)]))) from rfl) (by intro z; cases z)) (c4 85 _ (show bg2 ctb 85 = some (.inl (0, 2475, [])) from rfl) (by intro z; cases z))
  have a2 := inl_j g1 k2
  have hy0 := a2.1
  injection hy0 with hy0
  injection hy0 with hy0
  have t0 : h.2.1 18 12 = h.2.1 85 12 := pE.2.2.1.1 0 12 12 (Or.inr (Or.inr (Or.inr (Or.inr (Or.inl ⟨trivial, rfl, rfl, rfl⟩))))) (fun w => absurd w (by decide))
  have d85 : ∀ k, h1.2.1 85 k = h.2.1 85 k := fun k => by rw [a1.2, zs_ne (by decide)]
  have hqq : x.toInt = y.toInt := by rw [hx0, hy0, d85, t0]
  have E1 : h2.2.1 4 0 = h.2.1 4 0 := (g5 4 0 (by decide +kernel)).trans (c5 4 0 (by decide +kernel))
  have E2 : h2.2.1 4 2 = h.2.1 4 2 := (g5 4 2 (by decide +kernel)).trans (c5 4 2 (by decide +kernel))
  have E3 : ∀ k : Nat, k < 8 → (k : Int) < (h.2.1 4 2).toInt → h2.2.1 8 k = h.2.1 8 k := fun k _ _ => (g5 8 k (show Nat.testBit sc410.2.1 (bun 8 0) = false by decide +kernel)).trans (c5 8 k (show Nat.testBit sc41.2.1 (bun 8 0) = false by decide +kernel))
  have sx2 : SX h2 4 18 85 0 := SX_seed (v := E.2 (I + 1)) E1 E2 E3 (fun c k m q hc => by
    have c4 := qk_m q
    rw [a2.2, zs_ne (by omega), zs_ne (by omega), a1.2, zs_ne (by omega)]) (fun c k m q hm => by rw [a2.2, zs_at, upd_n hm, zs_ne (by decide)]; exact d85 m) (by rw [a2.2, zs_ne (by decide), zs_ne (by decide), a1.2, zs_at, upd_e]) (by rw [a2.2, zs_at, upd_e]) pE.2.2.1
  have x27 : h2.2.1 27 2 = h.2.1 27 2 := (g5 27 2 (by decide +kernel)).trans (c5 27 2 (by decide +kernel))
  have x84 : h2.2.1 84 7 = h.2.1 84 7 := (g5 84 7 (by decide +kernel)).trans (c5 84 7 (by decide +kernel))
  have x23 : h2.2.1 27 3 = h.2.1 27 3 := (g5 27 3 (by decide +kernel)).trans (c5 27 3 (by decide +kernel))
  have qp2 : QP h2 := QP_f E1 E2 E3 x27 x23 (fun r hr c hc k => ((RS9_w (by decide +kernel : wF sc410.2.1 lPa = true) (g5 27 3 (by decide +kernel)) g5).1 _ (by omega) (by omega) k).trans ((RS9_w (by decide +kernel : wF sc41.2.1 lPa = true) (c5 27 3 (by decide +kernel)) c5).1 _ (by omega) (by omega) k)) (fun k => (g5 89 k (show Nat.testBit sc410.2.1 (bun 89 0) = false by decide +kernel)).trans (c5 89 k (show Nat.testBit sc41.2.1 (bun 89 0) = false by decide +kernel))) pE.2.2.2.2
  have qx2 : QX h2 := ⟨sx2, QI_w (by decide +kernel : wF sc410.2.1 lQI = true) g5 (QI_w (by decide +kernel : wF sc41.2.1 lQI = true) c5 pE.2.2.2.1), qp2⟩
  have ex9 : EX h2 := ⟨by rw [x27, x84]; exact pE.1, paQ_f g1 g3 (g5 27 2 (by decide +kernel)) (g5 27 3 (by decide +kernel)) (paQ_f c1 c3 (c5 27 2 (by decide +kernel)) (c5 27 3 (by decide +kernel)) pE.2.1), qx2⟩
  have e := tp_eq (E := E) (n := f + 83) (d := d') (I := I) (i := iv) (u5 := u5) (u6 := u6) (fun k hk => baddk hiv (by omega) (by omega)) hI6 hqq (gT 0 _ ks0 (by intro z; cases z)) (c4 84 _ cs84 (by intro z; cases z)) c1 g1
  exact ⟨h2, _, _, f + 83, L, im, by omega, e, ⟨LI_f g2 g3 g4 (FrT_t (FrT_w (by decide +kernel : wF sc41.2.1 lT = true) c5) (FrT_w (by decide +kernel : wF sc410.2.1 lT = true) g5)) hL9, PX_f (FrP_t (FrP_w (by decide +kernel : wF sc41.2.1 lP = true) c5) (FrP_w (by decide +kernel : wF sc410.2.1 lP = true) g5)) (FrA_t (FrA_w (by decide +kernel : wF sc41.2.1 lA = true) c5) (FrA_w (by decide +kernel : wF sc410.2.1 lA = true) g5)) (FrI_t (FrI_w (by decide +kernel : wF sc41.2.1 lI = true) c5) (FrI_w (by decide +kernel : wF sc410.2.1 lI = true) g5)) pX, ex9⟩, by omega, by omega⟩
end OU
