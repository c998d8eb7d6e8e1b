/-! the two copies of trials, whatever the fuel (wip/zab2/c/genf2.py) -/
set_option maxRecDepth 100000 in
theorem zpl {E : zE} {m d mi pc : Nat} {ls : zLs} {st : List Value} {h : zH} {q : zR} {d2 mi2 pc2 : Nat} {ls2 : zLs} {st2 : List Value} {h2 : zH} (hs : ∀ n, zex E (n + 1) d mi pc ls st h = zex E n d2 mi2 pc2 ls2 st2 h2) (e : zex E m d mi pc ls st h = some q) : ∃ n, m = n + 1 ∧ zex E n d2 mi2 pc2 ls2 st2 h2 = some q := by
  cases m with
  | zero => rw [zex_zero] at e; cases e
  | succ n => exact ⟨n, rfl, by rw [← hs]; exact e⟩
set_option maxRecDepth 100000 in
theorem zpe {E : zE} {m d mi pc : Nat} {ls : zLs} {st : List Value} {h : zH} {q q2 : zR} (hs : ∀ n, zex E (n + 1) d mi pc ls st h = some q2) (e : zex E m d mi pc ls st h = some q) : q = q2 := by
  cases m with
  | zero => rw [zex_zero] at e; cases e
  | succ n => rw [hs] at e; exact (Option.some.inj e).symm
set_option maxRecDepth 100000 in
theorem fs85 : zat sl85 1 = some (some (some 85)) := rfl
set_option maxRecDepth 100000 in
theorem fs88 : zat sl85 4 = some (some (some 88)) := rfl
set_option maxRecDepth 100000 in
theorem zfv293_27 : zfetch 293 27 = some (.return_, 1, (0, 0, 0), 0, 0) := by decide +kernel
set_option maxRecDepth 100000 in
theorem zfv293_0 : zfetch 293 0 = some (.iconst 0, 1, (0, 0, 0), 0, 0) := by decide +kernel
set_option maxRecDepth 100000 in
theorem zfv293_1 : zfetch 293 1 = some (.istore_n 1, 1, (0, 0, 0), 0, 0) := by decide +kernel
set_option maxRecDepth 100000 in
theorem kpk_run {E : zE} {d : Nat} {sh : List zS} {v : Nat → Nat → Int32} {rest : (Nat → Nat → Int64) × Nat × Nat} (ha : zat sh 84 = some (.inr (.inl (12, sl85)))) (h3 : zat sh 88 = some (.inl (0, 777, []))) (h4 : zat sh 85 = some (.inl (0, 2475, []))) : ∀ m k q, k ≤ 777 → zex E m d 293 2 [some (.ref 84), some (.int (Int32.ofNat k))] [] (sh, zcpg v 88 85 0 0 k, rest) = some q → q = (.inl none, (sh, zcpg v 88 85 0 0 777, rest)) := by
  intro m
  induction m using Nat.strongRecOn with
  | ind m IH =>
    intro k q hk e
    have h1 : zat sl85 4 = some (some (some 88)) := rfl
    have h2 : zat sl85 1 = some (some (some 85)) := rfl
    by_cases h7 : k = 777
    · subst h7
      obtain ⟨n1, -, e⟩ := zpl (fun n => zk293_2 (k := 777) n) e
      obtain ⟨n2, -, e⟩ := zpl (fun n => zk293_3 (k := 777) n) e
      obtain ⟨n3, -, e⟩ := zpl (fun n => ((zx1 zf293_6).trans rfl : zex E (n + 1) d 293 6 [some (.ref 84), some (.int (Int32.ofNat 777))] [.int 777, .int (Int32.ofNat 777)] (sh, zcpg v 88 85 0 0 777, rest) = zex E n d 293 27 [some (.ref 84), some (.int (Int32.ofNat 777))] [] (sh, zcpg v 88 85 0 0 777, rest))) e
      exact zpe (fun n => yRet0 zfv293_27 rfl) e
    · have hk2 : k < 777 := by omega
      have hi : (Int32.ofNat k).toInt = ((0 + k : Nat) : Int) := by rw [zof9 (by omega)]; omega
      have hj : (Int32.ofNat k).toInt = ((0 + k : Nat) : Int) := hi
      have hI : 0 + k < 777 := by omega
      have hJ : 0 + k < 2475 := by omega
      obtain ⟨n1, g1, e⟩ := zpl (fun n => zk293_2 n) e
      obtain ⟨n2, g2, e⟩ := zpl (fun n => zk293_3 n) e
      obtain ⟨n3, g3, e⟩ := zpl (fun n => zk293_6 hk2 n) e
      obtain ⟨n4, g4, e⟩ := zpl (fun n => zk293_9 n) e
      obtain ⟨n5, g5, e⟩ := zpl (fun n => zk293_10 ha h1 n) e
      obtain ⟨n6, g6, e⟩ := zpl (fun n => zk293_13 n) e
      obtain ⟨n7, g7, e⟩ := zpl (fun n => zk293_14 n) e
      obtain ⟨n8, g8, e⟩ := zpl (fun n => zk293_15 ha h2 n) e
      obtain ⟨n9, g9, e⟩ := zpl (fun n => zk293_18 n) e
      obtain ⟨n10, g10, e⟩ := zpl (fun n => zk293_19 h4 hj hJ n) e
      obtain ⟨n11, g11, e⟩ := zpl (fun n => zk293_20 h3 hi hI n) e
      obtain ⟨n12, g12, e⟩ := zpl (fun n => zk293_21 n) e
      obtain ⟨n13, g13, e⟩ := zpl (fun n => zk293_24 n) e
      rw [zcpg_s v (Or.inl (show (85 : Nat) ≠ 88 by decide))] at e
      exact IH n13 (by omega) (k + 1) q (by omega) e
set_option maxRecDepth 100000 in
theorem kpk {E : zE} {d n : Nat} {h h' : zH} {r : Option Value ⊕ Nat} (ha : zat h.1 84 = some (.inr (.inl (12, sl85)))) (h3 : zat h.1 88 = some (.inl (0, 777, []))) (h4 : zat h.1 85 = some (.inl (0, 2475, []))) (e : zex E n d 293 0 [some (.ref 84), none] [] h = some (r, h')) : r = .inl none ∧ h'.1 = h.1 ∧ (∀ k, k < 777 → h'.2.1 88 k = h.2.1 85 k) ∧ ∀ c, c ≠ 88 → h'.2.1 c = h.2.1 c := by
  obtain ⟨n1, -, e⟩ := zpl (fun n => (yCi zfv293_0 : zex E (n + 1) d 293 0 [some (.ref 84), none] [] h = zex E n d 293 1 [some (.ref 84), none] [.int 0] h)) e
  obtain ⟨n2, -, e⟩ := zpl (fun n => (ySn zfv293_1 : zex E (n + 1) d 293 1 [some (.ref 84), none] [.int 0] h = zex E n d 293 2 [some (.ref 84), some (.int (Int32.ofNat 0))] [] h)) e
  have e : zex E n2 d 293 2 [some (.ref 84), some (.int (Int32.ofNat 0))] [] (h.1, zcpg h.2.1 88 85 0 0 0, h.2.2) = some (r, h') := by rw [zcpg_0]; exact e
  have key := kpk_run ha h3 h4 n2 0 _ (by omega) e
  obtain ⟨e1, e2⟩ := Prod.mk.inj key
  subst e1 e2
  refine ⟨rfl, rfl, fun k hk => ?_, fun c hc => funext fun k => zcpg_a _ hc⟩
  show zcpg h.2.1 88 85 0 0 777 88 k = _
  rw [zcpg_t, if_pos ⟨by omega, by omega⟩]
  show h.2.1 85 (0 + (k - 0)) = _
  rw [show 0 + (k - 0) = k by omega]
set_option maxRecDepth 100000 in
theorem zfv294_27 : zfetch 294 27 = some (.return_, 1, (0, 0, 0), 0, 0) := by decide +kernel
set_option maxRecDepth 100000 in
theorem zfv294_0 : zfetch 294 0 = some (.iconst 0, 1, (0, 0, 0), 0, 0) := by decide +kernel
set_option maxRecDepth 100000 in
theorem zfv294_1 : zfetch 294 1 = some (.istore_n 1, 1, (0, 0, 0), 0, 0) := by decide +kernel
set_option maxRecDepth 100000 in
theorem kpb_run {E : zE} {d : Nat} {sh : List zS} {v : Nat → Nat → Int32} {rest : (Nat → Nat → Int64) × Nat × Nat} (ha : zat sh 84 = some (.inr (.inl (12, sl85)))) (h3 : zat sh 85 = some (.inl (0, 2475, []))) (h4 : zat sh 88 = some (.inl (0, 777, []))) : ∀ m k q, k ≤ 777 → zex E m d 294 2 [some (.ref 84), some (.int (Int32.ofNat k))] [] (sh, zcpg v 85 88 0 0 k, rest) = some q → q = (.inl none, (sh, zcpg v 85 88 0 0 777, rest)) := by
  intro m
  induction m using Nat.strongRecOn with
  | ind m IH =>
    intro k q hk e
    have h1 : zat sl85 1 = some (some (some 85)) := rfl
    have h2 : zat sl85 4 = some (some (some 88)) := rfl
    by_cases h7 : k = 777
    · subst h7
      obtain ⟨n1, -, e⟩ := zpl (fun n => zk294_2 (k := 777) n) e
      obtain ⟨n2, -, e⟩ := zpl (fun n => zk294_3 (k := 777) n) e
      obtain ⟨n3, -, e⟩ := zpl (fun n => ((zx1 zf294_6).trans rfl : zex E (n + 1) d 294 6 [some (.ref 84), some (.int (Int32.ofNat 777))] [.int 777, .int (Int32.ofNat 777)] (sh, zcpg v 85 88 0 0 777, rest) = zex E n d 294 27 [some (.ref 84), some (.int (Int32.ofNat 777))] [] (sh, zcpg v 85 88 0 0 777, rest))) e
      exact zpe (fun n => yRet0 zfv294_27 rfl) e
    · have hk2 : k < 777 := by omega
      have hi : (Int32.ofNat k).toInt = ((0 + k : Nat) : Int) := by rw [zof9 (by omega)]; omega
      have hj : (Int32.ofNat k).toInt = ((0 + k : Nat) : Int) := hi
      have hI : 0 + k < 2475 := by omega
      have hJ : 0 + k < 777 := by omega
      obtain ⟨n1, g1, e⟩ := zpl (fun n => zk294_2 n) e
      obtain ⟨n2, g2, e⟩ := zpl (fun n => zk294_3 n) e
      obtain ⟨n3, g3, e⟩ := zpl (fun n => zk294_6 hk2 n) e
      obtain ⟨n4, g4, e⟩ := zpl (fun n => zk294_9 n) e
      obtain ⟨n5, g5, e⟩ := zpl (fun n => zk294_10 ha h1 n) e
      obtain ⟨n6, g6, e⟩ := zpl (fun n => zk294_13 n) e
      obtain ⟨n7, g7, e⟩ := zpl (fun n => zk294_14 n) e
      obtain ⟨n8, g8, e⟩ := zpl (fun n => zk294_15 ha h2 n) e
      obtain ⟨n9, g9, e⟩ := zpl (fun n => zk294_18 n) e
      obtain ⟨n10, g10, e⟩ := zpl (fun n => zk294_19 h4 hj hJ n) e
      obtain ⟨n11, g11, e⟩ := zpl (fun n => zk294_20 h3 hi hI n) e
      obtain ⟨n12, g12, e⟩ := zpl (fun n => zk294_21 n) e
      obtain ⟨n13, g13, e⟩ := zpl (fun n => zk294_24 n) e
      rw [zcpg_s v (Or.inl (show (88 : Nat) ≠ 85 by decide))] at e
      exact IH n13 (by omega) (k + 1) q (by omega) e
set_option maxRecDepth 100000 in
theorem kpb {E : zE} {d n : Nat} {h h' : zH} {r : Option Value ⊕ Nat} (ha : zat h.1 84 = some (.inr (.inl (12, sl85)))) (h3 : zat h.1 85 = some (.inl (0, 2475, []))) (h4 : zat h.1 88 = some (.inl (0, 777, []))) (e : zex E n d 294 0 [some (.ref 84), none] [] h = some (r, h')) : r = .inl none ∧ h'.1 = h.1 ∧ (∀ k, k < 777 → h'.2.1 85 k = h.2.1 88 k) ∧ ∀ c, c ≠ 85 → h'.2.1 c = h.2.1 c := by
  obtain ⟨n1, -, e⟩ := zpl (fun n => (yCi zfv294_0 : zex E (n + 1) d 294 0 [some (.ref 84), none] [] h = zex E n d 294 1 [some (.ref 84), none] [.int 0] h)) e
  obtain ⟨n2, -, e⟩ := zpl (fun n => (ySn zfv294_1 : zex E (n + 1) d 294 1 [some (.ref 84), none] [.int 0] h = zex E n d 294 2 [some (.ref 84), some (.int (Int32.ofNat 0))] [] h)) e
  have e : zex E n2 d 294 2 [some (.ref 84), some (.int (Int32.ofNat 0))] [] (h.1, zcpg h.2.1 85 88 0 0 0, h.2.2) = some (r, h') := by rw [zcpg_0]; exact e
  have key := kpb_run ha h3 h4 n2 0 _ (by omega) e
  obtain ⟨e1, e2⟩ := Prod.mk.inj key
  subst e1 e2
  refine ⟨rfl, rfl, fun k hk => ?_, fun c hc => funext fun k => zcpg_a _ hc⟩
  show zcpg h.2.1 85 88 0 0 777 85 k = _
  rw [zcpg_t, if_pos ⟨by omega, by omega⟩]
  show h.2.1 88 (0 + (k - 0)) = _
  rw [show 0 + (k - 0) = k by omega]
set_option maxRecDepth 100000 in
theorem kp_all {E : zE} {S : List zS} (ha : zat S 84 = some (.inr (.inl (12, sl85)))) (h3 : zat S 88 = some (.inl (0, 777, []))) (h4 : zat S 85 = some (.inl (0, 2475, []))) : fKP E S := by
  intro n d h r h' hS
  subst hS
  exact ⟨fun e => kpk ha h3 h4 e, fun e => kpb ha h4 h3 e⟩
