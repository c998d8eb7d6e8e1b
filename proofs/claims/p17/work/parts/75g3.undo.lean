/-! p46: undo of the class; what forgets (wip/zab2/c/lgen39.py) -/
set_option maxRecDepth 100000 in
theorem zgm83_0 : zfetch 83 0 = some (.aload_n 0, 1, (0, 0, 0), 0, 0) := by decide +kernel
set_option maxRecDepth 100000 in
theorem zgm83_1 : zfetch 83 1 = some (.getfield 40, 3, (11, 4, 0), 0, 579) := by decide +kernel
set_option maxRecDepth 100000 in
theorem zgm83_4 : zfetch 83 4 = some (.aload_n 0, 1, (0, 0, 0), 0, 0) := by decide +kernel
set_option maxRecDepth 100000 in
theorem zgm83_5 : zfetch 83 5 = some (.getfield 26, 3, (11, 2, 0), 0, 577) := by decide +kernel
set_option maxRecDepth 100000 in
theorem zgm83_8 : zfetch 83 8 = some (.aload_n 0, 1, (0, 0, 0), 0, 0) := by decide +kernel
set_option maxRecDepth 100000 in
theorem zgm83_9 : zfetch 83 9 = some (.getfield 33, 3, (11, 3, 0), 0, 578) := by decide +kernel
set_option maxRecDepth 100000 in
theorem zgm83_12 : zfetch 83 12 = some (.invokevirtual 349, 3, (0, 168, 1), 0, 750) := by decide +kernel
set_option maxRecDepth 100000 in
theorem zgm83_15 : zfetch 83 15 = some (.ireturn, 1, (0, 0, 0), 0, 0) := by decide +kernel
set_option maxRecDepth 100000 in
theorem zgm166_0 : zfetch 166 0 = some (.aload_n 0, 1, (0, 0, 0), 0, 0) := by decide +kernel
set_option maxRecDepth 100000 in
theorem zgm166_1 : zfetch 166 1 = some (.iconst 0, 1, (0, 0, 0), 0, 0) := by decide +kernel
set_option maxRecDepth 100000 in
theorem zgm166_2 : zfetch 166 2 = some (.putfield 21, 3, (7, 2, 0), 0, 470) := by decide +kernel
set_option maxRecDepth 100000 in
theorem zgm166_5 : zfetch 166 5 = some (.return_, 1, (0, 0, 0), 0, 0) := by decide +kernel
set_option maxRecDepth 100000 in
theorem znp168 : zat zmi 168 = some (3, 4, 0, 7, 2, 0) := rfl
set_option maxRecDepth 100000 in
theorem uc_0 {E : zE} {n d : Nat} {h h1 : zH}   (a0 : zat h.1 0 = some (.inr (.inl (11, [some (some 1), some (some 3), some (some 18), some (some 25), some (some 27), some (some 30), some (some 53), some (some 62), some (some 76), none])))) (a27 : zat h.1 27 = some (.inr (.inl (7, [some (some 28), some (some 29), none, none])))) (e1 : zex E (n + 1) d 168 0 [some (.ref 27), some (.ref 18), some (.ref 25), none] [] h = some (.inl (some (.int 0)), h1)) : zex E (n + 8) (d + 1) 83 0 [some (.ref 0)] [] h = some (.inl (some (.int 0)), h1) :=
  ((yAn zgm83_0 rfl rfl) : zex E (n + 8) (d + 1) 83 0 [some (.ref 0)] [] h = zex E (n + 7) (d + 1) 83 1 [some (.ref 0)] [.ref 0] h).trans (((zgx zgm83_1 a0 rfl) : zex E (n + 7) (d + 1) 83 1 [some (.ref 0)] [.ref 0] h = zex E (n + 6) (d + 1) 83 4 [some (.ref 0)] [.ref 27] h).trans (((yAn zgm83_4 rfl rfl) : zex E (n + 6) (d + 1) 83 4 [some (.ref 0)] [.ref 27] h = zex E (n + 5) (d + 1) 83 5 [some (.ref 0)] [.ref 0, .ref 27] h).trans (((zgx zgm83_5 a0 rfl) : zex E (n + 5) (d + 1) 83 5 [some (.ref 0)] [.ref 0, .ref 27] h = zex E (n + 4) (d + 1) 83 8 [some (.ref 0)] [.ref 18, .ref 27] h).trans (((yAn zgm83_8 rfl rfl) : zex E (n + 4) (d + 1) 83 8 [some (.ref 0)] [.ref 18, .ref 27] h = zex E (n + 3) (d + 1) 83 9 [some (.ref 0)] [.ref 0, .ref 18, .ref 27] h).trans (((zgx zgm83_9 a0 rfl) : zex E (n + 3) (d + 1) 83 9 [some (.ref 0)] [.ref 0, .ref 18, .ref 27] h = zex E (n + 2) (d + 1) 83 12 [some (.ref 0)] [.ref 25, .ref 18, .ref 27] h).trans (((zcvg (h := h) (as := [.ref 18, .ref 25]) (r := []) zgm83_12 znp168 rfl a27 rfl e1) : zex E (n + 2) (d + 1) 83 12 [some (.ref 0)] [.ref 25, .ref 18, .ref 27] h = zex E (n + 1) (d + 1) 83 15 [some (.ref 0)] [.int 0] h1).trans (((yRet2 zgm83_15 rfl (Or.inl rfl)) : zex E (n + 1) (d + 1) 83 15 [some (.ref 0)] [.int 0] h1 = some (.inl (some (.int 0)), h1)))))))))
set_option maxRecDepth 100000 in
theorem uc_1 {E : zE} {n d : Nat} {h h1 : zH}   (a0 : zat h.1 0 = some (.inr (.inl (11, [some (some 1), some (some 3), some (some 18), some (some 25), some (some 27), some (some 30), some (some 53), some (some 62), some (some 76), none])))) (a27 : zat h.1 27 = some (.inr (.inl (7, [some (some 28), some (some 29), none, none])))) (e1 : zex E (n + 1) d 168 0 [some (.ref 27), some (.ref 18), some (.ref 25), none] [] h = some (.inl (some (.int 1)), h1)) : zex E (n + 8) (d + 1) 83 0 [some (.ref 0)] [] h = some (.inl (some (.int 1)), h1) :=
  ((yAn zgm83_0 rfl rfl) : zex E (n + 8) (d + 1) 83 0 [some (.ref 0)] [] h = zex E (n + 7) (d + 1) 83 1 [some (.ref 0)] [.ref 0] h).trans (((zgx zgm83_1 a0 rfl) : zex E (n + 7) (d + 1) 83 1 [some (.ref 0)] [.ref 0] h = zex E (n + 6) (d + 1) 83 4 [some (.ref 0)] [.ref 27] h).trans (((yAn zgm83_4 rfl rfl) : zex E (n + 6) (d + 1) 83 4 [some (.ref 0)] [.ref 27] h = zex E (n + 5) (d + 1) 83 5 [some (.ref 0)] [.ref 0, .ref 27] h).trans (((zgx zgm83_5 a0 rfl) : zex E (n + 5) (d + 1) 83 5 [some (.ref 0)] [.ref 0, .ref 27] h = zex E (n + 4) (d + 1) 83 8 [some (.ref 0)] [.ref 18, .ref 27] h).trans (((yAn zgm83_8 rfl rfl) : zex E (n + 4) (d + 1) 83 8 [some (.ref 0)] [.ref 18, .ref 27] h = zex E (n + 3) (d + 1) 83 9 [some (.ref 0)] [.ref 0, .ref 18, .ref 27] h).trans (((zgx zgm83_9 a0 rfl) : zex E (n + 3) (d + 1) 83 9 [some (.ref 0)] [.ref 0, .ref 18, .ref 27] h = zex E (n + 2) (d + 1) 83 12 [some (.ref 0)] [.ref 25, .ref 18, .ref 27] h).trans (((zcvg (h := h) (as := [.ref 18, .ref 25]) (r := []) zgm83_12 znp168 rfl a27 rfl e1) : zex E (n + 2) (d + 1) 83 12 [some (.ref 0)] [.ref 25, .ref 18, .ref 27] h = zex E (n + 1) (d + 1) 83 15 [some (.ref 0)] [.int 1] h1).trans (((yRet2 zgm83_15 rfl (Or.inr rfl)) : zex E (n + 1) (d + 1) 83 15 [some (.ref 0)] [.int 1] h1 = some (.inl (some (.int 1)), h1)))))))))
set_option maxRecDepth 100000 in
theorem fg_0 {E : zE} {n d : Nat} {h : zH}   (a27 : zat h.1 27 = some (.inr (.inl (7, [some (some 28), some (some 29), none, none]))))  : zex E (n + 4) d 166 0 [some (.ref 27)] [] h = some (.inl none, (zsetI h 27 (upd (h.2.1 27) 2 0))) :=
  ((yAn zgm166_0 rfl rfl) : zex E (n + 4) d 166 0 [some (.ref 27)] [] h = zex E (n + 3) d 166 1 [some (.ref 27)] [.ref 27] h).trans (((yCi zgm166_1) : zex E (n + 3) d 166 1 [some (.ref 27)] [.ref 27] h = zex E (n + 2) d 166 2 [some (.ref 27)] [.int 0, .ref 27] h).trans (((zpx zgm166_2 a27 rfl) : zex E (n + 2) d 166 2 [some (.ref 27)] [.int 0, .ref 27] h = zex E (n + 1) d 166 5 [some (.ref 27)] [] (zsetI h 27 (upd (h.2.1 27) 2 0))).trans (((yRet0 zgm166_5 rfl) : zex E (n + 1) d 166 5 [some (.ref 27)] [] (zsetI h 27 (upd (h.2.1 27) 2 0)) = some (.inl none, (zsetI h 27 (upd (h.2.1 27) 2 0)))))))
section UC
variable {E : zE} {h : zH}
set_option maxRecDepth 100000 in
theorem undoC (hE : E.1 < 2147483648) (gI : bHI h) (gP : bPS h) (gT : bTB ctb h.1) (hA : paQ h) : ∀ d f, 10 ≤ d → 4000000 ≤ f → rQ h (zex E f d 83 0 [some (.ref 0)] [] h) := by
  intro d f hd hf
  obtain ⟨n, hn⟩ : ∃ n, f = n + 8 := ⟨f - 8, by omega⟩
  obtain ⟨d, hd'⟩ : ∃ d', d = d' + 1 := ⟨d - 1, by omega⟩
  subst hn hd'
  have q := recalC (E := E) hE gI gP hA d (n + 1) (by omega) (by omega)
  unfold rQ at q ⊢
  by_cases h0 : (h.2.1 27 2).toInt = 0
  · rw [if_pos h0] at q ⊢
    obtain ⟨h1, e, s, a⟩ := q
    exact ⟨h1, uc_0 (n := n) (d := d) (gT 0 _ (show bg2 ctb 0 = some (.inr (.inl (11, [some (some 1), some (some 3), some (some 18), some (some 25), some (some 27), some (some 30), some (some 53), some (some 62), some (some 76), none]))) from rfl) (by intro z; cases z)) (gT 27 _ (show bg2 ctb 27 = some (.inr (.inl (7, [some (some 28), some (some 29), none, none]))) from rfl) (by intro z; cases z)) e, s, a⟩
  · rw [if_neg h0] at q ⊢
    obtain ⟨h1, e, s, a⟩ := q
    exact ⟨h1, uc_1 (n := n) (d := d) (gT 0 _ (show bg2 ctb 0 = some (.inr (.inl (11, [some (some 1), some (some 3), some (some 18), some (some 25), some (some 27), some (some 30), some (some 53), some (some 62), some (some 76), none]))) from rfl) (by intro z; cases z)) (gT 27 _ (show bg2 ctb 27 = some (.inr (.inl (7, [some (some 28), some (some 29), none, none]))) from rfl) (by intro z; cases z)) e, s, a⟩
set_option maxRecDepth 100000 in
theorem paQ_0 (hA : paQ h) (hI : bHI h) : paQ (zsetI h 27 (upd (h.2.1 27) 2 0)) := by
  obtain ⟨r, a1, a2, a3⟩ := hA
  refine ⟨r, a1, a2, fun _ => ?_⟩
  have b := hI.1 27 3
  rw [biv273] at b
  have b1 : 0 ≤ (h.2.1 27 3).toInt := b.1
  rw [zs_at, upd_e, zs_at, upd_n (by decide)]
  exact b1
end UC
