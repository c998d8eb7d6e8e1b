set_option maxRecDepth 100000 in
theorem bcp_good {E : zE} {tb : bTb} {B j F : Nat} {c : bSm} {L : List bNd} {N N' : bNd} (hN' : N' ∈ L) (henv : N'.2.2.1 = N.2.2.1) (hcs : N'.2.2.2.1 = N.2.2.2.1) (hca : N'.2.2.2.2.2.1 = N.2.2.2.2.2.1) (hsa : N'.2.2.2.2.2.2.1 = N.2.2.2.2.2.2.1)
    (hmu : ∀ V x, brel V N.2.2.2.2.2.2.2 x → 0 ≤ x → ∃ y, brel V N'.2.2.2.2.2.2.2 y ∧ 0 ≤ y ∧ y < x)
    (step : ∀ V ls h, bLR V N.2.1 ls → bHI h → bPS h → bTB tb h.1 → bpv E V N.2.2.2.2.1 h → benv V N.2.2.1 → ∃ ls' h', (∀ d f, F ≤ f → ∃ f', f ≤ f' + F ∧ zex E f d j N.1 ls [] h = zex E f' d j N'.1 ls' [] h') ∧
      bLR V N'.2.1 ls' ∧ bHI h' ∧ bPS h' ∧ h'.1 = h.1 ∧ bpv E V N'.2.2.2.2.1 h' ∧ h'.2.2.2 = h.2.2.2 ∧ ∀ a k, Nat.testBit c.2.1 (bun a k) = false → h'.2.1 a k = h.2.1 a k) : bGm E tb B j c F L N := by
  intro Vc h0 hlen hI0 B' hB V ls h x hR hx h9 hL d f hd hf
  obtain ⟨r1, r2, ⟨s1, s2, s3, s4, s5, s6, s7, s8, s9, s10⟩, r4⟩ := hR
  obtain ⟨ls', h', p1, p2, p3, p4, p5, p6, p7, p8⟩ := step V ls h r2 s5 s6 s7 r4 s1
  obtain ⟨f', q1, q2⟩ := p1 d f (by omega)
  obtain ⟨y, m1, m2, m3⟩ := hmu V x hx h9
  rw [q2]
  refine hL N' hN' V ls' h' y ⟨r1, p2, ⟨?_, ?_, ?_, fun q hq => absurd hq List.not_mem_nil, p3, p4, ?_, ?_, ?_, ?_⟩, p6⟩ m1 m2 m3 d f' hd (by omega)
  · show benv V N'.2.2.1
    rw [henv]
    exact s1
  · show N'.2.2.1.length = V.length
    rw [henv]
    exact s2
  · show bcs V N'.2.2.2.1
    rw [hcs]
    exact s3
  · rw [p5]
    exact s7
  · intro a k hb
    rw [p8 a k hb]
    exact s8 a k hb
  · rw [p7]
    show ∃ x, brel V N'.2.2.2.2.2.1 x ∧ _
    rw [hca]
    exact s9
  · rw [p7]
    show ∃ x, brel V N'.2.2.2.2.2.2.1 x ∧ _
    rw [hsa]
    exact s10
set_option maxRecDepth 100000 in
theorem blam_c {f g : Nat → Int32} (hc : (f 2).toInt ≤ 8) (h : ∀ k, k < 777 → f k = g k) (hg : blam g) : blam f := by
  intro p hp
  rw [h _ (by omega)]
  rw [h 2 (by omega)] at hp
  exact hg p hp
set_option maxRecDepth 100000 in
theorem bdep_c {f g : Nat → Int32} (h7 : (f 777).toInt ≤ 12) (ht : ∀ n : Nat, n < 12 → (f (781 + 4 * n)).toInt ≤ 400) (h : ∀ k, 777 ≤ k → k < 1626 → f k = g k) (hg : bOm g) : bOm f := by
  intro n hn
  have h1 := hn
  rw [h 777 (by omega) (by omega)] at h1
  obtain ⟨dep, d1, d2⟩ := hg n h1
  have h2 := ht n (by omega)
  refine ⟨dep, ?_, ?_⟩
  · rw [h _ (by omega) (by omega)]
    exact d1
  · intro i i1 i2
    have i3 : (i : Int) < 400 := by omega
    rw [h _ (by omega) (by omega)] at i1 i2
    rw [h (826 + 2 * i) (by omega) (by omega)]
    exact d2 i i1 i2
set_option maxRecDepth 100000 in
theorem biv85 (k : Nat) : biv 85 k = bwinv k := rfl
set_option maxRecDepth 100000 in
theorem biv86 (k : Nat) : biv 86 k = bwinv k := rfl
set_option maxRecDepth 100000 in
theorem biv87 (k : Nat) : biv 87 k = bwinv k := rfl
set_option maxRecDepth 100000 in
theorem biv88 (k : Nat) : biv 88 k = bwinv k := rfl
set_option maxRecDepth 100000 in
theorem biv89 (k : Nat) : biv 89 k = bwinv (k % 777) := rfl
set_option maxRecDepth 100000 in
theorem bwi2 : bwinv 2 = (0, 8) := rfl
set_option maxRecDepth 100000 in
theorem bwi777 : bwinv 777 = (0, 12) := rfl
set_option maxRecDepth 100000 in
theorem bwi781 : ∀ n : Nat, n < 12 → (bwinv (781 + 4 * n)).2 = 400 := by decide +kernel
set_option maxRecDepth 100000 in
theorem bwilaw : ∀ i : Nat, i < 849 → bwinv (777 + i) = bwinv (1626 + i) := by decide +kernel
set_option maxRecDepth 100000 in
theorem zcpg_t (v : Nat → Nat → Int32) (t w o q k i : Nat) : zcpg v t w o q k t i = if o ≤ i ∧ i < o + k then v w (q + (i - o)) else v t i := by
  unfold zcpg
  rw [zrow_at]
set_option maxRecDepth 100000 in
theorem bps_c {h h' : zH} (h1 : h'.1 = h.1) (h2 : h'.2.1 27 3 = h.2.1 27 3) (hp : bPS h) : bPS h' := by
  obtain ⟨r, g1, g2, g3⟩ := hp
  exact ⟨r, g1, h1.trans g2, by rw [h2]; exact g3⟩
set_option maxRecDepth 100000 in
theorem bcp_HI {h : zH} {v' : Nat → Nat → Int32} {t w o q L : Nat} (hv : v' = zcpg h.2.1 t w o q L) (hI : bHI h) (ht : 85 ≤ t) (ht2 : t ≤ 89) (hb : ∀ i, i < L → biv t (o + i) = biv w (q + i))
    (hl85 : t = 85 → blam (v' 85) ∧ bOm (v' 85)) (hl86 : t = 86 → blam (v' 86) ∧ bOm (v' 86)) (hl87 : t = 87 → blam (v' 87) ∧ bOm (v' 87)) (hl88 : t = 88 → blam (v' 88)) (hl89 : t = 89 → ∀ b : Nat, b < 12 → blam (fun k => v' 89 (777 * b + k))) : bHI (h.1, v', h.2.2) := by
  have hne : ∀ c, c ≠ t → v' c = h.2.1 c := by
    intro c hc
    rw [hv]
    unfold zcpg
    exact zrow_ne _ _ hc
  obtain ⟨g1, g2, ⟨⟨g3, g4, g5, g6⟩, g7, g8, g9⟩, g10⟩ := hI
  refine ⟨?_, ?_, ⟨⟨?_, ?_, ?_, ?_⟩, ?_, ?_, ?_⟩, ?_⟩
  · intro c k
    show (biv c k).1 ≤ (v' c k).toInt ∧ (v' c k).toInt ≤ (biv c k).2
    by_cases hc : c = t
    · subst hc
      rw [hv, zcpg_t]
      by_cases hk : o ≤ k ∧ k < o + L
      · rw [if_pos hk]
        have h1 := hb (k - o) (by omega)
        rw [show o + (k - o) = k by omega] at h1
        rw [h1]
        exact g1 w _
      · rw [if_neg hk]
        exact g1 c k
    · rw [hne c hc]
      exact g1 c k
  · show blam (v' 85)
    by_cases hc : 85 = t
    · exact (hl85 hc.symm).1
    · rw [hne 85 hc]; exact g2
  · show blam (v' 86)
    by_cases hc : 86 = t
    · exact (hl86 hc.symm).1
    · rw [hne 86 hc]; exact g3
  · show blam (v' 87)
    by_cases hc : 87 = t
    · exact (hl87 hc.symm).1
    · rw [hne 87 hc]; exact g4
  · show blam (v' 88)
    by_cases hc : 88 = t
    · exact hl88 hc.symm
    · rw [hne 88 hc]; exact g5
  · intro b hb
    show blam (fun k => v' 89 (777 * b + k))
    by_cases hc : 89 = t
    · exact hl89 hc.symm b hb
    · rw [hne 89 hc]; exact g6 b hb
  · show bOm (v' 85)
    by_cases hc : 85 = t
    · exact (hl85 hc.symm).2
    · rw [hne 85 hc]; exact g7
  · show bOm (v' 86)
    by_cases hc : 86 = t
    · exact (hl86 hc.symm).2
    · rw [hne 86 hc]; exact g8
  · show bOm (v' 87)
    by_cases hc : 87 = t
    · exact (hl87 hc.symm).2
    · rw [hne 87 hc]; exact g9
  · intro c hc k
    show (v' c k).toInt ≤ 1011 ∨ 1020 ≤ (v' c k).toInt
    rw [hne c (by
      intro z
      subst z
      unfold bhc at hc
      have e1 : Nat.beq c 15 = false := by
        cases hb : Nat.beq c 15 with
        | true => have := abq hb; omega
        | false => rfl
      have e2 : Nat.beq c 42 = false := by
        cases hb : Nat.beq c 42 with
        | true => have := abq hb; omega
        | false => rfl
      rw [e1, e2] at hc
      have := abq hc
      omega)]
    exact g10 c hc k
set_option maxRecDepth 100000 in
theorem bcp_full {h : zH} {t w : Nat} (hI : bHI h) (ht : 85 ≤ t) (ht2 : t ≤ 87) (hw : 85 ≤ w) (hw2 : w ≤ 87) : bHI (h.1, zcpg h.2.1 t w 0 0 1626, h.2.2) := by
  have hbiv : ∀ c, 85 ≤ c → c ≤ 87 → ∀ k, biv c k = bwinv k := by
    intro c h1 h2 k
    have : c = 85 ∨ c = 86 ∨ c = 87 := by omega
    rcases this with z | z | z
    · rw [z]; exact biv85 k
    · rw [z]; exact biv86 k
    · rw [z]; exact biv87 k
  have hrow : ∀ i, i < 1626 → zcpg h.2.1 t w 0 0 1626 t i = h.2.1 w i := by
    intro i hi
    rw [zcpg_t, if_pos (by omega), show 0 + (i - 0) = i by omega]
  have hb2 : (h.2.1 w 2).toInt ≤ 8 := by
    have := (hI.1 w 2).2
    rw [hbiv w hw hw2, bwi2] at this
    exact this
  have hb7 : (h.2.1 w 777).toInt ≤ 12 := by
    have := (hI.1 w 777).2
    rw [hbiv w hw hw2, bwi777] at this
    exact this
  have hb8 : ∀ n : Nat, n < 12 → (h.2.1 w (781 + 4 * n)).toInt ≤ 400 := by
    intro n hn
    have := (hI.1 w (781 + 4 * n)).2
    rw [hbiv w hw hw2, bwi781 n hn] at this
    exact this
  have hlw : blam (h.2.1 w) ∧ bOm (h.2.1 w) := by
    have : w = 85 ∨ w = 86 ∨ w = 87 := by omega
    obtain ⟨g1, g2, ⟨⟨g3, g4, g5, g6⟩, g7, g8, g9⟩, g10⟩ := hI
    rcases this with z | z | z
    · rw [z]; exact ⟨g2, g7⟩
    · rw [z]; exact ⟨g3, g8⟩
    · rw [z]; exact ⟨g4, g9⟩
  have key : blam (zcpg h.2.1 t w 0 0 1626 t) ∧ bOm (zcpg h.2.1 t w 0 0 1626 t) := by
    refine ⟨blam_c ?_ (fun k hk => hrow k (by omega)) hlw.1, bdep_c ?_ ?_ (fun k _ hk => hrow k hk) hlw.2⟩
    · rw [hrow 2 (by omega)]; exact hb2
    · rw [hrow 777 (by omega)]; exact hb7
    · intro n hn
      rw [hrow _ (by omega)]
      exact hb8 n hn
  refine bcp_HI rfl hI ht (by omega) (fun i _ => by rw [hbiv t ht ht2, hbiv w hw hw2]) (fun z => by subst z; exact key) (fun z => by subst z; exact key) (fun z => by subst z; exact key) (fun z => by omega) (fun z => by omega)
set_option maxRecDepth 100000 in
theorem bcp_88 {h : zH} (hI : bHI h) : bHI (h.1, zcpg h.2.1 88 85 0 0 777, h.2.2) := by
  have hrow : ∀ i, i < 777 → zcpg h.2.1 88 85 0 0 777 88 i = h.2.1 85 i := by
    intro i hi
    rw [zcpg_t, if_pos (by omega), show 0 + (i - 0) = i by omega]
  have hb2 : (h.2.1 85 2).toInt ≤ 8 := by
    have := (hI.1 85 2).2
    rw [biv85, bwi2] at this
    exact this
  refine bcp_HI rfl hI (by omega) (by omega) (fun i _ => by rw [biv88, biv85]) (fun z => by omega) (fun z => by omega) (fun z => by omega) (fun _ => blam_c ?_ hrow hI.2.1) (fun z => by omega)
  rw [hrow 2 (by omega)]
  exact hb2
set_option maxRecDepth 100000 in
theorem bcp_85 {h : zH} {w q : Nat} (hI : bHI h) (hw : ∀ i, i < 777 → biv 85 (0 + i) = biv w (q + i)) (hl : blam (fun k => h.2.1 w (q + k))) : bHI (h.1, zcpg h.2.1 85 w 0 q 777, h.2.2) := by
  have hrow : ∀ i, i < 777 → zcpg h.2.1 85 w 0 q 777 85 i = h.2.1 w (q + i) := by
    intro i hi
    rw [zcpg_t, if_pos (by omega), show i - 0 = i by omega]
  have hb2 : (h.2.1 w (q + 2)).toInt ≤ 8 := by
    have h1 := (hI.1 w (q + 2)).2
    rw [← hw 2 (by omega), biv85, bwi2] at h1
    exact h1
  refine bcp_HI rfl hI (by omega) (by omega) hw (fun _ => ⟨blam_c ?_ hrow hl, ?_⟩) (fun z => by omega) (fun z => by omega) (fun z => by omega) (fun z => by omega)
  · rw [hrow 2 (by omega)]
    exact hb2
  · have h1 := hI.2.2.1.2.1
    have e : ∀ k, 777 ≤ k → k < 1626 → zcpg h.2.1 85 w 0 q 777 85 k = h.2.1 85 k := by
      intro k hk _
      rw [zcpg_t, if_neg (by omega)]
    refine bdep_c ?_ ?_ e h1
    · rw [e 777 (by omega) (by omega)]
      have := (hI.1 85 777).2
      rw [biv85, bwi777] at this
      exact this
    · intro n hn
      rw [e _ (by omega) (by omega)]
      have := (hI.1 85 (781 + 4 * n)).2
      rw [biv85, bwi781 n hn] at this
      exact this
set_option maxRecDepth 100000 in
theorem biv89b {b k : Nat} (hk : k < 777) : biv 89 (777 * b + k) = biv 85 k := by
  rw [biv89, biv85, show (777 * b + k) % 777 = k by omega]
set_option maxRecDepth 100000 in
theorem bcp_undo {h : zH} {b : Nat} (hI : bHI h) (hb : b < 12) : bHI (h.1, zcpg h.2.1 85 89 0 (777 * b) 777, h.2.2) := by
  refine bcp_85 hI (fun i hi => ?_) (hI.2.2.1.1.2.2.2 b hb)
  rw [Nat.zero_add, biv89b hi]
set_option maxRecDepth 100000 in
theorem bcp_bring {h : zH} (hI : bHI h) : bHI (h.1, zcpg h.2.1 85 88 0 0 777, h.2.2) := by
  refine bcp_85 hI (fun i hi => by rw [biv85, biv88]) ?_
  have := hI.2.2.1.1.2.2.1
  have e9 : (fun k => h.2.1 88 (0 + k)) = h.2.1 88 := funext fun k => by rw [Nat.zero_add]
  rw [e9]
  exact this
set_option maxRecDepth 100000 in
theorem bcp_rem2 {h : zH} {b : Nat} (hI : bHI h) (hb : b < 12) : bHI (h.1, zcpg h.2.1 89 85 (777 * b) 0 777, h.2.2) := by
  have hrow : ∀ i, i < 777 → zcpg h.2.1 89 85 (777 * b) 0 777 89 (777 * b + i) = h.2.1 85 i := by
    intro i hi
    rw [zcpg_t, if_pos (by omega), show 0 + (777 * b + i - 777 * b) = i by omega]
  have hold : ∀ b' i, b' ≠ b → i < 777 → zcpg h.2.1 89 85 (777 * b) 0 777 89 (777 * b' + i) = h.2.1 89 (777 * b' + i) := by
    intro b' i hne hi
    rw [zcpg_t, if_neg (by omega)]
  have hb2 : ∀ b' : Nat, (h.2.1 89 (777 * b' + 2)).toInt ≤ 8 := by
    intro b'
    have h1 := (hI.1 89 (777 * b' + 2)).2
    rw [biv89b (by omega), biv85, bwi2] at h1
    exact h1
  have hb3 : (h.2.1 85 2).toInt ≤ 8 := by
    have h1 := (hI.1 85 2).2
    rw [biv85, bwi2] at h1
    exact h1
  refine bcp_HI rfl hI (by omega) (by omega) (fun i hi => by rw [biv89b hi, Nat.zero_add]) (fun z => by omega) (fun z => by omega) (fun z => by omega) (fun z => by omega) (fun _ b' hb' => ?_)
  by_cases hbb : b' = b
  · subst hbb
    refine blam_c (f := fun k => zcpg h.2.1 89 85 (777 * b') 0 777 89 (777 * b' + k)) ?_ hrow hI.2.1
    show (zcpg h.2.1 89 85 (777 * b') 0 777 89 (777 * b' + 2)).toInt ≤ 8
    rw [hrow 2 (by omega)]
    exact hb3
  · refine blam_c (f := fun k => zcpg h.2.1 89 85 (777 * b) 0 777 89 (777 * b' + k)) ?_ (fun k hk => hold b' k hbb hk) (hI.2.2.1.1.2.2.2 b' hb')
    show (zcpg h.2.1 89 85 (777 * b) 0 777 89 (777 * b' + 2)).toInt ≤ 8
    rw [hold b' 2 hbb (by omega)]
    exact hb2 b'
set_option maxRecDepth 100000 in
theorem bcp_rem1 {h : zH} (hI : bHI h) : bHI (h.1, zcpg h.2.1 89 89 0 777 8547, h.2.2) := by
  have hrow : ∀ b' i, b' < 11 → i < 777 → zcpg h.2.1 89 89 0 777 8547 89 (777 * b' + i) = h.2.1 89 (777 * (b' + 1) + i) := by
    intro b' i hb hi
    rw [zcpg_t, if_pos (by omega), show 777 + (777 * b' + i - 0) = 777 * (b' + 1) + i by omega]
  have hold : ∀ i, zcpg h.2.1 89 89 0 777 8547 89 (777 * 11 + i) = h.2.1 89 (777 * 11 + i) := by
    intro i
    rw [zcpg_t, if_neg (by omega)]
  have hb2 : ∀ b' : Nat, (h.2.1 89 (777 * b' + 2)).toInt ≤ 8 := by
    intro b'
    have h1 := (hI.1 89 (777 * b' + 2)).2
    rw [biv89b (by omega), biv85, bwi2] at h1
    exact h1
  refine bcp_HI rfl hI (by omega) (by omega) (fun i hi => by rw [biv89, biv89, show (777 + i) % 777 = (0 + i) % 777 by omega]) (fun z => by omega) (fun z => by omega) (fun z => by omega) (fun z => by omega) (fun _ b' hb' => ?_)
  by_cases hbb : b' < 11
  · refine blam_c (f := fun k => zcpg h.2.1 89 89 0 777 8547 89 (777 * b' + k)) ?_ (fun k hk => hrow b' k hbb hk) (hI.2.2.1.1.2.2.2 (b' + 1) (by omega))
    show (zcpg h.2.1 89 89 0 777 8547 89 (777 * b' + 2)).toInt ≤ 8
    rw [hrow b' 2 hbb (by omega)]
    exact hb2 _
  · have h11 : b' = 11 := by omega
    subst h11
    refine blam_c (f := fun k => zcpg h.2.1 89 89 0 777 8547 89 (777 * 11 + k)) ?_ (fun k _ => hold k) (hI.2.2.1.1.2.2.2 11 (by omega))
    show (zcpg h.2.1 89 89 0 777 8547 89 (777 * 11 + 2)).toInt ≤ 8
    rw [hold 2]
    exact hb2 11
set_option maxRecDepth 100000 in
theorem bcp_law {h : zH} (hI : bHI h) (hok : bokn h (h.2.1 85 1626).toInt.toNat) : bHI (h.1, zcpg h.2.1 85 85 777 1626 849, h.2.2) := by
  have hrow : ∀ i, 777 ≤ i → i < 1626 → zcpg h.2.1 85 85 777 1626 849 85 i = h.2.1 85 (i + 849) := by
    intro i h1 h2
    rw [zcpg_t, if_pos (by omega), show 1626 + (i - 777) = i + 849 by omega]
  have hold : ∀ i, i < 777 → zcpg h.2.1 85 85 777 1626 849 85 i = h.2.1 85 i := by
    intro i hi
    rw [zcpg_t, if_neg (by omega)]
  have hb2 : (h.2.1 85 2).toInt ≤ 8 := by
    have h1 := (hI.1 85 2).2
    rw [biv85, bwi2] at h1
    exact h1
  refine bcp_HI rfl hI (by omega) (by omega) (fun i hi => by rw [biv85, biv85]; exact bwilaw i hi) (fun _ => ⟨blam_c ?_ hold hI.2.1, ?_⟩) (fun z => by omega) (fun z => by omega) (fun z => by omega) (fun z => by omega)
  · rw [hold 2 (by omega)]
    exact hb2
  · intro n hn
    rw [hrow 777 (by omega) (by omega)] at hn
    have hn : (n : Int) < (h.2.1 85 1626).toInt := hn
    obtain ⟨o1, o2, o3, o4⟩ := hok n (by omega)
    have hst := bst9_b hI
    have hn12 : n < 12 := by
      have h1 := (hI.1 85 1626).2
      have h2 : biv 85 1626 = (0, 12) := rfl
      rw [h2] at h1
      have h1 : (h.2.1 85 1626).toInt ≤ 12 := h1
      omega
    generalize hfrom : (h.2.1 85 (1629 + 4 * n)).toInt = fr at o1 o2 o4
    generalize hto : (h.2.1 85 (1630 + 4 * n)).toInt = to at o2 o3 o4
    have e1 : zcpg h.2.1 85 85 777 1626 849 85 (780 + 4 * n) = h.2.1 85 (1629 + 4 * n) := by
      rw [hrow _ (by omega) (by omega), show 780 + 4 * n + 849 = 1629 + 4 * n by omega]
    have e2 : zcpg h.2.1 85 85 777 1626 849 85 (781 + 4 * n) = h.2.1 85 (1630 + 4 * n) := by
      rw [hrow _ (by omega) (by omega), show 781 + 4 * n + 849 = 1630 + 4 * n by omega]
    have hpos : ∀ m : Nat, (m : Int) ≤ to - fr → 0 ≤ bdf (h.2.1 85) fr.toNat m := by
      intro m hm
      have hd : ∀ j m : Nat, bdf (h.2.1 85) fr.toNat m < 0 → bdf (h.2.1 85) fr.toNat (m + j) < 0 := by
        intro j
        induction j with
        | zero => intro m hneg; exact hneg
        | succ j ih =>
          intro m hneg
          have := ih m hneg
          show bstp _ (bdf (h.2.1 85) fr.toNat (m + j)) < 0
          unfold bstp
          rw [if_pos this]
          decide
      by_cases h0 : 0 ≤ bdf (h.2.1 85) fr.toNat m
      · exact h0
      · have := hd ((to - fr).toNat - m) m (by omega)
        rw [show m + ((to - fr).toNat - m) = (to - fr).toNat by omega] at this
        omega
    refine ⟨fun i => (bdf (h.2.1 85) fr.toNat (i - fr.toNat)).toNat, ?_, ?_⟩
    · rw [e1, hfrom]
      show (bdf (h.2.1 85) fr.toNat (fr.toNat - fr.toNat)).toNat = 0
      rw [Nat.sub_self]
      rfl
    · intro i i1 i2
      rw [e1, hfrom] at i1
      rw [e2, hto] at i2
      have e3 : zcpg h.2.1 85 85 777 1626 849 85 (826 + 2 * i) = h.2.1 85 (1675 + 2 * i) := by
        rw [hrow _ (by omega) (by omega), show 826 + 2 * i + 849 = 1675 + 2 * i by omega]
      rw [e3]
      have p1 := hpos (i - fr.toNat) (by omega)
      have p2 := hpos (i - fr.toNat + 1) (by omega)
      have e4 : bdf (h.2.1 85) fr.toNat (i - fr.toNat + 1) = bstp (h.2.1 85 (1675 + 2 * i)).toInt (bdf (h.2.1 85) fr.toNat (i - fr.toNat)) := by
        show bstp (h.2.1 85 (1675 + 2 * (fr.toNat + (i - fr.toNat)))).toInt _ = _
        rw [show fr.toNat + (i - fr.toNat) = i by omega]
      have e5 : i + 1 - fr.toNat = i - fr.toNat + 1 := by omega
      show (_ → (bdf (h.2.1 85) fr.toNat (i + 1 - fr.toNat)).toNat = (bdf (h.2.1 85) fr.toNat (i - fr.toNat)).toNat + 1) ∧ (_ → 1 ≤ (bdf (h.2.1 85) fr.toNat (i - fr.toNat)).toNat ∧ (bdf (h.2.1 85) fr.toNat (i + 1 - fr.toNat)).toNat = (bdf (h.2.1 85) fr.toNat (i - fr.toNat)).toNat) ∧ (_ → _ → 2 ≤ (bdf (h.2.1 85) fr.toNat (i - fr.toNat)).toNat ∧ (bdf (h.2.1 85) fr.toNat (i + 1 - fr.toNat)).toNat + 1 = (bdf (h.2.1 85) fr.toNat (i - fr.toNat)).toNat)
      rw [e5]
      rw [e4] at p2 ⊢
      generalize bdf (h.2.1 85) fr.toNat (i - fr.toNat) = D at p1 p2 ⊢
      generalize (h.2.1 85 (1675 + 2 * i)).toInt = X at p2 ⊢
      unfold bstp at p2 ⊢
      rw [if_neg (by omega)] at p2 ⊢
      refine ⟨fun hx => ?_, fun hx => ?_, fun hx hy => ?_⟩
      · rw [if_pos hx]
        omega
      · rw [if_neg (by omega), if_pos hx] at p2 ⊢
        by_cases hd : 1 ≤ D
        · rw [if_pos hd]
          omega
        · rw [if_neg hd] at p2
          omega
      · rw [if_neg (by omega), if_neg hy] at p2 ⊢
        by_cases hd : 2 ≤ D
        · rw [if_pos hd]
          omega
        · rw [if_neg hd] at p2
          omega
set_option maxRecDepth 100000 in
theorem cs84 : bg2 ctb 84 = some (.inr (.inl (12, [none, some (some 85), some (some 86), some (some 87), some (some 88), some (some 89), none, none, some (some 90), none, none, none, none, none, none, some (some 91), none, some (some 92), some (some 93)]))) := rfl
set_option maxRecDepth 100000 in
theorem cs85 : bg2 ctb 85 = some (.inl (0, 2475, [])) := rfl
set_option maxRecDepth 100000 in
theorem cs86 : bg2 ctb 86 = some (.inl (0, 1626, [])) := rfl
set_option maxRecDepth 100000 in
theorem cs87 : bg2 ctb 87 = some (.inl (0, 1626, [])) := rfl
set_option maxRecDepth 100000 in
theorem cs88 : bg2 ctb 88 = some (.inl (0, 777, [])) := rfl
set_option maxRecDepth 100000 in
theorem cs89 : bg2 ctb 89 = some (.inl (0, 9324, [])) := rfl
set_option maxRecDepth 100000 in
theorem cs90 : bg2 ctb 90 = some (.inl (1, 400, [])) := rfl
set_option maxRecDepth 100000 in
theorem cs91 : bg2 ctb 91 = some (.inl (0, 5, [])) := rfl
set_option maxRecDepth 100000 in
theorem cs92 : bg2 ctb 92 = some (.inl (0, 400, [])) := rfl
