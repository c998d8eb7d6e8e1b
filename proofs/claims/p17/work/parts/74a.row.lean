/-! the model's reader of THE HOUSE: its row, its numbers (wip/zab2/c/geng12.py) -/
set_option maxRecDepth 100000 in
theorem zfm241_0 : zfetch 241 0 = some (.aload_n 0, 1, (0, 0, 0), 0, 0) := by decide +kernel
set_option maxRecDepth 100000 in
theorem zfm241_1 : zfetch 241 1 = some (.iload_n 1, 1, (0, 0, 0), 0, 0) := by decide +kernel
set_option maxRecDepth 100000 in
theorem zfm241_2 : zfetch 241 2 = some (.iload_n 2, 1, (0, 0, 0), 0, 0) := by decide +kernel
set_option maxRecDepth 100000 in
theorem zfm241_3 : zfetch 241 3 = some (.iconst 5, 1, (0, 0, 0), 5, 0) := by decide +kernel
set_option maxRecDepth 100000 in
theorem zfm241_4 : zfetch 241 4 = some (.invokevirtual 116, 3, (0, 240, 0), 0, 1759) := by decide +kernel
set_option maxRecDepth 100000 in
theorem zfm241_7 : zfetch 241 7 = some (.ireturn, 1, (0, 0, 0), 0, 0) := by decide +kernel
set_option maxRecDepth 100000 in
theorem znm240 : zat zmi 240 = some (4, 5, 0, 12, 1, 0) := rfl
set_option maxRecDepth 100000 in
theorem mnu {E : zE} {n d : Nat} {h h1 : zH} {x1 x2 y : Int32}  (a84 : zat h.1 84 = some (.inr (.inl (12, [none, some (some 85), some (some 86), some (some 87), some (some 88), some (some 89), none, none, some (some 90), none, none, none, none, none, none, some (some 91), none, some (some 92), some (some 93)])))) (e1 : zex E (n + 1) d 240 0 [some (.ref 84), some (.int x1), some (.int x2), some (.int 5), none] [] h = some (.inl (some (.int y)), h1)) : zex E (n + 6) (d + 1) 241 0 [some (.ref 84), some (.int x1), some (.int x2)] [] h = some (.inl (some (.int y)), h1) :=
  ((yAn zfm241_0 rfl rfl) : zex E (n + 6) (d + 1) 241 0 [some (.ref 84), some (.int x1), some (.int x2)] [] h = zex E (n + 5) (d + 1) 241 1 [some (.ref 84), some (.int x1), some (.int x2)] [.ref 84] h).trans (((yIn zfm241_1 rfl) : zex E (n + 5) (d + 1) 241 1 [some (.ref 84), some (.int x1), some (.int x2)] [.ref 84] h = zex E (n + 4) (d + 1) 241 2 [some (.ref 84), some (.int x1), some (.int x2)] [.int x1, .ref 84] h).trans (((yIn zfm241_2 rfl) : zex E (n + 4) (d + 1) 241 2 [some (.ref 84), some (.int x1), some (.int x2)] [.int x1, .ref 84] h = zex E (n + 3) (d + 1) 241 3 [some (.ref 84), some (.int x1), some (.int x2)] [.int x2, .int x1, .ref 84] h).trans (((yCi zfm241_3) : zex E (n + 3) (d + 1) 241 3 [some (.ref 84), some (.int x1), some (.int x2)] [.int x2, .int x1, .ref 84] h = zex E (n + 2) (d + 1) 241 4 [some (.ref 84), some (.int x1), some (.int x2)] [.int 5, .int x2, .int x1, .ref 84] h).trans (((zcvg (h := h) (as := [.int x1, .int x2, .int 5]) (r := []) zfm241_4 znm240 rfl a84 rfl e1) : zex E (n + 2) (d + 1) 241 4 [some (.ref 84), some (.int x1), some (.int x2)] [.int 5, .int x2, .int x1, .ref 84] h = zex E (n + 1) (d + 1) 241 7 [some (.ref 84), some (.int x1), some (.int x2)] [.int y] h1).trans (((yRet1 zfm241_7 rfl) : zex E (n + 1) (d + 1) 241 7 [some (.ref 84), some (.int x1), some (.int x2)] [.int y] h1 = some (.inl (some (.int y)), h1)))))))
set_option maxRecDepth 100000 in
theorem bHI_85 {h : zH} {jn : Nat} {y : Int32} (hI : bHI h) (hj : jn < 777) (hb : (biv 85 jn).1 ≤ y.toInt ∧ y.toInt ≤ (biv 85 jn).2) (hl : blam (upd (h.2.1 85) jn y)) : bHI (zsetI h 85 (upd (h.2.1 85) jn y)) := by
  obtain ⟨g1, g2, ⟨⟨g3, g4, g5, g6⟩, g7, g8, g9⟩, g10⟩ := hI
  have at85 : (zsetI h 85 (upd (h.2.1 85) jn y)).2.1 85 = upd (h.2.1 85) jn y := funext fun k => zs_at
  have ne : ∀ c, c ≠ 85 → (zsetI h 85 (upd (h.2.1 85) jn y)).2.1 c = h.2.1 c := fun c hc => zs_nc hc
  refine ⟨fun c k => ?_, ?_, ⟨⟨?_, ?_, ?_, ?_⟩, ?_, ?_, ?_⟩, fun c hc k => ?_⟩
  · by_cases hc : c = 85
    · subst hc
      rw [at85]
      by_cases hk : k = jn
      · subst hk; rw [upd_e]; exact hb
      · rw [upd_n hk]; exact g1 85 k
    · rw [ne c hc]; exact g1 c k
  · show blam ((zsetI h 85 (upd (h.2.1 85) jn y)).2.1 85)
    rw [at85]; exact hl
  · rw [ne 86 (by decide)]; exact g3
  · rw [ne 87 (by decide)]; exact g4
  · rw [ne 88 (by decide)]; exact g5
  · rw [ne 89 (by decide)]; exact g6
  · rw [at85]
    have e : ∀ k, 777 ≤ k → upd (h.2.1 85) jn y k = h.2.1 85 k := fun k hk => upd_n (by omega)
    intro n hn
    rw [e 777 (Nat.le_refl _)] at hn
    obtain ⟨dep, d1, d2⟩ := g7 n hn
    refine ⟨dep, by rw [e (780 + 4 * n) (by omega)]; exact d1, fun i h1 h2 => ?_⟩
    rw [e (780 + 4 * n) (by omega)] at h1
    rw [e (781 + 4 * n) (by omega)] at h2
    rw [e (826 + 2 * i) (by omega)]
    exact d2 i h1 h2
  · rw [ne 86 (by decide)]; exact g8
  · rw [ne 87 (by decide)]; exact g9
  · rw [ne c (fun z => by rw [z] at hc; cases hc)]; exact g10 c hc k
set_option maxRecDepth 100000 in
theorem blam_o {f : Nat → Int32} {jn : Nat} {y : Int32} (hf : blam f) (h2 : jn ≠ 2) (hn : ∀ p : Nat, (p : Int) < (f 2).toInt → jn ≠ 188 + 24 * p) : blam (upd f jn y) := by
  intro p hp
  rw [upd_n (Ne.symm h2)] at hp
  rw [upd_n (fun z => hn p hp z.symm)]
  exact hf p hp
noncomputable def wY : Nat := Nat.lor sc342.2.1 wN
set_option maxRecDepth 100000 in
theorem wY_f {i : Nat} (h : Nat.testBit wY i = false) : Nat.testBit wN i = false := by
  unfold wY at h
  have h : Nat.testBit (sc342.2.1 ||| wN) i = false := h
  rw [Nat.testBit_or, Bool.or_eq_false_iff] at h
  exact h.2
set_option maxRecDepth 100000 in
theorem wY90 : Nat.testBit wY (bun 90 0) = false := by decide +kernel
set_option maxRecDepth 100000 in
theorem wY_90 {h0 h : zH} {a b : Nat} (hr : bRQ ctb wY h0 a b h) : tp90 h = tp90 h0 := tp90_e fun i => hr.2.2.2.1 90 i wY90
set_option maxRecDepth 100000 in
theorem bRQ_NY {h0 h : zH} (hr : bRQ ctb wN h0 0 0 h) : bRQ ctb wY h0 0 0 h := ⟨hr.1, hr.2.1, hr.2.2.1, fun c k z => hr.2.2.2.1 c k (wY_f z), hr.2.2.2.2.1, hr.2.2.2.2.2⟩
set_option maxRecDepth 100000 in
theorem bRQ_MY {h0 h : zH} (hr : bRQ ctb wM h0 0 0 h) : bRQ ctb wY h0 0 0 h := bRQ_NY (bRQ_MN hr)
set_option maxRecDepth 100000 in
theorem wY85 : ∀ k, k < 777 → Nat.testBit wY (bun 85 k) = true := by decide +kernel
set_option maxRecDepth 100000 in
theorem wM85 : ∀ k, k < 777 → Nat.testBit wM (bun 85 k) = false := by decide +kernel
def RW (h h' : zH) : Prop := ∀ k, k < 777 → h'.2.1 85 k = h.2.1 85 k
set_option maxRecDepth 100000 in
theorem RW_r (h : zH) : RW h h := fun _ _ => rfl
set_option maxRecDepth 100000 in
theorem RW_t {a b c : zH} (h1 : RW a b) (h2 : RW b c) : RW a c := fun k hk => (h2 k hk).trans (h1 k hk)
set_option maxRecDepth 100000 in
theorem RW_m {h h' : zH} {a b : Nat} (hr : bRQ ctb wM h a b h') : RW h h' := fun k hk => hr.2.2.2.1 85 k (wM85 k hk)
set_option maxRecDepth 100000 in
theorem bRQ_85 {h0 h : zH} {jn : Nat} {y : Int32} (hr : bRQ ctb wY h0 0 0 h) (hj : jn < 777) (hb : (biv 85 jn).1 ≤ y.toInt ∧ y.toInt ≤ (biv 85 jn).2) (hl : blam (upd (h.2.1 85) jn y)) : bRQ ctb wY h0 0 0 (zsetI h 85 (upd (h.2.1 85) jn y)) := by
  refine ⟨bHI_85 hr.1 hj hb hl, bPS_w hr.2.1 (fun z => absurd z (by decide)), hr.2.2.1, fun d k hbit => ?_, hr.2.2.2.2.1, hr.2.2.2.2.2⟩
  by_cases hd : d = 85
  · subst hd
    rw [zs_at]
    by_cases hk : k = jn
    · subst hk
      rw [wY85 k hj] at hbit
      cases hbit
    · rw [upd_n hk]
      exact hr.2.2.2.1 85 k hbit
  · rw [zs_ne hd]
    exact hr.2.2.2.1 d k hbit
def XT (h0 h : zH) : Prop := h.2.1 85 3 = h0.2.1 85 3 ∧ (h.2.1 84 0).toInt = 0 ∧ (h.2.1 84 9).toInt = 0
set_option maxRecDepth 100000 in
theorem XT_m {h0 h h' : zH} (k : bRQ ctb wM h 0 0 h') (hx : XT h0 h) : XT h0 h' := ⟨(RW_m k 3 (by decide)).trans hx.1, by rw [(bRQ_MN k).2.2.2.1 84 0 wN840]; exact hx.2.1, by rw [(bRQ_MN k).2.2.2.1 84 9 wN849]; exact hx.2.2⟩
set_option maxRecDepth 100000 in
theorem XT_85 {h0 h : zH} {j : Nat} {y : Int32} (hj : j ≠ 3) (hx : XT h0 h) : XT h0 (zsetI h 85 (upd (h.2.1 85) j y)) := ⟨by rw [zs_at, upd_n (Ne.symm hj)]; exact hx.1, by rw [zs_ne (by decide)]; exact hx.2.1, by rw [zs_ne (by decide)]; exact hx.2.2⟩
set_option maxRecDepth 100000 in
theorem XT_84 {h0 h : zH} {j : Nat} {y : Int32} (h1 : 0 ≠ j) (h2 : 9 ≠ j) (hx : XT h0 h) : XT h0 (zsetI h 84 (upd (h.2.1 84) j y)) := ⟨by rw [zs_ne (by decide)]; exact hx.1, by rw [zs_at, upd_n h1]; exact hx.2.1, by rw [zs_at, upd_n h2]; exact hx.2.2⟩
/-- where the model's reader stands -/
def YT (h0 : zH) (L : Nat) (h : zH) (p b : Nat) : Prop := bRQ ctb wY h0 0 0 h ∧ ((h.2.1 84 11).toInt = (L : Int) ∧ (h.2.1 84 10).toInt = (p : Int) ∧ (h.2.1 84 12).toInt = (b : Int)) ∧ p ≤ L ∧ b ≤ L ∧ XT h0 h
set_option maxRecDepth 100000 in
theorem fg_nmq {T : Nat → Int} {L s : Nat} {lo hi : Int} (hlo : 0 ≤ lo) : (match nmq T L s lo hi with
    | some v => fgR (sk isDg T L s) s 5 (vln T s (min 5 (sk isDg T L s - s))) lo hi = v ∧ sk isDg T L s = kE T L s
    | none => fgR (sk isDg T L s) s 5 (vln T s (min 5 (sk isDg T L s - s))) lo hi = -1) := by
  unfold nmq
  by_cases h1 : kK T L s = 1
  · have he := kE_1 h1
    have hne : ¬ sk isDg T L s = s := fun z => dg_1.mp z h1
    by_cases h5 : sk isDg T L s - s ≤ 5
    · have hq : nqs T L s 5 = true := by unfold nqs; rw [he, decide_eq_true h1, decide_eq_true h5]; rfl
      have hv : kV T L s = vln T s (min 5 (sk isDg T L s - s)) := by
        unfold kV
        rw [if_pos h1, he, show min 9 (sk isDg T L s - s) = min 5 (sk isDg T L s - s) by omega]
      have hg : fgR (sk isDg T L s) s 5 (vln T s (min 5 (sk isDg T L s - s))) lo hi = if kV T L s < lo then -1 else if hi < kV T L s then -1 else kV T L s := by
        unfold fgR
        rw [if_neg hne, if_neg (show ¬ 5 < sk isDg T L s - s by omega), ← hv]
      rw [hg]
      by_cases hl : lo ≤ kV T L s
      · by_cases hh : kV T L s ≤ hi
        · rw [if_pos (show nqs T L s 5 = true ∧ lo ≤ kV T L s ∧ kV T L s ≤ hi from ⟨hq, hl, hh⟩)]
          dsimp only
          rw [if_neg (show ¬ kV T L s < lo by omega), if_neg (show ¬ hi < kV T L s by omega)]
          exact ⟨rfl, he.symm⟩
        · rw [if_neg (show ¬ (nqs T L s 5 = true ∧ lo ≤ kV T L s ∧ kV T L s ≤ hi) from fun z => hh z.2.2)]
          dsimp only
          rw [if_neg (show ¬ kV T L s < lo by omega), if_pos (show hi < kV T L s by omega)]
      · rw [if_neg (show ¬ (nqs T L s 5 = true ∧ lo ≤ kV T L s ∧ kV T L s ≤ hi) from fun z => hl z.2.1)]
        dsimp only
        rw [if_pos (show kV T L s < lo by omega)]
    · have hq : ¬ nqs T L s 5 = true := by
        unfold nqs
        rw [he, decide_eq_false h5, Bool.and_false]
        decide
      have hg : fgR (sk isDg T L s) s 5 (vln T s (min 5 (sk isDg T L s - s))) lo hi = -1 := by
        unfold fgR
        rw [if_neg hne, if_pos (show 5 < sk isDg T L s - s by omega)]
      rw [hg, if_neg (show ¬ (nqs T L s 5 = true ∧ lo ≤ kV T L s ∧ kV T L s ≤ hi) from fun z => hq z.1)]
  · have hq : ¬ nqs T L s 5 = true := by
      unfold nqs
      rw [decide_eq_false h1, Bool.false_and]
      decide
    have hg : fgR (sk isDg T L s) s 5 (vln T s (min 5 (sk isDg T L s - s))) lo hi = -1 := by
      unfold fgR
      rw [if_pos (dg_1.mpr h1)]
    rw [hg, if_neg (show ¬ (nqs T L s 5 = true ∧ lo ≤ kV T L s ∧ kV T L s ≤ hi) from fun z => hq z.1)]
section MY
variable {E : zE} {B F : Nat} {h0 h : zH} {L p b : Nat}
set_option maxRecDepth 100000 in
theorem y_blanks (hE : E.1 < 2147483648) (hsm : bSO E ctb B (60, smT)) (hF : 1000000 ≤ F) (hL : L ≤ 400) (ht : YT h0 L h p b) :
    ∀ d f, 60 ≤ d → B + F * 401 ≤ f → ∃ h', zex E f d 235 0 [some (.ref 84)] [] h = some (.inl none, h') ∧ RW h h' ∧ YT h0 L h' (sk isBl (tp90 h0) L p) (sk isBl (tp90 h0) L p) := by
  intro d f hd hf
  obtain ⟨hr, ⟨t1, t2, t3⟩, hp, hb, hx⟩ := ht
  obtain ⟨h', e1, k1, k2, k3, k4⟩ := m_blanks (h0 := h) hE hsm hF hL hp (by omega : b ≤ 400) (bRQ_r hr) t1 t2 t3 d f hd hf
  rw [wY_90 hr] at k3 k4
  exact ⟨h', e1, RW_m k1, bRQ_tr hr (bRQ_MY k1), ⟨k2, k3, k4⟩, sk_le hp, sk_le hp, XT_m k1 hx⟩
set_option maxRecDepth 100000 in
theorem y_letters (hE : E.1 < 2147483648) (hsm : bSO E ctb B (60, smT)) (hF : 1000000 ≤ F) (hL : L ≤ 400) (ht : YT h0 L h p b) :
    ∀ d f, 61 ≤ d → B + F * 402 ≤ f → ∃ h', zex E f d 236 0 [some (.ref 84)] [] h = some (.inl none, h') ∧ RW h h' ∧ YT h0 L h' (sk isLt (tp90 h0) L (sk isBl (tp90 h0) L p)) (sk isBl (tp90 h0) L p) := by
  intro d f hd hf
  obtain ⟨hr, ⟨t1, t2, t3⟩, hp, hb, hx⟩ := ht
  obtain ⟨h', e1, k1, k2, k3, k4⟩ := m_letters (h0 := h) hE hsm hF hL hp (by omega : b ≤ 400) (bRQ_r hr) t1 t2 t3 d f hd hf
  rw [wY_90 hr] at k3 k4
  exact ⟨h', e1, RW_m k1, bRQ_tr hr (bRQ_MY k1), ⟨k2, k3, k4⟩, sk_le (sk_le hp), sk_le hp, XT_m k1 hx⟩
set_option maxRecDepth 100000 in
theorem y_word (hE : E.1 < 2147483648) (hsm : bSO E ctb B (60, smT)) (hF : 1000000 ≤ F) (hL : L ≤ 400) {q : Nat} (hq : q ≤ L) (hpq : p = sk isLt (tp90 h0) L b) (hbq : b = sk isBl (tp90 h0) L q) (ht : YT h0 L h p b) {w : Nat} {u : List Nat} (hw : (w, u) ∈ mws) (hu : u ≠ []) :
    ∀ d f, 60 ≤ d → B + 1000000 ≤ f → ∃ h', zex E f d 237 0 [some (.ref 84), some (.retAddr w), none, none] [] h = some (.inl (some (.int (if wqs (tp90 h0) L b u = true then 1 else 0))), h') ∧ RW h h' ∧ YT h0 L h' p b := by
  intro d f hd hf
  obtain ⟨hr, ⟨t1, t2, t3⟩, hp, hb, hx⟩ := ht
  obtain ⟨y, h', e1, e2, e3⟩ := m_isWord hE hsm hr.1 hr.2.1 hr.2.2.1 (by omega) (by omega) t2 t3 hw d f hd hf
  rw [wY_90 hr] at e2
  have e4 : txq (tp90 h0) b p u = wqs (tp90 h0) L b u := by
    rw [hpq, hbq]
    exact wqs_m hu hq
  rw [e4] at e2
  have ey : y = (if wqs (tp90 h0) L b u = true then 1 else 0) := Int32.toInt_inj.mp (e2.trans (by split <;> rfl))
  refine ⟨h', by rw [e1, ey], fun k hk => by rw [b0_eq e3], bRQ_tr hr (bRQ_MY (bRQ_w0 e3)), ⟨?_, ?_, ?_⟩, hp, hb, XT_m (bRQ_w0 e3) hx⟩
  · rw [b0_eq e3]; exact t1
  · rw [b0_eq e3]; exact t2
  · rw [b0_eq e3]; exact t3
set_option maxRecDepth 100000 in
theorem y_num (hE : E.1 < 2147483648) (hsm : bSO E ctb B (60, smT)) (hF : 1000000 ≤ F) (hL : L ≤ 400) (ht : YT h0 L h p b) {x1 x2 : Int32} (h1 : 0 ≤ x1.toInt) :
    ∀ d f, 62 ≤ d → B + F * 405 ≤ f → ∃ y h' p', zex E f d 241 0 [some (.ref 84), some (.int x1), some (.int x2)] [] h = some (.inl (some (.int y)), h') ∧ RW h h' ∧ YT h0 L h' p' (sk isBl (tp90 h0) L p) ∧
      (match nmq (tp90 h0) L (sk isBl (tp90 h0) L p) x1.toInt x2.toInt with
        | some v => y.toInt = v ∧ p' = kE (tp90 h0) L (sk isBl (tp90 h0) L p)
        | none => y.toInt = -1) := by
  intro d f hd hf
  obtain ⟨hr, ⟨t1, t2, t3⟩, hp, hb, hx⟩ := ht
  obtain ⟨d', hd'⟩ : ∃ d', d = d' + 1 := ⟨d - 1, by omega⟩
  obtain ⟨n, hn⟩ : ∃ n, f = n + 6 := ⟨f - 6, by omega⟩
  subst hd' hn
  have hmul : F * 405 = F * 404 + F := Nat.mul_succ _ _
  have b2 := bi32 x2
  have b1 := bi32 x1
  obtain ⟨y, h', e1, e2, k1, k2, k3, k4⟩ := m_figures (h0 := h) (mo := 5) (lo := x1.toInt) (hi := x2.toInt) hE hsm hF hL hp (by omega : b ≤ 400) (bRQ_r hr) t1 t2 t3 ⟨b1.1, b1.2⟩ ⟨b2.1, b2.2⟩ ⟨by decide, by decide⟩ (x1 := x1) (x2 := x2) (x3 := 5) rfl rfl rfl d' (n + 1) (by omega) (by omega)
  rw [wY_90 hr] at e2 k3 k4
  have hs := sk_le (P := isBl) (T := tp90 h0) hp
  have key := fg_nmq (T := tp90 h0) (L := L) (s := sk isBl (tp90 h0) L p) (lo := x1.toInt) (hi := x2.toInt) h1
  refine ⟨y, h', _, mnu (n := n) (d := d') (hr.2.2.1 84 _ cs84 (by intro z; cases z)) e1, RW_m k1, ⟨bRQ_tr hr (bRQ_MY k1), ⟨k2, k3, k4⟩, sk_le hs, hs, XT_m k1 hx⟩, ?_⟩
  cases hn : nmq (tp90 h0) L (sk isBl (tp90 h0) L p) x1.toInt x2.toInt with
  | none => rw [hn] at key; exact e2.trans key
  | some v => rw [hn] at key; exact ⟨e2.trans key.1, key.2⟩
end MY
