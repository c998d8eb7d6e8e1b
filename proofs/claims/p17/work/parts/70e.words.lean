/-! words: the whole of wordAmong and isWord -/
set_option maxRecDepth 100000 in
theorem waw_4 : waWords 4 [[98, 114, 105, 110, 103], [100, 114, 111, 112], [112, 105, 99, 107], [115, 119, 101, 101, 112]] 0 0 = true := by decide +kernel
set_option maxRecDepth 100000 in
theorem waw_7 : waWords 7 [[111, 117, 116], [115, 116, 111, 110, 101], [99, 97, 114, 112, 101, 116], [98, 101, 100], [100, 114, 97, 105, 110]] 0 0 = true := by decide +kernel
set_option maxRecDepth 100000 in
theorem waw_9 : waWords 9 [[112, 101, 114, 115, 111, 110], [114, 111, 111, 109], [108, 111, 97, 100], [104, 101, 114, 101], [114, 111, 117, 110, 100], [112, 97, 114, 116]] 0 0 = true := by decide +kernel
def wbL (w : Nat) : bLs := [some (.inr (.inl (.ref 1))), some (.inr (.inl (.retAddr w))), none, none, none, none]
noncomputable def wbR (w : Nat) (fin : bS → Option bV → Bool) (L : List bNd) (k : Int × Int) : Bool := btz 0 (60, smT) ctb fin 60 185 1000000 1 L (1, [k], [], [(1, (2, []), (0, [(0, 1)]))], (0, []), (0, [])) 0 (wbL w)
noncomputable def wbA (w : Nat) : Bool := cond (wbR w ag_no9 [(17, waL w 0 0 0, [(2, 2)], [], [], (0, []), (0, []), (0, []))] (2, 2)) (cond (wbR w (bfn 0 0 1 (bidl 1 0) [([], [], some (.inl (-1, [])), [])]) [] (0, 1)) (wbR w (bfn 0 0 1 (bidl 1 0) [([], [], some (.inl (-1, [])), [])]) [] (3, 3)) false) false
set_option maxRecDepth 100000 in
theorem wba : ∀ w : Nat, w < 12 → wbA w = true := by decide +kernel
/-- which of some words stands there -/
def wrd (T : Nat → Int) (K s e : Nat) (ws : List (List Nat)) : Int := if K = 2 then firstq T s e ws 0 else -1
section WB
variable {E : zE} {B F : Nat} {h : zH} {K s e w : Nat} {ws : List (List Nat)}
set_option maxRecDepth 100000 in
theorem wordAmong (hE : E.1 < 2147483648) (hsm : bSO E ctb B (60, smT)) (hF : 1000000 ≤ F) (hI : bHI h) (hP : bPS h) (hT : bTB ctb h.1) (h4 : e ≤ 400) (hse : s ≤ e) (hk : (h.2.1 1 2).toInt = (K : Int)) (hK : K ≤ 3) (hs : (h.2.1 1 3).toInt = (s : Int)) (he : (h.2.1 1 4).toInt = (e : Int)) (hb : ∀ i, 0 ≤ tp2 h i ∧ tp2 h i ≤ 255) (hw : w < 12) (hws : waWords w ws 0 0 = true) (hn : (ws.map fun u => u.length + 1).sum ≤ 97) :
    ∀ d f, 60 ≤ d → B + F * 100 ≤ f → waQ h (wrd (tp2 h) K s e ws) (zex E f d 185 0 [some (.ref 1), some (.retAddr w), none, none, none, none] [] h) := by
  intro d f hd hf
  have hmul : F * 100 = F * 99 + F := Nat.mul_succ F 99
  obtain ⟨c1, c2⟩ := bcnd (wba w hw)
  obtain ⟨c2, c3⟩ := bcnd c2
  have hr : bRQ ctb 0 h 0 0 h := ⟨hI, hP, hT, fun _ _ _ => rfl, Nat.le_refl _, Nat.le_refl _⟩
  have hov : bOV E [(K : Int)] [(1, (2, []), (0, [(0, 1)]))] h := bov_c (k := 2) rfl rfl rfl rfl (by rw [bvx_v]; exact hk) bov_n
  have hal : bLR [(K : Int)] (wbL w) [some (.ref 1), some (.retAddr w), none, none, none, none] := ⟨⟨_, rfl, rfl⟩, ⟨_, rfl, rfl⟩, trivial, trivial, trivial, trivial, trivial⟩
  unfold wrd
  by_cases h2 : K = 2
  · rw [if_pos h2]
    obtain ⟨n, n1, n2⟩ := wa_words hE hsm hF h4 hse hs he hb ws 0 0 hws
    have hmon : F * n ≤ F * 99 := Nat.mul_le_mul_left F (by omega)
    refine seg (V := [(K : Int)]) (ca := 0) (sa := 0) (nv := 1) hE hsm (fun V S v w h _ _ _ z => nomatch (show false = true from z)) hr (benv_c (by omega) (by omega) benv_n) rfl bcs_n hov hal c1 (B' := B + F * n) (Nat.le_add_right _ _) ?_ ?_ d f hd (by omega)
    · intro N hN
      cases hN with
      | head => exact ⟨rfl, rfl, rfl⟩
      | tail _ hN => exact absurd hN List.not_mem_nil
    · intro N hN ls' h' k1 k2 k3 d f hd hf
      cases hN with
      | tail _ hN => exact absurd hN List.not_mem_nil
      | head =>
        obtain ⟨y2, y3, y4, v6, e1, j2, j3, j4⟩ := wa_als k1
        rw [e1]
        exact n2 h' y2 y3 y4 v6 k2 j2 j3 j4 d f hd hf
  · rw [if_neg h2]
    have out : ∀ lo hi : Int, lo ≤ (K : Int) → (K : Int) ≤ hi → wbR w (bfn 0 0 1 (bidl 1 0) [([], [], some (.inl (-1, [])), [])]) [] (lo, hi) = true → waQ h (-1) (zex E f d 185 0 [some (.ref 1), some (.retAddr w), none, none, none, none] [] h) := by
      intro lo hi l1 l2 c
      refine seg (V := [(K : Int)]) (ca := 0) (sa := 0) (nv := 1) hE hsm (fin_n (V := [(K : Int)]) (ca := 0) (sa := 0) rfl (fun u h' k1 k2 k3 => ?_)) hr (benv_c l1 l2 benv_n) rfl bcs_n hov hal c (Nat.le_refl B) (fun N hN => absurd hN List.not_mem_nil) (fun N hN => absurd hN List.not_mem_nil) d f hd (by omega)
      cases u with
      | none => exact k2.elim
      | some u =>
        obtain ⟨x, x1, x2⟩ := k2
        exact ⟨x, h', by rw [x1], brel_k x2, k1⟩
    by_cases h3 : K ≤ 1
    · exact out 0 1 (by omega) (by omega) c2
    · exact out 3 3 (by omega) (by omega) c3
set_option maxRecDepth 100000 in
theorem zcvg {n d mi pc j a3 ln i9 w9 na mL ci rk kd b : Nat} {z : Int32} {sl : List (Option (Option Nat))} {ls : zLs} {st as r : List Value} {h h1 : zH} {v : Option Value} (hf : zfetch mi pc = some (.invokevirtual i9, ln, (0, j, a3), z, w9)) (hj : zat zmi j = some (na, mL, 0, ci, rk, kd)) (hp : zpop na st [] = some (.ref b :: as, r)) (hb : zat h.1 b = some (.inr (.inl (ci, sl)))) (hr : (Nat.ble (zsum r) 8 && (Value.ref b :: as).all zc1) = true)
    (hc : zex E n d j 0 (zent mL (.ref b :: as)) [] h = some (.inl v, h1)) : zex E (n + 1) (d + 1) mi pc ls st h = zex E n (d + 1) mi (pc + ln) ls (v.toList ++ r) h1 := by
  refine (zx1 hf).trans ?_
  show zinv (zex E n) (zex E n (d + 1) mi (pc + ln)) (d + 1) mi pc j (Nat.beq a3 0) ls st h = _
  unfold zinv
  rw [hj]
  simp only
  rw [hp]
  simp only
  rw [hr, cond_true]
  unfold zrecv
  simp only
  rw [hb]
  simp only
  rw [Nat.beq_refl, cond_true, hc]
  rfl
set_option maxRecDepth 100000 in
theorem zmi185 : zat zmi 185 = some (2, 6, 0, 9, 1, 0) := rfl
set_option maxRecDepth 100000 in
theorem zf184_0 : zfetch 184 0 = some (.aload_n 0, 1, (0, 0, 0), 0, 0) := by decide +kernel
set_option maxRecDepth 100000 in
theorem zf184_1 : zfetch 184 1 = some (.aload_n 1, 1, (0, 0, 0), 0, 0) := by decide +kernel
set_option maxRecDepth 100000 in
theorem zf184_2 : zfetch 184 2 = some (.invokevirtual 34, 3, (0, 185, 0), 0, 1081) := by decide +kernel
set_option maxRecDepth 100000 in
theorem zf184_5 : zfetch 184 5 = some (.ifCond .ne 7, 3, (12, 0, 0), 0, 0) := by decide +kernel
set_option maxRecDepth 100000 in
theorem zf184_8 : zfetch 184 8 = some (.iconst 1, 1, (0, 0, 0), 1, 0) := by decide +kernel
set_option maxRecDepth 100000 in
theorem zf184_9 : zfetch 184 9 = some (.goto 4, 3, (13, 0, 0), 0, 0) := by decide +kernel
set_option maxRecDepth 100000 in
theorem zf184_12 : zfetch 184 12 = some (.iconst 0, 1, (0, 0, 0), 0, 0) := by decide +kernel
set_option maxRecDepth 100000 in
theorem zf184_13 : zfetch 184 13 = some (.ireturn, 1, (0, 0, 0), 0, 0) := by decide +kernel
set_option maxRecDepth 100000 in
theorem cs1 : bg2 ctb 1 = some (.inr (.inl (9, [some (some 2), none, none, none, none, none]))) := rfl
set_option maxRecDepth 100000 in
theorem isWord (hE : E.1 < 2147483648) (hsm : bSO E ctb B (60, smT)) (hF : 1000000 ≤ F) (hI : bHI h) (hP : bPS h) (hT : bTB ctb h.1) (h4 : e ≤ 400) (hse : s ≤ e) (hk : (h.2.1 1 2).toInt = (K : Int)) (hK : K ≤ 3) (hs : (h.2.1 1 3).toInt = (s : Int)) (he : (h.2.1 1 4).toInt = (e : Int)) (hb : ∀ i, 0 ≤ tp2 h i ∧ tp2 h i ≤ 255) (hw : w < 12) {u : List Nat} (hws : waWords w [u] 0 0 = true) (hn : u.length ≤ 90) :
    ∀ d f, 61 ≤ d → B + F * 101 ≤ f → waQ h (if wrd (tp2 h) K s e [u] = 0 then 1 else 0) (zex E f d 184 0 [some (.ref 1), some (.retAddr w)] [] h) := by
  intro d f hd hf
  have hmul : F * 101 = F * 100 + F := Nat.mul_succ F 100
  obtain ⟨n, hn2⟩ : ∃ n, f = n + 7 := ⟨f - 7, by omega⟩
  obtain ⟨d', hd'⟩ : ∃ d', d = d' + 1 := ⟨d - 1, by omega⟩
  subst hd'
  obtain ⟨x, h1, e1, e2, e3⟩ := wordAmong hE hsm hF hI hP hT h4 hse hk hK hs he hb hw hws (by simp only [List.map_cons, List.map_nil, List.sum_cons, List.sum_nil]; omega) d' (n + 4) (by omega) (by omega)
  have ha := hT 1 _ cs1 (by intro z; cases z)
  have step : zex E (n + 7) (d' + 1) 184 0 [some (.ref 1), some (.retAddr w)] [] h = zex E (n + 4) (d' + 1) 184 5 [some (.ref 1), some (.retAddr w)] [.int x] h1 :=
    ((zx1 zf184_0).trans rfl : zex E (n + 7) (d' + 1) 184 0 [some (.ref 1), some (.retAddr w)] [] h = zex E (n + 6) (d' + 1) 184 1 [some (.ref 1), some (.retAddr w)] [.ref 1] h).trans
    (((zx1 zf184_1).trans rfl : zex E (n + 6) (d' + 1) 184 1 [some (.ref 1), some (.retAddr w)] [.ref 1] h = zex E (n + 5) (d' + 1) 184 2 [some (.ref 1), some (.retAddr w)] [.retAddr w, .ref 1] h).trans
    (zcvg (as := [.retAddr w]) (r := []) zf184_2 zmi185 rfl ha rfl e1))
  rw [hn2, step]
  by_cases hx : wrd (tp2 h) K s e [u] = 0
  · rw [if_pos hx]
    have hx0 : x = 0 := Int32.toInt_inj.mp (by rw [e2, hx]; rfl)
    refine ⟨1, h1, ?_, rfl, e3⟩
    rw [hx0]
    exact ((zx1 zf184_5).trans rfl : zex E (n + 4) (d' + 1) 184 5 [some (.ref 1), some (.retAddr w)] [.int 0] h1 = zex E (n + 3) (d' + 1) 184 8 [some (.ref 1), some (.retAddr w)] [] h1).trans
      (((zx1 zf184_8).trans rfl : zex E (n + 3) (d' + 1) 184 8 [some (.ref 1), some (.retAddr w)] [] h1 = zex E (n + 2) (d' + 1) 184 9 [some (.ref 1), some (.retAddr w)] [.int 1] h1).trans
      (((zx1 zf184_9).trans rfl : zex E (n + 2) (d' + 1) 184 9 [some (.ref 1), some (.retAddr w)] [.int 1] h1 = zex E (n + 1) (d' + 1) 184 13 [some (.ref 1), some (.retAddr w)] [.int 1] h1).trans ((zx1 zf184_13).trans rfl)))
  · rw [if_neg hx]
    have hx0 : ¬ x = 0 := by
      intro z
      rw [z] at e2
      exact hx (e2.symm.trans rfl)
    refine ⟨0, h1, ?_, rfl, e3⟩
    have st5 : zex E (n + 4) (d' + 1) 184 5 [some (.ref 1), some (.retAddr w)] [.int x] h1 = zex E (n + 3) (d' + 1) 184 12 [some (.ref 1), some (.retAddr w)] [] h1 := (zx1 zf184_5).trans (if_neg hx0)
    exact st5.trans (((zx1 zf184_12).trans rfl : zex E (n + 3) (d' + 1) 184 12 [some (.ref 1), some (.retAddr w)] [] h1 = zex E (n + 2) (d' + 1) 184 13 [some (.ref 1), some (.retAddr w)] [.int 0] h1).trans ((zx1 zf184_13).trans rfl))
end WB
