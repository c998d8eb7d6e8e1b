set_option maxRecDepth 100000 in
theorem sk_all {P : Int → Bool} {T : Nat → Int} {L : Nat} : ∀ (m q : Nat), L ≤ q + m → ∀ i, q ≤ i → i < sk P T L q → P (T i) = true
  | 0, q, hm, i, h1, h2 => by
    rw [sk_e (fun z => by omega)] at h2
    omega
  | m + 1, q, hm, i, h1, h2 => by
    by_cases h : q < L → P (T q) = false
    · rw [sk_e h] at h2
      omega
    · have hlt : q < L := by
        by_cases z : q < L
        · exact z
        · exact absurd (fun z2 => absurd z2 z) h
      have hp : P (T q) = true := by
        cases hz : P (T q) with
        | true => rfl
        | false => exact absurd (fun _ => hz) h
      rw [sk_s hlt hp] at h2
      by_cases hi : i = q
      · rw [hi]; exact hp
      · exact sk_all m (q + 1) (by omega) i (by omega) h2
set_option maxRecDepth 100000 in
theorem vln_3 {T : Nat → Int} {s n : Nat} (h : ∀ i, i < n → 48 ≤ T (s + i) ∧ T (s + i) ≤ 57) (hn : n ≤ 3) : 0 ≤ vln T s n ∧ vln T s n ≤ 999 := by
  match n, hn with
  | 0, _ => exact ⟨Int.le_refl _, by show (0 : Int) ≤ 999; decide⟩
  | 1, _ =>
    have a := h 0 (by omega)
    show 0 ≤ 10 * 0 + (T (s + 0) - 48) ∧ 10 * 0 + (T (s + 0) - 48) ≤ 999
    omega
  | 2, _ =>
    have a := h 0 (by omega)
    have b := h 1 (by omega)
    show 0 ≤ 10 * (10 * 0 + (T (s + 0) - 48)) + (T (s + 1) - 48) ∧ 10 * (10 * 0 + (T (s + 0) - 48)) + (T (s + 1) - 48) ≤ 999
    omega
  | 3, _ =>
    have a := h 0 (by omega)
    have b := h 1 (by omega)
    have c := h 2 (by omega)
    show 0 ≤ 10 * (10 * (10 * 0 + (T (s + 0) - 48)) + (T (s + 1) - 48)) + (T (s + 2) - 48) ∧ 10 * (10 * (10 * 0 + (T (s + 0) - 48)) + (T (s + 1) - 48)) + (T (s + 2) - 48) ≤ 999
    omega
set_option maxRecDepth 100000 in
theorem kV_b {T : Nat → Int} {L s : Nat} (h1 : kK T L s = 1) : (0 ≤ kV T L s ∧ kV T L s ≤ 999999999) ∧ (kE T L s - s ≤ 3 → kV T L s ≤ 999) := by
  have e1 : kE T L s = sk isDg T L s := by
    unfold kE
    rw [if_neg (by omega), if_pos h1]
  have hd : ∀ i, i < kE T L s - s → 48 ≤ T (s + i) ∧ T (s + i) ≤ 57 := by
    intro i hi
    rw [e1] at hi
    exact isDg_s.mp (sk_all L s (Nat.le_add_left L s) (s + i) (by omega) (by omega))
  unfold kV
  rw [if_pos h1]
  have a := vln_b (T := T) (s := s) (min 9 (kE T L s - s)) (fun i hi => hd i (by omega)) (by omega)
  refine ⟨⟨a.1, a.2.1⟩, fun h3 => ?_⟩
  have hm : min 9 (kE T L s - s) = kE T L s - s := by omega
  rw [hm]
  exact (vln_3 hd h3).2
set_option maxRecDepth 100000 in
theorem kV_bb {T : Nat → Int} {L s : Nat} : 0 ≤ kV T L s ∧ kV T L s ≤ 999999999 := by
  by_cases h1 : kK T L s = 1
  · exact (kV_b h1).1
  · unfold kV
    rw [if_neg h1]
    exact ⟨Int.le_refl _, by decide⟩
set_option maxRecDepth 100000 in
theorem zf164_15 : zfetch 164 15 = some (.aload_n 1, 1, (0, 0, 0), 0, 0) := by decide +kernel
set_option maxRecDepth 100000 in
theorem zf164_16 : zfetch 164 16 = some (.ldc 106, 2, (1, 9, 0), 0, 1110) := by decide +kernel
set_option maxRecDepth 100000 in
theorem zf164_18 : zfetch 164 18 = some (.invokevirtual 49, 3, (0, 185, 1), 0, 1065) := by decide +kernel
set_option maxRecDepth 100000 in
theorem zf164_21 : zfetch 164 21 = some (.istore 5, 2, (0, 0, 0), 0, 0) := by decide +kernel
set_option maxRecDepth 100000 in
theorem zf164_86 : zfetch 164 86 = some (.aload_n 1, 1, (0, 0, 0), 0, 0) := by decide +kernel
set_option maxRecDepth 100000 in
theorem zf164_87 : zfetch 164 87 = some (.invokevirtual 44, 3, (0, 181, 1), 0, 1070) := by decide +kernel
set_option maxRecDepth 100000 in
theorem zf164_162 : zfetch 164 162 = some (.aload_n 1, 1, (0, 0, 0), 0, 0) := by decide +kernel
set_option maxRecDepth 100000 in
theorem zf164_163 : zfetch 164 163 = some (.invokevirtual 44, 3, (0, 181, 1), 0, 1070) := by decide +kernel
section KS
variable {E : zE} {B F : Nat} {h0 h : zH} {L s : Nat}
set_option maxRecDepth 100000 in
theorem ks_word (hE : E.1 < 2147483648) (hsm : bSO E ctb B (60, smT)) (hb9 : ∀ i, 0 ≤ tp2 h0 i ∧ tp2 h0 i ≤ 255) (hF : 1000000 ≤ F) (hL4 : L ≤ 400) (hs : s ≤ L) (hc : sk isBl (tp2 h0) L s = s) (hr : bRQ ctb wC h0 0 0 h) (ht : CT h (tp2 h0) L s) {x2 x3 x4 : Int32} {u : Option Value} :
    ∀ d n, 60 ≤ d → B + F * 100 ≤ n + 1 → ∃ (x : Int32) (h' : zH), x.toInt = wrd (tp2 h0) (kK (tp2 h0) L s) s (kE (tp2 h0) L s) uFacts ∧ bRQ ctb wC h0 0 0 h' ∧ CT h' (tp2 h0) L s ∧ zex E (n + 4) (d + 1) 164 15 (kls x2 x3 x4 u) [] h = zex E n (d + 1) 164 23 (kls x2 x3 x4 (some (.int x))) [] h' := by
  intro d n hd hf
  have hT : tp2 h = tp2 h0 := tp2_e fun i => wC_2 hr i
  have hk := kE_b hs hc
  obtain ⟨x, h1, e1, e2, e3⟩ := wordAmong (w := 9) (ws := uFacts) hE hsm hF hr.1 hr.2.1 hr.2.2.1 (e := kE (tp2 h0) L s) (s := s) (K := kK (tp2 h0) L s) (by omega) hk.1 ht.2.1 (kK_b _ _ _) ht.2.2.1 ht.2.2.2.1 (by rw [hT]; exact hb9) (by decide) waw_9 (by decide) d (n + 1) hd hf
  rw [hT] at e2
  have ha := hr.2.2.1 1 _ cs1 (by intro z; cases z)
  refine ⟨x, h1, e2, bRQ_tr hr (bRQ_w0 e3), ⟨by rw [b0_eq e3]; exact ht.1, by rw [b0_eq e3]; exact ht.2.1, by rw [b0_eq e3]; exact ht.2.2.1, by rw [b0_eq e3]; exact ht.2.2.2.1, by rw [b0_eq e3]; exact ht.2.2.2.2⟩, ?_⟩
  exact ((zx1 zf164_15).trans rfl : zex E (n + 4) (d + 1) 164 15 (kls x2 x3 x4 u) [] h = zex E (n + 3) (d + 1) 164 16 (kls x2 x3 x4 u) [.ref 1] h).trans
    (((zx1 zf164_16).trans rfl : zex E (n + 3) (d + 1) 164 16 (kls x2 x3 x4 u) [.ref 1] h = zex E (n + 2) (d + 1) 164 18 (kls x2 x3 x4 u) [.retAddr 9, .ref 1] h).trans
    ((zcvg (as := [.retAddr 9]) (r := []) zf164_18 zmi185 rfl ha rfl e1).trans
    ((zx1 zf164_21).trans rfl : zex E (n + 1) (d + 1) 164 21 (kls x2 x3 x4 u) [.int x] h1 = zex E n (d + 1) 164 23 (kls x2 x3 x4 (some (.int x))) [] h1)))
set_option maxRecDepth 100000 in
theorem ks_adv (hE : E.1 < 2147483648) (hsm : bSO E ctb B (60, smT)) (hb9 : ∀ i, 0 ≤ tp2 h0 i ∧ tp2 h0 i ≤ 255) (hF : 1000000 ≤ F) (hL4 : L ≤ 400) (hs : s ≤ L) (hc : sk isBl (tp2 h0) L s = s) (hr : bRQ ctb wC h0 0 0 h) (ht : CT h (tp2 h0) L s) {x2 x3 x4 : Int32} {u : Option Value} :
    ∀ d n, 60 ≤ d → B + F * 900 ≤ n → ∃ h' : zH, bRQ ctb wC h0 0 0 h' ∧ CT h' (tp2 h0) L (nxt (tp2 h0) L s) ∧ zex E (n + 2) (d + 1) 164 86 (kls x2 x3 x4 u) [] h = zex E n (d + 1) 164 90 (kls x2 x3 x4 u) [] h' ∧ zex E (n + 2) (d + 1) 164 162 (kls x2 x3 x4 u) [] h = zex E n (d + 1) 164 166 (kls x2 x3 x4 u) [] h' := by
  intro d n hd hf
  obtain ⟨h', e1, k1, k2⟩ := cadv hE hsm hb9 hF hL4 hs hc hr ht d n hd hf
  have ha := hr.2.2.1 1 _ cs1 (by intro z; cases z)
  refine ⟨h', k1, k2, ?_, ?_⟩
  · exact ((zx1 zf164_86).trans rfl : zex E (n + 2) (d + 1) 164 86 (kls x2 x3 x4 u) [] h = zex E (n + 1) (d + 1) 164 87 (kls x2 x3 x4 u) [.ref 1] h).trans (zcvg (as := []) (r := []) zf164_87 zmi181 rfl ha rfl e1)
  · exact ((zx1 zf164_162).trans rfl : zex E (n + 2) (d + 1) 164 162 (kls x2 x3 x4 u) [] h = zex E (n + 1) (d + 1) 164 163 (kls x2 x3 x4 u) [.ref 1] h).trans (zcvg (as := []) (r := []) zf164_163 zmi181 rfl ha rfl e1)
end KS
