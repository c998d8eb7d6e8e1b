set_option maxRecDepth 100000 in
theorem zpure (L : Nat) (xs : Nat → Int32) (hL : L ≤ 6) : ∃ n h', zex (L, xs) n 100 0 0 (zent 7 [.float 0]) [] zh0 = some (.inl (some (.int 1)), h') ∧ h'.2.2.2.1 ≤ 600002 ∧ h'.2.2.2.2 ≤ 7302231 := by
  have hz := zand63 (xs 0)
  by_cases h6 : L = 6
  · subst h6
    have hv : ∃ k : Nat, k < 64 ∧ (xs 0 &&& 63).toInt = (k : Int) := ⟨(xs 0 &&& 63).toInt.toNat, by omega, by omega⟩
    obtain ⟨k, hk, hv⟩ := hv
    by_cases h48 : 48 ≤ k
    · exact zrunD_s (E := (6, xs)) rfl (zall _).1 (zall _).2 (by show _ ≤ (xs 0 &&& 63).toInt + _; omega) (by show (xs 0 &&& 63).toInt + _ ≤ _; omega) zop48
    · match k, h48, hv with
      | 0, _, hv => exact zrunD_s (E := (6, xs)) rfl (zall _).1 (zall _).2 (by show _ ≤ (xs 0 &&& 63).toInt + _; omega) (by show (xs 0 &&& 63).toInt + _ ≤ _; omega) zop0
      | 1, _, hv => exact zrunD_s (E := (6, xs)) rfl (zall _).1 (zall _).2 (by show _ ≤ (xs 0 &&& 63).toInt + _; omega) (by show (xs 0 &&& 63).toInt + _ ≤ _; omega) zop1
      | 2, _, hv => exact zrunD_s (E := (6, xs)) rfl (zall _).1 (zall _).2 (by show _ ≤ (xs 0 &&& 63).toInt + _; omega) (by show (xs 0 &&& 63).toInt + _ ≤ _; omega) zop2
      | 3, _, hv => exact zrunD_s (E := (6, xs)) rfl (zall _).1 (zall _).2 (by show _ ≤ (xs 0 &&& 63).toInt + _; omega) (by show (xs 0 &&& 63).toInt + _ ≤ _; omega) zop3
      | 4, _, hv => exact zrunD_s (E := (6, xs)) rfl (zall _).1 (zall _).2 (by show _ ≤ (xs 0 &&& 63).toInt + _; omega) (by show (xs 0 &&& 63).toInt + _ ≤ _; omega) zop4
      | 5, _, hv => exact zrunD_s (E := (6, xs)) rfl (zall _).1 (zall _).2 (by show _ ≤ (xs 0 &&& 63).toInt + _; omega) (by show (xs 0 &&& 63).toInt + _ ≤ _; omega) zop5
      | 6, _, hv => exact zrunD_s (E := (6, xs)) rfl (zall _).1 (zall _).2 (by show _ ≤ (xs 0 &&& 63).toInt + _; omega) (by show (xs 0 &&& 63).toInt + _ ≤ _; omega) zop6
      | 7, _, hv => exact zrunD_s (E := (6, xs)) rfl (zall _).1 (zall _).2 (by show _ ≤ (xs 0 &&& 63).toInt + _; omega) (by show (xs 0 &&& 63).toInt + _ ≤ _; omega) zop7
      | 8, _, hv => exact zrunD_s (E := (6, xs)) rfl (zall _).1 (zall _).2 (by show _ ≤ (xs 0 &&& 63).toInt + _; omega) (by show (xs 0 &&& 63).toInt + _ ≤ _; omega) zop8
      | 9, _, hv => exact zrunD_s (E := (6, xs)) rfl (zall _).1 (zall _).2 (by show _ ≤ (xs 0 &&& 63).toInt + _; omega) (by show (xs 0 &&& 63).toInt + _ ≤ _; omega) zop9
      | 10, _, hv => exact zrunD_s (E := (6, xs)) rfl (zall _).1 (zall _).2 (by show _ ≤ (xs 0 &&& 63).toInt + _; omega) (by show (xs 0 &&& 63).toInt + _ ≤ _; omega) zop10
      | 11, _, hv => exact zrunD_s (E := (6, xs)) rfl (zall _).1 (zall _).2 (by show _ ≤ (xs 0 &&& 63).toInt + _; omega) (by show (xs 0 &&& 63).toInt + _ ≤ _; omega) zop11
      | 12, _, hv => exact zrunD_s (E := (6, xs)) rfl (zall _).1 (zall _).2 (by show _ ≤ (xs 0 &&& 63).toInt + _; omega) (by show (xs 0 &&& 63).toInt + _ ≤ _; omega) zop12
      | 13, _, hv => exact zrunD_s (E := (6, xs)) rfl (zall _).1 (zall _).2 (by show _ ≤ (xs 0 &&& 63).toInt + _; omega) (by show (xs 0 &&& 63).toInt + _ ≤ _; omega) zop13
      | 14, _, hv => exact zrunD_s (E := (6, xs)) rfl (zall _).1 (zall _).2 (by show _ ≤ (xs 0 &&& 63).toInt + _; omega) (by show (xs 0 &&& 63).toInt + _ ≤ _; omega) zop14
      | 15, _, hv => exact zrunD_s (E := (6, xs)) rfl (zall _).1 (zall _).2 (by show _ ≤ (xs 0 &&& 63).toInt + _; omega) (by show (xs 0 &&& 63).toInt + _ ≤ _; omega) zop15
      | 16, _, hv => exact zrunD_s (E := (6, xs)) rfl (zall _).1 (zall _).2 (by show _ ≤ (xs 0 &&& 63).toInt + _; omega) (by show (xs 0 &&& 63).toInt + _ ≤ _; omega) zop16
      | 17, _, hv => exact zrunD_s (E := (6, xs)) rfl (zall _).1 (zall _).2 (by show _ ≤ (xs 0 &&& 63).toInt + _; omega) (by show (xs 0 &&& 63).toInt + _ ≤ _; omega) zop17
      | 18, _, hv => exact zrunD_s (E := (6, xs)) rfl (zall _).1 (zall _).2 (by show _ ≤ (xs 0 &&& 63).toInt + _; omega) (by show (xs 0 &&& 63).toInt + _ ≤ _; omega) zop18
      | 19, _, hv => exact zrunD_s (E := (6, xs)) rfl (zall _).1 (zall _).2 (by show _ ≤ (xs 0 &&& 63).toInt + _; omega) (by show (xs 0 &&& 63).toInt + _ ≤ _; omega) zop19
      | 20, _, hv => exact zrunD_s (E := (6, xs)) rfl (zall _).1 (zall _).2 (by show _ ≤ (xs 0 &&& 63).toInt + _; omega) (by show (xs 0 &&& 63).toInt + _ ≤ _; omega) zop20
      | 21, _, hv => exact zrunD_s (E := (6, xs)) rfl (zall _).1 (zall _).2 (by show _ ≤ (xs 0 &&& 63).toInt + _; omega) (by show (xs 0 &&& 63).toInt + _ ≤ _; omega) zop21
      | 22, _, hv => exact zrunD_s (E := (6, xs)) rfl (zall _).1 (zall _).2 (by show _ ≤ (xs 0 &&& 63).toInt + _; omega) (by show (xs 0 &&& 63).toInt + _ ≤ _; omega) zop22
      | 23, _, hv => exact zrunD_s (E := (6, xs)) rfl (zall _).1 (zall _).2 (by show _ ≤ (xs 0 &&& 63).toInt + _; omega) (by show (xs 0 &&& 63).toInt + _ ≤ _; omega) zop23
      | 24, _, hv => exact zrunD_s (E := (6, xs)) rfl (zall _).1 (zall _).2 (by show _ ≤ (xs 0 &&& 63).toInt + _; omega) (by show (xs 0 &&& 63).toInt + _ ≤ _; omega) zop24
      | 25, _, hv => exact zrunD_s (E := (6, xs)) rfl (zall _).1 (zall _).2 (by show _ ≤ (xs 0 &&& 63).toInt + _; omega) (by show (xs 0 &&& 63).toInt + _ ≤ _; omega) zop25
      | 26, _, hv => exact zrunD_s (E := (6, xs)) rfl (zall _).1 (zall _).2 (by show _ ≤ (xs 0 &&& 63).toInt + _; omega) (by show (xs 0 &&& 63).toInt + _ ≤ _; omega) zop26
      | 27, _, hv => exact zrunD_s (E := (6, xs)) rfl (zall _).1 (zall _).2 (by show _ ≤ (xs 0 &&& 63).toInt + _; omega) (by show (xs 0 &&& 63).toInt + _ ≤ _; omega) zop27
      | 28, _, hv => exact zrunD_s (E := (6, xs)) rfl (zall _).1 (zall _).2 (by show _ ≤ (xs 0 &&& 63).toInt + _; omega) (by show (xs 0 &&& 63).toInt + _ ≤ _; omega) zop28
      | 29, _, hv => exact zrunD_s (E := (6, xs)) rfl (zall _).1 (zall _).2 (by show _ ≤ (xs 0 &&& 63).toInt + _; omega) (by show (xs 0 &&& 63).toInt + _ ≤ _; omega) zop29
      | 30, _, hv =>
        have l2 := alo (xs 2)
        by_cases c1 : (xs 2).toInt < 0
        · exact zrunD_s (E := (6, xs)) rfl (by show _ ≤ (xs 2).toInt + _; omega) (by show (xs 2).toInt + _ ≤ _; omega) (by show _ ≤ (xs 0 &&& 63).toInt + _; omega) (by show (xs 0 &&& 63).toInt + _ ≤ _; omega) zop30a
        · by_cases c2 : (xs 2).toInt = 0
          · exact zrunD_s (E := (6, xs)) rfl (by show _ ≤ (xs 2).toInt + _; omega) (by show (xs 2).toInt + _ ≤ _; omega) (by show _ ≤ (xs 0 &&& 63).toInt + _; omega) (by show (xs 0 &&& 63).toInt + _ ≤ _; omega) zop30b
          · exact zrunD_s (E := (6, xs)) rfl (by show _ ≤ (xs 2).toInt + _; omega) (by show (xs 2).toInt + _ ≤ _; omega) (by show _ ≤ (xs 0 &&& 63).toInt + _; omega) (by show (xs 0 &&& 63).toInt + _ ≤ _; omega) zop30c
      | 31, _, hv => exact zrunD_s (E := (6, xs)) rfl (zall _).1 (zall _).2 (by show _ ≤ (xs 0 &&& 63).toInt + _; omega) (by show (xs 0 &&& 63).toInt + _ ≤ _; omega) zop31
      | 32, _, hv => exact zrunD_s (E := (6, xs)) rfl (zall _).1 (zall _).2 (by show _ ≤ (xs 0 &&& 63).toInt + _; omega) (by show (xs 0 &&& 63).toInt + _ ≤ _; omega) zop32
      | 33, _, hv => exact zrunD_s (E := (6, xs)) rfl (zall _).1 (zall _).2 (by show _ ≤ (xs 0 &&& 63).toInt + _; omega) (by show (xs 0 &&& 63).toInt + _ ≤ _; omega) zop33
      | 34, _, hv => exact zrunD_s (E := (6, xs)) rfl (zall _).1 (zall _).2 (by show _ ≤ (xs 0 &&& 63).toInt + _; omega) (by show (xs 0 &&& 63).toInt + _ ≤ _; omega) zop34
      | 35, _, hv => exact zrunD_s (E := (6, xs)) rfl (zall _).1 (zall _).2 (by show _ ≤ (xs 0 &&& 63).toInt + _; omega) (by show (xs 0 &&& 63).toInt + _ ≤ _; omega) zop35
      | 36, _, hv => exact zrunD_s (E := (6, xs)) rfl (zall _).1 (zall _).2 (by show _ ≤ (xs 0 &&& 63).toInt + _; omega) (by show (xs 0 &&& 63).toInt + _ ≤ _; omega) zop36
      | 37, _, hv => exact zrunD_s (E := (6, xs)) rfl (zall _).1 (zall _).2 (by show _ ≤ (xs 0 &&& 63).toInt + _; omega) (by show (xs 0 &&& 63).toInt + _ ≤ _; omega) zop37
      | 38, _, hv => exact zrunD_s (E := (6, xs)) rfl (zall _).1 (zall _).2 (by show _ ≤ (xs 0 &&& 63).toInt + _; omega) (by show (xs 0 &&& 63).toInt + _ ≤ _; omega) zop38
      | 39, _, hv => exact zrunD_s (E := (6, xs)) rfl (zall _).1 (zall _).2 (by show _ ≤ (xs 0 &&& 63).toInt + _; omega) (by show (xs 0 &&& 63).toInt + _ ≤ _; omega) zop39
      | 40, _, hv => exact zrunD_s (E := (6, xs)) rfl (zall _).1 (zall _).2 (by show _ ≤ (xs 0 &&& 63).toInt + _; omega) (by show (xs 0 &&& 63).toInt + _ ≤ _; omega) zop40
      | 41, _, hv => exact zrunD_s (E := (6, xs)) rfl (zall _).1 (zall _).2 (by show _ ≤ (xs 0 &&& 63).toInt + _; omega) (by show (xs 0 &&& 63).toInt + _ ≤ _; omega) zop41
      | 42, _, hv => exact zrunD_s (E := (6, xs)) rfl (zall _).1 (zall _).2 (by show _ ≤ (xs 0 &&& 63).toInt + _; omega) (by show (xs 0 &&& 63).toInt + _ ≤ _; omega) zop42
      | 43, _, hv => exact zrunD_s (E := (6, xs)) rfl (zall _).1 (zall _).2 (by show _ ≤ (xs 0 &&& 63).toInt + _; omega) (by show (xs 0 &&& 63).toInt + _ ≤ _; omega) zop43
      | 44, _, hv => exact zrunD_s (E := (6, xs)) rfl (zall _).1 (zall _).2 (by show _ ≤ (xs 0 &&& 63).toInt + _; omega) (by show (xs 0 &&& 63).toInt + _ ≤ _; omega) zop44
      | 45, _, hv => exact zrunD_s (E := (6, xs)) rfl (zall _).1 (zall _).2 (by show _ ≤ (xs 0 &&& 63).toInt + _; omega) (by show (xs 0 &&& 63).toInt + _ ≤ _; omega) zop45
      | 46, _, hv => exact zrunD_s (E := (6, xs)) rfl (zall _).1 (zall _).2 (by show _ ≤ (xs 0 &&& 63).toInt + _; omega) (by show (xs 0 &&& 63).toInt + _ ≤ _; omega) zop46
      | 47, _, hv => exact zrunD_s (E := (6, xs)) rfl (zall _).1 (zall _).2 (by show _ ≤ (xs 0 &&& 63).toInt + _; omega) (by show (xs 0 &&& 63).toInt + _ ≤ _; omega) zop47
      | k + 48, h48, _ => exact absurd (by omega) h48
  · match L, hL, h6 with
    | 0, _, _ => exact zrunD_s (E := (0, xs)) rfl (zall _).1 (zall _).2 (by show _ ≤ (xs 0 &&& 63).toInt + _; omega) (by show (xs 0 &&& 63).toInt + _ ≤ _; omega) zshort0
    | 1, _, _ => exact zrunD_s (E := (1, xs)) rfl (zall _).1 (zall _).2 (by show _ ≤ (xs 0 &&& 63).toInt + _; omega) (by show (xs 0 &&& 63).toInt + _ ≤ _; omega) zshort1
    | 2, _, _ => exact zrunD_s (E := (2, xs)) rfl (zall _).1 (zall _).2 (by show _ ≤ (xs 0 &&& 63).toInt + _; omega) (by show (xs 0 &&& 63).toInt + _ ≤ _; omega) zshort2
    | 3, _, _ => exact zrunD_s (E := (3, xs)) rfl (zall _).1 (zall _).2 (by show _ ≤ (xs 0 &&& 63).toInt + _; omega) (by show (xs 0 &&& 63).toInt + _ ≤ _; omega) zshort3
    | 4, _, _ => exact zrunD_s (E := (4, xs)) rfl (zall _).1 (zall _).2 (by show _ ≤ (xs 0 &&& 63).toInt + _; omega) (by show (xs 0 &&& 63).toInt + _ ≤ _; omega) zshort4
    | 5, _, _ => exact zrunD_s (E := (5, xs)) rfl (zall _).1 (zall _).2 (by show _ ≤ (xs 0 &&& 63).toInt + _; omega) (by show (xs 0 &&& 63).toInt + _ ≤ _; omega) zshort5
    | 6, _, h6 => exact absurd rfl h6
    | L + 7, hL, _ => exact absurd hL (by omega)
