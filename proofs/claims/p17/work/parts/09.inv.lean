/-! INVERSIONS -/
theorem zat_eq {α : Type} : ∀ (l : List α) (i : Nat), zat l i = l[i]?
  | [], i => by simp [zat]
  | a :: l, 0 => by simp [zat]
  | a :: l, i + 1 => by simp [zat, zat_eq l i]
theorem zset_eq {α : Type} : ∀ (l : List α) (i : Nat) (x : α), zset l i x = l.set i x
  | [], i, x => by simp [zset]
  | a :: l, 0, x => by simp [zset]
  | a :: l, i + 1, x => by simp [zset, zset_eq l i x]
theorem zrow_at {α : Type} (v : Nat → Nat → α) (c : Nat) (f : Nat → α) : zrow v c f c = f := by simp [zrow, Nat.beq_refl]
theorem zrow_ne {α : Type} (v : Nat → Nat → α) {c d : Nat} (f : Nat → α) (h : d ≠ c) : zrow v c f d = v d := by
  have : Nat.beq d c = false := by
    cases hb : Nat.beq d c with
    | false => rfl
    | true => exact absurd (Nat.eq_of_beq_eq_true hb) h
  simp [zrow, this]
theorem zcond {α : Type} {b : Bool} {x : Option α} {r : α} (h : cond b x none = some r) : b = true ∧ x = some r := by
  cases b with
  | true => exact ⟨rfl, h⟩
  | false => cases h
theorem zbeq {a b : Nat} (h : Nat.beq a b = true) : a = b := Nat.eq_of_beq_eq_true h
theorem zck_inv {j : Int32} {n : Nat} {r : Option zR} {q : zR} (h : zck j n r = some q) : vp_in j n ∧ r = some q := by
  unfold zck at h
  split at h
  · cases h
  · split at h
    · cases h
    · rename_i h1 h2
      exact ⟨fun z => z.elim h1 h2, h⟩
theorem zc01_inv {x : Int32} {r : Option zR} {q : zR} (h : zc01 x r = some q) : (x = 0 ∨ x = 1) ∧ r = some q := by
  unfold zc01 at h
  split at h
  · rename_i h1; exact ⟨Or.inl h1, h⟩
  · split at h
    · rename_i h1; exact ⟨Or.inr h1, h⟩
    · cases h
theorem znz_inv {x : Int32} {r : Option zR} {q : zR} (h : znz x r = some q) : ¬ x = 0 ∧ r = some q := by
  unfold znz at h
  split at h
  · cases h
  · rename_i h1; exact ⟨h1, h⟩
theorem znzl_inv {x : Int64} {r : Option zR} {q : zR} (h : znzl x r = some q) : ¬ x = 0 ∧ r = some q := by
  unfold znzl at h
  split at h
  · cases h
  · rename_i h1; exact ⟨h1, h⟩
theorem zarr_inv {h : zH} {t a : Nat} {k : Nat → Option zR} {q : zR} (e : zarr h t a k = some q) : ∃ n rf, zat h.1 a = some (.inl (t, n, rf)) ∧ k n = some q := by
  unfold zarr at e
  split at e
  · rename_i t' n rf h1
    obtain ⟨h2, h3⟩ := zcond e
    rw [zbeq h2] at h1
    exact ⟨n, rf, h1, h3⟩
  · cases e
section ZINV
variable {q : zR} {ls : zLs} {i : Nat} {st : List Value} {h : zH}
theorem zldI_inv {k : List Value → Option zR} (e : zldI k ls i st = some q) : ∃ x, zat ls i = some (some (.int x)) ∧ k (.int x :: st) = some q := by
  unfold zldI at e
  split at e
  · exact ⟨_, by assumption, e⟩
  · cases e
theorem zldJ_inv {k : List Value → Option zR} (e : zldJ k ls i st = some q) : ∃ x, zat ls i = some (some (.long x)) ∧ k (.long x :: st) = some q := by
  unfold zldJ at e
  split at e
  · exact ⟨_, by assumption, e⟩
  · cases e
theorem zldA_inv {k : List Value → Option zR} (e : zldA k ls i st = some q) : ∃ v, zat ls i = some (some v) ∧ zisA v = true ∧ k (v :: st) = some q := by
  unfold zldA at e
  split at e
  · obtain ⟨h1, h2⟩ := zcond e
    exact ⟨_, by assumption, h1, h2⟩
  · cases e
theorem zstI_inv {k : zLs → List Value → Option zR} (e : zstI k ls i st = some q) : ∃ x r, st = .int x :: r ∧ k (zstl ls i (.int x)) r = some q := by
  unfold zstI at e
  split at e
  · exact ⟨_, _, rfl, e⟩
  · cases e
theorem zstJ_inv {k : zLs → List Value → Option zR} (e : zstJ k ls i st = some q) : ∃ x r, st = .long x :: r ∧ k (zset (zstl ls i (.long x)) (i + 1) none) r = some q := by
  unfold zstJ at e
  split at e
  · exact ⟨_, _, rfl, e⟩
  · cases e
theorem zstA_inv {k : zLs → List Value → Option zR} (e : zstA k ls i st = some q) : ∃ v r, st = v :: r ∧ ((∃ x, v = .ref x) ∨ ∃ x, v = .double x) ∧ k (zstl ls i v) r = some q := by
  unfold zstA at e
  split at e
  · exact ⟨_, _, rfl, Or.inl ⟨_, rfl⟩, e⟩
  · exact ⟨_, _, rfl, Or.inr ⟨_, rfl⟩, e⟩
  · cases e
theorem zinc_inv {k : zLs → Option zR} {z : Int32} (e : zinc k ls i z = some q) : ∃ x, zat ls i = some (some (.int x)) ∧ k (zstl ls i (.int (x + z))) = some q := by
  unfold zinc at e
  split at e
  · exact ⟨_, by assumption, e⟩
  · cases e
theorem zb2_inv {k : List Value → Option zR} {f : Int32 → Int32 → Int32} (e : zb2 k f st = some q) : ∃ a b r, st = .int b :: .int a :: r ∧ k (.int (f a b) :: r) = some q := by
  unfold zb2 at e
  split at e
  · exact ⟨_, _, _, rfl, e⟩
  · cases e
theorem zl2_inv {k : List Value → Option zR} {f : Int64 → Int64 → Int64} (e : zl2 k f st = some q) : ∃ a b r, st = .long b :: .long a :: r ∧ k (.long (f a b) :: r) = some q := by
  unfold zl2 at e
  split at e
  · exact ⟨_, _, _, rfl, e⟩
  · cases e
/-- the int compare with 0 -/
def zc0 (c : ClassFile.Cond) (x : Int32) : Prop := match c with
  | .eq => x = 0
  | .ne => ¬ x = 0
  | .lt => x < 0
  | .ge => 0 ≤ x
  | .gt => 0 < x
  | .le => x ≤ 0
def zcc (c : ClassFile.Cond) (x y : Int32) : Prop := match c with
  | .eq => x = y
  | .ne => ¬ x = y
  | .lt => x < y
  | .ge => y ≤ x
  | .gt => y < x
  | .le => x ≤ y
theorem zif1_inv {k : Nat → List Value → Option zR} {c : ClassFile.Cond} {t p : Nat} (e : zif1 k c t p st = some q) : ∃ x r, st = .int x :: r ∧ (zc0 c x → k t r = some q) ∧ (¬ zc0 c x → k p r = some q) := by
  unfold zif1 at e
  split at e
  · refine ⟨_, _, rfl, ?_⟩
    cases c <;> simp only [zc0] <;> dsimp only at e <;> split at e <;> rename_i h1 <;> first | exact ⟨fun _ => e, fun z => absurd h1 z⟩ | exact ⟨fun z => absurd z h1, fun _ => e⟩ | exact ⟨fun z => absurd h1 z, fun _ => e⟩ | exact ⟨fun _ => e, fun z => absurd z h1⟩ | exact ⟨fun _ => e, fun z => absurd h1 (fun _ => z h1)⟩
  · cases e
theorem zif2_inv {k : Nat → List Value → Option zR} {c : ClassFile.Cond} {t p : Nat} (e : zif2 k c t p st = some q) : ∃ x y r, st = .int y :: .int x :: r ∧ (zcc c x y → k t r = some q) ∧ (¬ zcc c x y → k p r = some q) := by
  unfold zif2 at e
  split at e
  · refine ⟨_, _, _, rfl, ?_⟩
    cases c <;> simp only [zcc] <;> dsimp only at e <;> split at e <;> rename_i h1 <;> first | exact ⟨fun _ => e, fun z => absurd h1 z⟩ | exact ⟨fun z => absurd z h1, fun _ => e⟩ | exact ⟨fun z => absurd h1 z, fun _ => e⟩ | exact ⟨fun _ => e, fun z => absurd z h1⟩ | exact ⟨fun _ => e, fun z => absurd h1 (fun _ => z h1)⟩
  · cases e
theorem znul_inv {k : Nat → List Value → Option zR} {t p : Nat} (e : znul k t p st = some q) : (∃ r, st = .null :: r ∧ k t r = some q) ∨ ∃ a r, st = .ref a :: r ∧ k p r = some q := by
  unfold znul at e
  split at e
  · exact Or.inl ⟨_, rfl, e⟩
  · exact Or.inr ⟨_, _, rfl, e⟩
  · cases e
theorem zget_inv {k : List Value → Option zR} {ci fk : Nat} (e : zget k h ci fk st = some q) : ∃ a r sl, st = .ref a :: r ∧ zat h.1 a = some (.inr (.inl (ci, sl))) ∧ ((zat sl fk = some none ∧ k (.int (h.2.1 a fk) :: r) = some q) ∨ ∃ o, zat sl fk = some (some o) ∧ k (zrf o :: r) = some q) := by
  unfold zget at e
  split at e
  · split at e
    · rename_i c sl h1
      obtain ⟨h2, h3⟩ := zcond e
      rw [zbeq h2] at h1
      refine ⟨_, _, sl, rfl, h1, ?_⟩
      split at h3
      · exact Or.inl ⟨by assumption, h3⟩
      · exact Or.inr ⟨_, by assumption, h3⟩
      · cases h3
    · cases e
  · cases e
theorem zput_inv {k : List Value → zH → Option zR} {ci fk : Nat} {z : Int32} (e : zput k h ci fk z st = some q) :
    (∃ y a r sl, st = .int y :: .ref a :: r ∧ zat h.1 a = some (.inr (.inl (ci, sl))) ∧ zat sl fk = some none ∧ (z = 0 ∨ y = 0 ∨ y = 1) ∧ k r (zsetI h a (upd (h.2.1 a) fk y)) = some q) ∨
    ∃ b a r sl o, st = .ref b :: .ref a :: r ∧ zat h.1 a = some (.inr (.inl (ci, sl))) ∧ zat sl fk = some (some o) ∧ k r (zsetS h a (.inr (.inl (ci, zset sl fk (some (some b)))))) = some q := by
  unfold zput at e
  split at e
  · split at e
    · rename_i c sl h1
      obtain ⟨h2, h3⟩ := zcond e
      rw [zbeq h2] at h1
      split at h3
      · split at h3
        · exact Or.inl ⟨_, _, _, sl, rfl, h1, by assumption, Or.inl (by assumption), h3⟩
        · obtain ⟨h4, h5⟩ := zc01_inv h3
          exact Or.inl ⟨_, _, _, sl, rfl, h1, by assumption, Or.inr h4, h5⟩
      · cases h3
    · cases e
  · split at e
    · rename_i c sl h1
      obtain ⟨h2, h3⟩ := zcond e
      have h2 := zbeq h2
      subst h2
      split at h3
      · exact Or.inr ⟨_, _, _, sl, _, rfl, h1, by assumption, h3⟩
      · cases h3
    · cases e
  · cases e
theorem zald_inv {E : zE} {k : List Value → Option zR} (e : zald E k h st = some q) :
    (∃ j a r n rf, st = .int j :: .ref a :: r ∧ zat h.1 a = some (.inl (0, n, rf)) ∧ vp_in j n ∧ k (.int (h.2.1 a j.toNatClampNeg) :: r) = some q) ∨
    ∃ j f r, st = .int j :: .float f :: r ∧ vp_in j E.1 ∧ k (.int (E.2 j.toNatClampNeg) :: r) = some q := by
  unfold zald at e
  split at e
  · obtain ⟨n, rf, h1, h2⟩ := zarr_inv e
    obtain ⟨h3, h4⟩ := zck_inv h2
    exact Or.inl ⟨_, _, _, n, rf, rfl, h1, h3, h4⟩
  · obtain ⟨h3, h4⟩ := zck_inv e
    exact Or.inr ⟨_, _, _, rfl, h3, h4⟩
  · cases e
theorem zaldB_inv {k : List Value → Option zR} (e : zaldB k h st = some q) : ∃ j a r n rf, st = .int j :: .ref a :: r ∧ zat h.1 a = some (.inl (1, n, rf)) ∧ vp_in j n ∧ k (.int (h.2.1 a j.toNatClampNeg) :: r) = some q := by
  unfold zaldB at e
  split at e
  · obtain ⟨n, rf, h1, h2⟩ := zarr_inv e
    obtain ⟨h3, h4⟩ := zck_inv h2
    exact ⟨_, _, _, n, rf, rfl, h1, h3, h4⟩
  · cases e
theorem zaldJ_inv {k : List Value → Option zR} (e : zaldJ k h st = some q) : ∃ j a r n rf, st = .int j :: .ref a :: r ∧ zat h.1 a = some (.inl (2, n, rf)) ∧ vp_in j n ∧ k (.long (h.2.2.1 a j.toNatClampNeg) :: r) = some q := by
  unfold zaldJ at e
  split at e
  · obtain ⟨n, rf, h1, h2⟩ := zarr_inv e
    obtain ⟨h3, h4⟩ := zck_inv h2
    exact ⟨_, _, _, n, rf, rfl, h1, h3, h4⟩
  · cases e
theorem zaldA_inv {k : List Value → Option zR} (e : zaldA k h st = some q) : ∃ j a r t n rf o, st = .int j :: .ref a :: r ∧ zat h.1 a = some (.inl (t, n, rf)) ∧ 3 ≤ t ∧ vp_in j n ∧ zat rf j.toNatClampNeg = some o ∧ k (zrf o :: r) = some q := by
  unfold zaldA at e
  split at e
  · split at e
    · obtain ⟨h1, h2⟩ := zcond e
      obtain ⟨h3, h4⟩ := zck_inv h2
      split at h4
      · exact ⟨_, _, _, _, _, _, _, rfl, by assumption, Nat.le_of_ble_eq_true h1, h3, by assumption, h4⟩
      · cases h4
    · cases e
  · cases e
theorem zast_inv {k : List Value → zH → Option zR} (e : zast k h st = some q) : ∃ x j a r n rf, st = .int x :: .int j :: .ref a :: r ∧ zat h.1 a = some (.inl (0, n, rf)) ∧ vp_in j n ∧ k r (zsetI h a (upd (h.2.1 a) j.toNatClampNeg x)) = some q := by
  unfold zast at e
  split at e
  · obtain ⟨n, rf, h1, h2⟩ := zarr_inv e
    obtain ⟨h3, h4⟩ := zck_inv h2
    exact ⟨_, _, _, _, n, rf, rfl, h1, h3, h4⟩
  · cases e
theorem zastB_inv {k : List Value → zH → Option zR} (e : zastB k h st = some q) : ∃ x j a r n rf, st = .int x :: .int j :: .ref a :: r ∧ zat h.1 a = some (.inl (1, n, rf)) ∧ vp_in j n ∧ k r (zsetI h a (upd (h.2.1 a) j.toNatClampNeg x.toInt8.toInt32)) = some q := by
  unfold zastB at e
  split at e
  · obtain ⟨n, rf, h1, h2⟩ := zarr_inv e
    obtain ⟨h3, h4⟩ := zck_inv h2
    exact ⟨_, _, _, _, n, rf, rfl, h1, h3, h4⟩
  · cases e
theorem zastJ_inv {k : List Value → zH → Option zR} (e : zastJ k h st = some q) : ∃ x j a r n rf, st = .long x :: .int j :: .ref a :: r ∧ zat h.1 a = some (.inl (2, n, rf)) ∧ vp_in j n ∧ k r (zsetJ h a (vp_updL (h.2.2.1 a) j.toNatClampNeg x)) = some q := by
  unfold zastJ at e
  split at e
  · obtain ⟨n, rf, h1, h2⟩ := zarr_inv e
    obtain ⟨h3, h4⟩ := zck_inv h2
    exact ⟨_, _, _, _, n, rf, rfl, h1, h3, h4⟩
  · cases e
theorem zastA_inv {k : List Value → zH → Option zR} (e : zastA k h st = some q) : ∃ b j a r c n rf sl, st = .ref b :: .int j :: .ref a :: r ∧ zat h.1 a = some (.inl (c + 3, n, rf)) ∧ vp_in j n ∧ zat h.1 b = some (.inr (.inl (c, sl))) ∧ k r (zsetS h a (.inl (c + 3, n, zset rf j.toNatClampNeg (some b)))) = some q := by
  unfold zastA at e
  split at e
  · split at e
    · rename_i t n rf h0
      obtain ⟨h1, h2⟩ := zcond e
      obtain ⟨h3, h4⟩ := zck_inv h2
      split at h4
      · obtain ⟨h5, h6⟩ := zcond h4
        have h5 := zbeq h5
        subst h5
        exact ⟨_, _, _, _, _, _, _, _, rfl, h0, h3, by assumption, h6⟩
      · cases h4
    · cases e
  · cases e
theorem zalen_inv {E : zE} {k : List Value → Option zR} (e : zalen E k h st = some q) :
    (∃ a r t n rf, st = .ref a :: r ∧ zat h.1 a = some (.inl (t, n, rf)) ∧ k (.int (Int32.ofNat n) :: r) = some q) ∨ ∃ f r, st = .float f :: r ∧ k (.int (Int32.ofNat E.1) :: r) = some q := by
  unfold zalen at e
  split at e
  · split at e
    · exact Or.inl ⟨_, _, _, _, _, rfl, by assumption, e⟩
    · cases e
  · exact Or.inr ⟨_, _, rfl, e⟩
  · cases e
theorem znewa_inv {k : List Value → zH → Option zR} {t : Nat} (e : znewa k h t st = some q) : ∃ n r, st = .int n :: r ∧ ¬ n < 0 ∧ n.toNatClampNeg ≤ 100000 ∧ k (.ref h.1.length :: r) (zpush h (.inl (t, n.toNatClampNeg, cond (Nat.ble 3 t) (List.replicate n.toNatClampNeg none) [])) n.toNatClampNeg) = some q := by
  unfold znewa at e
  split at e
  · split at e
    · cases e
    · obtain ⟨h1, h2⟩ := zcond e
      exact ⟨_, _, rfl, by assumption, Nat.le_of_ble_eq_true h1, h2⟩
  · cases e
theorem zcopy_inv {k : List Value → zH → Option zR} (e : zcopy k h st = some q) : ∃ n dp b sp a r na ra nb rb, st = .int n :: .int dp :: .ref b :: .int sp :: .ref a :: r ∧ zat h.1 a = some (.inl (0, na, ra)) ∧ zat h.1 b = some (.inl (0, nb, rb)) ∧ ¬ sp < 0 ∧ ¬ dp < 0 ∧ ¬ n < 0 ∧
    sp.toNatClampNeg + n.toNatClampNeg ≤ na ∧ dp.toNatClampNeg + n.toNatClampNeg ≤ nb ∧ zsum r ≤ 8 ∧ k r (zsetI h b (va_cpy (h.2.1 a) (h.2.1 b) sp.toNatClampNeg dp.toNatClampNeg n.toNatClampNeg)) = some q := by
  unfold zcopy at e
  split at e
  · obtain ⟨na, ra, h1, e⟩ := zarr_inv e
    obtain ⟨nb, rb, h2, e⟩ := zarr_inv e
    split at e
    · cases e
    · split at e
      · cases e
      · split at e
        · cases e
        · obtain ⟨h3, h4⟩ := zcond e
          simp only [Bool.and_eq_true] at h3
          exact ⟨_, _, _, _, _, _, na, ra, nb, rb, rfl, h1, h2, by assumption, by assumption, by assumption, Nat.le_of_ble_eq_true h3.1.1, Nat.le_of_ble_eq_true h3.1.2, Nat.le_of_ble_eq_true h3.2, h4⟩
  · cases e
theorem zsw_inv {x : Int32} {k : Nat → Option zR} : ∀ {l : List (Int32 × Nat)} {d : Nat}, zsw x l d k = some q → (∃ t, (x, t) ∈ l ∧ k t = some q) ∨ ((∀ p ∈ l, x ≠ p.1) ∧ k d = some q)
  | [], d, e => Or.inr ⟨fun _ h => absurd h List.not_mem_nil, e⟩
  | (a, t) :: l, d, e => by
    unfold zsw at e
    split at e
    · rename_i h1
      exact Or.inl ⟨t, by rw [h1]; exact List.mem_cons_self, e⟩
    · rename_i h1
      rcases zsw_inv e with ⟨t', h2, h3⟩ | ⟨h2, h3⟩
      · exact Or.inl ⟨t', List.mem_cons_of_mem _ h2, h3⟩
      · exact Or.inr ⟨fun p hp => (List.mem_cons.mp hp).elim (fun z => by rw [z]; exact h1) (h2 p), h3⟩
theorem zpop_inv : ∀ {n : Nat} {st acc as r : List Value}, zpop n st acc = some (as, r) → as.length = acc.length + n ∧ as.reverse ++ r = acc.reverse ++ st
  | 0, st, acc, as, r, e => by
    simp only [zpop, Option.some.injEq, Prod.mk.injEq] at e
    obtain ⟨rfl, rfl⟩ := e
    exact ⟨rfl, rfl⟩
  | n + 1, [], acc, as, r, e => by cases e
  | n + 1, v :: st, acc, as, r, e => by
    obtain ⟨h1, h2⟩ := zpop_inv (show zpop n st (v :: acc) = some (as, r) from e)
    refine ⟨by rw [h1, List.length_cons]; omega, ?_⟩
    rw [h2, List.reverse_cons, List.append_assoc]
    rfl
theorem zcall_inv {r : Option zR} {kv : Option Value → zH → Option zR} {kx : Nat → zH → Option zR} (e : zcall r kv kx = some q) : (∃ v h1, r = some (.inl v, h1) ∧ kv v h1 = some q) ∨ ∃ x h1, r = some (.inr x, h1) ∧ kx x h1 = some q := by
  unfold zcall at e
  split at e
  · cases e
  · exact Or.inl ⟨_, _, rfl, e⟩
  · exact Or.inr ⟨_, _, rfl, e⟩
theorem zhand_inv {pc x t : Nat} : ∀ {l : List (Nat × Nat × Nat × Nat)}, zhand l pc x = some t → ∃ (pre suf : List (Nat × Nat × Nat × Nat)) (s e : Nat), l = pre ++ (s, e, t, x) :: suf ∧ s ≤ pc ∧ pc < e ∧ ∀ z ∈ pre, ¬ (z.1 ≤ pc ∧ pc < z.2.1 ∧ z.2.2.2 = x)
  | [], h => by cases h
  | (s, e, t', x') :: l, h => by
    unfold zhand at h
    cases hb : (Nat.ble s pc && Nat.blt pc e && Nat.beq x' x) with
    | true =>
      rw [hb] at h
      cases h
      simp only [Bool.and_eq_true] at hb
      have h3 := zbeq hb.2
      subst h3
      exact ⟨[], l, s, e, rfl, Nat.le_of_ble_eq_true hb.1.1, Nat.le_of_ble_eq_true hb.1.2, fun z hz => absurd hz List.not_mem_nil⟩
    | false =>
      rw [hb] at h
      obtain ⟨pre, suf, s', e', h1, h2, h3, h4⟩ := zhand_inv (show zhand l pc x = some t from h)
      refine ⟨(s, e, t', x') :: pre, suf, s', e', by rw [h1]; rfl, h2, h3, fun z hz => ?_⟩
      rcases List.mem_cons.mp hz with rfl | hz
      · intro ⟨k1, k2, k3⟩
        have : (Nat.ble s pc && Nat.blt pc e && Nat.beq x' x) = true := by
          simp only [Bool.and_eq_true]
          exact ⟨⟨Nat.ble_eq_true_of_le k1, Nat.ble_eq_true_of_le k2⟩, by have k4 : x' = x := k3 ; rw [k4]; exact Nat.beq_refl x⟩
        rw [hb] at this
        cases this
      · exact h4 z hz
theorem zrecv_inv {stc ci : Nat} {as : List Value} {r : Option zR} (e : zrecv h stc ci as r = some q) : r = some q ∧ (stc = 0 → ∃ k sl rest, as = .ref k :: rest ∧ zat h.1 k = some (.inr (.inl (ci, sl)))) := by
  unfold zrecv at e
  split at e
  · split at e
    · split at e
      · obtain ⟨h1, h2⟩ := zcond e
        have h1 := zbeq h1
        subst h1
        exact ⟨h2, fun _ => ⟨_, _, _, rfl, by assumption⟩⟩
      · cases e
    · cases e
  · exact ⟨e, fun z => by cases z⟩
theorem zinv_inv {ih : zF} {nx : zLs → List Value → zH → Option zR} {d mi pc j : Nat} {tx : Bool} (e : zinv ih nx d mi pc j tx ls st h = some q) :
    ∃ na mL stc ci rk kd as r d', zat zmi j = some (na, mL, stc, ci, rk, kd) ∧ as.length = na ∧ st = as.reverse ++ r ∧ zsum r ≤ 8 ∧ as.all zc1 = true ∧ (stc = 0 → ∃ k sl rest, as = .ref k :: rest ∧ zat h.1 k = some (.inr (.inl (ci, sl)))) ∧ d = d' + 1 ∧
    ((∃ v h1, ih d' j 0 (zent mL as) [] h = some (.inl v, h1) ∧ nx ls (v.toList ++ r) h1 = some q) ∨
     (tx = true ∧ kd = 0 ∧ ∃ x h1, ih d' j 0 (zent mL as) [] h = some (.inr x, h1) ∧
      ((∃ hs t, zat zhs mi = some hs ∧ zhand hs pc x = some t ∧ ih d mi t ls [.double 0] h1 = some q) ∨ ((zat zhs mi = none ∨ zat zhs mi = some []) ∧ q = (.inr x, h1))))) := by
  unfold zinv at e
  split at e
  · cases e
  · rename_i na mL stc ci rk kd h0
    split at e
    · cases e
    · rename_i as r h1
      obtain ⟨h2, e⟩ := zcond e
      simp only [Bool.and_eq_true] at h2
      obtain ⟨e, h3⟩ := zrecv_inv e
      obtain ⟨k1, k2⟩ := zpop_inv h1
      cases d with
      | zero => cases e
      | succ d' =>
        change zcall _ _ _ = some _ at e
        refine ⟨na, mL, stc, ci, rk, kd, as, r, d', h0, by simpa using k1, by simpa using k2.symm, Nat.le_of_ble_eq_true h2.1, h2.2, h3, rfl, ?_⟩
        rcases zcall_inv e with ⟨v, h4, h5, h6⟩ | ⟨x, h4, h5, h6⟩
        · exact Or.inl ⟨v, h4, h5, h6⟩
        · obtain ⟨h7, h8⟩ := zcond h6
          simp only [Bool.and_eq_true] at h7
          refine Or.inr ⟨h7.1, zbeq h7.2, x, h4, h5, ?_⟩
          split at h8
          · rename_i e1 l1 h9
            split at h8
            · exact Or.inl ⟨_, _, h9, by assumption, h8⟩
            · cases h8
          · rename_i h9
            refine Or.inr ⟨?_, (Option.some.inj h8).symm⟩
            cases hz : zat zhs mi with
            | none => exact Or.inl rfl
            | some y =>
              cases y with
              | nil => exact Or.inr rfl
              | cons a b => exact absurd hz (h9 a b)
theorem zpri_inv {nx : zLs → List Value → zH → Option zR} {kind : Nat} (e : zpri nx kind ls st h = some q) :
    (kind = 1 ∧ ∃ a r, st = .ref a :: r ∧ zsum r ≤ 8 ∧ nx ls r h = some q) ∨
    (kind = 2 ∧ ∃ x y r, st = .int y :: .int x :: r ∧ zsum r ≤ 8 ∧ nx ls (.int (if y < x then y else x) :: r) h = some q) ∨
    (kind = 3 ∧ ∃ x y r, st = .int y :: .int x :: r ∧ zsum r ≤ 8 ∧ nx ls (.int (if x < y then y else x) :: r) h = some q) ∨
    (kind = 4 ∧ ∃ i r bs, st = .retAddr i :: r ∧ zsum r ≤ 8 ∧ zat zstrs i = some bs ∧ nx ls (.int (Int32.ofNat bs.length) :: r) h = some q) ∨
    (kind = 5 ∧ ∃ j i r bs b, st = .int j :: .retAddr i :: r ∧ zsum r ≤ 8 ∧ zat zstrs i = some bs ∧ vp_in j bs.length ∧ zat bs j.toNatClampNeg = some b ∧ nx ls (.int b :: r) h = some q) ∨
    (kind = 6 ∧ zcopy (nx ls) h st = some q) := by
  unfold zpri at e
  split at e
  · split at e
    · obtain ⟨h1, h2⟩ := zcond e
      exact Or.inl ⟨rfl, _, _, rfl, Nat.le_of_ble_eq_true h1, h2⟩
    · cases e
  · split at e
    · obtain ⟨h1, h2⟩ := zcond e
      exact Or.inr (Or.inl ⟨rfl, _, _, _, rfl, Nat.le_of_ble_eq_true h1, h2⟩)
    · cases e
  · split at e
    · obtain ⟨h1, h2⟩ := zcond e
      exact Or.inr (Or.inr (Or.inl ⟨rfl, _, _, _, rfl, Nat.le_of_ble_eq_true h1, h2⟩))
    · cases e
  · split at e
    · obtain ⟨h1, h2⟩ := zcond e
      split at h2
      · exact Or.inr (Or.inr (Or.inr (Or.inl ⟨rfl, _, _, _, rfl, Nat.le_of_ble_eq_true h1, by assumption, h2⟩)))
      · cases h2
    · cases e
  · split at e
    · obtain ⟨h1, h2⟩ := zcond e
      split at h2
      · obtain ⟨h3, h4⟩ := zck_inv h2
        split at h4
        · exact Or.inr (Or.inr (Or.inr (Or.inr (Or.inl ⟨rfl, _, _, _, _, _, rfl, Nat.le_of_ble_eq_true h1, by assumption, h3, by assumption, h4⟩))))
        · cases h4
      · cases h2
    · cases e
  · exact Or.inr (Or.inr (Or.inr (Or.inr (Or.inr ⟨rfl, e⟩))))
  · cases e
end ZINV
