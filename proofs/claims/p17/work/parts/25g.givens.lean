set_option maxRecDepth 100000 in
theorem btw (n : Nat) {W : Nat} (h : (List.range n).all (fun i => !Nat.testBit W (bU85 + (3 + i))) = true) : ∀ i, i < n → Nat.testBit W (bU85 + (3 + i)) = false := fun i hi => by
  have := List.all_eq_true.mp h i (List.mem_range.mpr hi)
  cases hb : Nat.testBit W (bU85 + (3 + i)) with
  | false => rfl
  | true => rw [hb] at this; exact absurd this (by decide)
set_option maxRecDepth 100000 in
theorem bsub {W W' : Nat} (h : W ||| W' = W') : ∀ u, Nat.testBit W' u = false → Nat.testBit W u = false := fun u hu => by
  rw [← h, Nat.testBit_or] at hu
  cases hb : Nat.testBit W u with
  | false => rfl
  | true => rw [hb] at hu; cases hu
set_option maxRecDepth 100000 in
theorem gv277 {E : zE} {B : Nat} (hB : 29 ≤ B) : bMT E ctb B 255 sc277 := bem_mt (need := 0) (by9 := 1) hB ⟨by decide, by decide⟩ (by decide) (by decide +kernel) (by decide +kernel) (fun δ hδ => by
  unfold bstp
  repeat' split
  all_goals omega)
set_option maxRecDepth 100000 in
theorem gv278 {E : zE} {B : Nat} (hB : 29 ≤ B) : bMT E ctb B 255 sc278 := bem_mt (need := 1) (by9 := 0) hB ⟨by decide, by decide⟩ (by decide) (by decide +kernel) (by decide +kernel) (fun δ hδ => by
  unfold bstp
  repeat' split
  all_goals omega)
set_option maxRecDepth 100000 in
theorem gv279 {E : zE} {B : Nat} (hB : 29 ≤ B) : bMT E ctb B 255 sc279 := bem_mt (need := 2) (by9 := (-1)) hB ⟨by decide, by decide⟩ (by decide) (by decide +kernel) (by decide +kernel) (fun δ hδ => by
  unfold bstp
  repeat' split
  all_goals omega)
set_option maxRecDepth 100000 in
theorem gv280 {E : zE} {B : Nat} (hB : 29 ≤ B) : bMT E ctb B 255 sc280 := bem_mt (need := 0) (by9 := 1) hB ⟨by decide, by decide⟩ (by decide) (by decide +kernel) (by decide +kernel) (fun δ hδ => by
  unfold bstp
  repeat' split
  all_goals omega)
set_option maxRecDepth 100000 in
theorem gv281 {E : zE} {B : Nat} (hB : 29 ≤ B) : bMT E ctb B 255 sc281 := bem_mt (need := 2) (by9 := (-1)) hB ⟨by decide, by decide⟩ (by decide) (by decide +kernel) (by decide +kernel) (fun δ hδ => by
  unfold bstp
  repeat' split
  all_goals omega)
set_option maxRecDepth 100000 in
theorem gv282 {E : zE} {B : Nat} (hB : 29 ≤ B) : bMT E ctb B 255 sc282 := bem_mt (need := 0) (by9 := 1) hB ⟨by decide, by decide⟩ (by decide) (by decide +kernel) (by decide +kernel) (fun δ hδ => by
  unfold bstp
  repeat' split
  all_goals omega)
set_option maxRecDepth 100000 in
theorem gv283 {E : zE} {B : Nat} (hB : 29 ≤ B) : bMT E ctb B 255 sc283 := bem_mt (need := 0) (by9 := 1) hB ⟨by decide, by decide⟩ (by decide) (by decide +kernel) (by decide +kernel) (fun δ hδ => by
  unfold bstp
  repeat' split
  all_goals omega)
set_option maxRecDepth 100000 in
theorem gv284 {E : zE} {B : Nat} (hB : 29 ≤ B) : bMT E ctb B 255 sc284 := bem_mt (need := 0) (by9 := 1) hB ⟨by decide, by decide⟩ (by decide) (by decide +kernel) (by decide +kernel) (fun δ hδ => by
  unfold bstp
  repeat' split
  all_goals omega)
set_option maxRecDepth 100000 in
theorem gv285 {E : zE} {B : Nat} (hB : 29 ≤ B) : bMT E ctb B 255 sc285 := bem_mt (need := 0) (by9 := 1) hB ⟨by decide, by decide⟩ (by decide) (by decide +kernel) (by decide +kernel) (fun δ hδ => by
  unfold bstp
  repeat' split
  all_goals omega)
set_option maxRecDepth 100000 in
theorem gv286 {E : zE} {B : Nat} (hB : 29 ≤ B) : bMT E ctb B 255 sc286 := bem_mt (need := 0) (by9 := 1) hB ⟨by decide, by decide⟩ (by decide) (by decide +kernel) (by decide +kernel) (fun δ hδ => by
  unfold bstp
  repeat' split
  all_goals omega)
set_option maxRecDepth 100000 in
theorem gv287 {E : zE} {B : Nat} (hB : 29 ≤ B) : bMT E ctb B 255 sc287 := bem_mt (need := 2) (by9 := (-1)) hB ⟨by decide, by decide⟩ (by decide) (by decide +kernel) (by decide +kernel) (fun δ hδ => by
  unfold bstp
  repeat' split
  all_goals omega)
set_option maxRecDepth 100000 in
theorem gv288 {E : zE} {B : Nat} (hB : 29 ≤ B) : bMT E ctb B 255 sc288 := bem_mt (need := 2) (by9 := (-1)) hB ⟨by decide, by decide⟩ (by decide) (by decide +kernel) (by decide +kernel) (fun δ hδ => by
  unfold bstp
  repeat' split
  all_goals omega)
set_option maxRecDepth 100000 in
theorem gv289 {E : zE} {B : Nat} (hB : 29 ≤ B) : bMT E ctb B 255 sc289 := bem_mt (need := 2) (by9 := (-1)) hB ⟨by decide, by decide⟩ (by decide) (by decide +kernel) (by decide +kernel) (fun δ hδ => by
  unfold bstp
  repeat' split
  all_goals omega)
set_option maxRecDepth 100000 in
theorem gv290 {E : zE} {B : Nat} (hB : 29 ≤ B) : bMT E ctb B 255 sc290 := bem_mt (need := 0) (by9 := 1) hB ⟨by decide, by decide⟩ (by decide) (by decide +kernel) (by decide +kernel) (fun δ hδ => by
  unfold bstp
  repeat' split
  all_goals omega)
set_option maxRecDepth 100000 in
theorem gv291 {E : zE} {B : Nat} (hB : 29 ≤ B) : bMT E ctb B 255 sc291 := bem_mt (need := 0) (by9 := 1) hB ⟨by decide, by decide⟩ (by decide) (by decide +kernel) (by decide +kernel) (fun δ hδ => by
  unfold bstp
  repeat' split
  all_goals omega)
set_option maxRecDepth 100000 in
theorem gv292 {E : zE} {B : Nat} (hB : 29 ≤ B) : bMT E ctb B 255 sc292 := bem_mt (need := 0) (by9 := 1) hB ⟨by decide, by decide⟩ (by decide) (by decide +kernel) (by decide +kernel) (fun δ hδ => by
  unfold bstp
  repeat' split
  all_goals omega)
set_option maxRecDepth 100000 in
theorem gv328 {E : zE} (hE : E.1 ≤ 4000) {B : Nat} (hM : ∀ E9 : zE, E9.1 = E.1 → bMT E9 ctb B 262 sc316) : bMT E ctb B 262 sc328 :=
  ble_line hE (by decide) (bsub (by decide +kernel)) (by decide) (by decide) (btw 0 (by decide +kernel)) (by decide) (by decide) rfl rfl rfl (by decide) hM
set_option maxRecDepth 100000 in
theorem gv329 {E : zE} (hE : E.1 ≤ 4000) {B : Nat} (hM : ∀ E9 : zE, E9.1 = E.1 → bMT E9 ctb B 262 sc317) : bMT E ctb B 262 sc329 :=
  ble_line hE (by decide) (bsub (by decide +kernel)) (by decide) (by decide) (btw 1 (by decide +kernel)) (by decide) (by decide) rfl rfl rfl (by decide) hM
set_option maxRecDepth 100000 in
theorem gv330 {E : zE} (hE : E.1 ≤ 4000) {B : Nat} (hM : ∀ E9 : zE, E9.1 = E.1 → bMT E9 ctb B 262 sc318) : bMT E ctb B 262 sc330 :=
  ble_line hE (by decide) (bsub (by decide +kernel)) (by decide) (by decide) (btw 2 (by decide +kernel)) (by decide) (by decide) rfl rfl rfl (by decide) hM
set_option maxRecDepth 100000 in
theorem gv331 {E : zE} (hE : E.1 ≤ 4000) {B : Nat} (hM : ∀ E9 : zE, E9.1 = E.1 → bMT E9 ctb B 262 sc319) : bMT E ctb B 262 sc331 :=
  ble_line hE (by decide) (bsub (by decide +kernel)) (by decide) (by decide) (btw 3 (by decide +kernel)) (by decide) (by decide) rfl rfl rfl (by decide) hM
set_option maxRecDepth 100000 in
theorem gv332 {E : zE} (hE : E.1 ≤ 4000) {B : Nat} (hM : ∀ E9 : zE, E9.1 = E.1 → bMT E9 ctb B 262 sc320) : bMT E ctb B 262 sc332 :=
  ble_line hE (by decide) (bsub (by decide +kernel)) (by decide) (by decide) (btw 4 (by decide +kernel)) (by decide) (by decide) rfl rfl rfl (by decide) hM
set_option maxRecDepth 100000 in
theorem gv333 {E : zE} (hE : E.1 ≤ 4000) {B : Nat} (hM : ∀ E9 : zE, E9.1 = E.1 → bMT E9 ctb B 262 sc321) : bMT E ctb B 262 sc333 :=
  ble_line hE (by decide) (bsub (by decide +kernel)) (by decide) (by decide) (btw 5 (by decide +kernel)) (by decide) (by decide) rfl rfl rfl (by decide) hM
set_option maxRecDepth 100000 in
theorem gv334 {E : zE} (hE : E.1 ≤ 4000) {B : Nat} (hM : ∀ E9 : zE, E9.1 = E.1 → bMT E9 ctb B 262 sc322) : bMT E ctb B 262 sc334 :=
  ble_line hE (by decide) (bsub (by decide +kernel)) (by decide) (by decide) (btw 6 (by decide +kernel)) (by decide) (by decide) rfl rfl rfl (by decide) hM
set_option maxRecDepth 100000 in
theorem gv335 {E : zE} (hE : E.1 ≤ 4000) {B : Nat} (hM : ∀ E9 : zE, E9.1 = E.1 → bMT E9 ctb B 262 sc323) : bMT E ctb B 262 sc335 :=
  ble_line hE (by decide) (bsub (by decide +kernel)) (by decide) (by decide) (btw 7 (by decide +kernel)) (by decide) (by decide) rfl rfl rfl (by decide) hM
set_option maxRecDepth 100000 in
theorem gv336 {E : zE} (hE : E.1 ≤ 4000) {B : Nat} (hM : ∀ E9 : zE, E9.1 = E.1 → bMT E9 ctb B 262 sc324) : bMT E ctb B 262 sc336 :=
  ble_line hE (by decide) (bsub (by decide +kernel)) (by decide) (by decide) (btw 8 (by decide +kernel)) (by decide) (by decide) rfl rfl rfl (by decide) hM
set_option maxRecDepth 100000 in
theorem gv337 {E : zE} (hE : E.1 ≤ 4000) {B : Nat} (hM : ∀ E9 : zE, E9.1 = E.1 → bMT E9 ctb B 262 sc325) : bMT E ctb B 262 sc337 :=
  ble_line hE (by decide) (bsub (by decide +kernel)) (by decide) (by decide) (btw 9 (by decide +kernel)) (by decide) (by decide) rfl rfl rfl (by decide) hM
set_option maxRecDepth 100000 in
theorem gv338 {E : zE} (hE : E.1 ≤ 4000) {B : Nat} (hM : ∀ E9 : zE, E9.1 = E.1 → bMT E9 ctb B 262 sc326) : bMT E ctb B 262 sc338 :=
  ble_line hE (by decide) (bsub (by decide +kernel)) (by decide) (by decide) (btw 10 (by decide +kernel)) (by decide) (by decide) rfl rfl rfl (by decide) hM
set_option maxRecDepth 100000 in
theorem gv339 {E : zE} (hE : E.1 ≤ 4000) {B : Nat} (hM : ∀ E9 : zE, E9.1 = E.1 → bMT E9 ctb B 262 sc327) : bMT E ctb B 262 sc339 :=
  ble_line hE (by decide) (bsub (by decide +kernel)) (by decide) (by decide) (btw 11 (by decide +kernel)) (by decide) (by decide) rfl rfl rfl (by decide) hM
