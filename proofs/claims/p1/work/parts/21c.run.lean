set_option maxRecDepth 100000 in
theorem zop11 : zrunD (fun mi pc => Nat.beq pc 878 && Nat.beq mi 0)
  (fun _ _ => ([(1, 2147483649, 2147483748)], [], [(18, 10)])) 3 6 0 4294967295 2147483659 2147483659 = true := by decide +kernel
set_option maxRecDepth 100000 in
theorem zop17 : zrunD (fun mi pc => (Nat.beq pc 23 && Nat.beq mi 190) || (Nat.beq pc 18 && Nat.beq mi 296))
  (fun mi _ => cond (Nat.beq mi 190) ([(1, 2147483648, 2147483748)], [3], [(54, 10)]) ([(1, 2147483648, 2147483748)], [2], [(85, 5)])) 4 6 0 4294967295 2147483665 2147483665 = true := by decide +kernel
set_option maxRecDepth 100000 in
theorem zop21 : zrunD (fun mi pc => (Nat.beq pc 23 && Nat.beq mi 190) || (Nat.beq pc 18 && Nat.beq mi 296))
  (fun mi _ => cond (Nat.beq mi 190) ([(2, 2147483648, 2147483672)], [3], [(54, 10)]) ([(2, 2147483648, 2147483672)], [2], [(85, 5)])) 4 6 0 4294967295 2147483669 2147483669 = true := by decide +kernel
set_option maxRecDepth 100000 in
theorem zop23 : zrun 6 2147483671 2147483671 = true := by decide +kernel
set_option maxRecDepth 100000 in
theorem zop30a : zrunD (fun mi pc => (Nat.beq pc 23 && Nat.beq mi 190) || (Nat.beq pc 18 && Nat.beq mi 296))
  (fun mi _ => cond (Nat.beq mi 190) ([(1, 2147483648, 2147483672)], [3], [(54, 10)]) ([(1, 2147483648, 2147483672)], [2], [(85, 5)])) 20 6 0 2147483647 2147483678 2147483678 = true := by decide +kernel
set_option maxRecDepth 100000 in
theorem zop30b : zrunD (fun mi pc => (Nat.beq pc 23 && Nat.beq mi 190) || (Nat.beq pc 18 && Nat.beq mi 296))
  (fun mi _ => cond (Nat.beq mi 190) ([(1, 2147483648, 2147483672)], [3], [(54, 10)]) ([(1, 2147483648, 2147483672)], [2], [(85, 5)])) 20 6 2147483648 2147483648 2147483678 2147483678 = true := by decide +kernel
set_option maxRecDepth 100000 in
theorem zop30c : zrunD (fun mi pc => (Nat.beq pc 23 && Nat.beq mi 190) || (Nat.beq pc 18 && Nat.beq mi 296))
  (fun mi _ => cond (Nat.beq mi 190) ([(1, 2147483648, 2147483672)], [3], [(54, 10)]) ([(1, 2147483648, 2147483672)], [2], [(85, 5)])) 20 6 2147483649 4294967295 2147483678 2147483678 = true := by decide +kernel
set_option maxRecDepth 100000 in
theorem zop31 : zrunD (fun mi pc => Nat.beq pc 2207 && Nat.beq mi 0)
  (fun _ _ => ([(1, 2147483649, 2147483748)], [], [(54, 10)])) 3 6 0 4294967295 2147483679 2147483679 = true := by decide +kernel
