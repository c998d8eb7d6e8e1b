set_option maxRecDepth 100000 in
theorem zop30a : zrunD (fun mi pc => (Nat.beq pc 23 && Nat.beq mi 190) || (Nat.beq pc 18 && Nat.beq mi 296))
  (fun mi _ => cond (Nat.beq mi 190) ([(1, 2147483648, 2147483672)], [3], [(54, 10)]) ([(1, 2147483648, 2147483672)], [2], [(85, 5)])) 20 6 0 2147483647 2147483678 2147483678 = true := by decide +kernel
set_option maxRecDepth 100000 in
theorem zop30b : zrunD (fun mi pc => (Nat.beq pc 23 && Nat.beq mi 190) || (Nat.beq pc 18 && Nat.beq mi 296))
  (fun mi _ => cond (Nat.beq mi 190) ([(1, 2147483648, 2147483672)], [3], [(54, 10)]) ([(1, 2147483648, 2147483672)], [2], [(85, 5)])) 20 6 2147483648 2147483648 2147483678 2147483678 = true := by decide +kernel
set_option maxRecDepth 100000 in
theorem zop30c : zrunD (fun mi pc => (Nat.beq pc 23 && Nat.beq mi 190) || (Nat.beq pc 18 && Nat.beq mi 296))
  (fun mi _ => cond (Nat.beq mi 190) ([(1, 2147483648, 2147483672)], [3], [(54, 10)]) ([(1, 2147483648, 2147483672)], [2], [(85, 5)])) 20 6 2147483649 4294967295 2147483678 2147483678 = true := by decide +kernel
