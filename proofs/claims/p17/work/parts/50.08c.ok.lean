def zlf (q : Nat × ZI) : Bool := zichk "SandHouseLaw" "law" code 7 q.1 q.2
set_option maxRecDepth 100000 in
theorem zlok0 : zp0_0.all zlf = true := by decide +kernel
set_option maxRecDepth 100000 in
theorem zlok1 : zp0_1.all zlf = true := by decide +kernel
set_option maxRecDepth 100000 in
theorem zlok2 : zp0_2.all zlf = true := by decide +kernel
set_option maxRecDepth 100000 in
theorem zlok3 : zp0_3.all zlf = true := by decide +kernel
set_option maxRecDepth 100000 in
theorem zlok4 : zp0_4.all zlf = true := by decide +kernel
set_option maxRecDepth 100000 in
theorem zlok5 : zp0_5.all zlf = true := by decide +kernel
set_option maxRecDepth 100000 in
theorem zlok6 : zp0_6.all zlf = true := by decide +kernel
set_option maxRecDepth 100000 in
theorem zlok7 : zp0_7.all zlf = true := by decide +kernel
set_option maxRecDepth 100000 in
theorem zlok8 : zp0_8.all zlf = true := by decide +kernel
set_option maxRecDepth 100000 in
theorem zlok9 : zp0_9.all zlf = true := by decide +kernel
set_option maxRecDepth 100000 in
theorem zlok10 : zp0_10.all zlf = true := by decide +kernel
set_option maxRecDepth 100000 in
theorem zlok11 : zp0_11.all zlf = true := by decide +kernel
set_option maxRecDepth 100000 in
theorem zlok12 : zp0_12.all zlf = true := by decide +kernel
set_option maxRecDepth 100000 in
theorem zlok13 : zp0_13.all zlf = true := by decide +kernel
set_option maxRecDepth 100000 in
theorem zlok14 : zp0_14.all zlf = true := by decide +kernel
set_option maxRecDepth 100000 in
theorem zlok15 : zp0_15.all zlf = true := by decide +kernel
set_option maxRecDepth 100000 in
theorem zlok16 : zp0_16.all zlf = true := by decide +kernel
set_option maxRecDepth 100000 in
theorem zlok17 : zp0_17.all zlf = true := by decide +kernel
set_option maxRecDepth 100000 in
theorem zlok18 : zp0_18.all zlf = true := by decide +kernel
set_option maxRecDepth 100000 in
theorem zlok19 : zp0_19.all zlf = true := by decide +kernel
set_option maxRecDepth 100000 in
theorem zlok20 : zp0_20.all zlf = true := by decide +kernel
set_option maxRecDepth 100000 in
theorem zlok21 : zp0_21.all zlf = true := by decide +kernel
set_option maxRecDepth 100000 in
theorem zlok22 : zp0_22.all zlf = true := by decide +kernel
set_option maxRecDepth 100000 in
theorem zlok23 : zp0_23.all zlf = true := by decide +kernel
set_option maxRecDepth 100000 in
theorem zlok24 : zp0_24.all zlf = true := by decide +kernel
set_option maxRecDepth 100000 in
theorem zlok25 : zp0_25.all zlf = true := by decide +kernel
set_option maxRecDepth 100000 in
theorem zlok26 : zp0_26.all zlf = true := by decide +kernel
set_option maxRecDepth 100000 in
theorem zlok27 : zp0_27.all zlf = true := by decide +kernel
set_option maxRecDepth 100000 in
theorem zlok28 : zp0_28.all zlf = true := by decide +kernel
set_option maxRecDepth 100000 in
theorem zlok29 : zp0_29.all zlf = true := by decide +kernel
set_option maxRecDepth 100000 in
theorem zlok30 : zp0_30.all zlf = true := by decide +kernel
set_option maxRecDepth 100000 in
theorem zlok31 : zp0_31.all zlf = true := by decide +kernel
set_option maxRecDepth 100000 in
theorem zlok32 : zp0_32.all zlf = true := by decide +kernel
set_option maxRecDepth 100000 in
theorem zlok33 : zp0_33.all zlf = true := by decide +kernel
set_option maxRecDepth 100000 in
theorem zlok34 : zp0_34.all zlf = true := by decide +kernel
set_option maxRecDepth 100000 in
theorem zlok35 : zp0_35.all zlf = true := by decide +kernel
set_option maxRecDepth 100000 in
theorem zlok36 : zp0_36.all zlf = true := by decide +kernel
set_option maxRecDepth 100000 in
theorem zlok37 : zp0_37.all zlf = true := by decide +kernel
set_option maxRecDepth 100000 in
theorem zlok38 : zp0_38.all zlf = true := by decide +kernel
set_option maxRecDepth 100000 in
theorem zlok39 : zp0_39.all zlf = true := by decide +kernel
set_option maxRecDepth 100000 in
theorem zlok40 : zp0_40.all zlf = true := by decide +kernel
set_option maxRecDepth 100000 in
theorem zlok41 : zp0_41.all zlf = true := by decide +kernel
set_option maxRecDepth 100000 in
theorem zlok42 : zp0_42.all zlf = true := by decide +kernel
set_option maxRecDepth 100000 in
theorem zlok43 : zp0_43.all zlf = true := by decide +kernel
set_option maxRecDepth 100000 in
theorem zlok44 : zp0_44.all zlf = true := by decide +kernel
set_option maxRecDepth 100000 in
theorem zlok45 : zp0_45.all zlf = true := by decide +kernel
set_option maxRecDepth 100000 in
theorem zlok46 : zp0_46.all zlf = true := by decide +kernel
set_option maxRecDepth 100000 in
theorem zlok47 : zp0_47.all zlf = true := by decide +kernel
set_option maxRecDepth 100000 in
theorem zlok48 : zp0_48.all zlf = true := by decide +kernel
set_option maxRecDepth 100000 in
theorem zlok49 : zp0_49.all zlf = true := by decide +kernel
set_option maxRecDepth 100000 in
theorem zlok50 : zp0_50.all zlf = true := by decide +kernel
set_option maxRecDepth 100000 in
theorem zlok51 : zp0_51.all zlf = true := by decide +kernel
set_option maxRecDepth 100000 in
theorem zlok52 : zp0_52.all zlf = true := by decide +kernel
set_option maxRecDepth 100000 in
theorem zlok53 : zp0_53.all zlf = true := by decide +kernel
set_option maxRecDepth 100000 in
theorem zlok54 : zp0_54.all zlf = true := by decide +kernel
set_option maxRecDepth 100000 in
theorem zlok55 : zp0_55.all zlf = true := by decide +kernel
set_option maxRecDepth 100000 in
theorem zlok56 : zp0_56.all zlf = true := by decide +kernel
set_option maxRecDepth 100000 in
theorem zlok57 : zp0_57.all zlf = true := by decide +kernel
set_option maxRecDepth 100000 in
theorem zlok58 : zp0_58.all zlf = true := by decide +kernel
set_option maxRecDepth 100000 in
theorem zlok59 : zp0_59.all zlf = true := by decide +kernel
set_option maxRecDepth 100000 in
theorem zlok60 : zp0_60.all zlf = true := by decide +kernel
set_option maxRecDepth 100000 in
theorem zlok61 : zp0_61.all zlf = true := by decide +kernel
theorem zlokA : ∀ l ∈ zp0, l.all zlf = true := List.forall_mem_cons.mpr ⟨zlok0, List.forall_mem_cons.mpr ⟨zlok1, List.forall_mem_cons.mpr ⟨zlok2, List.forall_mem_cons.mpr ⟨zlok3, List.forall_mem_cons.mpr ⟨zlok4, List.forall_mem_cons.mpr ⟨zlok5, List.forall_mem_cons.mpr ⟨zlok6, List.forall_mem_cons.mpr ⟨zlok7, List.forall_mem_cons.mpr ⟨zlok8, List.forall_mem_cons.mpr ⟨zlok9, List.forall_mem_cons.mpr ⟨zlok10, List.forall_mem_cons.mpr ⟨zlok11, List.forall_mem_cons.mpr ⟨zlok12, List.forall_mem_cons.mpr ⟨zlok13, List.forall_mem_cons.mpr ⟨zlok14, List.forall_mem_cons.mpr ⟨zlok15, List.forall_mem_cons.mpr ⟨zlok16, List.forall_mem_cons.mpr ⟨zlok17, List.forall_mem_cons.mpr ⟨zlok18, List.forall_mem_cons.mpr ⟨zlok19, List.forall_mem_cons.mpr ⟨zlok20, List.forall_mem_cons.mpr ⟨zlok21, List.forall_mem_cons.mpr ⟨zlok22, List.forall_mem_cons.mpr ⟨zlok23, List.forall_mem_cons.mpr ⟨zlok24, List.forall_mem_cons.mpr ⟨zlok25, List.forall_mem_cons.mpr ⟨zlok26, List.forall_mem_cons.mpr ⟨zlok27, List.forall_mem_cons.mpr ⟨zlok28, List.forall_mem_cons.mpr ⟨zlok29, List.forall_mem_cons.mpr ⟨zlok30, List.forall_mem_cons.mpr ⟨zlok31, List.forall_mem_cons.mpr ⟨zlok32, List.forall_mem_cons.mpr ⟨zlok33, List.forall_mem_cons.mpr ⟨zlok34, List.forall_mem_cons.mpr ⟨zlok35, List.forall_mem_cons.mpr ⟨zlok36, List.forall_mem_cons.mpr ⟨zlok37, List.forall_mem_cons.mpr ⟨zlok38, List.forall_mem_cons.mpr ⟨zlok39, List.forall_mem_cons.mpr ⟨zlok40, List.forall_mem_cons.mpr ⟨zlok41, List.forall_mem_cons.mpr ⟨zlok42, List.forall_mem_cons.mpr ⟨zlok43, List.forall_mem_cons.mpr ⟨zlok44, List.forall_mem_cons.mpr ⟨zlok45, List.forall_mem_cons.mpr ⟨zlok46, List.forall_mem_cons.mpr ⟨zlok47, List.forall_mem_cons.mpr ⟨zlok48, List.forall_mem_cons.mpr ⟨zlok49, List.forall_mem_cons.mpr ⟨zlok50, List.forall_mem_cons.mpr ⟨zlok51, List.forall_mem_cons.mpr ⟨zlok52, List.forall_mem_cons.mpr ⟨zlok53, List.forall_mem_cons.mpr ⟨zlok54, List.forall_mem_cons.mpr ⟨zlok55, List.forall_mem_cons.mpr ⟨zlok56, List.forall_mem_cons.mpr ⟨zlok57, List.forall_mem_cons.mpr ⟨zlok58, List.forall_mem_cons.mpr ⟨zlok59, List.forall_mem_cons.mpr ⟨zlok60, List.forall_mem_cons.mpr ⟨zlok61, fun _ h => absurd h List.not_mem_nil⟩⟩⟩⟩⟩⟩⟩⟩⟩⟩⟩⟩⟩⟩⟩⟩⟩⟩⟩⟩⟩⟩⟩⟩⟩⟩⟩⟩⟩⟩⟩⟩⟩⟩⟩⟩⟩⟩⟩⟩⟩⟩⟩⟩⟩⟩⟩⟩⟩⟩⟩⟩⟩⟩⟩⟩⟩⟩⟩⟩⟩⟩
set_option maxRecDepth 100000 in
theorem zgok0r : zgchk 1 [zp1, zp2, zp3, zp4, zp5, zp6, zp7, zp8, zp9, zp10, zp11, zp12, zp13, zp14, zp15] = true := by decide +kernel
theorem zgok0 : zgchk 0 zg0 = true := by
  show (zmchk "SandHouseLaw" "law" code 7 zp0 && zgchk 1 [zp1, zp2, zp3, zp4, zp5, zp6, zp7, zp8, zp9, zp10, zp11, zp12, zp13, zp14, zp15]) = true
  rw [zgok0r, Bool.and_true]
  exact List.all_eq_true.mpr zlokA
