section
-- ===== PART A: goes FIRST, ahead of the names: the tables' words, and 'selects' of the private methods out of them =====
/-- a private method of a class that the tables say can be made, by its rows of tables_1 -/
def lw_okq (q : MethodName × Nat) : Prop := (q.1.cls ≠ "java/lang/invoke/MethodHandle" ∧ q.1.cls ≠ "java/lang/invoke/VarHandle") ∧ Cond.instantiable q.1.cls q.2 ∈ tables_1 ∧ Cond.privateMethod q.1 ∈ tables_1 ∧ Cond.instanceMethod q.1 ∈ tables_1
theorem lw_p0 : lw_okq (⟨"SandHouse$Tape", "append", "(I)V"⟩, 6) := ⟨⟨by decide +kernel, by decide +kernel⟩, List.mem_of_getElem? (i := 37) (by decide +kernel), List.mem_of_getElem? (i := 428) (by decide +kernel), List.mem_of_getElem? (i := 429) (by decide +kernel)⟩
theorem lw_p1 : lw_okq (⟨"SandHouse$Trials", "firstClogged", "(LSandHouse$Home;LSandHouse$Grains;)I"⟩, 2) := ⟨⟨by decide +kernel, by decide +kernel⟩, List.mem_of_getElem? (i := 331) (by decide +kernel), List.mem_of_getElem? (i := 444) (by decide +kernel), List.mem_of_getElem? (i := 445) (by decide +kernel)⟩
theorem lw_p2 : lw_okq (⟨"SandHouse$Grains", "copyFrom", "(LSandHouse$Grains;)V"⟩, 13) := ⟨⟨by decide +kernel, by decide +kernel⟩, List.mem_of_getElem? (i := 181) (by decide +kernel), List.mem_of_getElem? (i := 448) (by decide +kernel), List.mem_of_getElem? (i := 449) (by decide +kernel)⟩
theorem lw_p3 : lw_okq (⟨"SandHouse$Home", "goRound", "(LSandHouse$Grains;LSandHouse$Heels;)I"⟩, 3) := ⟨⟨by decide +kernel, by decide +kernel⟩, List.mem_of_getElem? (i := 70) (by decide +kernel), List.mem_of_getElem? (i := 455) (by decide +kernel), List.mem_of_getElem? (i := 456) (by decide +kernel)⟩
theorem lw_p4 : lw_okq (⟨"SandHouse$Home", "goOn", "(LSandHouse$Grains;ILSandHouse$Heels;)I"⟩, 3) := ⟨⟨by decide +kernel, by decide +kernel⟩, List.mem_of_getElem? (i := 70) (by decide +kernel), List.mem_of_getElem? (i := 459) (by decide +kernel), List.mem_of_getElem? (i := 460) (by decide +kernel)⟩
theorem lw_p5 : lw_okq (⟨"SandHouse$Plan", "step", "(II)I"⟩, 9) := ⟨⟨by decide +kernel, by decide +kernel⟩, List.mem_of_getElem? (i := 76) (by decide +kernel), List.mem_of_getElem? (i := 463) (by decide +kernel), List.mem_of_getElem? (i := 464) (by decide +kernel)⟩
theorem lw_p6 : lw_okq (⟨"SandHouse$Home", "look", "(LSandHouse$Grains;II)V"⟩, 3) := ⟨⟨by decide +kernel, by decide +kernel⟩, List.mem_of_getElem? (i := 70) (by decide +kernel), List.mem_of_getElem? (i := 467) (by decide +kernel), List.mem_of_getElem? (i := 468) (by decide +kernel)⟩
theorem lw_p7 : lw_okq (⟨"SandHouse$Grains", "carriedBy", "(I)I"⟩, 13) := ⟨⟨by decide +kernel, by decide +kernel⟩, List.mem_of_getElem? (i := 181) (by decide +kernel), List.mem_of_getElem? (i := 471) (by decide +kernel), List.mem_of_getElem? (i := 472) (by decide +kernel)⟩
theorem lw_p8 : lw_okq (⟨"SandHouse$Grains", "lyingIn", "(I)I"⟩, 13) := ⟨⟨by decide +kernel, by decide +kernel⟩, List.mem_of_getElem? (i := 181) (by decide +kernel), List.mem_of_getElem? (i := 475) (by decide +kernel), List.mem_of_getElem? (i := 476) (by decide +kernel)⟩
theorem lw_p9 : lw_okq (⟨"SandHouse$Law", "amountOf", "(I[I)I"⟩, 8) := ⟨⟨by decide +kernel, by decide +kernel⟩, List.mem_of_getElem? (i := 133) (by decide +kernel), List.mem_of_getElem? (i := 479) (by decide +kernel), List.mem_of_getElem? (i := 480) (by decide +kernel)⟩
theorem lw_p10 : lw_okq (⟨"SandHouse$Law", "holds", "(I[I)Z"⟩, 8) := ⟨⟨by decide +kernel, by decide +kernel⟩, List.mem_of_getElem? (i := 133) (by decide +kernel), List.mem_of_getElem? (i := 486) (by decide +kernel), List.mem_of_getElem? (i := 487) (by decide +kernel)⟩
theorem lw_p11 : lw_okq (⟨"SandHouse$Grains", "comeOnto", "(II)V"⟩, 13) := ⟨⟨by decide +kernel, by decide +kernel⟩, List.mem_of_getElem? (i := 181) (by decide +kernel), List.mem_of_getElem? (i := 493) (by decide +kernel), List.mem_of_getElem? (i := 494) (by decide +kernel)⟩
theorem lw_p12 : lw_okq (⟨"SandHouse$Grains", "draw", "()I"⟩, 13) := ⟨⟨by decide +kernel, by decide +kernel⟩, List.mem_of_getElem? (i := 181) (by decide +kernel), List.mem_of_getElem? (i := 499) (by decide +kernel), List.mem_of_getElem? (i := 500) (by decide +kernel)⟩
theorem lw_p13 : lw_okq (⟨"SandHouse$Grains", "takeFrom", "(II)I"⟩, 13) := ⟨⟨by decide +kernel, by decide +kernel⟩, List.mem_of_getElem? (i := 181) (by decide +kernel), List.mem_of_getElem? (i := 504) (by decide +kernel), List.mem_of_getElem? (i := 505) (by decide +kernel)⟩
theorem lw_p14 : lw_okq (⟨"SandHouse$Grains", "fall", "(III)I"⟩, 13) := ⟨⟨by decide +kernel, by decide +kernel⟩, List.mem_of_getElem? (i := 181) (by decide +kernel), List.mem_of_getElem? (i := 512) (by decide +kernel), List.mem_of_getElem? (i := 513) (by decide +kernel)⟩
theorem lw_p15 : lw_okq (⟨"SandHouse$Grains", "cling", "(III)V"⟩, 13) := ⟨⟨by decide +kernel, by decide +kernel⟩, List.mem_of_getElem? (i := 181) (by decide +kernel), List.mem_of_getElem? (i := 516) (by decide +kernel), List.mem_of_getElem? (i := 517) (by decide +kernel)⟩
def lw_privs_1 : List (MethodName × Nat) := [(⟨"SandHouse$Tape", "append", "(I)V"⟩, 6), (⟨"SandHouse$Trials", "firstClogged", "(LSandHouse$Home;LSandHouse$Grains;)I"⟩, 2), (⟨"SandHouse$Grains", "copyFrom", "(LSandHouse$Grains;)V"⟩, 13), (⟨"SandHouse$Home", "goRound", "(LSandHouse$Grains;LSandHouse$Heels;)I"⟩, 3), (⟨"SandHouse$Home", "goOn", "(LSandHouse$Grains;ILSandHouse$Heels;)I"⟩, 3), (⟨"SandHouse$Plan", "step", "(II)I"⟩, 9), (⟨"SandHouse$Home", "look", "(LSandHouse$Grains;II)V"⟩, 3), (⟨"SandHouse$Grains", "carriedBy", "(I)I"⟩, 13), (⟨"SandHouse$Grains", "lyingIn", "(I)I"⟩, 13), (⟨"SandHouse$Law", "amountOf", "(I[I)I"⟩, 8), (⟨"SandHouse$Law", "holds", "(I[I)Z"⟩, 8), (⟨"SandHouse$Grains", "comeOnto", "(II)V"⟩, 13), (⟨"SandHouse$Grains", "draw", "()I"⟩, 13), (⟨"SandHouse$Grains", "takeFrom", "(II)I"⟩, 13), (⟨"SandHouse$Grains", "fall", "(III)I"⟩, 13), (⟨"SandHouse$Grains", "cling", "(III)V"⟩, 13)]
theorem lw_r1 : ∀ q ∈ lw_privs_1, lw_okq q := List.forall_mem_cons.mpr ⟨lw_p0, List.forall_mem_cons.mpr ⟨lw_p1, List.forall_mem_cons.mpr ⟨lw_p2, List.forall_mem_cons.mpr ⟨lw_p3, List.forall_mem_cons.mpr ⟨lw_p4, List.forall_mem_cons.mpr ⟨lw_p5, List.forall_mem_cons.mpr ⟨lw_p6, List.forall_mem_cons.mpr ⟨lw_p7, List.forall_mem_cons.mpr ⟨lw_p8, List.forall_mem_cons.mpr ⟨lw_p9, List.forall_mem_cons.mpr ⟨lw_p10, List.forall_mem_cons.mpr ⟨lw_p11, List.forall_mem_cons.mpr ⟨lw_p12, List.forall_mem_cons.mpr ⟨lw_p13, List.forall_mem_cons.mpr ⟨lw_p14, List.forall_mem_cons.mpr ⟨lw_p15, fun _ h => absurd h List.not_mem_nil⟩⟩⟩⟩⟩⟩⟩⟩⟩⟩⟩⟩⟩⟩⟩⟩
theorem lw_p16 : lw_okq (⟨"SandHouse$Heels", "write", "(IIIII)V"⟩, 3) := ⟨⟨by decide +kernel, by decide +kernel⟩, List.mem_of_getElem? (i := 259) (by decide +kernel), List.mem_of_getElem? (i := 524) (by decide +kernel), List.mem_of_getElem? (i := 525) (by decide +kernel)⟩
theorem lw_p17 : lw_okq (⟨"SandHouse$Grains", "takeOutOf", "(II)I"⟩, 13) := ⟨⟨by decide +kernel, by decide +kernel⟩, List.mem_of_getElem? (i := 181) (by decide +kernel), List.mem_of_getElem? (i := 529) (by decide +kernel), List.mem_of_getElem? (i := 530) (by decide +kernel)⟩
theorem lw_p18 : lw_okq (⟨"SandHouse$Home", "mostInBeds", "(LSandHouse$Grains;)I"⟩, 3) := ⟨⟨by decide +kernel, by decide +kernel⟩, List.mem_of_getElem? (i := 70) (by decide +kernel), List.mem_of_getElem? (i := 537) (by decide +kernel), List.mem_of_getElem? (i := 538) (by decide +kernel)⟩
theorem lw_p19 : lw_okq (⟨"SandHouse$Plan", "everybody", "()I"⟩, 9) := ⟨⟨by decide +kernel, by decide +kernel⟩, List.mem_of_getElem? (i := 76) (by decide +kernel), List.mem_of_getElem? (i := 545) (by decide +kernel), List.mem_of_getElem? (i := 546) (by decide +kernel)⟩
theorem lw_p20 : lw_okq (⟨"SandHouse$Heels", "whoIn", "(I)I"⟩, 3) := ⟨⟨by decide +kernel, by decide +kernel⟩, List.mem_of_getElem? (i := 259) (by decide +kernel), List.mem_of_getElem? (i := 549) (by decide +kernel), List.mem_of_getElem? (i := 550) (by decide +kernel)⟩
theorem lw_p21 : lw_okq (⟨"SandHouse$Heels", "get", "(II)I"⟩, 3) := ⟨⟨by decide +kernel, by decide +kernel⟩, List.mem_of_getElem? (i := 259) (by decide +kernel), List.mem_of_getElem? (i := 553) (by decide +kernel), List.mem_of_getElem? (i := 554) (by decide +kernel)⟩
theorem lw_p22 : lw_okq (⟨"SandHouse$Past", "recall", "(LSandHouse$Grains;LSandHouse$Heels;)Z"⟩, 4) := ⟨⟨by decide +kernel, by decide +kernel⟩, List.mem_of_getElem? (i := 276) (by decide +kernel), List.mem_of_getElem? (i := 568) (by decide +kernel), List.mem_of_getElem? (i := 569) (by decide +kernel)⟩
theorem lw_p23 : lw_okq (⟨"SandHouse$Heels", "copyFrom", "(LSandHouse$Heels;)V"⟩, 3) := ⟨⟨by decide +kernel, by decide +kernel⟩, List.mem_of_getElem? (i := 259) (by decide +kernel), List.mem_of_getElem? (i := 573) (by decide +kernel), List.mem_of_getElem? (i := 574) (by decide +kernel)⟩
theorem lw_p24 : lw_okq (⟨"SandHouse$Image", "take", "(LSandHouse$Home;LSandHouse$Grains;LSandHouse$Heels;)V"⟩, 5) := ⟨⟨by decide +kernel, by decide +kernel⟩, List.mem_of_getElem? (i := 300) (by decide +kernel), List.mem_of_getElem? (i := 582) (by decide +kernel), List.mem_of_getElem? (i := 583) (by decide +kernel)⟩
theorem lw_p25 : lw_okq (⟨"SandHouse$Plan", "copyFrom", "(LSandHouse$Plan;)V"⟩, 9) := ⟨⟨by decide +kernel, by decide +kernel⟩, List.mem_of_getElem? (i := 76) (by decide +kernel), List.mem_of_getElem? (i := 586) (by decide +kernel), List.mem_of_getElem? (i := 587) (by decide +kernel)⟩
theorem lw_p26 : lw_okq (⟨"SandHouse$Law", "copyFrom", "(LSandHouse$Law;)V"⟩, 8) := ⟨⟨by decide +kernel, by decide +kernel⟩, List.mem_of_getElem? (i := 133) (by decide +kernel), List.mem_of_getElem? (i := 591) (by decide +kernel), List.mem_of_getElem? (i := 592) (by decide +kernel)⟩
theorem lw_p27 : lw_okq (⟨"SandHouse$Image", "give", "(LSandHouse$Home;LSandHouse$Grains;LSandHouse$Heels;)V"⟩, 5) := ⟨⟨by decide +kernel, by decide +kernel⟩, List.mem_of_getElem? (i := 300) (by decide +kernel), List.mem_of_getElem? (i := 602) (by decide +kernel), List.mem_of_getElem? (i := 603) (by decide +kernel)⟩
theorem lw_p28 : lw_okq (⟨"SandHouse$Past", "forget", "()V"⟩, 4) := ⟨⟨by decide +kernel, by decide +kernel⟩, List.mem_of_getElem? (i := 276) (by decide +kernel), List.mem_of_getElem? (i := 606) (by decide +kernel), List.mem_of_getElem? (i := 607) (by decide +kernel)⟩
theorem lw_p29 : lw_okq (⟨"SandHouse$Grains", "allLying", "()I"⟩, 13) := ⟨⟨by decide +kernel, by decide +kernel⟩, List.mem_of_getElem? (i := 181) (by decide +kernel), List.mem_of_getElem? (i := 614) (by decide +kernel), List.mem_of_getElem? (i := 615) (by decide +kernel)⟩
theorem lw_p30 : lw_okq (⟨"SandHouse$Grains", "allCarried", "()I"⟩, 13) := ⟨⟨by decide +kernel, by decide +kernel⟩, List.mem_of_getElem? (i := 181) (by decide +kernel), List.mem_of_getElem? (i := 619) (by decide +kernel), List.mem_of_getElem? (i := 620) (by decide +kernel)⟩
theorem lw_p31 : lw_okq (⟨"SandHouse$HouseReader", "read", "(LSandHouse$Tape;LSandHouse$Plan;LSandHouse$Grains;)I"⟩, 6) := ⟨⟨by decide +kernel, by decide +kernel⟩, List.mem_of_getElem? (i := 346) (by decide +kernel), List.mem_of_getElem? (i := 632) (by decide +kernel), List.mem_of_getElem? (i := 633) (by decide +kernel)⟩
def lw_privs_2 : List (MethodName × Nat) := [(⟨"SandHouse$Heels", "write", "(IIIII)V"⟩, 3), (⟨"SandHouse$Grains", "takeOutOf", "(II)I"⟩, 13), (⟨"SandHouse$Home", "mostInBeds", "(LSandHouse$Grains;)I"⟩, 3), (⟨"SandHouse$Plan", "everybody", "()I"⟩, 9), (⟨"SandHouse$Heels", "whoIn", "(I)I"⟩, 3), (⟨"SandHouse$Heels", "get", "(II)I"⟩, 3), (⟨"SandHouse$Past", "recall", "(LSandHouse$Grains;LSandHouse$Heels;)Z"⟩, 4), (⟨"SandHouse$Heels", "copyFrom", "(LSandHouse$Heels;)V"⟩, 3), (⟨"SandHouse$Image", "take", "(LSandHouse$Home;LSandHouse$Grains;LSandHouse$Heels;)V"⟩, 5), (⟨"SandHouse$Plan", "copyFrom", "(LSandHouse$Plan;)V"⟩, 9), (⟨"SandHouse$Law", "copyFrom", "(LSandHouse$Law;)V"⟩, 8), (⟨"SandHouse$Image", "give", "(LSandHouse$Home;LSandHouse$Grains;LSandHouse$Heels;)V"⟩, 5), (⟨"SandHouse$Past", "forget", "()V"⟩, 4), (⟨"SandHouse$Grains", "allLying", "()I"⟩, 13), (⟨"SandHouse$Grains", "allCarried", "()I"⟩, 13), (⟨"SandHouse$HouseReader", "read", "(LSandHouse$Tape;LSandHouse$Plan;LSandHouse$Grains;)I"⟩, 6)]
theorem lw_r2 : ∀ q ∈ lw_privs_2, lw_okq q := List.forall_mem_cons.mpr ⟨lw_p16, List.forall_mem_cons.mpr ⟨lw_p17, List.forall_mem_cons.mpr ⟨lw_p18, List.forall_mem_cons.mpr ⟨lw_p19, List.forall_mem_cons.mpr ⟨lw_p20, List.forall_mem_cons.mpr ⟨lw_p21, List.forall_mem_cons.mpr ⟨lw_p22, List.forall_mem_cons.mpr ⟨lw_p23, List.forall_mem_cons.mpr ⟨lw_p24, List.forall_mem_cons.mpr ⟨lw_p25, List.forall_mem_cons.mpr ⟨lw_p26, List.forall_mem_cons.mpr ⟨lw_p27, List.forall_mem_cons.mpr ⟨lw_p28, List.forall_mem_cons.mpr ⟨lw_p29, List.forall_mem_cons.mpr ⟨lw_p30, List.forall_mem_cons.mpr ⟨lw_p31, fun _ h => absurd h List.not_mem_nil⟩⟩⟩⟩⟩⟩⟩⟩⟩⟩⟩⟩⟩⟩⟩⟩
theorem lw_p32 : lw_okq (⟨"SandHouse$Tape", "begin", "()V"⟩, 6) := ⟨⟨by decide +kernel, by decide +kernel⟩, List.mem_of_getElem? (i := 37) (by decide +kernel), List.mem_of_getElem? (i := 638) (by decide +kernel), List.mem_of_getElem? (i := 639) (by decide +kernel)⟩
theorem lw_p33 : lw_okq (⟨"SandHouse$Tape", "advance", "()V"⟩, 6) := ⟨⟨by decide +kernel, by decide +kernel⟩, List.mem_of_getElem? (i := 37) (by decide +kernel), List.mem_of_getElem? (i := 642) (by decide +kernel), List.mem_of_getElem? (i := 643) (by decide +kernel)⟩
theorem lw_p34 : lw_okq (⟨"SandHouse$HouseReader", "line", "(LSandHouse$Tape;)Z"⟩, 6) := ⟨⟨by decide +kernel, by decide +kernel⟩, List.mem_of_getElem? (i := 346) (by decide +kernel), List.mem_of_getElem? (i := 646) (by decide +kernel), List.mem_of_getElem? (i := 647) (by decide +kernel)⟩
theorem lw_p35 : lw_okq (⟨"SandHouse$Tape", "wordAmong", "(Ljava/lang/String;)I"⟩, 6) := ⟨⟨by decide +kernel, by decide +kernel⟩, List.mem_of_getElem? (i := 37) (by decide +kernel), List.mem_of_getElem? (i := 651) (by decide +kernel), List.mem_of_getElem? (i := 652) (by decide +kernel)⟩
theorem lw_p36 : lw_okq (⟨"SandHouse$HouseReader", "roomLine", "(LSandHouse$Tape;)Z"⟩, 6) := ⟨⟨by decide +kernel, by decide +kernel⟩, List.mem_of_getElem? (i := 346) (by decide +kernel), List.mem_of_getElem? (i := 703) (by decide +kernel), List.mem_of_getElem? (i := 704) (by decide +kernel)⟩
theorem lw_p37 : lw_okq (⟨"SandHouse$HouseReader", "refuse", "(I)Z"⟩, 6) := ⟨⟨by decide +kernel, by decide +kernel⟩, List.mem_of_getElem? (i := 346) (by decide +kernel), List.mem_of_getElem? (i := 707) (by decide +kernel), List.mem_of_getElem? (i := 708) (by decide +kernel)⟩
theorem lw_p38 : lw_okq (⟨"SandHouse$HouseReader", "takeNumber", "(LSandHouse$Tape;II)Z"⟩, 6) := ⟨⟨by decide +kernel, by decide +kernel⟩, List.mem_of_getElem? (i := 346) (by decide +kernel), List.mem_of_getElem? (i := 713) (by decide +kernel), List.mem_of_getElem? (i := 714) (by decide +kernel)⟩
theorem lw_p39 : lw_okq (⟨"SandHouse$Tape", "isNumber", "(I)Z"⟩, 6) := ⟨⟨by decide +kernel, by decide +kernel⟩, List.mem_of_getElem? (i := 37) (by decide +kernel), List.mem_of_getElem? (i := 717) (by decide +kernel), List.mem_of_getElem? (i := 718) (by decide +kernel)⟩
theorem lw_p40 : lw_okq (⟨"SandHouse$HouseReader", "doorLine", "(LSandHouse$Tape;)Z"⟩, 6) := ⟨⟨by decide +kernel, by decide +kernel⟩, List.mem_of_getElem? (i := 346) (by decide +kernel), List.mem_of_getElem? (i := 721) (by decide +kernel), List.mem_of_getElem? (i := 722) (by decide +kernel)⟩
theorem lw_p41 : lw_okq (⟨"SandHouse$HouseReader", "takeTwo", "(LSandHouse$Tape;II)Z"⟩, 6) := ⟨⟨by decide +kernel, by decide +kernel⟩, List.mem_of_getElem? (i := 346) (by decide +kernel), List.mem_of_getElem? (i := 725) (by decide +kernel), List.mem_of_getElem? (i := 726) (by decide +kernel)⟩
theorem lw_p42 : lw_okq (⟨"SandHouse$HouseReader", "personLine", "(LSandHouse$Tape;)Z"⟩, 6) := ⟨⟨by decide +kernel, by decide +kernel⟩, List.mem_of_getElem? (i := 346) (by decide +kernel), List.mem_of_getElem? (i := 729) (by decide +kernel), List.mem_of_getElem? (i := 730) (by decide +kernel)⟩
theorem lw_p43 : lw_okq (⟨"SandHouse$HouseReader", "takeRoom", "(LSandHouse$Tape;)Z"⟩, 6) := ⟨⟨by decide +kernel, by decide +kernel⟩, List.mem_of_getElem? (i := 346) (by decide +kernel), List.mem_of_getElem? (i := 733) (by decide +kernel), List.mem_of_getElem? (i := 734) (by decide +kernel)⟩
theorem lw_p44 : lw_okq (⟨"SandHouse$Plan", "leads", "(II)Z"⟩, 9) := ⟨⟨by decide +kernel, by decide +kernel⟩, List.mem_of_getElem? (i := 76) (by decide +kernel), List.mem_of_getElem? (i := 737) (by decide +kernel), List.mem_of_getElem? (i := 738) (by decide +kernel)⟩
theorem lw_p45 : lw_okq (⟨"SandHouse$HouseReader", "loadLine", "(LSandHouse$Tape;)Z"⟩, 6) := ⟨⟨by decide +kernel, by decide +kernel⟩, List.mem_of_getElem? (i := 346) (by decide +kernel), List.mem_of_getElem? (i := 741) (by decide +kernel), List.mem_of_getElem? (i := 742) (by decide +kernel)⟩
theorem lw_p46 : lw_okq (⟨"SandHouse$HouseReader", "sandLine", "(LSandHouse$Tape;)Z"⟩, 6) := ⟨⟨by decide +kernel, by decide +kernel⟩, List.mem_of_getElem? (i := 346) (by decide +kernel), List.mem_of_getElem? (i := 746) (by decide +kernel), List.mem_of_getElem? (i := 747) (by decide +kernel)⟩
theorem lw_p47 : lw_okq (⟨"SandHouse$Grains", "comeInto", "(III)V"⟩, 13) := ⟨⟨by decide +kernel, by decide +kernel⟩, List.mem_of_getElem? (i := 181) (by decide +kernel), List.mem_of_getElem? (i := 750) (by decide +kernel), List.mem_of_getElem? (i := 751) (by decide +kernel)⟩
def lw_privs_3 : List (MethodName × Nat) := [(⟨"SandHouse$Tape", "begin", "()V"⟩, 6), (⟨"SandHouse$Tape", "advance", "()V"⟩, 6), (⟨"SandHouse$HouseReader", "line", "(LSandHouse$Tape;)Z"⟩, 6), (⟨"SandHouse$Tape", "wordAmong", "(Ljava/lang/String;)I"⟩, 6), (⟨"SandHouse$HouseReader", "roomLine", "(LSandHouse$Tape;)Z"⟩, 6), (⟨"SandHouse$HouseReader", "refuse", "(I)Z"⟩, 6), (⟨"SandHouse$HouseReader", "takeNumber", "(LSandHouse$Tape;II)Z"⟩, 6), (⟨"SandHouse$Tape", "isNumber", "(I)Z"⟩, 6), (⟨"SandHouse$HouseReader", "doorLine", "(LSandHouse$Tape;)Z"⟩, 6), (⟨"SandHouse$HouseReader", "takeTwo", "(LSandHouse$Tape;II)Z"⟩, 6), (⟨"SandHouse$HouseReader", "personLine", "(LSandHouse$Tape;)Z"⟩, 6), (⟨"SandHouse$HouseReader", "takeRoom", "(LSandHouse$Tape;)Z"⟩, 6), (⟨"SandHouse$Plan", "leads", "(II)Z"⟩, 9), (⟨"SandHouse$HouseReader", "loadLine", "(LSandHouse$Tape;)Z"⟩, 6), (⟨"SandHouse$HouseReader", "sandLine", "(LSandHouse$Tape;)Z"⟩, 6), (⟨"SandHouse$Grains", "comeInto", "(III)V"⟩, 13)]
theorem lw_r3 : ∀ q ∈ lw_privs_3, lw_okq q := List.forall_mem_cons.mpr ⟨lw_p32, List.forall_mem_cons.mpr ⟨lw_p33, List.forall_mem_cons.mpr ⟨lw_p34, List.forall_mem_cons.mpr ⟨lw_p35, List.forall_mem_cons.mpr ⟨lw_p36, List.forall_mem_cons.mpr ⟨lw_p37, List.forall_mem_cons.mpr ⟨lw_p38, List.forall_mem_cons.mpr ⟨lw_p39, List.forall_mem_cons.mpr ⟨lw_p40, List.forall_mem_cons.mpr ⟨lw_p41, List.forall_mem_cons.mpr ⟨lw_p42, List.forall_mem_cons.mpr ⟨lw_p43, List.forall_mem_cons.mpr ⟨lw_p44, List.forall_mem_cons.mpr ⟨lw_p45, List.forall_mem_cons.mpr ⟨lw_p46, List.forall_mem_cons.mpr ⟨lw_p47, fun _ h => absurd h List.not_mem_nil⟩⟩⟩⟩⟩⟩⟩⟩⟩⟩⟩⟩⟩⟩⟩⟩
theorem lw_p48 : lw_okq (⟨"SandHouse$HouseReader", "toolLine", "(LSandHouse$Tape;)Z"⟩, 6) := ⟨⟨by decide +kernel, by decide +kernel⟩, List.mem_of_getElem? (i := 346) (by decide +kernel), List.mem_of_getElem? (i := 754) (by decide +kernel), List.mem_of_getElem? (i := 755) (by decide +kernel)⟩
theorem lw_p49 : lw_okq (⟨"SandHouse$HouseReader", "keepsLine", "(LSandHouse$Tape;)Z"⟩, 6) := ⟨⟨by decide +kernel, by decide +kernel⟩, List.mem_of_getElem? (i := 346) (by decide +kernel), List.mem_of_getElem? (i := 758) (by decide +kernel), List.mem_of_getElem? (i := 759) (by decide +kernel)⟩
theorem lw_p50 : lw_okq (⟨"SandHouse$HouseReader", "wetLine", "(LSandHouse$Tape;)Z"⟩, 6) := ⟨⟨by decide +kernel, by decide +kernel⟩, List.mem_of_getElem? (i := 346) (by decide +kernel), List.mem_of_getElem? (i := 762) (by decide +kernel), List.mem_of_getElem? (i := 763) (by decide +kernel)⟩
theorem lw_p51 : lw_okq (⟨"SandHouse$HouseReader", "clogLine", "(LSandHouse$Tape;)Z"⟩, 6) := ⟨⟨by decide +kernel, by decide +kernel⟩, List.mem_of_getElem? (i := 346) (by decide +kernel), List.mem_of_getElem? (i := 766) (by decide +kernel), List.mem_of_getElem? (i := 767) (by decide +kernel)⟩
theorem lw_p52 : lw_okq (⟨"SandHouse$Tape", "isSign", "(C)Z"⟩, 6) := ⟨⟨by decide +kernel, by decide +kernel⟩, List.mem_of_getElem? (i := 37) (by decide +kernel), List.mem_of_getElem? (i := 771) (by decide +kernel), List.mem_of_getElem? (i := 772) (by decide +kernel)⟩
theorem lw_p53 : lw_okq (⟨"java/lang/Throwable", "fillInStackTrace", "(I)Ljava/lang/Throwable;"⟩, 6) := ⟨⟨by decide +kernel, by decide +kernel⟩, List.mem_of_getElem? (i := 814) (by decide +kernel), List.mem_of_getElem? (i := 812) (by decide +kernel), List.mem_of_getElem? (i := 813) (by decide +kernel)⟩
theorem lw_p54 : lw_okq (⟨"SandHouse$LawReader", "read", "(LSandHouse$Tape;)I"⟩, 2) := ⟨⟨by decide +kernel, by decide +kernel⟩, List.mem_of_getElem? (i := 377) (by decide +kernel), List.mem_of_getElem? (i := 869) (by decide +kernel), List.mem_of_getElem? (i := 870) (by decide +kernel)⟩
theorem lw_p55 : lw_okq (⟨"SandHouse$Law", "clear", "()V"⟩, 8) := ⟨⟨by decide +kernel, by decide +kernel⟩, List.mem_of_getElem? (i := 133) (by decide +kernel), List.mem_of_getElem? (i := 873) (by decide +kernel), List.mem_of_getElem? (i := 874) (by decide +kernel)⟩
theorem lw_p56 : lw_okq (⟨"SandHouse$LawReader", "line", "(LSandHouse$Tape;)Z"⟩, 2) := ⟨⟨by decide +kernel, by decide +kernel⟩, List.mem_of_getElem? (i := 377) (by decide +kernel), List.mem_of_getElem? (i := 878) (by decide +kernel), List.mem_of_getElem? (i := 879) (by decide +kernel)⟩
theorem lw_p57 : lw_okq (⟨"SandHouse$LawReader", "refuse", "(I)Z"⟩, 2) := ⟨⟨by decide +kernel, by decide +kernel⟩, List.mem_of_getElem? (i := 377) (by decide +kernel), List.mem_of_getElem? (i := 884) (by decide +kernel), List.mem_of_getElem? (i := 885) (by decide +kernel)⟩
theorem lw_p58 : lw_okq (⟨"SandHouse$Law", "openLine", "(II)V"⟩, 8) := ⟨⟨by decide +kernel, by decide +kernel⟩, List.mem_of_getElem? (i := 133) (by decide +kernel), List.mem_of_getElem? (i := 890) (by decide +kernel), List.mem_of_getElem? (i := 891) (by decide +kernel)⟩
theorem lw_p59 : lw_okq (⟨"SandHouse$Tape", "isWord", "(Ljava/lang/String;)Z"⟩, 6) := ⟨⟨by decide +kernel, by decide +kernel⟩, List.mem_of_getElem? (i := 37) (by decide +kernel), List.mem_of_getElem? (i := 895) (by decide +kernel), List.mem_of_getElem? (i := 896) (by decide +kernel)⟩
theorem lw_p60 : lw_okq (⟨"SandHouse$LawReader", "condition", "(LSandHouse$Tape;I)Z"⟩, 2) := ⟨⟨by decide +kernel, by decide +kernel⟩, List.mem_of_getElem? (i := 377) (by decide +kernel), List.mem_of_getElem? (i := 900) (by decide +kernel), List.mem_of_getElem? (i := 901) (by decide +kernel)⟩
theorem lw_p61 : lw_okq (⟨"SandHouse$LawReader", "atom", "(LSandHouse$Tape;I)Z"⟩, 2) := ⟨⟨by decide +kernel, by decide +kernel⟩, List.mem_of_getElem? (i := 377) (by decide +kernel), List.mem_of_getElem? (i := 904) (by decide +kernel), List.mem_of_getElem? (i := 905) (by decide +kernel)⟩
theorem lw_p62 : lw_okq (⟨"SandHouse$LawReader", "negation", "(LSandHouse$Tape;I)Z"⟩, 2) := ⟨⟨by decide +kernel, by decide +kernel⟩, List.mem_of_getElem? (i := 377) (by decide +kernel), List.mem_of_getElem? (i := 910) (by decide +kernel), List.mem_of_getElem? (i := 911) (by decide +kernel)⟩
theorem lw_p63 : lw_okq (⟨"SandHouse$Law", "write", "(I)V"⟩, 8) := ⟨⟨by decide +kernel, by decide +kernel⟩, List.mem_of_getElem? (i := 133) (by decide +kernel), List.mem_of_getElem? (i := 914) (by decide +kernel), List.mem_of_getElem? (i := 915) (by decide +kernel)⟩
def lw_privs_4 : List (MethodName × Nat) := [(⟨"SandHouse$HouseReader", "toolLine", "(LSandHouse$Tape;)Z"⟩, 6), (⟨"SandHouse$HouseReader", "keepsLine", "(LSandHouse$Tape;)Z"⟩, 6), (⟨"SandHouse$HouseReader", "wetLine", "(LSandHouse$Tape;)Z"⟩, 6), (⟨"SandHouse$HouseReader", "clogLine", "(LSandHouse$Tape;)Z"⟩, 6), (⟨"SandHouse$Tape", "isSign", "(C)Z"⟩, 6), (⟨"java/lang/Throwable", "fillInStackTrace", "(I)Ljava/lang/Throwable;"⟩, 6), (⟨"SandHouse$LawReader", "read", "(LSandHouse$Tape;)I"⟩, 2), (⟨"SandHouse$Law", "clear", "()V"⟩, 8), (⟨"SandHouse$LawReader", "line", "(LSandHouse$Tape;)Z"⟩, 2), (⟨"SandHouse$LawReader", "refuse", "(I)Z"⟩, 2), (⟨"SandHouse$Law", "openLine", "(II)V"⟩, 8), (⟨"SandHouse$Tape", "isWord", "(Ljava/lang/String;)Z"⟩, 6), (⟨"SandHouse$LawReader", "condition", "(LSandHouse$Tape;I)Z"⟩, 2), (⟨"SandHouse$LawReader", "atom", "(LSandHouse$Tape;I)Z"⟩, 2), (⟨"SandHouse$LawReader", "negation", "(LSandHouse$Tape;I)Z"⟩, 2), (⟨"SandHouse$Law", "write", "(I)V"⟩, 8)]
theorem lw_r4 : ∀ q ∈ lw_privs_4, lw_okq q := List.forall_mem_cons.mpr ⟨lw_p48, List.forall_mem_cons.mpr ⟨lw_p49, List.forall_mem_cons.mpr ⟨lw_p50, List.forall_mem_cons.mpr ⟨lw_p51, List.forall_mem_cons.mpr ⟨lw_p52, List.forall_mem_cons.mpr ⟨lw_p53, List.forall_mem_cons.mpr ⟨lw_p54, List.forall_mem_cons.mpr ⟨lw_p55, List.forall_mem_cons.mpr ⟨lw_p56, List.forall_mem_cons.mpr ⟨lw_p57, List.forall_mem_cons.mpr ⟨lw_p58, List.forall_mem_cons.mpr ⟨lw_p59, List.forall_mem_cons.mpr ⟨lw_p60, List.forall_mem_cons.mpr ⟨lw_p61, List.forall_mem_cons.mpr ⟨lw_p62, List.forall_mem_cons.mpr ⟨lw_p63, fun _ h => absurd h List.not_mem_nil⟩⟩⟩⟩⟩⟩⟩⟩⟩⟩⟩⟩⟩⟩⟩⟩
theorem lw_p64 : lw_okq (⟨"SandHouse$LawReader", "bracket", "(LSandHouse$Tape;I)Z"⟩, 2) := ⟨⟨by decide +kernel, by decide +kernel⟩, List.mem_of_getElem? (i := 377) (by decide +kernel), List.mem_of_getElem? (i := 918) (by decide +kernel), List.mem_of_getElem? (i := 919) (by decide +kernel)⟩
theorem lw_p65 : lw_okq (⟨"SandHouse$LawReader", "comparison", "(LSandHouse$Tape;)Z"⟩, 2) := ⟨⟨by decide +kernel, by decide +kernel⟩, List.mem_of_getElem? (i := 377) (by decide +kernel), List.mem_of_getElem? (i := 924) (by decide +kernel), List.mem_of_getElem? (i := 925) (by decide +kernel)⟩
theorem lw_p66 : lw_okq (⟨"SandHouse$Law", "closeLine", "()V"⟩, 8) := ⟨⟨by decide +kernel, by decide +kernel⟩, List.mem_of_getElem? (i := 133) (by decide +kernel), List.mem_of_getElem? (i := 931) (by decide +kernel), List.mem_of_getElem? (i := 932) (by decide +kernel)⟩
theorem lw_p67 : lw_okq (⟨"SandHouse", "needRoom", "(I)V"⟩, 10) := ⟨⟨by decide +kernel, by decide +kernel⟩, List.mem_of_getElem? (i := 29) (by decide +kernel), List.mem_of_getElem? (i := 946) (by decide +kernel), List.mem_of_getElem? (i := 947) (by decide +kernel)⟩
theorem lw_p68 : lw_okq (⟨"SandHouse$Home", "whoIsIn", "(LSandHouse$Grains;I)I"⟩, 3) := ⟨⟨by decide +kernel, by decide +kernel⟩, List.mem_of_getElem? (i := 70) (by decide +kernel), List.mem_of_getElem? (i := 967) (by decide +kernel), List.mem_of_getElem? (i := 968) (by decide +kernel)⟩
theorem lw_p69 : lw_okq (⟨"SandHouse$Home", "whoWasIn", "(LSandHouse$Grains;II)I"⟩, 3) := ⟨⟨by decide +kernel, by decide +kernel⟩, List.mem_of_getElem? (i := 70) (by decide +kernel), List.mem_of_getElem? (i := 971) (by decide +kernel), List.mem_of_getElem? (i := 972) (by decide +kernel)⟩
theorem lw_p70 : lw_okq (⟨"SandHouse$Plan", "stepFrom", "(III)I"⟩, 9) := ⟨⟨by decide +kernel, by decide +kernel⟩, List.mem_of_getElem? (i := 76) (by decide +kernel), List.mem_of_getElem? (i := 975) (by decide +kernel), List.mem_of_getElem? (i := 976) (by decide +kernel)⟩
theorem lw_p71 : lw_okq (⟨"SandHouse$Home", "sweepsOf", "(LSandHouse$Grains;I)I"⟩, 3) := ⟨⟨by decide +kernel, by decide +kernel⟩, List.mem_of_getElem? (i := 70) (by decide +kernel), List.mem_of_getElem? (i := 981) (by decide +kernel), List.mem_of_getElem? (i := 982) (by decide +kernel)⟩
theorem lw_p72 : lw_okq (⟨"SandHouse", "needPerson", "(I)V"⟩, 10) := ⟨⟨by decide +kernel, by decide +kernel⟩, List.mem_of_getElem? (i := 29) (by decide +kernel), List.mem_of_getElem? (i := 1008) (by decide +kernel), List.mem_of_getElem? (i := 1009) (by decide +kernel)⟩
theorem lw_p73 : lw_okq (⟨"SandHouse$Plan", "roams", "(I)I"⟩, 9) := ⟨⟨by decide +kernel, by decide +kernel⟩, List.mem_of_getElem? (i := 76) (by decide +kernel), List.mem_of_getElem? (i := 1022) (by decide +kernel), List.mem_of_getElem? (i := 1023) (by decide +kernel)⟩
theorem lw_p74 : lw_okq (⟨"SandHouse$Home", "ruleOf", "(LSandHouse$Grains;III)I"⟩, 3) := ⟨⟨by decide +kernel, by decide +kernel⟩, List.mem_of_getElem? (i := 70) (by decide +kernel), List.mem_of_getElem? (i := 1049) (by decide +kernel), List.mem_of_getElem? (i := 1050) (by decide +kernel)⟩
theorem lw_p75 : lw_okq (⟨"SandHouse$Past", "remember", "(LSandHouse$Grains;LSandHouse$Heels;)V"⟩, 4) := ⟨⟨by decide +kernel, by decide +kernel⟩, List.mem_of_getElem? (i := 276) (by decide +kernel), List.mem_of_getElem? (i := 1064) (by decide +kernel), List.mem_of_getElem? (i := 1065) (by decide +kernel)⟩
theorem lw_p76 : lw_okq (⟨"SandHouse$Home", "sweepOnce", "(LSandHouse$Grains;I)I"⟩, 3) := ⟨⟨by decide +kernel, by decide +kernel⟩, List.mem_of_getElem? (i := 70) (by decide +kernel), List.mem_of_getElem? (i := 1079) (by decide +kernel), List.mem_of_getElem? (i := 1080) (by decide +kernel)⟩
theorem lw_p77 : lw_okq (⟨"SandHouse$Grains", "beatOut", "(I)I"⟩, 13) := ⟨⟨by decide +kernel, by decide +kernel⟩, List.mem_of_getElem? (i := 181) (by decide +kernel), List.mem_of_getElem? (i := 1091) (by decide +kernel), List.mem_of_getElem? (i := 1092) (by decide +kernel)⟩
theorem lw_p78 : lw_okq (⟨"SandHouse$Trials", "outcome", "(LSandHouse$Home;LSandHouse$Grains;II)I"⟩, 2) := ⟨⟨by decide +kernel, by decide +kernel⟩, List.mem_of_getElem? (i := 331) (by decide +kernel), List.mem_of_getElem? (i := 1125) (by decide +kernel), List.mem_of_getElem? (i := 1126) (by decide +kernel)⟩
theorem lw_p79 : lw_okq (⟨"SandHouse$Trials", "bedsBehind", "(LSandHouse$Home;I)I"⟩, 2) := ⟨⟨by decide +kernel, by decide +kernel⟩, List.mem_of_getElem? (i := 331) (by decide +kernel), List.mem_of_getElem? (i := 1129) (by decide +kernel), List.mem_of_getElem? (i := 1130) (by decide +kernel)⟩
def lw_privs_5 : List (MethodName × Nat) := [(⟨"SandHouse$LawReader", "bracket", "(LSandHouse$Tape;I)Z"⟩, 2), (⟨"SandHouse$LawReader", "comparison", "(LSandHouse$Tape;)Z"⟩, 2), (⟨"SandHouse$Law", "closeLine", "()V"⟩, 8), (⟨"SandHouse", "needRoom", "(I)V"⟩, 10), (⟨"SandHouse$Home", "whoIsIn", "(LSandHouse$Grains;I)I"⟩, 3), (⟨"SandHouse$Home", "whoWasIn", "(LSandHouse$Grains;II)I"⟩, 3), (⟨"SandHouse$Plan", "stepFrom", "(III)I"⟩, 9), (⟨"SandHouse$Home", "sweepsOf", "(LSandHouse$Grains;I)I"⟩, 3), (⟨"SandHouse", "needPerson", "(I)V"⟩, 10), (⟨"SandHouse$Plan", "roams", "(I)I"⟩, 9), (⟨"SandHouse$Home", "ruleOf", "(LSandHouse$Grains;III)I"⟩, 3), (⟨"SandHouse$Past", "remember", "(LSandHouse$Grains;LSandHouse$Heels;)V"⟩, 4), (⟨"SandHouse$Home", "sweepOnce", "(LSandHouse$Grains;I)I"⟩, 3), (⟨"SandHouse$Grains", "beatOut", "(I)I"⟩, 13), (⟨"SandHouse$Trials", "outcome", "(LSandHouse$Home;LSandHouse$Grains;II)I"⟩, 2), (⟨"SandHouse$Trials", "bedsBehind", "(LSandHouse$Home;I)I"⟩, 2)]
theorem lw_r5 : ∀ q ∈ lw_privs_5, lw_okq q := List.forall_mem_cons.mpr ⟨lw_p64, List.forall_mem_cons.mpr ⟨lw_p65, List.forall_mem_cons.mpr ⟨lw_p66, List.forall_mem_cons.mpr ⟨lw_p67, List.forall_mem_cons.mpr ⟨lw_p68, List.forall_mem_cons.mpr ⟨lw_p69, List.forall_mem_cons.mpr ⟨lw_p70, List.forall_mem_cons.mpr ⟨lw_p71, List.forall_mem_cons.mpr ⟨lw_p72, List.forall_mem_cons.mpr ⟨lw_p73, List.forall_mem_cons.mpr ⟨lw_p74, List.forall_mem_cons.mpr ⟨lw_p75, List.forall_mem_cons.mpr ⟨lw_p76, List.forall_mem_cons.mpr ⟨lw_p77, List.forall_mem_cons.mpr ⟨lw_p78, List.forall_mem_cons.mpr ⟨lw_p79, fun _ h => absurd h List.not_mem_nil⟩⟩⟩⟩⟩⟩⟩⟩⟩⟩⟩⟩⟩⟩⟩⟩
theorem lw_p80 : lw_okq (⟨"SandHouse$Home", "inBeds", "(LSandHouse$Grains;)I"⟩, 3) := ⟨⟨by decide +kernel, by decide +kernel⟩, List.mem_of_getElem? (i := 70) (by decide +kernel), List.mem_of_getElem? (i := 1133) (by decide +kernel), List.mem_of_getElem? (i := 1134) (by decide +kernel)⟩
theorem lw_p81 : lw_okq (⟨"SandHouse$Home", "inside", "(LSandHouse$Grains;)I"⟩, 3) := ⟨⟨by decide +kernel, by decide +kernel⟩, List.mem_of_getElem? (i := 70) (by decide +kernel), List.mem_of_getElem? (i := 1137) (by decide +kernel), List.mem_of_getElem? (i := 1138) (by decide +kernel)⟩
theorem lw_p82 : lw_okq (⟨"SandHouse$Trials", "worthOf", "(LSandHouse$Home;LSandHouse$Grains;III)I"⟩, 2) := ⟨⟨by decide +kernel, by decide +kernel⟩, List.mem_of_getElem? (i := 331) (by decide +kernel), List.mem_of_getElem? (i := 1149) (by decide +kernel), List.mem_of_getElem? (i := 1150) (by decide +kernel)⟩
theorem lw_p83 : lw_okq (⟨"SandHouse$Trials", "bestRoom", "(LSandHouse$Home;LSandHouse$Grains;IIZ)I"⟩, 2) := ⟨⟨by decide +kernel, by decide +kernel⟩, List.mem_of_getElem? (i := 331) (by decide +kernel), List.mem_of_getElem? (i := 1160) (by decide +kernel), List.mem_of_getElem? (i := 1161) (by decide +kernel)⟩
theorem lw_p84 : lw_okq (⟨"SandHouse$Trials", "bestPair", "(LSandHouse$Home;LSandHouse$Grains;II)I"⟩, 2) := ⟨⟨by decide +kernel, by decide +kernel⟩, List.mem_of_getElem? (i := 331) (by decide +kernel), List.mem_of_getElem? (i := 1171) (by decide +kernel), List.mem_of_getElem? (i := 1172) (by decide +kernel)⟩
theorem lw_p85 : lw_okq (⟨"SandHouse$Trials", "fewestKeepers", "(LSandHouse$Home;LSandHouse$Grains;II)I"⟩, 2) := ⟨⟨by decide +kernel, by decide +kernel⟩, List.mem_of_getElem? (i := 331) (by decide +kernel), List.mem_of_getElem? (i := 1183) (by decide +kernel), List.mem_of_getElem? (i := 1184) (by decide +kernel)⟩
theorem lw_p86 : lw_okq (⟨"SandHouse$Trials", "quickestRooms", "(LSandHouse$Home;LSandHouse$Grains;I)I"⟩, 2) := ⟨⟨by decide +kernel, by decide +kernel⟩, List.mem_of_getElem? (i := 331) (by decide +kernel), List.mem_of_getElem? (i := 1201) (by decide +kernel), List.mem_of_getElem? (i := 1202) (by decide +kernel)⟩
theorem lw_p87 : lw_okq (⟨"SandHouse$Trials", "sweptOf", "(II)I"⟩, 2) := ⟨⟨by decide +kernel, by decide +kernel⟩, List.mem_of_getElem? (i := 331) (by decide +kernel), List.mem_of_getElem? (i := 1206) (by decide +kernel), List.mem_of_getElem? (i := 1207) (by decide +kernel)⟩
theorem lw_p88 : lw_okq (⟨"SandHouse$Plan", "minutesOf", "(I)I"⟩, 9) := ⟨⟨by decide +kernel, by decide +kernel⟩, List.mem_of_getElem? (i := 76) (by decide +kernel), List.mem_of_getElem? (i := 1210) (by decide +kernel), List.mem_of_getElem? (i := 1211) (by decide +kernel)⟩
theorem lw_p89 : lw_okq (⟨"SandHouse$Trials", "seldomest", "(LSandHouse$Home;LSandHouse$Grains;II)I"⟩, 2) := ⟨⟨by decide +kernel, by decide +kernel⟩, List.mem_of_getElem? (i := 331) (by decide +kernel), List.mem_of_getElem? (i := 1222) (by decide +kernel), List.mem_of_getElem? (i := 1223) (by decide +kernel)⟩
theorem lw_p90 : lw_okq (⟨"SandHouse$Trials", "staysBelow", "(LSandHouse$Home;LSandHouse$Grains;III)Z"⟩, 2) := ⟨⟨by decide +kernel, by decide +kernel⟩, List.mem_of_getElem? (i := 331) (by decide +kernel), List.mem_of_getElem? (i := 1226) (by decide +kernel), List.mem_of_getElem? (i := 1227) (by decide +kernel)⟩
theorem lw_p91 : lw_okq (⟨"SandHouse$Home", "sweepInside", "(LSandHouse$Grains;)V"⟩, 3) := ⟨⟨by decide +kernel, by decide +kernel⟩, List.mem_of_getElem? (i := 70) (by decide +kernel), List.mem_of_getElem? (i := 1230) (by decide +kernel), List.mem_of_getElem? (i := 1231) (by decide +kernel)⟩
theorem lw_p92 : lw_okq (⟨"SandHouse$Trials", "firstInBeds", "(LSandHouse$Home;LSandHouse$Grains;I)I"⟩, 2) := ⟨⟨by decide +kernel, by decide +kernel⟩, List.mem_of_getElem? (i := 331) (by decide +kernel), List.mem_of_getElem? (i := 1243) (by decide +kernel), List.mem_of_getElem? (i := 1244) (by decide +kernel)⟩
theorem lw_p93 : lw_okq (⟨"SandHouse$Trials", "sweepingsTill", "(LSandHouse$Home;LSandHouse$Grains;I)I"⟩, 2) := ⟨⟨by decide +kernel, by decide +kernel⟩, List.mem_of_getElem? (i := 331) (by decide +kernel), List.mem_of_getElem? (i := 1254) (by decide +kernel), List.mem_of_getElem? (i := 1255) (by decide +kernel)⟩
theorem lw_p94 : lw_okq (⟨"SandHouse$Trials", "bestMoment", "(LSandHouse$Home;LSandHouse$Grains;II)I"⟩, 2) := ⟨⟨by decide +kernel, by decide +kernel⟩, List.mem_of_getElem? (i := 331) (by decide +kernel), List.mem_of_getElem? (i := 1265) (by decide +kernel), List.mem_of_getElem? (i := 1266) (by decide +kernel)⟩
theorem lw_p95 : lw_okq (⟨"SandHouse$Trials", "towelWorth", "(LSandHouse$Home;LSandHouse$Grains;III)I"⟩, 2) := ⟨⟨by decide +kernel, by decide +kernel⟩, List.mem_of_getElem? (i := 331) (by decide +kernel), List.mem_of_getElem? (i := 1277) (by decide +kernel), List.mem_of_getElem? (i := 1278) (by decide +kernel)⟩
def lw_privs_6 : List (MethodName × Nat) := [(⟨"SandHouse$Home", "inBeds", "(LSandHouse$Grains;)I"⟩, 3), (⟨"SandHouse$Home", "inside", "(LSandHouse$Grains;)I"⟩, 3), (⟨"SandHouse$Trials", "worthOf", "(LSandHouse$Home;LSandHouse$Grains;III)I"⟩, 2), (⟨"SandHouse$Trials", "bestRoom", "(LSandHouse$Home;LSandHouse$Grains;IIZ)I"⟩, 2), (⟨"SandHouse$Trials", "bestPair", "(LSandHouse$Home;LSandHouse$Grains;II)I"⟩, 2), (⟨"SandHouse$Trials", "fewestKeepers", "(LSandHouse$Home;LSandHouse$Grains;II)I"⟩, 2), (⟨"SandHouse$Trials", "quickestRooms", "(LSandHouse$Home;LSandHouse$Grains;I)I"⟩, 2), (⟨"SandHouse$Trials", "sweptOf", "(II)I"⟩, 2), (⟨"SandHouse$Plan", "minutesOf", "(I)I"⟩, 9), (⟨"SandHouse$Trials", "seldomest", "(LSandHouse$Home;LSandHouse$Grains;II)I"⟩, 2), (⟨"SandHouse$Trials", "staysBelow", "(LSandHouse$Home;LSandHouse$Grains;III)Z"⟩, 2), (⟨"SandHouse$Home", "sweepInside", "(LSandHouse$Grains;)V"⟩, 3), (⟨"SandHouse$Trials", "firstInBeds", "(LSandHouse$Home;LSandHouse$Grains;I)I"⟩, 2), (⟨"SandHouse$Trials", "sweepingsTill", "(LSandHouse$Home;LSandHouse$Grains;I)I"⟩, 2), (⟨"SandHouse$Trials", "bestMoment", "(LSandHouse$Home;LSandHouse$Grains;II)I"⟩, 2), (⟨"SandHouse$Trials", "towelWorth", "(LSandHouse$Home;LSandHouse$Grains;III)I"⟩, 2)]
theorem lw_r6 : ∀ q ∈ lw_privs_6, lw_okq q := List.forall_mem_cons.mpr ⟨lw_p80, List.forall_mem_cons.mpr ⟨lw_p81, List.forall_mem_cons.mpr ⟨lw_p82, List.forall_mem_cons.mpr ⟨lw_p83, List.forall_mem_cons.mpr ⟨lw_p84, List.forall_mem_cons.mpr ⟨lw_p85, List.forall_mem_cons.mpr ⟨lw_p86, List.forall_mem_cons.mpr ⟨lw_p87, List.forall_mem_cons.mpr ⟨lw_p88, List.forall_mem_cons.mpr ⟨lw_p89, List.forall_mem_cons.mpr ⟨lw_p90, List.forall_mem_cons.mpr ⟨lw_p91, List.forall_mem_cons.mpr ⟨lw_p92, List.forall_mem_cons.mpr ⟨lw_p93, List.forall_mem_cons.mpr ⟨lw_p94, List.forall_mem_cons.mpr ⟨lw_p95, fun _ h => absurd h List.not_mem_nil⟩⟩⟩⟩⟩⟩⟩⟩⟩⟩⟩⟩⟩⟩⟩⟩
theorem lw_p96 : lw_okq (⟨"SandHouse$Trials", "bestTowel", "(LSandHouse$Home;LSandHouse$Grains;II)I"⟩, 2) := ⟨⟨by decide +kernel, by decide +kernel⟩, List.mem_of_getElem? (i := 331) (by decide +kernel), List.mem_of_getElem? (i := 1290) (by decide +kernel), List.mem_of_getElem? (i := 1291) (by decide +kernel)⟩
theorem lw_p97 : lw_okq (⟨"SandHouse$Trials", "extreme", "(LSandHouse$Home;LSandHouse$Grains;IZ)I"⟩, 2) := ⟨⟨by decide +kernel, by decide +kernel⟩, List.mem_of_getElem? (i := 331) (by decide +kernel), List.mem_of_getElem? (i := 1303) (by decide +kernel), List.mem_of_getElem? (i := 1304) (by decide +kernel)⟩
theorem lw_p98 : lw_okq (⟨"SandHouse$Trials", "steepest", "(LSandHouse$Home;LSandHouse$Grains;I)I"⟩, 2) := ⟨⟨by decide +kernel, by decide +kernel⟩, List.mem_of_getElem? (i := 331) (by decide +kernel), List.mem_of_getElem? (i := 1314) (by decide +kernel), List.mem_of_getElem? (i := 1315) (by decide +kernel)⟩
theorem lw_p99 : lw_okq (⟨"SandHouse$Grains", "owners", "([II)I"⟩, 13) := ⟨⟨by decide +kernel, by decide +kernel⟩, List.mem_of_getElem? (i := 181) (by decide +kernel), List.mem_of_getElem? (i := 1325) (by decide +kernel), List.mem_of_getElem? (i := 1326) (by decide +kernel)⟩
theorem lw_p100 : lw_okq (⟨"SandHouse$Grains", "mostOf", "([II)I"⟩, 13) := ⟨⟨by decide +kernel, by decide +kernel⟩, List.mem_of_getElem? (i := 181) (by decide +kernel), List.mem_of_getElem? (i := 1329) (by decide +kernel), List.mem_of_getElem? (i := 1330) (by decide +kernel)⟩
theorem lw_p101 : lw_okq (⟨"SandHouse$Home", "bedsAbove", "(LSandHouse$Grains;I)I"⟩, 3) := ⟨⟨by decide +kernel, by decide +kernel⟩, List.mem_of_getElem? (i := 70) (by decide +kernel), List.mem_of_getElem? (i := 1355) (by decide +kernel), List.mem_of_getElem? (i := 1356) (by decide +kernel)⟩
theorem lw_p102 : lw_okq (⟨"SandHouse$Plan", "fewestDoors", "(II)I"⟩, 9) := ⟨⟨by decide +kernel, by decide +kernel⟩, List.mem_of_getElem? (i := 76) (by decide +kernel), List.mem_of_getElem? (i := 1366) (by decide +kernel), List.mem_of_getElem? (i := 1367) (by decide +kernel)⟩
theorem lw_p103 : lw_okq (⟨"SandHouse$Home", "firstMeeting", "(LSandHouse$Grains;II)I"⟩, 3) := ⟨⟨by decide +kernel, by decide +kernel⟩, List.mem_of_getElem? (i := 70) (by decide +kernel), List.mem_of_getElem? (i := 1378) (by decide +kernel), List.mem_of_getElem? (i := 1379) (by decide +kernel)⟩
theorem lw_p104 : lw_okq (⟨"SandHouse$Tape", "tellsNoons", "(II)Z"⟩, 6) := ⟨⟨by decide +kernel, by decide +kernel⟩, List.mem_of_getElem? (i := 37) (by decide +kernel), List.mem_of_getElem? (i := 1389) (by decide +kernel), List.mem_of_getElem? (i := 1390) (by decide +kernel)⟩
theorem lw_p105 : lw_okq (⟨"SandHouse$Tape", "noonRoom", "(I)I"⟩, 6) := ⟨⟨by decide +kernel, by decide +kernel⟩, List.mem_of_getElem? (i := 37) (by decide +kernel), List.mem_of_getElem? (i := 1393) (by decide +kernel), List.mem_of_getElem? (i := 1394) (by decide +kernel)⟩
theorem lw_p106 : lw_okq (⟨"SandHouse$Tape", "noonRound", "(I)I"⟩, 6) := ⟨⟨by decide +kernel, by decide +kernel⟩, List.mem_of_getElem? (i := 37) (by decide +kernel), List.mem_of_getElem? (i := 1397) (by decide +kernel), List.mem_of_getElem? (i := 1398) (by decide +kernel)⟩
theorem lw_p107 : lw_okq (⟨"SandHouse$Heels", "ledBack", "(II)I"⟩, 3) := ⟨⟨by decide +kernel, by decide +kernel⟩, List.mem_of_getElem? (i := 259) (by decide +kernel), List.mem_of_getElem? (i := 1421) (by decide +kernel), List.mem_of_getElem? (i := 1422) (by decide +kernel)⟩
theorem lw_p108 : lw_okq (⟨"SandHouseModel", "readAll", "(Z)I"⟩, 19) := ⟨⟨by decide +kernel, by decide +kernel⟩, List.mem_of_getElem? (i := 1429) (by decide +kernel), List.mem_of_getElem? (i := 1521) (by decide +kernel), List.mem_of_getElem? (i := 1522) (by decide +kernel)⟩
theorem lw_p109 : lw_okq (⟨"SandHouseModel", "uses", "()V"⟩, 19) := ⟨⟨by decide +kernel, by decide +kernel⟩, List.mem_of_getElem? (i := 1429) (by decide +kernel), List.mem_of_getElem? (i := 1525) (by decide +kernel), List.mem_of_getElem? (i := 1526) (by decide +kernel)⟩
theorem lw_p110 : lw_okq (⟨"SandHouseModel", "blanks", "()V"⟩, 19) := ⟨⟨by decide +kernel, by decide +kernel⟩, List.mem_of_getElem? (i := 1429) (by decide +kernel), List.mem_of_getElem? (i := 1529) (by decide +kernel), List.mem_of_getElem? (i := 1530) (by decide +kernel)⟩
theorem lw_p111 : lw_okq (⟨"SandHouseModel", "isAt", "(II)Z"⟩, 19) := ⟨⟨by decide +kernel, by decide +kernel⟩, List.mem_of_getElem? (i := 1429) (by decide +kernel), List.mem_of_getElem? (i := 1533) (by decide +kernel), List.mem_of_getElem? (i := 1534) (by decide +kernel)⟩
def lw_privs_7 : List (MethodName × Nat) := [(⟨"SandHouse$Trials", "bestTowel", "(LSandHouse$Home;LSandHouse$Grains;II)I"⟩, 2), (⟨"SandHouse$Trials", "extreme", "(LSandHouse$Home;LSandHouse$Grains;IZ)I"⟩, 2), (⟨"SandHouse$Trials", "steepest", "(LSandHouse$Home;LSandHouse$Grains;I)I"⟩, 2), (⟨"SandHouse$Grains", "owners", "([II)I"⟩, 13), (⟨"SandHouse$Grains", "mostOf", "([II)I"⟩, 13), (⟨"SandHouse$Home", "bedsAbove", "(LSandHouse$Grains;I)I"⟩, 3), (⟨"SandHouse$Plan", "fewestDoors", "(II)I"⟩, 9), (⟨"SandHouse$Home", "firstMeeting", "(LSandHouse$Grains;II)I"⟩, 3), (⟨"SandHouse$Tape", "tellsNoons", "(II)Z"⟩, 6), (⟨"SandHouse$Tape", "noonRoom", "(I)I"⟩, 6), (⟨"SandHouse$Tape", "noonRound", "(I)I"⟩, 6), (⟨"SandHouse$Heels", "ledBack", "(II)I"⟩, 3), (⟨"SandHouseModel", "readAll", "(Z)I"⟩, 19), (⟨"SandHouseModel", "uses", "()V"⟩, 19), (⟨"SandHouseModel", "blanks", "()V"⟩, 19), (⟨"SandHouseModel", "isAt", "(II)Z"⟩, 19)]
theorem lw_r7 : ∀ q ∈ lw_privs_7, lw_okq q := List.forall_mem_cons.mpr ⟨lw_p96, List.forall_mem_cons.mpr ⟨lw_p97, List.forall_mem_cons.mpr ⟨lw_p98, List.forall_mem_cons.mpr ⟨lw_p99, List.forall_mem_cons.mpr ⟨lw_p100, List.forall_mem_cons.mpr ⟨lw_p101, List.forall_mem_cons.mpr ⟨lw_p102, List.forall_mem_cons.mpr ⟨lw_p103, List.forall_mem_cons.mpr ⟨lw_p104, List.forall_mem_cons.mpr ⟨lw_p105, List.forall_mem_cons.mpr ⟨lw_p106, List.forall_mem_cons.mpr ⟨lw_p107, List.forall_mem_cons.mpr ⟨lw_p108, List.forall_mem_cons.mpr ⟨lw_p109, List.forall_mem_cons.mpr ⟨lw_p110, List.forall_mem_cons.mpr ⟨lw_p111, fun _ h => absurd h List.not_mem_nil⟩⟩⟩⟩⟩⟩⟩⟩⟩⟩⟩⟩⟩⟩⟩⟩
theorem lw_p112 : lw_okq (⟨"SandHouseModel", "readLine", "(ZI)Z"⟩, 19) := ⟨⟨by decide +kernel, by decide +kernel⟩, List.mem_of_getElem? (i := 1429) (by decide +kernel), List.mem_of_getElem? (i := 1537) (by decide +kernel), List.mem_of_getElem? (i := 1538) (by decide +kernel)⟩
theorem lw_p113 : lw_okq (⟨"SandHouseModel", "letters", "()V"⟩, 19) := ⟨⟨by decide +kernel, by decide +kernel⟩, List.mem_of_getElem? (i := 1429) (by decide +kernel), List.mem_of_getElem? (i := 1541) (by decide +kernel), List.mem_of_getElem? (i := 1542) (by decide +kernel)⟩
theorem lw_p114 : lw_okq (⟨"SandHouseModel", "readHouseLine", "()Z"⟩, 19) := ⟨⟨by decide +kernel, by decide +kernel⟩, List.mem_of_getElem? (i := 1429) (by decide +kernel), List.mem_of_getElem? (i := 1545) (by decide +kernel), List.mem_of_getElem? (i := 1546) (by decide +kernel)⟩
theorem lw_p115 : lw_okq (⟨"SandHouseModel", "isWord", "(Ljava/lang/String;)Z"⟩, 19) := ⟨⟨by decide +kernel, by decide +kernel⟩, List.mem_of_getElem? (i := 1429) (by decide +kernel), List.mem_of_getElem? (i := 1550) (by decide +kernel), List.mem_of_getElem? (i := 1551) (by decide +kernel)⟩
theorem lw_p116 : lw_okq (⟨"SandHouseModel", "readRoom", "()Z"⟩, 19) := ⟨⟨by decide +kernel, by decide +kernel⟩, List.mem_of_getElem? (i := 1429) (by decide +kernel), List.mem_of_getElem? (i := 1556) (by decide +kernel), List.mem_of_getElem? (i := 1557) (by decide +kernel)⟩
theorem lw_p117 : lw_okq (⟨"SandHouseModel", "rooms", "()I"⟩, 19) := ⟨⟨by decide +kernel, by decide +kernel⟩, List.mem_of_getElem? (i := 1429) (by decide +kernel), List.mem_of_getElem? (i := 1560) (by decide +kernel), List.mem_of_getElem? (i := 1561) (by decide +kernel)⟩
theorem lw_p118 : lw_okq (⟨"SandHouseModel", "sortTold", "()I"⟩, 19) := ⟨⟨by decide +kernel, by decide +kernel⟩, List.mem_of_getElem? (i := 1429) (by decide +kernel), List.mem_of_getElem? (i := 1564) (by decide +kernel), List.mem_of_getElem? (i := 1565) (by decide +kernel)⟩
theorem lw_p119 : lw_okq (⟨"SandHouseModel", "number", "(II)I"⟩, 19) := ⟨⟨by decide +kernel, by decide +kernel⟩, List.mem_of_getElem? (i := 1429) (by decide +kernel), List.mem_of_getElem? (i := 1573) (by decide +kernel), List.mem_of_getElem? (i := 1574) (by decide +kernel)⟩
theorem lw_p120 : lw_okq (⟨"SandHouseModel", "figures", "(III)I"⟩, 19) := ⟨⟨by decide +kernel, by decide +kernel⟩, List.mem_of_getElem? (i := 1429) (by decide +kernel), List.mem_of_getElem? (i := 1577) (by decide +kernel), List.mem_of_getElem? (i := 1578) (by decide +kernel)⟩
theorem lw_p121 : lw_okq (⟨"SandHouseModel", "readDoor", "()Z"⟩, 19) := ⟨⟨by decide +kernel, by decide +kernel⟩, List.mem_of_getElem? (i := 1429) (by decide +kernel), List.mem_of_getElem? (i := 1585) (by decide +kernel), List.mem_of_getElem? (i := 1586) (by decide +kernel)⟩
theorem lw_p122 : lw_okq (⟨"SandHouseModel", "roomTold", "()I"⟩, 19) := ⟨⟨by decide +kernel, by decide +kernel⟩, List.mem_of_getElem? (i := 1429) (by decide +kernel), List.mem_of_getElem? (i := 1589) (by decide +kernel), List.mem_of_getElem? (i := 1590) (by decide +kernel)⟩
theorem lw_p123 : lw_okq (⟨"SandHouseModel", "readPerson", "()Z"⟩, 19) := ⟨⟨by decide +kernel, by decide +kernel⟩, List.mem_of_getElem? (i := 1429) (by decide +kernel), List.mem_of_getElem? (i := 1594) (by decide +kernel), List.mem_of_getElem? (i := 1595) (by decide +kernel)⟩
theorem lw_p124 : lw_okq (⟨"SandHouseModel", "people", "()I"⟩, 19) := ⟨⟨by decide +kernel, by decide +kernel⟩, List.mem_of_getElem? (i := 1429) (by decide +kernel), List.mem_of_getElem? (i := 1598) (by decide +kernel), List.mem_of_getElem? (i := 1599) (by decide +kernel)⟩
theorem lw_p125 : lw_okq (⟨"SandHouseModel", "sets", "(III)V"⟩, 19) := ⟨⟨by decide +kernel, by decide +kernel⟩, List.mem_of_getElem? (i := 1429) (by decide +kernel), List.mem_of_getElem? (i := 1602) (by decide +kernel), List.mem_of_getElem? (i := 1603) (by decide +kernel)⟩
theorem lw_p126 : lw_okq (⟨"SandHouseModel", "of", "(II)I"⟩, 19) := ⟨⟨by decide +kernel, by decide +kernel⟩, List.mem_of_getElem? (i := 1429) (by decide +kernel), List.mem_of_getElem? (i := 1609) (by decide +kernel), List.mem_of_getElem? (i := 1610) (by decide +kernel)⟩
theorem lw_p127 : lw_okq (⟨"SandHouseModel", "isDoor", "(II)Z"⟩, 19) := ⟨⟨by decide +kernel, by decide +kernel⟩, List.mem_of_getElem? (i := 1429) (by decide +kernel), List.mem_of_getElem? (i := 1613) (by decide +kernel), List.mem_of_getElem? (i := 1614) (by decide +kernel)⟩
def lw_privs_8 : List (MethodName × Nat) := [(⟨"SandHouseModel", "readLine", "(ZI)Z"⟩, 19), (⟨"SandHouseModel", "letters", "()V"⟩, 19), (⟨"SandHouseModel", "readHouseLine", "()Z"⟩, 19), (⟨"SandHouseModel", "isWord", "(Ljava/lang/String;)Z"⟩, 19), (⟨"SandHouseModel", "readRoom", "()Z"⟩, 19), (⟨"SandHouseModel", "rooms", "()I"⟩, 19), (⟨"SandHouseModel", "sortTold", "()I"⟩, 19), (⟨"SandHouseModel", "number", "(II)I"⟩, 19), (⟨"SandHouseModel", "figures", "(III)I"⟩, 19), (⟨"SandHouseModel", "readDoor", "()Z"⟩, 19), (⟨"SandHouseModel", "roomTold", "()I"⟩, 19), (⟨"SandHouseModel", "readPerson", "()Z"⟩, 19), (⟨"SandHouseModel", "people", "()I"⟩, 19), (⟨"SandHouseModel", "sets", "(III)V"⟩, 19), (⟨"SandHouseModel", "of", "(II)I"⟩, 19), (⟨"SandHouseModel", "isDoor", "(II)Z"⟩, 19)]
theorem lw_r8 : ∀ q ∈ lw_privs_8, lw_okq q := List.forall_mem_cons.mpr ⟨lw_p112, List.forall_mem_cons.mpr ⟨lw_p113, List.forall_mem_cons.mpr ⟨lw_p114, List.forall_mem_cons.mpr ⟨lw_p115, List.forall_mem_cons.mpr ⟨lw_p116, List.forall_mem_cons.mpr ⟨lw_p117, List.forall_mem_cons.mpr ⟨lw_p118, List.forall_mem_cons.mpr ⟨lw_p119, List.forall_mem_cons.mpr ⟨lw_p120, List.forall_mem_cons.mpr ⟨lw_p121, List.forall_mem_cons.mpr ⟨lw_p122, List.forall_mem_cons.mpr ⟨lw_p123, List.forall_mem_cons.mpr ⟨lw_p124, List.forall_mem_cons.mpr ⟨lw_p125, List.forall_mem_cons.mpr ⟨lw_p126, List.forall_mem_cons.mpr ⟨lw_p127, fun _ h => absurd h List.not_mem_nil⟩⟩⟩⟩⟩⟩⟩⟩⟩⟩⟩⟩⟩⟩⟩⟩
theorem lw_p128 : lw_okq (⟨"SandHouseModel", "readLoad", "()Z"⟩, 19) := ⟨⟨by decide +kernel, by decide +kernel⟩, List.mem_of_getElem? (i := 1429) (by decide +kernel), List.mem_of_getElem? (i := 1618) (by decide +kernel), List.mem_of_getElem? (i := 1619) (by decide +kernel)⟩
theorem lw_p129 : lw_okq (⟨"SandHouseModel", "personTold", "()I"⟩, 19) := ⟨⟨by decide +kernel, by decide +kernel⟩, List.mem_of_getElem? (i := 1429) (by decide +kernel), List.mem_of_getElem? (i := 1622) (by decide +kernel), List.mem_of_getElem? (i := 1623) (by decide +kernel)⟩
theorem lw_p130 : lw_okq (⟨"SandHouseModel", "loadOf", "(I)I"⟩, 19) := ⟨⟨by decide +kernel, by decide +kernel⟩, List.mem_of_getElem? (i := 1429) (by decide +kernel), List.mem_of_getElem? (i := 1626) (by decide +kernel), List.mem_of_getElem? (i := 1627) (by decide +kernel)⟩
theorem lw_p131 : lw_okq (⟨"SandHouseModel", "grains", "(I)I"⟩, 19) := ⟨⟨by decide +kernel, by decide +kernel⟩, List.mem_of_getElem? (i := 1429) (by decide +kernel), List.mem_of_getElem? (i := 1630) (by decide +kernel), List.mem_of_getElem? (i := 1631) (by decide +kernel)⟩
theorem lw_p132 : lw_okq (⟨"SandHouseModel", "readSand", "()Z"⟩, 19) := ⟨⟨by decide +kernel, by decide +kernel⟩, List.mem_of_getElem? (i := 1429) (by decide +kernel), List.mem_of_getElem? (i := 1636) (by decide +kernel), List.mem_of_getElem? (i := 1637) (by decide +kernel)⟩
theorem lw_p133 : lw_okq (⟨"SandHouseModel", "readTool", "()Z"⟩, 19) := ⟨⟨by decide +kernel, by decide +kernel⟩, List.mem_of_getElem? (i := 1429) (by decide +kernel), List.mem_of_getElem? (i := 1641) (by decide +kernel), List.mem_of_getElem? (i := 1642) (by decide +kernel)⟩
theorem lw_p134 : lw_okq (⟨"SandHouseModel", "readOf", "(II)Z"⟩, 19) := ⟨⟨by decide +kernel, by decide +kernel⟩, List.mem_of_getElem? (i := 1429) (by decide +kernel), List.mem_of_getElem? (i := 1646) (by decide +kernel), List.mem_of_getElem? (i := 1647) (by decide +kernel)⟩
theorem lw_p135 : lw_okq (⟨"SandHouseModel", "readLawLine", "(I)Z"⟩, 19) := ⟨⟨by decide +kernel, by decide +kernel⟩, List.mem_of_getElem? (i := 1429) (by decide +kernel), List.mem_of_getElem? (i := 1653) (by decide +kernel), List.mem_of_getElem? (i := 1654) (by decide +kernel)⟩
theorem lw_p136 : lw_okq (⟨"SandHouseModel", "passes", "(Ljava/lang/String;)Z"⟩, 19) := ⟨⟨by decide +kernel, by decide +kernel⟩, List.mem_of_getElem? (i := 1429) (by decide +kernel), List.mem_of_getElem? (i := 1662) (by decide +kernel), List.mem_of_getElem? (i := 1663) (by decide +kernel)⟩
theorem lw_p137 : lw_okq (⟨"SandHouseModel", "readCond", "()Z"⟩, 19) := ⟨⟨by decide +kernel, by decide +kernel⟩, List.mem_of_getElem? (i := 1429) (by decide +kernel), List.mem_of_getElem? (i := 1666) (by decide +kernel), List.mem_of_getElem? (i := 1667) (by decide +kernel)⟩
theorem lw_p138 : lw_okq (⟨"SandHouseModel", "readAllOf", "()Z"⟩, 19) := ⟨⟨by decide +kernel, by decide +kernel⟩, List.mem_of_getElem? (i := 1429) (by decide +kernel), List.mem_of_getElem? (i := 1670) (by decide +kernel), List.mem_of_getElem? (i := 1671) (by decide +kernel)⟩
theorem lw_p139 : lw_okq (⟨"SandHouseModel", "readAtom", "()Z"⟩, 19) := ⟨⟨by decide +kernel, by decide +kernel⟩, List.mem_of_getElem? (i := 1429) (by decide +kernel), List.mem_of_getElem? (i := 1674) (by decide +kernel), List.mem_of_getElem? (i := 1675) (by decide +kernel)⟩
theorem lw_p140 : lw_okq (⟨"SandHouseModel", "sign", "(I)Z"⟩, 19) := ⟨⟨by decide +kernel, by decide +kernel⟩, List.mem_of_getElem? (i := 1429) (by decide +kernel), List.mem_of_getElem? (i := 1678) (by decide +kernel), List.mem_of_getElem? (i := 1679) (by decide +kernel)⟩
theorem lw_p141 : lw_okq (⟨"SandHouseModel", "emits", "(II)V"⟩, 19) := ⟨⟨by decide +kernel, by decide +kernel⟩, List.mem_of_getElem? (i := 1429) (by decide +kernel), List.mem_of_getElem? (i := 1683) (by decide +kernel), List.mem_of_getElem? (i := 1684) (by decide +kernel)⟩
theorem lw_p142 : lw_okq (⟨"SandHouseModel", "readTag", "()Z"⟩, 19) := ⟨⟨by decide +kernel, by decide +kernel⟩, List.mem_of_getElem? (i := 1429) (by decide +kernel), List.mem_of_getElem? (i := 1687) (by decide +kernel), List.mem_of_getElem? (i := 1688) (by decide +kernel)⟩
theorem lw_p143 : lw_okq (⟨"SandHouseModel", "readSum", "()Z"⟩, 19) := ⟨⟨by decide +kernel, by decide +kernel⟩, List.mem_of_getElem? (i := 1429) (by decide +kernel), List.mem_of_getElem? (i := 1691) (by decide +kernel), List.mem_of_getElem? (i := 1692) (by decide +kernel)⟩
def lw_privs_9 : List (MethodName × Nat) := [(⟨"SandHouseModel", "readLoad", "()Z"⟩, 19), (⟨"SandHouseModel", "personTold", "()I"⟩, 19), (⟨"SandHouseModel", "loadOf", "(I)I"⟩, 19), (⟨"SandHouseModel", "grains", "(I)I"⟩, 19), (⟨"SandHouseModel", "readSand", "()Z"⟩, 19), (⟨"SandHouseModel", "readTool", "()Z"⟩, 19), (⟨"SandHouseModel", "readOf", "(II)Z"⟩, 19), (⟨"SandHouseModel", "readLawLine", "(I)Z"⟩, 19), (⟨"SandHouseModel", "passes", "(Ljava/lang/String;)Z"⟩, 19), (⟨"SandHouseModel", "readCond", "()Z"⟩, 19), (⟨"SandHouseModel", "readAllOf", "()Z"⟩, 19), (⟨"SandHouseModel", "readAtom", "()Z"⟩, 19), (⟨"SandHouseModel", "sign", "(I)Z"⟩, 19), (⟨"SandHouseModel", "emits", "(II)V"⟩, 19), (⟨"SandHouseModel", "readTag", "()Z"⟩, 19), (⟨"SandHouseModel", "readSum", "()Z"⟩, 19)]
theorem lw_r9 : ∀ q ∈ lw_privs_9, lw_okq q := List.forall_mem_cons.mpr ⟨lw_p128, List.forall_mem_cons.mpr ⟨lw_p129, List.forall_mem_cons.mpr ⟨lw_p130, List.forall_mem_cons.mpr ⟨lw_p131, List.forall_mem_cons.mpr ⟨lw_p132, List.forall_mem_cons.mpr ⟨lw_p133, List.forall_mem_cons.mpr ⟨lw_p134, List.forall_mem_cons.mpr ⟨lw_p135, List.forall_mem_cons.mpr ⟨lw_p136, List.forall_mem_cons.mpr ⟨lw_p137, List.forall_mem_cons.mpr ⟨lw_p138, List.forall_mem_cons.mpr ⟨lw_p139, List.forall_mem_cons.mpr ⟨lw_p140, List.forall_mem_cons.mpr ⟨lw_p141, List.forall_mem_cons.mpr ⟨lw_p142, List.forall_mem_cons.mpr ⟨lw_p143, fun _ h => absurd h List.not_mem_nil⟩⟩⟩⟩⟩⟩⟩⟩⟩⟩⟩⟩⟩⟩⟩⟩
theorem lw_p144 : lw_okq (⟨"SandHouseModel", "readPart", "()Z"⟩, 19) := ⟨⟨by decide +kernel, by decide +kernel⟩, List.mem_of_getElem? (i := 1429) (by decide +kernel), List.mem_of_getElem? (i := 1695) (by decide +kernel), List.mem_of_getElem? (i := 1696) (by decide +kernel)⟩
theorem lw_p145 : lw_okq (⟨"SandHouseModel", "throwsIf", "(ZI)Z"⟩, 19) := ⟨⟨by decide +kernel, by decide +kernel⟩, List.mem_of_getElem? (i := 1429) (by decide +kernel), List.mem_of_getElem? (i := 1704) (by decide +kernel), List.mem_of_getElem? (i := 1705) (by decide +kernel)⟩
theorem lw_p146 : lw_okq (⟨"SandHouseModel", "noRoom", "(I)Z"⟩, 19) := ⟨⟨by decide +kernel, by decide +kernel⟩, List.mem_of_getElem? (i := 1429) (by decide +kernel), List.mem_of_getElem? (i := 1716) (by decide +kernel), List.mem_of_getElem? (i := 1717) (by decide +kernel)⟩
theorem lw_p147 : lw_okq (⟨"SandHouseModel", "ofRoom", "(II)I"⟩, 19) := ⟨⟨by decide +kernel, by decide +kernel⟩, List.mem_of_getElem? (i := 1429) (by decide +kernel), List.mem_of_getElem? (i := 1723) (by decide +kernel), List.mem_of_getElem? (i := 1724) (by decide +kernel)⟩
theorem lw_p148 : lw_okq (⟨"SandHouseModel", "here", "(I)I"⟩, 19) := ⟨⟨by decide +kernel, by decide +kernel⟩, List.mem_of_getElem? (i := 1429) (by decide +kernel), List.mem_of_getElem? (i := 1727) (by decide +kernel), List.mem_of_getElem? (i := 1728) (by decide +kernel)⟩
theorem lw_p149 : lw_okq (⟨"SandHouseModel", "peopleIn", "(I)I"⟩, 19) := ⟨⟨by decide +kernel, by decide +kernel⟩, List.mem_of_getElem? (i := 1429) (by decide +kernel), List.mem_of_getElem? (i := 1731) (by decide +kernel), List.mem_of_getElem? (i := 1732) (by decide +kernel)⟩
theorem lw_p150 : lw_okq (⟨"SandHouseModel", "roomOf", "(I)I"⟩, 19) := ⟨⟨by decide +kernel, by decide +kernel⟩, List.mem_of_getElem? (i := 1429) (by decide +kernel), List.mem_of_getElem? (i := 1735) (by decide +kernel), List.mem_of_getElem? (i := 1736) (by decide +kernel)⟩
theorem lw_p151 : lw_okq (⟨"SandHouseModel", "besideOf", "(I)I"⟩, 19) := ⟨⟨by decide +kernel, by decide +kernel⟩, List.mem_of_getElem? (i := 1429) (by decide +kernel), List.mem_of_getElem? (i := 1739) (by decide +kernel), List.mem_of_getElem? (i := 1740) (by decide +kernel)⟩
theorem lw_p152 : lw_okq (⟨"SandHouseModel", "says", "(III)I"⟩, 19) := ⟨⟨by decide +kernel, by decide +kernel⟩, List.mem_of_getElem? (i := 1429) (by decide +kernel), List.mem_of_getElem? (i := 1743) (by decide +kernel), List.mem_of_getElem? (i := 1744) (by decide +kernel)⟩
theorem lw_p153 : lw_okq (⟨"SandHouseModel", "holdsLine", "(IIIZ)Z"⟩, 19) := ⟨⟨by decide +kernel, by decide +kernel⟩, List.mem_of_getElem? (i := 1429) (by decide +kernel), List.mem_of_getElem? (i := 1747) (by decide +kernel), List.mem_of_getElem? (i := 1748) (by decide +kernel)⟩
theorem lw_p154 : lw_okq (⟨"SandHouseModel", "factOf", "(IIIIZ)I"⟩, 19) := ⟨⟨by decide +kernel, by decide +kernel⟩, List.mem_of_getElem? (i := 1429) (by decide +kernel), List.mem_of_getElem? (i := 1751) (by decide +kernel), List.mem_of_getElem? (i := 1752) (by decide +kernel)⟩
theorem lw_p155 : lw_okq (⟨"SandHouseModel", "noPerson", "(I)Z"⟩, 19) := ⟨⟨by decide +kernel, by decide +kernel⟩, List.mem_of_getElem? (i := 1429) (by decide +kernel), List.mem_of_getElem? (i := 1759) (by decide +kernel), List.mem_of_getElem? (i := 1760) (by decide +kernel)⟩
theorem lw_p156 : lw_okq (⟨"SandHouseModel", "roams", "(I)I"⟩, 19) := ⟨⟨by decide +kernel, by decide +kernel⟩, List.mem_of_getElem? (i := 1429) (by decide +kernel), List.mem_of_getElem? (i := 1767) (by decide +kernel), List.mem_of_getElem? (i := 1768) (by decide +kernel)⟩
theorem lw_p157 : lw_okq (⟨"SandHouseModel", "remembers", "()V"⟩, 19) := ⟨⟨by decide +kernel, by decide +kernel⟩, List.mem_of_getElem? (i := 1429) (by decide +kernel), List.mem_of_getElem? (i := 1787) (by decide +kernel), List.mem_of_getElem? (i := 1788) (by decide +kernel)⟩
theorem lw_p158 : lw_okq (⟨"SandHouseModel", "round", "()I"⟩, 19) := ⟨⟨by decide +kernel, by decide +kernel⟩, List.mem_of_getElem? (i := 1429) (by decide +kernel), List.mem_of_getElem? (i := 1791) (by decide +kernel), List.mem_of_getElem? (i := 1792) (by decide +kernel)⟩
theorem lw_p159 : lw_okq (⟨"SandHouseModel", "goes", "(I)I"⟩, 19) := ⟨⟨by decide +kernel, by decide +kernel⟩, List.mem_of_getElem? (i := 1429) (by decide +kernel), List.mem_of_getElem? (i := 1795) (by decide +kernel), List.mem_of_getElem? (i := 1796) (by decide +kernel)⟩
def lw_privs_10 : List (MethodName × Nat) := [(⟨"SandHouseModel", "readPart", "()Z"⟩, 19), (⟨"SandHouseModel", "throwsIf", "(ZI)Z"⟩, 19), (⟨"SandHouseModel", "noRoom", "(I)Z"⟩, 19), (⟨"SandHouseModel", "ofRoom", "(II)I"⟩, 19), (⟨"SandHouseModel", "here", "(I)I"⟩, 19), (⟨"SandHouseModel", "peopleIn", "(I)I"⟩, 19), (⟨"SandHouseModel", "roomOf", "(I)I"⟩, 19), (⟨"SandHouseModel", "besideOf", "(I)I"⟩, 19), (⟨"SandHouseModel", "says", "(III)I"⟩, 19), (⟨"SandHouseModel", "holdsLine", "(IIIZ)Z"⟩, 19), (⟨"SandHouseModel", "factOf", "(IIIIZ)I"⟩, 19), (⟨"SandHouseModel", "noPerson", "(I)Z"⟩, 19), (⟨"SandHouseModel", "roams", "(I)I"⟩, 19), (⟨"SandHouseModel", "remembers", "()V"⟩, 19), (⟨"SandHouseModel", "round", "()I"⟩, 19), (⟨"SandHouseModel", "goes", "(I)I"⟩, 19)]
theorem lw_r10 : ∀ q ∈ lw_privs_10, lw_okq q := List.forall_mem_cons.mpr ⟨lw_p144, List.forall_mem_cons.mpr ⟨lw_p145, List.forall_mem_cons.mpr ⟨lw_p146, List.forall_mem_cons.mpr ⟨lw_p147, List.forall_mem_cons.mpr ⟨lw_p148, List.forall_mem_cons.mpr ⟨lw_p149, List.forall_mem_cons.mpr ⟨lw_p150, List.forall_mem_cons.mpr ⟨lw_p151, List.forall_mem_cons.mpr ⟨lw_p152, List.forall_mem_cons.mpr ⟨lw_p153, List.forall_mem_cons.mpr ⟨lw_p154, List.forall_mem_cons.mpr ⟨lw_p155, List.forall_mem_cons.mpr ⟨lw_p156, List.forall_mem_cons.mpr ⟨lw_p157, List.forall_mem_cons.mpr ⟨lw_p158, List.forall_mem_cons.mpr ⟨lw_p159, fun _ h => absurd h List.not_mem_nil⟩⟩⟩⟩⟩⟩⟩⟩⟩⟩⟩⟩⟩⟩⟩⟩
theorem lw_p160 : lw_okq (⟨"SandHouseModel", "draw", "(I)I"⟩, 19) := ⟨⟨by decide +kernel, by decide +kernel⟩, List.mem_of_getElem? (i := 1429) (by decide +kernel), List.mem_of_getElem? (i := 1799) (by decide +kernel), List.mem_of_getElem? (i := 1800) (by decide +kernel)⟩
theorem lw_p161 : lw_okq (⟨"SandHouseModel", "moves", "(III)I"⟩, 19) := ⟨⟨by decide +kernel, by decide +kernel⟩, List.mem_of_getElem? (i := 1429) (by decide +kernel), List.mem_of_getElem? (i := 1804) (by decide +kernel), List.mem_of_getElem? (i := 1805) (by decide +kernel)⟩
theorem lw_p162 : lw_okq (⟨"SandHouseModel", "tells", "(IIII)V"⟩, 19) := ⟨⟨by decide +kernel, by decide +kernel⟩, List.mem_of_getElem? (i := 1429) (by decide +kernel), List.mem_of_getElem? (i := 1808) (by decide +kernel), List.mem_of_getElem? (i := 1809) (by decide +kernel)⟩
theorem lw_p163 : lw_okq (⟨"SandHouseModel", "partOf", "(II)I"⟩, 19) := ⟨⟨by decide +kernel, by decide +kernel⟩, List.mem_of_getElem? (i := 1429) (by decide +kernel), List.mem_of_getElem? (i := 1812) (by decide +kernel), List.mem_of_getElem? (i := 1813) (by decide +kernel)⟩
theorem lw_p164 : lw_okq (⟨"SandHouseModel", "sweeps", "(I)I"⟩, 19) := ⟨⟨by decide +kernel, by decide +kernel⟩, List.mem_of_getElem? (i := 1429) (by decide +kernel), List.mem_of_getElem? (i := 1821) (by decide +kernel), List.mem_of_getElem? (i := 1822) (by decide +kernel)⟩
theorem lw_p165 : lw_okq (⟨"SandHouseModel", "beats", "(I)I"⟩, 19) := ⟨⟨by decide +kernel, by decide +kernel⟩, List.mem_of_getElem? (i := 1429) (by decide +kernel), List.mem_of_getElem? (i := 1829) (by decide +kernel), List.mem_of_getElem? (i := 1830) (by decide +kernel)⟩
theorem lw_p166 : lw_okq (⟨"SandHouseModel", "told", "(II)I"⟩, 19) := ⟨⟨by decide +kernel, by decide +kernel⟩, List.mem_of_getElem? (i := 1429) (by decide +kernel), List.mem_of_getElem? (i := 1837) (by decide +kernel), List.mem_of_getElem? (i := 1838) (by decide +kernel)⟩
theorem lw_p167 : lw_okq (⟨"SandHouseModel", "keepsAll", "()V"⟩, 19) := ⟨⟨by decide +kernel, by decide +kernel⟩, List.mem_of_getElem? (i := 1429) (by decide +kernel), List.mem_of_getElem? (i := 1853) (by decide +kernel), List.mem_of_getElem? (i := 1854) (by decide +kernel)⟩
theorem lw_p168 : lw_okq (⟨"SandHouseModel", "runs", "(I)V"⟩, 19) := ⟨⟨by decide +kernel, by decide +kernel⟩, List.mem_of_getElem? (i := 1429) (by decide +kernel), List.mem_of_getElem? (i := 1857) (by decide +kernel), List.mem_of_getElem? (i := 1858) (by decide +kernel)⟩
theorem lw_p169 : lw_okq (⟨"SandHouseModel", "beds", "()I"⟩, 19) := ⟨⟨by decide +kernel, by decide +kernel⟩, List.mem_of_getElem? (i := 1429) (by decide +kernel), List.mem_of_getElem? (i := 1861) (by decide +kernel), List.mem_of_getElem? (i := 1862) (by decide +kernel)⟩
theorem lw_p170 : lw_okq (⟨"SandHouseModel", "indoors", "()I"⟩, 19) := ⟨⟨by decide +kernel, by decide +kernel⟩, List.mem_of_getElem? (i := 1429) (by decide +kernel), List.mem_of_getElem? (i := 1865) (by decide +kernel), List.mem_of_getElem? (i := 1866) (by decide +kernel)⟩
theorem lw_p171 : lw_okq (⟨"SandHouseModel", "isIndoor", "(I)Z"⟩, 19) := ⟨⟨by decide +kernel, by decide +kernel⟩, List.mem_of_getElem? (i := 1429) (by decide +kernel), List.mem_of_getElem? (i := 1869) (by decide +kernel), List.mem_of_getElem? (i := 1870) (by decide +kernel)⟩
theorem lw_p172 : lw_okq (⟨"SandHouseModel", "loads", "()I"⟩, 19) := ⟨⟨by decide +kernel, by decide +kernel⟩, List.mem_of_getElem? (i := 1429) (by decide +kernel), List.mem_of_getElem? (i := 1873) (by decide +kernel), List.mem_of_getElem? (i := 1874) (by decide +kernel)⟩
theorem lw_p173 : lw_okq (⟨"SandHouseModel", "bringsBack", "()V"⟩, 19) := ⟨⟨by decide +kernel, by decide +kernel⟩, List.mem_of_getElem? (i := 1429) (by decide +kernel), List.mem_of_getElem? (i := 1877) (by decide +kernel), List.mem_of_getElem? (i := 1878) (by decide +kernel)⟩
theorem lw_p174 : lw_okq (⟨"SandHouseModel", "behind", "(IZ)I"⟩, 19) := ⟨⟨by decide +kernel, by decide +kernel⟩, List.mem_of_getElem? (i := 1429) (by decide +kernel), List.mem_of_getElem? (i := 1885) (by decide +kernel), List.mem_of_getElem? (i := 1886) (by decide +kernel)⟩
theorem lw_p175 : lw_okq (⟨"SandHouseModel", "noTool", "(II)Z"⟩, 19) := ⟨⟨by decide +kernel, by decide +kernel⟩, List.mem_of_getElem? (i := 1429) (by decide +kernel), List.mem_of_getElem? (i := 1893) (by decide +kernel), List.mem_of_getElem? (i := 1894) (by decide +kernel)⟩
def lw_privs_11 : List (MethodName × Nat) := [(⟨"SandHouseModel", "draw", "(I)I"⟩, 19), (⟨"SandHouseModel", "moves", "(III)I"⟩, 19), (⟨"SandHouseModel", "tells", "(IIII)V"⟩, 19), (⟨"SandHouseModel", "partOf", "(II)I"⟩, 19), (⟨"SandHouseModel", "sweeps", "(I)I"⟩, 19), (⟨"SandHouseModel", "beats", "(I)I"⟩, 19), (⟨"SandHouseModel", "told", "(II)I"⟩, 19), (⟨"SandHouseModel", "keepsAll", "()V"⟩, 19), (⟨"SandHouseModel", "runs", "(I)V"⟩, 19), (⟨"SandHouseModel", "beds", "()I"⟩, 19), (⟨"SandHouseModel", "indoors", "()I"⟩, 19), (⟨"SandHouseModel", "isIndoor", "(I)Z"⟩, 19), (⟨"SandHouseModel", "loads", "()I"⟩, 19), (⟨"SandHouseModel", "bringsBack", "()V"⟩, 19), (⟨"SandHouseModel", "behind", "(IZ)I"⟩, 19), (⟨"SandHouseModel", "noTool", "(II)Z"⟩, 19)]
theorem lw_r11 : ∀ q ∈ lw_privs_11, lw_okq q := List.forall_mem_cons.mpr ⟨lw_p160, List.forall_mem_cons.mpr ⟨lw_p161, List.forall_mem_cons.mpr ⟨lw_p162, List.forall_mem_cons.mpr ⟨lw_p163, List.forall_mem_cons.mpr ⟨lw_p164, List.forall_mem_cons.mpr ⟨lw_p165, List.forall_mem_cons.mpr ⟨lw_p166, List.forall_mem_cons.mpr ⟨lw_p167, List.forall_mem_cons.mpr ⟨lw_p168, List.forall_mem_cons.mpr ⟨lw_p169, List.forall_mem_cons.mpr ⟨lw_p170, List.forall_mem_cons.mpr ⟨lw_p171, List.forall_mem_cons.mpr ⟨lw_p172, List.forall_mem_cons.mpr ⟨lw_p173, List.forall_mem_cons.mpr ⟨lw_p174, List.forall_mem_cons.mpr ⟨lw_p175, fun _ h => absurd h List.not_mem_nil⟩⟩⟩⟩⟩⟩⟩⟩⟩⟩⟩⟩⟩⟩⟩⟩
theorem lw_p176 : lw_okq (⟨"SandHouseModel", "noLimit", "(III)Z"⟩, 19) := ⟨⟨by decide +kernel, by decide +kernel⟩, List.mem_of_getElem? (i := 1429) (by decide +kernel), List.mem_of_getElem? (i := 1905) (by decide +kernel), List.mem_of_getElem? (i := 1906) (by decide +kernel)⟩
theorem lw_p177 : lw_okq (⟨"SandHouseModel", "isOften", "(III)Z"⟩, 19) := ⟨⟨by decide +kernel, by decide +kernel⟩, List.mem_of_getElem? (i := 1429) (by decide +kernel), List.mem_of_getElem? (i := 1921) (by decide +kernel), List.mem_of_getElem? (i := 1922) (by decide +kernel)⟩
theorem lw_p178 : lw_okq (⟨"SandHouseModel", "sweepsAll", "()V"⟩, 19) := ⟨⟨by decide +kernel, by decide +kernel⟩, List.mem_of_getElem? (i := 1429) (by decide +kernel), List.mem_of_getElem? (i := 1925) (by decide +kernel), List.mem_of_getElem? (i := 1926) (by decide +kernel)⟩
theorem lw_p179 : lw_okq (⟨"SandHouseModel", "towelOf", "(III)I"⟩, 19) := ⟨⟨by decide +kernel, by decide +kernel⟩, List.mem_of_getElem? (i := 1429) (by decide +kernel), List.mem_of_getElem? (i := 1949) (by decide +kernel), List.mem_of_getElem? (i := 1950) (by decide +kernel)⟩
theorem lw_p180 : lw_okq (⟨"SandHouseModel", "mostOf", "(I)I"⟩, 19) := ⟨⟨by decide +kernel, by decide +kernel⟩, List.mem_of_getElem? (i := 1429) (by decide +kernel), List.mem_of_getElem? (i := 1969) (by decide +kernel), List.mem_of_getElem? (i := 1970) (by decide +kernel)⟩
theorem lw_p181 : lw_okq (⟨"SandHouseModel", "roomIn", "(II)I"⟩, 19) := ⟨⟨by decide +kernel, by decide +kernel⟩, List.mem_of_getElem? (i := 1429) (by decide +kernel), List.mem_of_getElem? (i := 1998) (by decide +kernel), List.mem_of_getElem? (i := 1999) (by decide +kernel)⟩
theorem lw_p182 : lw_okq (⟨"SandHouseModel", "roundTold", "(I)I"⟩, 19) := ⟨⟨by decide +kernel, by decide +kernel⟩, List.mem_of_getElem? (i := 1429) (by decide +kernel), List.mem_of_getElem? (i := 2006) (by decide +kernel), List.mem_of_getElem? (i := 2007) (by decide +kernel)⟩
def lw_privs_12 : List (MethodName × Nat) := [(⟨"SandHouseModel", "noLimit", "(III)Z"⟩, 19), (⟨"SandHouseModel", "isOften", "(III)Z"⟩, 19), (⟨"SandHouseModel", "sweepsAll", "()V"⟩, 19), (⟨"SandHouseModel", "towelOf", "(III)I"⟩, 19), (⟨"SandHouseModel", "mostOf", "(I)I"⟩, 19), (⟨"SandHouseModel", "roomIn", "(II)I"⟩, 19), (⟨"SandHouseModel", "roundTold", "(I)I"⟩, 19)]
theorem lw_r12 : ∀ q ∈ lw_privs_12, lw_okq q := List.forall_mem_cons.mpr ⟨lw_p176, List.forall_mem_cons.mpr ⟨lw_p177, List.forall_mem_cons.mpr ⟨lw_p178, List.forall_mem_cons.mpr ⟨lw_p179, List.forall_mem_cons.mpr ⟨lw_p180, List.forall_mem_cons.mpr ⟨lw_p181, List.forall_mem_cons.mpr ⟨lw_p182, fun _ h => absurd h List.not_mem_nil⟩⟩⟩⟩⟩⟩⟩
def lw_privs : List (MethodName × Nat) := lw_privs_1 ++ (lw_privs_2 ++ (lw_privs_3 ++ (lw_privs_4 ++ (lw_privs_5 ++ (lw_privs_6 ++ (lw_privs_7 ++ (lw_privs_8 ++ (lw_privs_9 ++ (lw_privs_10 ++ (lw_privs_11 ++ (lw_privs_12)))))))))))
def lw_tbl : List Cond := k2_sels lw_privs ++ tables_1
theorem lw_privs_ok : ∀ q ∈ lw_privs, lw_okq q := by
  show ∀ q ∈ lw_privs_1 ++ (lw_privs_2 ++ (lw_privs_3 ++ (lw_privs_4 ++ (lw_privs_5 ++ (lw_privs_6 ++ (lw_privs_7 ++ (lw_privs_8 ++ (lw_privs_9 ++ (lw_privs_10 ++ (lw_privs_11 ++ (lw_privs_12))))))))))), lw_okq q
  exact List.forall_mem_append.mpr ⟨lw_r1, List.forall_mem_append.mpr ⟨lw_r2, List.forall_mem_append.mpr ⟨lw_r3, List.forall_mem_append.mpr ⟨lw_r4, List.forall_mem_append.mpr ⟨lw_r5, List.forall_mem_append.mpr ⟨lw_r6, List.forall_mem_append.mpr ⟨lw_r7, List.forall_mem_append.mpr ⟨lw_r8, List.forall_mem_append.mpr ⟨lw_r9, List.forall_mem_append.mpr ⟨lw_r10, List.forall_mem_append.mpr ⟨lw_r11, lw_r12⟩⟩⟩⟩⟩⟩⟩⟩⟩⟩⟩
end
section
/-! ===== BEGIN words of one list among another's, by their places ===== -/
theorem goodIn_r {big : List Cond} (ws : List Cond) (ps : List Nat) (hp : ws = ps.filterMap (fun i => big[i]?)) (h : ws.all goodWord = true) : GoodIn big ws := by
  intro w hw
  have h1 := List.all_eq_true.mp h w hw
  rw [hp] at hw
  obtain ⟨i, -, hi⟩ := List.mem_filterMap.mp hw
  have hm : w ∈ big := by first | exact List.mem_of_getElem? hi | exact List.getElem?_mem hi
  exact ⟨hm, good_of_word h1⟩
theorem goodIn_app {big a b : List Cond} (ha : GoodIn big a) (hb : GoodIn big b) : GoodIn big (a ++ b) := fun w h => (List.mem_append.mp h).elim (ha w) (hb w)
theorem goodIn_ca {big a b : List Cond} {c : Cond} (ha : GoodIn big (c :: a)) (hb : GoodIn big b) : GoodIn big (c :: (a ++ b)) := fun w h => (List.mem_cons.mp h).elim (fun e => ha w (List.mem_cons.mpr (Or.inl e))) (fun h => (List.mem_append.mp h).elim (fun h => ha w (List.mem_cons.mpr (Or.inr h))) (hb w))
theorem goodIn_sub {big ws : List Cond} (hm : ∀ w ∈ ws, w ∈ big) (h : ws.all goodWord = true) : GoodIn big ws := fun w hw => ⟨hm w hw, good_of_word (List.all_eq_true.mp h w hw)⟩
/-! ===== END ===== -/

/-! ===== BEGIN exceptions that leave a method, and their catching by the caller (launches without stack traces) ===== -/
section VXA
/-! The laws vx_back, vx_callV, vx_callS, vx_callSW, vx_throw0, vx_throwS follow proofs of the library, with one case more: JvmDerived/Free/Laws.lean (Back.of_free), Shelf42/LK1.lean (callV, callS), Shelf/KitTraced.lean (throwNew0V, throwNewS). -/
/-- where a method has thrown q: the class by its name, the cell, what was written, the world -/
def vx_T (XC : String → State → State → Prop) (st : State) (q : Addr) (t : State) (mc ms : Nat) (free : Addr → Prop) : Prop :=
  ∃ (E : String) (ce : Cell) (L : List Loc), XC E st t ∧ t.heap[q]? = some ce ∧ ce.vm = .none ∧ st.vm.findClass E = some ce.cls ∧ st.WarmedH t.vm ∧ st.sameButNew ({ t with vm := st.vm } : State) L mc ms ∧ ∀ z ∈ L, free z.base
def vx_Q (Qc : Array Value → State → Outcome → State → Prop) (XC : String → State → State → Prop) (mc ms : Nat) (free : Addr → Prop) : Array Value → State → Outcome → State → Prop := fun a st o t =>
  (Qc a st o t ∧ ∃ L, FrameEnd st o t L mc ms ∧ ∀ q ∈ L, free q.base) ∨ ∃ q, o = .threw q ∧ vx_T XC st q t mc ms free
/-- a callee that returns or throws -/
def vx_Met (l : Launch) (y : MethodName) (ws : List Cond) (rm : Room) (Pc : Array Value → State → Prop) (Qc : Array Value → State → Outcome → State → Prop) (XC : String → State → State → Prop) (mc ms : Nat) (free : Addr → Prop) : Prop :=
  MetFree l y (headSpec ws rm) Pc (fun _ _ _ _ _ => True) (vx_Q Qc XC mc ms free)
def vx_Post (XC : String → State → State → Prop) (mc ms : Nat) (free : Addr → Prop) : Pt → Array Value → Addr → Pt → Prop := fun A a q B =>
  ∃ (g : JFrame) (mk : MethodId) (t : State) (L : List Loc) (E : String) (ce : Cell), B.U.heap = t.heap ∧ B.U.vm = t.vm ∧ XC E (A.U.calling g mk a) t ∧ t.heap[q]? = some ce ∧ ce.vm = .none ∧ A.U.vm.findClass E = some ce.cls ∧ B.locs = A.locs ++ L ∧ (∀ z ∈ L, free z.base) ∧ B.cells = A.cells + mc ∧ B.slots = A.slots + ms
def vx_Back (l : Launch) (R : Room) (p : Program) (e : Env) (below : List Frame) (s : State) (sargs : Array Value) (y : MethodName) (len W9 : Nat)
    (Pre : Pt → Array Value → Prop) (Post : Pt → Array Value → Option Value → Pt → Prop) (PostX : Pt → Array Value → Addr → Pt → Prop) : Prop :=
  ∀ (m : MethodId) (meth : Method) (c : Code) (A : Pt) (g : JFrame) (ig : Instr) (mk : MethodId) (a : Array Value),
    Stand p l e R s m sargs below meth c A.U A.locs A.cells A.slots → g.method = m → g.locals.size = c.maxLocals → decode c.code g.pc = .ok (ig, len) →
    2 * g.monitorRoom + (g.stack.map fun v => v.category).sum ≤ W9 → A.U.methodNamed? y = some mk → Pre A a →
    (∃ (v : Option Value) (B : Pt), Stand p l e R s m sargs below meth c B.U B.locs B.cells B.slots ∧ Post A a v B ∧
      Steps p.tables e below (doInvoke e (A.U.setTop g) [] mk a).1 (B.U.setTop { g with pc := g.pc + len, stack := v.toList ++ g.stack })) ∨
    (∃ (q : Addr) (B : Pt), Stand p l e R s m sargs below meth c B.U B.locs B.cells B.slots ∧ PostX A a q B ∧
      Steps p.tables e below (doInvoke e (A.U.setTop g) [] mk a).1 ((B.U.setTop g).pushFrame (.throwing q)))
section Payer
variable {l : Launch} {R : Room} {p : Program} {e : Env} {below : List Frame} {s : State} {sargs : Array Value} {y : MethodName} {len W9 : Nat}
theorem vx_back {ws : List Cond} {rm : Room} {Pc : Array Value → State → Prop} {Qc : Array Value → State → Outcome → State → Prop} {XC : String → State → State → Prop} {mc ms : Nat} {free : Addr → Prop} {bytes : ByteArray} {maxL : Nat} {ret : Option FieldType}
    (hM : vx_Met l y ws rm Pc Qc XC mc ms free) (hblind : FrameBlind Pc) (hrc : rm.cells = mc) (hrs : rm.slots = ms)
    (hframes : rm.frames + 1 ≤ R.frames) (hlocals : W9 + (maxL + 11) + rm.locals ≤ R.locals)
    (hws : ∀ w ∈ ws, ∀ a' U, s.WarmedH U.vm → w.before a' U = true) (hcode : Cond.code y bytes maxL ret ∈ ws) (hinit : ∀ a' U, s.WarmedH U.vm → (Cond.initialized y.cls).before a' U = true) :
    vx_Back l R p e below s sargs y len W9 (PreOf R mc ms Pc) (PostOf Qc mc ms free) (vx_Post XC mc ms free) := by
  intro m meth c A g ig mk a X hg hsize hdg hW hn hp
  have h1 : (headSpec ws rm).pre.before a A.U = true := atoms_intro fun w hw => hws w hw _ _ X.warmed
  have h2 : (Cond.code y bytes maxL ret).before a A.U = true := hws _ hcode _ _ X.warmed
  have h3 : (Cond.initialized y.cls).before a A.U = true := hinit _ _ X.warmed
  have h4 : A.cells + (headSpec ws rm).room.cells ≤ R.cells := by rw [show (headSpec ws rm).room.cells = mc from hrc]; exact hp.1
  have h5 : A.slots + (headSpec ws rm).room.slots ≤ R.slots := by rw [show (headSpec ws rm).room.slots = ms from hrs]; exact hp.2.1
  have hPc : Pc a (A.U.calling g mk a) := hblind _ _ _ _ hp.2.2
  obtain ⟨U, Ls, c0, s0⟩ := A
  dsimp only [Pt.U, Pt.locs, Pt.cells, Pt.slots] at h1 h2 h3 h4 h5 X hn hPc ⊢
  obtain ⟨methY, cY, hmY, hcY, -, hlY, -, -, -, -⟩ := Cond.code_spec hn h2
  obtain ⟨kY, hkY, -⟩ := className_of_methodNamed hn
  have hinitY : kY.init = .initialized := Cond.initialized_spec (findClass_of_methodNamed hn) hkY h3
  have h : At U g.method c below := by rw [hg]; exact X.here
  have hlocals9 : W9 + (maxL + 11) + (headSpec ws rm).room.locals ≤ R.locals := hlocals
  have happ : (headSpec ws rm).appliesLoose y e.platform (U.calling g mk a) = true :=
    Spec.appliesLoose_calling (g := g) h hdg hn hkY hinitY
      (X.room_calling (g := g) (R' := (headSpec ws rm).room) hsize hmY hcY hframes (by rw [hlY]; omega) h4 h5) h1
  obtain ⟨mid, hmid⟩ := h.above
  have hfr : (U.setTop g).frames = (.java g :: mid) ++ below := by rw [State.frames_setTop' g h.top, hmid]; rfl
  obtain ⟨o, s₂, hsteps, -, hend, hq⟩ := Steps.callFree hM p X.admits X.cas X.clock (acts := []) hfr happ hPc trivial
  have hq' : vx_Q Qc XC mc ms free a (U.calling g mk a) o s₂ := hq
  rw [State.frames_setTop' g h.top] at hend
  obtain ⟨g₀, hg0⟩ := Option.isSome_iff_exists.mp h.top
  obtain ⟨r, hr⟩ := State.topJava?_eq_some.mp hg0
  have hr' : (({ U with heap := s₂.heap, slotsUsed := s₂.slotsUsed } : State).setVm s₂.vm).frames = .java g₀ :: r := hr
  rcases hq' with ⟨hqc, L, hfe, hL⟩ | ⟨q, rfl, E, ce, L, hx, hce, hcv, hcl, hW₂, hsm, hL⟩
  · obtain ⟨⟨v, rfl⟩, hW₂, e2, q2, q3, q4, q5, q6⟩ := id hfe
    have e3 : s₂ = ({ (U.calling g mk a).setFrames s₂.frames with heap := s₂.heap, slotsUsed := s₂.slotsUsed } : State).setVm s₂.vm := by
      have : s₂ = ({ s₂ with vm := (U.calling g mk a).vm } : State).setVm s₂.vm := rfl
      rw [e2] at this
      exact this
    obtain ⟨c₂, i₂, len₂, hc₂, hd₂, hf₂⟩ := hend
    have hW' : U.WarmedH s₂.vm := hW₂
    have hcc : c₂ = c := by
      have h1 : s₂.code? g.method = U.code? g.method := by
        rw [State.code?_eq, State.code?_eq, hW'.alike.method?]
      exact Option.some.inj (hc₂.symm.trans (h1.trans h.code))
    subst hcc
    have hlen : len₂ = len := by rw [hdg] at hd₂; cases hd₂; rfl
    subst hlen
    have hs₂ : s₂ = (({ U with heap := s₂.heap, slotsUsed := s₂.slotsUsed } : State).setVm s₂.vm).setTop { g with pc := g.pc + len₂, stack := v.toList ++ g.stack } := by
      refine e3.trans ?_
      rw [hf₂, State.calling_eq h.top, State.setFrames_setFrames, State.setTop_of_frames _ hr', hr]
      rfl
    have hsame : U.sameButNew ({ U with heap := s₂.heap, slotsUsed := s₂.slotsUsed } : State) L mc ms := by
      refine ⟨?_, q2, q3, q4, q5, q6⟩
      obtain ⟨t, ht, -⟩ := State.frames_cons hr
      show ({ U with heap := s₂.heap, slotsUsed := s₂.slotsUsed } : State) = { U.setFrames U.frames with heap := s₂.heap, slotsUsed := s₂.slotsUsed }
      rw [State.setFrames_self ht]
    subst hg
    refine Or.inl ⟨v, ⟨(({ U with heap := s₂.heap, slotsUsed := s₂.slotsUsed } : State).setVm s₂.vm), Ls ++ L, c0 + mc, s0 + ms⟩,
      ⟨X.admits, X.cas, X.clock, X.frames, X.room, X.hears, X.method, X.code, (X.here.setHeapUsed s₂.heap s₂.slotsUsed).setVm hW'.alike, X.tail, State.WarmedH.trans X.warmed hW', X.limits, X.bytes, X.same.trans (hsame.setVm s.vm)⟩,
      ⟨g, mk, s₂, L, rfl, rfl, hqc, rfl, hL, rfl, rfl⟩, ?_⟩
    show Steps p.tables e below _ ((({ U with heap := s₂.heap, slotsUsed := s₂.slotsUsed } : State).setVm s₂.vm).setTop { g with pc := g.pc + len₂, stack := v.toList ++ g.stack })
    rw [← hs₂]
    exact hsteps
  · obtain ⟨e2, q2, q3, q4, q5, q6⟩ := id hsm
    have e3 : s₂ = ({ (U.calling g mk a).setFrames s₂.frames with heap := s₂.heap, slotsUsed := s₂.slotsUsed } : State).setVm s₂.vm := by
      have : s₂ = ({ s₂ with vm := (U.calling g mk a).vm } : State).setVm s₂.vm := rfl
      rw [e2] at this
      exact this
    have hf₂ : s₂.frames = .throwing q :: .java g :: U.frames.tail := hend
    have hW' : U.WarmedH s₂.vm := hW₂
    have hs₂ : s₂ = ((({ U with heap := s₂.heap, slotsUsed := s₂.slotsUsed } : State).setVm s₂.vm).setTop g).pushFrame (.throwing q) := by
      refine e3.trans ?_
      rw [hf₂, State.calling_eq h.top, State.setFrames_setFrames, State.pushFrame, State.frames_setTop _ hr', State.setTop_of_frames _ hr', State.setFrames_setFrames, hr]
      rfl
    have hsame : U.sameButNew ({ U with heap := s₂.heap, slotsUsed := s₂.slotsUsed } : State) L mc ms := by
      refine ⟨?_, q2, q3, q4, q5, q6⟩
      obtain ⟨t, ht, -⟩ := State.frames_cons hr
      show ({ U with heap := s₂.heap, slotsUsed := s₂.slotsUsed } : State) = { U.setFrames U.frames with heap := s₂.heap, slotsUsed := s₂.slotsUsed }
      rw [State.setFrames_self ht]
    subst hg
    refine Or.inr ⟨q, ⟨(({ U with heap := s₂.heap, slotsUsed := s₂.slotsUsed } : State).setVm s₂.vm), Ls ++ L, c0 + mc, s0 + ms⟩,
      ⟨X.admits, X.cas, X.clock, X.frames, X.room, X.hears, X.method, X.code, (X.here.setHeapUsed s₂.heap s₂.slotsUsed).setVm hW'.alike, X.tail, State.WarmedH.trans X.warmed hW', X.limits, X.bytes, X.same.trans (hsame.setVm s.vm)⟩,
      ⟨g, mk, s₂, L, E, ce, rfl, rfl, hx, hce, hcv, hcl, rfl, hL, rfl, rfl⟩, ?_⟩
    show Steps p.tables e below _ (((({ U with heap := s₂.heap, slotsUsed := s₂.slotsUsed } : State).setVm s₂.vm).setTop g).pushFrame (.throwing q))
    rw [← hs₂]
    exact hsteps
end Payer
section Calls
variable {p : Program} {l : Launch} {e : Env} {R : Room} {s : State} {m : MethodId} {args : Array Value} {below : List Frame} {meth : Method} {c : Code} {T : State} {locs : List Loc} {cells slots : Nat}
theorem vx_callV (X : Stand p l e R s m args below meth c T locs cells slots) (hexec : p.tables.exec = Jvm.exec) {own C : String} {index : Nat} {y : MethodName} {bytes : ByteArray} {maxL : Nat} {ret : Option FieldType}
    (hown : s.vm.findClass own = some m.cls) (hlink : (Cond.methodLink own index y).before args s = true) (hinst : (Cond.instanceMethod y).before args s = true) (hsel : (Cond.selects C y y).before args s = true)
    (hcode : (Cond.code y bytes maxL ret).before args s = true) (hy : y.cls ≠ "java/lang/invoke/MethodHandle" ∧ y.cls ≠ "java/lang/invoke/VarHandle")
    {W9 : Nat} {Pre : Pt → Array Value → Prop} {Post : Pt → Array Value → Option Value → Pt → Prop} {PostX : Pt → Array Value → Addr → Pt → Prop} (hK : vx_Back l R p e below s args y 3 W9 Pre Post PostX)
    {b : Addr} {cellB : Cell} (hcell : T.heap[b]? = some cellB) (hobj : cellB.vm.isStatics = false) (hcls : s.vm.findClass C = some cellB.cls)
    {g : JFrame} (hg : g.method = m) (hsize : g.locals.size = c.maxLocals) {argsL rest : List Value} (hlen : ∀ sig, parseMethodDescriptor y.desc = some sig → argsL.length = sig.parameters.length)
    (hstack : g.stack = argsL.reverse ++ .ref b :: rest) (hW : 2 * g.monitorRoom + (rest.map fun v => v.category).sum ≤ W9) (hdg : decode c.code g.pc = .ok (.invokevirtual index, 3))
    (hpre : ∀ vm₁, s.WarmedH vm₁ → Pre ⟨T.setVm vm₁, locs, cells, slots⟩ (Value.ref b :: argsL).toArray) :
    (∃ (v : Option Value) (vm₁ : Vm) (B : Pt), s.WarmedH vm₁ ∧ Stand p l e R s m args below meth c B.U B.locs B.cells B.slots ∧ Post ⟨T.setVm vm₁, locs, cells, slots⟩ (Value.ref b :: argsL).toArray v B ∧
      ∀ target, Steps p.tables e below (B.U.setTop { g with pc := g.pc + 3, stack := v.toList ++ rest }) target → Steps p.tables e below (T.setTop g) target) ∨
    (∃ (q : Addr) (vm₁ : Vm) (B : Pt), s.WarmedH vm₁ ∧ Stand p l e R s m args below meth c B.U B.locs B.cells B.slots ∧ PostX ⟨T.setVm vm₁, locs, cells, slots⟩ (Value.ref b :: argsL).toArray q B ∧
      Steps p.tables e below (T.setTop g) ((B.U.setTop { g with stack := rest }).pushFrame (.throwing q))) := by
  obtain ⟨mk, methM, hnamed, hmethM, hstM, habM⟩ := Cond.instanceMethod_spec hinst
  obtain ⟨methM', cM, hmethM', -, -, -, -, -, -, hsigM⟩ := Cond.code_spec hnamed hcode
  cases hmethM.symm.trans hmethM'
  obtain ⟨c2, r2, m2, q1, q2, q3, q4, kP, hkP, hkPi⟩ := Cond.selects_spec hsel
  cases hcls.symm.trans q1
  cases (State.methodFound?_of_named hnamed hy).symm.trans q2
  cases hnamed.symm.trans q3
  have hselP : selectMethod e.platform s.vm cellB.cls mk = .method mk := by rw [Launch.admits_selectMethod X.admits]; exact q4
  obtain ⟨vm₁, X₁, hstep₁⟩ := X.invokevirtual hexec hown hlink hnamed hmethM hstM hkP hkPi hy (a := b) (cell := cellB) hcell
    (fun z h => by rw [h] at hobj; cases hobj) hselP hmethM habM hkP hkPi (g := g) hg (argsL := argsL) (rest := rest) (hlen _ hsigM) hstack hdg
  rcases hK m meth c ⟨T.setVm vm₁, locs, cells, slots⟩ { g with stack := rest } (.invokevirtual index) mk (Value.ref b :: argsL).toArray X₁ hg hsize hdg hW (X₁.named hnamed) (hpre vm₁ X₁.warmed) with ⟨v, B, X', hpost, hsteps⟩ | ⟨q, B, X', hpost, hsteps⟩
  · exact Or.inl ⟨v, vm₁, B, X₁.warmed, X', hpost, fun target h => hstep₁ _ fun acts => by rw [doInvoke_state]; exact hsteps.trans h⟩
  · exact Or.inr ⟨q, vm₁, B, X₁.warmed, X', hpost, hstep₁ _ fun acts => by rw [doInvoke_state]; exact hsteps⟩
theorem vx_callS (X : Stand p l e R s m args below meth c T locs cells slots) (hexec : p.tables.exec = Jvm.exec) {own : String} {index : Nat} {y : MethodName} {bytes : ByteArray} {maxL : Nat} {ret : Option FieldType}
    (hown : s.vm.findClass own = some m.cls) (hlink : (Cond.methodLink own index y).before args s = true) (hstat : (Cond.static y).before args s = true) (hinit : (Cond.initialized y.cls).before args s = true)
    (hcode : (Cond.code y bytes maxL ret).before args s = true) (hy : y.cls ≠ "java/lang/invoke/MethodHandle" ∧ y.cls ≠ "java/lang/invoke/VarHandle")
    {W9 : Nat} {Pre : Pt → Array Value → Prop} {Post : Pt → Array Value → Option Value → Pt → Prop} {PostX : Pt → Array Value → Addr → Pt → Prop} (hK : vx_Back l R p e below s args y 3 W9 Pre Post PostX)
    {g : JFrame} (hg : g.method = m) (hsize : g.locals.size = c.maxLocals) {argsL rest : List Value} (hlen : ∀ sig, parseMethodDescriptor y.desc = some sig → argsL.length = sig.parameters.length)
    (hstack : g.stack = argsL.reverse ++ rest) (hW : 2 * g.monitorRoom + (rest.map fun v => v.category).sum ≤ W9) (hdg : decode c.code g.pc = .ok (.invokestatic index, 3))
    (hpre : ∀ vm₁, s.WarmedH vm₁ → Pre ⟨T.setVm vm₁, locs, cells, slots⟩ argsL.toArray) :
    (∃ (v : Option Value) (vm₁ : Vm) (B : Pt), s.WarmedH vm₁ ∧ Stand p l e R s m args below meth c B.U B.locs B.cells B.slots ∧ Post ⟨T.setVm vm₁, locs, cells, slots⟩ argsL.toArray v B ∧
      ∀ target, Steps p.tables e below (B.U.setTop { g with pc := g.pc + 3, stack := v.toList ++ rest }) target → Steps p.tables e below (T.setTop g) target) ∨
    (∃ (q : Addr) (vm₁ : Vm) (B : Pt), s.WarmedH vm₁ ∧ Stand p l e R s m args below meth c B.U B.locs B.cells B.slots ∧ PostX ⟨T.setVm vm₁, locs, cells, slots⟩ argsL.toArray q B ∧
      Steps p.tables e below (T.setTop g) ((B.U.setTop { g with stack := rest }).pushFrame (.throwing q))) := by
  obtain ⟨mk, hnamed⟩ := Cond.code_named hcode
  obtain ⟨methM, cM, hmethM, -, -, -, -, -, -, hsigM⟩ := Cond.code_spec hnamed hcode
  have hstatic : methM.isStatic = true := Cond.static_spec hnamed hmethM hstat
  obtain ⟨kP, hkP, -⟩ := className_of_methodNamed hnamed
  have hinitP : kP.init = .initialized := Cond.initialized_spec (findClass_of_methodNamed hnamed) hkP hinit
  obtain ⟨vm₁, X₁, hstep₁⟩ := X.invokestatic hexec hown hlink hnamed hmethM hstatic hkP hinitP hy (g := g) hg (argsL := argsL) (rest := rest) (hlen _ hsigM) hstack hdg
  rcases hK m meth c ⟨T.setVm vm₁, locs, cells, slots⟩ { g with stack := rest } (.invokestatic index) mk argsL.toArray X₁ hg hsize hdg hW (X₁.named hnamed) (hpre vm₁ X₁.warmed) with ⟨v, B, X', hpost, hsteps⟩ | ⟨q, B, X', hpost, hsteps⟩
  · exact Or.inl ⟨v, vm₁, B, X₁.warmed, X', hpost, fun target h => hstep₁ _ fun acts => by rw [doInvoke_state]; exact hsteps.trans h⟩
  · exact Or.inr ⟨q, vm₁, B, X₁.warmed, X', hpost, hstep₁ _ fun acts => by rw [doInvoke_state]; exact hsteps⟩
end Calls
theorem vx_cls {s : State} {T : State} {vm₁ : Vm} {E : String} {k : ClassId} (hW : s.WarmedH vm₁) (h : (T.setVm vm₁).vm.findClass E = some k) : s.vm.findClass E = some k := by
  have h1 : vm₁.findClass E = some k := h
  rw [hW.alike.findClass] at h1
  exact h1
/-- the method's frame g, with q thrown over it -/
def vx_W (p : Program) (l : Launch) (e : Env) (R : Room) (s : State) (m : MethodId) (args : Array Value) (below : List Frame) (meth : Method) (c : Code) (H : Heap) (locs : List Loc) (cells slots : Nat) (Q : State → Prop) (g : JFrame) (q : Addr) : Prop :=
  ∀ T : State, T.heap = H → Stand p l e R s m args below meth c T locs cells slots → ∃ t, Steps p.tables e below ((T.setTop g).pushFrame (.throwing q)) t ∧ Q t
def vx_Run (p : Program) (l : Launch) (e : Env) (R : Room) (s : State) (m : MethodId) (args : Array Value) (below : List Frame) (meth : Method) (c : Code) (H : Heap) (locs : List Loc) (cells slots mc ms : Nat) (g : JFrame) (rest : List Value) (Qa : State → Outcome → State → Prop) (XC : String → State → State → Prop) (free : Addr → Prop) : Prop :=
  ∀ T : State, T.heap = H → Stand p l e R s m args below meth c T locs cells slots →
    (∃ (v : Option Value) (st₀ t T' : State) (L : List Loc), st₀.heap = H ∧ Stand p l e R s m args below meth c T' (locs ++ L) (cells + mc) (slots + ms) ∧ (∀ q ∈ L, free q.base) ∧ T'.heap = t.heap ∧ T'.vm = t.vm ∧ Qa st₀ (.returned v) t ∧
      Goes p e below T g T' { g with pc := g.pc + 3, stack := v.toList ++ rest }) ∨
    (∃ (q : Addr) (st₀ t T' : State) (L : List Loc) (E : String) (ce : Cell), st₀.heap = H ∧ Stand p l e R s m args below meth c T' (locs ++ L) (cells + mc) (slots + ms) ∧ (∀ z ∈ L, free z.base) ∧ T'.heap = t.heap ∧ T'.vm = t.vm ∧ XC E st₀ t ∧ t.heap[q]? = some ce ∧ ce.vm = .none ∧ s.vm.findClass E = some ce.cls ∧
      Steps p.tables e below (T.setTop g) ((T'.setTop { g with stack := rest }).pushFrame (.throwing q)))
def vx_X {S : Type} (px : S → Prop) (B : String → S → State → Prop) (A : Nat → Prop) : String → State → State → Prop := fun E st t => ∃ u : S, px u ∧ B E u t ∧ va_F A st t
section Runs
variable {p : Program} {l : Launch} {e : Env} {R : Room} {s : State} {m : MethodId} {args : Array Value} {below : List Frame} {meth : Method} {c : Code} {H : Heap} {locs : List Loc} {cells slots : Nat}
variable {y : MethodName} {bytes cc : ByteArray} {maxL nL mc ms n index : Nat} {ret : Option FieldType} {ws : List Cond} {rm : Room} {Pc : Array Value → State → Prop} {Qc : Array Value → State → Outcome → State → Prop} {XC : String → State → State → Prop} {free : Addr → Prop} {Ts : List Cond} {own C : String} {b : Addr} {As rest : List Value} {g : JFrame}
theorem vx_callBack (cb : CallB R s args own index y bytes maxL ret ws rm mc ms n) (hM : vx_Met l y ws rm Pc Qc XC mc ms free) (hbl : FrameBlind Pc) : vx_Back l R p e below s args y 3 8 (PreOf R mc ms Pc) (PostOf Qc mc ms free) (vx_Post XC mc ms free) := by
  obtain ⟨hrc, hrs, hfr, hlo, hws, hcw, -, hini, -⟩ := cb
  exact vx_back (bytes := bytes) (maxL := maxL) (ret := ret) hM hbl hrc hrs hfr hlo hws hcw (fun a' U hW => word_at hW (Or.inl (by first | rfl | simp [Cond.onTables, Cond.keeps, Cond.steady])) hini)
theorem vx_runV (S : CallFix p m c cc nL s args Ts own) (hM : vx_Met l y ws rm Pc Qc XC mc ms free) (cw : CallW R s args own C index y bytes maxL ret ws rm mc ms n) (hp : PreV s H C b Pc As)
    (hg : g.method = m) (hn : As.length = n) (hsize : g.locals.size = nL) (hstack : g.stack = As.reverse ++ .ref b :: rest) (hW : 2 * g.monitorRoom + (rest.map fun v => v.category).sum ≤ 8) (hdg : decode cc g.pc = .ok (.invokevirtual index, 3)) (hf : cells + mc ≤ R.cells ∧ slots + ms ≤ R.slots) :
    vx_Run p l e R s m args below meth c H locs cells slots mc ms g rest (Qc (Value.ref b :: As).toArray) XC free := by
  have hK : vx_Back l R p e below s args y 3 8 (PreOf R mc ms Pc) (PostOf Qc mc ms free) (vx_Post XC mc ms free) := vx_callBack cw.1 hM hp.1
  obtain ⟨⟨-, -, -, -, -, -, hcode, -, hy, hlen, hl⟩, hin, hse⟩ := cw
  obtain ⟨hx, hb, hml, ho, -⟩ := S
  obtain ⟨-, ⟨cellB, hcB, hoB, hclB⟩, hPc⟩ := hp
  intro T hT X
  rcases vx_callV X hx (C := C) (bytes := bytes) (maxL := maxL) (ret := ret) ho hl hin hse hcode hy hK (by rw [hT]; exact hcB) hoB hclB hg (hsize.trans hml.symm) (argsL := As) (rest := rest) (fun sig h => hn.trans (hlen sig h)) hstack hW (by rw [hb]; exact hdg)
    (fun vm₁ hW₁ => ⟨hf.1, hf.2, hPc (T.setVm vm₁) hT hW₁⟩) with ⟨v, vm₁, ⟨U', l2, c2, s2⟩, hW₁, X', ⟨g', mk, t, L, e1, e2, hq, h1, hL, h2, h3⟩, st⟩ | ⟨q, vm₁, ⟨U', l2, c2, s2⟩, hW₁, X', ⟨g', mk, t, L, E, ce, e1, e2, hq, hce, hcv, hcl, h1, hL, h2, h3⟩, st⟩
  · dsimp only [Pt.U, Pt.locs, Pt.cells, Pt.slots] at X' e1 e2 h1 h2 h3 st
    subst h1; subst h2; subst h3
    exact Or.inl ⟨v, (T.setVm vm₁).calling g' mk (Value.ref b :: As).toArray, t, U', L, hT, X', hL, e1, e2, hq, st⟩
  · dsimp only [Pt.U, Pt.locs, Pt.cells, Pt.slots] at X' e1 e2 h1 h2 h3 st hcl
    subst h1; subst h2; subst h3
    exact Or.inr ⟨q, (T.setVm vm₁).calling g' mk (Value.ref b :: As).toArray, t, U', L, E, ce, hT, X', hL, e1, e2, hq, hce, hcv, vx_cls hW₁ hcl, st⟩
theorem vx_runS (S : CallFix p m c cc nL s args Ts own) (hM : vx_Met l y ws rm Pc Qc XC mc ms free) (cw : CallB R s args own index y bytes maxL ret ws rm mc ms n ∧ (Cond.static y).before args s = true) (hp : PreS s H Pc As)
    (hg : g.method = m) (hn : As.length = n) (hsize : g.locals.size = nL) (hstack : g.stack = As.reverse ++ rest) (hW : 2 * g.monitorRoom + (rest.map fun v => v.category).sum ≤ 8) (hdg : decode cc g.pc = .ok (.invokestatic index, 3)) (hf : cells + mc ≤ R.cells ∧ slots + ms ≤ R.slots) :
    vx_Run p l e R s m args below meth c H locs cells slots mc ms g rest (Qc As.toArray) XC free := by
  have hK : vx_Back l R p e below s args y 3 8 (PreOf R mc ms Pc) (PostOf Qc mc ms free) (vx_Post XC mc ms free) := vx_callBack cw.1 hM hp.1
  obtain ⟨⟨-, -, -, -, -, -, hcode, hini, hy, hlen, hl⟩, hstt⟩ := cw
  obtain ⟨hx, hb, hml, ho, -⟩ := S
  intro T hT X
  rcases vx_callS X hx (bytes := bytes) (maxL := maxL) (ret := ret) ho hl hstt hini hcode hy hK hg (hsize.trans hml.symm) (argsL := As) (rest := rest) (fun sig h => hn.trans (hlen sig h)) hstack hW (by rw [hb]; exact hdg)
    (fun vm₁ hW₁ => ⟨hf.1, hf.2, hp.2 (T.setVm vm₁) hT hW₁⟩) with ⟨v, vm₁, ⟨U', l2, c2, s2⟩, hW₁, X', ⟨g', mk, t, L, e1, e2, hq, h1, hL, h2, h3⟩, st⟩ | ⟨q, vm₁, ⟨U', l2, c2, s2⟩, hW₁, X', ⟨g', mk, t, L, E, ce, e1, e2, hq, hce, hcv, hcl, h1, hL, h2, h3⟩, st⟩
  · dsimp only [Pt.U, Pt.locs, Pt.cells, Pt.slots] at X' e1 e2 h1 h2 h3 st
    subst h1; subst h2; subst h3
    exact Or.inl ⟨v, (T.setVm vm₁).calling g' mk As.toArray, t, U', L, hT, X', hL, e1, e2, hq, st⟩
  · dsimp only [Pt.U, Pt.locs, Pt.cells, Pt.slots] at X' e1 e2 h1 h2 h3 st hcl
    subst h1; subst h2; subst h3
    exact Or.inr ⟨q, (T.setVm vm₁).calling g' mk As.toArray, t, U', L, E, ce, hT, X', hL, e1, e2, hq, hce, hcv, vx_cls hW₁ hcl, st⟩
end Runs
section Rows
variable {p : Program} {l : Launch} {e : Env} {R : Room} {s : State} {m : MethodId} {args : Array Value} {below : List Frame} {meth : Method} {c : Code} {H : Heap} {locs : List Loc} {cells slots : Nat} {Q : State → Prop}
variable {mc ms : Nat} {free : Addr → Prop} {A0 A1 : Nat → Prop} {H0 : Heap} {a : Array Value} {pc : Nat} {ls : Array Slot} {st0 rest : List Value}
theorem vx_keep {st₀ t T' : State} {L : List Loc} (h0 : st₀.heap = H) (e1 : T'.heap = t.heap) (hS : va_S A0 H0 H locs) (hA : ∀ q, q < H.size → A1 q → A0 q) (hf : ∀ q, free q → A0 q) (hL : ∀ q ∈ L, free q.base) (hF : va_F A1 st₀ t) :
    H.size ≤ T'.heap.size ∧ (∀ q : Nat, q < H.size → ¬ A1 q → T'.heap[q]? = H[q]?) ∧ va_S A0 H0 T'.heap (locs ++ L) := by
  obtain ⟨hz, hk⟩ := hF
  rw [h0] at hz hk
  exact ⟨by rw [e1]; exact hz, fun q h1 h2 => by rw [e1]; exact hk q h1 h2,
    ⟨Nat.le_trans hS.1 (by rw [e1]; exact hz), fun q h1 h2 => by rw [e1, hk q (Nat.lt_of_lt_of_le h1 hS.1) (fun z => h2 (hA q (Nat.lt_of_lt_of_le h1 hS.1) z))]; exact hS.2.1 q h1 h2, fun q hq => by
      rcases List.mem_append.mp hq with h | h
      · exact hS.2.2 q h
      · exact hf _ (hL q h)⟩⟩
theorem vx_calli {S SX : Type} {post : Int32 → S → Prop} {px : SX → Prop} {B : S → State → Prop} {BX : String → SX → State → Prop} {AX : Nat → Prop} (hr : vx_Run p l e R s m args below meth c H locs cells slots mc ms (F0 m pc ls st0) rest (va_Qi post B A1 a) (vx_X px BX AX) free) (hS : va_S A0 H0 H locs) (hA : ∀ q, q < H.size → A1 q → A0 q) (hf : ∀ q, free q → A0 q) (hAX : ∀ q, q < H.size → AX q → A0 q)
    (kx : ∀ (E : String) (ce : Cell) (q9 : Addr) (u : SX) (t : State) (H1 : Heap) (locs1 : List Loc), t.heap = H1 → s.vm.Alike t.vm → px u → BX E u t → H.size ≤ H1.size → (∀ q : Nat, q < H.size → ¬ AX q → H1[q]? = H[q]?) → va_S A0 H0 H1 locs1 → H1[q9]? = some ce → ce.vm = .none → s.vm.findClass E = some ce.cls → vx_W p l e R s m args below meth c H1 locs1 (cells + mc) (slots + ms) Q (F0 m pc ls rest) q9)
    (kk : ∀ (r : Int32) (u : S) (t : State) (H1 : Heap) (locs1 : List Loc), t.heap = H1 → s.vm.Alike t.vm → post r u → B u t → H.size ≤ H1.size → (∀ q : Nat, q < H.size → ¬ A1 q → H1[q]? = H[q]?) → va_S A0 H0 H1 locs1 → W p l e R s m args below meth c H1 locs1 (cells + mc) (slots + ms) Q (F0 m (pc + 3) ls (.int r :: rest))) : W p l e R s m args below meth c H locs cells slots Q (F0 m pc ls st0) := by
  intro T hT X
  rcases hr T hT X with ⟨v, st₀, t, T', L, h0, X', hL, e1, e2, ⟨⟨r, u, hv, hp, hb⟩, hF⟩, st⟩ | ⟨q, st₀, t, T', L, E, ce, h0, X', hL, e1, e2, ⟨u, hp, hb, hF⟩, hce, hcv, hcl, st⟩
  · cases hv
    obtain ⟨k1, k2, k3⟩ := vx_keep h0 e1 hS hA hf hL hF
    obtain ⟨t2, a1, b1⟩ := kk r u t T'.heap (locs ++ L) e1.symm (by rw [← e2]; exact X'.warmed.alike) hp hb k1 k2 k3 T' rfl X'
    exact ⟨t2, st t2 a1, b1⟩
  · obtain ⟨k1, k2, k3⟩ := vx_keep h0 e1 hS hAX hf hL hF
    obtain ⟨t2, a1, b1⟩ := kx E ce q u t T'.heap (locs ++ L) e1.symm (by rw [← e2]; exact X'.warmed.alike) hp hb k1 k2 k3 (by rw [e1]; exact hce) hcv hcl T' rfl X'
    exact ⟨t2, st.trans a1, b1⟩
theorem vx_calll {S SX : Type} {post : Int64 → S → Prop} {px : SX → Prop} {B : S → State → Prop} {BX : String → SX → State → Prop} {AX : Nat → Prop} (hr : vx_Run p l e R s m args below meth c H locs cells slots mc ms (F0 m pc ls st0) rest (va_Ql post B A1 a) (vx_X px BX AX) free) (hS : va_S A0 H0 H locs) (hA : ∀ q, q < H.size → A1 q → A0 q) (hf : ∀ q, free q → A0 q) (hAX : ∀ q, q < H.size → AX q → A0 q)
    (kx : ∀ (E : String) (ce : Cell) (q9 : Addr) (u : SX) (t : State) (H1 : Heap) (locs1 : List Loc), t.heap = H1 → s.vm.Alike t.vm → px u → BX E u t → H.size ≤ H1.size → (∀ q : Nat, q < H.size → ¬ AX q → H1[q]? = H[q]?) → va_S A0 H0 H1 locs1 → H1[q9]? = some ce → ce.vm = .none → s.vm.findClass E = some ce.cls → vx_W p l e R s m args below meth c H1 locs1 (cells + mc) (slots + ms) Q (F0 m pc ls rest) q9)
    (kk : ∀ (r : Int64) (u : S) (t : State) (H1 : Heap) (locs1 : List Loc), t.heap = H1 → s.vm.Alike t.vm → post r u → B u t → H.size ≤ H1.size → (∀ q : Nat, q < H.size → ¬ A1 q → H1[q]? = H[q]?) → va_S A0 H0 H1 locs1 → W p l e R s m args below meth c H1 locs1 (cells + mc) (slots + ms) Q (F0 m (pc + 3) ls (.long r :: rest))) : W p l e R s m args below meth c H locs cells slots Q (F0 m pc ls st0) := by
  intro T hT X
  rcases hr T hT X with ⟨v, st₀, t, T', L, h0, X', hL, e1, e2, ⟨⟨r, u, hv, hp, hb⟩, hF⟩, st⟩ | ⟨q, st₀, t, T', L, E, ce, h0, X', hL, e1, e2, ⟨u, hp, hb, hF⟩, hce, hcv, hcl, st⟩
  · cases hv
    obtain ⟨k1, k2, k3⟩ := vx_keep h0 e1 hS hA hf hL hF
    obtain ⟨t2, a1, b1⟩ := kk r u t T'.heap (locs ++ L) e1.symm (by rw [← e2]; exact X'.warmed.alike) hp hb k1 k2 k3 T' rfl X'
    exact ⟨t2, st t2 a1, b1⟩
  · obtain ⟨k1, k2, k3⟩ := vx_keep h0 e1 hS hAX hf hL hF
    obtain ⟨t2, a1, b1⟩ := kx E ce q u t T'.heap (locs ++ L) e1.symm (by rw [← e2]; exact X'.warmed.alike) hp hb k1 k2 k3 (by rw [e1]; exact hce) hcv hcl T' rfl X'
    exact ⟨t2, st.trans a1, b1⟩
theorem vx_callf {S SX : Type} {post : UInt32 → S → Prop} {px : SX → Prop} {B : S → State → Prop} {BX : String → SX → State → Prop} {AX : Nat → Prop} (hr : vx_Run p l e R s m args below meth c H locs cells slots mc ms (F0 m pc ls st0) rest (va_Qf post B A1 a) (vx_X px BX AX) free) (hS : va_S A0 H0 H locs) (hA : ∀ q, q < H.size → A1 q → A0 q) (hf : ∀ q, free q → A0 q) (hAX : ∀ q, q < H.size → AX q → A0 q)
    (kx : ∀ (E : String) (ce : Cell) (q9 : Addr) (u : SX) (t : State) (H1 : Heap) (locs1 : List Loc), t.heap = H1 → s.vm.Alike t.vm → px u → BX E u t → H.size ≤ H1.size → (∀ q : Nat, q < H.size → ¬ AX q → H1[q]? = H[q]?) → va_S A0 H0 H1 locs1 → H1[q9]? = some ce → ce.vm = .none → s.vm.findClass E = some ce.cls → vx_W p l e R s m args below meth c H1 locs1 (cells + mc) (slots + ms) Q (F0 m pc ls rest) q9)
    (kk : ∀ (r : UInt32) (u : S) (t : State) (H1 : Heap) (locs1 : List Loc), t.heap = H1 → s.vm.Alike t.vm → post r u → B u t → H.size ≤ H1.size → (∀ q : Nat, q < H.size → ¬ A1 q → H1[q]? = H[q]?) → va_S A0 H0 H1 locs1 → W p l e R s m args below meth c H1 locs1 (cells + mc) (slots + ms) Q (F0 m (pc + 3) ls (.float r :: rest))) : W p l e R s m args below meth c H locs cells slots Q (F0 m pc ls st0) := by
  intro T hT X
  rcases hr T hT X with ⟨v, st₀, t, T', L, h0, X', hL, e1, e2, ⟨⟨r, u, hv, hp, hb⟩, hF⟩, st⟩ | ⟨q, st₀, t, T', L, E, ce, h0, X', hL, e1, e2, ⟨u, hp, hb, hF⟩, hce, hcv, hcl, st⟩
  · cases hv
    obtain ⟨k1, k2, k3⟩ := vx_keep h0 e1 hS hA hf hL hF
    obtain ⟨t2, a1, b1⟩ := kk r u t T'.heap (locs ++ L) e1.symm (by rw [← e2]; exact X'.warmed.alike) hp hb k1 k2 k3 T' rfl X'
    exact ⟨t2, st t2 a1, b1⟩
  · obtain ⟨k1, k2, k3⟩ := vx_keep h0 e1 hS hAX hf hL hF
    obtain ⟨t2, a1, b1⟩ := kx E ce q u t T'.heap (locs ++ L) e1.symm (by rw [← e2]; exact X'.warmed.alike) hp hb k1 k2 k3 (by rw [e1]; exact hce) hcv hcl T' rfl X'
    exact ⟨t2, st.trans a1, b1⟩
theorem vx_calld {S SX : Type} {post : UInt64 → S → Prop} {px : SX → Prop} {B : S → State → Prop} {BX : String → SX → State → Prop} {AX : Nat → Prop} (hr : vx_Run p l e R s m args below meth c H locs cells slots mc ms (F0 m pc ls st0) rest (va_Qd post B A1 a) (vx_X px BX AX) free) (hS : va_S A0 H0 H locs) (hA : ∀ q, q < H.size → A1 q → A0 q) (hf : ∀ q, free q → A0 q) (hAX : ∀ q, q < H.size → AX q → A0 q)
    (kx : ∀ (E : String) (ce : Cell) (q9 : Addr) (u : SX) (t : State) (H1 : Heap) (locs1 : List Loc), t.heap = H1 → s.vm.Alike t.vm → px u → BX E u t → H.size ≤ H1.size → (∀ q : Nat, q < H.size → ¬ AX q → H1[q]? = H[q]?) → va_S A0 H0 H1 locs1 → H1[q9]? = some ce → ce.vm = .none → s.vm.findClass E = some ce.cls → vx_W p l e R s m args below meth c H1 locs1 (cells + mc) (slots + ms) Q (F0 m pc ls rest) q9)
    (kk : ∀ (r : UInt64) (u : S) (t : State) (H1 : Heap) (locs1 : List Loc), t.heap = H1 → s.vm.Alike t.vm → post r u → B u t → H.size ≤ H1.size → (∀ q : Nat, q < H.size → ¬ A1 q → H1[q]? = H[q]?) → va_S A0 H0 H1 locs1 → W p l e R s m args below meth c H1 locs1 (cells + mc) (slots + ms) Q (F0 m (pc + 3) ls (.double r :: rest))) : W p l e R s m args below meth c H locs cells slots Q (F0 m pc ls st0) := by
  intro T hT X
  rcases hr T hT X with ⟨v, st₀, t, T', L, h0, X', hL, e1, e2, ⟨⟨r, u, hv, hp, hb⟩, hF⟩, st⟩ | ⟨q, st₀, t, T', L, E, ce, h0, X', hL, e1, e2, ⟨u, hp, hb, hF⟩, hce, hcv, hcl, st⟩
  · cases hv
    obtain ⟨k1, k2, k3⟩ := vx_keep h0 e1 hS hA hf hL hF
    obtain ⟨t2, a1, b1⟩ := kk r u t T'.heap (locs ++ L) e1.symm (by rw [← e2]; exact X'.warmed.alike) hp hb k1 k2 k3 T' rfl X'
    exact ⟨t2, st t2 a1, b1⟩
  · obtain ⟨k1, k2, k3⟩ := vx_keep h0 e1 hS hAX hf hL hF
    obtain ⟨t2, a1, b1⟩ := kx E ce q u t T'.heap (locs ++ L) e1.symm (by rw [← e2]; exact X'.warmed.alike) hp hb k1 k2 k3 (by rw [e1]; exact hce) hcv hcl T' rfl X'
    exact ⟨t2, st.trans a1, b1⟩
theorem vx_callv {S SX : Type} {post : S → Prop} {px : SX → Prop} {B : S → State → Prop} {BX : String → SX → State → Prop} {AX : Nat → Prop} (hr : vx_Run p l e R s m args below meth c H locs cells slots mc ms (F0 m pc ls st0) rest (va_Qv post B A1 a) (vx_X px BX AX) free) (hS : va_S A0 H0 H locs) (hA : ∀ q, q < H.size → A1 q → A0 q) (hf : ∀ q, free q → A0 q) (hAX : ∀ q, q < H.size → AX q → A0 q)
    (kx : ∀ (E : String) (ce : Cell) (q9 : Addr) (u : SX) (t : State) (H1 : Heap) (locs1 : List Loc), t.heap = H1 → s.vm.Alike t.vm → px u → BX E u t → H.size ≤ H1.size → (∀ q : Nat, q < H.size → ¬ AX q → H1[q]? = H[q]?) → va_S A0 H0 H1 locs1 → H1[q9]? = some ce → ce.vm = .none → s.vm.findClass E = some ce.cls → vx_W p l e R s m args below meth c H1 locs1 (cells + mc) (slots + ms) Q (F0 m pc ls rest) q9)
    (kk : ∀ (u : S) (t : State) (H1 : Heap) (locs1 : List Loc), t.heap = H1 → s.vm.Alike t.vm → post u → B u t → H.size ≤ H1.size → (∀ q : Nat, q < H.size → ¬ A1 q → H1[q]? = H[q]?) → va_S A0 H0 H1 locs1 → W p l e R s m args below meth c H1 locs1 (cells + mc) (slots + ms) Q (F0 m (pc + 3) ls (rest))) : W p l e R s m args below meth c H locs cells slots Q (F0 m pc ls st0) := by
  intro T hT X
  rcases hr T hT X with ⟨v, st₀, t, T', L, h0, X', hL, e1, e2, ⟨⟨u, hv, hp, hb⟩, hF⟩, st⟩ | ⟨q, st₀, t, T', L, E, ce, h0, X', hL, e1, e2, ⟨u, hp, hb, hF⟩, hce, hcv, hcl, st⟩
  · cases hv
    obtain ⟨k1, k2, k3⟩ := vx_keep h0 e1 hS hA hf hL hF
    obtain ⟨t2, a1, b1⟩ := kk u t T'.heap (locs ++ L) e1.symm (by rw [← e2]; exact X'.warmed.alike) hp hb k1 k2 k3 T' rfl X'
    exact ⟨t2, st t2 a1, b1⟩
  · obtain ⟨k1, k2, k3⟩ := vx_keep h0 e1 hS hAX hf hL hF
    obtain ⟨t2, a1, b1⟩ := kx E ce q u t T'.heap (locs ++ L) e1.symm (by rw [← e2]; exact X'.warmed.alike) hp hb k1 k2 k3 (by rw [e1]; exact hce) hcv hcl T' rfl X'
    exact ⟨t2, st.trans a1, b1⟩
/-- caught by the row x of this method's table; the rows ahead don't take it -/
theorem vx_catch {own name : String} {E : String} {ce : Cell} {q : Addr} (hown : s.vm.findClass own = some m.cls) (pre : List ExceptionTableEntry) (x : ExceptionTableEntry) (suf : List ExceptionTableEntry) (hsplit : c.exceptionTable.toList = pre ++ x :: suf)
    (hpass : ∀ z ∈ pre, covers z pc = false ∨ (z.catchType ≠ 0 ∧ ∃ nm : String, (Cond.classLink own z.catchType nm).before args s = true ∧ va_Nc E nm s)) (hx : covers x pc = true) (h0 : x.catchType ≠ 0)
    (hlink : (Cond.classLink own x.catchType name).before args s = true) (hcast : (Cond.castable E name).before args s = true) (hcell : H[q]? = some ce) (hv : ce.vm = .none) (hcl : s.vm.findClass E = some ce.cls)
    (kk : W p l e R s m args below meth c H locs cells slots Q (F0 m x.handlerPc ls [.ref q])) : vx_W p l e R s m args below meth c H locs cells slots Q (F0 m pc ls rest) q := by
  intro T hT X
  have hpl : e.platform.magicAccessors = ({} : Platform).magicAccessors := by rw [X.admits.platform]
  obtain ⟨c3, c4, hc3, hc4, hasg⟩ := Cond.castable_spec hcast
  cases Option.some.inj (hc3.symm.trans hcl)
  obtain ⟨c5, hc5, hcl5⟩ := Cond.classLink_spec hown hlink e.platform hpl
  cases Option.some.inj (hc4.symm.trans hc5)
  obtain ⟨vm', X', st⟩ := X.thenCaughtThrough q (g := F0 m pc ls rest) rfl (Steps.refl _) (by rw [hT]; exact hcell) (by rw [hv]; rfl) (by obtain ⟨k9, h9, -⟩ := Vm.findClass_spec hcl; exact ⟨k9, h9⟩) pre x suf hsplit
    (fun z hz => by
      rcases hpass z hz with h | ⟨hz0, nm, hl1, hn1⟩
      · exact Or.inl h
      · obtain ⟨c6, hc6, hcl6⟩ := Cond.classLink_spec hown hl1 e.platform hpl
        obtain ⟨a8, b8, h1, h2, h3⟩ := hn1
        cases Option.some.inj (h1.symm.trans hcl)
        cases Option.some.inj (h2.symm.trans hc6)
        exact Or.inr ⟨hz0, _, hcl6, h3⟩) hx (Or.inr ⟨h0, c4, hcl5, hasg⟩)
  obtain ⟨t, a1, b1⟩ := kk (T.setVm vm') hT X'
  exact ⟨t, st.trans a1, b1⟩
end Rows
section Ends
variable {p : Program} {l : Launch} {e : Env} {R : Room} {s : State} {m : MethodId} {args : Array Value} {below : List Frame} {meth : Method} {c : Code} {H : Heap} {locs : List Loc} {cells slots : Nat} {Q : State → Prop}
variable {mc ms : Nat} {free : Addr → Prop} {A0 A1 : Nat → Prop} {H0 : Heap} {a : Array Value} {ls : Array Slot} {st0 rest : List Value}
variable {Qc : Array Value → State → Outcome → State → Prop} {XC : String → State → State → Prop}
/-- what a body that may throw owes at its end -/
def vx_MQ (below : List Frame) (Qc : Array Value → State → Outcome → State → Prop) (XC : String → State → State → Prop) (a : Array Value) (s : State) (mc ms : Nat) (free : Addr → Prop) : State → Prop := fun t =>
  ∃ o, t.status = .running ∧ Ended t below o ∧ vx_Q Qc XC mc ms free a s o t
theorem vx_ret {g : JFrame} {mc ms : Nat} (k : W p l e R s m args below meth c H locs cells slots (MQ below Qc args s mc ms free) g) : W p l e R s m args below meth c H locs cells slots (vx_MQ below Qc XC args s mc ms free) g := by
  intro T hT X
  obtain ⟨t, a1, o, b1, b2, b3, b4⟩ := k T hT X
  exact ⟨t, a1, o, b1, b2, Or.inl ⟨b3, b4⟩⟩
/-- not caught here: it goes on to the caller -/
theorem vx_widen {g : JFrame} {q : Addr} {k n : Nat} (h1 : cells ≤ k) (h2 : slots ≤ n) (kk : vx_W p l e R s m args below meth c H locs k n Q g q) : vx_W p l e R s m args below meth c H locs cells slots Q g q := fun T hT X => kk T hT (stand_widen X h1 h2)
theorem vx_out {pc : Nat} {E : String} {ce : Cell} {q : Addr} {mc ms : Nat} (hout : ∀ x ∈ c.exceptionTable.toList, covers x pc = false) (hlocks : meth.locks = false) (hcell : H[q]? = some ce) (hv : ce.vm = .none) (hcl : s.vm.findClass E = some ce.cls)
    (hx : ∀ t : State, t.heap = H → s.vm.Alike t.vm → XC E s t) (hf : ∀ z ∈ locs, free z.base) (hc : cells ≤ mc) (hs : slots ≤ ms) :
    vx_W p l e R s m args below meth c H locs cells slots (vx_MQ below Qc XC args s mc ms free) (F0 m pc ls rest) q := by
  intro T hT X
  obtain ⟨st1, hrun, hend, hW, hsm⟩ := X.leaveThrown q (g := F0 m pc ls rest) rfl rfl rfl hout hlocks
  have hcell9 : (T.setFrames (.throwing q :: below)).heap[q]? = some ce := by
    show T.heap[q]? = some ce
    rw [hT]; exact hcell
  exact ⟨_, st1, .threw q, hrun, hend, Or.inr ⟨q, rfl, E, ce, locs, hx _ hT hW.alike, hcell9, hv, hcl, hW, hsm.mono hc hs, hf⟩⟩
theorem vx_frame {U : State} {k n : Nat} (h : s.sameButNew ({ U with vm := s.vm } : State) locs k n) : s.heap.size ≤ U.heap.size ∧ ∀ q : Nat, q < s.heap.size → (∀ z ∈ locs, z.base ≠ q) → U.heap[q]? = s.heap[q]? := by
  obtain ⟨-, h2, -, -, -, h6⟩ := h
  refine ⟨h2, fun q hq hz => ?_⟩
  obtain ⟨c9, e1, e2, e3, e4⟩ := h6 q _ (Array.getElem?_eq_getElem hq)
  have hs : c9.slots = (s.heap[q]).slots := Array.ext_getElem? fun i => e4 i fun hm => hz _ hm rfl
  have h9 : c9 = s.heap[q] := by
    rw [hs] at e2
    exact e2
  have e5 : U.heap[q]? = some c9 := e1
  rw [e5, h9, Array.getElem?_eq_getElem hq]
/-- the words of a throw but the four that speak of the heap -/
def vx_no (w : Cond) : Bool := decide (w ≠ .isRef (.static Bundle.tN "UNASSIGNED_STACK" Bundle.steD)) && decide (w ≠ .isRef (.static Bundle.tN "SUPPRESSED_SENTINEL" Bundle.listD)) && decide (w ≠ .laysStatic Bundle.tN "UNASSIGNED_STACK" Bundle.steD) && decide (w ≠ .laysStatic Bundle.tN "SUPPRESSED_SENTINEL" Bundle.listD)
def vx_at0 (own : String) (ic : Nat) (X : String) (names : List String) : List Cond := (Bundle.ownAtoms0 own ic X names).filter vx_no
def vx_atS (own : String) (ic : Nat) (X : String) (names : List String) : List Cond := (Bundle.ownAtoms own ic X names).filter vx_no
/-- a word that the tables alone decide, or a good one -/
def vx_ot (w : Cond) : Bool := w.onTables || goodWord w
theorem vx_ot_at {args a' : Array Value} {s U : State} {w : Cond} (hW : s.WarmedH U.vm) (hvm : s.vm = U.vm) (hg : vx_ot w = true) (h : w.before args s = true) : w.before a' U = true := by
  simp only [vx_ot, Bool.or_eq_true] at hg
  rcases hg with hg | hg
  · exact va_tabs hg hvm h
  · exact word_at hW (good_of_word hg) h
/-- a list's words: the good ones out of the method's own list, the others by premises of their own -/
theorem vx_hat {args : Array Value} {s : State} {L B : List Cond} (h1 : ∀ w ∈ L.filter goodWord, w.before args s = true) (h2 : ∀ w ∈ L.filter (fun w => !goodWord w), w ∈ B) (h3 : ∀ w ∈ B, w.before args s = true) : ∀ w ∈ L, w.before args s = true := by
  intro w hw
  by_cases g : goodWord w = true
  · exact h1 w (List.mem_filter.mpr ⟨hw, g⟩)
  · refine h3 w (h2 w (List.mem_filter.mpr ⟨hw, ?_⟩))
    show (!goodWord w) = true
    cases hgw : goodWord w
    · rfl
    · exact absurd hgw g
theorem vx_c {args : Array Value} {s : State} {w : Cond} {B : List Cond} (h : w.before args s = true) (t : ∀ w ∈ B, w.before args s = true) : ∀ w' ∈ w :: B, w'.before args s = true := fun w' h' => (List.mem_cons.mp h').elim (fun e => by rw [e]; exact h) (t w')
theorem vx_n {args : Array Value} {s : State} : ∀ w ∈ ([] : List Cond), w.before args s = true := fun _ h => nomatch h
theorem vx_own {args : Array Value} {s : State} {L : List Cond} (h1 : ∀ w ∈ L.filter vx_no, w.before args s = true)
    (hU : (Cond.isRef (.static Bundle.tN "UNASSIGNED_STACK" Bundle.steD)).before args s = true) (hN : (Cond.isRef (.static Bundle.tN "SUPPRESSED_SENTINEL" Bundle.listD)).before args s = true)
    (lU : (Cond.laysStatic Bundle.tN "UNASSIGNED_STACK" Bundle.steD).before args s = true) (lN : (Cond.laysStatic Bundle.tN "SUPPRESSED_SENTINEL" Bundle.listD).before args s = true) : ∀ w ∈ L, w.before args s = true := by
  intro w hw
  by_cases e1 : w = .isRef (.static Bundle.tN "UNASSIGNED_STACK" Bundle.steD)
  · rw [e1]; exact hU
  · by_cases e2 : w = .isRef (.static Bundle.tN "SUPPRESSED_SENTINEL" Bundle.listD)
    · rw [e2]; exact hN
    · by_cases e3 : w = .laysStatic Bundle.tN "UNASSIGNED_STACK" Bundle.steD
      · rw [e3]; exact lU
      · by_cases e4 : w = .laysStatic Bundle.tN "SUPPRESSED_SENTINEL" Bundle.listD
        · rw [e4]; exact lN
        · exact h1 w (List.mem_filter.mpr ⟨hw, by unfold vx_no; rw [decide_eq_true e1, decide_eq_true e2, decide_eq_true e3, decide_eq_true e4]; rfl⟩)
/-- where a static field lies, its class's statics cell in H -/
def vx_L (C n d : String) (A : Nat → Prop) (U : State) (H : Heap) : Prop := ∃ (c : ClassId) (k : Class) (i : Nat) (f : Field) (a : Nat) (cell : Cell), U.vm.findClass C = some c ∧ U.fieldFound? C n d = some (c, k, i, f) ∧ f.isStatic = true ∧ k.statics = some a ∧ H[a]? = some cell ∧ cell.vm.isStatics = true ∧ cell.cls = c ∧ f.slot < cell.slots.size ∧ k.staticTypes[f.slot]? = some f.type ∧ ¬ A a
theorem vx_L.moved {C n d : String} {A : Nat → Prop} {u U : State} {H : Heap} (hvm : u.vm.Alike U.vm) (h : vx_L C n d A u H) : vx_L C n d A U H := by
  obtain ⟨c, k, i, f, a, cell, h1, h2, h3, h4, h5, h6, h7, h8, h9, h10⟩ := h
  obtain ⟨k', hi', he⟩ := State.fieldFound?_setVm hvm h2
  exact ⟨c, k', i, f, a, cell, by rw [hvm.findClass]; exact h1, hi', h3, by rw [he]; exact h4, h5, h6, h7, h8, by rw [he]; exact h9, h10⟩
theorem vx_L.kept {C n d : String} {A : Nat → Prop} {U : State} {H H1 : Heap} (h : vx_L C n d A U H) (hq : ∀ a : Nat, a < H.size → ¬ A a → H1[a]? = H[a]?) : vx_L C n d A U H1 := by
  obtain ⟨c, k, i, f, a, cell, h1, h2, h3, h4, h5, h6, h7, h8, h9, h10⟩ := h
  exact ⟨c, k, i, f, a, cell, h1, h2, h3, h4, by rw [hq a (Array.getElem?_eq_some_iff.mp h5).1 h10]; exact h5, h6, h7, h8, h9, h10⟩
theorem vx_L.narrow {C n d : String} {A B : Nat → Prop} {U : State} {H : Heap} (h : vx_L C n d A U H) (hAB : ∀ q, B q → A q) : vx_L C n d B U H := by
  obtain ⟨c, k, i, f, a, cell, h1, h2, h3, h4, h5, h6, h7, h8, h9, h10⟩ := h
  exact ⟨c, k, i, f, a, cell, h1, h2, h3, h4, h5, h6, h7, h8, h9, fun z => h10 (hAB _ z)⟩
theorem vx_L.word {C n d : String} {A : Nat → Prop} {s : State} {args : Array Value} (h : vx_L C n d A s s.heap) : (Cond.laysStatic C n d).before args s = true := by
  obtain ⟨c, k, i, f, a, cell, h1, h2, h3, h4, h5, h6, h7, h8, h9, -⟩ := h
  show (Cond.laysStatic C n d).holds args s none s [] = true
  exact Cond.laysStatic_of h1 h2 h3 h4 h5 h6 h7 h8 h9
/-- .. and what it holds: null or some reference -/
def vx_Zq (C n d : String) (A : Nat → Prop) (U : State) (H : Heap) : Prop := va_Zq C n d A U H ∧ vx_L C n d A U H
theorem vx_Zq.moved {C n d : String} {A : Nat → Prop} {u U : State} {H : Heap} (hvm : u.vm.Alike U.vm) (h : vx_Zq C n d A u H) : vx_Zq C n d A U H := ⟨va_Zq.moved hvm h.1, vx_L.moved hvm h.2⟩
theorem vx_Zq.kept {C n d : String} {A : Nat → Prop} {U : State} {H H1 : Heap} (h : vx_Zq C n d A U H) (hq : ∀ a : Nat, a < H.size → ¬ A a → H1[a]? = H[a]?) : vx_Zq C n d A U H1 := ⟨va_Zq.kept h.1 hq, vx_L.kept h.2 hq⟩
theorem vx_Zq.narrow {C n d : String} {A B : Nat → Prop} {U : State} {H : Heap} (h : vx_Zq C n d A U H) (hAB : ∀ q, B q → A q) : vx_Zq C n d B U H := ⟨va_Zq.narrow h.1 hAB, vx_L.narrow h.2 hAB⟩
theorem vx_Zqof {args : Array Value} {s : State} {C n d : String} {A : Nat → Prop} (hl : (Cond.laysStatic C n d).before args s = true) (hini : (Cond.initialized C).before args s = true) (h : (Cond.isRef (.static C n d)).before args s = true) (hA : ∀ a : Nat, a < s.heap.size → ¬ A a) : vx_Zq C n d A s s.heap := by
  refine ⟨va_Zqof hl hini h hA, ?_⟩
  obtain ⟨c, k, i, f, a, cell, h1, h2, h3, h4, h5, h6, h7, h8, h9⟩ := Cond.laysStatic_spec hl
  exact ⟨c, k, i, f, a, cell, h1, h2, h3, h4, h5, h6, h7, h8, h9, hA a (Array.getElem?_eq_some_iff.mp h5).1⟩
theorem vx_isRef {C n d : String} {v : Value} {A : Nat → Prop} {s : State} {args : Array Value} (h : va_Z C n d v A s s.heap) (hv : v.isRef = true) : (Cond.isRef (.static C n d)).before args s = true := by
  obtain ⟨cf, kf, fi, f, a, cell, h1, h2, h3, h4, h5, h6, h7, -⟩ := h
  have he : (Term.static C n d).eval args s none [] s = some v := by
    simp [Term.eval, State.fieldNamed?, h1, h2, h4, h5, h6, h7]
  simp only [Cond.before, Cond.holds, Cond.value, he]
  cases v <;> simp_all [Value.isRef]
theorem vx_isRefq {C n d : String} {A : Nat → Prop} {s : State} {args : Array Value} (h : va_Zq C n d A s s.heap) : (Cond.isRef (.static C n d)).before args s = true := by
  rcases h with h | ⟨t, h⟩
  · exact vx_isRef h rfl
  · exact vx_isRef h rfl
/-- the same frame, seen from here: as if the method were called anew in this heap -/
theorem vx_rebase {T : State} (X : Stand p l e R s m args below meth c T locs cells slots) {R' : Room} (hf : R'.frames ≤ R.frames) (hl : R'.locals ≤ R.locals) (hc : cells + R'.cells ≤ R.cells) (hs : slots + R'.slots ≤ R.slots) :
    Stand p l e R' ((T.setVm s.vm).setFrames (.invoking m args :: below)) m args below meth c T [] 0 0 := by
  have htop : (T.setVm s.vm).topJava?.isSome := X.here.top
  have hF : ((T.setVm s.vm).setFrames (.invoking m args :: below)).frames = .invoking m args :: below := State.frames_setFrames _ (State.cur_lt_of_top htop)
  obtain ⟨g₀, hg0⟩ := Option.isSome_iff_exists.mp htop
  obtain ⟨r, hr⟩ := State.topJava?_eq_some.mp hg0
  have hl9 : e.platform.stackLimits (T.setVm s.vm).me = e.platform.stackLimits s.me := X.limits
  have hb9 : (T.setVm s.vm).me.stackBytes = s.me.stackBytes := X.bytes
  refine ⟨X.admits, X.cas, X.clock, hF, ?_, X.hears, X.method, X.code, X.here, X.tail, X.warmed, ?_, ?_, ?_⟩
  · have h := X.room
    have hU : ((T.setVm s.vm).setFrames (.invoking m args :: below)).localsInUse = s.localsInUse := by
      rw [State.localsInUse_invoking hF (meth := meth) (c := c) X.method X.code, State.localsInUse_invoking X.frames X.method X.code]
    simp only [State.hasRoom, Bool.and_eq_true, decide_eq_true_eq] at h ⊢
    obtain ⟨⟨⟨⟨h1, h2, h3, h4, h5, h6⟩, h7⟩, h8⟩, h9⟩ := h
    rw [X.frames, List.length_cons] at h2 h3
    have q1 := X.heapSize
    have q2 := X.used
    simp only [hF, hU, List.length_cons, State.stackLimits_setFrames, State.stackBytes_setFrames, hl9, hb9]
    refine ⟨⟨⟨⟨by omega, by omega, by omega, by omega, by omega, h6⟩, ?_⟩, ?_⟩, X.book⟩
    · show T.heap.size + R'.cells ≤ e.platform.maxCells
      omega
    · show T.slotsUsed + R'.slots ≤ e.platform.maxSlots
      omega
  · rw [State.stackLimits_setFrames]; rfl
  · rw [State.stackBytes_setFrames]; rfl
  · refine ⟨?_, Nat.le_refl _, Nat.le_refl _, ?_, ?_, fun a c9 h9 => ⟨c9, h9, rfl, rfl, fun _ _ => rfl⟩⟩
    · obtain ⟨t, ht, -⟩ := State.frames_cons hr
      show T.setVm s.vm = { ((T.setVm s.vm).setFrames (.invoking m args :: below)).setFrames (T.setVm s.vm).frames with heap := T.heap, slotsUsed := T.slotsUsed }
      rw [State.setFrames_setFrames, State.setFrames_self ht]
      rfl
    · show T.slotsUsed = T.slotsUsed + ((T.heap.toList.drop T.heap.size).map (·.slots.size)).sum
      rw [List.drop_eq_nil_of_le (Nat.le_of_eq Array.length_toList)]
      rfl
    · show ((T.heap.toList.drop T.heap.size).map (·.slots.size)).sum ≤ 0
      rw [List.drop_eq_nil_of_le (Nat.le_of_eq Array.length_toList)]
      exact Nat.le_refl _
/-- 'throw new E()': new; dup; invokespecial; athrow -/
theorem vx_throw0 {cc : ByteArray} {pc : Nat} (hexec : p.tables.exec = Jvm.exec) (hb : c.code = cc) (hl : l.stackTraces = false) {own cls : String} {names : List String} {ik ic mc ms : Nat} {A : Nat → Prop}
    (hown : s.vm.findClass own = some m.cls) (hcls : Bundle.fit cls = true) (hnames : ∀ n ∈ names, Bundle.fit n = true)
    (hk : (Cond.classLink own ik cls).before args s = true) (hini : (Cond.initialized cls).before args s = true) (hat : ∀ w ∈ vx_at0 own ic cls names, w.before args s = true)
    (hgood : ∀ w ∈ Cond.classLink own ik cls :: Cond.initialized cls :: vx_at0 own ic cls names, vx_ot w = true)
    (hU : vx_Zq Bundle.tN "UNASSIGNED_STACK" Bundle.steD A s s.heap) (hN : vx_Zq Bundle.tN "SUPPRESSED_SENTINEL" Bundle.listD A s s.heap) (hS : va_S A s.heap H locs) (hsize : ls.size = c.maxLocals)
    (d0 : decode cc pc = .ok (.new ik, 3)) (d3 : decode cc (pc + 3) = .ok (.dup, 1)) (d4 : decode cc (pc + 4) = .ok (.invokespecial ic, 3)) (d7 : decode cc (pc + 7) = .ok (.athrow, 1))
    (hout : ∀ x ∈ c.exceptionTable.toList, covers x (pc + 7) = false)
    (hRframes : names.length + 3 < R.frames) (hRlocals : (rest.map fun v => v.category).sum + (13 * (names.length + 1) + 42) ≤ R.locals) (hRcells : cells + 1 ≤ R.cells) (hRslots : slots + 6 ≤ R.slots) (hlocks : meth.locks = false)
    (hx : ∀ t : State, s.vm.Alike t.vm → H.size ≤ t.heap.size → (∀ q : Nat, q < H.size → t.heap[q]? = H[q]?) → XC cls s t)
    (hf : ∀ z ∈ locs, free z.base) (hc : cells + 1 ≤ mc) (hs : slots + 6 ≤ ms) :
    W p l e R s m args below meth c H locs cells slots (vx_MQ below Qc XC args s mc ms free) (F0 m pc ls rest) := by
  intro T hT X
  have htr : e.platform.stackTraces = false := (show e.platform.stackTraces = l.stackTraces by rw [X.admits.platform]).trans hl
  have Y := vx_rebase X (R' := { frames := R.frames, locals := R.locals, cells := 1, slots := 6 }) (Nat.le_refl _) (Nat.le_refl _) hRcells hRslots
  obtain ⟨s', hA⟩ : ∃ z, z = (T.setVm s.vm).setFrames (.invoking m args :: below) := ⟨_, rfl⟩
  rw [← hA] at Y
  have hvm : s'.vm = s.vm := by rw [hA]; rfl
  have hhp : s'.heap = H := by rw [hA]; exact hT
  have hW0 : s.WarmedH s'.vm := by rw [hvm]; exact State.WarmedH.refl s
  have hat' : ∀ w ∈ vx_at0 own ic cls names, w.before args s' = true := fun w hw => vx_ot_at hW0 hvm.symm (hgood w (List.mem_cons_of_mem _ (List.mem_cons_of_mem _ hw))) (hat w hw)
  have hk' : (Cond.classLink own ik cls).before args s' = true := vx_ot_at hW0 hvm.symm (hgood _ List.mem_cons_self) hk
  have hini' : (Cond.initialized cls).before args s' = true := vx_ot_at hW0 hvm.symm (hgood _ (List.mem_cons_of_mem _ List.mem_cons_self)) hini
  have hU' : vx_Zq Bundle.tN "UNASSIGNED_STACK" Bundle.steD A s' s'.heap := by rw [hhp]; exact vx_Zq.moved hW0.alike (hU.kept hS.2.1)
  have hN' : vx_Zq Bundle.tN "SUPPRESSED_SENTINEL" Bundle.listD A s' s'.heap := by rw [hhp]; exact vx_Zq.moved hW0.alike (hN.kept hS.2.1)
  have h : ∀ w ∈ Bundle.ownAtoms0 own ic cls names, w.before args s' = true := vx_own hat' (vx_isRefq hU'.1) (vx_isRefq hN'.1) hU'.2.word hN'.2.word
  have hown' : s'.vm.findClass own = some m.cls := by rw [hvm]; exact hown
  have hins : (Cond.instantiable cls 6).before args s' = true := h _ (by simp [Bundle.ownAtoms0])
  obtain ⟨vm₁, cX, kX, hfX, hkX, -, -, X₁, st1⟩ := Y.newCold hexec (own := own) (C := cls) (index := ik) (n := 6) hown' hk' hins hini'
    (g := F0 m pc ls rest) rfl (by rw [hb]; exact d0) (Nat.le_refl _) (Nat.le_refl _)
  generalize hT1 : (T.setVm vm₁).pushCell { cls := cX, slots := kX.instanceTypes.map defaultValue, vm := .none } = T1 at X₁ st1
  have hcat : (Value.ref T.heap.size).category = 1 := rfl
  have hcellA : T1.heap[T.heap.size]? = some (freshCell cX kX) := by rw [← hT1]; exact State.heap_pushCell_size _ _
  have d3' : decode c.code (pc + 3) = .ok (.dup, 1) := by rw [hb]; exact d3
  obtain ⟨U, hsteps, hrun, hend, hW, hsame, ce, hce, hO⟩ := X₁.ctorThrow0 hexec htr (own := own) (cls := cls) (names := names) (ic := ic) hown' hcls hnames h (fun x hx => nomatch hx) hfX hkX hcellA (by rw [hhp, hT]; exact Nat.le_refl _)
    (g := { method := m, pc := pc + 4, locals := ls, stack := .ref T.heap.size :: .ref T.heap.size :: rest, locked := none }) rfl hsize rfl rfl (rest := rest) rfl
    (by rw [hb]; exact d4) (by rw [hb]; exact d7) hout hRframes (by simp only [List.map_cons, List.sum_cons, hcat]; omega) hlocks
  obtain ⟨f1, f2⟩ := vx_frame hsame
  rw [hhp] at f1 f2
  have hWs : s.WarmedH U.vm := State.WarmedH.trans hW0 hW
  have hcl : s.vm.findClass cls = some ce.cls := by
    have h9 := hO.cls
    rw [hvm] at h9
    exact h9
  have hall : s.sameButNew ({ U with vm := s.vm } : State) locs mc ms := by
    subst hA
    obtain ⟨e1, e2⟩ := hsame
    rw [State.setFrames_setFrames] at e1
    have h2 : (T.setVm s.vm).sameButNew ({ U with vm := s.vm } : State) [] (0 + 1) (0 + 6) := ⟨e1, e2⟩
    have h3 := X.same.trans h2
    rw [List.append_nil] at h3
    exact h3.mono hc hs
  refine ⟨U, ?_, .threw T.heap.size, hrun, hend, Or.inr ⟨T.heap.size, rfl, cls, ce, locs, hx U hWs.alike f1 (fun q hq => f2 q hq (fun z hz => nomatch hz)), hce, hO.vm, hcl, hWs, hall, hf⟩⟩
  refine st1 _ ?_
  show Steps p.tables e below (T1.setTop { method := m, pc := pc + 3, locals := ls, stack := .ref T.heap.size :: rest, locked := none }) _
  jvm_step X₁.here [X₁.here.top, hexec, d3', Value.category]
  exact hsteps
/-- 'throw new E("text")': new; dup; ldc; invokespecial; athrow -/
theorem vx_throwS {cc : ByteArray} {pc : Nat} (hexec : p.tables.exec = Jvm.exec) (hb : c.code = cc) (hl : l.stackTraces = false) {own cls text : String} {names : List String} {ik is ic mc ms sa : Nat} {A : Nat → Prop}
    (hown : s.vm.findClass own = some m.cls) (hcls : Bundle.fit cls = true) (hnames : ∀ n ∈ names, Bundle.fit n = true)
    (hk : (Cond.classLink own ik cls).before args s = true) (hini : (Cond.initialized cls).before args s = true) (hstr : vk_R own is text sa s) (hat : ∀ w ∈ vx_atS own ic cls names, w.before args s = true)
    (hgood : ∀ w ∈ Cond.classLink own ik cls :: Cond.initialized cls :: vx_atS own ic cls names, vx_ot w = true)
    (hU : vx_Zq Bundle.tN "UNASSIGNED_STACK" Bundle.steD A s s.heap) (hN : vx_Zq Bundle.tN "SUPPRESSED_SENTINEL" Bundle.listD A s s.heap) (hS : va_S A s.heap H locs) (hsize : ls.size = c.maxLocals)
    (d0 : decode cc pc = .ok (.new ik, 3)) (d3 : decode cc (pc + 3) = .ok (.dup, 1)) (d4 : decode cc (pc + 4) = .ok (.ldc is, 2)) (d6 : decode cc (pc + 6) = .ok (.invokespecial ic, 3)) (d9 : decode cc (pc + 9) = .ok (.athrow, 1))
    (hout : ∀ x ∈ c.exceptionTable.toList, covers x (pc + 9) = false)
    (hRframes : names.length + 3 < R.frames) (hRlocals : (rest.map fun v => v.category).sum + (13 * (names.length + 1) + 43) ≤ R.locals) (hRcells : cells + 1 ≤ R.cells) (hRslots : slots + 6 ≤ R.slots) (hlocks : meth.locks = false)
    (hx : ∀ t : State, s.vm.Alike t.vm → H.size ≤ t.heap.size → (∀ q : Nat, q < H.size → t.heap[q]? = H[q]?) → XC cls s t)
    (hf : ∀ z ∈ locs, free z.base) (hc : cells + 1 ≤ mc) (hs : slots + 6 ≤ ms) :
    W p l e R s m args below meth c H locs cells slots (vx_MQ below Qc XC args s mc ms free) (F0 m pc ls rest) := by
  intro T hT X
  have htr : e.platform.stackTraces = false := (show e.platform.stackTraces = l.stackTraces by rw [X.admits.platform]).trans hl
  have Y := vx_rebase X (R' := { frames := R.frames, locals := R.locals, cells := 1, slots := 6 }) (Nat.le_refl _) (Nat.le_refl _) hRcells hRslots
  obtain ⟨s', hA⟩ : ∃ z, z = (T.setVm s.vm).setFrames (.invoking m args :: below) := ⟨_, rfl⟩
  rw [← hA] at Y
  have hvm : s'.vm = s.vm := by rw [hA]; rfl
  have hhp : s'.heap = H := by rw [hA]; exact hT
  have hW0 : s.WarmedH s'.vm := by rw [hvm]; exact State.WarmedH.refl s
  have hat' : ∀ w ∈ vx_atS own ic cls names, w.before args s' = true := fun w hw => vx_ot_at hW0 hvm.symm (hgood w (List.mem_cons_of_mem _ (List.mem_cons_of_mem _ hw))) (hat w hw)
  have hk' : (Cond.classLink own ik cls).before args s' = true := vx_ot_at hW0 hvm.symm (hgood _ List.mem_cons_self) hk
  have hini' : (Cond.initialized cls).before args s' = true := vx_ot_at hW0 hvm.symm (hgood _ (List.mem_cons_of_mem _ List.mem_cons_self)) hini
  have hU' : vx_Zq Bundle.tN "UNASSIGNED_STACK" Bundle.steD A s' s'.heap := by rw [hhp]; exact vx_Zq.moved hW0.alike (hU.kept hS.2.1)
  have hN' : vx_Zq Bundle.tN "SUPPRESSED_SENTINEL" Bundle.listD A s' s'.heap := by rw [hhp]; exact vx_Zq.moved hW0.alike (hN.kept hS.2.1)
  have h : ∀ w ∈ Bundle.ownAtoms own ic cls names, w.before args s' = true := vx_own hat' (vx_isRefq hU'.1) (vx_isRefq hN'.1) hU'.2.word hN'.2.word
  have hown' : s'.vm.findClass own = some m.cls := by rw [hvm]; exact hown
  have hins : (Cond.instantiable cls 6).before args s' = true := h _ (by simp [Bundle.ownAtoms])
  obtain ⟨vm₁, cX, kX, hfX, hkX, -, -, X₁, st1⟩ := Y.newCold hexec (own := own) (C := cls) (index := ik) (n := 6) hown' hk' hins hini'
    (g := F0 m pc ls rest) rfl (by rw [hb]; exact d0) (Nat.le_refl _) (Nat.le_refl _)
  generalize hT1 : (T.setVm vm₁).pushCell { cls := cX, slots := kX.instanceTypes.map defaultValue, vm := .none } = T1 at X₁ st1
  have hcat : (Value.ref T.heap.size).category = 1 := rfl
  have hcellA : T1.heap[T.heap.size]? = some (freshCell cX kX) := by rw [← hT1]; exact State.heap_pushCell_size _ _
  have d3' : decode c.code (pc + 3) = .ok (.dup, 1) := by rw [hb]; exact d3
  have d4' : decode c.code (pc + 4) = .ok (.ldc is, 2) := by rw [hb]; exact d4
  have hstr' : vk_R own is text sa s' := vk_R.warm hW0 hstr
  obtain ⟨U, hsteps, hrun, hend, hW, hsame, ce, hce, hO⟩ := X₁.ctorThrowS hexec htr (own := own) (cls := cls) (names := names) (ic := ic) hown' hcls hnames h (fun x hx => nomatch hx) hfX hkX hcellA (by rw [hhp, hT]; exact Nat.le_refl _) (msg := .ref sa) rfl
    (g := { method := m, pc := pc + 6, locals := ls, stack := .ref sa :: .ref T.heap.size :: .ref T.heap.size :: rest, locked := none }) rfl hsize rfl rfl (rest := rest) rfl
    (by rw [hb]; exact d6) (by rw [hb]; exact d9) hout hRframes (by simp only [List.map_cons, List.sum_cons, hcat]; omega) hlocks
  obtain ⟨f1, f2⟩ := vx_frame hsame
  rw [hhp] at f1 f2
  have hWs : s.WarmedH U.vm := State.WarmedH.trans hW0 hW
  have hcl : s.vm.findClass cls = some ce.cls := by
    have h9 := hO.cls
    rw [hvm] at h9
    exact h9
  have hall : s.sameButNew ({ U with vm := s.vm } : State) locs mc ms := by
    subst hA
    obtain ⟨e1, e2⟩ := hsame
    rw [State.setFrames_setFrames] at e1
    have h2 : (T.setVm s.vm).sameButNew ({ U with vm := s.vm } : State) [] (0 + 1) (0 + 6) := ⟨e1, e2⟩
    have h3 := X.same.trans h2
    rw [List.append_nil] at h3
    exact h3.mono hc hs
  refine ⟨U, ?_, .threw T.heap.size, hrun, hend, Or.inr ⟨T.heap.size, rfl, cls, ce, locs, hx U hWs.alike f1 (fun q hq => f2 q hq (fun z hz => nomatch hz)), hce, hO.vm, hcl, hWs, hall, hf⟩⟩
  refine st1 _ ?_
  show Steps p.tables e below (T1.setTop { method := m, pc := pc + 3, locals := ls, stack := .ref T.heap.size :: rest, locked := none }) _
  jvm_step X₁.here [X₁.here.top, hexec, d3', Value.category]
  exact X₁.ldcString hexec (own := own) (text := text) (index := is) (a := sa) hown' hstr'.1 hstr'.2
    (g := { method := m, pc := pc + 4, locals := ls, stack := .ref T.heap.size :: .ref T.heap.size :: rest, locked := none }) rfl d4' _ hsteps
/-- 'throw new E("text")', the text by a wide index -/
theorem vx_throwSW {cc : ByteArray} {pc : Nat} (hexec : p.tables.exec = Jvm.exec) (hb : c.code = cc) (hl : l.stackTraces = false) {own cls text : String} {names : List String} {ik is ic mc ms sa : Nat} {A : Nat → Prop}
    (hown : s.vm.findClass own = some m.cls) (hcls : Bundle.fit cls = true) (hnames : ∀ n ∈ names, Bundle.fit n = true)
    (hk : (Cond.classLink own ik cls).before args s = true) (hini : (Cond.initialized cls).before args s = true) (hstr : vk_R own is text sa s) (hat : ∀ w ∈ vx_atS own ic cls names, w.before args s = true)
    (hgood : ∀ w ∈ Cond.classLink own ik cls :: Cond.initialized cls :: vx_atS own ic cls names, vx_ot w = true)
    (hU : vx_Zq Bundle.tN "UNASSIGNED_STACK" Bundle.steD A s s.heap) (hN : vx_Zq Bundle.tN "SUPPRESSED_SENTINEL" Bundle.listD A s s.heap) (hS : va_S A s.heap H locs) (hsize : ls.size = c.maxLocals)
    (d0 : decode cc pc = .ok (.new ik, 3)) (d3 : decode cc (pc + 3) = .ok (.dup, 1)) (d4 : decode cc (pc + 4) = .ok (.ldc_w is, 3)) (d7 : decode cc (pc + 7) = .ok (.invokespecial ic, 3)) (d10 : decode cc (pc + 10) = .ok (.athrow, 1))
    (hout : ∀ x ∈ c.exceptionTable.toList, covers x (pc + 10) = false)
    (hRframes : names.length + 3 < R.frames) (hRlocals : (rest.map fun v => v.category).sum + (13 * (names.length + 1) + 43) ≤ R.locals) (hRcells : cells + 1 ≤ R.cells) (hRslots : slots + 6 ≤ R.slots) (hlocks : meth.locks = false)
    (hx : ∀ t : State, s.vm.Alike t.vm → H.size ≤ t.heap.size → (∀ q : Nat, q < H.size → t.heap[q]? = H[q]?) → XC cls s t)
    (hf : ∀ z ∈ locs, free z.base) (hc : cells + 1 ≤ mc) (hs : slots + 6 ≤ ms) :
    W p l e R s m args below meth c H locs cells slots (vx_MQ below Qc XC args s mc ms free) (F0 m pc ls rest) := by
  intro T hT X
  have htr : e.platform.stackTraces = false := (show e.platform.stackTraces = l.stackTraces by rw [X.admits.platform]).trans hl
  have Y := vx_rebase X (R' := { frames := R.frames, locals := R.locals, cells := 1, slots := 6 }) (Nat.le_refl _) (Nat.le_refl _) hRcells hRslots
  obtain ⟨s', hA⟩ : ∃ z, z = (T.setVm s.vm).setFrames (.invoking m args :: below) := ⟨_, rfl⟩
  rw [← hA] at Y
  have hvm : s'.vm = s.vm := by rw [hA]; rfl
  have hhp : s'.heap = H := by rw [hA]; exact hT
  have hW0 : s.WarmedH s'.vm := by rw [hvm]; exact State.WarmedH.refl s
  have hat' : ∀ w ∈ vx_atS own ic cls names, w.before args s' = true := fun w hw => vx_ot_at hW0 hvm.symm (hgood w (List.mem_cons_of_mem _ (List.mem_cons_of_mem _ hw))) (hat w hw)
  have hk' : (Cond.classLink own ik cls).before args s' = true := vx_ot_at hW0 hvm.symm (hgood _ List.mem_cons_self) hk
  have hini' : (Cond.initialized cls).before args s' = true := vx_ot_at hW0 hvm.symm (hgood _ (List.mem_cons_of_mem _ List.mem_cons_self)) hini
  have hU' : vx_Zq Bundle.tN "UNASSIGNED_STACK" Bundle.steD A s' s'.heap := by rw [hhp]; exact vx_Zq.moved hW0.alike (hU.kept hS.2.1)
  have hN' : vx_Zq Bundle.tN "SUPPRESSED_SENTINEL" Bundle.listD A s' s'.heap := by rw [hhp]; exact vx_Zq.moved hW0.alike (hN.kept hS.2.1)
  have h : ∀ w ∈ Bundle.ownAtoms own ic cls names, w.before args s' = true := vx_own hat' (vx_isRefq hU'.1) (vx_isRefq hN'.1) hU'.2.word hN'.2.word
  have hown' : s'.vm.findClass own = some m.cls := by rw [hvm]; exact hown
  have hins : (Cond.instantiable cls 6).before args s' = true := h _ (by simp [Bundle.ownAtoms])
  obtain ⟨vm₁, cX, kX, hfX, hkX, -, -, X₁, st1⟩ := Y.newCold hexec (own := own) (C := cls) (index := ik) (n := 6) hown' hk' hins hini'
    (g := F0 m pc ls rest) rfl (by rw [hb]; exact d0) (Nat.le_refl _) (Nat.le_refl _)
  generalize hT1 : (T.setVm vm₁).pushCell { cls := cX, slots := kX.instanceTypes.map defaultValue, vm := .none } = T1 at X₁ st1
  have hcat : (Value.ref T.heap.size).category = 1 := rfl
  have hcellA : T1.heap[T.heap.size]? = some (freshCell cX kX) := by rw [← hT1]; exact State.heap_pushCell_size _ _
  have d3' : decode c.code (pc + 3) = .ok (.dup, 1) := by rw [hb]; exact d3
  have d4' : decode c.code (pc + 4) = .ok (.ldc_w is, 3) := by rw [hb]; exact d4
  have hstr' : vk_R own is text sa s' := vk_R.warm hW0 hstr
  obtain ⟨U, hsteps, hrun, hend, hW, hsame, ce, hce, hO⟩ := X₁.ctorThrowS hexec htr (own := own) (cls := cls) (names := names) (ic := ic) hown' hcls hnames h (fun x hx => nomatch hx) hfX hkX hcellA (by rw [hhp, hT]; exact Nat.le_refl _) (msg := .ref sa) rfl
    (g := { method := m, pc := pc + 7, locals := ls, stack := .ref sa :: .ref T.heap.size :: .ref T.heap.size :: rest, locked := none }) rfl hsize rfl rfl (rest := rest) rfl
    (by rw [hb]; exact d7) (by rw [hb]; exact d10) hout hRframes (by simp only [List.map_cons, List.sum_cons, hcat]; omega) hlocks
  obtain ⟨f1, f2⟩ := vx_frame hsame
  rw [hhp] at f1 f2
  have hWs : s.WarmedH U.vm := State.WarmedH.trans hW0 hW
  have hcl : s.vm.findClass cls = some ce.cls := by
    have h9 := hO.cls
    rw [hvm] at h9
    exact h9
  have hall : s.sameButNew ({ U with vm := s.vm } : State) locs mc ms := by
    subst hA
    obtain ⟨e1, e2⟩ := hsame
    rw [State.setFrames_setFrames] at e1
    have h2 : (T.setVm s.vm).sameButNew ({ U with vm := s.vm } : State) [] (0 + 1) (0 + 6) := ⟨e1, e2⟩
    have h3 := X.same.trans h2
    rw [List.append_nil] at h3
    exact h3.mono hc hs
  refine ⟨U, ?_, .threw T.heap.size, hrun, hend, Or.inr ⟨T.heap.size, rfl, cls, ce, locs, hx U hWs.alike f1 (fun q hq => f2 q hq (fun z hz => nomatch hz)), hce, hO.vm, hcl, hWs, hall, hf⟩⟩
  refine st1 _ ?_
  show Steps p.tables e below (T1.setTop { method := m, pc := pc + 3, locals := ls, stack := .ref T.heap.size :: rest, locked := none }) _
  jvm_step X₁.here [X₁.here.top, hexec, d3', Value.category]
  exact X₁.ldcStringW hexec (own := own) (text := text) (index := is) (a := sa) hown' hstr'.1 hstr'.2
    (g := { method := m, pc := pc + 4, locals := ls, stack := .ref T.heap.size :: .ref T.heap.size :: rest, locked := none }) rfl d4' _ hsteps
end Ends
section Bodies
variable {l : Launch}
theorem vx_ofW {y : MethodName} {ws ws' : List Cond} {rm : Room} {Pc : Array Value → State → Prop} {Qc : Array Value → State → Outcome → State → Prop} {XC : String → State → State → Prop} {mc ms : Nat} {free : Addr → Prop} {cc : ByteArray} {maxL : Nat} {ret : Option FieldType}
    (hy : plainName y.cls = true) (hw : ws = Cond.code y cc maxL ret :: ws')
    (body : ∀ p e s m args below meth c s₁, BodyLoose p l y (headSpec ws rm) cc maxL ret e s m args below meth c s₁ → c.maxLocals = maxL → (∀ x ∈ c.exceptionTable.toList, False) → Pc args s →
      W p l e (headSpec ws rm).room s m args below meth c s.heap [] 0 0 (vx_MQ below Qc XC args s mc ms free) (entryFrame m args maxL)) : vx_Met l y ws rm Pc Qc XC mc ms free := by
  refine MetFree.of_bodyS (code := cc) (maxLocals := maxL) (ret := ret) hy ?_ ?_
  · intro args s m h hn
    obtain ⟨meth, c, h1, h2, h3, h4, h5, h6, -, -⟩ := Cond.code_spec hn (atoms_spec (ws := ws) h _ (by rw [hw]; exact List.mem_cons_self))
    exact ⟨meth, c, h1, h2, h3, h4, h5, h6⟩
  · intro p e s m args below meth c s₁ B hml hP _
    have hh0 : s₁.heap = s.heap := by rw [B.state]; rfl
    have ht : ∀ x ∈ c.exceptionTable.toList, False := by
      obtain ⟨meth9, c9, h1, h2, -, -, -, -, h7, -⟩ := Cond.code_spec B.named (atoms_spec (ws := ws) B.pre _ (by rw [hw]; exact List.mem_cons_self))
      cases Option.some.inj (h1.symm.trans B.method)
      cases Option.some.inj (h2.symm.trans (Stand.of_body B).code)
      intro x hx
      rw [Array.isEmpty_iff.mp h7] at hx
      cases hx
    obtain ⟨t, a1, o, b1, b2, b3⟩ := body p e s m args below meth c s₁ B hml ht hP s₁ hh0 (Stand.of_body B)
    exact ⟨t, o, a1, b1, b2, b3⟩
/-- the table of a body with handlers -/
theorem vx_table {p : Program} {x y : MethodName} {S : Spec} {cc bytes : ByteArray} {maxL maxL' : Nat} {ret ret' : Option FieldType} {e : Env} {s s₁ : State} {m : MethodId} {args : Array Value} {below : List Frame} {meth : Method} {c : Code} {hh : List (Nat × Nat × Nat × Nat)}
    (B : BodyLoose p l y S cc maxL ret e s m args below meth c s₁) (h : (Cond.codeWith y bytes maxL' ret' hh).before args s = true) : c.exceptionTable.toList = tableOf hh := by
  obtain ⟨m9, meth9, c9, hn9, h1, h2, -, -, h6, -⟩ := Cond.codeWith_spec h
  cases Option.some.inj (hn9.symm.trans B.named)
  cases Option.some.inj (h1.symm.trans B.method)
  cases Option.some.inj (h2.symm.trans (Stand.of_body B).code)
  rw [← h6, table_eq]
end Bodies
end VXA
/-! ===== END ===== -/
/-! ===== BEGIN a static call of a method with an exception table ===== -/
section VXS
variable {p : Program} {l : Launch} {e : Env} {R : Room} {s : State} {m : MethodId} {args : Array Value} {below : List Frame} {meth : Method} {c : Code} {T : State} {H : Heap} {locs : List Loc} {cells slots : Nat}
abbrev vx_CSW (R : Room) (s : State) (args : Array Value) (own : String) (index : Nat) (y : MethodName) (bytes : ByteArray) (maxL : Nat) (ret : Option FieldType) (hh : List (Nat × Nat × Nat × Nat)) (ws : List Cond) (rm : Room) (mc ms n : Nat) : Prop :=
  (rm.cells = mc ∧ rm.slots = ms ∧ rm.frames + 1 ≤ R.frames ∧ 8 + (maxL + 11) + rm.locals ≤ R.locals ∧ (∀ w ∈ ws, ∀ (a' : Array Value) (U : State), s.WarmedH U.vm → w.before a' U = true) ∧ Cond.codeWith y bytes maxL ret hh ∈ ws) ∧
  (Cond.codeWith y bytes maxL ret hh).before args s = true ∧ (Cond.initialized y.cls).before args s = true ∧ (y.cls ≠ "java/lang/invoke/MethodHandle" ∧ y.cls ≠ "java/lang/invoke/VarHandle") ∧
  (∀ sig, parseMethodDescriptor y.desc = some sig → n = sig.parameters.length) ∧ (Cond.methodLink own index y).before args s = true ∧ (Cond.static y).before args s = true
theorem vx_cwSW {own : String} {index maxL mc ms : Nat} {y : MethodName} {bytes : ByteArray} {ret : Option FieldType} {hh : List (Nat × Nat × Nat × Nat)} {Ts ws ws' : List Cond} {rm : Room} (n : Nat) (ht : ∀ w ∈ Ts, w.before args s = true) (hT : GoodIn Ts (va_wsS own index y ws)) (hw : ws = Cond.codeWith y bytes maxL ret hh :: ws') (hrc : rm.cells = mc) (hrs : rm.slots = ms)
    (hd : y.cls ≠ "java/lang/invoke/MethodHandle" ∧ y.cls ≠ "java/lang/invoke/VarHandle" ∧ (parseMethodDescriptor y.desc).map (fun d => d.parameters.length) = some n) (hR : rm.frames + 1 ≤ R.frames ∧ 8 + (maxL + 11) + rm.locals ≤ R.locals) :
    vx_CSW R s args own index y bytes maxL ret hh ws rm mc ms n := by
  have ok : ∀ w ∈ va_wsS own index y ws, w.before args s = true := fun w h => ht w (hT w h).1
  have hG : GoodIn Ts ws := fun w h => hT w (by unfold va_wsS; exact List.mem_append_right _ h)
  have hc : Cond.codeWith y bytes maxL ret hh ∈ ws := by rw [hw]; exact List.mem_cons_self
  refine ⟨⟨hrc, hrs, hR.1, hR.2, pay_in ht hG, hc⟩, ht _ (hG _ hc).1, ok _ (by simp [va_wsS]), ⟨hd.1, hd.2.1⟩, fun sig h => ?_, ok _ (by simp [va_wsS]), ok _ (by simp [va_wsS])⟩
  have h2 := hd.2.2
  rw [h] at h2
  exact (Option.some.inj h2).symm
theorem vx_callSW (X : Stand p l e R s m args below meth c T locs cells slots) (hexec : p.tables.exec = Jvm.exec) {own : String} {index : Nat} {y : MethodName} {bytes : ByteArray} {maxL : Nat} {ret : Option FieldType} {hh : List (Nat × Nat × Nat × Nat)}
    (hown : s.vm.findClass own = some m.cls) (hlink : (Cond.methodLink own index y).before args s = true) (hstat : (Cond.static y).before args s = true) (hinit : (Cond.initialized y.cls).before args s = true)
    (hcode : (Cond.codeWith y bytes maxL ret hh).before args s = true) (hy : y.cls ≠ "java/lang/invoke/MethodHandle" ∧ y.cls ≠ "java/lang/invoke/VarHandle")
    {W9 : Nat} {Pre : Pt → Array Value → Prop} {Post : Pt → Array Value → Option Value → Pt → Prop} (hK : Back l R p e below s args y 3 W9 Pre Post)
    {g : JFrame} (hg : g.method = m) (hsize : g.locals.size = c.maxLocals) {argsL rest : List Value} (hlen : ∀ sig, parseMethodDescriptor y.desc = some sig → argsL.length = sig.parameters.length)
    (hstack : g.stack = argsL.reverse ++ rest) (hW : 2 * g.monitorRoom + (rest.map fun v => v.category).sum ≤ W9) (hdg : decode c.code g.pc = .ok (.invokestatic index, 3))
    (hpre : ∀ vm₁, s.WarmedH vm₁ → Pre ⟨T.setVm vm₁, locs, cells, slots⟩ argsL.toArray) :
    ∃ (v : Option Value) (vm₁ : Vm) (B : Pt), s.WarmedH vm₁ ∧ Stand p l e R s m args below meth c B.U B.locs B.cells B.slots ∧ Post ⟨T.setVm vm₁, locs, cells, slots⟩ argsL.toArray v B ∧
      ∀ target, Steps p.tables e below (B.U.setTop { g with pc := g.pc + 3, stack := v.toList ++ rest }) target → Steps p.tables e below (T.setTop g) target := by
  obtain ⟨mk, methM, cM, hnamed, hmethM, -, -, -, -, -, -, hsigM⟩ := Cond.codeWith_spec hcode
  have hstatic : methM.isStatic = true := Cond.static_spec hnamed hmethM hstat
  obtain ⟨kP, hkP, -⟩ := className_of_methodNamed hnamed
  have hinitP : kP.init = .initialized := Cond.initialized_spec (findClass_of_methodNamed hnamed) hkP hinit
  obtain ⟨vm₁, X₁, hstep₁⟩ := X.invokestatic hexec hown hlink hnamed hmethM hstatic hkP hinitP hy (g := g) hg (argsL := argsL) (rest := rest) (hlen _ hsigM) hstack hdg
  obtain ⟨v, B, X', hpost, hsteps⟩ := hK m meth c ⟨T.setVm vm₁, locs, cells, slots⟩ { g with stack := rest } (.invokestatic index) mk argsL.toArray X₁ hg hsize hdg hW (X₁.named hnamed) (hpre vm₁ X₁.warmed)
  exact ⟨v, vm₁, B, X₁.warmed, X', hpost, fun target h => hstep₁ _ fun acts => by rw [doInvoke_state]; exact hsteps.trans h⟩
theorem vx_runSW {y : MethodName} {bytes cc : ByteArray} {maxL nL mc ms n index : Nat} {ret : Option FieldType} {hh : List (Nat × Nat × Nat × Nat)} {ws : List Cond} {rm : Room} {Pc : Array Value → State → Prop} {Qc : Array Value → State → Outcome → State → Prop} {free : Addr → Prop} {Ts : List Cond} {own : String} {As rest : List Value} {g : JFrame}
    (S : CallFix p m c cc nL s args Ts own) (hM : Met l y ws rm Pc Qc mc ms free) (cw : vx_CSW R s args own index y bytes maxL ret hh ws rm mc ms n) (hp : PreS s H Pc As)
    (hg : g.method = m) (hn : As.length = n) (hsize : g.locals.size = nL) (hstack : g.stack = As.reverse ++ rest) (hW : 2 * g.monitorRoom + (rest.map fun v => v.category).sum ≤ 8) (hdg : decode cc g.pc = .ok (.invokestatic index, 3)) (hf : cells + mc ≤ R.cells ∧ slots + ms ≤ R.slots) :
    va_Run p l e R s m args below meth c H locs cells slots mc ms g rest (Qc As.toArray) (free) := by
  obtain ⟨⟨hrc, hrs, hfr, hlo, hws, hcw⟩, hcode, hini, hy, hlen, hl, hstt⟩ := cw
  have hK : Back l R p e below s args y 3 8 (PreOf R mc ms Pc) (PostOf Qc mc ms free) := va_backW (hh := hh) (bytes := bytes) (maxL := maxL) (ret := ret) hM hp.1 hrc hrs hfr hlo hws hcw (fun a' U hW => word_at hW (Or.inl (by first | rfl | simp [Cond.onTables, Cond.keeps, Cond.steady])) hini)
  obtain ⟨hx, hb, hml, ho, -⟩ := S
  intro T hT X
  obtain ⟨v, vm₁, ⟨U', l2, c2, s2⟩, hW₁, X', ⟨g', mk, t, L, e1, e2, hq, h1, hL, h2, h3⟩, st⟩ := vx_callSW X hx (hh := hh) (bytes := bytes) (maxL := maxL) (ret := ret) ho hl hstt hini hcode hy hK hg (hsize.trans hml.symm) (argsL := As) (rest := rest) (fun sig h => hn.trans (hlen sig h)) hstack hW (by rw [hb]; exact hdg)
    (fun vm₁ hW₁ => ⟨hf.1, hf.2, hp.2 (T.setVm vm₁) hT hW₁⟩)
  dsimp only [Pt.U, Pt.locs, Pt.cells, Pt.slots] at X' e1 e2 h1 h2 h3 st
  subst h1; subst h2; subst h3
  exact ⟨v, (T.setVm vm₁).calling g' mk As.toArray, t, U', L, hT, X', hL, e1, e2, hq, st⟩
/-- not caught here, past rows that name other classes: it goes on to the caller -/
theorem vx_outP {p : Program} {l : Launch} {e : Env} {R : Room} {s : State} {m : MethodId} {args : Array Value} {below : List Frame} {meth : Method} {c : Code} {H : Heap} {locs : List Loc} {cells slots : Nat} {free : Addr → Prop} {ls : Array Slot} {rest : List Value} {Qc : Array Value → State → Outcome → State → Prop} {XC : String → State → State → Prop}
    {pc : Nat} {own E : String} {ce : Cell} {q : Addr} {mc ms : Nat} (hown : s.vm.findClass own = some m.cls) (hlocks : meth.locks = false)
    (hpass : ∀ z ∈ c.exceptionTable.toList, covers z pc = false ∨ (z.catchType ≠ 0 ∧ ∃ nm : String, (Cond.classLink own z.catchType nm).before args s = true ∧ va_Nc E nm s)) (hcell : H[q]? = some ce) (hv : ce.vm = .none) (hcl : s.vm.findClass E = some ce.cls)
    (hx : ∀ t : State, t.heap = H → s.vm.Alike t.vm → XC E s t) (hf : ∀ z ∈ locs, free z.base) (hc : cells ≤ mc) (hs : slots ≤ ms) :
    vx_W p l e R s m args below meth c H locs cells slots (vx_MQ below Qc XC args s mc ms free) (F0 m pc ls rest) q := by
  intro T hT X
  have hpl : e.platform.magicAccessors = ({} : Platform).magicAccessors := by rw [X.admits.platform]
  obtain ⟨vm', hW', X', st⟩ := X.outThrough hlocks q (g := F0 m pc ls rest) rfl rfl rfl (cell := ce) (by rw [hT]; exact hcell) (by rw [hv]; rfl)
    (by obtain ⟨k9, h9, -⟩ := Vm.findClass_spec hcl; exact ⟨k9, h9⟩) (fun z hz => by
      rcases hpass z hz with h | ⟨hz0, nm, hl1, hn1⟩
      · exact Or.inl h
      · obtain ⟨c6, hc6, hcl6⟩ := Cond.classLink_spec hown hl1 e.platform hpl
        obtain ⟨a8, b8, h1, h2, h3⟩ := hn1
        cases Option.some.inj (h1.symm.trans hcl)
        cases Option.some.inj (h2.symm.trans hc6)
        exact Or.inr ⟨hz0, _, hcl6, h3⟩)
  obtain ⟨g₀, hfr⟩ := X'.frames_eq
  have hcell9 : ((T.setVm vm').setFrames (.throwing q :: below)).heap[q]? = some ce := by
    show T.heap[q]? = some ce
    rw [hT]; exact hcell
  have hend : Ended ((T.setVm vm').setFrames (.throwing q :: below)) below (.threw q) := State.frames_setFrames _ (State.cur_lt_of_frames hfr)
  refine ⟨(T.setVm vm').setFrames (.throwing q :: below), ?_, .threw q, X'.here.running, hend, Or.inr ⟨q, rfl, E, ce, locs, hx _ hT (X'.ends _).1.alike, hcell9, hv, hcl, (X'.ends _).1, (X'.ends _).2.mono hc hs, hf⟩⟩
  rw [X.pushThrowing_eq]
  exact st
/-- a thing of a world lies in the heap -/
theorem vx_lt {D : va_G} {cl : List vw_C} {ws : va_W} {H1 : Heap} (h : va_P D cl ws H1) {k : Nat} {q : Nat × va_E} (hk : ws[k]? = some q) : q.1 < H1.size := (h k q hk).lt
end VXS
/-! ===== END ===== -/
/-! ===== BEGIN methods with a table of their own: called by a name, returning or throwing ===== -/
section VXH
/-! vx_backW, vx_callVX, vx_callSX, vx_callVW, vx_runVW, vx_runVX, vx_runSX, vx_ofWH follow the same proofs as their sisters above (Free/Laws.lean, Shelf42/LK1.lean); vx_outP calls Shelf42/NT130.lean (outThrough). -/
section
variable {l : Launch} {R : Room} {p : Program} {e : Env} {below : List Frame} {s : State} {sargs : Array Value} {y : MethodName} {len W9 : Nat}
theorem vx_backW {ws : List Cond} {rm : Room} {Pc : Array Value → State → Prop} {Qc : Array Value → State → Outcome → State → Prop} {XC : String → State → State → Prop} {mc ms : Nat} {free : Addr → Prop} {bytes : ByteArray} {maxL : Nat} {ret : Option FieldType} {hh : List (Nat × Nat × Nat × Nat)}
    (hM : vx_Met l y ws rm Pc Qc XC mc ms free) (hblind : FrameBlind Pc) (hrc : rm.cells = mc) (hrs : rm.slots = ms)
    (hframes : rm.frames + 1 ≤ R.frames) (hlocals : W9 + (maxL + 11) + rm.locals ≤ R.locals)
    (hws : ∀ w ∈ ws, ∀ a' U, s.WarmedH U.vm → w.before a' U = true) (hcode : Cond.codeWith y bytes maxL ret hh ∈ ws) (hinit : ∀ a' U, s.WarmedH U.vm → (Cond.initialized y.cls).before a' U = true) :
    vx_Back l R p e below s sargs y len W9 (PreOf R mc ms Pc) (PostOf Qc mc ms free) (vx_Post XC mc ms free) := by
  intro m meth c A g ig mk a X hg hsize hdg hW hn hp
  have h1 : (headSpec ws rm).pre.before a A.U = true := atoms_intro fun w hw => hws w hw _ _ X.warmed
  have h2 : (Cond.codeWith y bytes maxL ret hh).before a A.U = true := hws _ hcode _ _ X.warmed
  have h3 : (Cond.initialized y.cls).before a A.U = true := hinit _ _ X.warmed
  have h4 : A.cells + (headSpec ws rm).room.cells ≤ R.cells := by rw [show (headSpec ws rm).room.cells = mc from hrc]; exact hp.1
  have h5 : A.slots + (headSpec ws rm).room.slots ≤ R.slots := by rw [show (headSpec ws rm).room.slots = ms from hrs]; exact hp.2.1
  have hPc : Pc a (A.U.calling g mk a) := hblind _ _ _ _ hp.2.2
  obtain ⟨U, Ls, c0, s0⟩ := A
  dsimp only [Pt.U, Pt.locs, Pt.cells, Pt.slots] at h1 h2 h3 h4 h5 X hn hPc ⊢
  obtain ⟨m9, methY, cY, hn9, hmY, hcY, -, hlY, -⟩ := Cond.codeWith_spec h2
  cases Option.some.inj (hn9.symm.trans hn)
  obtain ⟨kY, hkY, -⟩ := className_of_methodNamed hn
  have hinitY : kY.init = .initialized := Cond.initialized_spec (findClass_of_methodNamed hn) hkY h3
  have h : At U g.method c below := by rw [hg]; exact X.here
  have hlocals9 : W9 + (maxL + 11) + (headSpec ws rm).room.locals ≤ R.locals := hlocals
  have happ : (headSpec ws rm).appliesLoose y e.platform (U.calling g mk a) = true :=
    Spec.appliesLoose_calling (g := g) h hdg hn hkY hinitY
      (X.room_calling (g := g) (R' := (headSpec ws rm).room) hsize hmY hcY hframes (by rw [hlY]; omega) h4 h5) h1
  obtain ⟨mid, hmid⟩ := h.above
  have hfr : (U.setTop g).frames = (.java g :: mid) ++ below := by rw [State.frames_setTop' g h.top, hmid]; rfl
  obtain ⟨o, s₂, hsteps, -, hend, hq⟩ := Steps.callFree hM p X.admits X.cas X.clock (acts := []) hfr happ hPc trivial
  have hq' : vx_Q Qc XC mc ms free a (U.calling g mk a) o s₂ := hq
  rw [State.frames_setTop' g h.top] at hend
  obtain ⟨g₀, hg0⟩ := Option.isSome_iff_exists.mp h.top
  obtain ⟨r, hr⟩ := State.topJava?_eq_some.mp hg0
  have hr' : (({ U with heap := s₂.heap, slotsUsed := s₂.slotsUsed } : State).setVm s₂.vm).frames = .java g₀ :: r := hr
  rcases hq' with ⟨hqc, L, hfe, hL⟩ | ⟨q, rfl, E, ce, L, hx, hce, hcv, hcl, hW₂, hsm, hL⟩
  · obtain ⟨⟨v, rfl⟩, hW₂, e2, q2, q3, q4, q5, q6⟩ := id hfe
    have e3 : s₂ = ({ (U.calling g mk a).setFrames s₂.frames with heap := s₂.heap, slotsUsed := s₂.slotsUsed } : State).setVm s₂.vm := by
      have : s₂ = ({ s₂ with vm := (U.calling g mk a).vm } : State).setVm s₂.vm := rfl
      rw [e2] at this
      exact this
    obtain ⟨c₂, i₂, len₂, hc₂, hd₂, hf₂⟩ := hend
    have hW' : U.WarmedH s₂.vm := hW₂
    have hcc : c₂ = c := by
      have h1 : s₂.code? g.method = U.code? g.method := by
        rw [State.code?_eq, State.code?_eq, hW'.alike.method?]
      exact Option.some.inj (hc₂.symm.trans (h1.trans h.code))
    subst hcc
    have hlen : len₂ = len := by rw [hdg] at hd₂; cases hd₂; rfl
    subst hlen
    have hs₂ : s₂ = (({ U with heap := s₂.heap, slotsUsed := s₂.slotsUsed } : State).setVm s₂.vm).setTop { g with pc := g.pc + len₂, stack := v.toList ++ g.stack } := by
      refine e3.trans ?_
      rw [hf₂, State.calling_eq h.top, State.setFrames_setFrames, State.setTop_of_frames _ hr', hr]
      rfl
    have hsame : U.sameButNew ({ U with heap := s₂.heap, slotsUsed := s₂.slotsUsed } : State) L mc ms := by
      refine ⟨?_, q2, q3, q4, q5, q6⟩
      obtain ⟨t, ht, -⟩ := State.frames_cons hr
      show ({ U with heap := s₂.heap, slotsUsed := s₂.slotsUsed } : State) = { U.setFrames U.frames with heap := s₂.heap, slotsUsed := s₂.slotsUsed }
      rw [State.setFrames_self ht]
    subst hg
    refine Or.inl ⟨v, ⟨(({ U with heap := s₂.heap, slotsUsed := s₂.slotsUsed } : State).setVm s₂.vm), Ls ++ L, c0 + mc, s0 + ms⟩,
      ⟨X.admits, X.cas, X.clock, X.frames, X.room, X.hears, X.method, X.code, (X.here.setHeapUsed s₂.heap s₂.slotsUsed).setVm hW'.alike, X.tail, State.WarmedH.trans X.warmed hW', X.limits, X.bytes, X.same.trans (hsame.setVm s.vm)⟩,
      ⟨g, mk, s₂, L, rfl, rfl, hqc, rfl, hL, rfl, rfl⟩, ?_⟩
    show Steps p.tables e below _ ((({ U with heap := s₂.heap, slotsUsed := s₂.slotsUsed } : State).setVm s₂.vm).setTop { g with pc := g.pc + len₂, stack := v.toList ++ g.stack })
    rw [← hs₂]
    exact hsteps
  · obtain ⟨e2, q2, q3, q4, q5, q6⟩ := id hsm
    have e3 : s₂ = ({ (U.calling g mk a).setFrames s₂.frames with heap := s₂.heap, slotsUsed := s₂.slotsUsed } : State).setVm s₂.vm := by
      have : s₂ = ({ s₂ with vm := (U.calling g mk a).vm } : State).setVm s₂.vm := rfl
      rw [e2] at this
      exact this
    have hf₂ : s₂.frames = .throwing q :: .java g :: U.frames.tail := hend
    have hW' : U.WarmedH s₂.vm := hW₂
    have hs₂ : s₂ = ((({ U with heap := s₂.heap, slotsUsed := s₂.slotsUsed } : State).setVm s₂.vm).setTop g).pushFrame (.throwing q) := by
      refine e3.trans ?_
      rw [hf₂, State.calling_eq h.top, State.setFrames_setFrames, State.pushFrame, State.frames_setTop _ hr', State.setTop_of_frames _ hr', State.setFrames_setFrames, hr]
      rfl
    have hsame : U.sameButNew ({ U with heap := s₂.heap, slotsUsed := s₂.slotsUsed } : State) L mc ms := by
      refine ⟨?_, q2, q3, q4, q5, q6⟩
      obtain ⟨t, ht, -⟩ := State.frames_cons hr
      show ({ U with heap := s₂.heap, slotsUsed := s₂.slotsUsed } : State) = { U.setFrames U.frames with heap := s₂.heap, slotsUsed := s₂.slotsUsed }
      rw [State.setFrames_self ht]
    subst hg
    refine Or.inr ⟨q, ⟨(({ U with heap := s₂.heap, slotsUsed := s₂.slotsUsed } : State).setVm s₂.vm), Ls ++ L, c0 + mc, s0 + ms⟩,
      ⟨X.admits, X.cas, X.clock, X.frames, X.room, X.hears, X.method, X.code, (X.here.setHeapUsed s₂.heap s₂.slotsUsed).setVm hW'.alike, X.tail, State.WarmedH.trans X.warmed hW', X.limits, X.bytes, X.same.trans (hsame.setVm s.vm)⟩,
      ⟨g, mk, s₂, L, E, ce, rfl, rfl, hx, hce, hcv, hcl, rfl, hL, rfl, rfl⟩, ?_⟩
    show Steps p.tables e below _ (((({ U with heap := s₂.heap, slotsUsed := s₂.slotsUsed } : State).setVm s₂.vm).setTop g).pushFrame (.throwing q))
    rw [← hs₂]
    exact hsteps
end
variable {p : Program} {l : Launch} {e : Env} {R : Room} {s : State} {m : MethodId} {args : Array Value} {below : List Frame} {meth : Method} {c : Code} {T : State} {H : Heap} {locs : List Loc} {cells slots : Nat}
theorem vx_callVX (X : Stand p l e R s m args below meth c T locs cells slots) (hexec : p.tables.exec = Jvm.exec) {own C : String} {index : Nat} {y : MethodName} {bytes : ByteArray} {maxL : Nat} {ret : Option FieldType} {hh : List (Nat × Nat × Nat × Nat)}
    (hown : s.vm.findClass own = some m.cls) (hlink : (Cond.methodLink own index y).before args s = true) (hinst : (Cond.instanceMethod y).before args s = true) (hsel : (Cond.selects C y y).before args s = true)
    (hcode : (Cond.codeWith y bytes maxL ret hh).before args s = true) (hy : y.cls ≠ "java/lang/invoke/MethodHandle" ∧ y.cls ≠ "java/lang/invoke/VarHandle")
    {W9 : Nat} {Pre : Pt → Array Value → Prop} {Post : Pt → Array Value → Option Value → Pt → Prop} {PostX : Pt → Array Value → Addr → Pt → Prop} (hK : vx_Back l R p e below s args y 3 W9 Pre Post PostX)
    {b : Addr} {cellB : Cell} (hcell : T.heap[b]? = some cellB) (hobj : cellB.vm.isStatics = false) (hcls : s.vm.findClass C = some cellB.cls)
    {g : JFrame} (hg : g.method = m) (hsize : g.locals.size = c.maxLocals) {argsL rest : List Value} (hlen : ∀ sig, parseMethodDescriptor y.desc = some sig → argsL.length = sig.parameters.length)
    (hstack : g.stack = argsL.reverse ++ .ref b :: rest) (hW : 2 * g.monitorRoom + (rest.map fun v => v.category).sum ≤ W9) (hdg : decode c.code g.pc = .ok (.invokevirtual index, 3))
    (hpre : ∀ vm₁, s.WarmedH vm₁ → Pre ⟨T.setVm vm₁, locs, cells, slots⟩ (Value.ref b :: argsL).toArray) :
    (∃ (v : Option Value) (vm₁ : Vm) (B : Pt), s.WarmedH vm₁ ∧ Stand p l e R s m args below meth c B.U B.locs B.cells B.slots ∧ Post ⟨T.setVm vm₁, locs, cells, slots⟩ (Value.ref b :: argsL).toArray v B ∧
      ∀ target, Steps p.tables e below (B.U.setTop { g with pc := g.pc + 3, stack := v.toList ++ rest }) target → Steps p.tables e below (T.setTop g) target) ∨
    (∃ (q : Addr) (vm₁ : Vm) (B : Pt), s.WarmedH vm₁ ∧ Stand p l e R s m args below meth c B.U B.locs B.cells B.slots ∧ PostX ⟨T.setVm vm₁, locs, cells, slots⟩ (Value.ref b :: argsL).toArray q B ∧
      Steps p.tables e below (T.setTop g) ((B.U.setTop { g with stack := rest }).pushFrame (.throwing q))) := by
  obtain ⟨mk, methM, hnamed, hmethM, hstM, habM⟩ := Cond.instanceMethod_spec hinst
  obtain ⟨m8, methM', cM, hn8, hmethM', -, -, -, -, -, -, hsigM⟩ := Cond.codeWith_spec hcode
  cases Option.some.inj (hn8.symm.trans hnamed)
  cases hmethM.symm.trans hmethM'
  obtain ⟨c2, r2, m2, q1, q2, q3, q4, kP, hkP, hkPi⟩ := Cond.selects_spec hsel
  cases hcls.symm.trans q1
  cases (State.methodFound?_of_named hnamed hy).symm.trans q2
  cases hnamed.symm.trans q3
  have hselP : selectMethod e.platform s.vm cellB.cls mk = .method mk := by rw [Launch.admits_selectMethod X.admits]; exact q4
  obtain ⟨vm₁, X₁, hstep₁⟩ := X.invokevirtual hexec hown hlink hnamed hmethM hstM hkP hkPi hy (a := b) (cell := cellB) hcell
    (fun z h => by rw [h] at hobj; cases hobj) hselP hmethM habM hkP hkPi (g := g) hg (argsL := argsL) (rest := rest) (hlen _ hsigM) hstack hdg
  rcases hK m meth c ⟨T.setVm vm₁, locs, cells, slots⟩ { g with stack := rest } (.invokevirtual index) mk (Value.ref b :: argsL).toArray X₁ hg hsize hdg hW (X₁.named hnamed) (hpre vm₁ X₁.warmed) with ⟨v, B, X', hpost, hsteps⟩ | ⟨q, B, X', hpost, hsteps⟩
  · exact Or.inl ⟨v, vm₁, B, X₁.warmed, X', hpost, fun target h => hstep₁ _ fun acts => by rw [doInvoke_state]; exact hsteps.trans h⟩
  · exact Or.inr ⟨q, vm₁, B, X₁.warmed, X', hpost, hstep₁ _ fun acts => by rw [doInvoke_state]; exact hsteps⟩
theorem vx_callSX (X : Stand p l e R s m args below meth c T locs cells slots) (hexec : p.tables.exec = Jvm.exec) {own : String} {index : Nat} {y : MethodName} {bytes : ByteArray} {maxL : Nat} {ret : Option FieldType} {hh : List (Nat × Nat × Nat × Nat)}
    (hown : s.vm.findClass own = some m.cls) (hlink : (Cond.methodLink own index y).before args s = true) (hstat : (Cond.static y).before args s = true) (hinit : (Cond.initialized y.cls).before args s = true)
    (hcode : (Cond.codeWith y bytes maxL ret hh).before args s = true) (hy : y.cls ≠ "java/lang/invoke/MethodHandle" ∧ y.cls ≠ "java/lang/invoke/VarHandle")
    {W9 : Nat} {Pre : Pt → Array Value → Prop} {Post : Pt → Array Value → Option Value → Pt → Prop} {PostX : Pt → Array Value → Addr → Pt → Prop} (hK : vx_Back l R p e below s args y 3 W9 Pre Post PostX)
    {g : JFrame} (hg : g.method = m) (hsize : g.locals.size = c.maxLocals) {argsL rest : List Value} (hlen : ∀ sig, parseMethodDescriptor y.desc = some sig → argsL.length = sig.parameters.length)
    (hstack : g.stack = argsL.reverse ++ rest) (hW : 2 * g.monitorRoom + (rest.map fun v => v.category).sum ≤ W9) (hdg : decode c.code g.pc = .ok (.invokestatic index, 3))
    (hpre : ∀ vm₁, s.WarmedH vm₁ → Pre ⟨T.setVm vm₁, locs, cells, slots⟩ argsL.toArray) :
    (∃ (v : Option Value) (vm₁ : Vm) (B : Pt), s.WarmedH vm₁ ∧ Stand p l e R s m args below meth c B.U B.locs B.cells B.slots ∧ Post ⟨T.setVm vm₁, locs, cells, slots⟩ argsL.toArray v B ∧
      ∀ target, Steps p.tables e below (B.U.setTop { g with pc := g.pc + 3, stack := v.toList ++ rest }) target → Steps p.tables e below (T.setTop g) target) ∨
    (∃ (q : Addr) (vm₁ : Vm) (B : Pt), s.WarmedH vm₁ ∧ Stand p l e R s m args below meth c B.U B.locs B.cells B.slots ∧ PostX ⟨T.setVm vm₁, locs, cells, slots⟩ argsL.toArray q B ∧
      Steps p.tables e below (T.setTop g) ((B.U.setTop { g with stack := rest }).pushFrame (.throwing q))) := by
  obtain ⟨mk, methM, cM, hnamed, hmethM, -, -, -, -, -, -, hsigM⟩ := Cond.codeWith_spec hcode
  have hstatic : methM.isStatic = true := Cond.static_spec hnamed hmethM hstat
  obtain ⟨kP, hkP, -⟩ := className_of_methodNamed hnamed
  have hinitP : kP.init = .initialized := Cond.initialized_spec (findClass_of_methodNamed hnamed) hkP hinit
  obtain ⟨vm₁, X₁, hstep₁⟩ := X.invokestatic hexec hown hlink hnamed hmethM hstatic hkP hinitP hy (g := g) hg (argsL := argsL) (rest := rest) (hlen _ hsigM) hstack hdg
  rcases hK m meth c ⟨T.setVm vm₁, locs, cells, slots⟩ { g with stack := rest } (.invokestatic index) mk argsL.toArray X₁ hg hsize hdg hW (X₁.named hnamed) (hpre vm₁ X₁.warmed) with ⟨v, B, X', hpost, hsteps⟩ | ⟨q, B, X', hpost, hsteps⟩
  · exact Or.inl ⟨v, vm₁, B, X₁.warmed, X', hpost, fun target h => hstep₁ _ fun acts => by rw [doInvoke_state]; exact hsteps.trans h⟩
  · exact Or.inr ⟨q, vm₁, B, X₁.warmed, X', hpost, hstep₁ _ fun acts => by rw [doInvoke_state]; exact hsteps⟩
theorem vx_callVW (X : Stand p l e R s m args below meth c T locs cells slots) (hexec : p.tables.exec = Jvm.exec) {own C : String} {index : Nat} {y : MethodName} {bytes : ByteArray} {maxL : Nat} {ret : Option FieldType} {hh : List (Nat × Nat × Nat × Nat)}
    (hown : s.vm.findClass own = some m.cls) (hlink : (Cond.methodLink own index y).before args s = true) (hinst : (Cond.instanceMethod y).before args s = true) (hsel : (Cond.selects C y y).before args s = true)
    (hcode : (Cond.codeWith y bytes maxL ret hh).before args s = true) (hy : y.cls ≠ "java/lang/invoke/MethodHandle" ∧ y.cls ≠ "java/lang/invoke/VarHandle")
    {W9 : Nat} {Pre : Pt → Array Value → Prop} {Post : Pt → Array Value → Option Value → Pt → Prop} (hK : Back l R p e below s args y 3 W9 Pre Post)
    {b : Addr} {cellB : Cell} (hcell : T.heap[b]? = some cellB) (hobj : cellB.vm.isStatics = false) (hcls : s.vm.findClass C = some cellB.cls)
    {g : JFrame} (hg : g.method = m) (hsize : g.locals.size = c.maxLocals) {argsL rest : List Value} (hlen : ∀ sig, parseMethodDescriptor y.desc = some sig → argsL.length = sig.parameters.length)
    (hstack : g.stack = argsL.reverse ++ .ref b :: rest) (hW : 2 * g.monitorRoom + (rest.map fun v => v.category).sum ≤ W9) (hdg : decode c.code g.pc = .ok (.invokevirtual index, 3))
    (hpre : ∀ vm₁, s.WarmedH vm₁ → Pre ⟨T.setVm vm₁, locs, cells, slots⟩ (Value.ref b :: argsL).toArray) :
    ∃ (v : Option Value) (vm₁ : Vm) (B : Pt), s.WarmedH vm₁ ∧ Stand p l e R s m args below meth c B.U B.locs B.cells B.slots ∧ Post ⟨T.setVm vm₁, locs, cells, slots⟩ (Value.ref b :: argsL).toArray v B ∧
      ∀ target, Steps p.tables e below (B.U.setTop { g with pc := g.pc + 3, stack := v.toList ++ rest }) target → Steps p.tables e below (T.setTop g) target := by
  obtain ⟨mk, methM, hnamed, hmethM, hstM, habM⟩ := Cond.instanceMethod_spec hinst
  obtain ⟨m8, methM', cM, hn8, hmethM', -, -, -, -, -, -, hsigM⟩ := Cond.codeWith_spec hcode
  cases Option.some.inj (hn8.symm.trans hnamed)
  cases hmethM.symm.trans hmethM'
  obtain ⟨c2, r2, m2, q1, q2, q3, q4, kP, hkP, hkPi⟩ := Cond.selects_spec hsel
  cases hcls.symm.trans q1
  cases (State.methodFound?_of_named hnamed hy).symm.trans q2
  cases hnamed.symm.trans q3
  have hselP : selectMethod e.platform s.vm cellB.cls mk = .method mk := by rw [Launch.admits_selectMethod X.admits]; exact q4
  obtain ⟨vm₁, X₁, hstep₁⟩ := X.invokevirtual hexec hown hlink hnamed hmethM hstM hkP hkPi hy (a := b) (cell := cellB) hcell
    (fun z h => by rw [h] at hobj; cases hobj) hselP hmethM habM hkP hkPi (g := g) hg (argsL := argsL) (rest := rest) (hlen _ hsigM) hstack hdg
  obtain ⟨v, B, X', hpost, hsteps⟩ := hK m meth c ⟨T.setVm vm₁, locs, cells, slots⟩ { g with stack := rest } (.invokevirtual index) mk (Value.ref b :: argsL).toArray X₁ hg hsize hdg hW (X₁.named hnamed) (hpre vm₁ X₁.warmed)
  exact ⟨v, vm₁, B, X₁.warmed, X', hpost, fun target h => hstep₁ _ fun acts => by rw [doInvoke_state]; exact hsteps.trans h⟩
abbrev vx_CVW (R : Room) (s : State) (args : Array Value) (own C : String) (index : Nat) (y : MethodName) (bytes : ByteArray) (maxL : Nat) (ret : Option FieldType) (hh : List (Nat × Nat × Nat × Nat)) (ws : List Cond) (rm : Room) (mc ms n : Nat) : Prop :=
  (rm.cells = mc ∧ rm.slots = ms ∧ rm.frames + 1 ≤ R.frames ∧ 8 + (maxL + 11) + rm.locals ≤ R.locals ∧ (∀ w ∈ ws, ∀ (a' : Array Value) (U : State), s.WarmedH U.vm → w.before a' U = true) ∧ Cond.codeWith y bytes maxL ret hh ∈ ws) ∧
  (Cond.codeWith y bytes maxL ret hh).before args s = true ∧ (Cond.initialized y.cls).before args s = true ∧ (y.cls ≠ "java/lang/invoke/MethodHandle" ∧ y.cls ≠ "java/lang/invoke/VarHandle") ∧
  (∀ sig, parseMethodDescriptor y.desc = some sig → n = sig.parameters.length) ∧ (Cond.methodLink own index y).before args s = true ∧ (Cond.instanceMethod y).before args s = true ∧ (Cond.selects C y y).before args s = true
theorem vx_cwVW {own C : String} {index maxL mc ms : Nat} {y : MethodName} {bytes : ByteArray} {ret : Option FieldType} {hh : List (Nat × Nat × Nat × Nat)} {Ts ws ws' : List Cond} {rm : Room} (n : Nat) (ht : ∀ w ∈ Ts, w.before args s = true) (hT : GoodIn Ts (wsV own index C y ws)) (hw : ws = Cond.codeWith y bytes maxL ret hh :: ws') (hrc : rm.cells = mc) (hrs : rm.slots = ms)
    (hd : y.cls = C ∧ y.cls ≠ "java/lang/invoke/MethodHandle" ∧ y.cls ≠ "java/lang/invoke/VarHandle" ∧ (parseMethodDescriptor y.desc).map (fun d => d.parameters.length) = some n) (hR : rm.frames + 1 ≤ R.frames ∧ 8 + (maxL + 11) + rm.locals ≤ R.locals) :
    vx_CVW R s args own C index y bytes maxL ret hh ws rm mc ms n := by
  obtain ⟨hC, hd⟩ := hd
  subst hC
  have ok : ∀ w ∈ wsV own index y.cls y ws, w.before args s = true := fun w h => ht w (hT w h).1
  have hG : GoodIn Ts ws := fun w h => hT w (by unfold wsV; exact List.mem_append_right _ h)
  have hc : Cond.codeWith y bytes maxL ret hh ∈ ws := by rw [hw]; exact List.mem_cons_self
  refine ⟨⟨hrc, hrs, hR.1, hR.2, pay_in ht hG, hc⟩, ht _ (hG _ hc).1, ok _ (by simp [wsV]), ⟨hd.1, hd.2.1⟩, fun sig h => ?_, ok _ (by simp [wsV]), ok _ (by simp [wsV]), ok _ (by simp [wsV])⟩
  have h2 := hd.2.2
  rw [h] at h2
  exact (Option.some.inj h2).symm
theorem vx_runVW {y : MethodName} {bytes cc : ByteArray} {maxL nL mc ms n index : Nat} {ret : Option FieldType} {hh : List (Nat × Nat × Nat × Nat)} {ws : List Cond} {rm : Room} {Pc : Array Value → State → Prop} {Qc : Array Value → State → Outcome → State → Prop} {free : Addr → Prop} {Ts : List Cond} {own C : String} {b : Addr} {As rest : List Value} {g : JFrame}
    (S : CallFix p m c cc nL s args Ts own) (hM : Met l y ws rm Pc Qc mc ms free) (cw : vx_CVW R s args own C index y bytes maxL ret hh ws rm mc ms n) (hp : PreV s H C b Pc As)
    (hg : g.method = m) (hn : As.length = n) (hsize : g.locals.size = nL) (hstack : g.stack = As.reverse ++ .ref b :: rest) (hW : 2 * g.monitorRoom + (rest.map fun v => v.category).sum ≤ 8) (hdg : decode cc g.pc = .ok (.invokevirtual index, 3)) (hf : cells + mc ≤ R.cells ∧ slots + ms ≤ R.slots) :
    va_Run p l e R s m args below meth c H locs cells slots mc ms g rest (Qc (Value.ref b :: As).toArray) free := by
  obtain ⟨⟨hrc, hrs, hfr, hlo, hws, hcw⟩, hcode, hini, hy, hlen, hl, hin, hse⟩ := cw
  have hK : Back l R p e below s args y 3 8 (PreOf R mc ms Pc) (PostOf Qc mc ms free) := va_backW (hh := hh) (bytes := bytes) (maxL := maxL) (ret := ret) hM hp.1 hrc hrs hfr hlo hws hcw (fun a' U hW => word_at hW (Or.inl (by first | rfl | simp [Cond.onTables, Cond.keeps, Cond.steady])) hini)
  obtain ⟨hx, hb, hml, ho, -⟩ := S
  obtain ⟨-, ⟨cellB, hcB, hoB, hclB⟩, hPc⟩ := hp
  intro T hT X
  obtain ⟨v, vm₁, ⟨U', l2, c2, s2⟩, hW₁, X', ⟨g', mk, t, L, e1, e2, hq, h1, hL, h2, h3⟩, st⟩ := vx_callVW X hx (C := C) (hh := hh) (bytes := bytes) (maxL := maxL) (ret := ret) ho hl hin hse hcode hy hK (by rw [hT]; exact hcB) hoB hclB hg (hsize.trans hml.symm) (argsL := As) (rest := rest) (fun sig h => hn.trans (hlen sig h)) hstack hW (by rw [hb]; exact hdg)
    (fun vm₁ hW₁ => ⟨hf.1, hf.2, hPc (T.setVm vm₁) hT hW₁⟩)
  dsimp only [Pt.U, Pt.locs, Pt.cells, Pt.slots] at X' e1 e2 h1 h2 h3 st
  subst h1; subst h2; subst h3
  exact ⟨v, (T.setVm vm₁).calling g' mk (Value.ref b :: As).toArray, t, U', L, hT, X', hL, e1, e2, hq, st⟩
section
variable {y : MethodName} {bytes cc : ByteArray} {maxL nL mc ms n index : Nat} {ret : Option FieldType} {ws : List Cond} {rm : Room} {Pc : Array Value → State → Prop} {Qc : Array Value → State → Outcome → State → Prop} {XC : String → State → State → Prop} {free : Addr → Prop} {Ts : List Cond} {own C : String} {b : Addr} {As rest : List Value} {g : JFrame}
theorem vx_runVX {hh : List (Nat × Nat × Nat × Nat)} (S : CallFix p m c cc nL s args Ts own) (hM : vx_Met l y ws rm Pc Qc XC mc ms free) (cw : vx_CVW R s args own C index y bytes maxL ret hh ws rm mc ms n) (hp : PreV s H C b Pc As)
    (hg : g.method = m) (hn : As.length = n) (hsize : g.locals.size = nL) (hstack : g.stack = As.reverse ++ .ref b :: rest) (hW : 2 * g.monitorRoom + (rest.map fun v => v.category).sum ≤ 8) (hdg : decode cc g.pc = .ok (.invokevirtual index, 3)) (hf : cells + mc ≤ R.cells ∧ slots + ms ≤ R.slots) :
    vx_Run p l e R s m args below meth c H locs cells slots mc ms g rest (Qc (Value.ref b :: As).toArray) XC free := by
  obtain ⟨⟨hrc, hrs, hfr, hlo, hws, hcw⟩, hcode, hini, hy, hlen, hl, hin, hse⟩ := cw
  have hK : vx_Back l R p e below s args y 3 8 (PreOf R mc ms Pc) (PostOf Qc mc ms free) (vx_Post XC mc ms free) := vx_backW (hh := hh) (bytes := bytes) (maxL := maxL) (ret := ret) hM hp.1 hrc hrs hfr hlo hws hcw (fun a' U hW => word_at hW (Or.inl (by first | rfl | simp [Cond.onTables, Cond.keeps, Cond.steady])) hini)
  obtain ⟨hx, hb, hml, ho, -⟩ := S
  obtain ⟨-, ⟨cellB, hcB, hoB, hclB⟩, hPc⟩ := hp
  intro T hT X
  rcases vx_callVX X hx (C := C) (hh := hh) (bytes := bytes) (maxL := maxL) (ret := ret) ho hl hin hse hcode hy hK (by rw [hT]; exact hcB) hoB hclB hg (hsize.trans hml.symm) (argsL := As) (rest := rest) (fun sig h => hn.trans (hlen sig h)) hstack hW (by rw [hb]; exact hdg)
    (fun vm₁ hW₁ => ⟨hf.1, hf.2, hPc (T.setVm vm₁) hT hW₁⟩) with ⟨v, vm₁, ⟨U', l2, c2, s2⟩, hW₁, X', ⟨g', mk, t, L, e1, e2, hq, h1, hL, h2, h3⟩, st⟩ | ⟨q, vm₁, ⟨U', l2, c2, s2⟩, hW₁, X', ⟨g', mk, t, L, E, ce, e1, e2, hq, hce, hcv, hcl, h1, hL, h2, h3⟩, st⟩
  · dsimp only [Pt.U, Pt.locs, Pt.cells, Pt.slots] at X' e1 e2 h1 h2 h3 st
    subst h1; subst h2; subst h3
    exact Or.inl ⟨v, (T.setVm vm₁).calling g' mk (Value.ref b :: As).toArray, t, U', L, hT, X', hL, e1, e2, hq, st⟩
  · dsimp only [Pt.U, Pt.locs, Pt.cells, Pt.slots] at X' e1 e2 h1 h2 h3 st hcl
    subst h1; subst h2; subst h3
    exact Or.inr ⟨q, (T.setVm vm₁).calling g' mk (Value.ref b :: As).toArray, t, U', L, E, ce, hT, X', hL, e1, e2, hq, hce, hcv, vx_cls hW₁ hcl, st⟩
theorem vx_runSX {hh : List (Nat × Nat × Nat × Nat)} (S : CallFix p m c cc nL s args Ts own) (hM : vx_Met l y ws rm Pc Qc XC mc ms free) (cw : vx_CSW R s args own index y bytes maxL ret hh ws rm mc ms n) (hp : PreS s H Pc As)
    (hg : g.method = m) (hn : As.length = n) (hsize : g.locals.size = nL) (hstack : g.stack = As.reverse ++ rest) (hW : 2 * g.monitorRoom + (rest.map fun v => v.category).sum ≤ 8) (hdg : decode cc g.pc = .ok (.invokestatic index, 3)) (hf : cells + mc ≤ R.cells ∧ slots + ms ≤ R.slots) :
    vx_Run p l e R s m args below meth c H locs cells slots mc ms g rest (Qc As.toArray) XC free := by
  obtain ⟨⟨hrc, hrs, hfr, hlo, hws, hcw⟩, hcode, hini, hy, hlen, hl, hstt⟩ := cw
  have hK : vx_Back l R p e below s args y 3 8 (PreOf R mc ms Pc) (PostOf Qc mc ms free) (vx_Post XC mc ms free) := vx_backW (hh := hh) (bytes := bytes) (maxL := maxL) (ret := ret) hM hp.1 hrc hrs hfr hlo hws hcw (fun a' U hW => word_at hW (Or.inl (by first | rfl | simp [Cond.onTables, Cond.keeps, Cond.steady])) hini)
  obtain ⟨hx, hb, hml, ho, -⟩ := S
  intro T hT X
  rcases vx_callSX X hx (hh := hh) (bytes := bytes) (maxL := maxL) (ret := ret) ho hl hstt hini hcode hy hK hg (hsize.trans hml.symm) (argsL := As) (rest := rest) (fun sig h => hn.trans (hlen sig h)) hstack hW (by rw [hb]; exact hdg)
    (fun vm₁ hW₁ => ⟨hf.1, hf.2, hp.2 (T.setVm vm₁) hT hW₁⟩) with ⟨v, vm₁, ⟨U', l2, c2, s2⟩, hW₁, X', ⟨g', mk, t, L, e1, e2, hq, h1, hL, h2, h3⟩, st⟩ | ⟨q, vm₁, ⟨U', l2, c2, s2⟩, hW₁, X', ⟨g', mk, t, L, E, ce, e1, e2, hq, hce, hcv, hcl, h1, hL, h2, h3⟩, st⟩
  · dsimp only [Pt.U, Pt.locs, Pt.cells, Pt.slots] at X' e1 e2 h1 h2 h3 st
    subst h1; subst h2; subst h3
    exact Or.inl ⟨v, (T.setVm vm₁).calling g' mk As.toArray, t, U', L, hT, X', hL, e1, e2, hq, st⟩
  · dsimp only [Pt.U, Pt.locs, Pt.cells, Pt.slots] at X' e1 e2 h1 h2 h3 st hcl
    subst h1; subst h2; subst h3
    exact Or.inr ⟨q, (T.setVm vm₁).calling g' mk As.toArray, t, U', L, E, ce, hT, X', hL, e1, e2, hq, hce, hcv, vx_cls hW₁ hcl, st⟩
end
end VXH
theorem vx_ofWH {l : Launch} {y : MethodName} {ws ws' : List Cond} {rm : Room} {Pc : Array Value → State → Prop} {Qc : Array Value → State → Outcome → State → Prop} {XC : String → State → State → Prop} {mc ms : Nat} {free : Addr → Prop} {cc : ByteArray} {maxL : Nat} {ret : Option FieldType} {hh : List (Nat × Nat × Nat × Nat)}
    (hy : plainName y.cls = true) (hw : ws = Cond.codeWith y cc maxL ret hh :: ws')
    (body : ∀ p e s m args below meth c s₁, BodyLoose p l y (headSpec ws rm) cc maxL ret e s m args below meth c s₁ → c.maxLocals = maxL → Pc args s →
      W p l e (headSpec ws rm).room s m args below meth c s.heap [] 0 0 (vx_MQ below Qc XC args s mc ms free) (entryFrame m args maxL)) : vx_Met l y ws rm Pc Qc XC mc ms free := by
  refine MetFree.of_bodyS (code := cc) (maxLocals := maxL) (ret := ret) hy ?_ ?_
  · intro args s m h hn
    obtain ⟨m9, meth, c, hn9, h1, h2, h3, h4, -, h5, h6, -⟩ := Cond.codeWith_spec (atoms_spec (ws := ws) h _ (by rw [hw]; exact List.mem_cons_self))
    cases hn.symm.trans hn9
    exact ⟨meth, c, h1, h2, h3, h4, h5, h6⟩
  · intro p e s m args below meth c s₁ B hml hP _
    have hh0 : s₁.heap = s.heap := by rw [B.state]; rfl
    obtain ⟨t, a1, o, b1, b2, b3⟩ := body p e s m args below meth c s₁ B hml hP s₁ hh0 (Stand.of_body B)
    exact ⟨t, o, a1, b1, b2, b3⟩
/-! ===== END ===== -/
end
section
/-! names of the classes, printed by program out of NAMES -/
def RX0 : String := "SandHouse$Grains"
def TX0 : u_T := fun k => match k with
  | 0 => ("SandHouse$Grains", "part", "[I", true)
  | 1 => ("SandHouse$Grains", "place", "[I", true)
  | 2 => ("SandHouse$Grains", "keeps", "[I", true)
  | 3 => ("SandHouse$Grains", "wet", "[I", true)
  | 4 => ("SandHouse$Grains", "lying", "[I", true)
  | 5 => ("SandHouse$Grains", "carried", "[I", true)
  | 6 => ("SandHouse$Grains", "gone", "I", false)
  | 7 => ("SandHouse$Grains", "told", "I", false)
  | 8 => ("SandHouse$Grains", "drained", "I", false)
  | 9 => ("SandHouse$Grains", "clog", "I", false)
  | 10 => ("SandHouse$Grains", "round", "I", false)
  | 11 => ("SandHouse$Grains", "spent", "I", false)
  | _ => ("SandHouse$Grains", "seed", "I", false)
def tyX0 : Nat → FieldType := fun k => match k with
  | 0 => .array .int
  | 1 => .array .int
  | 2 => .array .int
  | 3 => .array .int
  | 4 => .array .int
  | 5 => .array .int
  | 6 => .int
  | 7 => .int
  | 8 => .int
  | 9 => .int
  | 10 => .int
  | 11 => .int
  | _ => .int
theorem nmX0 : ∀ a, a < 13 → ∀ b, b < 13 → a ≠ b → (TX0 a).2.1 ≠ (TX0 b).2.1 := by decide +kernel
theorem tyX0_ok : ∀ k, k < 13 → parseFieldDescriptor (TX0 k).2.2.1 = some (tyX0 k) := by decide +kernel
theorem inX0 : ∀ w ∈ u_ws RX0 TX0 13, w ∈ lw_tbl := by decide +kernel
def RX1 : String := "SandHouse$Heels"
def TX1 : u_T := fun k => match k with
  | 0 => ("SandHouse$Heels", "cells", "[I", true)
  | 1 => ("SandHouse$Heels", "size", "I", false)
  | _ => ("SandHouse$Heels", "next", "I", false)
def tyX1 : Nat → FieldType := fun k => match k with
  | 0 => .array .int
  | 1 => .int
  | _ => .int
theorem nmX1 : ∀ a, a < 3 → ∀ b, b < 3 → a ≠ b → (TX1 a).2.1 ≠ (TX1 b).2.1 := by decide +kernel
theorem tyX1_ok : ∀ k, k < 3 → parseFieldDescriptor (TX1 k).2.2.1 = some (tyX1 k) := by decide +kernel
theorem inX1 : ∀ w ∈ u_ws RX1 TX1 3, w ∈ lw_tbl := by decide +kernel
def RX2 : String := "SandHouse$Home"
def TX2 : u_T := fun k => match k with
  | 0 => ("SandHouse$Home", "plan", "LSandHouse$Plan;", true)
  | 1 => ("SandHouse$Home", "law", "LSandHouse$Law;", true)
  | _ => ("SandHouse$Home", "facts", "[I", true)
def tyX2 : Nat → FieldType := fun k => match k with
  | 0 => .object "SandHouse$Plan"
  | 1 => .object "SandHouse$Law"
  | _ => .array .int
theorem nmX2 : ∀ a, a < 3 → ∀ b, b < 3 → a ≠ b → (TX2 a).2.1 ≠ (TX2 b).2.1 := by decide +kernel
theorem tyX2_ok : ∀ k, k < 3 → parseFieldDescriptor (TX2 k).2.2.1 = some (tyX2 k) := by decide +kernel
theorem inX2 : ∀ w ∈ u_ws RX2 TX2 3, w ∈ lw_tbl := by decide +kernel
def RX3 : String := "SandHouse$HouseReader"
def TX3 : u_T := fun k => match k with
  | 0 => ("SandHouse$HouseReader", "plan", "LSandHouse$Plan;", true)
  | 1 => ("SandHouse$HouseReader", "grains", "LSandHouse$Grains;", true)
  | 2 => ("SandHouse$HouseReader", "wrong", "I", false)
  | 3 => ("SandHouse$HouseReader", "chosen", "I", false)
  | 4 => ("SandHouse$HouseReader", "number", "I", false)
  | _ => ("SandHouse$HouseReader", "numberStart", "I", false)
def tyX3 : Nat → FieldType := fun k => match k with
  | 0 => .object "SandHouse$Plan"
  | 1 => .object "SandHouse$Grains"
  | 2 => .int
  | 3 => .int
  | 4 => .int
  | _ => .int
theorem nmX3 : ∀ a, a < 6 → ∀ b, b < 6 → a ≠ b → (TX3 a).2.1 ≠ (TX3 b).2.1 := by decide +kernel
theorem tyX3_ok : ∀ k, k < 6 → parseFieldDescriptor (TX3 k).2.2.1 = some (tyX3 k) := by decide +kernel
theorem inX3 : ∀ w ∈ u_ws RX3 TX3 6, w ∈ lw_tbl := by decide +kernel
def RX4 : String := "SandHouse$Image"
def TX4 : u_T := fun k => match k with
  | 0 => ("SandHouse$Image", "plan", "LSandHouse$Plan;", true)
  | 1 => ("SandHouse$Image", "law", "LSandHouse$Law;", true)
  | 2 => ("SandHouse$Image", "grains", "LSandHouse$Grains;", true)
  | 3 => ("SandHouse$Image", "heels", "LSandHouse$Heels;", true)
  | _ => ("SandHouse$Image", "taken", "Z", false)
def tyX4 : Nat → FieldType := fun k => match k with
  | 0 => .object "SandHouse$Plan"
  | 1 => .object "SandHouse$Law"
  | 2 => .object "SandHouse$Grains"
  | 3 => .object "SandHouse$Heels"
  | _ => .boolean
theorem nmX4 : ∀ a, a < 5 → ∀ b, b < 5 → a ≠ b → (TX4 a).2.1 ≠ (TX4 b).2.1 := by decide +kernel
theorem tyX4_ok : ∀ k, k < 5 → parseFieldDescriptor (TX4 k).2.2.1 = some (tyX4 k) := by decide +kernel
theorem inX4 : ∀ w ∈ u_ws RX4 TX4 5, w ∈ lw_tbl := by decide +kernel
def RX5 : String := "SandHouse$Law"
def TX5 : u_T := fun k => match k with
  | 0 => ("SandHouse$Law", "lines", "I", false)
  | 1 => ("SandHouse$Law", "length", "I", false)
  | 2 => ("SandHouse$Law", "kind", "[I", true)
  | 3 => ("SandHouse$Law", "amount", "[I", true)
  | 4 => ("SandHouse$Law", "from", "[I", true)
  | 5 => ("SandHouse$Law", "to", "[I", true)
  | 6 => ("SandHouse$Law", "code", "[I", true)
  | _ => ("SandHouse$Law", "stack", "[J", true)
def tyX5 : Nat → FieldType := fun k => match k with
  | 0 => .int
  | 1 => .int
  | 2 => .array .int
  | 3 => .array .int
  | 4 => .array .int
  | 5 => .array .int
  | 6 => .array .int
  | _ => .array .long
theorem nmX5 : ∀ a, a < 8 → ∀ b, b < 8 → a ≠ b → (TX5 a).2.1 ≠ (TX5 b).2.1 := by decide +kernel
theorem tyX5_ok : ∀ k, k < 8 → parseFieldDescriptor (TX5 k).2.2.1 = some (tyX5 k) := by decide +kernel
theorem inX5 : ∀ w ∈ u_ws RX5 TX5 8, w ∈ lw_tbl := by decide +kernel
def RX6 : String := "SandHouse$LawReader"
def TX6 : u_T := fun k => match k with
  | 0 => ("SandHouse$LawReader", "law", "LSandHouse$Law;", true)
  | _ => ("SandHouse$LawReader", "wrong", "I", false)
def tyX6 : Nat → FieldType := fun k => match k with
  | 0 => .object "SandHouse$Law"
  | _ => .int
theorem nmX6 : ∀ a, a < 2 → ∀ b, b < 2 → a ≠ b → (TX6 a).2.1 ≠ (TX6 b).2.1 := by decide +kernel
theorem tyX6_ok : ∀ k, k < 2 → parseFieldDescriptor (TX6 k).2.2.1 = some (tyX6 k) := by decide +kernel
theorem inX6 : ∀ w ∈ u_ws RX6 TX6 2, w ∈ lw_tbl := by decide +kernel
def RX7 : String := "SandHouse$Past"
def TX7 : u_T := fun k => match k with
  | 0 => ("SandHouse$Past", "grains", "[LSandHouse$Grains;", true)
  | 1 => ("SandHouse$Past", "heels", "[LSandHouse$Heels;", true)
  | 2 => ("SandHouse$Past", "size", "I", false)
  | _ => ("SandHouse$Past", "next", "I", false)
def tyX7 : Nat → FieldType := fun k => match k with
  | 0 => .array (.object "SandHouse$Grains")
  | 1 => .array (.object "SandHouse$Heels")
  | 2 => .int
  | _ => .int
theorem nmX7 : ∀ a, a < 4 → ∀ b, b < 4 → a ≠ b → (TX7 a).2.1 ≠ (TX7 b).2.1 := by decide +kernel
theorem tyX7_ok : ∀ k, k < 4 → parseFieldDescriptor (TX7 k).2.2.1 = some (tyX7 k) := by decide +kernel
theorem inX7 : ∀ w ∈ u_ws RX7 TX7 4, w ∈ lw_tbl := by decide +kernel
def RX8 : String := "SandHouse$Plan"
def TX8 : u_T := fun k => match k with
  | 0 => ("SandHouse$Plan", "rooms", "I", false)
  | 1 => ("SandHouse$Plan", "doors", "I", false)
  | 2 => ("SandHouse$Plan", "people", "I", false)
  | 3 => ("SandHouse$Plan", "texts", "I", false)
  | 4 => ("SandHouse$Plan", "sort", "[I", true)
  | 5 => ("SandHouse$Plan", "minutes", "[I", true)
  | 6 => ("SandHouse$Plan", "near", "[I", true)
  | 7 => ("SandHouse$Plan", "steps", "[I", true)
  | _ => ("SandHouse$Plan", "walk", "[I", true)
def tyX8 : Nat → FieldType := fun k => match k with
  | 0 => .int
  | 1 => .int
  | 2 => .int
  | 3 => .int
  | 4 => .array .int
  | 5 => .array .int
  | 6 => .array .int
  | 7 => .array .int
  | _ => .array .int
theorem nmX8 : ∀ a, a < 9 → ∀ b, b < 9 → a ≠ b → (TX8 a).2.1 ≠ (TX8 b).2.1 := by decide +kernel
theorem tyX8_ok : ∀ k, k < 9 → parseFieldDescriptor (TX8 k).2.2.1 = some (tyX8 k) := by decide +kernel
theorem inX8 : ∀ w ∈ u_ws RX8 TX8 9, w ∈ lw_tbl := by decide +kernel
def RX9 : String := "SandHouse$Tape"
def TX9 : u_T := fun k => match k with
  | 0 => ("SandHouse$Tape", "bytes", "[I", true)
  | 1 => ("SandHouse$Tape", "length", "I", false)
  | 2 => ("SandHouse$Tape", "kind", "I", false)
  | 3 => ("SandHouse$Tape", "start", "I", false)
  | 4 => ("SandHouse$Tape", "behind", "I", false)
  | _ => ("SandHouse$Tape", "value", "I", false)
def tyX9 : Nat → FieldType := fun k => match k with
  | 0 => .array .int
  | 1 => .int
  | 2 => .int
  | 3 => .int
  | 4 => .int
  | _ => .int
theorem nmX9 : ∀ a, a < 6 → ∀ b, b < 6 → a ≠ b → (TX9 a).2.1 ≠ (TX9 b).2.1 := by decide +kernel
theorem tyX9_ok : ∀ k, k < 6 → parseFieldDescriptor (TX9 k).2.2.1 = some (tyX9 k) := by decide +kernel
theorem inX9 : ∀ w ∈ u_ws RX9 TX9 6, w ∈ lw_tbl := by decide +kernel
def RX10 : String := "SandHouse$Trials"
def TX10 : u_T := fun k => match k with
  | 0 => ("SandHouse$Trials", "trial", "LSandHouse$Grains;", true)
  | _ => ("SandHouse$Trials", "swept", "[I", true)
def tyX10 : Nat → FieldType := fun k => match k with
  | 0 => .object "SandHouse$Grains"
  | _ => .array .int
theorem nmX10 : ∀ a, a < 2 → ∀ b, b < 2 → a ≠ b → (TX10 a).2.1 ≠ (TX10 b).2.1 := by decide +kernel
theorem tyX10_ok : ∀ k, k < 2 → parseFieldDescriptor (TX10 k).2.2.1 = some (tyX10 k) := by decide +kernel
theorem inX10 : ∀ w ∈ u_ws RX10 TX10 2, w ∈ lw_tbl := by decide +kernel
def RX11 : String := "SandHouse"
def TX11 : u_T := fun k => match k with
  | 0 => ("SandHouse", "tape", "LSandHouse$Tape;", true)
  | 1 => ("SandHouse", "home", "LSandHouse$Home;", true)
  | 2 => ("SandHouse", "grains", "LSandHouse$Grains;", true)
  | 3 => ("SandHouse", "rows", "LSandHouse$Heels;", true)
  | 4 => ("SandHouse", "past", "LSandHouse$Past;", true)
  | 5 => ("SandHouse", "kept", "LSandHouse$Image;", true)
  | 6 => ("SandHouse", "trials", "LSandHouse$Trials;", true)
  | 7 => ("SandHouse", "houseReader", "LSandHouse$HouseReader;", true)
  | 8 => ("SandHouse", "lawReader", "LSandHouse$LawReader;", true)
  | _ => ("SandHouse", "wrongByte", "I", false)
def tyX11 : Nat → FieldType := fun k => match k with
  | 0 => .object "SandHouse$Tape"
  | 1 => .object "SandHouse$Home"
  | 2 => .object "SandHouse$Grains"
  | 3 => .object "SandHouse$Heels"
  | 4 => .object "SandHouse$Past"
  | 5 => .object "SandHouse$Image"
  | 6 => .object "SandHouse$Trials"
  | 7 => .object "SandHouse$HouseReader"
  | 8 => .object "SandHouse$LawReader"
  | _ => .int
theorem nmX11 : ∀ a, a < 10 → ∀ b, b < 10 → a ≠ b → (TX11 a).2.1 ≠ (TX11 b).2.1 := by decide +kernel
theorem tyX11_ok : ∀ k, k < 10 → parseFieldDescriptor (TX11 k).2.2.1 = some (tyX11 k) := by decide +kernel
theorem inX11 : ∀ w ∈ u_ws RX11 TX11 10, w ∈ lw_tbl := by decide +kernel
def RX12 : String := "SandHouseModel"
def TX12 : u_T := fun k => match k with
  | 0 => ("SandHouseModel", "thrown", "I", false)
  | 1 => ("SandHouseModel", "world", "[I", true)
  | 2 => ("SandHouseModel", "image", "[I", true)
  | 3 => ("SandHouseModel", "before", "[I", true)
  | 4 => ("SandHouseModel", "trial", "[I", true)
  | 5 => ("SandHouseModel", "acts", "[I", true)
  | 6 => ("SandHouseModel", "hasImage", "Z", false)
  | 7 => ("SandHouseModel", "remembered", "I", false)
  | 8 => ("SandHouseModel", "tape", "[B", true)
  | 9 => ("SandHouseModel", "taped", "I", false)
  | 10 => ("SandHouseModel", "point", "I", false)
  | 11 => ("SandHouseModel", "end", "I", false)
  | 12 => ("SandHouseModel", "begin", "I", false)
  | 13 => ("SandHouseModel", "deep", "I", false)
  | 14 => ("SandHouseModel", "faultAt", "I", false)
  | 15 => ("SandHouseModel", "five", "[I", true)
  | 16 => ("SandHouseModel", "steps", "I", false)
  | 17 => ("SandHouseModel", "value", "[I", true)
  | _ => ("SandHouseModel", "taken", "[I", true)
def tyX12 : Nat → FieldType := fun k => match k with
  | 0 => .int
  | 1 => .array .int
  | 2 => .array .int
  | 3 => .array .int
  | 4 => .array .int
  | 5 => .array .int
  | 6 => .boolean
  | 7 => .int
  | 8 => .array .byte
  | 9 => .int
  | 10 => .int
  | 11 => .int
  | 12 => .int
  | 13 => .int
  | 14 => .int
  | 15 => .array .int
  | 16 => .int
  | 17 => .array .int
  | _ => .array .int
theorem nmX12 : ∀ a, a < 19 → ∀ b, b < 19 → a ≠ b → (TX12 a).2.1 ≠ (TX12 b).2.1 := by decide +kernel
theorem tyX12_ok : ∀ k, k < 19 → parseFieldDescriptor (TX12 k).2.2.1 = some (tyX12 k) := by decide +kernel
theorem inX12 : ∀ w ∈ u_ws RX12 TX12 19, w ∈ lw_tbl := by decide +kernel
abbrev vwCl : List vw_C := [(RX0, TX0, 13), (RX1, TX1, 3), (RX2, TX2, 3), (RX3, TX3, 6), (RX4, TX4, 5), (RX5, TX5, 8), (RX6, TX6, 2), (RX7, TX7, 4), (RX8, TX8, 9), (RX9, TX9, 6), (RX10, TX10, 2), (RX11, TX11, 10), (RX12, TX12, 19)]
end
section
/-! AN EVALUATOR over an abstract heap, written out as a function of fuel; behind it: whatever it answers, the machine does (part 'sound').
Values: .ref k is the k-th cell made; .retAddr i the i-th String constant; .float _ the script; .double _ some caught exception. -/
abbrev zS : Type := (Nat × Nat × List (Option Nat)) ⊕ ((Nat × List (Option (Option Nat))) ⊕ Unit)
abbrev zH : Type := List zS × (Nat → Nat → Int32) × (Nat → Nat → Int64) × Nat × Nat
abbrev zE : Type := Nat × (Nat → Int32)
abbrev zLs : Type := List (Option Value)
abbrev zR : Type := (Option Value ⊕ Nat) × zH
abbrev zF : Type := Nat → Nat → Nat → zLs → List Value → zH → Option zR
abbrev ZI : Type := Instr × Nat × (Nat × Nat × Nat) × Int32 × Nat
def zat {α : Type} : List α → Nat → Option α
  | [], _ => none
  | a :: _, 0 => some a
  | _ :: l, n + 1 => zat l n
def zset {α : Type} : List α → Nat → α → List α
  | [], _, _ => []
  | _ :: l, 0, x => x :: l
  | a :: l, n + 1, x => a :: zset l n x
/-- a long is stored no more where its second place is written -/
def zkl (n : Nat) (o : Option Value) : Option Value := match n with
  | 0 => (match o with
    | some (.long _) => none
    | o => o)
  | _ + 1 => o
def zstl : zLs → Nat → Value → zLs
  | [], _, _ => []
  | _ :: l, 0, v => some v :: l
  | o :: l, n + 1, v => zkl n o :: zstl l n v
def zrow {α : Type} (v : Nat → Nat → α) (c : Nat) (f : Nat → α) : Nat → Nat → α := fun c' => cond (Nat.beq c' c) f (v c')
def zpush (h : zH) (s : zS) (n : Nat) : zH := (h.1 ++ [s], zrow h.2.1 h.1.length (fun _ => 0), zrow h.2.2.1 h.1.length (fun _ => 0), h.2.2.2.1 + 1, h.2.2.2.2 + n)
def zsetI (h : zH) (c : Nat) (f : Nat → Int32) : zH := (h.1, zrow h.2.1 c f, h.2.2)
def zsetJ (h : zH) (c : Nat) (f : Nat → Int64) : zH := (h.1, h.2.1, zrow h.2.2.1 c f, h.2.2.2)
def zsetS (h : zH) (c : Nat) (s : zS) : zH := (zset h.1 c s, h.2)
def zrf : Option Nat → Value
  | none => .null
  | some k => .ref k
/-- an index of a row of n -/
def zck (j : Int32) (n : Nat) (r : Option zR) : Option zR := if j < 0 then none else if n ≤ j.toNatClampNeg then none else r
/-- 0 or 1 -/
def zc01 (x : Int32) (r : Option zR) : Option zR := if x = 0 then r else if x = 1 then r else none
def znz (x : Int32) (r : Option zR) : Option zR := if x = 0 then none else r
def znzl (x : Int64) (r : Option zR) : Option zR := if x = 0 then none else r
def zc1 : Value → Bool
  | .long _ => false
  | .double _ => true
  | .float _ => true
  | .int _ => true
  | .null => true
  | .ref _ => true
  | .retAddr _ => true
def zisA : Value → Bool
  | .long _ => false
  | .int _ => false
  | _ => true
def zcw : Value → Nat
  | .long _ => 2
  | _ => 1
def zsum : List Value → Nat
  | [] => 0
  | v :: l => zcw v + zsum l
/-- n values off the stack, the deepest first -/
def zpop : Nat → List Value → List Value → Option (List Value × List Value)
  | 0, st, acc => some (acc, st)
  | _ + 1, [], _ => none
  | n + 1, v :: st, acc => zpop n st (v :: acc)
def zent (n : Nat) (as : List Value) : zLs := as.map some ++ List.replicate (n - as.length) none
def zcall (r : Option zR) (kv : Option Value → zH → Option zR) (kx : Nat → zH → Option zR) : Option zR := match r with
  | none => none
  | some (.inl v, h) => kv v h
  | some (.inr x, h) => kx x h
def zsw (x : Int32) : List (Int32 × Nat) → Nat → (Nat → Option zR) → Option zR
  | [], d, k => k d
  | (a, t) :: l, d, k => if x = a then k t else zsw x l d k
def zlook : List (Nat × ZI) → Nat → Option ZI
  | [], _ => none
  | (k, z) :: l, pc => cond (Nat.beq k pc) (some z) (zlook l pc)
/-- a row of its cells, if it is one of that type -/
def zarr (h : zH) (t a : Nat) (k : Nat → Option zR) : Option zR := match zat h.1 a with
  | some (.inl (t', n, _)) => cond (Nat.beq t' t) (k n) none
  | _ => none
/-- which handler of a table takes x at pc -/
def zhand : List (Nat × Nat × Nat × Nat) → Nat → Nat → Option Nat
  | [], _, _ => none
  | (s, e, t, x') :: l, pc, x => cond (Nat.ble s pc && Nat.blt pc e && Nat.beq x' x) (some t) (zhand l pc x)
end
section
/-! the class, the reference and the law as resolved instructions: (pc, instruction, its length, (what it means), a number, the place of its word) -/
def zp0_0 : List (Nat × ZI) := [(0, (.new 8, 3, (0, 11, 0), 0, 211)), (3, (.dup, 1, (0, 0, 0), 0, 0)), (4, (.invokespecial 134, 3, (0, 38, 0), 0, 213)), (7, (.astore_n 1, 1, (0, 0, 0), 0, 0)), (8, (.new 135, 3, (0, 12, 0), 0, 1611)), (11, (.dup, 1, (0, 0, 0), 0, 0)), (12, (.invokespecial 137, 3, (0, 212, 0), 0, 1613)), (15, (.astore_n 2, 1, (0, 0, 0), 0, 0)), (16, (.iconst 1, 1, (0, 0, 0), 1, 0)), (17, (.newarray .long, 2, (2, 0, 0), 0, 347)), (19, (.astore_n 3, 1, (0, 0, 0), 0, 0)), (20, (.iconst 0, 1, (0, 0, 0), 0, 0)), (21, (.istore 4, 2, (0, 0, 0), 0, 0)), (23, (.iload 4, 2, (0, 0, 0), 0, 0)), (25, (.aload_n 0, 1, (0, 0, 0), 0, 0)), (26, (.arraylength, 1, (0, 0, 0), 0, 0)), (27, (.bipush 6, 2, (0, 0, 0), 6, 0)), (29, (.isub, 1, (0, 0, 0), 0, 0)), (30, (.if_icmp .gt 2933, 3, (2963, 0, 0), 0, 0))]
def zp0_1 : List (Nat × ZI) := [(33, (.aload_n 0, 1, (0, 0, 0), 0, 0)), (34, (.iload 4, 2, (0, 0, 0), 0, 0)), (36, (.iaload, 1, (0, 0, 0), 0, 0)), (37, (.bipush 63, 2, (0, 0, 0), 63, 0)), (39, (.iand, 1, (0, 0, 0), 0, 0)), (40, (.tableswitch 2917 0 47 #[208, 281, 306, 350, 394, 407, 475, 543, 611, 679, 747, 827, 883, 939, 995, 1063, 1131, 1199, 1267, 1347, 1443, 1511, 1579, 1663, 1731, 1787, 1800, 1856, 1924, 2004, 2072, 2156, 2212, 2296, 2352, 2420, 2433, 2489, 2557, 2625, 2669, 2694, 2762, 2830, 2855, 2868, 2879, 2892], 208, (0, 0, 0), 0, 0))]
def zp0_2 : List (Nat × ZI) := []
def zp0_3 : List (Nat × ZI) := []
def zp0_4 : List (Nat × ZI) := []
def zp0_5 : List (Nat × ZI) := []
def zp0_6 : List (Nat × ZI) := []
def zp0_7 : List (Nat × ZI) := [(248, (.aload_n 1, 1, (0, 0, 0), 0, 0)), (249, (.aload_n 0, 1, (0, 0, 0), 0, 0)), (250, (.iload 4, 2, (0, 0, 0), 0, 0)), (252, (.iconst 1, 1, (0, 0, 0), 1, 0)), (253, (.iadd, 1, (0, 0, 0), 0, 0)), (254, (.iaload, 1, (0, 0, 0), 0, 0)), (255, (.aload_n 0, 1, (0, 0, 0), 0, 0))]
def zp0_8 : List (Nat × ZI) := [(256, (.iload 4, 2, (0, 0, 0), 0, 0)), (258, (.iconst 2, 1, (0, 0, 0), 2, 0)), (259, (.iadd, 1, (0, 0, 0), 0, 0)), (260, (.iaload, 1, (0, 0, 0), 0, 0)), (261, (.aload_n 0, 1, (0, 0, 0), 0, 0)), (262, (.iload 4, 2, (0, 0, 0), 0, 0)), (264, (.iconst 3, 1, (0, 0, 0), 3, 0)), (265, (.iadd, 1, (0, 0, 0), 0, 0)), (266, (.iaload, 1, (0, 0, 0), 0, 0)), (267, (.aload_n 0, 1, (0, 0, 0), 0, 0)), (268, (.iload 4, 2, (0, 0, 0), 0, 0)), (270, (.iconst 4, 1, (0, 0, 0), 4, 0)), (271, (.iadd, 1, (0, 0, 0), 0, 0)), (272, (.iaload, 1, (0, 0, 0), 0, 0)), (273, (.aload_n 0, 1, (0, 0, 0), 0, 0)), (274, (.iload 4, 2, (0, 0, 0), 0, 0)), (276, (.iconst 5, 1, (0, 0, 0), 5, 0)), (277, (.iadd, 1, (0, 0, 0), 0, 0)), (278, (.iaload, 1, (0, 0, 0), 0, 0)), (279, (.invokevirtual 138, 3, (0, 39, 0), 0, 606)), (282, (.aload_n 2, 1, (0, 0, 0), 0, 0)), (283, (.aload_n 0, 1, (0, 0, 0), 0, 0)), (284, (.iload 4, 2, (0, 0, 0), 0, 0)), (286, (.iconst 1, 1, (0, 0, 0), 1, 0)), (287, (.iadd, 1, (0, 0, 0), 0, 0))]
def zp0_9 : List (Nat × ZI) := [(288, (.iaload, 1, (0, 0, 0), 0, 0)), (289, (.aload_n 0, 1, (0, 0, 0), 0, 0)), (290, (.iload 4, 2, (0, 0, 0), 0, 0)), (292, (.iconst 2, 1, (0, 0, 0), 2, 0)), (293, (.iadd, 1, (0, 0, 0), 0, 0)), (294, (.iaload, 1, (0, 0, 0), 0, 0)), (295, (.aload_n 0, 1, (0, 0, 0), 0, 0)), (296, (.iload 4, 2, (0, 0, 0), 0, 0)), (298, (.iconst 3, 1, (0, 0, 0), 3, 0)), (299, (.iadd, 1, (0, 0, 0), 0, 0)), (300, (.iaload, 1, (0, 0, 0), 0, 0)), (301, (.aload_n 0, 1, (0, 0, 0), 0, 0)), (302, (.iload 4, 2, (0, 0, 0), 0, 0)), (304, (.iconst 4, 1, (0, 0, 0), 4, 0)), (305, (.iadd, 1, (0, 0, 0), 0, 0)), (306, (.iaload, 1, (0, 0, 0), 0, 0)), (307, (.aload_n 0, 1, (0, 0, 0), 0, 0)), (308, (.iload 4, 2, (0, 0, 0), 0, 0)), (310, (.iconst 5, 1, (0, 0, 0), 5, 0)), (311, (.iadd, 1, (0, 0, 0), 0, 0)), (312, (.iaload, 1, (0, 0, 0), 0, 0)), (313, (.invokevirtual 142, 3, (0, 233, 0), 0, 1687)), (316, (.if_icmp .eq 2641, 3, (2957, 0, 0), 0, 0)), (319, (.iconst 0, 1, (0, 0, 0), 0, 0))]
def zp0_10 : List (Nat × ZI) := [(320, (.ireturn, 1, (0, 0, 0), 0, 0)), (321, (.aload_n 1, 1, (0, 0, 0), 0, 0)), (322, (.aload_n 0, 1, (0, 0, 0), 0, 0)), (323, (.iload 4, 2, (0, 0, 0), 0, 0)), (325, (.iconst 1, 1, (0, 0, 0), 1, 0)), (326, (.iadd, 1, (0, 0, 0), 0, 0)), (327, (.iaload, 1, (0, 0, 0), 0, 0)), (328, (.invokevirtual 143, 3, (0, 40, 0), 0, 614)), (331, (.aload_n 2, 1, (0, 0, 0), 0, 0)), (332, (.aload_n 0, 1, (0, 0, 0), 0, 0)), (333, (.iload 4, 2, (0, 0, 0), 0, 0)), (335, (.iconst 1, 1, (0, 0, 0), 1, 0)), (336, (.iadd, 1, (0, 0, 0), 0, 0)), (337, (.iaload, 1, (0, 0, 0), 0, 0)), (338, (.invokevirtual 147, 3, (0, 234, 0), 0, 1691)), (341, (.if_icmp .eq 2616, 3, (2957, 0, 0), 0, 0)), (344, (.iconst 0, 1, (0, 0, 0), 0, 0)), (345, (.ireturn, 1, (0, 0, 0), 0, 0)), (346, (.aload_n 1, 1, (0, 0, 0), 0, 0)), (347, (.aload_n 3, 1, (0, 0, 0), 0, 0)), (348, (.invokestatic 148, 3, (0, 1, 0), 0, 805)), (351, (.istore 5, 2, (0, 0, 0), 0, 0))]
def zp0_11 : List (Nat × ZI) := [(353, (.aload_n 2, 1, (0, 0, 0), 0, 0)), (354, (.invokevirtual 153, 3, (0, 266, 0), 0, 1699)), (357, (.istore 6, 2, (0, 0, 0), 0, 0)), (359, (.aload_n 2, 1, (0, 0, 0), 0, 0)), (360, (.invokevirtual 154, 3, (0, 208, 0), 0, 1607)), (363, (.iload 5, 2, (0, 0, 0), 0, 0)), (365, (.if_icmp .eq 5, 3, (370, 0, 0), 0, 0)), (368, (.iconst 0, 1, (0, 0, 0), 0, 0)), (369, (.ireturn, 1, (0, 0, 0), 0, 0)), (370, (.iload 5, 2, (0, 0, 0), 0, 0)), (372, (.ifCond .ne 15, 3, (387, 0, 0), 0, 0)), (375, (.aload_n 3, 1, (0, 0, 0), 0, 0)), (376, (.iconst 0, 1, (0, 0, 0), 0, 0)), (377, (.laload, 1, (0, 0, 0), 0, 0)), (378, (.iload 6, 2, (0, 0, 0), 0, 0)), (380, (.i2l, 1, (0, 0, 0), 0, 0)), (381, (.lcmp, 1, (0, 0, 0), 0, 0)), (382, (.ifCond .eq 5, 3, (387, 0, 0), 0, 0))]
def zp0_12 : List (Nat × ZI) := [(385, (.iconst 0, 1, (0, 0, 0), 0, 0)), (386, (.ireturn, 1, (0, 0, 0), 0, 0)), (387, (.goto 2570, 3, (2957, 0, 0), 0, 0)), (390, (.aload_n 1, 1, (0, 0, 0), 0, 0)), (391, (.aload_n 3, 1, (0, 0, 0), 0, 0)), (392, (.invokestatic 157, 3, (0, 2, 0), 0, 1044)), (395, (.istore 5, 2, (0, 0, 0), 0, 0)), (397, (.aload_n 2, 1, (0, 0, 0), 0, 0)), (398, (.invokevirtual 159, 3, (0, 267, 0), 0, 1890)), (401, (.istore 6, 2, (0, 0, 0), 0, 0)), (403, (.aload_n 2, 1, (0, 0, 0), 0, 0)), (404, (.invokevirtual 154, 3, (0, 208, 0), 0, 1607)), (407, (.iload 5, 2, (0, 0, 0), 0, 0)), (409, (.if_icmp .eq 5, 3, (414, 0, 0), 0, 0)), (412, (.iconst 0, 1, (0, 0, 0), 0, 0)), (413, (.ireturn, 1, (0, 0, 0), 0, 0)), (414, (.iload 5, 2, (0, 0, 0), 0, 0))]
def zp0_13 : List (Nat × ZI) := [(416, (.ifCond .ne 15, 3, (431, 0, 0), 0, 0)), (419, (.aload_n 3, 1, (0, 0, 0), 0, 0)), (420, (.iconst 0, 1, (0, 0, 0), 0, 0)), (421, (.laload, 1, (0, 0, 0), 0, 0)), (422, (.iload 6, 2, (0, 0, 0), 0, 0)), (424, (.i2l, 1, (0, 0, 0), 0, 0)), (425, (.lcmp, 1, (0, 0, 0), 0, 0)), (426, (.ifCond .eq 5, 3, (431, 0, 0), 0, 0)), (429, (.iconst 0, 1, (0, 0, 0), 0, 0)), (430, (.ireturn, 1, (0, 0, 0), 0, 0)), (431, (.goto 2526, 3, (2957, 0, 0), 0, 0)), (434, (.aload_n 1, 1, (0, 0, 0), 0, 0)), (435, (.invokevirtual 160, 3, (0, 43, 0), 0, 618)), (438, (.aload_n 2, 1, (0, 0, 0), 0, 0)), (439, (.invokevirtual 163, 3, (0, 244, 0), 0, 1695)), (442, (.if_icmp .eq 2515, 3, (2957, 0, 0), 0, 0)), (445, (.iconst 0, 1, (0, 0, 0), 0, 0)), (446, (.ireturn, 1, (0, 0, 0), 0, 0)), (447, (.aload_n 1, 1, (0, 0, 0), 0, 0))]
def zp0_14 : List (Nat × ZI) := [(448, (.aload_n 0, 1, (0, 0, 0), 0, 0)), (449, (.iload 4, 2, (0, 0, 0), 0, 0)), (451, (.iconst 1, 1, (0, 0, 0), 1, 0)), (452, (.iadd, 1, (0, 0, 0), 0, 0)), (453, (.iaload, 1, (0, 0, 0), 0, 0)), (454, (.aload_n 0, 1, (0, 0, 0), 0, 0)), (455, (.iload 4, 2, (0, 0, 0), 0, 0)), (457, (.iconst 2, 1, (0, 0, 0), 2, 0)), (458, (.iadd, 1, (0, 0, 0), 0, 0)), (459, (.iaload, 1, (0, 0, 0), 0, 0)), (460, (.aload_n 3, 1, (0, 0, 0), 0, 0)), (461, (.invokestatic 164, 3, (0, 3, 0), 0, 1119)), (464, (.istore 5, 2, (0, 0, 0), 0, 0)), (466, (.aload_n 2, 1, (0, 0, 0), 0, 0)), (467, (.aload_n 0, 1, (0, 0, 0), 0, 0)), (468, (.iload 4, 2, (0, 0, 0), 0, 0)), (470, (.iconst 1, 1, (0, 0, 0), 1, 0)), (471, (.iadd, 1, (0, 0, 0), 0, 0)), (472, (.iaload, 1, (0, 0, 0), 0, 0)), (473, (.aload_n 0, 1, (0, 0, 0), 0, 0)), (474, (.iload 4, 2, (0, 0, 0), 0, 0)), (476, (.iconst 2, 1, (0, 0, 0), 2, 0)), (477, (.iadd, 1, (0, 0, 0), 0, 0)), (478, (.iaload, 1, (0, 0, 0), 0, 0)), (479, (.invokevirtual 167, 3, (0, 273, 0), 0, 1894))]
def zp0_15 : List (Nat × ZI) := [(482, (.istore 6, 2, (0, 0, 0), 0, 0)), (484, (.aload_n 2, 1, (0, 0, 0), 0, 0)), (485, (.invokevirtual 154, 3, (0, 208, 0), 0, 1607)), (488, (.iload 5, 2, (0, 0, 0), 0, 0)), (490, (.if_icmp .eq 5, 3, (495, 0, 0), 0, 0)), (493, (.iconst 0, 1, (0, 0, 0), 0, 0)), (494, (.ireturn, 1, (0, 0, 0), 0, 0)), (495, (.iload 5, 2, (0, 0, 0), 0, 0)), (497, (.ifCond .ne 15, 3, (512, 0, 0), 0, 0)), (500, (.aload_n 3, 1, (0, 0, 0), 0, 0)), (501, (.iconst 0, 1, (0, 0, 0), 0, 0)), (502, (.laload, 1, (0, 0, 0), 0, 0)), (503, (.iload 6, 2, (0, 0, 0), 0, 0)), (505, (.i2l, 1, (0, 0, 0), 0, 0)), (506, (.lcmp, 1, (0, 0, 0), 0, 0)), (507, (.ifCond .eq 5, 3, (512, 0, 0), 0, 0)), (510, (.iconst 0, 1, (0, 0, 0), 0, 0)), (511, (.ireturn, 1, (0, 0, 0), 0, 0))]
def zp0_16 : List (Nat × ZI) := [(512, (.goto 2445, 3, (2957, 0, 0), 0, 0)), (515, (.aload_n 1, 1, (0, 0, 0), 0, 0)), (516, (.aload_n 0, 1, (0, 0, 0), 0, 0)), (517, (.iload 4, 2, (0, 0, 0), 0, 0)), (519, (.iconst 1, 1, (0, 0, 0), 1, 0)), (520, (.iadd, 1, (0, 0, 0), 0, 0)), (521, (.iaload, 1, (0, 0, 0), 0, 0)), (522, (.aload_n 0, 1, (0, 0, 0), 0, 0)), (523, (.iload 4, 2, (0, 0, 0), 0, 0)), (525, (.iconst 2, 1, (0, 0, 0), 2, 0)), (526, (.iadd, 1, (0, 0, 0), 0, 0)), (527, (.iaload, 1, (0, 0, 0), 0, 0)), (528, (.aload_n 3, 1, (0, 0, 0), 0, 0)), (529, (.invokestatic 168, 3, (0, 4, 0), 0, 1183)), (532, (.istore 5, 2, (0, 0, 0), 0, 0)), (534, (.aload_n 2, 1, (0, 0, 0), 0, 0)), (535, (.aload_n 0, 1, (0, 0, 0), 0, 0)), (536, (.iload 4, 2, (0, 0, 0), 0, 0)), (538, (.iconst 1, 1, (0, 0, 0), 1, 0)), (539, (.iadd, 1, (0, 0, 0), 0, 0)), (540, (.iaload, 1, (0, 0, 0), 0, 0)), (541, (.aload_n 0, 1, (0, 0, 0), 0, 0)), (542, (.iload 4, 2, (0, 0, 0), 0, 0))]
def zp0_17 : List (Nat × ZI) := [(544, (.iconst 2, 1, (0, 0, 0), 2, 0)), (545, (.iadd, 1, (0, 0, 0), 0, 0)), (546, (.iaload, 1, (0, 0, 0), 0, 0)), (547, (.invokevirtual 170, 3, (0, 274, 0), 0, 1937)), (550, (.istore 6, 2, (0, 0, 0), 0, 0)), (552, (.aload_n 2, 1, (0, 0, 0), 0, 0)), (553, (.invokevirtual 154, 3, (0, 208, 0), 0, 1607)), (556, (.iload 5, 2, (0, 0, 0), 0, 0)), (558, (.if_icmp .eq 5, 3, (563, 0, 0), 0, 0)), (561, (.iconst 0, 1, (0, 0, 0), 0, 0)), (562, (.ireturn, 1, (0, 0, 0), 0, 0)), (563, (.iload 5, 2, (0, 0, 0), 0, 0)), (565, (.ifCond .ne 15, 3, (580, 0, 0), 0, 0)), (568, (.aload_n 3, 1, (0, 0, 0), 0, 0)), (569, (.iconst 0, 1, (0, 0, 0), 0, 0)), (570, (.laload, 1, (0, 0, 0), 0, 0)), (571, (.iload 6, 2, (0, 0, 0), 0, 0)), (573, (.i2l, 1, (0, 0, 0), 0, 0)), (574, (.lcmp, 1, (0, 0, 0), 0, 0)), (575, (.ifCond .eq 5, 3, (580, 0, 0), 0, 0))]
def zp0_18 : List (Nat × ZI) := [(578, (.iconst 0, 1, (0, 0, 0), 0, 0)), (579, (.ireturn, 1, (0, 0, 0), 0, 0)), (580, (.goto 2377, 3, (2957, 0, 0), 0, 0)), (583, (.aload_n 1, 1, (0, 0, 0), 0, 0)), (584, (.aload_n 0, 1, (0, 0, 0), 0, 0)), (585, (.iload 4, 2, (0, 0, 0), 0, 0)), (587, (.iconst 1, 1, (0, 0, 0), 1, 0)), (588, (.iadd, 1, (0, 0, 0), 0, 0)), (589, (.iaload, 1, (0, 0, 0), 0, 0)), (590, (.aload_n 0, 1, (0, 0, 0), 0, 0)), (591, (.iload 4, 2, (0, 0, 0), 0, 0)), (593, (.iconst 2, 1, (0, 0, 0), 2, 0)), (594, (.iadd, 1, (0, 0, 0), 0, 0)), (595, (.iaload, 1, (0, 0, 0), 0, 0)), (596, (.aload_n 3, 1, (0, 0, 0), 0, 0)), (597, (.invokestatic 171, 3, (0, 5, 0), 0, 1195)), (600, (.istore 5, 2, (0, 0, 0), 0, 0)), (602, (.aload_n 2, 1, (0, 0, 0), 0, 0)), (603, (.aload_n 0, 1, (0, 0, 0), 0, 0)), (604, (.iload 4, 2, (0, 0, 0), 0, 0)), (606, (.iconst 1, 1, (0, 0, 0), 1, 0)), (607, (.iadd, 1, (0, 0, 0), 0, 0))]
def zp0_19 : List (Nat × ZI) := [(608, (.iaload, 1, (0, 0, 0), 0, 0)), (609, (.aload_n 0, 1, (0, 0, 0), 0, 0)), (610, (.iload 4, 2, (0, 0, 0), 0, 0)), (612, (.iconst 2, 1, (0, 0, 0), 2, 0)), (613, (.iadd, 1, (0, 0, 0), 0, 0)), (614, (.iaload, 1, (0, 0, 0), 0, 0)), (615, (.invokevirtual 173, 3, (0, 276, 0), 0, 1945)), (618, (.istore 6, 2, (0, 0, 0), 0, 0)), (620, (.aload_n 2, 1, (0, 0, 0), 0, 0)), (621, (.invokevirtual 154, 3, (0, 208, 0), 0, 1607)), (624, (.iload 5, 2, (0, 0, 0), 0, 0)), (626, (.if_icmp .eq 5, 3, (631, 0, 0), 0, 0)), (629, (.iconst 0, 1, (0, 0, 0), 0, 0)), (630, (.ireturn, 1, (0, 0, 0), 0, 0)), (631, (.iload 5, 2, (0, 0, 0), 0, 0)), (633, (.ifCond .ne 15, 3, (648, 0, 0), 0, 0)), (636, (.aload_n 3, 1, (0, 0, 0), 0, 0)), (637, (.iconst 0, 1, (0, 0, 0), 0, 0)), (638, (.laload, 1, (0, 0, 0), 0, 0)), (639, (.iload 6, 2, (0, 0, 0), 0, 0))]
def zp0_20 : List (Nat × ZI) := [(641, (.i2l, 1, (0, 0, 0), 0, 0)), (642, (.lcmp, 1, (0, 0, 0), 0, 0)), (643, (.ifCond .eq 5, 3, (648, 0, 0), 0, 0)), (646, (.iconst 0, 1, (0, 0, 0), 0, 0)), (647, (.ireturn, 1, (0, 0, 0), 0, 0)), (648, (.goto 2309, 3, (2957, 0, 0), 0, 0)), (651, (.aload_n 1, 1, (0, 0, 0), 0, 0)), (652, (.aload_n 0, 1, (0, 0, 0), 0, 0)), (653, (.iload 4, 2, (0, 0, 0), 0, 0)), (655, (.iconst 1, 1, (0, 0, 0), 1, 0)), (656, (.iadd, 1, (0, 0, 0), 0, 0)), (657, (.iaload, 1, (0, 0, 0), 0, 0)), (658, (.aload_n 0, 1, (0, 0, 0), 0, 0)), (659, (.iload 4, 2, (0, 0, 0), 0, 0)), (661, (.iconst 2, 1, (0, 0, 0), 2, 0)), (662, (.iadd, 1, (0, 0, 0), 0, 0)), (663, (.iaload, 1, (0, 0, 0), 0, 0)), (664, (.aload_n 3, 1, (0, 0, 0), 0, 0)), (665, (.invokestatic 174, 3, (0, 6, 0), 0, 1209)), (668, (.istore 5, 2, (0, 0, 0), 0, 0)), (670, (.aload_n 2, 1, (0, 0, 0), 0, 0)), (671, (.aload_n 0, 1, (0, 0, 0), 0, 0))]
def zp0_21 : List (Nat × ZI) := [(672, (.iload 4, 2, (0, 0, 0), 0, 0)), (674, (.iconst 1, 1, (0, 0, 0), 1, 0)), (675, (.iadd, 1, (0, 0, 0), 0, 0)), (676, (.iaload, 1, (0, 0, 0), 0, 0)), (677, (.aload_n 0, 1, (0, 0, 0), 0, 0)), (678, (.iload 4, 2, (0, 0, 0), 0, 0)), (680, (.iconst 2, 1, (0, 0, 0), 2, 0)), (681, (.iadd, 1, (0, 0, 0), 0, 0)), (682, (.iaload, 1, (0, 0, 0), 0, 0)), (683, (.invokevirtual 176, 3, (0, 277, 0), 0, 1953)), (686, (.istore 6, 2, (0, 0, 0), 0, 0)), (688, (.aload_n 2, 1, (0, 0, 0), 0, 0)), (689, (.invokevirtual 154, 3, (0, 208, 0), 0, 1607)), (692, (.iload 5, 2, (0, 0, 0), 0, 0)), (694, (.if_icmp .eq 5, 3, (699, 0, 0), 0, 0)), (697, (.iconst 0, 1, (0, 0, 0), 0, 0)), (698, (.ireturn, 1, (0, 0, 0), 0, 0)), (699, (.iload 5, 2, (0, 0, 0), 0, 0)), (701, (.ifCond .ne 15, 3, (716, 0, 0), 0, 0))]
def zp0_22 : List (Nat × ZI) := [(704, (.aload_n 3, 1, (0, 0, 0), 0, 0)), (705, (.iconst 0, 1, (0, 0, 0), 0, 0)), (706, (.laload, 1, (0, 0, 0), 0, 0)), (707, (.iload 6, 2, (0, 0, 0), 0, 0)), (709, (.i2l, 1, (0, 0, 0), 0, 0)), (710, (.lcmp, 1, (0, 0, 0), 0, 0)), (711, (.ifCond .eq 5, 3, (716, 0, 0), 0, 0)), (714, (.iconst 0, 1, (0, 0, 0), 0, 0)), (715, (.ireturn, 1, (0, 0, 0), 0, 0)), (716, (.goto 2241, 3, (2957, 0, 0), 0, 0)), (719, (.aload_n 1, 1, (0, 0, 0), 0, 0)), (720, (.aload_n 0, 1, (0, 0, 0), 0, 0)), (721, (.iload 4, 2, (0, 0, 0), 0, 0)), (723, (.iconst 1, 1, (0, 0, 0), 1, 0)), (724, (.iadd, 1, (0, 0, 0), 0, 0)), (725, (.iaload, 1, (0, 0, 0), 0, 0)), (726, (.aload_n 0, 1, (0, 0, 0), 0, 0)), (727, (.iload 4, 2, (0, 0, 0), 0, 0)), (729, (.iconst 2, 1, (0, 0, 0), 2, 0)), (730, (.iadd, 1, (0, 0, 0), 0, 0)), (731, (.iaload, 1, (0, 0, 0), 0, 0)), (732, (.aload_n 3, 1, (0, 0, 0), 0, 0)), (733, (.invokestatic 177, 3, (0, 7, 0), 0, 1216))]
def zp0_23 : List (Nat × ZI) := [(736, (.istore 5, 2, (0, 0, 0), 0, 0)), (738, (.aload_n 2, 1, (0, 0, 0), 0, 0)), (739, (.aload_n 0, 1, (0, 0, 0), 0, 0)), (740, (.iload 4, 2, (0, 0, 0), 0, 0)), (742, (.iconst 1, 1, (0, 0, 0), 1, 0)), (743, (.iadd, 1, (0, 0, 0), 0, 0)), (744, (.iaload, 1, (0, 0, 0), 0, 0)), (745, (.aload_n 0, 1, (0, 0, 0), 0, 0)), (746, (.iload 4, 2, (0, 0, 0), 0, 0)), (748, (.iconst 2, 1, (0, 0, 0), 2, 0)), (749, (.iadd, 1, (0, 0, 0), 0, 0)), (750, (.iaload, 1, (0, 0, 0), 0, 0)), (751, (.invokevirtual 179, 3, (0, 278, 0), 0, 1957)), (754, (.istore 6, 2, (0, 0, 0), 0, 0)), (756, (.aload_n 2, 1, (0, 0, 0), 0, 0)), (757, (.invokevirtual 154, 3, (0, 208, 0), 0, 1607)), (760, (.iload 5, 2, (0, 0, 0), 0, 0)), (762, (.if_icmp .eq 5, 3, (767, 0, 0), 0, 0)), (765, (.iconst 0, 1, (0, 0, 0), 0, 0)), (766, (.ireturn, 1, (0, 0, 0), 0, 0)), (767, (.iload 5, 2, (0, 0, 0), 0, 0))]
def zp0_24 : List (Nat × ZI) := [(769, (.ifCond .ne 15, 3, (784, 0, 0), 0, 0)), (772, (.aload_n 3, 1, (0, 0, 0), 0, 0)), (773, (.iconst 0, 1, (0, 0, 0), 0, 0)), (774, (.laload, 1, (0, 0, 0), 0, 0)), (775, (.iload 6, 2, (0, 0, 0), 0, 0)), (777, (.i2l, 1, (0, 0, 0), 0, 0)), (778, (.lcmp, 1, (0, 0, 0), 0, 0)), (779, (.ifCond .eq 5, 3, (784, 0, 0), 0, 0)), (782, (.iconst 0, 1, (0, 0, 0), 0, 0)), (783, (.ireturn, 1, (0, 0, 0), 0, 0)), (784, (.goto 2173, 3, (2957, 0, 0), 0, 0)), (787, (.aload_n 1, 1, (0, 0, 0), 0, 0)), (788, (.aload_n 0, 1, (0, 0, 0), 0, 0)), (789, (.iload 4, 2, (0, 0, 0), 0, 0)), (791, (.iconst 1, 1, (0, 0, 0), 1, 0)), (792, (.iadd, 1, (0, 0, 0), 0, 0)), (793, (.iaload, 1, (0, 0, 0), 0, 0)), (794, (.aload_n 0, 1, (0, 0, 0), 0, 0)), (795, (.iload 4, 2, (0, 0, 0), 0, 0)), (797, (.iconst 2, 1, (0, 0, 0), 2, 0)), (798, (.iadd, 1, (0, 0, 0), 0, 0)), (799, (.iaload, 1, (0, 0, 0), 0, 0))]
def zp0_25 : List (Nat × ZI) := [(800, (.aload_n 0, 1, (0, 0, 0), 0, 0)), (801, (.iload 4, 2, (0, 0, 0), 0, 0)), (803, (.iconst 3, 1, (0, 0, 0), 3, 0)), (804, (.iadd, 1, (0, 0, 0), 0, 0)), (805, (.iaload, 1, (0, 0, 0), 0, 0)), (806, (.aload_n 3, 1, (0, 0, 0), 0, 0)), (807, (.invokestatic 180, 3, (0, 8, 0), 0, 1223)), (810, (.istore 5, 2, (0, 0, 0), 0, 0)), (812, (.aload_n 2, 1, (0, 0, 0), 0, 0)), (813, (.aload_n 0, 1, (0, 0, 0), 0, 0)), (814, (.iload 4, 2, (0, 0, 0), 0, 0)), (816, (.iconst 1, 1, (0, 0, 0), 1, 0)), (817, (.iadd, 1, (0, 0, 0), 0, 0)), (818, (.iaload, 1, (0, 0, 0), 0, 0)), (819, (.aload_n 0, 1, (0, 0, 0), 0, 0)), (820, (.iload 4, 2, (0, 0, 0), 0, 0)), (822, (.iconst 2, 1, (0, 0, 0), 2, 0)), (823, (.iadd, 1, (0, 0, 0), 0, 0)), (824, (.iaload, 1, (0, 0, 0), 0, 0)), (825, (.aload_n 0, 1, (0, 0, 0), 0, 0)), (826, (.iload 4, 2, (0, 0, 0), 0, 0)), (828, (.iconst 3, 1, (0, 0, 0), 3, 0)), (829, (.iadd, 1, (0, 0, 0), 0, 0)), (830, (.iaload, 1, (0, 0, 0), 0, 0)), (831, (.invokevirtual 183, 3, (0, 279, 0), 0, 1961))]
def zp0_26 : List (Nat × ZI) := [(834, (.istore 6, 2, (0, 0, 0), 0, 0)), (836, (.aload_n 2, 1, (0, 0, 0), 0, 0)), (837, (.invokevirtual 154, 3, (0, 208, 0), 0, 1607)), (840, (.iload 5, 2, (0, 0, 0), 0, 0)), (842, (.if_icmp .eq 5, 3, (847, 0, 0), 0, 0)), (845, (.iconst 0, 1, (0, 0, 0), 0, 0)), (846, (.ireturn, 1, (0, 0, 0), 0, 0)), (847, (.iload 5, 2, (0, 0, 0), 0, 0)), (849, (.ifCond .ne 15, 3, (864, 0, 0), 0, 0)), (852, (.aload_n 3, 1, (0, 0, 0), 0, 0)), (853, (.iconst 0, 1, (0, 0, 0), 0, 0)), (854, (.laload, 1, (0, 0, 0), 0, 0)), (855, (.iload 6, 2, (0, 0, 0), 0, 0)), (857, (.i2l, 1, (0, 0, 0), 0, 0)), (858, (.lcmp, 1, (0, 0, 0), 0, 0)), (859, (.ifCond .eq 5, 3, (864, 0, 0), 0, 0)), (862, (.iconst 0, 1, (0, 0, 0), 0, 0)), (863, (.ireturn, 1, (0, 0, 0), 0, 0))]
def zp0_27 : List (Nat × ZI) := [(864, (.goto 2093, 3, (2957, 0, 0), 0, 0)), (867, (.aload_n 1, 1, (0, 0, 0), 0, 0)), (868, (.aload_n 0, 1, (0, 0, 0), 0, 0)), (869, (.iload 4, 2, (0, 0, 0), 0, 0)), (871, (.iconst 1, 1, (0, 0, 0), 1, 0)), (872, (.iadd, 1, (0, 0, 0), 0, 0)), (873, (.iaload, 1, (0, 0, 0), 0, 0)), (874, (.aload_n 3, 1, (0, 0, 0), 0, 0)), (875, (.invokestatic 184, 3, (0, 9, 0), 0, 1235)), (878, (.istore 5, 2, (0, 0, 0), 0, 0)), (880, (.aload_n 2, 1, (0, 0, 0), 0, 0)), (881, (.aload_n 0, 1, (0, 0, 0), 0, 0)), (882, (.iload 4, 2, (0, 0, 0), 0, 0)), (884, (.iconst 1, 1, (0, 0, 0), 1, 0)), (885, (.iadd, 1, (0, 0, 0), 0, 0)), (886, (.iaload, 1, (0, 0, 0), 0, 0)), (887, (.invokevirtual 187, 3, (0, 285, 0), 0, 1965)), (890, (.istore 6, 2, (0, 0, 0), 0, 0)), (892, (.aload_n 2, 1, (0, 0, 0), 0, 0)), (893, (.invokevirtual 154, 3, (0, 208, 0), 0, 1607))]
def zp0_28 : List (Nat × ZI) := [(896, (.iload 5, 2, (0, 0, 0), 0, 0)), (898, (.if_icmp .eq 5, 3, (903, 0, 0), 0, 0)), (901, (.iconst 0, 1, (0, 0, 0), 0, 0)), (902, (.ireturn, 1, (0, 0, 0), 0, 0)), (903, (.iload 5, 2, (0, 0, 0), 0, 0)), (905, (.ifCond .ne 15, 3, (920, 0, 0), 0, 0)), (908, (.aload_n 3, 1, (0, 0, 0), 0, 0)), (909, (.iconst 0, 1, (0, 0, 0), 0, 0)), (910, (.laload, 1, (0, 0, 0), 0, 0)), (911, (.iload 6, 2, (0, 0, 0), 0, 0)), (913, (.i2l, 1, (0, 0, 0), 0, 0)), (914, (.lcmp, 1, (0, 0, 0), 0, 0)), (915, (.ifCond .eq 5, 3, (920, 0, 0), 0, 0)), (918, (.iconst 0, 1, (0, 0, 0), 0, 0)), (919, (.ireturn, 1, (0, 0, 0), 0, 0)), (920, (.goto 2037, 3, (2957, 0, 0), 0, 0)), (923, (.aload_n 1, 1, (0, 0, 0), 0, 0)), (924, (.aload_n 0, 1, (0, 0, 0), 0, 0)), (925, (.iload 4, 2, (0, 0, 0), 0, 0)), (927, (.iconst 1, 1, (0, 0, 0), 1, 0))]
def zp0_29 : List (Nat × ZI) := [(928, (.iadd, 1, (0, 0, 0), 0, 0)), (929, (.iaload, 1, (0, 0, 0), 0, 0)), (930, (.aload_n 3, 1, (0, 0, 0), 0, 0)), (931, (.invokestatic 188, 3, (0, 10, 0), 0, 1254)), (934, (.istore 5, 2, (0, 0, 0), 0, 0)), (936, (.aload_n 2, 1, (0, 0, 0), 0, 0)), (937, (.aload_n 0, 1, (0, 0, 0), 0, 0)), (938, (.iload 4, 2, (0, 0, 0), 0, 0)), (940, (.iconst 1, 1, (0, 0, 0), 1, 0)), (941, (.iadd, 1, (0, 0, 0), 0, 0)), (942, (.iaload, 1, (0, 0, 0), 0, 0)), (943, (.invokevirtual 190, 3, (0, 288, 0), 0, 1999)), (946, (.istore 6, 2, (0, 0, 0), 0, 0)), (948, (.aload_n 2, 1, (0, 0, 0), 0, 0)), (949, (.invokevirtual 154, 3, (0, 208, 0), 0, 1607)), (952, (.iload 5, 2, (0, 0, 0), 0, 0)), (954, (.if_icmp .eq 5, 3, (959, 0, 0), 0, 0)), (957, (.iconst 0, 1, (0, 0, 0), 0, 0)), (958, (.ireturn, 1, (0, 0, 0), 0, 0)), (959, (.iload 5, 2, (0, 0, 0), 0, 0))]
def zp0_30 : List (Nat × ZI) := [(961, (.ifCond .ne 15, 3, (976, 0, 0), 0, 0)), (964, (.aload_n 3, 1, (0, 0, 0), 0, 0)), (965, (.iconst 0, 1, (0, 0, 0), 0, 0)), (966, (.laload, 1, (0, 0, 0), 0, 0)), (967, (.iload 6, 2, (0, 0, 0), 0, 0)), (969, (.i2l, 1, (0, 0, 0), 0, 0)), (970, (.lcmp, 1, (0, 0, 0), 0, 0)), (971, (.ifCond .eq 5, 3, (976, 0, 0), 0, 0)), (974, (.iconst 0, 1, (0, 0, 0), 0, 0)), (975, (.ireturn, 1, (0, 0, 0), 0, 0)), (976, (.goto 1981, 3, (2957, 0, 0), 0, 0)), (979, (.aload_n 1, 1, (0, 0, 0), 0, 0)), (980, (.aload_n 0, 1, (0, 0, 0), 0, 0)), (981, (.iload 4, 2, (0, 0, 0), 0, 0)), (983, (.iconst 1, 1, (0, 0, 0), 1, 0)), (984, (.iadd, 1, (0, 0, 0), 0, 0)), (985, (.iaload, 1, (0, 0, 0), 0, 0)), (986, (.aload_n 3, 1, (0, 0, 0), 0, 0)), (987, (.invokestatic 191, 3, (0, 11, 0), 0, 1266)), (990, (.istore 5, 2, (0, 0, 0), 0, 0))]
def zp0_31 : List (Nat × ZI) := [(992, (.aload_n 2, 1, (0, 0, 0), 0, 0)), (993, (.aload_n 0, 1, (0, 0, 0), 0, 0)), (994, (.iload 4, 2, (0, 0, 0), 0, 0)), (996, (.iconst 1, 1, (0, 0, 0), 1, 0)), (997, (.iadd, 1, (0, 0, 0), 0, 0)), (998, (.iaload, 1, (0, 0, 0), 0, 0)), (999, (.invokevirtual 193, 3, (0, 289, 0), 0, 2007)), (1002, (.istore 6, 2, (0, 0, 0), 0, 0)), (1004, (.aload_n 2, 1, (0, 0, 0), 0, 0)), (1005, (.invokevirtual 154, 3, (0, 208, 0), 0, 1607)), (1008, (.iload 5, 2, (0, 0, 0), 0, 0)), (1010, (.if_icmp .eq 5, 3, (1015, 0, 0), 0, 0)), (1013, (.iconst 0, 1, (0, 0, 0), 0, 0)), (1014, (.ireturn, 1, (0, 0, 0), 0, 0)), (1015, (.iload 5, 2, (0, 0, 0), 0, 0)), (1017, (.ifCond .ne 15, 3, (1032, 0, 0), 0, 0)), (1020, (.aload_n 3, 1, (0, 0, 0), 0, 0)), (1021, (.iconst 0, 1, (0, 0, 0), 0, 0)), (1022, (.laload, 1, (0, 0, 0), 0, 0)), (1023, (.iload 6, 2, (0, 0, 0), 0, 0))]
def zp0_32 : List (Nat × ZI) := [(1025, (.i2l, 1, (0, 0, 0), 0, 0)), (1026, (.lcmp, 1, (0, 0, 0), 0, 0)), (1027, (.ifCond .eq 5, 3, (1032, 0, 0), 0, 0)), (1030, (.iconst 0, 1, (0, 0, 0), 0, 0)), (1031, (.ireturn, 1, (0, 0, 0), 0, 0)), (1032, (.goto 1925, 3, (2957, 0, 0), 0, 0)), (1035, (.aload_n 1, 1, (0, 0, 0), 0, 0)), (1036, (.aload_n 0, 1, (0, 0, 0), 0, 0)), (1037, (.iload 4, 2, (0, 0, 0), 0, 0)), (1039, (.iconst 1, 1, (0, 0, 0), 1, 0)), (1040, (.iadd, 1, (0, 0, 0), 0, 0)), (1041, (.iaload, 1, (0, 0, 0), 0, 0)), (1042, (.aload_n 0, 1, (0, 0, 0), 0, 0)), (1043, (.iload 4, 2, (0, 0, 0), 0, 0)), (1045, (.iconst 2, 1, (0, 0, 0), 2, 0)), (1046, (.iadd, 1, (0, 0, 0), 0, 0)), (1047, (.iaload, 1, (0, 0, 0), 0, 0)), (1048, (.aload_n 3, 1, (0, 0, 0), 0, 0)), (1049, (.invokestatic 194, 3, (0, 12, 0), 0, 1278)), (1052, (.istore 5, 2, (0, 0, 0), 0, 0)), (1054, (.aload_n 2, 1, (0, 0, 0), 0, 0)), (1055, (.aload_n 0, 1, (0, 0, 0), 0, 0))]
def zp0_33 : List (Nat × ZI) := [(1056, (.iload 4, 2, (0, 0, 0), 0, 0)), (1058, (.iconst 1, 1, (0, 0, 0), 1, 0)), (1059, (.iadd, 1, (0, 0, 0), 0, 0)), (1060, (.iaload, 1, (0, 0, 0), 0, 0)), (1061, (.aload_n 0, 1, (0, 0, 0), 0, 0)), (1062, (.iload 4, 2, (0, 0, 0), 0, 0)), (1064, (.iconst 2, 1, (0, 0, 0), 2, 0)), (1065, (.iadd, 1, (0, 0, 0), 0, 0)), (1066, (.iaload, 1, (0, 0, 0), 0, 0)), (1067, (.invokevirtual 196, 3, (0, 291, 0), 0, 2015)), (1070, (.istore 6, 2, (0, 0, 0), 0, 0)), (1072, (.aload_n 2, 1, (0, 0, 0), 0, 0)), (1073, (.invokevirtual 154, 3, (0, 208, 0), 0, 1607)), (1076, (.iload 5, 2, (0, 0, 0), 0, 0)), (1078, (.if_icmp .eq 5, 3, (1083, 0, 0), 0, 0)), (1081, (.iconst 0, 1, (0, 0, 0), 0, 0)), (1082, (.ireturn, 1, (0, 0, 0), 0, 0)), (1083, (.iload 5, 2, (0, 0, 0), 0, 0)), (1085, (.ifCond .ne 15, 3, (1100, 0, 0), 0, 0))]
def zp0_34 : List (Nat × ZI) := [(1088, (.aload_n 3, 1, (0, 0, 0), 0, 0)), (1089, (.iconst 0, 1, (0, 0, 0), 0, 0)), (1090, (.laload, 1, (0, 0, 0), 0, 0)), (1091, (.iload 6, 2, (0, 0, 0), 0, 0)), (1093, (.i2l, 1, (0, 0, 0), 0, 0)), (1094, (.lcmp, 1, (0, 0, 0), 0, 0)), (1095, (.ifCond .eq 5, 3, (1100, 0, 0), 0, 0)), (1098, (.iconst 0, 1, (0, 0, 0), 0, 0)), (1099, (.ireturn, 1, (0, 0, 0), 0, 0)), (1100, (.goto 1857, 3, (2957, 0, 0), 0, 0)), (1103, (.aload_n 1, 1, (0, 0, 0), 0, 0)), (1104, (.aload_n 0, 1, (0, 0, 0), 0, 0)), (1105, (.iload 4, 2, (0, 0, 0), 0, 0)), (1107, (.iconst 1, 1, (0, 0, 0), 1, 0)), (1108, (.iadd, 1, (0, 0, 0), 0, 0)), (1109, (.iaload, 1, (0, 0, 0), 0, 0)), (1110, (.aload_n 0, 1, (0, 0, 0), 0, 0)), (1111, (.iload 4, 2, (0, 0, 0), 0, 0)), (1113, (.iconst 2, 1, (0, 0, 0), 2, 0)), (1114, (.iadd, 1, (0, 0, 0), 0, 0)), (1115, (.iaload, 1, (0, 0, 0), 0, 0)), (1116, (.aload_n 3, 1, (0, 0, 0), 0, 0)), (1117, (.invokestatic 197, 3, (0, 13, 0), 0, 1285))]
def zp0_35 : List (Nat × ZI) := [(1120, (.istore 5, 2, (0, 0, 0), 0, 0)), (1122, (.aload_n 2, 1, (0, 0, 0), 0, 0)), (1123, (.aload_n 0, 1, (0, 0, 0), 0, 0)), (1124, (.iload 4, 2, (0, 0, 0), 0, 0)), (1126, (.iconst 1, 1, (0, 0, 0), 1, 0)), (1127, (.iadd, 1, (0, 0, 0), 0, 0)), (1128, (.iaload, 1, (0, 0, 0), 0, 0)), (1129, (.aload_n 0, 1, (0, 0, 0), 0, 0)), (1130, (.iload 4, 2, (0, 0, 0), 0, 0)), (1132, (.iconst 2, 1, (0, 0, 0), 2, 0)), (1133, (.iadd, 1, (0, 0, 0), 0, 0)), (1134, (.iaload, 1, (0, 0, 0), 0, 0)), (1135, (.invokevirtual 199, 3, (0, 292, 0), 0, 2023)), (1138, (.istore 6, 2, (0, 0, 0), 0, 0)), (1140, (.aload_n 2, 1, (0, 0, 0), 0, 0)), (1141, (.invokevirtual 154, 3, (0, 208, 0), 0, 1607)), (1144, (.iload 5, 2, (0, 0, 0), 0, 0)), (1146, (.if_icmp .eq 5, 3, (1151, 0, 0), 0, 0)), (1149, (.iconst 0, 1, (0, 0, 0), 0, 0)), (1150, (.ireturn, 1, (0, 0, 0), 0, 0)), (1151, (.iload 5, 2, (0, 0, 0), 0, 0))]
def zp0_36 : List (Nat × ZI) := [(1153, (.ifCond .ne 15, 3, (1168, 0, 0), 0, 0)), (1156, (.aload_n 3, 1, (0, 0, 0), 0, 0)), (1157, (.iconst 0, 1, (0, 0, 0), 0, 0)), (1158, (.laload, 1, (0, 0, 0), 0, 0)), (1159, (.iload 6, 2, (0, 0, 0), 0, 0)), (1161, (.i2l, 1, (0, 0, 0), 0, 0)), (1162, (.lcmp, 1, (0, 0, 0), 0, 0)), (1163, (.ifCond .eq 5, 3, (1168, 0, 0), 0, 0)), (1166, (.iconst 0, 1, (0, 0, 0), 0, 0)), (1167, (.ireturn, 1, (0, 0, 0), 0, 0)), (1168, (.goto 1789, 3, (2957, 0, 0), 0, 0)), (1171, (.aload_n 1, 1, (0, 0, 0), 0, 0)), (1172, (.aload_n 0, 1, (0, 0, 0), 0, 0)), (1173, (.iload 4, 2, (0, 0, 0), 0, 0)), (1175, (.iconst 1, 1, (0, 0, 0), 1, 0)), (1176, (.iadd, 1, (0, 0, 0), 0, 0)), (1177, (.iaload, 1, (0, 0, 0), 0, 0)), (1178, (.aload_n 0, 1, (0, 0, 0), 0, 0)), (1179, (.iload 4, 2, (0, 0, 0), 0, 0)), (1181, (.iconst 2, 1, (0, 0, 0), 2, 0)), (1182, (.iadd, 1, (0, 0, 0), 0, 0)), (1183, (.iaload, 1, (0, 0, 0), 0, 0))]
def zp0_37 : List (Nat × ZI) := [(1184, (.aload_n 3, 1, (0, 0, 0), 0, 0)), (1185, (.invokestatic 200, 3, (0, 14, 0), 0, 1292)), (1188, (.istore 5, 2, (0, 0, 0), 0, 0)), (1190, (.aload_n 2, 1, (0, 0, 0), 0, 0)), (1191, (.aload_n 0, 1, (0, 0, 0), 0, 0)), (1192, (.iload 4, 2, (0, 0, 0), 0, 0)), (1194, (.iconst 1, 1, (0, 0, 0), 1, 0)), (1195, (.iadd, 1, (0, 0, 0), 0, 0)), (1196, (.iaload, 1, (0, 0, 0), 0, 0)), (1197, (.aload_n 0, 1, (0, 0, 0), 0, 0)), (1198, (.iload 4, 2, (0, 0, 0), 0, 0)), (1200, (.iconst 2, 1, (0, 0, 0), 2, 0)), (1201, (.iadd, 1, (0, 0, 0), 0, 0)), (1202, (.iaload, 1, (0, 0, 0), 0, 0)), (1203, (.invokevirtual 202, 3, (0, 293, 0), 0, 2027)), (1206, (.istore 6, 2, (0, 0, 0), 0, 0)), (1208, (.aload_n 2, 1, (0, 0, 0), 0, 0)), (1209, (.invokevirtual 154, 3, (0, 208, 0), 0, 1607)), (1212, (.iload 5, 2, (0, 0, 0), 0, 0)), (1214, (.if_icmp .eq 5, 3, (1219, 0, 0), 0, 0))]
def zp0_38 : List (Nat × ZI) := [(1217, (.iconst 0, 1, (0, 0, 0), 0, 0)), (1218, (.ireturn, 1, (0, 0, 0), 0, 0)), (1219, (.iload 5, 2, (0, 0, 0), 0, 0)), (1221, (.ifCond .ne 15, 3, (1236, 0, 0), 0, 0)), (1224, (.aload_n 3, 1, (0, 0, 0), 0, 0)), (1225, (.iconst 0, 1, (0, 0, 0), 0, 0)), (1226, (.laload, 1, (0, 0, 0), 0, 0)), (1227, (.iload 6, 2, (0, 0, 0), 0, 0)), (1229, (.i2l, 1, (0, 0, 0), 0, 0)), (1230, (.lcmp, 1, (0, 0, 0), 0, 0)), (1231, (.ifCond .eq 5, 3, (1236, 0, 0), 0, 0)), (1234, (.iconst 0, 1, (0, 0, 0), 0, 0)), (1235, (.ireturn, 1, (0, 0, 0), 0, 0)), (1236, (.goto 1721, 3, (2957, 0, 0), 0, 0)), (1239, (.aload_n 1, 1, (0, 0, 0), 0, 0)), (1240, (.aload_n 0, 1, (0, 0, 0), 0, 0)), (1241, (.iload 4, 2, (0, 0, 0), 0, 0)), (1243, (.iconst 1, 1, (0, 0, 0), 1, 0)), (1244, (.iadd, 1, (0, 0, 0), 0, 0)), (1245, (.iaload, 1, (0, 0, 0), 0, 0)), (1246, (.aload_n 0, 1, (0, 0, 0), 0, 0)), (1247, (.iload 4, 2, (0, 0, 0), 0, 0))]
def zp0_39 : List (Nat × ZI) := [(1249, (.iconst 2, 1, (0, 0, 0), 2, 0)), (1250, (.iadd, 1, (0, 0, 0), 0, 0)), (1251, (.iaload, 1, (0, 0, 0), 0, 0)), (1252, (.aload_n 3, 1, (0, 0, 0), 0, 0)), (1253, (.invokestatic 203, 3, (0, 15, 0), 0, 1299)), (1256, (.istore 5, 2, (0, 0, 0), 0, 0)), (1258, (.aload_n 2, 1, (0, 0, 0), 0, 0)), (1259, (.aload_n 0, 1, (0, 0, 0), 0, 0)), (1260, (.iload 4, 2, (0, 0, 0), 0, 0)), (1262, (.iconst 1, 1, (0, 0, 0), 1, 0)), (1263, (.iadd, 1, (0, 0, 0), 0, 0)), (1264, (.iaload, 1, (0, 0, 0), 0, 0)), (1265, (.aload_n 0, 1, (0, 0, 0), 0, 0)), (1266, (.iload 4, 2, (0, 0, 0), 0, 0)), (1268, (.iconst 2, 1, (0, 0, 0), 2, 0)), (1269, (.iadd, 1, (0, 0, 0), 0, 0)), (1270, (.iaload, 1, (0, 0, 0), 0, 0)), (1271, (.invokevirtual 205, 3, (0, 300, 0), 0, 2031)), (1274, (.istore 6, 2, (0, 0, 0), 0, 0)), (1276, (.aload_n 2, 1, (0, 0, 0), 0, 0)), (1277, (.invokevirtual 154, 3, (0, 208, 0), 0, 1607))]
def zp0_40 : List (Nat × ZI) := [(1280, (.iload 5, 2, (0, 0, 0), 0, 0)), (1282, (.if_icmp .eq 5, 3, (1287, 0, 0), 0, 0)), (1285, (.iconst 0, 1, (0, 0, 0), 0, 0)), (1286, (.ireturn, 1, (0, 0, 0), 0, 0)), (1287, (.iload 5, 2, (0, 0, 0), 0, 0)), (1289, (.ifCond .ne 15, 3, (1304, 0, 0), 0, 0)), (1292, (.aload_n 3, 1, (0, 0, 0), 0, 0)), (1293, (.iconst 0, 1, (0, 0, 0), 0, 0)), (1294, (.laload, 1, (0, 0, 0), 0, 0)), (1295, (.iload 6, 2, (0, 0, 0), 0, 0)), (1297, (.i2l, 1, (0, 0, 0), 0, 0)), (1298, (.lcmp, 1, (0, 0, 0), 0, 0)), (1299, (.ifCond .eq 5, 3, (1304, 0, 0), 0, 0)), (1302, (.iconst 0, 1, (0, 0, 0), 0, 0)), (1303, (.ireturn, 1, (0, 0, 0), 0, 0)), (1304, (.goto 1653, 3, (2957, 0, 0), 0, 0)), (1307, (.aload_n 1, 1, (0, 0, 0), 0, 0)), (1308, (.aload_n 0, 1, (0, 0, 0), 0, 0)), (1309, (.iload 4, 2, (0, 0, 0), 0, 0)), (1311, (.iconst 1, 1, (0, 0, 0), 1, 0))]
def zp0_41 : List (Nat × ZI) := [(1312, (.iadd, 1, (0, 0, 0), 0, 0)), (1313, (.iaload, 1, (0, 0, 0), 0, 0)), (1314, (.aload_n 0, 1, (0, 0, 0), 0, 0)), (1315, (.iload 4, 2, (0, 0, 0), 0, 0)), (1317, (.iconst 2, 1, (0, 0, 0), 2, 0)), (1318, (.iadd, 1, (0, 0, 0), 0, 0)), (1319, (.iaload, 1, (0, 0, 0), 0, 0)), (1320, (.aload_n 0, 1, (0, 0, 0), 0, 0)), (1321, (.iload 4, 2, (0, 0, 0), 0, 0)), (1323, (.iconst 3, 1, (0, 0, 0), 3, 0)), (1324, (.iadd, 1, (0, 0, 0), 0, 0)), (1325, (.iaload, 1, (0, 0, 0), 0, 0)), (1326, (.aload_n 3, 1, (0, 0, 0), 0, 0)), (1327, (.invokestatic 206, 3, (0, 16, 0), 0, 1324)), (1330, (.istore 5, 2, (0, 0, 0), 0, 0)), (1332, (.aload_n 2, 1, (0, 0, 0), 0, 0)), (1333, (.aload_n 0, 1, (0, 0, 0), 0, 0)), (1334, (.iload 4, 2, (0, 0, 0), 0, 0)), (1336, (.iconst 1, 1, (0, 0, 0), 1, 0)), (1337, (.iadd, 1, (0, 0, 0), 0, 0)), (1338, (.iaload, 1, (0, 0, 0), 0, 0)), (1339, (.aload_n 0, 1, (0, 0, 0), 0, 0)), (1340, (.iload 4, 2, (0, 0, 0), 0, 0)), (1342, (.iconst 2, 1, (0, 0, 0), 2, 0)), (1343, (.iadd, 1, (0, 0, 0), 0, 0))]
def zp0_42 : List (Nat × ZI) := [(1344, (.iaload, 1, (0, 0, 0), 0, 0)), (1345, (.aload_n 0, 1, (0, 0, 0), 0, 0)), (1346, (.iload 4, 2, (0, 0, 0), 0, 0)), (1348, (.iconst 3, 1, (0, 0, 0), 3, 0)), (1349, (.iadd, 1, (0, 0, 0), 0, 0)), (1350, (.iaload, 1, (0, 0, 0), 0, 0)), (1351, (.invokevirtual 208, 3, (0, 302, 0), 0, 2063)), (1354, (.istore 6, 2, (0, 0, 0), 0, 0)), (1356, (.aload_n 2, 1, (0, 0, 0), 0, 0)), (1357, (.invokevirtual 154, 3, (0, 208, 0), 0, 1607)), (1360, (.iload 5, 2, (0, 0, 0), 0, 0)), (1362, (.if_icmp .eq 5, 3, (1367, 0, 0), 0, 0)), (1365, (.iconst 0, 1, (0, 0, 0), 0, 0)), (1366, (.ireturn, 1, (0, 0, 0), 0, 0)), (1367, (.iload 5, 2, (0, 0, 0), 0, 0)), (1369, (.ifCond .ne 15, 3, (1384, 0, 0), 0, 0)), (1372, (.aload_n 3, 1, (0, 0, 0), 0, 0)), (1373, (.iconst 0, 1, (0, 0, 0), 0, 0)), (1374, (.laload, 1, (0, 0, 0), 0, 0)), (1375, (.iload 6, 2, (0, 0, 0), 0, 0))]
def zp0_43 : List (Nat × ZI) := [(1377, (.i2l, 1, (0, 0, 0), 0, 0)), (1378, (.lcmp, 1, (0, 0, 0), 0, 0)), (1379, (.ifCond .eq 5, 3, (1384, 0, 0), 0, 0)), (1382, (.iconst 0, 1, (0, 0, 0), 0, 0)), (1383, (.ireturn, 1, (0, 0, 0), 0, 0)), (1384, (.goto 1573, 3, (2957, 0, 0), 0, 0)), (1387, (.aload_n 1, 1, (0, 0, 0), 0, 0)), (1388, (.aload_n 0, 1, (0, 0, 0), 0, 0)), (1389, (.iload 4, 2, (0, 0, 0), 0, 0)), (1391, (.iconst 1, 1, (0, 0, 0), 1, 0)), (1392, (.iadd, 1, (0, 0, 0), 0, 0)), (1393, (.iaload, 1, (0, 0, 0), 0, 0)), (1394, (.aload_n 0, 1, (0, 0, 0), 0, 0)), (1395, (.iload 4, 2, (0, 0, 0), 0, 0)), (1397, (.iconst 2, 1, (0, 0, 0), 2, 0)), (1398, (.iadd, 1, (0, 0, 0), 0, 0)), (1399, (.iaload, 1, (0, 0, 0), 0, 0)), (1400, (.aload_n 0, 1, (0, 0, 0), 0, 0)), (1401, (.iload 4, 2, (0, 0, 0), 0, 0)), (1403, (.iconst 3, 1, (0, 0, 0), 3, 0)), (1404, (.iadd, 1, (0, 0, 0), 0, 0)), (1405, (.iaload, 1, (0, 0, 0), 0, 0)), (1406, (.ifCond .eq 7, 3, (1413, 0, 0), 0, 0))]
def zp0_44 : List (Nat × ZI) := [(1409, (.iconst 1, 1, (0, 0, 0), 1, 0)), (1410, (.goto 4, 3, (1414, 0, 0), 0, 0)), (1413, (.iconst 0, 1, (0, 0, 0), 0, 0)), (1414, (.aload_n 3, 1, (0, 0, 0), 0, 0)), (1415, (.invokestatic 209, 3, (0, 17, 0), 0, 1335)), (1418, (.istore 5, 2, (0, 0, 0), 0, 0)), (1420, (.aload_n 2, 1, (0, 0, 0), 0, 0)), (1421, (.aload_n 0, 1, (0, 0, 0), 0, 0)), (1422, (.iload 4, 2, (0, 0, 0), 0, 0)), (1424, (.iconst 1, 1, (0, 0, 0), 1, 0)), (1425, (.iadd, 1, (0, 0, 0), 0, 0)), (1426, (.iaload, 1, (0, 0, 0), 0, 0)), (1427, (.aload_n 0, 1, (0, 0, 0), 0, 0)), (1428, (.iload 4, 2, (0, 0, 0), 0, 0)), (1430, (.iconst 2, 1, (0, 0, 0), 2, 0)), (1431, (.iadd, 1, (0, 0, 0), 0, 0)), (1432, (.iaload, 1, (0, 0, 0), 0, 0)), (1433, (.aload_n 0, 1, (0, 0, 0), 0, 0)), (1434, (.iload 4, 2, (0, 0, 0), 0, 0)), (1436, (.iconst 3, 1, (0, 0, 0), 3, 0)), (1437, (.iadd, 1, (0, 0, 0), 0, 0)), (1438, (.iaload, 1, (0, 0, 0), 0, 0)), (1439, (.ifCond .eq 7, 3, (1446, 0, 0), 0, 0))]
def zp0_45 : List (Nat × ZI) := [(1442, (.iconst 1, 1, (0, 0, 0), 1, 0)), (1443, (.goto 4, 3, (1447, 0, 0), 0, 0)), (1446, (.iconst 0, 1, (0, 0, 0), 0, 0)), (1447, (.invokevirtual 212, 3, (0, 304, 0), 0, 2071)), (1450, (.istore 6, 2, (0, 0, 0), 0, 0)), (1452, (.aload_n 2, 1, (0, 0, 0), 0, 0)), (1453, (.invokevirtual 154, 3, (0, 208, 0), 0, 1607)), (1456, (.iload 5, 2, (0, 0, 0), 0, 0)), (1458, (.if_icmp .eq 5, 3, (1463, 0, 0), 0, 0)), (1461, (.iconst 0, 1, (0, 0, 0), 0, 0)), (1462, (.ireturn, 1, (0, 0, 0), 0, 0)), (1463, (.iload 5, 2, (0, 0, 0), 0, 0)), (1465, (.ifCond .ne 15, 3, (1480, 0, 0), 0, 0)), (1468, (.aload_n 3, 1, (0, 0, 0), 0, 0)), (1469, (.iconst 0, 1, (0, 0, 0), 0, 0)), (1470, (.laload, 1, (0, 0, 0), 0, 0)), (1471, (.iload 6, 2, (0, 0, 0), 0, 0))]
def zp0_46 : List (Nat × ZI) := [(1473, (.i2l, 1, (0, 0, 0), 0, 0)), (1474, (.lcmp, 1, (0, 0, 0), 0, 0)), (1475, (.ifCond .eq 5, 3, (1480, 0, 0), 0, 0)), (1478, (.iconst 0, 1, (0, 0, 0), 0, 0)), (1479, (.ireturn, 1, (0, 0, 0), 0, 0)), (1480, (.goto 1477, 3, (2957, 0, 0), 0, 0)), (1483, (.aload_n 1, 1, (0, 0, 0), 0, 0)), (1484, (.aload_n 0, 1, (0, 0, 0), 0, 0)), (1485, (.iload 4, 2, (0, 0, 0), 0, 0)), (1487, (.iconst 1, 1, (0, 0, 0), 1, 0)), (1488, (.iadd, 1, (0, 0, 0), 0, 0)), (1489, (.iaload, 1, (0, 0, 0), 0, 0)), (1490, (.aload_n 0, 1, (0, 0, 0), 0, 0)), (1491, (.iload 4, 2, (0, 0, 0), 0, 0)), (1493, (.iconst 2, 1, (0, 0, 0), 2, 0)), (1494, (.iadd, 1, (0, 0, 0), 0, 0)), (1495, (.iaload, 1, (0, 0, 0), 0, 0)), (1496, (.aload_n 3, 1, (0, 0, 0), 0, 0)), (1497, (.invokestatic 213, 3, (0, 18, 0), 0, 1346)), (1500, (.istore 5, 2, (0, 0, 0), 0, 0)), (1502, (.aload_n 2, 1, (0, 0, 0), 0, 0)), (1503, (.aload_n 0, 1, (0, 0, 0), 0, 0))]
def zp0_47 : List (Nat × ZI) := [(1504, (.iload 4, 2, (0, 0, 0), 0, 0)), (1506, (.iconst 1, 1, (0, 0, 0), 1, 0)), (1507, (.iadd, 1, (0, 0, 0), 0, 0)), (1508, (.iaload, 1, (0, 0, 0), 0, 0)), (1509, (.aload_n 0, 1, (0, 0, 0), 0, 0)), (1510, (.iload 4, 2, (0, 0, 0), 0, 0)), (1512, (.iconst 2, 1, (0, 0, 0), 2, 0)), (1513, (.iadd, 1, (0, 0, 0), 0, 0)), (1514, (.iaload, 1, (0, 0, 0), 0, 0)), (1515, (.invokevirtual 215, 3, (0, 305, 0), 0, 2079)), (1518, (.istore 6, 2, (0, 0, 0), 0, 0)), (1520, (.aload_n 2, 1, (0, 0, 0), 0, 0)), (1521, (.invokevirtual 154, 3, (0, 208, 0), 0, 1607)), (1524, (.iload 5, 2, (0, 0, 0), 0, 0)), (1526, (.if_icmp .eq 5, 3, (1531, 0, 0), 0, 0)), (1529, (.iconst 0, 1, (0, 0, 0), 0, 0)), (1530, (.ireturn, 1, (0, 0, 0), 0, 0)), (1531, (.iload 5, 2, (0, 0, 0), 0, 0)), (1533, (.ifCond .ne 15, 3, (1548, 0, 0), 0, 0))]
def zp0_48 : List (Nat × ZI) := [(1536, (.aload_n 3, 1, (0, 0, 0), 0, 0)), (1537, (.iconst 0, 1, (0, 0, 0), 0, 0)), (1538, (.laload, 1, (0, 0, 0), 0, 0)), (1539, (.iload 6, 2, (0, 0, 0), 0, 0)), (1541, (.i2l, 1, (0, 0, 0), 0, 0)), (1542, (.lcmp, 1, (0, 0, 0), 0, 0)), (1543, (.ifCond .eq 5, 3, (1548, 0, 0), 0, 0)), (1546, (.iconst 0, 1, (0, 0, 0), 0, 0)), (1547, (.ireturn, 1, (0, 0, 0), 0, 0)), (1548, (.goto 1409, 3, (2957, 0, 0), 0, 0)), (1551, (.aload_n 1, 1, (0, 0, 0), 0, 0)), (1552, (.aload_n 0, 1, (0, 0, 0), 0, 0)), (1553, (.iload 4, 2, (0, 0, 0), 0, 0)), (1555, (.iconst 1, 1, (0, 0, 0), 1, 0)), (1556, (.iadd, 1, (0, 0, 0), 0, 0)), (1557, (.iaload, 1, (0, 0, 0), 0, 0)), (1558, (.aload_n 0, 1, (0, 0, 0), 0, 0)), (1559, (.iload 4, 2, (0, 0, 0), 0, 0)), (1561, (.iconst 2, 1, (0, 0, 0), 2, 0)), (1562, (.iadd, 1, (0, 0, 0), 0, 0)), (1563, (.iaload, 1, (0, 0, 0), 0, 0)), (1564, (.aload_n 3, 1, (0, 0, 0), 0, 0)), (1565, (.invokestatic 216, 3, (0, 19, 0), 0, 1357))]
def zp0_49 : List (Nat × ZI) := [(1568, (.istore 5, 2, (0, 0, 0), 0, 0)), (1570, (.aload_n 2, 1, (0, 0, 0), 0, 0)), (1571, (.aload_n 0, 1, (0, 0, 0), 0, 0)), (1572, (.iload 4, 2, (0, 0, 0), 0, 0)), (1574, (.iconst 1, 1, (0, 0, 0), 1, 0)), (1575, (.iadd, 1, (0, 0, 0), 0, 0)), (1576, (.iaload, 1, (0, 0, 0), 0, 0)), (1577, (.aload_n 0, 1, (0, 0, 0), 0, 0)), (1578, (.iload 4, 2, (0, 0, 0), 0, 0)), (1580, (.iconst 2, 1, (0, 0, 0), 2, 0)), (1581, (.iadd, 1, (0, 0, 0), 0, 0)), (1582, (.iaload, 1, (0, 0, 0), 0, 0)), (1583, (.invokevirtual 218, 3, (0, 307, 0), 0, 2083)), (1586, (.istore 6, 2, (0, 0, 0), 0, 0)), (1588, (.aload_n 2, 1, (0, 0, 0), 0, 0)), (1589, (.invokevirtual 154, 3, (0, 208, 0), 0, 1607)), (1592, (.iload 5, 2, (0, 0, 0), 0, 0)), (1594, (.if_icmp .eq 5, 3, (1599, 0, 0), 0, 0)), (1597, (.iconst 0, 1, (0, 0, 0), 0, 0)), (1598, (.ireturn, 1, (0, 0, 0), 0, 0)), (1599, (.iload 5, 2, (0, 0, 0), 0, 0))]
def zp0_50 : List (Nat × ZI) := [(1601, (.ifCond .ne 15, 3, (1616, 0, 0), 0, 0)), (1604, (.aload_n 3, 1, (0, 0, 0), 0, 0)), (1605, (.iconst 0, 1, (0, 0, 0), 0, 0)), (1606, (.laload, 1, (0, 0, 0), 0, 0)), (1607, (.iload 6, 2, (0, 0, 0), 0, 0)), (1609, (.i2l, 1, (0, 0, 0), 0, 0)), (1610, (.lcmp, 1, (0, 0, 0), 0, 0)), (1611, (.ifCond .eq 5, 3, (1616, 0, 0), 0, 0)), (1614, (.iconst 0, 1, (0, 0, 0), 0, 0)), (1615, (.ireturn, 1, (0, 0, 0), 0, 0)), (1616, (.goto 1341, 3, (2957, 0, 0), 0, 0)), (1619, (.aload_n 1, 1, (0, 0, 0), 0, 0)), (1620, (.aload_n 0, 1, (0, 0, 0), 0, 0)), (1621, (.iload 4, 2, (0, 0, 0), 0, 0)), (1623, (.iconst 1, 1, (0, 0, 0), 1, 0)), (1624, (.iadd, 1, (0, 0, 0), 0, 0)), (1625, (.iaload, 1, (0, 0, 0), 0, 0)), (1626, (.aload_n 0, 1, (0, 0, 0), 0, 0)), (1627, (.iload 4, 2, (0, 0, 0), 0, 0)), (1629, (.iconst 2, 1, (0, 0, 0), 2, 0)), (1630, (.iadd, 1, (0, 0, 0), 0, 0)), (1631, (.iaload, 1, (0, 0, 0), 0, 0))]
def zp0_51 : List (Nat × ZI) := [(1632, (.ifCond .eq 7, 3, (1639, 0, 0), 0, 0)), (1635, (.iconst 1, 1, (0, 0, 0), 1, 0)), (1636, (.goto 4, 3, (1640, 0, 0), 0, 0)), (1639, (.iconst 0, 1, (0, 0, 0), 0, 0)), (1640, (.aload_n 3, 1, (0, 0, 0), 0, 0)), (1641, (.invokestatic 219, 3, (0, 20, 0), 0, 1376)), (1644, (.istore 5, 2, (0, 0, 0), 0, 0)), (1646, (.aload_n 2, 1, (0, 0, 0), 0, 0)), (1647, (.aload_n 0, 1, (0, 0, 0), 0, 0)), (1648, (.iload 4, 2, (0, 0, 0), 0, 0)), (1650, (.iconst 1, 1, (0, 0, 0), 1, 0)), (1651, (.iadd, 1, (0, 0, 0), 0, 0)), (1652, (.iaload, 1, (0, 0, 0), 0, 0)), (1653, (.aload_n 0, 1, (0, 0, 0), 0, 0)), (1654, (.iload 4, 2, (0, 0, 0), 0, 0)), (1656, (.iconst 2, 1, (0, 0, 0), 2, 0)), (1657, (.iadd, 1, (0, 0, 0), 0, 0)), (1658, (.iaload, 1, (0, 0, 0), 0, 0)), (1659, (.ifCond .eq 7, 3, (1666, 0, 0), 0, 0)), (1662, (.iconst 1, 1, (0, 0, 0), 1, 0)), (1663, (.goto 4, 3, (1667, 0, 0), 0, 0))]
def zp0_52 : List (Nat × ZI) := [(1666, (.iconst 0, 1, (0, 0, 0), 0, 0)), (1667, (.invokevirtual 222, 3, (0, 308, 0), 0, 2095)), (1670, (.istore 6, 2, (0, 0, 0), 0, 0)), (1672, (.aload_n 2, 1, (0, 0, 0), 0, 0)), (1673, (.invokevirtual 154, 3, (0, 208, 0), 0, 1607)), (1676, (.iload 5, 2, (0, 0, 0), 0, 0)), (1678, (.if_icmp .eq 5, 3, (1683, 0, 0), 0, 0)), (1681, (.iconst 0, 1, (0, 0, 0), 0, 0)), (1682, (.ireturn, 1, (0, 0, 0), 0, 0)), (1683, (.iload 5, 2, (0, 0, 0), 0, 0)), (1685, (.ifCond .ne 15, 3, (1700, 0, 0), 0, 0)), (1688, (.aload_n 3, 1, (0, 0, 0), 0, 0)), (1689, (.iconst 0, 1, (0, 0, 0), 0, 0)), (1690, (.laload, 1, (0, 0, 0), 0, 0)), (1691, (.iload 6, 2, (0, 0, 0), 0, 0)), (1693, (.i2l, 1, (0, 0, 0), 0, 0)), (1694, (.lcmp, 1, (0, 0, 0), 0, 0)), (1695, (.ifCond .eq 5, 3, (1700, 0, 0), 0, 0))]
def zp0_53 : List (Nat × ZI) := [(1698, (.iconst 0, 1, (0, 0, 0), 0, 0)), (1699, (.ireturn, 1, (0, 0, 0), 0, 0)), (1700, (.goto 1257, 3, (2957, 0, 0), 0, 0)), (1703, (.aload_n 1, 1, (0, 0, 0), 0, 0)), (1704, (.aload_n 0, 1, (0, 0, 0), 0, 0)), (1705, (.iload 4, 2, (0, 0, 0), 0, 0)), (1707, (.iconst 1, 1, (0, 0, 0), 1, 0)), (1708, (.iadd, 1, (0, 0, 0), 0, 0)), (1709, (.iaload, 1, (0, 0, 0), 0, 0)), (1710, (.aload_n 0, 1, (0, 0, 0), 0, 0)), (1711, (.iload 4, 2, (0, 0, 0), 0, 0)), (1713, (.iconst 2, 1, (0, 0, 0), 2, 0)), (1714, (.iadd, 1, (0, 0, 0), 0, 0)), (1715, (.iaload, 1, (0, 0, 0), 0, 0)), (1716, (.aload_n 3, 1, (0, 0, 0), 0, 0)), (1717, (.invokestatic 223, 3, (0, 21, 0), 0, 1397)), (1720, (.istore 5, 2, (0, 0, 0), 0, 0)), (1722, (.aload_n 2, 1, (0, 0, 0), 0, 0)), (1723, (.aload_n 0, 1, (0, 0, 0), 0, 0)), (1724, (.iload 4, 2, (0, 0, 0), 0, 0)), (1726, (.iconst 1, 1, (0, 0, 0), 1, 0)), (1727, (.iadd, 1, (0, 0, 0), 0, 0))]
def zp0_54 : List (Nat × ZI) := [(1728, (.iaload, 1, (0, 0, 0), 0, 0)), (1729, (.aload_n 0, 1, (0, 0, 0), 0, 0)), (1730, (.iload 4, 2, (0, 0, 0), 0, 0)), (1732, (.iconst 2, 1, (0, 0, 0), 2, 0)), (1733, (.iadd, 1, (0, 0, 0), 0, 0)), (1734, (.iaload, 1, (0, 0, 0), 0, 0)), (1735, (.invokevirtual 225, 3, (0, 311, 0), 0, 2099)), (1738, (.istore 6, 2, (0, 0, 0), 0, 0)), (1740, (.aload_n 2, 1, (0, 0, 0), 0, 0)), (1741, (.invokevirtual 154, 3, (0, 208, 0), 0, 1607)), (1744, (.iload 5, 2, (0, 0, 0), 0, 0)), (1746, (.if_icmp .eq 5, 3, (1751, 0, 0), 0, 0)), (1749, (.iconst 0, 1, (0, 0, 0), 0, 0)), (1750, (.ireturn, 1, (0, 0, 0), 0, 0)), (1751, (.iload 5, 2, (0, 0, 0), 0, 0)), (1753, (.ifCond .ne 15, 3, (1768, 0, 0), 0, 0)), (1756, (.aload_n 3, 1, (0, 0, 0), 0, 0)), (1757, (.iconst 0, 1, (0, 0, 0), 0, 0)), (1758, (.laload, 1, (0, 0, 0), 0, 0)), (1759, (.iload 6, 2, (0, 0, 0), 0, 0))]
def zp0_55 : List (Nat × ZI) := [(1761, (.i2l, 1, (0, 0, 0), 0, 0)), (1762, (.lcmp, 1, (0, 0, 0), 0, 0)), (1763, (.ifCond .eq 5, 3, (1768, 0, 0), 0, 0)), (1766, (.iconst 0, 1, (0, 0, 0), 0, 0)), (1767, (.ireturn, 1, (0, 0, 0), 0, 0)), (1768, (.goto 1189, 3, (2957, 0, 0), 0, 0)), (1771, (.aload_n 1, 1, (0, 0, 0), 0, 0)), (1772, (.aload_n 0, 1, (0, 0, 0), 0, 0)), (1773, (.iload 4, 2, (0, 0, 0), 0, 0)), (1775, (.iconst 1, 1, (0, 0, 0), 1, 0)), (1776, (.iadd, 1, (0, 0, 0), 0, 0)), (1777, (.iaload, 1, (0, 0, 0), 0, 0)), (1778, (.aload_n 3, 1, (0, 0, 0), 0, 0)), (1779, (.invokestatic 226, 3, (0, 22, 0), 0, 1417)), (1782, (.istore 5, 2, (0, 0, 0), 0, 0)), (1784, (.aload_n 2, 1, (0, 0, 0), 0, 0)), (1785, (.aload_n 0, 1, (0, 0, 0), 0, 0)), (1786, (.iload 4, 2, (0, 0, 0), 0, 0)), (1788, (.iconst 1, 1, (0, 0, 0), 1, 0)), (1789, (.iadd, 1, (0, 0, 0), 0, 0)), (1790, (.iaload, 1, (0, 0, 0), 0, 0)), (1791, (.invokevirtual 228, 3, (0, 312, 0), 0, 2111))]
def zp0_56 : List (Nat × ZI) := [(1794, (.istore 6, 2, (0, 0, 0), 0, 0)), (1796, (.aload_n 2, 1, (0, 0, 0), 0, 0)), (1797, (.invokevirtual 154, 3, (0, 208, 0), 0, 1607)), (1800, (.iload 5, 2, (0, 0, 0), 0, 0)), (1802, (.if_icmp .eq 5, 3, (1807, 0, 0), 0, 0)), (1805, (.iconst 0, 1, (0, 0, 0), 0, 0)), (1806, (.ireturn, 1, (0, 0, 0), 0, 0)), (1807, (.iload 5, 2, (0, 0, 0), 0, 0)), (1809, (.ifCond .ne 15, 3, (1824, 0, 0), 0, 0)), (1812, (.aload_n 3, 1, (0, 0, 0), 0, 0)), (1813, (.iconst 0, 1, (0, 0, 0), 0, 0)), (1814, (.laload, 1, (0, 0, 0), 0, 0)), (1815, (.iload 6, 2, (0, 0, 0), 0, 0)), (1817, (.i2l, 1, (0, 0, 0), 0, 0)), (1818, (.lcmp, 1, (0, 0, 0), 0, 0)), (1819, (.ifCond .eq 5, 3, (1824, 0, 0), 0, 0)), (1822, (.iconst 0, 1, (0, 0, 0), 0, 0)), (1823, (.ireturn, 1, (0, 0, 0), 0, 0))]
def zp0_57 : List (Nat × ZI) := [(1824, (.goto 1133, 3, (2957, 0, 0), 0, 0)), (1827, (.aload_n 1, 1, (0, 0, 0), 0, 0)), (1828, (.invokevirtual 229, 3, (0, 64, 0), 0, 622)), (1831, (.aload_n 2, 1, (0, 0, 0), 0, 0)), (1832, (.invokevirtual 232, 3, (0, 313, 0), 0, 2115)), (1835, (.if_icmp .eq 1122, 3, (2957, 0, 0), 0, 0)), (1838, (.iconst 0, 1, (0, 0, 0), 0, 0)), (1839, (.ireturn, 1, (0, 0, 0), 0, 0)), (1840, (.aload_n 1, 1, (0, 0, 0), 0, 0)), (1841, (.aload_n 0, 1, (0, 0, 0), 0, 0)), (1842, (.iload 4, 2, (0, 0, 0), 0, 0)), (1844, (.iconst 1, 1, (0, 0, 0), 1, 0)), (1845, (.iadd, 1, (0, 0, 0), 0, 0)), (1846, (.iaload, 1, (0, 0, 0), 0, 0)), (1847, (.aload_n 3, 1, (0, 0, 0), 0, 0)), (1848, (.invokestatic 233, 3, (0, 23, 0), 0, 1429)), (1851, (.istore 5, 2, (0, 0, 0), 0, 0)), (1853, (.aload_n 2, 1, (0, 0, 0), 0, 0)), (1854, (.aload_n 0, 1, (0, 0, 0), 0, 0)), (1855, (.iload 4, 2, (0, 0, 0), 0, 0))]
def zp0_58 : List (Nat × ZI) := [(1857, (.iconst 1, 1, (0, 0, 0), 1, 0)), (1858, (.iadd, 1, (0, 0, 0), 0, 0)), (1859, (.iaload, 1, (0, 0, 0), 0, 0)), (1860, (.invokevirtual 235, 3, (0, 314, 0), 0, 2119)), (1863, (.istore 6, 2, (0, 0, 0), 0, 0)), (1865, (.aload_n 2, 1, (0, 0, 0), 0, 0)), (1866, (.invokevirtual 154, 3, (0, 208, 0), 0, 1607)), (1869, (.iload 5, 2, (0, 0, 0), 0, 0)), (1871, (.if_icmp .eq 5, 3, (1876, 0, 0), 0, 0)), (1874, (.iconst 0, 1, (0, 0, 0), 0, 0)), (1875, (.ireturn, 1, (0, 0, 0), 0, 0)), (1876, (.iload 5, 2, (0, 0, 0), 0, 0)), (1878, (.ifCond .ne 15, 3, (1893, 0, 0), 0, 0)), (1881, (.aload_n 3, 1, (0, 0, 0), 0, 0)), (1882, (.iconst 0, 1, (0, 0, 0), 0, 0)), (1883, (.laload, 1, (0, 0, 0), 0, 0)), (1884, (.iload 6, 2, (0, 0, 0), 0, 0)), (1886, (.i2l, 1, (0, 0, 0), 0, 0)), (1887, (.lcmp, 1, (0, 0, 0), 0, 0))]
def zp0_59 : List (Nat × ZI) := [(1888, (.ifCond .eq 5, 3, (1893, 0, 0), 0, 0)), (1891, (.iconst 0, 1, (0, 0, 0), 0, 0)), (1892, (.ireturn, 1, (0, 0, 0), 0, 0)), (1893, (.goto 1064, 3, (2957, 0, 0), 0, 0)), (1896, (.aload_n 1, 1, (0, 0, 0), 0, 0)), (1897, (.aload_n 0, 1, (0, 0, 0), 0, 0)), (1898, (.iload 4, 2, (0, 0, 0), 0, 0)), (1900, (.iconst 1, 1, (0, 0, 0), 1, 0)), (1901, (.iadd, 1, (0, 0, 0), 0, 0)), (1902, (.iaload, 1, (0, 0, 0), 0, 0)), (1903, (.aload_n 0, 1, (0, 0, 0), 0, 0)), (1904, (.iload 4, 2, (0, 0, 0), 0, 0)), (1906, (.iconst 2, 1, (0, 0, 0), 2, 0)), (1907, (.iadd, 1, (0, 0, 0), 0, 0)), (1908, (.iaload, 1, (0, 0, 0), 0, 0)), (1909, (.aload_n 3, 1, (0, 0, 0), 0, 0)), (1910, (.invokestatic 236, 3, (0, 24, 0), 0, 1440)), (1913, (.istore 5, 2, (0, 0, 0), 0, 0)), (1915, (.aload_n 2, 1, (0, 0, 0), 0, 0)), (1916, (.aload_n 0, 1, (0, 0, 0), 0, 0)), (1917, (.iload 4, 2, (0, 0, 0), 0, 0)), (1919, (.iconst 1, 1, (0, 0, 0), 1, 0))]
def zp0_60 : List (Nat × ZI) := [(1920, (.iadd, 1, (0, 0, 0), 0, 0)), (1921, (.iaload, 1, (0, 0, 0), 0, 0)), (1922, (.aload_n 0, 1, (0, 0, 0), 0, 0)), (1923, (.iload 4, 2, (0, 0, 0), 0, 0)), (1925, (.iconst 2, 1, (0, 0, 0), 2, 0)), (1926, (.iadd, 1, (0, 0, 0), 0, 0)), (1927, (.iaload, 1, (0, 0, 0), 0, 0)), (1928, (.invokevirtual 238, 3, (0, 315, 0), 0, 2123)), (1931, (.istore 6, 2, (0, 0, 0), 0, 0)), (1933, (.aload_n 2, 1, (0, 0, 0), 0, 0)), (1934, (.invokevirtual 154, 3, (0, 208, 0), 0, 1607)), (1937, (.iload 5, 2, (0, 0, 0), 0, 0)), (1939, (.if_icmp .eq 5, 3, (1944, 0, 0), 0, 0)), (1942, (.iconst 0, 1, (0, 0, 0), 0, 0)), (1943, (.ireturn, 1, (0, 0, 0), 0, 0)), (1944, (.iload 5, 2, (0, 0, 0), 0, 0)), (1946, (.ifCond .ne 15, 3, (1961, 0, 0), 0, 0)), (1949, (.aload_n 3, 1, (0, 0, 0), 0, 0)), (1950, (.iconst 0, 1, (0, 0, 0), 0, 0)), (1951, (.laload, 1, (0, 0, 0), 0, 0))]
def zp0_61 : List (Nat × ZI) := [(1952, (.iload 6, 2, (0, 0, 0), 0, 0)), (1954, (.i2l, 1, (0, 0, 0), 0, 0)), (1955, (.lcmp, 1, (0, 0, 0), 0, 0)), (1956, (.ifCond .eq 5, 3, (1961, 0, 0), 0, 0)), (1959, (.iconst 0, 1, (0, 0, 0), 0, 0)), (1960, (.ireturn, 1, (0, 0, 0), 0, 0)), (1961, (.goto 996, 3, (2957, 0, 0), 0, 0)), (1964, (.aload_n 1, 1, (0, 0, 0), 0, 0)), (1965, (.aload_n 0, 1, (0, 0, 0), 0, 0)), (1966, (.iload 4, 2, (0, 0, 0), 0, 0)), (1968, (.iconst 1, 1, (0, 0, 0), 1, 0)), (1969, (.iadd, 1, (0, 0, 0), 0, 0)), (1970, (.iaload, 1, (0, 0, 0), 0, 0)), (1971, (.aload_n 0, 1, (0, 0, 0), 0, 0)), (1972, (.iload 4, 2, (0, 0, 0), 0, 0)), (1974, (.iconst 2, 1, (0, 0, 0), 2, 0)), (1975, (.iadd, 1, (0, 0, 0), 0, 0)), (1976, (.iaload, 1, (0, 0, 0), 0, 0)), (1977, (.aload_n 0, 1, (0, 0, 0), 0, 0)), (1978, (.iload 4, 2, (0, 0, 0), 0, 0)), (1980, (.iconst 3, 1, (0, 0, 0), 3, 0)), (1981, (.iadd, 1, (0, 0, 0), 0, 0)), (1982, (.iaload, 1, (0, 0, 0), 0, 0)), (1983, (.aload_n 3, 1, (0, 0, 0), 0, 0))]
def zp0_62 : List (Nat × ZI) := [(1984, (.invokestatic 239, 3, (0, 25, 0), 0, 1452)), (1987, (.istore 5, 2, (0, 0, 0), 0, 0)), (1989, (.aload_n 2, 1, (0, 0, 0), 0, 0)), (1990, (.aload_n 0, 1, (0, 0, 0), 0, 0)), (1991, (.iload 4, 2, (0, 0, 0), 0, 0)), (1993, (.iconst 1, 1, (0, 0, 0), 1, 0)), (1994, (.iadd, 1, (0, 0, 0), 0, 0)), (1995, (.iaload, 1, (0, 0, 0), 0, 0)), (1996, (.aload_n 0, 1, (0, 0, 0), 0, 0)), (1997, (.iload 4, 2, (0, 0, 0), 0, 0)), (1999, (.iconst 2, 1, (0, 0, 0), 2, 0)), (2000, (.iadd, 1, (0, 0, 0), 0, 0)), (2001, (.iaload, 1, (0, 0, 0), 0, 0)), (2002, (.aload_n 0, 1, (0, 0, 0), 0, 0)), (2003, (.iload 4, 2, (0, 0, 0), 0, 0)), (2005, (.iconst 3, 1, (0, 0, 0), 3, 0)), (2006, (.iadd, 1, (0, 0, 0), 0, 0)), (2007, (.iaload, 1, (0, 0, 0), 0, 0)), (2008, (.invokevirtual 241, 3, (0, 317, 0), 0, 2127)), (2011, (.istore 6, 2, (0, 0, 0), 0, 0)), (2013, (.aload_n 2, 1, (0, 0, 0), 0, 0)), (2014, (.invokevirtual 154, 3, (0, 208, 0), 0, 1607))]
def zp0_63 : List (Nat × ZI) := [(2017, (.iload 5, 2, (0, 0, 0), 0, 0)), (2019, (.if_icmp .eq 5, 3, (2024, 0, 0), 0, 0)), (2022, (.iconst 0, 1, (0, 0, 0), 0, 0)), (2023, (.ireturn, 1, (0, 0, 0), 0, 0)), (2024, (.iload 5, 2, (0, 0, 0), 0, 0)), (2026, (.ifCond .ne 15, 3, (2041, 0, 0), 0, 0)), (2029, (.aload_n 3, 1, (0, 0, 0), 0, 0)), (2030, (.iconst 0, 1, (0, 0, 0), 0, 0)), (2031, (.laload, 1, (0, 0, 0), 0, 0)), (2032, (.iload 6, 2, (0, 0, 0), 0, 0)), (2034, (.i2l, 1, (0, 0, 0), 0, 0)), (2035, (.lcmp, 1, (0, 0, 0), 0, 0)), (2036, (.ifCond .eq 5, 3, (2041, 0, 0), 0, 0)), (2039, (.iconst 0, 1, (0, 0, 0), 0, 0)), (2040, (.ireturn, 1, (0, 0, 0), 0, 0)), (2041, (.goto 916, 3, (2957, 0, 0), 0, 0)), (2044, (.aload_n 1, 1, (0, 0, 0), 0, 0)), (2045, (.aload_n 0, 1, (0, 0, 0), 0, 0)), (2046, (.iload 4, 2, (0, 0, 0), 0, 0))]
def zp0_64 : List (Nat × ZI) := [(2048, (.iconst 1, 1, (0, 0, 0), 1, 0)), (2049, (.iadd, 1, (0, 0, 0), 0, 0)), (2050, (.iaload, 1, (0, 0, 0), 0, 0)), (2051, (.aload_n 0, 1, (0, 0, 0), 0, 0)), (2052, (.iload 4, 2, (0, 0, 0), 0, 0)), (2054, (.iconst 2, 1, (0, 0, 0), 2, 0)), (2055, (.iadd, 1, (0, 0, 0), 0, 0)), (2056, (.iaload, 1, (0, 0, 0), 0, 0)), (2057, (.aload_n 3, 1, (0, 0, 0), 0, 0)), (2058, (.invokestatic 242, 3, (0, 26, 0), 0, 1465)), (2061, (.istore 5, 2, (0, 0, 0), 0, 0)), (2063, (.aload_n 2, 1, (0, 0, 0), 0, 0)), (2064, (.aload_n 0, 1, (0, 0, 0), 0, 0)), (2065, (.iload 4, 2, (0, 0, 0), 0, 0)), (2067, (.iconst 1, 1, (0, 0, 0), 1, 0)), (2068, (.iadd, 1, (0, 0, 0), 0, 0)), (2069, (.iaload, 1, (0, 0, 0), 0, 0)), (2070, (.aload_n 0, 1, (0, 0, 0), 0, 0)), (2071, (.iload 4, 2, (0, 0, 0), 0, 0)), (2073, (.iconst 2, 1, (0, 0, 0), 2, 0)), (2074, (.iadd, 1, (0, 0, 0), 0, 0)), (2075, (.iaload, 1, (0, 0, 0), 0, 0)), (2076, (.invokevirtual 244, 3, (0, 318, 0), 0, 2135)), (2079, (.istore 6, 2, (0, 0, 0), 0, 0))]
def zp0_65 : List (Nat × ZI) := [(2081, (.aload_n 2, 1, (0, 0, 0), 0, 0)), (2082, (.invokevirtual 154, 3, (0, 208, 0), 0, 1607)), (2085, (.iload 5, 2, (0, 0, 0), 0, 0)), (2087, (.if_icmp .eq 5, 3, (2092, 0, 0), 0, 0)), (2090, (.iconst 0, 1, (0, 0, 0), 0, 0)), (2091, (.ireturn, 1, (0, 0, 0), 0, 0)), (2092, (.iload 5, 2, (0, 0, 0), 0, 0)), (2094, (.ifCond .ne 15, 3, (2109, 0, 0), 0, 0)), (2097, (.aload_n 3, 1, (0, 0, 0), 0, 0)), (2098, (.iconst 0, 1, (0, 0, 0), 0, 0)), (2099, (.laload, 1, (0, 0, 0), 0, 0)), (2100, (.iload 6, 2, (0, 0, 0), 0, 0)), (2102, (.i2l, 1, (0, 0, 0), 0, 0)), (2103, (.lcmp, 1, (0, 0, 0), 0, 0)), (2104, (.ifCond .eq 5, 3, (2109, 0, 0), 0, 0)), (2107, (.iconst 0, 1, (0, 0, 0), 0, 0)), (2108, (.ireturn, 1, (0, 0, 0), 0, 0)), (2109, (.goto 848, 3, (2957, 0, 0), 0, 0))]
def zp0_66 : List (Nat × ZI) := [(2112, (.aload_n 1, 1, (0, 0, 0), 0, 0)), (2113, (.aload_n 0, 1, (0, 0, 0), 0, 0)), (2114, (.iload 4, 2, (0, 0, 0), 0, 0)), (2116, (.iconst 1, 1, (0, 0, 0), 1, 0)), (2117, (.iadd, 1, (0, 0, 0), 0, 0)), (2118, (.iaload, 1, (0, 0, 0), 0, 0)), (2119, (.aload_n 0, 1, (0, 0, 0), 0, 0)), (2120, (.iload 4, 2, (0, 0, 0), 0, 0)), (2122, (.iconst 2, 1, (0, 0, 0), 2, 0)), (2123, (.iadd, 1, (0, 0, 0), 0, 0)), (2124, (.iaload, 1, (0, 0, 0), 0, 0)), (2125, (.ifCond .eq 7, 3, (2132, 0, 0), 0, 0)), (2128, (.iconst 1, 1, (0, 0, 0), 1, 0)), (2129, (.goto 4, 3, (2133, 0, 0), 0, 0)), (2132, (.iconst 0, 1, (0, 0, 0), 0, 0)), (2133, (.aload_n 3, 1, (0, 0, 0), 0, 0)), (2134, (.invokestatic 245, 3, (0, 27, 0), 0, 1478)), (2137, (.istore 5, 2, (0, 0, 0), 0, 0)), (2139, (.aload_n 2, 1, (0, 0, 0), 0, 0)), (2140, (.aload_n 0, 1, (0, 0, 0), 0, 0)), (2141, (.iload 4, 2, (0, 0, 0), 0, 0)), (2143, (.iconst 1, 1, (0, 0, 0), 1, 0))]
def zp0_67 : List (Nat × ZI) := [(2144, (.iadd, 1, (0, 0, 0), 0, 0)), (2145, (.iaload, 1, (0, 0, 0), 0, 0)), (2146, (.aload_n 0, 1, (0, 0, 0), 0, 0)), (2147, (.iload 4, 2, (0, 0, 0), 0, 0)), (2149, (.iconst 2, 1, (0, 0, 0), 2, 0)), (2150, (.iadd, 1, (0, 0, 0), 0, 0)), (2151, (.iaload, 1, (0, 0, 0), 0, 0)), (2152, (.ifCond .eq 7, 3, (2159, 0, 0), 0, 0)), (2155, (.iconst 1, 1, (0, 0, 0), 1, 0)), (2156, (.goto 4, 3, (2160, 0, 0), 0, 0)), (2159, (.iconst 0, 1, (0, 0, 0), 0, 0)), (2160, (.invokevirtual 247, 3, (0, 319, 0), 0, 2139)), (2163, (.istore 6, 2, (0, 0, 0), 0, 0)), (2165, (.aload_n 2, 1, (0, 0, 0), 0, 0)), (2166, (.invokevirtual 154, 3, (0, 208, 0), 0, 1607)), (2169, (.iload 5, 2, (0, 0, 0), 0, 0)), (2171, (.if_icmp .eq 5, 3, (2176, 0, 0), 0, 0)), (2174, (.iconst 0, 1, (0, 0, 0), 0, 0)), (2175, (.ireturn, 1, (0, 0, 0), 0, 0))]
def zp0_68 : List (Nat × ZI) := [(2176, (.iload 5, 2, (0, 0, 0), 0, 0)), (2178, (.ifCond .ne 15, 3, (2193, 0, 0), 0, 0)), (2181, (.aload_n 3, 1, (0, 0, 0), 0, 0)), (2182, (.iconst 0, 1, (0, 0, 0), 0, 0)), (2183, (.laload, 1, (0, 0, 0), 0, 0)), (2184, (.iload 6, 2, (0, 0, 0), 0, 0)), (2186, (.i2l, 1, (0, 0, 0), 0, 0)), (2187, (.lcmp, 1, (0, 0, 0), 0, 0)), (2188, (.ifCond .eq 5, 3, (2193, 0, 0), 0, 0)), (2191, (.iconst 0, 1, (0, 0, 0), 0, 0)), (2192, (.ireturn, 1, (0, 0, 0), 0, 0)), (2193, (.goto 764, 3, (2957, 0, 0), 0, 0)), (2196, (.aload_n 1, 1, (0, 0, 0), 0, 0)), (2197, (.aload_n 0, 1, (0, 0, 0), 0, 0)), (2198, (.iload 4, 2, (0, 0, 0), 0, 0)), (2200, (.iconst 1, 1, (0, 0, 0), 1, 0)), (2201, (.iadd, 1, (0, 0, 0), 0, 0)), (2202, (.iaload, 1, (0, 0, 0), 0, 0)), (2203, (.aload_n 3, 1, (0, 0, 0), 0, 0)), (2204, (.invokestatic 248, 3, (0, 28, 0), 0, 1489)), (2207, (.istore 5, 2, (0, 0, 0), 0, 0))]
def zp0_69 : List (Nat × ZI) := [(2209, (.aload_n 2, 1, (0, 0, 0), 0, 0)), (2210, (.aload_n 0, 1, (0, 0, 0), 0, 0)), (2211, (.iload 4, 2, (0, 0, 0), 0, 0)), (2213, (.iconst 1, 1, (0, 0, 0), 1, 0)), (2214, (.iadd, 1, (0, 0, 0), 0, 0)), (2215, (.iaload, 1, (0, 0, 0), 0, 0)), (2216, (.invokevirtual 250, 3, (0, 320, 0), 0, 2143)), (2219, (.istore 6, 2, (0, 0, 0), 0, 0)), (2221, (.aload_n 2, 1, (0, 0, 0), 0, 0)), (2222, (.invokevirtual 154, 3, (0, 208, 0), 0, 1607)), (2225, (.iload 5, 2, (0, 0, 0), 0, 0)), (2227, (.if_icmp .eq 5, 3, (2232, 0, 0), 0, 0)), (2230, (.iconst 0, 1, (0, 0, 0), 0, 0)), (2231, (.ireturn, 1, (0, 0, 0), 0, 0)), (2232, (.iload 5, 2, (0, 0, 0), 0, 0)), (2234, (.ifCond .ne 15, 3, (2249, 0, 0), 0, 0)), (2237, (.aload_n 3, 1, (0, 0, 0), 0, 0)), (2238, (.iconst 0, 1, (0, 0, 0), 0, 0)), (2239, (.laload, 1, (0, 0, 0), 0, 0))]
def zp0_70 : List (Nat × ZI) := [(2240, (.iload 6, 2, (0, 0, 0), 0, 0)), (2242, (.i2l, 1, (0, 0, 0), 0, 0)), (2243, (.lcmp, 1, (0, 0, 0), 0, 0)), (2244, (.ifCond .eq 5, 3, (2249, 0, 0), 0, 0)), (2247, (.iconst 0, 1, (0, 0, 0), 0, 0)), (2248, (.ireturn, 1, (0, 0, 0), 0, 0)), (2249, (.goto 708, 3, (2957, 0, 0), 0, 0)), (2252, (.aload_n 1, 1, (0, 0, 0), 0, 0)), (2253, (.aload_n 0, 1, (0, 0, 0), 0, 0)), (2254, (.iload 4, 2, (0, 0, 0), 0, 0)), (2256, (.iconst 1, 1, (0, 0, 0), 1, 0)), (2257, (.iadd, 1, (0, 0, 0), 0, 0)), (2258, (.iaload, 1, (0, 0, 0), 0, 0)), (2259, (.aload_n 0, 1, (0, 0, 0), 0, 0)), (2260, (.iload 4, 2, (0, 0, 0), 0, 0)), (2262, (.iconst 2, 1, (0, 0, 0), 2, 0)), (2263, (.iadd, 1, (0, 0, 0), 0, 0)), (2264, (.iaload, 1, (0, 0, 0), 0, 0)), (2265, (.ifCond .eq 7, 3, (2272, 0, 0), 0, 0)), (2268, (.iconst 1, 1, (0, 0, 0), 1, 0)), (2269, (.goto 4, 3, (2273, 0, 0), 0, 0))]
def zp0_71 : List (Nat × ZI) := [(2272, (.iconst 0, 1, (0, 0, 0), 0, 0)), (2273, (.aload_n 3, 1, (0, 0, 0), 0, 0)), (2274, (.invokestatic 251, 3, (0, 29, 0), 0, 1500)), (2277, (.istore 5, 2, (0, 0, 0), 0, 0)), (2279, (.aload_n 2, 1, (0, 0, 0), 0, 0)), (2280, (.aload_n 0, 1, (0, 0, 0), 0, 0)), (2281, (.iload 4, 2, (0, 0, 0), 0, 0)), (2283, (.iconst 1, 1, (0, 0, 0), 1, 0)), (2284, (.iadd, 1, (0, 0, 0), 0, 0)), (2285, (.iaload, 1, (0, 0, 0), 0, 0)), (2286, (.aload_n 0, 1, (0, 0, 0), 0, 0)), (2287, (.iload 4, 2, (0, 0, 0), 0, 0)), (2289, (.iconst 2, 1, (0, 0, 0), 2, 0)), (2290, (.iadd, 1, (0, 0, 0), 0, 0)), (2291, (.iaload, 1, (0, 0, 0), 0, 0)), (2292, (.ifCond .eq 7, 3, (2299, 0, 0), 0, 0)), (2295, (.iconst 1, 1, (0, 0, 0), 1, 0)), (2296, (.goto 4, 3, (2300, 0, 0), 0, 0)), (2299, (.iconst 0, 1, (0, 0, 0), 0, 0)), (2300, (.invokevirtual 253, 3, (0, 322, 0), 0, 2147)), (2303, (.istore 6, 2, (0, 0, 0), 0, 0))]
def zp0_72 : List (Nat × ZI) := [(2305, (.aload_n 2, 1, (0, 0, 0), 0, 0)), (2306, (.invokevirtual 154, 3, (0, 208, 0), 0, 1607)), (2309, (.iload 5, 2, (0, 0, 0), 0, 0)), (2311, (.if_icmp .eq 5, 3, (2316, 0, 0), 0, 0)), (2314, (.iconst 0, 1, (0, 0, 0), 0, 0)), (2315, (.ireturn, 1, (0, 0, 0), 0, 0)), (2316, (.iload 5, 2, (0, 0, 0), 0, 0)), (2318, (.ifCond .ne 15, 3, (2333, 0, 0), 0, 0)), (2321, (.aload_n 3, 1, (0, 0, 0), 0, 0)), (2322, (.iconst 0, 1, (0, 0, 0), 0, 0)), (2323, (.laload, 1, (0, 0, 0), 0, 0)), (2324, (.iload 6, 2, (0, 0, 0), 0, 0)), (2326, (.i2l, 1, (0, 0, 0), 0, 0)), (2327, (.lcmp, 1, (0, 0, 0), 0, 0)), (2328, (.ifCond .eq 5, 3, (2333, 0, 0), 0, 0)), (2331, (.iconst 0, 1, (0, 0, 0), 0, 0)), (2332, (.ireturn, 1, (0, 0, 0), 0, 0)), (2333, (.goto 624, 3, (2957, 0, 0), 0, 0))]
def zp0_73 : List (Nat × ZI) := [(2336, (.aload_n 1, 1, (0, 0, 0), 0, 0)), (2337, (.aload_n 0, 1, (0, 0, 0), 0, 0)), (2338, (.iload 4, 2, (0, 0, 0), 0, 0)), (2340, (.iconst 1, 1, (0, 0, 0), 1, 0)), (2341, (.iadd, 1, (0, 0, 0), 0, 0)), (2342, (.iaload, 1, (0, 0, 0), 0, 0)), (2343, (.aload_n 3, 1, (0, 0, 0), 0, 0)), (2344, (.invokestatic 254, 3, (0, 30, 0), 0, 1515)), (2347, (.istore 5, 2, (0, 0, 0), 0, 0)), (2349, (.aload_n 2, 1, (0, 0, 0), 0, 0)), (2350, (.aload_n 0, 1, (0, 0, 0), 0, 0)), (2351, (.iload 4, 2, (0, 0, 0), 0, 0)), (2353, (.iconst 1, 1, (0, 0, 0), 1, 0)), (2354, (.iadd, 1, (0, 0, 0), 0, 0)), (2355, (.iaload, 1, (0, 0, 0), 0, 0)), (2356, (.invokevirtual 256, 3, (0, 323, 0), 0, 2155)), (2359, (.istore 6, 2, (0, 0, 0), 0, 0)), (2361, (.aload_n 2, 1, (0, 0, 0), 0, 0)), (2362, (.invokevirtual 154, 3, (0, 208, 0), 0, 1607)), (2365, (.iload 5, 2, (0, 0, 0), 0, 0)), (2367, (.if_icmp .eq 5, 3, (2372, 0, 0), 0, 0))]
def zp0_74 : List (Nat × ZI) := [(2370, (.iconst 0, 1, (0, 0, 0), 0, 0)), (2371, (.ireturn, 1, (0, 0, 0), 0, 0)), (2372, (.iload 5, 2, (0, 0, 0), 0, 0)), (2374, (.ifCond .ne 15, 3, (2389, 0, 0), 0, 0)), (2377, (.aload_n 3, 1, (0, 0, 0), 0, 0)), (2378, (.iconst 0, 1, (0, 0, 0), 0, 0)), (2379, (.laload, 1, (0, 0, 0), 0, 0)), (2380, (.iload 6, 2, (0, 0, 0), 0, 0)), (2382, (.i2l, 1, (0, 0, 0), 0, 0)), (2383, (.lcmp, 1, (0, 0, 0), 0, 0)), (2384, (.ifCond .eq 5, 3, (2389, 0, 0), 0, 0)), (2387, (.iconst 0, 1, (0, 0, 0), 0, 0)), (2388, (.ireturn, 1, (0, 0, 0), 0, 0)), (2389, (.goto 568, 3, (2957, 0, 0), 0, 0)), (2392, (.aload_n 1, 1, (0, 0, 0), 0, 0)), (2393, (.aload_n 0, 1, (0, 0, 0), 0, 0)), (2394, (.iload 4, 2, (0, 0, 0), 0, 0)), (2396, (.iconst 1, 1, (0, 0, 0), 1, 0)), (2397, (.iadd, 1, (0, 0, 0), 0, 0)), (2398, (.iaload, 1, (0, 0, 0), 0, 0)), (2399, (.aload_n 0, 1, (0, 0, 0), 0, 0))]
def zp0_75 : List (Nat × ZI) := [(2400, (.iload 4, 2, (0, 0, 0), 0, 0)), (2402, (.iconst 2, 1, (0, 0, 0), 2, 0)), (2403, (.iadd, 1, (0, 0, 0), 0, 0)), (2404, (.iaload, 1, (0, 0, 0), 0, 0)), (2405, (.aload_n 3, 1, (0, 0, 0), 0, 0)), (2406, (.invokestatic 257, 3, (0, 31, 0), 0, 1522)), (2409, (.istore 5, 2, (0, 0, 0), 0, 0)), (2411, (.aload_n 2, 1, (0, 0, 0), 0, 0)), (2412, (.aload_n 0, 1, (0, 0, 0), 0, 0)), (2413, (.iload 4, 2, (0, 0, 0), 0, 0)), (2415, (.iconst 1, 1, (0, 0, 0), 1, 0)), (2416, (.iadd, 1, (0, 0, 0), 0, 0)), (2417, (.iaload, 1, (0, 0, 0), 0, 0)), (2418, (.aload_n 0, 1, (0, 0, 0), 0, 0)), (2419, (.iload 4, 2, (0, 0, 0), 0, 0)), (2421, (.iconst 2, 1, (0, 0, 0), 2, 0)), (2422, (.iadd, 1, (0, 0, 0), 0, 0)), (2423, (.iaload, 1, (0, 0, 0), 0, 0)), (2424, (.invokevirtual 259, 3, (0, 324, 0), 0, 2159)), (2427, (.istore 6, 2, (0, 0, 0), 0, 0)), (2429, (.aload_n 2, 1, (0, 0, 0), 0, 0)), (2430, (.invokevirtual 154, 3, (0, 208, 0), 0, 1607))]
def zp0_76 : List (Nat × ZI) := [(2433, (.iload 5, 2, (0, 0, 0), 0, 0)), (2435, (.if_icmp .eq 5, 3, (2440, 0, 0), 0, 0)), (2438, (.iconst 0, 1, (0, 0, 0), 0, 0)), (2439, (.ireturn, 1, (0, 0, 0), 0, 0)), (2440, (.iload 5, 2, (0, 0, 0), 0, 0)), (2442, (.ifCond .ne 15, 3, (2457, 0, 0), 0, 0)), (2445, (.aload_n 3, 1, (0, 0, 0), 0, 0)), (2446, (.iconst 0, 1, (0, 0, 0), 0, 0)), (2447, (.laload, 1, (0, 0, 0), 0, 0)), (2448, (.iload 6, 2, (0, 0, 0), 0, 0)), (2450, (.i2l, 1, (0, 0, 0), 0, 0)), (2451, (.lcmp, 1, (0, 0, 0), 0, 0)), (2452, (.ifCond .eq 5, 3, (2457, 0, 0), 0, 0)), (2455, (.iconst 0, 1, (0, 0, 0), 0, 0)), (2456, (.ireturn, 1, (0, 0, 0), 0, 0)), (2457, (.goto 500, 3, (2957, 0, 0), 0, 0)), (2460, (.aload_n 1, 1, (0, 0, 0), 0, 0)), (2461, (.invokevirtual 260, 3, (0, 74, 0), 0, 715))]
def zp0_77 : List (Nat × ZI) := [(2464, (.aload_n 2, 1, (0, 0, 0), 0, 0)), (2465, (.invokevirtual 263, 3, (0, 325, 0), 0, 2164)), (2468, (.if_icmp .eq 489, 3, (2957, 0, 0), 0, 0)), (2471, (.iconst 0, 1, (0, 0, 0), 0, 0)), (2472, (.ireturn, 1, (0, 0, 0), 0, 0)), (2473, (.aload_n 1, 1, (0, 0, 0), 0, 0)), (2474, (.aload_n 0, 1, (0, 0, 0), 0, 0)), (2475, (.iload 4, 2, (0, 0, 0), 0, 0)), (2477, (.iconst 1, 1, (0, 0, 0), 1, 0)), (2478, (.iadd, 1, (0, 0, 0), 0, 0)), (2479, (.iaload, 1, (0, 0, 0), 0, 0)), (2480, (.aload_n 3, 1, (0, 0, 0), 0, 0)), (2481, (.invokestatic 264, 3, (0, 32, 0), 0, 1530)), (2484, (.istore 5, 2, (0, 0, 0), 0, 0)), (2486, (.aload_n 2, 1, (0, 0, 0), 0, 0)), (2487, (.aload_n 0, 1, (0, 0, 0), 0, 0)), (2488, (.iload 4, 2, (0, 0, 0), 0, 0)), (2490, (.iconst 1, 1, (0, 0, 0), 1, 0)), (2491, (.iadd, 1, (0, 0, 0), 0, 0)), (2492, (.iaload, 1, (0, 0, 0), 0, 0)), (2493, (.invokevirtual 266, 3, (0, 326, 0), 0, 2168))]
def zp0_78 : List (Nat × ZI) := [(2496, (.istore 6, 2, (0, 0, 0), 0, 0)), (2498, (.aload_n 2, 1, (0, 0, 0), 0, 0)), (2499, (.invokevirtual 154, 3, (0, 208, 0), 0, 1607)), (2502, (.iload 5, 2, (0, 0, 0), 0, 0)), (2504, (.if_icmp .eq 5, 3, (2509, 0, 0), 0, 0)), (2507, (.iconst 0, 1, (0, 0, 0), 0, 0)), (2508, (.ireturn, 1, (0, 0, 0), 0, 0)), (2509, (.iload 5, 2, (0, 0, 0), 0, 0)), (2511, (.ifCond .ne 15, 3, (2526, 0, 0), 0, 0)), (2514, (.aload_n 3, 1, (0, 0, 0), 0, 0)), (2515, (.iconst 0, 1, (0, 0, 0), 0, 0)), (2516, (.laload, 1, (0, 0, 0), 0, 0)), (2517, (.iload 6, 2, (0, 0, 0), 0, 0)), (2519, (.i2l, 1, (0, 0, 0), 0, 0)), (2520, (.lcmp, 1, (0, 0, 0), 0, 0)), (2521, (.ifCond .eq 5, 3, (2526, 0, 0), 0, 0)), (2524, (.iconst 0, 1, (0, 0, 0), 0, 0)), (2525, (.ireturn, 1, (0, 0, 0), 0, 0)), (2526, (.goto 431, 3, (2957, 0, 0), 0, 0))]
def zp0_79 : List (Nat × ZI) := [(2529, (.aload_n 1, 1, (0, 0, 0), 0, 0)), (2530, (.aload_n 0, 1, (0, 0, 0), 0, 0)), (2531, (.iload 4, 2, (0, 0, 0), 0, 0)), (2533, (.iconst 1, 1, (0, 0, 0), 1, 0)), (2534, (.iadd, 1, (0, 0, 0), 0, 0)), (2535, (.iaload, 1, (0, 0, 0), 0, 0)), (2536, (.aload_n 0, 1, (0, 0, 0), 0, 0)), (2537, (.iload 4, 2, (0, 0, 0), 0, 0)), (2539, (.iconst 2, 1, (0, 0, 0), 2, 0)), (2540, (.iadd, 1, (0, 0, 0), 0, 0)), (2541, (.iaload, 1, (0, 0, 0), 0, 0)), (2542, (.aload_n 3, 1, (0, 0, 0), 0, 0)), (2543, (.invokestatic 267, 3, (0, 33, 0), 0, 1541)), (2546, (.istore 5, 2, (0, 0, 0), 0, 0)), (2548, (.aload_n 2, 1, (0, 0, 0), 0, 0)), (2549, (.aload_n 0, 1, (0, 0, 0), 0, 0)), (2550, (.iload 4, 2, (0, 0, 0), 0, 0)), (2552, (.iconst 1, 1, (0, 0, 0), 1, 0)), (2553, (.iadd, 1, (0, 0, 0), 0, 0)), (2554, (.iaload, 1, (0, 0, 0), 0, 0)), (2555, (.aload_n 0, 1, (0, 0, 0), 0, 0)), (2556, (.iload 4, 2, (0, 0, 0), 0, 0)), (2558, (.iconst 2, 1, (0, 0, 0), 2, 0)), (2559, (.iadd, 1, (0, 0, 0), 0, 0))]
def zp0_80 : List (Nat × ZI) := [(2560, (.iaload, 1, (0, 0, 0), 0, 0)), (2561, (.invokevirtual 269, 3, (0, 327, 0), 0, 2172)), (2564, (.istore 6, 2, (0, 0, 0), 0, 0)), (2566, (.aload_n 2, 1, (0, 0, 0), 0, 0)), (2567, (.invokevirtual 154, 3, (0, 208, 0), 0, 1607)), (2570, (.iload 5, 2, (0, 0, 0), 0, 0)), (2572, (.if_icmp .eq 5, 3, (2577, 0, 0), 0, 0)), (2575, (.iconst 0, 1, (0, 0, 0), 0, 0)), (2576, (.ireturn, 1, (0, 0, 0), 0, 0)), (2577, (.iload 5, 2, (0, 0, 0), 0, 0)), (2579, (.ifCond .ne 15, 3, (2594, 0, 0), 0, 0)), (2582, (.aload_n 3, 1, (0, 0, 0), 0, 0)), (2583, (.iconst 0, 1, (0, 0, 0), 0, 0)), (2584, (.laload, 1, (0, 0, 0), 0, 0)), (2585, (.iload 6, 2, (0, 0, 0), 0, 0)), (2587, (.i2l, 1, (0, 0, 0), 0, 0)), (2588, (.lcmp, 1, (0, 0, 0), 0, 0)), (2589, (.ifCond .eq 5, 3, (2594, 0, 0), 0, 0))]
def zp0_81 : List (Nat × ZI) := [(2592, (.iconst 0, 1, (0, 0, 0), 0, 0)), (2593, (.ireturn, 1, (0, 0, 0), 0, 0)), (2594, (.goto 363, 3, (2957, 0, 0), 0, 0)), (2597, (.aload_n 1, 1, (0, 0, 0), 0, 0)), (2598, (.aload_n 0, 1, (0, 0, 0), 0, 0)), (2599, (.iload 4, 2, (0, 0, 0), 0, 0)), (2601, (.iconst 1, 1, (0, 0, 0), 1, 0)), (2602, (.iadd, 1, (0, 0, 0), 0, 0)), (2603, (.iaload, 1, (0, 0, 0), 0, 0)), (2604, (.aload_n 0, 1, (0, 0, 0), 0, 0)), (2605, (.iload 4, 2, (0, 0, 0), 0, 0)), (2607, (.iconst 2, 1, (0, 0, 0), 2, 0)), (2608, (.iadd, 1, (0, 0, 0), 0, 0)), (2609, (.iaload, 1, (0, 0, 0), 0, 0)), (2610, (.aload_n 3, 1, (0, 0, 0), 0, 0)), (2611, (.invokestatic 270, 3, (0, 34, 0), 0, 1552)), (2614, (.istore 5, 2, (0, 0, 0), 0, 0)), (2616, (.aload_n 2, 1, (0, 0, 0), 0, 0)), (2617, (.aload_n 0, 1, (0, 0, 0), 0, 0)), (2618, (.iload 4, 2, (0, 0, 0), 0, 0)), (2620, (.iconst 1, 1, (0, 0, 0), 1, 0)), (2621, (.iadd, 1, (0, 0, 0), 0, 0)), (2622, (.iaload, 1, (0, 0, 0), 0, 0)), (2623, (.aload_n 0, 1, (0, 0, 0), 0, 0))]
def zp0_82 : List (Nat × ZI) := [(2624, (.iload 4, 2, (0, 0, 0), 0, 0)), (2626, (.iconst 2, 1, (0, 0, 0), 2, 0)), (2627, (.iadd, 1, (0, 0, 0), 0, 0)), (2628, (.iaload, 1, (0, 0, 0), 0, 0)), (2629, (.invokevirtual 272, 3, (0, 329, 0), 0, 2176)), (2632, (.istore 6, 2, (0, 0, 0), 0, 0)), (2634, (.aload_n 2, 1, (0, 0, 0), 0, 0)), (2635, (.invokevirtual 154, 3, (0, 208, 0), 0, 1607)), (2638, (.iload 5, 2, (0, 0, 0), 0, 0)), (2640, (.if_icmp .eq 5, 3, (2645, 0, 0), 0, 0)), (2643, (.iconst 0, 1, (0, 0, 0), 0, 0)), (2644, (.ireturn, 1, (0, 0, 0), 0, 0)), (2645, (.iload 5, 2, (0, 0, 0), 0, 0)), (2647, (.ifCond .ne 15, 3, (2662, 0, 0), 0, 0)), (2650, (.aload_n 3, 1, (0, 0, 0), 0, 0)), (2651, (.iconst 0, 1, (0, 0, 0), 0, 0)), (2652, (.laload, 1, (0, 0, 0), 0, 0)), (2653, (.iload 6, 2, (0, 0, 0), 0, 0)), (2655, (.i2l, 1, (0, 0, 0), 0, 0))]
def zp0_83 : List (Nat × ZI) := [(2656, (.lcmp, 1, (0, 0, 0), 0, 0)), (2657, (.ifCond .eq 5, 3, (2662, 0, 0), 0, 0)), (2660, (.iconst 0, 1, (0, 0, 0), 0, 0)), (2661, (.ireturn, 1, (0, 0, 0), 0, 0)), (2662, (.goto 295, 3, (2957, 0, 0), 0, 0)), (2665, (.aload_n 1, 1, (0, 0, 0), 0, 0)), (2666, (.aload_n 3, 1, (0, 0, 0), 0, 0)), (2667, (.invokestatic 273, 3, (0, 35, 0), 0, 1564)), (2670, (.istore 5, 2, (0, 0, 0), 0, 0)), (2672, (.aload_n 2, 1, (0, 0, 0), 0, 0)), (2673, (.invokevirtual 275, 3, (0, 331, 0), 0, 2184)), (2676, (.istore 6, 2, (0, 0, 0), 0, 0)), (2678, (.aload_n 2, 1, (0, 0, 0), 0, 0)), (2679, (.invokevirtual 154, 3, (0, 208, 0), 0, 1607)), (2682, (.iload 5, 2, (0, 0, 0), 0, 0)), (2684, (.if_icmp .eq 5, 3, (2689, 0, 0), 0, 0)), (2687, (.iconst 0, 1, (0, 0, 0), 0, 0))]
def zp0_84 : List (Nat × ZI) := [(2688, (.ireturn, 1, (0, 0, 0), 0, 0)), (2689, (.iload 5, 2, (0, 0, 0), 0, 0)), (2691, (.ifCond .ne 15, 3, (2706, 0, 0), 0, 0)), (2694, (.aload_n 3, 1, (0, 0, 0), 0, 0)), (2695, (.iconst 0, 1, (0, 0, 0), 0, 0)), (2696, (.laload, 1, (0, 0, 0), 0, 0)), (2697, (.iload 6, 2, (0, 0, 0), 0, 0)), (2699, (.i2l, 1, (0, 0, 0), 0, 0)), (2700, (.lcmp, 1, (0, 0, 0), 0, 0)), (2701, (.ifCond .eq 5, 3, (2706, 0, 0), 0, 0)), (2704, (.iconst 0, 1, (0, 0, 0), 0, 0)), (2705, (.ireturn, 1, (0, 0, 0), 0, 0)), (2706, (.goto 251, 3, (2957, 0, 0), 0, 0)), (2709, (.aload_n 1, 1, (0, 0, 0), 0, 0)), (2710, (.aload_n 0, 1, (0, 0, 0), 0, 0)), (2711, (.iload 4, 2, (0, 0, 0), 0, 0)), (2713, (.iconst 1, 1, (0, 0, 0), 1, 0)), (2714, (.iadd, 1, (0, 0, 0), 0, 0)), (2715, (.iaload, 1, (0, 0, 0), 0, 0)), (2716, (.invokevirtual 276, 3, (0, 79, 0), 0, 723)), (2719, (.aload_n 2, 1, (0, 0, 0), 0, 0))]
def zp0_85 : List (Nat × ZI) := [(2720, (.aload_n 0, 1, (0, 0, 0), 0, 0)), (2721, (.iload 4, 2, (0, 0, 0), 0, 0)), (2723, (.iconst 1, 1, (0, 0, 0), 1, 0)), (2724, (.iadd, 1, (0, 0, 0), 0, 0)), (2725, (.iaload, 1, (0, 0, 0), 0, 0)), (2726, (.invokevirtual 279, 3, (0, 332, 0), 0, 2192)), (2729, (.if_icmp .eq 228, 3, (2957, 0, 0), 0, 0)), (2732, (.iconst 0, 1, (0, 0, 0), 0, 0)), (2733, (.ireturn, 1, (0, 0, 0), 0, 0)), (2734, (.aload_n 1, 1, (0, 0, 0), 0, 0)), (2735, (.aload_n 0, 1, (0, 0, 0), 0, 0)), (2736, (.iload 4, 2, (0, 0, 0), 0, 0)), (2738, (.iconst 1, 1, (0, 0, 0), 1, 0)), (2739, (.iadd, 1, (0, 0, 0), 0, 0)), (2740, (.iaload, 1, (0, 0, 0), 0, 0)), (2741, (.aload_n 0, 1, (0, 0, 0), 0, 0)), (2742, (.iload 4, 2, (0, 0, 0), 0, 0)), (2744, (.iconst 2, 1, (0, 0, 0), 2, 0)), (2745, (.iadd, 1, (0, 0, 0), 0, 0)), (2746, (.iaload, 1, (0, 0, 0), 0, 0)), (2747, (.aload_n 3, 1, (0, 0, 0), 0, 0)), (2748, (.invokestatic 280, 3, (0, 36, 0), 0, 1587)), (2751, (.istore 5, 2, (0, 0, 0), 0, 0))]
def zp0_86 : List (Nat × ZI) := [(2753, (.aload_n 2, 1, (0, 0, 0), 0, 0)), (2754, (.aload_n 0, 1, (0, 0, 0), 0, 0)), (2755, (.iload 4, 2, (0, 0, 0), 0, 0)), (2757, (.iconst 1, 1, (0, 0, 0), 1, 0)), (2758, (.iadd, 1, (0, 0, 0), 0, 0)), (2759, (.iaload, 1, (0, 0, 0), 0, 0)), (2760, (.aload_n 0, 1, (0, 0, 0), 0, 0)), (2761, (.iload 4, 2, (0, 0, 0), 0, 0)), (2763, (.iconst 2, 1, (0, 0, 0), 2, 0)), (2764, (.iadd, 1, (0, 0, 0), 0, 0)), (2765, (.iaload, 1, (0, 0, 0), 0, 0)), (2766, (.invokevirtual 282, 3, (0, 333, 0), 0, 2196)), (2769, (.istore 6, 2, (0, 0, 0), 0, 0)), (2771, (.aload_n 2, 1, (0, 0, 0), 0, 0)), (2772, (.invokevirtual 154, 3, (0, 208, 0), 0, 1607)), (2775, (.iload 5, 2, (0, 0, 0), 0, 0)), (2777, (.if_icmp .eq 5, 3, (2782, 0, 0), 0, 0)), (2780, (.iconst 0, 1, (0, 0, 0), 0, 0)), (2781, (.ireturn, 1, (0, 0, 0), 0, 0)), (2782, (.iload 5, 2, (0, 0, 0), 0, 0))]
def zp0_87 : List (Nat × ZI) := [(2784, (.ifCond .ne 15, 3, (2799, 0, 0), 0, 0)), (2787, (.aload_n 3, 1, (0, 0, 0), 0, 0)), (2788, (.iconst 0, 1, (0, 0, 0), 0, 0)), (2789, (.laload, 1, (0, 0, 0), 0, 0)), (2790, (.iload 6, 2, (0, 0, 0), 0, 0)), (2792, (.i2l, 1, (0, 0, 0), 0, 0)), (2793, (.lcmp, 1, (0, 0, 0), 0, 0)), (2794, (.ifCond .eq 5, 3, (2799, 0, 0), 0, 0)), (2797, (.iconst 0, 1, (0, 0, 0), 0, 0)), (2798, (.ireturn, 1, (0, 0, 0), 0, 0)), (2799, (.goto 158, 3, (2957, 0, 0), 0, 0)), (2802, (.aload_n 1, 1, (0, 0, 0), 0, 0)), (2803, (.aload_n 0, 1, (0, 0, 0), 0, 0)), (2804, (.iload 4, 2, (0, 0, 0), 0, 0)), (2806, (.iconst 1, 1, (0, 0, 0), 1, 0)), (2807, (.iadd, 1, (0, 0, 0), 0, 0)), (2808, (.iaload, 1, (0, 0, 0), 0, 0)), (2809, (.aload_n 0, 1, (0, 0, 0), 0, 0)), (2810, (.iload 4, 2, (0, 0, 0), 0, 0)), (2812, (.iconst 2, 1, (0, 0, 0), 2, 0)), (2813, (.iadd, 1, (0, 0, 0), 0, 0)), (2814, (.iaload, 1, (0, 0, 0), 0, 0)), (2815, (.aload_n 3, 1, (0, 0, 0), 0, 0))]
def zp0_88 : List (Nat × ZI) := [(2816, (.invokestatic 283, 3, (0, 37, 0), 0, 1596)), (2819, (.istore 5, 2, (0, 0, 0), 0, 0)), (2821, (.aload_n 2, 1, (0, 0, 0), 0, 0)), (2822, (.aload_n 0, 1, (0, 0, 0), 0, 0)), (2823, (.iload 4, 2, (0, 0, 0), 0, 0)), (2825, (.iconst 1, 1, (0, 0, 0), 1, 0)), (2826, (.iadd, 1, (0, 0, 0), 0, 0)), (2827, (.iaload, 1, (0, 0, 0), 0, 0)), (2828, (.aload_n 0, 1, (0, 0, 0), 0, 0)), (2829, (.iload 4, 2, (0, 0, 0), 0, 0)), (2831, (.iconst 2, 1, (0, 0, 0), 2, 0)), (2832, (.iadd, 1, (0, 0, 0), 0, 0)), (2833, (.iaload, 1, (0, 0, 0), 0, 0)), (2834, (.invokevirtual 285, 3, (0, 334, 0), 0, 2200)), (2837, (.istore 6, 2, (0, 0, 0), 0, 0)), (2839, (.aload_n 2, 1, (0, 0, 0), 0, 0)), (2840, (.invokevirtual 154, 3, (0, 208, 0), 0, 1607)), (2843, (.iload 5, 2, (0, 0, 0), 0, 0)), (2845, (.if_icmp .eq 5, 3, (2850, 0, 0), 0, 0))]
def zp0_89 : List (Nat × ZI) := [(2848, (.iconst 0, 1, (0, 0, 0), 0, 0)), (2849, (.ireturn, 1, (0, 0, 0), 0, 0)), (2850, (.iload 5, 2, (0, 0, 0), 0, 0)), (2852, (.ifCond .ne 15, 3, (2867, 0, 0), 0, 0)), (2855, (.aload_n 3, 1, (0, 0, 0), 0, 0)), (2856, (.iconst 0, 1, (0, 0, 0), 0, 0)), (2857, (.laload, 1, (0, 0, 0), 0, 0)), (2858, (.iload 6, 2, (0, 0, 0), 0, 0)), (2860, (.i2l, 1, (0, 0, 0), 0, 0)), (2861, (.lcmp, 1, (0, 0, 0), 0, 0)), (2862, (.ifCond .eq 5, 3, (2867, 0, 0), 0, 0)), (2865, (.iconst 0, 1, (0, 0, 0), 0, 0)), (2866, (.ireturn, 1, (0, 0, 0), 0, 0)), (2867, (.goto 90, 3, (2957, 0, 0), 0, 0)), (2870, (.aload_n 1, 1, (0, 0, 0), 0, 0)), (2871, (.aload_n 0, 1, (0, 0, 0), 0, 0)), (2872, (.iload 4, 2, (0, 0, 0), 0, 0)), (2874, (.iconst 1, 1, (0, 0, 0), 1, 0)), (2875, (.iadd, 1, (0, 0, 0), 0, 0)), (2876, (.iaload, 1, (0, 0, 0), 0, 0)), (2877, (.invokevirtual 286, 3, (0, 82, 0), 0, 742))]
def zp0_90 : List (Nat × ZI) := [(2880, (.aload_n 2, 1, (0, 0, 0), 0, 0)), (2881, (.aload_n 0, 1, (0, 0, 0), 0, 0)), (2882, (.iload 4, 2, (0, 0, 0), 0, 0)), (2884, (.iconst 1, 1, (0, 0, 0), 1, 0)), (2885, (.iadd, 1, (0, 0, 0), 0, 0)), (2886, (.iaload, 1, (0, 0, 0), 0, 0)), (2887, (.invokevirtual 289, 3, (0, 335, 0), 0, 2204)), (2890, (.if_icmp .eq 67, 3, (2957, 0, 0), 0, 0)), (2893, (.iconst 0, 1, (0, 0, 0), 0, 0)), (2894, (.ireturn, 1, (0, 0, 0), 0, 0)), (2895, (.aload_n 1, 1, (0, 0, 0), 0, 0)), (2896, (.invokevirtual 290, 3, (0, 83, 0), 0, 746)), (2899, (.aload_n 2, 1, (0, 0, 0), 0, 0)), (2900, (.invokevirtual 294, 3, (0, 216, 0), 0, 1683)), (2903, (.if_icmp .eq 54, 3, (2957, 0, 0), 0, 0)), (2906, (.iconst 0, 1, (0, 0, 0), 0, 0)), (2907, (.ireturn, 1, (0, 0, 0), 0, 0)), (2908, (.aload_n 1, 1, (0, 0, 0), 0, 0)), (2909, (.invokevirtual 295, 3, (0, 84, 0), 0, 760))]
def zp0_91 : List (Nat × ZI) := [(2912, (.aload_n 2, 1, (0, 0, 0), 0, 0)), (2913, (.invokevirtual 298, 3, (0, 213, 0), 0, 1675)), (2916, (.goto 41, 3, (2957, 0, 0), 0, 0)), (2919, (.aload_n 1, 1, (0, 0, 0), 0, 0)), (2920, (.invokevirtual 299, 3, (0, 85, 0), 0, 780)), (2923, (.aload_n 2, 1, (0, 0, 0), 0, 0)), (2924, (.invokevirtual 302, 3, (0, 214, 0), 0, 1679)), (2927, (.if_icmp .eq 30, 3, (2957, 0, 0), 0, 0)), (2930, (.iconst 0, 1, (0, 0, 0), 0, 0)), (2931, (.ireturn, 1, (0, 0, 0), 0, 0)), (2932, (.aload_n 1, 1, (0, 0, 0), 0, 0)), (2933, (.aload_n 0, 1, (0, 0, 0), 0, 0)), (2934, (.iload 4, 2, (0, 0, 0), 0, 0)), (2936, (.iconst 1, 1, (0, 0, 0), 1, 0)), (2937, (.iadd, 1, (0, 0, 0), 0, 0)), (2938, (.iaload, 1, (0, 0, 0), 0, 0)), (2939, (.invokevirtual 303, 3, (0, 86, 0), 0, 792)), (2942, (.aload_n 2, 1, (0, 0, 0), 0, 0)), (2943, (.aload_n 0, 1, (0, 0, 0), 0, 0))]
def zp0_92 : List (Nat × ZI) := [(2944, (.iload 4, 2, (0, 0, 0), 0, 0)), (2946, (.iconst 1, 1, (0, 0, 0), 1, 0)), (2947, (.iadd, 1, (0, 0, 0), 0, 0)), (2948, (.iaload, 1, (0, 0, 0), 0, 0)), (2949, (.invokevirtual 306, 3, (0, 336, 0), 0, 2208)), (2952, (.if_icmp .eq 5, 3, (2957, 0, 0), 0, 0)), (2955, (.iconst 0, 1, (0, 0, 0), 0, 0)), (2956, (.ireturn, 1, (0, 0, 0), 0, 0)), (2957, (.iinc 4 6, 3, (0, 0, 0), 6, 0)), (2960, (.goto (-2937), 3, (23, 0, 0), 0, 0)), (2963, (.iconst 1, 1, (0, 0, 0), 1, 0)), (2964, (.ireturn, 1, (0, 0, 0), 0, 0))]
set_option maxRecDepth 10000 in
def zp0 : List (List (Nat × ZI)) := [zp0_0, zp0_1, zp0_2, zp0_3, zp0_4, zp0_5, zp0_6, zp0_7, zp0_8, zp0_9, zp0_10, zp0_11, zp0_12, zp0_13, zp0_14, zp0_15, zp0_16, zp0_17, zp0_18, zp0_19, zp0_20, zp0_21, zp0_22, zp0_23, zp0_24, zp0_25, zp0_26, zp0_27, zp0_28, zp0_29, zp0_30, zp0_31, zp0_32, zp0_33, zp0_34, zp0_35, zp0_36, zp0_37, zp0_38, zp0_39, zp0_40, zp0_41, zp0_42, zp0_43, zp0_44, zp0_45, zp0_46, zp0_47, zp0_48, zp0_49, zp0_50, zp0_51, zp0_52, zp0_53, zp0_54, zp0_55, zp0_56, zp0_57, zp0_58, zp0_59, zp0_60, zp0_61, zp0_62, zp0_63, zp0_64, zp0_65, zp0_66, zp0_67, zp0_68, zp0_69, zp0_70, zp0_71, zp0_72, zp0_73, zp0_74, zp0_75, zp0_76, zp0_77, zp0_78, zp0_79, zp0_80, zp0_81, zp0_82, zp0_83, zp0_84, zp0_85, zp0_86, zp0_87, zp0_88, zp0_89, zp0_90, zp0_91, zp0_92]
set_option maxRecDepth 10000 in
def zp1 : List (List (Nat × ZI)) := [[(0, (.aload_n 1, 1, (0, 0, 0), 0, 0)), (1, (.iconst 0, 1, (0, 0, 0), 0, 0)), (2, (.aload_n 0, 1, (0, 0, 0), 0, 0)), (3, (.invokevirtual 7, 3, (0, 41, 0), 0, 810)), (6, (.i2l, 1, (0, 0, 0), 0, 0)), (7, (.lastore, 1, (0, 0, 0), 0, 0)), (8, (.goto 9, 3, (17, 0, 0), 0, 0)), (11, (.astore_n 2, 1, (0, 0, 0), 0, 0)), (12, (.iconst 1, 1, (0, 0, 0), 1, 0)), (13, (.ireturn, 1, (0, 0, 0), 0, 0)), (14, (.astore_n 2, 1, (0, 0, 0), 0, 0)), (15, (.iconst 2, 1, (0, 0, 0), 2, 0)), (16, (.ireturn, 1, (0, 0, 0), 0, 0)), (17, (.iconst 0, 1, (0, 0, 0), 0, 0)), (18, (.ireturn, 1, (0, 0, 0), 0, 0))]]
set_option maxRecDepth 10000 in
def zp2 : List (List (Nat × ZI)) := [[(0, (.aload_n 1, 1, (0, 0, 0), 0, 0)), (1, (.iconst 0, 1, (0, 0, 0), 0, 0)), (2, (.aload_n 0, 1, (0, 0, 0), 0, 0)), (3, (.invokevirtual 17, 3, (0, 42, 0), 0, 1047)), (6, (.i2l, 1, (0, 0, 0), 0, 0)), (7, (.lastore, 1, (0, 0, 0), 0, 0)), (8, (.goto 6, 3, (14, 0, 0), 0, 0)), (11, (.astore_n 2, 1, (0, 0, 0), 0, 0)), (12, (.iconst 1, 1, (0, 0, 0), 1, 0)), (13, (.ireturn, 1, (0, 0, 0), 0, 0)), (14, (.iconst 0, 1, (0, 0, 0), 0, 0)), (15, (.ireturn, 1, (0, 0, 0), 0, 0))]]
set_option maxRecDepth 10000 in
def zp3 : List (List (Nat × ZI)) := [[(0, (.aload_n 3, 1, (0, 0, 0), 0, 0)), (1, (.iconst 0, 1, (0, 0, 0), 0, 0)), (2, (.aload_n 0, 1, (0, 0, 0), 0, 0)), (3, (.iload_n 1, 1, (0, 0, 0), 0, 0)), (4, (.iload_n 2, 1, (0, 0, 0), 0, 0)), (5, (.invokevirtual 20, 3, (0, 44, 0), 0, 1124)), (8, (.i2l, 1, (0, 0, 0), 0, 0)), (9, (.lastore, 1, (0, 0, 0), 0, 0)), (10, (.goto 11, 3, (21, 0, 0), 0, 0)), (13, (.astore 4, 2, (0, 0, 0), 0, 0)), (15, (.iconst 1, 1, (0, 0, 0), 1, 0)), (16, (.ireturn, 1, (0, 0, 0), 0, 0)), (17, (.astore 4, 2, (0, 0, 0), 0, 0)), (19, (.iconst 2, 1, (0, 0, 0), 2, 0)), (20, (.ireturn, 1, (0, 0, 0), 0, 0)), (21, (.iconst 0, 1, (0, 0, 0), 0, 0)), (22, (.ireturn, 1, (0, 0, 0), 0, 0))]]
set_option maxRecDepth 10000 in
def zp4 : List (List (Nat × ZI)) := [[(0, (.aload_n 3, 1, (0, 0, 0), 0, 0)), (1, (.iconst 0, 1, (0, 0, 0), 0, 0)), (2, (.aload_n 0, 1, (0, 0, 0), 0, 0)), (3, (.iload_n 1, 1, (0, 0, 0), 0, 0)), (4, (.iload_n 2, 1, (0, 0, 0), 0, 0)), (5, (.invokevirtual 28, 3, (0, 45, 0), 0, 1186)), (8, (.i2l, 1, (0, 0, 0), 0, 0)), (9, (.lastore, 1, (0, 0, 0), 0, 0)), (10, (.goto 7, 3, (17, 0, 0), 0, 0)), (13, (.astore 4, 2, (0, 0, 0), 0, 0)), (15, (.iconst 1, 1, (0, 0, 0), 1, 0)), (16, (.ireturn, 1, (0, 0, 0), 0, 0)), (17, (.iconst 0, 1, (0, 0, 0), 0, 0)), (18, (.ireturn, 1, (0, 0, 0), 0, 0))]]
set_option maxRecDepth 10000 in
def zp5 : List (List (Nat × ZI)) := [[(0, (.aload_n 3, 1, (0, 0, 0), 0, 0)), (1, (.iconst 0, 1, (0, 0, 0), 0, 0)), (2, (.aload_n 0, 1, (0, 0, 0), 0, 0)), (3, (.iload_n 1, 1, (0, 0, 0), 0, 0)), (4, (.iload_n 2, 1, (0, 0, 0), 0, 0)), (5, (.invokevirtual 31, 3, (0, 46, 0), 0, 1198)), (8, (.i2l, 1, (0, 0, 0), 0, 0)), (9, (.lastore, 1, (0, 0, 0), 0, 0)), (10, (.goto 11, 3, (21, 0, 0), 0, 0)), (13, (.astore 4, 2, (0, 0, 0), 0, 0)), (15, (.iconst 1, 1, (0, 0, 0), 1, 0)), (16, (.ireturn, 1, (0, 0, 0), 0, 0)), (17, (.astore 4, 2, (0, 0, 0), 0, 0)), (19, (.iconst 2, 1, (0, 0, 0), 2, 0)), (20, (.ireturn, 1, (0, 0, 0), 0, 0)), (21, (.iconst 0, 1, (0, 0, 0), 0, 0)), (22, (.ireturn, 1, (0, 0, 0), 0, 0))]]
set_option maxRecDepth 10000 in
def zp6 : List (List (Nat × ZI)) := [[(0, (.aload_n 3, 1, (0, 0, 0), 0, 0)), (1, (.iconst 0, 1, (0, 0, 0), 0, 0)), (2, (.aload_n 0, 1, (0, 0, 0), 0, 0)), (3, (.iload_n 1, 1, (0, 0, 0), 0, 0)), (4, (.iload_n 2, 1, (0, 0, 0), 0, 0)), (5, (.invokevirtual 34, 3, (0, 47, 0), 0, 1212)), (8, (.i2l, 1, (0, 0, 0), 0, 0)), (9, (.lastore, 1, (0, 0, 0), 0, 0)), (10, (.goto 7, 3, (17, 0, 0), 0, 0)), (13, (.astore 4, 2, (0, 0, 0), 0, 0)), (15, (.iconst 1, 1, (0, 0, 0), 1, 0)), (16, (.ireturn, 1, (0, 0, 0), 0, 0)), (17, (.iconst 0, 1, (0, 0, 0), 0, 0)), (18, (.ireturn, 1, (0, 0, 0), 0, 0))]]
set_option maxRecDepth 10000 in
def zp7 : List (List (Nat × ZI)) := [[(0, (.aload_n 3, 1, (0, 0, 0), 0, 0)), (1, (.iconst 0, 1, (0, 0, 0), 0, 0)), (2, (.aload_n 0, 1, (0, 0, 0), 0, 0)), (3, (.iload_n 1, 1, (0, 0, 0), 0, 0)), (4, (.iload_n 2, 1, (0, 0, 0), 0, 0)), (5, (.invokevirtual 37, 3, (0, 48, 0), 0, 1219)), (8, (.i2l, 1, (0, 0, 0), 0, 0)), (9, (.lastore, 1, (0, 0, 0), 0, 0)), (10, (.goto 7, 3, (17, 0, 0), 0, 0)), (13, (.astore 4, 2, (0, 0, 0), 0, 0)), (15, (.iconst 1, 1, (0, 0, 0), 1, 0)), (16, (.ireturn, 1, (0, 0, 0), 0, 0)), (17, (.iconst 0, 1, (0, 0, 0), 0, 0)), (18, (.ireturn, 1, (0, 0, 0), 0, 0))]]
set_option maxRecDepth 10000 in
def zp8 : List (List (Nat × ZI)) := [[(0, (.aload 4, 2, (0, 0, 0), 0, 0)), (2, (.iconst 0, 1, (0, 0, 0), 0, 0)), (3, (.aload_n 0, 1, (0, 0, 0), 0, 0)), (4, (.iload_n 1, 1, (0, 0, 0), 0, 0)), (5, (.iload_n 2, 1, (0, 0, 0), 0, 0)), (6, (.iload_n 3, 1, (0, 0, 0), 0, 0)), (7, (.invokevirtual 40, 3, (0, 49, 0), 0, 1226)), (10, (.i2l, 1, (0, 0, 0), 0, 0)), (11, (.lastore, 1, (0, 0, 0), 0, 0)), (12, (.goto 11, 3, (23, 0, 0), 0, 0)), (15, (.astore 5, 2, (0, 0, 0), 0, 0)), (17, (.iconst 1, 1, (0, 0, 0), 1, 0)), (18, (.ireturn, 1, (0, 0, 0), 0, 0)), (19, (.astore 5, 2, (0, 0, 0), 0, 0)), (21, (.iconst 2, 1, (0, 0, 0), 2, 0)), (22, (.ireturn, 1, (0, 0, 0), 0, 0)), (23, (.iconst 0, 1, (0, 0, 0), 0, 0)), (24, (.ireturn, 1, (0, 0, 0), 0, 0))]]
set_option maxRecDepth 10000 in
def zp9 : List (List (Nat × ZI)) := [[(0, (.aload_n 2, 1, (0, 0, 0), 0, 0)), (1, (.iconst 0, 1, (0, 0, 0), 0, 0)), (2, (.aload_n 0, 1, (0, 0, 0), 0, 0)), (3, (.iload_n 1, 1, (0, 0, 0), 0, 0)), (4, (.invokevirtual 44, 3, (0, 50, 0), 0, 1238)), (7, (.i2l, 1, (0, 0, 0), 0, 0)), (8, (.lastore, 1, (0, 0, 0), 0, 0)), (9, (.goto 6, 3, (15, 0, 0), 0, 0)), (12, (.astore_n 3, 1, (0, 0, 0), 0, 0)), (13, (.iconst 1, 1, (0, 0, 0), 1, 0)), (14, (.ireturn, 1, (0, 0, 0), 0, 0)), (15, (.iconst 0, 1, (0, 0, 0), 0, 0)), (16, (.ireturn, 1, (0, 0, 0), 0, 0))]]
set_option maxRecDepth 10000 in
def zp10 : List (List (Nat × ZI)) := [[(0, (.aload_n 2, 1, (0, 0, 0), 0, 0)), (1, (.iconst 0, 1, (0, 0, 0), 0, 0)), (2, (.aload_n 0, 1, (0, 0, 0), 0, 0)), (3, (.iload_n 1, 1, (0, 0, 0), 0, 0)), (4, (.invokevirtual 48, 3, (0, 51, 0), 0, 1257)), (7, (.i2l, 1, (0, 0, 0), 0, 0)), (8, (.lastore, 1, (0, 0, 0), 0, 0)), (9, (.goto 6, 3, (15, 0, 0), 0, 0)), (12, (.astore_n 3, 1, (0, 0, 0), 0, 0)), (13, (.iconst 1, 1, (0, 0, 0), 1, 0)), (14, (.ireturn, 1, (0, 0, 0), 0, 0)), (15, (.iconst 0, 1, (0, 0, 0), 0, 0)), (16, (.ireturn, 1, (0, 0, 0), 0, 0))]]
set_option maxRecDepth 10000 in
def zp11 : List (List (Nat × ZI)) := [[(0, (.aload_n 2, 1, (0, 0, 0), 0, 0)), (1, (.iconst 0, 1, (0, 0, 0), 0, 0)), (2, (.aload_n 0, 1, (0, 0, 0), 0, 0)), (3, (.iload_n 1, 1, (0, 0, 0), 0, 0)), (4, (.invokevirtual 51, 3, (0, 52, 0), 0, 1269)), (7, (.i2l, 1, (0, 0, 0), 0, 0)), (8, (.lastore, 1, (0, 0, 0), 0, 0)), (9, (.goto 6, 3, (15, 0, 0), 0, 0)), (12, (.astore_n 3, 1, (0, 0, 0), 0, 0)), (13, (.iconst 1, 1, (0, 0, 0), 1, 0)), (14, (.ireturn, 1, (0, 0, 0), 0, 0)), (15, (.iconst 0, 1, (0, 0, 0), 0, 0)), (16, (.ireturn, 1, (0, 0, 0), 0, 0))]]
set_option maxRecDepth 10000 in
def zp12 : List (List (Nat × ZI)) := [[(0, (.aload_n 3, 1, (0, 0, 0), 0, 0)), (1, (.iconst 0, 1, (0, 0, 0), 0, 0)), (2, (.aload_n 0, 1, (0, 0, 0), 0, 0)), (3, (.iload_n 1, 1, (0, 0, 0), 0, 0)), (4, (.iload_n 2, 1, (0, 0, 0), 0, 0)), (5, (.invokevirtual 54, 3, (0, 53, 0), 0, 1281)), (8, (.i2l, 1, (0, 0, 0), 0, 0)), (9, (.lastore, 1, (0, 0, 0), 0, 0)), (10, (.goto 11, 3, (21, 0, 0), 0, 0)), (13, (.astore 4, 2, (0, 0, 0), 0, 0)), (15, (.iconst 1, 1, (0, 0, 0), 1, 0)), (16, (.ireturn, 1, (0, 0, 0), 0, 0)), (17, (.astore 4, 2, (0, 0, 0), 0, 0)), (19, (.iconst 2, 1, (0, 0, 0), 2, 0)), (20, (.ireturn, 1, (0, 0, 0), 0, 0)), (21, (.iconst 0, 1, (0, 0, 0), 0, 0)), (22, (.ireturn, 1, (0, 0, 0), 0, 0))]]
set_option maxRecDepth 10000 in
def zp13 : List (List (Nat × ZI)) := [[(0, (.aload_n 3, 1, (0, 0, 0), 0, 0)), (1, (.iconst 0, 1, (0, 0, 0), 0, 0)), (2, (.aload_n 0, 1, (0, 0, 0), 0, 0)), (3, (.iload_n 1, 1, (0, 0, 0), 0, 0)), (4, (.iload_n 2, 1, (0, 0, 0), 0, 0)), (5, (.invokevirtual 57, 3, (0, 54, 0), 0, 1288)), (8, (.i2l, 1, (0, 0, 0), 0, 0)), (9, (.lastore, 1, (0, 0, 0), 0, 0)), (10, (.goto 11, 3, (21, 0, 0), 0, 0)), (13, (.astore 4, 2, (0, 0, 0), 0, 0)), (15, (.iconst 1, 1, (0, 0, 0), 1, 0)), (16, (.ireturn, 1, (0, 0, 0), 0, 0)), (17, (.astore 4, 2, (0, 0, 0), 0, 0)), (19, (.iconst 2, 1, (0, 0, 0), 2, 0)), (20, (.ireturn, 1, (0, 0, 0), 0, 0)), (21, (.iconst 0, 1, (0, 0, 0), 0, 0)), (22, (.ireturn, 1, (0, 0, 0), 0, 0))]]
set_option maxRecDepth 10000 in
def zp14 : List (List (Nat × ZI)) := [[(0, (.aload_n 3, 1, (0, 0, 0), 0, 0)), (1, (.iconst 0, 1, (0, 0, 0), 0, 0)), (2, (.aload_n 0, 1, (0, 0, 0), 0, 0)), (3, (.iload_n 1, 1, (0, 0, 0), 0, 0)), (4, (.iload_n 2, 1, (0, 0, 0), 0, 0)), (5, (.invokevirtual 60, 3, (0, 55, 0), 0, 1295)), (8, (.i2l, 1, (0, 0, 0), 0, 0)), (9, (.lastore, 1, (0, 0, 0), 0, 0)), (10, (.goto 11, 3, (21, 0, 0), 0, 0)), (13, (.astore 4, 2, (0, 0, 0), 0, 0)), (15, (.iconst 1, 1, (0, 0, 0), 1, 0)), (16, (.ireturn, 1, (0, 0, 0), 0, 0)), (17, (.astore 4, 2, (0, 0, 0), 0, 0)), (19, (.iconst 2, 1, (0, 0, 0), 2, 0)), (20, (.ireturn, 1, (0, 0, 0), 0, 0)), (21, (.iconst 0, 1, (0, 0, 0), 0, 0)), (22, (.ireturn, 1, (0, 0, 0), 0, 0))]]
set_option maxRecDepth 10000 in
def zp15 : List (List (Nat × ZI)) := [[(0, (.aload_n 3, 1, (0, 0, 0), 0, 0)), (1, (.iconst 0, 1, (0, 0, 0), 0, 0)), (2, (.aload_n 0, 1, (0, 0, 0), 0, 0)), (3, (.iload_n 1, 1, (0, 0, 0), 0, 0)), (4, (.iload_n 2, 1, (0, 0, 0), 0, 0)), (5, (.invokevirtual 63, 3, (0, 56, 0), 0, 1302)), (8, (.i2l, 1, (0, 0, 0), 0, 0)), (9, (.lastore, 1, (0, 0, 0), 0, 0)), (10, (.goto 11, 3, (21, 0, 0), 0, 0)), (13, (.astore 4, 2, (0, 0, 0), 0, 0)), (15, (.iconst 1, 1, (0, 0, 0), 1, 0)), (16, (.ireturn, 1, (0, 0, 0), 0, 0)), (17, (.astore 4, 2, (0, 0, 0), 0, 0)), (19, (.iconst 2, 1, (0, 0, 0), 2, 0)), (20, (.ireturn, 1, (0, 0, 0), 0, 0)), (21, (.iconst 0, 1, (0, 0, 0), 0, 0)), (22, (.ireturn, 1, (0, 0, 0), 0, 0))]]
set_option maxRecDepth 10000 in
def zp16 : List (List (Nat × ZI)) := [[(0, (.aload 4, 2, (0, 0, 0), 0, 0)), (2, (.iconst 0, 1, (0, 0, 0), 0, 0)), (3, (.aload_n 0, 1, (0, 0, 0), 0, 0)), (4, (.iload_n 1, 1, (0, 0, 0), 0, 0)), (5, (.iload_n 2, 1, (0, 0, 0), 0, 0)), (6, (.iload_n 3, 1, (0, 0, 0), 0, 0)), (7, (.invokevirtual 66, 3, (0, 57, 0), 0, 1327)), (10, (.i2l, 1, (0, 0, 0), 0, 0)), (11, (.lastore, 1, (0, 0, 0), 0, 0)), (12, (.goto 11, 3, (23, 0, 0), 0, 0)), (15, (.astore 5, 2, (0, 0, 0), 0, 0)), (17, (.iconst 1, 1, (0, 0, 0), 1, 0)), (18, (.ireturn, 1, (0, 0, 0), 0, 0)), (19, (.astore 5, 2, (0, 0, 0), 0, 0)), (21, (.iconst 2, 1, (0, 0, 0), 2, 0)), (22, (.ireturn, 1, (0, 0, 0), 0, 0)), (23, (.iconst 0, 1, (0, 0, 0), 0, 0)), (24, (.ireturn, 1, (0, 0, 0), 0, 0))]]
set_option maxRecDepth 10000 in
def zp17 : List (List (Nat × ZI)) := [[(0, (.aload 4, 2, (0, 0, 0), 0, 0)), (2, (.iconst 0, 1, (0, 0, 0), 0, 0)), (3, (.aload_n 0, 1, (0, 0, 0), 0, 0)), (4, (.iload_n 1, 1, (0, 0, 0), 0, 0)), (5, (.iload_n 2, 1, (0, 0, 0), 0, 0)), (6, (.iload_n 3, 1, (0, 0, 0), 0, 0)), (7, (.invokevirtual 69, 3, (0, 58, 0), 0, 1338)), (10, (.i2l, 1, (0, 0, 0), 0, 0)), (11, (.lastore, 1, (0, 0, 0), 0, 0)), (12, (.goto 7, 3, (19, 0, 0), 0, 0)), (15, (.astore 5, 2, (0, 0, 0), 0, 0)), (17, (.iconst 1, 1, (0, 0, 0), 1, 0)), (18, (.ireturn, 1, (0, 0, 0), 0, 0)), (19, (.iconst 0, 1, (0, 0, 0), 0, 0)), (20, (.ireturn, 1, (0, 0, 0), 0, 0))]]
set_option maxRecDepth 10000 in
def zp18 : List (List (Nat × ZI)) := [[(0, (.aload_n 3, 1, (0, 0, 0), 0, 0)), (1, (.iconst 0, 1, (0, 0, 0), 0, 0)), (2, (.aload_n 0, 1, (0, 0, 0), 0, 0)), (3, (.iload_n 1, 1, (0, 0, 0), 0, 0)), (4, (.iload_n 2, 1, (0, 0, 0), 0, 0)), (5, (.invokevirtual 73, 3, (0, 59, 0), 0, 1349)), (8, (.i2l, 1, (0, 0, 0), 0, 0)), (9, (.lastore, 1, (0, 0, 0), 0, 0)), (10, (.goto 7, 3, (17, 0, 0), 0, 0)), (13, (.astore 4, 2, (0, 0, 0), 0, 0)), (15, (.iconst 1, 1, (0, 0, 0), 1, 0)), (16, (.ireturn, 1, (0, 0, 0), 0, 0)), (17, (.iconst 0, 1, (0, 0, 0), 0, 0)), (18, (.ireturn, 1, (0, 0, 0), 0, 0))]]
set_option maxRecDepth 10000 in
def zp19 : List (List (Nat × ZI)) := [[(0, (.aload_n 3, 1, (0, 0, 0), 0, 0)), (1, (.iconst 0, 1, (0, 0, 0), 0, 0)), (2, (.aload_n 0, 1, (0, 0, 0), 0, 0)), (3, (.iload_n 1, 1, (0, 0, 0), 0, 0)), (4, (.iload_n 2, 1, (0, 0, 0), 0, 0)), (5, (.invokevirtual 76, 3, (0, 60, 0), 0, 1360)), (8, (.i2l, 1, (0, 0, 0), 0, 0)), (9, (.lastore, 1, (0, 0, 0), 0, 0)), (10, (.goto 7, 3, (17, 0, 0), 0, 0)), (13, (.astore 4, 2, (0, 0, 0), 0, 0)), (15, (.iconst 1, 1, (0, 0, 0), 1, 0)), (16, (.ireturn, 1, (0, 0, 0), 0, 0)), (17, (.iconst 0, 1, (0, 0, 0), 0, 0)), (18, (.ireturn, 1, (0, 0, 0), 0, 0))]]
set_option maxRecDepth 10000 in
def zp20 : List (List (Nat × ZI)) := [[(0, (.aload_n 3, 1, (0, 0, 0), 0, 0)), (1, (.iconst 0, 1, (0, 0, 0), 0, 0)), (2, (.aload_n 0, 1, (0, 0, 0), 0, 0)), (3, (.iload_n 1, 1, (0, 0, 0), 0, 0)), (4, (.iload_n 2, 1, (0, 0, 0), 0, 0)), (5, (.invokevirtual 79, 3, (0, 61, 0), 0, 1379)), (8, (.i2l, 1, (0, 0, 0), 0, 0)), (9, (.lastore, 1, (0, 0, 0), 0, 0)), (10, (.goto 7, 3, (17, 0, 0), 0, 0)), (13, (.astore 4, 2, (0, 0, 0), 0, 0)), (15, (.iconst 1, 1, (0, 0, 0), 1, 0)), (16, (.ireturn, 1, (0, 0, 0), 0, 0)), (17, (.iconst 0, 1, (0, 0, 0), 0, 0)), (18, (.ireturn, 1, (0, 0, 0), 0, 0))]]
set_option maxRecDepth 10000 in
def zp21 : List (List (Nat × ZI)) := [[(0, (.aload_n 3, 1, (0, 0, 0), 0, 0)), (1, (.iconst 0, 1, (0, 0, 0), 0, 0)), (2, (.aload_n 0, 1, (0, 0, 0), 0, 0)), (3, (.iload_n 1, 1, (0, 0, 0), 0, 0)), (4, (.iload_n 2, 1, (0, 0, 0), 0, 0)), (5, (.invokevirtual 83, 3, (0, 62, 0), 0, 1400)), (8, (.i2l, 1, (0, 0, 0), 0, 0)), (9, (.lastore, 1, (0, 0, 0), 0, 0)), (10, (.goto 7, 3, (17, 0, 0), 0, 0)), (13, (.astore 4, 2, (0, 0, 0), 0, 0)), (15, (.iconst 1, 1, (0, 0, 0), 1, 0)), (16, (.ireturn, 1, (0, 0, 0), 0, 0)), (17, (.iconst 0, 1, (0, 0, 0), 0, 0)), (18, (.ireturn, 1, (0, 0, 0), 0, 0))]]
set_option maxRecDepth 10000 in
def zp22 : List (List (Nat × ZI)) := [[(0, (.aload_n 2, 1, (0, 0, 0), 0, 0)), (1, (.iconst 0, 1, (0, 0, 0), 0, 0)), (2, (.aload_n 0, 1, (0, 0, 0), 0, 0)), (3, (.iload_n 1, 1, (0, 0, 0), 0, 0)), (4, (.invokevirtual 86, 3, (0, 63, 0), 0, 1420)), (7, (.i2l, 1, (0, 0, 0), 0, 0)), (8, (.lastore, 1, (0, 0, 0), 0, 0)), (9, (.goto 6, 3, (15, 0, 0), 0, 0)), (12, (.astore_n 3, 1, (0, 0, 0), 0, 0)), (13, (.iconst 1, 1, (0, 0, 0), 1, 0)), (14, (.ireturn, 1, (0, 0, 0), 0, 0)), (15, (.iconst 0, 1, (0, 0, 0), 0, 0)), (16, (.ireturn, 1, (0, 0, 0), 0, 0))]]
set_option maxRecDepth 10000 in
def zp23 : List (List (Nat × ZI)) := [[(0, (.aload_n 2, 1, (0, 0, 0), 0, 0)), (1, (.iconst 0, 1, (0, 0, 0), 0, 0)), (2, (.aload_n 0, 1, (0, 0, 0), 0, 0)), (3, (.iload_n 1, 1, (0, 0, 0), 0, 0)), (4, (.invokevirtual 89, 3, (0, 65, 0), 0, 1432)), (7, (.i2l, 1, (0, 0, 0), 0, 0)), (8, (.lastore, 1, (0, 0, 0), 0, 0)), (9, (.goto 6, 3, (15, 0, 0), 0, 0)), (12, (.astore_n 3, 1, (0, 0, 0), 0, 0)), (13, (.iconst 1, 1, (0, 0, 0), 1, 0)), (14, (.ireturn, 1, (0, 0, 0), 0, 0)), (15, (.iconst 0, 1, (0, 0, 0), 0, 0)), (16, (.ireturn, 1, (0, 0, 0), 0, 0))]]
set_option maxRecDepth 10000 in
def zp24 : List (List (Nat × ZI)) := [[(0, (.aload_n 3, 1, (0, 0, 0), 0, 0)), (1, (.iconst 0, 1, (0, 0, 0), 0, 0)), (2, (.aload_n 0, 1, (0, 0, 0), 0, 0)), (3, (.iload_n 1, 1, (0, 0, 0), 0, 0)), (4, (.iload_n 2, 1, (0, 0, 0), 0, 0)), (5, (.invokevirtual 92, 3, (0, 66, 0), 0, 1443)), (8, (.i2l, 1, (0, 0, 0), 0, 0)), (9, (.lastore, 1, (0, 0, 0), 0, 0)), (10, (.goto 11, 3, (21, 0, 0), 0, 0)), (13, (.astore 4, 2, (0, 0, 0), 0, 0)), (15, (.iconst 1, 1, (0, 0, 0), 1, 0)), (16, (.ireturn, 1, (0, 0, 0), 0, 0)), (17, (.astore 4, 2, (0, 0, 0), 0, 0)), (19, (.iconst 2, 1, (0, 0, 0), 2, 0)), (20, (.ireturn, 1, (0, 0, 0), 0, 0)), (21, (.iconst 0, 1, (0, 0, 0), 0, 0)), (22, (.ireturn, 1, (0, 0, 0), 0, 0))]]
set_option maxRecDepth 10000 in
def zp25 : List (List (Nat × ZI)) := [[(0, (.aload 4, 2, (0, 0, 0), 0, 0)), (2, (.iconst 0, 1, (0, 0, 0), 0, 0)), (3, (.aload_n 0, 1, (0, 0, 0), 0, 0)), (4, (.iload_n 1, 1, (0, 0, 0), 0, 0)), (5, (.iload_n 2, 1, (0, 0, 0), 0, 0)), (6, (.iload_n 3, 1, (0, 0, 0), 0, 0)), (7, (.invokevirtual 95, 3, (0, 67, 0), 0, 1455)), (10, (.i2l, 1, (0, 0, 0), 0, 0)), (11, (.lastore, 1, (0, 0, 0), 0, 0)), (12, (.goto 11, 3, (23, 0, 0), 0, 0)), (15, (.astore 5, 2, (0, 0, 0), 0, 0)), (17, (.iconst 1, 1, (0, 0, 0), 1, 0)), (18, (.ireturn, 1, (0, 0, 0), 0, 0)), (19, (.astore 5, 2, (0, 0, 0), 0, 0)), (21, (.iconst 2, 1, (0, 0, 0), 2, 0)), (22, (.ireturn, 1, (0, 0, 0), 0, 0)), (23, (.iconst 0, 1, (0, 0, 0), 0, 0)), (24, (.ireturn, 1, (0, 0, 0), 0, 0))]]
set_option maxRecDepth 10000 in
def zp26 : List (List (Nat × ZI)) := [[(0, (.aload_n 3, 1, (0, 0, 0), 0, 0)), (1, (.iconst 0, 1, (0, 0, 0), 0, 0)), (2, (.aload_n 0, 1, (0, 0, 0), 0, 0)), (3, (.iload_n 1, 1, (0, 0, 0), 0, 0)), (4, (.iload_n 2, 1, (0, 0, 0), 0, 0)), (5, (.invokevirtual 98, 3, (0, 68, 0), 0, 1468)), (8, (.i2l, 1, (0, 0, 0), 0, 0)), (9, (.lastore, 1, (0, 0, 0), 0, 0)), (10, (.goto 11, 3, (21, 0, 0), 0, 0)), (13, (.astore 4, 2, (0, 0, 0), 0, 0)), (15, (.iconst 1, 1, (0, 0, 0), 1, 0)), (16, (.ireturn, 1, (0, 0, 0), 0, 0)), (17, (.astore 4, 2, (0, 0, 0), 0, 0)), (19, (.iconst 2, 1, (0, 0, 0), 2, 0)), (20, (.ireturn, 1, (0, 0, 0), 0, 0)), (21, (.iconst 0, 1, (0, 0, 0), 0, 0)), (22, (.ireturn, 1, (0, 0, 0), 0, 0))]]
set_option maxRecDepth 10000 in
def zp27 : List (List (Nat × ZI)) := [[(0, (.aload_n 3, 1, (0, 0, 0), 0, 0)), (1, (.iconst 0, 1, (0, 0, 0), 0, 0)), (2, (.aload_n 0, 1, (0, 0, 0), 0, 0)), (3, (.iload_n 1, 1, (0, 0, 0), 0, 0)), (4, (.iload_n 2, 1, (0, 0, 0), 0, 0)), (5, (.invokevirtual 101, 3, (0, 69, 0), 0, 1481)), (8, (.i2l, 1, (0, 0, 0), 0, 0)), (9, (.lastore, 1, (0, 0, 0), 0, 0)), (10, (.goto 7, 3, (17, 0, 0), 0, 0)), (13, (.astore 4, 2, (0, 0, 0), 0, 0)), (15, (.iconst 1, 1, (0, 0, 0), 1, 0)), (16, (.ireturn, 1, (0, 0, 0), 0, 0)), (17, (.iconst 0, 1, (0, 0, 0), 0, 0)), (18, (.ireturn, 1, (0, 0, 0), 0, 0))]]
set_option maxRecDepth 10000 in
def zp28 : List (List (Nat × ZI)) := [[(0, (.aload_n 2, 1, (0, 0, 0), 0, 0)), (1, (.iconst 0, 1, (0, 0, 0), 0, 0)), (2, (.aload_n 0, 1, (0, 0, 0), 0, 0)), (3, (.iload_n 1, 1, (0, 0, 0), 0, 0)), (4, (.invokevirtual 104, 3, (0, 70, 0), 0, 1492)), (7, (.i2l, 1, (0, 0, 0), 0, 0)), (8, (.lastore, 1, (0, 0, 0), 0, 0)), (9, (.goto 6, 3, (15, 0, 0), 0, 0)), (12, (.astore_n 3, 1, (0, 0, 0), 0, 0)), (13, (.iconst 1, 1, (0, 0, 0), 1, 0)), (14, (.ireturn, 1, (0, 0, 0), 0, 0)), (15, (.iconst 0, 1, (0, 0, 0), 0, 0)), (16, (.ireturn, 1, (0, 0, 0), 0, 0))]]
set_option maxRecDepth 10000 in
def zp29 : List (List (Nat × ZI)) := [[(0, (.aload_n 3, 1, (0, 0, 0), 0, 0)), (1, (.iconst 0, 1, (0, 0, 0), 0, 0)), (2, (.aload_n 0, 1, (0, 0, 0), 0, 0)), (3, (.iload_n 1, 1, (0, 0, 0), 0, 0)), (4, (.iload_n 2, 1, (0, 0, 0), 0, 0)), (5, (.invokevirtual 107, 3, (0, 71, 0), 0, 1503)), (8, (.i2l, 1, (0, 0, 0), 0, 0)), (9, (.lastore, 1, (0, 0, 0), 0, 0)), (10, (.goto 7, 3, (17, 0, 0), 0, 0)), (13, (.astore 4, 2, (0, 0, 0), 0, 0)), (15, (.iconst 1, 1, (0, 0, 0), 1, 0)), (16, (.ireturn, 1, (0, 0, 0), 0, 0)), (17, (.iconst 0, 1, (0, 0, 0), 0, 0)), (18, (.ireturn, 1, (0, 0, 0), 0, 0))]]
set_option maxRecDepth 10000 in
def zp30 : List (List (Nat × ZI)) := [[(0, (.aload_n 2, 1, (0, 0, 0), 0, 0)), (1, (.iconst 0, 1, (0, 0, 0), 0, 0)), (2, (.aload_n 0, 1, (0, 0, 0), 0, 0)), (3, (.iload_n 1, 1, (0, 0, 0), 0, 0)), (4, (.invokevirtual 110, 3, (0, 72, 0), 0, 1518)), (7, (.i2l, 1, (0, 0, 0), 0, 0)), (8, (.lastore, 1, (0, 0, 0), 0, 0)), (9, (.goto 6, 3, (15, 0, 0), 0, 0)), (12, (.astore_n 3, 1, (0, 0, 0), 0, 0)), (13, (.iconst 1, 1, (0, 0, 0), 1, 0)), (14, (.ireturn, 1, (0, 0, 0), 0, 0)), (15, (.iconst 0, 1, (0, 0, 0), 0, 0)), (16, (.ireturn, 1, (0, 0, 0), 0, 0))]]
set_option maxRecDepth 10000 in
def zp31 : List (List (Nat × ZI)) := [[(0, (.aload_n 3, 1, (0, 0, 0), 0, 0)), (1, (.iconst 0, 1, (0, 0, 0), 0, 0)), (2, (.aload_n 0, 1, (0, 0, 0), 0, 0)), (3, (.iload_n 1, 1, (0, 0, 0), 0, 0)), (4, (.iload_n 2, 1, (0, 0, 0), 0, 0)), (5, (.invokevirtual 113, 3, (0, 73, 0), 0, 1525)), (8, (.i2l, 1, (0, 0, 0), 0, 0)), (9, (.lastore, 1, (0, 0, 0), 0, 0)), (10, (.goto 7, 3, (17, 0, 0), 0, 0)), (13, (.astore 4, 2, (0, 0, 0), 0, 0)), (15, (.iconst 1, 1, (0, 0, 0), 1, 0)), (16, (.ireturn, 1, (0, 0, 0), 0, 0)), (17, (.iconst 0, 1, (0, 0, 0), 0, 0)), (18, (.ireturn, 1, (0, 0, 0), 0, 0))]]
set_option maxRecDepth 10000 in
def zp32 : List (List (Nat × ZI)) := [[(0, (.aload_n 2, 1, (0, 0, 0), 0, 0)), (1, (.iconst 0, 1, (0, 0, 0), 0, 0)), (2, (.aload_n 0, 1, (0, 0, 0), 0, 0)), (3, (.iload_n 1, 1, (0, 0, 0), 0, 0)), (4, (.invokevirtual 116, 3, (0, 75, 0), 0, 1533)), (7, (.i2l, 1, (0, 0, 0), 0, 0)), (8, (.lastore, 1, (0, 0, 0), 0, 0)), (9, (.goto 6, 3, (15, 0, 0), 0, 0)), (12, (.astore_n 3, 1, (0, 0, 0), 0, 0)), (13, (.iconst 1, 1, (0, 0, 0), 1, 0)), (14, (.ireturn, 1, (0, 0, 0), 0, 0)), (15, (.iconst 0, 1, (0, 0, 0), 0, 0)), (16, (.ireturn, 1, (0, 0, 0), 0, 0))]]
set_option maxRecDepth 10000 in
def zp33 : List (List (Nat × ZI)) := [[(0, (.aload_n 3, 1, (0, 0, 0), 0, 0)), (1, (.iconst 0, 1, (0, 0, 0), 0, 0)), (2, (.aload_n 0, 1, (0, 0, 0), 0, 0)), (3, (.iload_n 1, 1, (0, 0, 0), 0, 0)), (4, (.iload_n 2, 1, (0, 0, 0), 0, 0)), (5, (.invokevirtual 119, 3, (0, 76, 0), 0, 1544)), (8, (.i2l, 1, (0, 0, 0), 0, 0)), (9, (.lastore, 1, (0, 0, 0), 0, 0)), (10, (.goto 7, 3, (17, 0, 0), 0, 0)), (13, (.astore 4, 2, (0, 0, 0), 0, 0)), (15, (.iconst 1, 1, (0, 0, 0), 1, 0)), (16, (.ireturn, 1, (0, 0, 0), 0, 0)), (17, (.iconst 0, 1, (0, 0, 0), 0, 0)), (18, (.ireturn, 1, (0, 0, 0), 0, 0))]]
set_option maxRecDepth 10000 in
def zp34 : List (List (Nat × ZI)) := [[(0, (.aload_n 3, 1, (0, 0, 0), 0, 0)), (1, (.iconst 0, 1, (0, 0, 0), 0, 0)), (2, (.aload_n 0, 1, (0, 0, 0), 0, 0)), (3, (.iload_n 1, 1, (0, 0, 0), 0, 0)), (4, (.iload_n 2, 1, (0, 0, 0), 0, 0)), (5, (.invokevirtual 122, 3, (0, 77, 0), 0, 1555)), (8, (.i2l, 1, (0, 0, 0), 0, 0)), (9, (.lastore, 1, (0, 0, 0), 0, 0)), (10, (.goto 11, 3, (21, 0, 0), 0, 0)), (13, (.astore 4, 2, (0, 0, 0), 0, 0)), (15, (.iconst 1, 1, (0, 0, 0), 1, 0)), (16, (.ireturn, 1, (0, 0, 0), 0, 0)), (17, (.astore 4, 2, (0, 0, 0), 0, 0)), (19, (.iconst 2, 1, (0, 0, 0), 2, 0)), (20, (.ireturn, 1, (0, 0, 0), 0, 0)), (21, (.iconst 0, 1, (0, 0, 0), 0, 0)), (22, (.ireturn, 1, (0, 0, 0), 0, 0))]]
set_option maxRecDepth 10000 in
def zp35 : List (List (Nat × ZI)) := [[(0, (.aload_n 1, 1, (0, 0, 0), 0, 0)), (1, (.iconst 0, 1, (0, 0, 0), 0, 0)), (2, (.aload_n 0, 1, (0, 0, 0), 0, 0)), (3, (.invokevirtual 125, 3, (0, 78, 0), 0, 1567)), (6, (.i2l, 1, (0, 0, 0), 0, 0)), (7, (.lastore, 1, (0, 0, 0), 0, 0)), (8, (.goto 6, 3, (14, 0, 0), 0, 0)), (11, (.astore_n 2, 1, (0, 0, 0), 0, 0)), (12, (.iconst 1, 1, (0, 0, 0), 1, 0)), (13, (.ireturn, 1, (0, 0, 0), 0, 0)), (14, (.iconst 0, 1, (0, 0, 0), 0, 0)), (15, (.ireturn, 1, (0, 0, 0), 0, 0))]]
set_option maxRecDepth 10000 in
def zp36 : List (List (Nat × ZI)) := [[(0, (.aload_n 3, 1, (0, 0, 0), 0, 0)), (1, (.iconst 0, 1, (0, 0, 0), 0, 0)), (2, (.aload_n 0, 1, (0, 0, 0), 0, 0)), (3, (.iload_n 1, 1, (0, 0, 0), 0, 0)), (4, (.iload_n 2, 1, (0, 0, 0), 0, 0)), (5, (.invokevirtual 128, 3, (0, 80, 0), 0, 1590)), (8, (.i2l, 1, (0, 0, 0), 0, 0)), (9, (.lastore, 1, (0, 0, 0), 0, 0)), (10, (.goto 7, 3, (17, 0, 0), 0, 0)), (13, (.astore 4, 2, (0, 0, 0), 0, 0)), (15, (.iconst 1, 1, (0, 0, 0), 1, 0)), (16, (.ireturn, 1, (0, 0, 0), 0, 0)), (17, (.iconst 0, 1, (0, 0, 0), 0, 0)), (18, (.ireturn, 1, (0, 0, 0), 0, 0))]]
set_option maxRecDepth 10000 in
def zp37 : List (List (Nat × ZI)) := [[(0, (.aload_n 3, 1, (0, 0, 0), 0, 0)), (1, (.iconst 0, 1, (0, 0, 0), 0, 0)), (2, (.aload_n 0, 1, (0, 0, 0), 0, 0)), (3, (.iload_n 1, 1, (0, 0, 0), 0, 0)), (4, (.iload_n 2, 1, (0, 0, 0), 0, 0)), (5, (.invokevirtual 131, 3, (0, 81, 0), 0, 1599)), (8, (.i2l, 1, (0, 0, 0), 0, 0)), (9, (.lastore, 1, (0, 0, 0), 0, 0)), (10, (.goto 11, 3, (21, 0, 0), 0, 0)), (13, (.astore 4, 2, (0, 0, 0), 0, 0)), (15, (.iconst 1, 1, (0, 0, 0), 1, 0)), (16, (.ireturn, 1, (0, 0, 0), 0, 0)), (17, (.astore 4, 2, (0, 0, 0), 0, 0)), (19, (.iconst 2, 1, (0, 0, 0), 2, 0)), (20, (.ireturn, 1, (0, 0, 0), 0, 0)), (21, (.iconst 0, 1, (0, 0, 0), 0, 0)), (22, (.ireturn, 1, (0, 0, 0), 0, 0))]]
set_option maxRecDepth 10000 in
def zp38 : List (List (Nat × ZI)) := [[(0, (.aload_n 0, 1, (0, 0, 0), 0, 0)), (1, (.invokespecial 1, 3, (1, 0, 0), 0, 216)), (4, (.aload_n 0, 1, (0, 0, 0), 0, 0)), (5, (.new 7, 3, (0, 9, 0), 0, 219)), (8, (.dup, 1, (0, 0, 0), 0, 0)), (9, (.invokespecial 9, 3, (0, 178, 1), 0, 221)), (12, (.putfield 10, 3, (11, 0, 0), 0, 575)), (15, (.aload_n 0, 1, (0, 0, 0), 0, 0)), (16, (.new 16, 3, (0, 2, 0), 0, 252)), (19, (.dup, 1, (0, 0, 0), 0, 0)), (20, (.invokespecial 18, 3, (0, 113, 1), 0, 254)), (23, (.putfield 19, 3, (11, 1, 0), 0, 576)), (26, (.aload_n 0, 1, (0, 0, 0), 0, 0)), (27, (.new 23, 3, (0, 0, 0), 0, 363)), (30, (.dup, 1, (0, 0, 0), 0, 0)), (31, (.invokespecial 25, 3, (0, 90, 1), 0, 365))],
  [(34, (.putfield 26, 3, (11, 2, 0), 0, 577)), (37, (.aload_n 0, 1, (0, 0, 0), 0, 0)), (38, (.new 30, 3, (0, 1, 0), 0, 441)), (41, (.dup, 1, (0, 0, 0), 0, 0)), (42, (.invokespecial 32, 3, (0, 107, 1), 0, 443)), (45, (.putfield 33, 3, (11, 3, 0), 0, 578)), (48, (.aload_n 0, 1, (0, 0, 0), 0, 0)), (49, (.new 37, 3, (0, 7, 0), 0, 458)), (52, (.dup, 1, (0, 0, 0), 0, 0)), (53, (.invokespecial 39, 3, (0, 165, 1), 0, 460)), (56, (.putfield 40, 3, (11, 4, 0), 0, 579)), (59, (.aload_n 0, 1, (0, 0, 0), 0, 0)), (60, (.new 44, 3, (0, 4, 0), 0, 482)), (63, (.dup, 1, (0, 0, 0), 0, 0))],
  [(64, (.invokespecial 46, 3, (0, 144, 1), 0, 484)), (67, (.putfield 47, 3, (11, 5, 0), 0, 580)), (70, (.aload_n 0, 1, (0, 0, 0), 0, 0)), (71, (.new 51, 3, (0, 10, 0), 0, 513)), (74, (.dup, 1, (0, 0, 0), 0, 0)), (75, (.invokespecial 53, 3, (0, 189, 1), 0, 515)), (78, (.putfield 54, 3, (11, 6, 0), 0, 581)), (81, (.aload_n 0, 1, (0, 0, 0), 0, 0)), (82, (.new 58, 3, (0, 3, 0), 0, 528)), (85, (.dup, 1, (0, 0, 0), 0, 0)), (86, (.invokespecial 60, 3, (0, 128, 1), 0, 530)), (89, (.putfield 61, 3, (11, 7, 0), 0, 582)), (92, (.aload_n 0, 1, (0, 0, 0), 0, 0)), (93, (.new 65, 3, (0, 6, 0), 0, 559))],
  [(96, (.dup, 1, (0, 0, 0), 0, 0)), (97, (.invokespecial 67, 3, (0, 156, 1), 0, 561)), (100, (.putfield 68, 3, (11, 8, 0), 0, 583)), (103, (.aload_n 0, 1, (0, 0, 0), 0, 0)), (104, (.iconst (-1), 1, (0, 0, 0), (-1), 0)), (105, (.putfield 72, 3, (11, 9, 0), 0, 584)), (108, (.return_, 1, (0, 0, 0), 0, 0))]]
set_option maxRecDepth 10000 in
def zp39 : List (List (Nat × ZI)) := [[(0, (.aload_n 0, 1, (0, 0, 0), 0, 0)), (1, (.getfield 10, 3, (11, 0, 0), 0, 575)), (4, (.getfield 76, 3, (9, 1, 1), 0, 227)), (7, (.bipush 20, 2, (0, 0, 0), 20, 0)), (9, (.iadd, 1, (0, 0, 0), 0, 0)), (10, (.sipush 400, 3, (0, 0, 0), 400, 0)), (13, (.if_icmp .le 5, 3, (18, 0, 0), 0, 0)), (16, (.iconst (-1), 1, (0, 0, 0), (-1), 0)), (17, (.ireturn, 1, (0, 0, 0), 0, 0)), (18, (.aload_n 0, 1, (0, 0, 0), 0, 0)), (19, (.getfield 10, 3, (11, 0, 0), 0, 575)), (22, (.iload_n 1, 1, (0, 0, 0), 0, 0)), (23, (.invokevirtual 79, 3, (0, 179, 1), 0, 610)), (26, (.aload_n 0, 1, (0, 0, 0), 0, 0)), (27, (.getfield 10, 3, (11, 0, 0), 0, 575)), (30, (.iload_n 2, 1, (0, 0, 0), 0, 0)), (31, (.invokevirtual 79, 3, (0, 179, 1), 0, 610))],
  [(34, (.aload_n 0, 1, (0, 0, 0), 0, 0)), (35, (.getfield 10, 3, (11, 0, 0), 0, 575)), (38, (.iload_n 3, 1, (0, 0, 0), 0, 0)), (39, (.invokevirtual 79, 3, (0, 179, 1), 0, 610)), (42, (.aload_n 0, 1, (0, 0, 0), 0, 0)), (43, (.getfield 10, 3, (11, 0, 0), 0, 575)), (46, (.iload 4, 2, (0, 0, 0), 0, 0)), (48, (.invokevirtual 79, 3, (0, 179, 1), 0, 610)), (51, (.aload_n 0, 1, (0, 0, 0), 0, 0)), (52, (.getfield 10, 3, (11, 0, 0), 0, 575)), (55, (.iload 5, 2, (0, 0, 0), 0, 0)), (57, (.invokevirtual 79, 3, (0, 179, 1), 0, 610)), (60, (.aload_n 0, 1, (0, 0, 0), 0, 0)), (61, (.getfield 10, 3, (11, 0, 0), 0, 575))],
  [(64, (.getfield 76, 3, (9, 1, 1), 0, 227)), (67, (.ireturn, 1, (0, 0, 0), 0, 0))]]
set_option maxRecDepth 10000 in
def zp40 : List (List (Nat × ZI)) := [[(0, (.iload_n 1, 1, (0, 0, 0), 0, 0)), (1, (.ifCond .lt 14, 3, (15, 0, 0), 0, 0)), (4, (.iload_n 1, 1, (0, 0, 0), 0, 0)), (5, (.aload_n 0, 1, (0, 0, 0), 0, 0)), (6, (.getfield 10, 3, (11, 0, 0), 0, 575)), (9, (.getfield 76, 3, (9, 1, 1), 0, 227)), (12, (.if_icmp .le 5, 3, (17, 0, 0), 0, 0)), (15, (.iconst 0, 1, (0, 0, 0), 0, 0)), (16, (.ireturn, 1, (0, 0, 0), 0, 0)), (17, (.aload_n 0, 1, (0, 0, 0), 0, 0)), (18, (.getfield 10, 3, (11, 0, 0), 0, 575)), (21, (.iload_n 1, 1, (0, 0, 0), 0, 0)), (22, (.putfield 76, 3, (9, 1, 1), 0, 227)), (25, (.iconst 1, 1, (0, 0, 0), 1, 0)), (26, (.ireturn, 1, (0, 0, 0), 0, 0))]]
set_option maxRecDepth 10000 in
def zp41 : List (List (Nat × ZI)) := [[(0, (.aload_n 0, 1, (0, 0, 0), 0, 0)), (1, (.aload_n 0, 1, (0, 0, 0), 0, 0)), (2, (.getfield 61, 3, (11, 7, 0), 0, 582)), (5, (.aload_n 0, 1, (0, 0, 0), 0, 0)), (6, (.getfield 10, 3, (11, 0, 0), 0, 575)), (9, (.aload_n 0, 1, (0, 0, 0), 0, 0)), (10, (.getfield 19, 3, (11, 1, 0), 0, 576)), (13, (.getfield 83, 3, (2, 0, 1), 0, 350)), (16, (.aload_n 0, 1, (0, 0, 0), 0, 0)), (17, (.getfield 26, 3, (11, 2, 0), 0, 577)), (20, (.invokevirtual 87, 3, (0, 129, 1), 0, 814)), (23, (.putfield 72, 3, (11, 9, 0), 0, 584)), (26, (.aload_n 0, 1, (0, 0, 0), 0, 0)), (27, (.getfield 10, 3, (11, 0, 0), 0, 575)), (30, (.iconst 0, 1, (0, 0, 0), 0, 0)), (31, (.putfield 76, 3, (9, 1, 1), 0, 227))],
  [(34, (.aload_n 0, 1, (0, 0, 0), 0, 0)), (35, (.getfield 72, 3, (11, 9, 0), 0, 584)), (38, (.iconst (-1), 1, (0, 0, 0), (-1), 0)), (39, (.if_icmp .eq 13, 3, (52, 0, 0), 0, 0)), (42, (.new 91, 3, (1, 0, 2), 0, 957)), (45, (.dup, 1, (0, 0, 0), 0, 0)), (46, (.ldc 93, 2, (2, 0, 0), 0, 999)), (48, (.invokespecial 95, 3, (9, 0, 0), 0, 1000)), (51, (.athrow, 1, (0, 0, 0), 0, 0)), (52, (.aload_n 0, 1, (0, 0, 0), 0, 0)), (53, (.getfield 19, 3, (11, 1, 0), 0, 576)), (56, (.getfield 83, 3, (2, 0, 1), 0, 350)), (59, (.getfield 98, 3, (8, 3, 1), 0, 278)), (62, (.bipush 12, 2, (0, 0, 0), 12, 0))],
  [(64, (.if_icmp .lt 13, 3, (77, 0, 0), 0, 0)), (67, (.new 103, 3, (1, 1, 3), 0, 1026)), (70, (.dup, 1, (0, 0, 0), 0, 0)), (71, (.ldc 105, 2, (2, 0, 0), 0, 1035)), (73, (.invokespecial 107, 3, (9, 0, 0), 0, 1036)), (76, (.athrow, 1, (0, 0, 0), 0, 0)), (77, (.aload_n 0, 1, (0, 0, 0), 0, 0)), (78, (.getfield 19, 3, (11, 1, 0), 0, 576)), (81, (.getfield 83, 3, (2, 0, 1), 0, 350)), (84, (.aload_n 0, 1, (0, 0, 0), 0, 0)), (85, (.getfield 61, 3, (11, 7, 0), 0, 582)), (88, (.getfield 108, 3, (3, 0, 1), 0, 539)), (91, (.invokevirtual 109, 3, (0, 170, 1), 0, 1042)), (94, (.aload_n 0, 1, (0, 0, 0), 0, 0)), (95, (.getfield 26, 3, (11, 2, 0), 0, 577))],
  [(98, (.aload_n 0, 1, (0, 0, 0), 0, 0)), (99, (.getfield 61, 3, (11, 7, 0), 0, 582)), (102, (.getfield 113, 3, (3, 1, 1), 0, 541)), (105, (.invokevirtual 114, 3, (0, 91, 1), 0, 1043)), (108, (.aload_n 0, 1, (0, 0, 0), 0, 0)), (109, (.getfield 19, 3, (11, 1, 0), 0, 576)), (112, (.getfield 83, 3, (2, 0, 1), 0, 350)), (115, (.dup, 1, (0, 0, 0), 0, 0)), (116, (.getfield 98, 3, (8, 3, 1), 0, 278)), (119, (.iconst 1, 1, (0, 0, 0), 1, 0)), (120, (.iadd, 1, (0, 0, 0), 0, 0)), (121, (.putfield 98, 3, (8, 3, 1), 0, 278)), (124, (.aload_n 0, 1, (0, 0, 0), 0, 0)), (125, (.getfield 40, 3, (11, 4, 0), 0, 579))],
  [(128, (.invokevirtual 117, 3, (0, 166, 1), 0, 788)), (131, (.aload_n 0, 1, (0, 0, 0), 0, 0)), (132, (.getfield 19, 3, (11, 1, 0), 0, 576)), (135, (.getfield 83, 3, (2, 0, 1), 0, 350)), (138, (.getfield 98, 3, (8, 3, 1), 0, 278)), (141, (.ireturn, 1, (0, 0, 0), 0, 0))]]
set_option maxRecDepth 10000 in
def zp42 : List (List (Nat × ZI)) := [[(0, (.aload_n 0, 1, (0, 0, 0), 0, 0)), (1, (.aload_n 0, 1, (0, 0, 0), 0, 0)), (2, (.getfield 68, 3, (11, 8, 0), 0, 583)), (5, (.aload_n 0, 1, (0, 0, 0), 0, 0)), (6, (.getfield 10, 3, (11, 0, 0), 0, 575)), (9, (.invokevirtual 120, 3, (0, 157, 1), 0, 1051)), (12, (.putfield 72, 3, (11, 9, 0), 0, 584)), (15, (.aload_n 0, 1, (0, 0, 0), 0, 0)), (16, (.getfield 10, 3, (11, 0, 0), 0, 575)), (19, (.iconst 0, 1, (0, 0, 0), 0, 0)), (20, (.putfield 76, 3, (9, 1, 1), 0, 227)), (23, (.aload_n 0, 1, (0, 0, 0), 0, 0)), (24, (.getfield 72, 3, (11, 9, 0), 0, 584)), (27, (.iconst (-1), 1, (0, 0, 0), (-1), 0)), (28, (.if_icmp .eq 13, 3, (41, 0, 0), 0, 0)), (31, (.new 91, 3, (1, 0, 12), 0, 957))],
  [(34, (.dup, 1, (0, 0, 0), 0, 0)), (35, (.ldc 123, 2, (2, 0, 0), 0, 1117)), (37, (.invokespecial 95, 3, (9, 0, 0), 0, 1000)), (40, (.athrow, 1, (0, 0, 0), 0, 0)), (41, (.aload_n 0, 1, (0, 0, 0), 0, 0)), (42, (.getfield 19, 3, (11, 1, 0), 0, 576)), (45, (.getfield 125, 3, (2, 1, 1), 0, 354)), (48, (.aload_n 0, 1, (0, 0, 0), 0, 0)), (49, (.getfield 68, 3, (11, 8, 0), 0, 583)), (52, (.getfield 129, 3, (6, 0, 1), 0, 568)), (55, (.invokevirtual 130, 3, (0, 148, 1), 0, 1118)), (58, (.aload_n 0, 1, (0, 0, 0), 0, 0)), (59, (.getfield 40, 3, (11, 4, 0), 0, 579)), (62, (.invokevirtual 117, 3, (0, 166, 1), 0, 788))],
  [(65, (.aload_n 0, 1, (0, 0, 0), 0, 0)), (66, (.getfield 19, 3, (11, 1, 0), 0, 576)), (69, (.getfield 125, 3, (2, 1, 1), 0, 354)), (72, (.getfield 135, 3, (5, 0, 1), 0, 322)), (75, (.ireturn, 1, (0, 0, 0), 0, 0))]]
set_option maxRecDepth 10000 in
def zp43 : List (List (Nat × ZI)) := [[(0, (.aload_n 0, 1, (0, 0, 0), 0, 0)), (1, (.getfield 72, 3, (11, 9, 0), 0, 584)), (4, (.ireturn, 1, (0, 0, 0), 0, 0))]]
set_option maxRecDepth 10000 in
def zp44 : List (List (Nat × ZI)) := [[(0, (.aload_n 0, 1, (0, 0, 0), 0, 0)), (1, (.iload_n 1, 1, (0, 0, 0), 0, 0)), (2, (.invokevirtual 138, 3, (0, 87, 0), 0, 1128)), (5, (.iload_n 2, 1, (0, 0, 0), 0, 0)), (6, (.tableswitch 126 0 6 #[42, 55, 68, 78, 87, 100, 113], 42, (1, 0, 0), 0, 0))],
  [(48, (.aload_n 0, 1, (0, 0, 0), 0, 0)), (49, (.getfield 19, 3, (11, 1, 0), 0, 576)), (52, (.getfield 83, 3, (2, 0, 1), 0, 350)), (55, (.getfield 141, 3, (8, 4, 1), 0, 281)), (58, (.iload_n 1, 1, (0, 0, 0), 0, 0)), (59, (.iaload, 1, (0, 0, 0), 0, 0)), (60, (.ireturn, 1, (0, 0, 0), 0, 0)), (61, (.aload_n 0, 1, (0, 0, 0), 0, 0)), (62, (.getfield 19, 3, (11, 1, 0), 0, 576))],
  [(65, (.getfield 83, 3, (2, 0, 1), 0, 350)), (68, (.getfield 145, 3, (8, 5, 1), 0, 285)), (71, (.iload_n 1, 1, (0, 0, 0), 0, 0)), (72, (.iaload, 1, (0, 0, 0), 0, 0)), (73, (.ireturn, 1, (0, 0, 0), 0, 0)), (74, (.aload_n 0, 1, (0, 0, 0), 0, 0)), (75, (.getfield 26, 3, (11, 2, 0), 0, 577)), (78, (.getfield 148, 3, (0, 0, 1), 0, 372)), (81, (.iload_n 1, 1, (0, 0, 0), 0, 0)), (82, (.iaload, 1, (0, 0, 0), 0, 0)), (83, (.ireturn, 1, (0, 0, 0), 0, 0)), (84, (.aload_n 0, 1, (0, 0, 0), 0, 0)), (85, (.getfield 26, 3, (11, 2, 0), 0, 577)), (88, (.iload_n 1, 1, (0, 0, 0), 0, 0)), (89, (.invokevirtual 151, 3, (0, 92, 1), 0, 1148)), (92, (.ireturn, 1, (0, 0, 0), 0, 0)), (93, (.aload_n 0, 1, (0, 0, 0), 0, 0)), (94, (.getfield 19, 3, (11, 1, 0), 0, 576))],
  [(97, (.aload_n 0, 1, (0, 0, 0), 0, 0)), (98, (.getfield 26, 3, (11, 2, 0), 0, 577)), (101, (.iload_n 1, 1, (0, 0, 0), 0, 0)), (102, (.invokevirtual 155, 3, (0, 125, 1), 0, 1149)), (105, (.ireturn, 1, (0, 0, 0), 0, 0)), (106, (.aload_n 0, 1, (0, 0, 0), 0, 0)), (107, (.getfield 19, 3, (11, 1, 0), 0, 576)), (110, (.getfield 83, 3, (2, 0, 1), 0, 350)), (113, (.getfield 159, 3, (8, 6, 1), 0, 288)), (116, (.iload_n 1, 1, (0, 0, 0), 0, 0)), (117, (.iaload, 1, (0, 0, 0), 0, 0)), (118, (.ireturn, 1, (0, 0, 0), 0, 0)), (119, (.aload_n 0, 1, (0, 0, 0), 0, 0)), (120, (.getfield 19, 3, (11, 1, 0), 0, 576)), (123, (.aload_n 0, 1, (0, 0, 0), 0, 0)), (124, (.getfield 26, 3, (11, 2, 0), 0, 577)), (127, (.iload_n 1, 1, (0, 0, 0), 0, 0))],
  [(128, (.invokevirtual 162, 3, (0, 116, 1), 0, 1163)), (131, (.ireturn, 1, (0, 0, 0), 0, 0)), (132, (.new 165, 3, (1, 3, 14), 0, 1167)), (135, (.dup, 1, (0, 0, 0), 0, 0)), (136, (.ldc 167, 2, (2, 0, 0), 0, 1176)), (138, (.invokespecial 169, 3, (9, 0, 0), 0, 1177)), (141, (.athrow, 1, (0, 0, 0), 0, 0))]]
set_option maxRecDepth 10000 in
def zp45 : List (List (Nat × ZI)) := [[(0, (.aload_n 0, 1, (0, 0, 0), 0, 0)), (1, (.iload_n 1, 1, (0, 0, 0), 0, 0)), (2, (.invokevirtual 138, 3, (0, 87, 0), 0, 1128)), (5, (.aload_n 0, 1, (0, 0, 0), 0, 0)), (6, (.iload_n 2, 1, (0, 0, 0), 0, 0)), (7, (.invokevirtual 170, 3, (0, 88, 0), 0, 1190)), (10, (.aload_n 0, 1, (0, 0, 0), 0, 0)), (11, (.getfield 26, 3, (11, 2, 0), 0, 577)), (14, (.getfield 173, 3, (0, 4, 1), 0, 388)), (17, (.iload_n 1, 1, (0, 0, 0), 0, 0)), (18, (.bipush 8, 2, (0, 0, 0), 8, 0)), (20, (.imul, 1, (0, 0, 0), 0, 0)), (21, (.iload_n 2, 1, (0, 0, 0), 0, 0)), (22, (.iadd, 1, (0, 0, 0), 0, 0)), (23, (.iaload, 1, (0, 0, 0), 0, 0)), (24, (.ireturn, 1, (0, 0, 0), 0, 0))]]
set_option maxRecDepth 10000 in
def zp46 : List (List (Nat × ZI)) := [[(0, (.aload_n 0, 1, (0, 0, 0), 0, 0)), (1, (.iload_n 1, 1, (0, 0, 0), 0, 0)), (2, (.invokevirtual 170, 3, (0, 88, 0), 0, 1190)), (5, (.iload_n 2, 1, (0, 0, 0), 0, 0)), (6, (.tableswitch 127 0 6 #[42, 63, 72, 82, 92, 105, 115], 42, (2, 0, 0), 0, 0))],
  [(48, (.aload_n 0, 1, (0, 0, 0), 0, 0)), (49, (.getfield 19, 3, (11, 1, 0), 0, 576)), (52, (.getfield 83, 3, (2, 0, 1), 0, 350)), (55, (.iload_n 1, 1, (0, 0, 0), 0, 0)), (56, (.aload_n 0, 1, (0, 0, 0), 0, 0)), (57, (.getfield 26, 3, (11, 2, 0), 0, 577)), (60, (.getfield 176, 3, (0, 1, 1), 0, 376)), (63, (.iload_n 1, 1, (0, 0, 0), 0, 0))],
  [(64, (.iaload, 1, (0, 0, 0), 0, 0)), (65, (.invokevirtual 179, 3, (0, 173, 1), 0, 1202)), (68, (.ireturn, 1, (0, 0, 0), 0, 0)), (69, (.aload_n 0, 1, (0, 0, 0), 0, 0)), (70, (.getfield 26, 3, (11, 2, 0), 0, 577)), (73, (.iload_n 1, 1, (0, 0, 0), 0, 0)), (74, (.invokevirtual 183, 3, (0, 93, 1), 0, 1203)), (77, (.ireturn, 1, (0, 0, 0), 0, 0)), (78, (.aload_n 0, 1, (0, 0, 0), 0, 0)), (79, (.getfield 26, 3, (11, 2, 0), 0, 577)), (82, (.getfield 186, 3, (0, 2, 1), 0, 381)), (85, (.iload_n 1, 1, (0, 0, 0), 0, 0)), (86, (.iaload, 1, (0, 0, 0), 0, 0)), (87, (.ireturn, 1, (0, 0, 0), 0, 0)), (88, (.aload_n 0, 1, (0, 0, 0), 0, 0)), (89, (.getfield 26, 3, (11, 2, 0), 0, 577)), (92, (.getfield 189, 3, (0, 3, 1), 0, 385)), (95, (.iload_n 1, 1, (0, 0, 0), 0, 0))],
  [(96, (.iaload, 1, (0, 0, 0), 0, 0)), (97, (.ireturn, 1, (0, 0, 0), 0, 0)), (98, (.aload_n 0, 1, (0, 0, 0), 0, 0)), (99, (.getfield 19, 3, (11, 1, 0), 0, 576)), (102, (.getfield 83, 3, (2, 0, 1), 0, 350)), (105, (.getfield 192, 3, (8, 7, 1), 0, 292)), (108, (.iload_n 1, 1, (0, 0, 0), 0, 0)), (109, (.iaload, 1, (0, 0, 0), 0, 0)), (110, (.ireturn, 1, (0, 0, 0), 0, 0)), (111, (.aload_n 0, 1, (0, 0, 0), 0, 0)), (112, (.getfield 26, 3, (11, 2, 0), 0, 577)), (115, (.getfield 176, 3, (0, 1, 1), 0, 376)), (118, (.iload_n 1, 1, (0, 0, 0), 0, 0)), (119, (.iaload, 1, (0, 0, 0), 0, 0)), (120, (.ireturn, 1, (0, 0, 0), 0, 0)), (121, (.aload_n 0, 1, (0, 0, 0), 0, 0)), (122, (.getfield 19, 3, (11, 1, 0), 0, 576)), (125, (.getfield 83, 3, (2, 0, 1), 0, 350))],
  [(128, (.iload_n 1, 1, (0, 0, 0), 0, 0)), (129, (.invokevirtual 195, 3, (0, 175, 1), 0, 1204)), (132, (.ireturn, 1, (0, 0, 0), 0, 0)), (133, (.new 165, 3, (1, 3, 16), 0, 1167)), (136, (.dup, 1, (0, 0, 0), 0, 0)), (137, (.ldc 198, 2, (2, 0, 0), 0, 1208)), (139, (.invokespecial 169, 3, (9, 0, 0), 0, 1177)), (142, (.athrow, 1, (0, 0, 0), 0, 0))]]
set_option maxRecDepth 10000 in
def zp47 : List (List (Nat × ZI)) := [[(0, (.aload_n 0, 1, (0, 0, 0), 0, 0)), (1, (.iload_n 1, 1, (0, 0, 0), 0, 0)), (2, (.invokevirtual 170, 3, (0, 88, 0), 0, 1190)), (5, (.aload_n 0, 1, (0, 0, 0), 0, 0)), (6, (.iload_n 2, 1, (0, 0, 0), 0, 0)), (7, (.invokevirtual 170, 3, (0, 88, 0), 0, 1190)), (10, (.aload_n 0, 1, (0, 0, 0), 0, 0)), (11, (.getfield 26, 3, (11, 2, 0), 0, 577)), (14, (.getfield 200, 3, (0, 5, 1), 0, 391)), (17, (.iload_n 1, 1, (0, 0, 0), 0, 0)), (18, (.bipush 8, 2, (0, 0, 0), 8, 0)), (20, (.imul, 1, (0, 0, 0), 0, 0)), (21, (.iload_n 2, 1, (0, 0, 0), 0, 0)), (22, (.iadd, 1, (0, 0, 0), 0, 0)), (23, (.iaload, 1, (0, 0, 0), 0, 0)), (24, (.ireturn, 1, (0, 0, 0), 0, 0))]]
set_option maxRecDepth 10000 in
def zp48 : List (List (Nat × ZI)) := [[(0, (.aload_n 0, 1, (0, 0, 0), 0, 0)), (1, (.iload_n 1, 1, (0, 0, 0), 0, 0)), (2, (.invokevirtual 170, 3, (0, 88, 0), 0, 1190)), (5, (.aload_n 0, 1, (0, 0, 0), 0, 0)), (6, (.getfield 19, 3, (11, 1, 0), 0, 576)), (9, (.getfield 83, 3, (2, 0, 1), 0, 350)), (12, (.iload_n 1, 1, (0, 0, 0), 0, 0)), (13, (.iload_n 2, 1, (0, 0, 0), 0, 0)), (14, (.invokevirtual 179, 3, (0, 173, 1), 0, 1202)), (17, (.ireturn, 1, (0, 0, 0), 0, 0))]]
set_option maxRecDepth 10000 in
def zp49 : List (List (Nat × ZI)) := [[(0, (.aload_n 0, 1, (0, 0, 0), 0, 0)), (1, (.iload_n 1, 1, (0, 0, 0), 0, 0)), (2, (.invokevirtual 170, 3, (0, 88, 0), 0, 1190)), (5, (.aload_n 0, 1, (0, 0, 0), 0, 0)), (6, (.iload_n 2, 1, (0, 0, 0), 0, 0)), (7, (.invokevirtual 138, 3, (0, 87, 0), 0, 1128)), (10, (.iload_n 3, 1, (0, 0, 0), 0, 0)), (11, (.ifCond .lt 8, 3, (19, 0, 0), 0, 0)), (14, (.iload_n 3, 1, (0, 0, 0), 0, 0)), (15, (.iconst 2, 1, (0, 0, 0), 2, 0)), (16, (.if_icmp .le 13, 3, (29, 0, 0), 0, 0)), (19, (.new 165, 3, (1, 3, 17), 0, 1167)), (22, (.dup, 1, (0, 0, 0), 0, 0)), (23, (.ldc 203, 2, (2, 0, 0), 0, 1230)), (25, (.invokespecial 169, 3, (9, 0, 0), 0, 1177)), (28, (.athrow, 1, (0, 0, 0), 0, 0)), (29, (.aload_n 0, 1, (0, 0, 0), 0, 0)), (30, (.getfield 19, 3, (11, 1, 0), 0, 576))],
  [(33, (.aload_n 0, 1, (0, 0, 0), 0, 0)), (34, (.getfield 26, 3, (11, 2, 0), 0, 577)), (37, (.iload_n 1, 1, (0, 0, 0), 0, 0)), (38, (.iload_n 2, 1, (0, 0, 0), 0, 0)), (39, (.iload_n 3, 1, (0, 0, 0), 0, 0)), (40, (.invokevirtual 205, 3, (0, 115, 1), 0, 1231)), (43, (.ireturn, 1, (0, 0, 0), 0, 0))]]
set_option maxRecDepth 10000 in
def zp50 : List (List (Nat × ZI)) := [[(0, (.iload_n 1, 1, (0, 0, 0), 0, 0)), (1, (.iconst 1, 1, (0, 0, 0), 1, 0)), (2, (.bipush 100, 2, (0, 0, 0), 100, 0)), (4, (.invokestatic 209, 3, (0, 89, 0), 0, 1242)), (7, (.aload_n 0, 1, (0, 0, 0), 0, 0)), (8, (.getfield 40, 3, (11, 4, 0), 0, 579)), (11, (.aload_n 0, 1, (0, 0, 0), 0, 0)), (12, (.getfield 26, 3, (11, 2, 0), 0, 577)), (15, (.aload_n 0, 1, (0, 0, 0), 0, 0)), (16, (.getfield 33, 3, (11, 3, 0), 0, 578)), (19, (.invokevirtual 213, 3, (0, 167, 1), 0, 1246)), (22, (.iconst 0, 1, (0, 0, 0), 0, 0)), (23, (.istore_n 2, 1, (0, 0, 0), 0, 0)), (24, (.iconst 0, 1, (0, 0, 0), 0, 0)), (25, (.istore_n 3, 1, (0, 0, 0), 0, 0)), (26, (.iload_n 3, 1, (0, 0, 0), 0, 0)), (27, (.iload_n 1, 1, (0, 0, 0), 0, 0)), (28, (.if_icmp .ge 27, 3, (55, 0, 0), 0, 0)), (31, (.iload_n 2, 1, (0, 0, 0), 0, 0))],
  [(32, (.aload_n 0, 1, (0, 0, 0), 0, 0)), (33, (.getfield 19, 3, (11, 1, 0), 0, 576)), (36, (.aload_n 0, 1, (0, 0, 0), 0, 0)), (37, (.getfield 26, 3, (11, 2, 0), 0, 577)), (40, (.aload_n 0, 1, (0, 0, 0), 0, 0)), (41, (.getfield 33, 3, (11, 3, 0), 0, 578)), (44, (.invokevirtual 217, 3, (0, 117, 1), 0, 1253)), (47, (.iadd, 1, (0, 0, 0), 0, 0)), (48, (.istore_n 2, 1, (0, 0, 0), 0, 0)), (49, (.iinc 3 1, 3, (0, 0, 0), 1, 0)), (52, (.goto (-26), 3, (26, 0, 0), 0, 0)), (55, (.iload_n 2, 1, (0, 0, 0), 0, 0)), (56, (.ireturn, 1, (0, 0, 0), 0, 0))]]
set_option maxRecDepth 10000 in
def zp51 : List (List (Nat × ZI)) := [[(0, (.aload_n 0, 1, (0, 0, 0), 0, 0)), (1, (.iload_n 1, 1, (0, 0, 0), 0, 0)), (2, (.invokevirtual 138, 3, (0, 87, 0), 0, 1128)), (5, (.aload_n 0, 1, (0, 0, 0), 0, 0)), (6, (.getfield 40, 3, (11, 4, 0), 0, 579)), (9, (.aload_n 0, 1, (0, 0, 0), 0, 0)), (10, (.getfield 26, 3, (11, 2, 0), 0, 577)), (13, (.aload_n 0, 1, (0, 0, 0), 0, 0)), (14, (.getfield 33, 3, (11, 3, 0), 0, 578)), (17, (.invokevirtual 213, 3, (0, 167, 1), 0, 1246)), (20, (.aload_n 0, 1, (0, 0, 0), 0, 0)), (21, (.getfield 26, 3, (11, 2, 0), 0, 577)), (24, (.dup, 1, (0, 0, 0), 0, 0)), (25, (.getfield 221, 3, (0, 11, 1), 0, 410)), (28, (.aload_n 0, 1, (0, 0, 0), 0, 0)), (29, (.getfield 19, 3, (11, 1, 0), 0, 576))],
  [(32, (.getfield 83, 3, (2, 0, 1), 0, 350)), (35, (.getfield 145, 3, (8, 5, 1), 0, 285)), (38, (.iload_n 1, 1, (0, 0, 0), 0, 0)), (39, (.iaload, 1, (0, 0, 0), 0, 0)), (40, (.iadd, 1, (0, 0, 0), 0, 0)), (41, (.putfield 221, 3, (0, 11, 1), 0, 410)), (44, (.aload_n 0, 1, (0, 0, 0), 0, 0)), (45, (.getfield 19, 3, (11, 1, 0), 0, 576)), (48, (.aload_n 0, 1, (0, 0, 0), 0, 0)), (49, (.getfield 26, 3, (11, 2, 0), 0, 577)), (52, (.iload_n 1, 1, (0, 0, 0), 0, 0)), (53, (.invokevirtual 224, 3, (0, 119, 1), 0, 1261)), (56, (.ireturn, 1, (0, 0, 0), 0, 0))]]
set_option maxRecDepth 10000 in
def zp52 : List (List (Nat × ZI)) := [[(0, (.aload_n 0, 1, (0, 0, 0), 0, 0)), (1, (.iload_n 1, 1, (0, 0, 0), 0, 0)), (2, (.invokevirtual 170, 3, (0, 88, 0), 0, 1190)), (5, (.aload_n 0, 1, (0, 0, 0), 0, 0)), (6, (.getfield 40, 3, (11, 4, 0), 0, 579)), (9, (.aload_n 0, 1, (0, 0, 0), 0, 0)), (10, (.getfield 26, 3, (11, 2, 0), 0, 577)), (13, (.aload_n 0, 1, (0, 0, 0), 0, 0)), (14, (.getfield 33, 3, (11, 3, 0), 0, 578)), (17, (.invokevirtual 213, 3, (0, 167, 1), 0, 1246)), (20, (.aload_n 0, 1, (0, 0, 0), 0, 0)), (21, (.getfield 26, 3, (11, 2, 0), 0, 577)), (24, (.iload_n 1, 1, (0, 0, 0), 0, 0)), (25, (.invokevirtual 227, 3, (0, 101, 1), 0, 1273)), (28, (.ireturn, 1, (0, 0, 0), 0, 0))]]
set_option maxRecDepth 10000 in
def zp53 : List (List (Nat × ZI)) := [[(0, (.aload_n 0, 1, (0, 0, 0), 0, 0)), (1, (.iload_n 1, 1, (0, 0, 0), 0, 0)), (2, (.invokevirtual 138, 3, (0, 87, 0), 0, 1128)), (5, (.iload_n 2, 1, (0, 0, 0), 0, 0)), (6, (.iconst 0, 1, (0, 0, 0), 0, 0)), (7, (.bipush 100, 2, (0, 0, 0), 100, 0)), (9, (.invokestatic 209, 3, (0, 89, 0), 0, 1242)), (12, (.aload_n 0, 1, (0, 0, 0), 0, 0)), (13, (.getfield 40, 3, (11, 4, 0), 0, 579)), (16, (.aload_n 0, 1, (0, 0, 0), 0, 0)), (17, (.getfield 26, 3, (11, 2, 0), 0, 577)), (20, (.aload_n 0, 1, (0, 0, 0), 0, 0)), (21, (.getfield 33, 3, (11, 3, 0), 0, 578)), (24, (.invokevirtual 213, 3, (0, 167, 1), 0, 1246)), (27, (.aload_n 0, 1, (0, 0, 0), 0, 0)), (28, (.getfield 26, 3, (11, 2, 0), 0, 577)), (31, (.getfield 148, 3, (0, 0, 1), 0, 372))],
  [(34, (.iload_n 1, 1, (0, 0, 0), 0, 0)), (35, (.iaload, 1, (0, 0, 0), 0, 0)), (36, (.istore_n 3, 1, (0, 0, 0), 0, 0)), (37, (.aload_n 0, 1, (0, 0, 0), 0, 0)), (38, (.getfield 26, 3, (11, 2, 0), 0, 577)), (41, (.getfield 148, 3, (0, 0, 1), 0, 372)), (44, (.iload_n 1, 1, (0, 0, 0), 0, 0)), (45, (.iload_n 2, 1, (0, 0, 0), 0, 0)), (46, (.iastore, 1, (0, 0, 0), 0, 0)), (47, (.iload_n 3, 1, (0, 0, 0), 0, 0)), (48, (.ireturn, 1, (0, 0, 0), 0, 0))]]
set_option maxRecDepth 10000 in
def zp54 : List (List (Nat × ZI)) := [[(0, (.aload_n 0, 1, (0, 0, 0), 0, 0)), (1, (.iload_n 1, 1, (0, 0, 0), 0, 0)), (2, (.invokevirtual 170, 3, (0, 88, 0), 0, 1190)), (5, (.iload_n 2, 1, (0, 0, 0), 0, 0)), (6, (.iconst 0, 1, (0, 0, 0), 0, 0)), (7, (.bipush 100, 2, (0, 0, 0), 100, 0)), (9, (.invokestatic 209, 3, (0, 89, 0), 0, 1242)), (12, (.aload_n 0, 1, (0, 0, 0), 0, 0)), (13, (.getfield 40, 3, (11, 4, 0), 0, 579)), (16, (.aload_n 0, 1, (0, 0, 0), 0, 0)), (17, (.getfield 26, 3, (11, 2, 0), 0, 577)), (20, (.aload_n 0, 1, (0, 0, 0), 0, 0)), (21, (.getfield 33, 3, (11, 3, 0), 0, 578)), (24, (.invokevirtual 213, 3, (0, 167, 1), 0, 1246)), (27, (.aload_n 0, 1, (0, 0, 0), 0, 0)), (28, (.getfield 26, 3, (11, 2, 0), 0, 577)), (31, (.getfield 186, 3, (0, 2, 1), 0, 381))],
  [(34, (.iload_n 1, 1, (0, 0, 0), 0, 0)), (35, (.iaload, 1, (0, 0, 0), 0, 0)), (36, (.istore_n 3, 1, (0, 0, 0), 0, 0)), (37, (.aload_n 0, 1, (0, 0, 0), 0, 0)), (38, (.getfield 26, 3, (11, 2, 0), 0, 577)), (41, (.getfield 186, 3, (0, 2, 1), 0, 381)), (44, (.iload_n 1, 1, (0, 0, 0), 0, 0)), (45, (.iload_n 2, 1, (0, 0, 0), 0, 0)), (46, (.iastore, 1, (0, 0, 0), 0, 0)), (47, (.iload_n 3, 1, (0, 0, 0), 0, 0)), (48, (.ireturn, 1, (0, 0, 0), 0, 0))]]
set_option maxRecDepth 10000 in
def zp55 : List (List (Nat × ZI)) := [[(0, (.aload_n 0, 1, (0, 0, 0), 0, 0)), (1, (.iload_n 1, 1, (0, 0, 0), 0, 0)), (2, (.invokevirtual 170, 3, (0, 88, 0), 0, 1190)), (5, (.iload_n 2, 1, (0, 0, 0), 0, 0)), (6, (.iconst 0, 1, (0, 0, 0), 0, 0)), (7, (.bipush 99, 2, (0, 0, 0), 99, 0)), (9, (.invokestatic 209, 3, (0, 89, 0), 0, 1242)), (12, (.aload_n 0, 1, (0, 0, 0), 0, 0)), (13, (.getfield 40, 3, (11, 4, 0), 0, 579)), (16, (.aload_n 0, 1, (0, 0, 0), 0, 0)), (17, (.getfield 26, 3, (11, 2, 0), 0, 577)), (20, (.aload_n 0, 1, (0, 0, 0), 0, 0)), (21, (.getfield 33, 3, (11, 3, 0), 0, 578)), (24, (.invokevirtual 213, 3, (0, 167, 1), 0, 1246)), (27, (.aload_n 0, 1, (0, 0, 0), 0, 0)), (28, (.getfield 26, 3, (11, 2, 0), 0, 577)), (31, (.getfield 189, 3, (0, 3, 1), 0, 385))],
  [(34, (.iload_n 1, 1, (0, 0, 0), 0, 0)), (35, (.iaload, 1, (0, 0, 0), 0, 0)), (36, (.istore_n 3, 1, (0, 0, 0), 0, 0)), (37, (.aload_n 0, 1, (0, 0, 0), 0, 0)), (38, (.getfield 26, 3, (11, 2, 0), 0, 577)), (41, (.getfield 189, 3, (0, 3, 1), 0, 385)), (44, (.iload_n 1, 1, (0, 0, 0), 0, 0)), (45, (.iload_n 2, 1, (0, 0, 0), 0, 0)), (46, (.iastore, 1, (0, 0, 0), 0, 0)), (47, (.iload_n 3, 1, (0, 0, 0), 0, 0)), (48, (.ireturn, 1, (0, 0, 0), 0, 0))]]
set_option maxRecDepth 10000 in
def zp56 : List (List (Nat × ZI)) := [[(0, (.iload_n 1, 1, (0, 0, 0), 0, 0)), (1, (.iconst 0, 1, (0, 0, 0), 0, 0)), (2, (.bipush 100, 2, (0, 0, 0), 100, 0)), (4, (.invokestatic 209, 3, (0, 89, 0), 0, 1242)), (7, (.iload_n 2, 1, (0, 0, 0), 0, 0)), (8, (.ifCond .lt 8, 3, (16, 0, 0), 0, 0)), (11, (.iload_n 2, 1, (0, 0, 0), 0, 0)), (12, (.iconst 3, 1, (0, 0, 0), 3, 0)), (13, (.if_icmp .le 13, 3, (26, 0, 0), 0, 0)), (16, (.new 165, 3, (1, 3, 19), 0, 1167)), (19, (.dup, 1, (0, 0, 0), 0, 0)), (20, (.ldc 230, 2, (2, 0, 0), 0, 1306)), (22, (.invokespecial 169, 3, (9, 0, 0), 0, 1177)), (25, (.athrow, 1, (0, 0, 0), 0, 0)), (26, (.aload_n 0, 1, (0, 0, 0), 0, 0)), (27, (.getfield 54, 3, (11, 6, 0), 0, 581)), (30, (.aload_n 0, 1, (0, 0, 0), 0, 0)), (31, (.getfield 19, 3, (11, 1, 0), 0, 576))],
  [(34, (.aload_n 0, 1, (0, 0, 0), 0, 0)), (35, (.getfield 26, 3, (11, 2, 0), 0, 577)), (38, (.iload_n 1, 1, (0, 0, 0), 0, 0)), (39, (.iload_n 2, 1, (0, 0, 0), 0, 0)), (40, (.invokevirtual 232, 3, (0, 191, 1), 0, 1307)), (43, (.ireturn, 1, (0, 0, 0), 0, 0))]]
set_option maxRecDepth 10000 in
def zp57 : List (List (Nat × ZI)) := [[(0, (.aload_n 0, 1, (0, 0, 0), 0, 0)), (1, (.iload_n 1, 1, (0, 0, 0), 0, 0)), (2, (.invokevirtual 138, 3, (0, 87, 0), 0, 1128)), (5, (.iload_n 2, 1, (0, 0, 0), 0, 0)), (6, (.iconst 1, 1, (0, 0, 0), 1, 0)), (7, (.bipush 100, 2, (0, 0, 0), 100, 0)), (9, (.invokestatic 209, 3, (0, 89, 0), 0, 1242)), (12, (.iload_n 3, 1, (0, 0, 0), 0, 0)), (13, (.iconst 0, 1, (0, 0, 0), 0, 0)), (14, (.bipush 100, 2, (0, 0, 0), 100, 0)), (16, (.invokestatic 209, 3, (0, 89, 0), 0, 1242)), (19, (.aload_n 0, 1, (0, 0, 0), 0, 0)), (20, (.getfield 54, 3, (11, 6, 0), 0, 581)), (23, (.aload_n 0, 1, (0, 0, 0), 0, 0)), (24, (.getfield 19, 3, (11, 1, 0), 0, 576)), (27, (.aload_n 0, 1, (0, 0, 0), 0, 0)), (28, (.getfield 26, 3, (11, 2, 0), 0, 577)), (31, (.iload_n 1, 1, (0, 0, 0), 0, 0))],
  [(32, (.iload_n 2, 1, (0, 0, 0), 0, 0)), (33, (.iload_n 3, 1, (0, 0, 0), 0, 0)), (34, (.invokevirtual 236, 3, (0, 192, 1), 0, 1331)), (37, (.ireturn, 1, (0, 0, 0), 0, 0))]]
set_option maxRecDepth 10000 in
def zp58 : List (List (Nat × ZI)) := [[(0, (.iload_n 1, 1, (0, 0, 0), 0, 0)), (1, (.iconst 1, 1, (0, 0, 0), 1, 0)), (2, (.bipush 100, 2, (0, 0, 0), 100, 0)), (4, (.invokestatic 209, 3, (0, 89, 0), 0, 1242)), (7, (.iload_n 2, 1, (0, 0, 0), 0, 0)), (8, (.iconst 0, 1, (0, 0, 0), 0, 0)), (9, (.bipush 24, 2, (0, 0, 0), 24, 0)), (11, (.invokestatic 209, 3, (0, 89, 0), 0, 1242)), (14, (.aload_n 0, 1, (0, 0, 0), 0, 0)), (15, (.getfield 54, 3, (11, 6, 0), 0, 581)), (18, (.aload_n 0, 1, (0, 0, 0), 0, 0)), (19, (.getfield 19, 3, (11, 1, 0), 0, 576)), (22, (.aload_n 0, 1, (0, 0, 0), 0, 0)), (23, (.getfield 26, 3, (11, 2, 0), 0, 577)), (26, (.iload_n 1, 1, (0, 0, 0), 0, 0)), (27, (.iload_n 2, 1, (0, 0, 0), 0, 0)), (28, (.iload_n 3, 1, (0, 0, 0), 0, 0)), (29, (.invokevirtual 240, 3, (0, 193, 1), 0, 1342))],
  [(32, (.ireturn, 1, (0, 0, 0), 0, 0))]]
set_option maxRecDepth 10000 in
def zp59 : List (List (Nat × ZI)) := [[(0, (.iload_n 1, 1, (0, 0, 0), 0, 0)), (1, (.iconst 1, 1, (0, 0, 0), 1, 0)), (2, (.bipush 100, 2, (0, 0, 0), 100, 0)), (4, (.invokestatic 209, 3, (0, 89, 0), 0, 1242)), (7, (.iload_n 2, 1, (0, 0, 0), 0, 0)), (8, (.iconst 0, 1, (0, 0, 0), 0, 0)), (9, (.bipush 24, 2, (0, 0, 0), 24, 0)), (11, (.invokestatic 209, 3, (0, 89, 0), 0, 1242)), (14, (.aload_n 0, 1, (0, 0, 0), 0, 0)), (15, (.getfield 54, 3, (11, 6, 0), 0, 581)), (18, (.aload_n 0, 1, (0, 0, 0), 0, 0)), (19, (.getfield 19, 3, (11, 1, 0), 0, 576)), (22, (.aload_n 0, 1, (0, 0, 0), 0, 0)), (23, (.getfield 26, 3, (11, 2, 0), 0, 577)), (26, (.iload_n 1, 1, (0, 0, 0), 0, 0)), (27, (.iload_n 2, 1, (0, 0, 0), 0, 0)), (28, (.invokevirtual 244, 3, (0, 194, 1), 0, 1353)), (31, (.ireturn, 1, (0, 0, 0), 0, 0))]]
set_option maxRecDepth 10000 in
def zp60 : List (List (Nat × ZI)) := [[(0, (.iload_n 1, 1, (0, 0, 0), 0, 0)), (1, (.iconst 0, 1, (0, 0, 0), 0, 0)), (2, (.ldc 247, 2, (0, 0, 0), 2147483647, 1364)), (4, (.invokestatic 209, 3, (0, 89, 0), 0, 1242)), (7, (.iload_n 2, 1, (0, 0, 0), 0, 0)), (8, (.iconst 0, 1, (0, 0, 0), 0, 0)), (9, (.bipush 24, 2, (0, 0, 0), 24, 0)), (11, (.invokestatic 209, 3, (0, 89, 0), 0, 1242)), (14, (.aload_n 0, 1, (0, 0, 0), 0, 0)), (15, (.getfield 54, 3, (11, 6, 0), 0, 581)), (18, (.aload_n 0, 1, (0, 0, 0), 0, 0)), (19, (.getfield 19, 3, (11, 1, 0), 0, 576)), (22, (.aload_n 0, 1, (0, 0, 0), 0, 0)), (23, (.getfield 26, 3, (11, 2, 0), 0, 577)), (26, (.iload_n 1, 1, (0, 0, 0), 0, 0)), (27, (.iload_n 2, 1, (0, 0, 0), 0, 0)), (28, (.invokevirtual 248, 3, (0, 195, 1), 0, 1365)), (31, (.ireturn, 1, (0, 0, 0), 0, 0))]]
set_option maxRecDepth 10000 in
def zp61 : List (List (Nat × ZI)) := [[(0, (.iload_n 1, 1, (0, 0, 0), 0, 0)), (1, (.iconst 0, 1, (0, 0, 0), 0, 0)), (2, (.ldc 247, 2, (0, 0, 0), 2147483647, 1364)), (4, (.invokestatic 209, 3, (0, 89, 0), 0, 1242)), (7, (.aload_n 0, 1, (0, 0, 0), 0, 0)), (8, (.getfield 54, 3, (11, 6, 0), 0, 581)), (11, (.aload_n 0, 1, (0, 0, 0), 0, 0)), (12, (.getfield 19, 3, (11, 1, 0), 0, 576)), (15, (.aload_n 0, 1, (0, 0, 0), 0, 0)), (16, (.getfield 26, 3, (11, 2, 0), 0, 577)), (19, (.iload_n 1, 1, (0, 0, 0), 0, 0)), (20, (.invokevirtual 251, 3, (0, 196, 1), 0, 1383)), (23, (.istore_n 3, 1, (0, 0, 0), 0, 0)), (24, (.iload_n 3, 1, (0, 0, 0), 0, 0)), (25, (.iconst (-1), 1, (0, 0, 0), (-1), 0)), (26, (.if_icmp .eq 7, 3, (33, 0, 0), 0, 0)), (29, (.iload_n 2, 1, (0, 0, 0), 0, 0)), (30, (.ifCond .eq 5, 3, (35, 0, 0), 0, 0))],
  [(33, (.iload_n 3, 1, (0, 0, 0), 0, 0)), (34, (.ireturn, 1, (0, 0, 0), 0, 0)), (35, (.aload_n 0, 1, (0, 0, 0), 0, 0)), (36, (.getfield 19, 3, (11, 1, 0), 0, 576)), (39, (.getfield 83, 3, (2, 0, 1), 0, 350)), (42, (.iload_n 3, 1, (0, 0, 0), 0, 0)), (43, (.invokevirtual 255, 3, (0, 176, 1), 0, 1396)), (46, (.ireturn, 1, (0, 0, 0), 0, 0))]]
set_option maxRecDepth 10000 in
def zp62 : List (List (Nat × ZI)) := [[(0, (.iload_n 1, 1, (0, 0, 0), 0, 0)), (1, (.iconst 0, 1, (0, 0, 0), 0, 0)), (2, (.ldc 247, 2, (0, 0, 0), 2147483647, 1364)), (4, (.invokestatic 209, 3, (0, 89, 0), 0, 1242)), (7, (.iload_n 2, 1, (0, 0, 0), 0, 0)), (8, (.iconst 1, 1, (0, 0, 0), 1, 0)), (9, (.bipush 24, 2, (0, 0, 0), 24, 0)), (11, (.invokestatic 209, 3, (0, 89, 0), 0, 1242)), (14, (.aload_n 0, 1, (0, 0, 0), 0, 0)), (15, (.getfield 54, 3, (11, 6, 0), 0, 581)), (18, (.aload_n 0, 1, (0, 0, 0), 0, 0)), (19, (.getfield 19, 3, (11, 1, 0), 0, 576)), (22, (.aload_n 0, 1, (0, 0, 0), 0, 0)), (23, (.getfield 26, 3, (11, 2, 0), 0, 577)), (26, (.iload_n 1, 1, (0, 0, 0), 0, 0)), (27, (.iload_n 2, 1, (0, 0, 0), 0, 0)), (28, (.invokevirtual 258, 3, (0, 198, 1), 0, 1404)), (31, (.ireturn, 1, (0, 0, 0), 0, 0))]]
set_option maxRecDepth 10000 in
def zp63 : List (List (Nat × ZI)) := [[(0, (.iload_n 1, 1, (0, 0, 0), 0, 0)), (1, (.iconst 1, 1, (0, 0, 0), 1, 0)), (2, (.ldc_w 261, 3, (0, 0, 0), 99999, 1424)), (5, (.invokestatic 209, 3, (0, 89, 0), 0, 1242)), (8, (.aload_n 0, 1, (0, 0, 0), 0, 0)), (9, (.getfield 54, 3, (11, 6, 0), 0, 581)), (12, (.aload_n 0, 1, (0, 0, 0), 0, 0)), (13, (.getfield 19, 3, (11, 1, 0), 0, 576)), (16, (.aload_n 0, 1, (0, 0, 0), 0, 0)), (17, (.getfield 26, 3, (11, 2, 0), 0, 577)), (20, (.iload_n 1, 1, (0, 0, 0), 0, 0)), (21, (.invokevirtual 262, 3, (0, 200, 1), 0, 1425)), (24, (.ireturn, 1, (0, 0, 0), 0, 0))]]
set_option maxRecDepth 10000 in
def zp64 : List (List (Nat × ZI)) := [[(0, (.aload_n 0, 1, (0, 0, 0), 0, 0)), (1, (.getfield 54, 3, (11, 6, 0), 0, 581)), (4, (.aload_n 0, 1, (0, 0, 0), 0, 0)), (5, (.getfield 19, 3, (11, 1, 0), 0, 576)), (8, (.aload_n 0, 1, (0, 0, 0), 0, 0)), (9, (.getfield 26, 3, (11, 2, 0), 0, 577)), (12, (.invokevirtual 265, 3, (0, 201, 1), 0, 626)), (15, (.ireturn, 1, (0, 0, 0), 0, 0))]]
set_option maxRecDepth 10000 in
def zp65 : List (List (Nat × ZI)) := [[(0, (.iload_n 1, 1, (0, 0, 0), 0, 0)), (1, (.iconst 0, 1, (0, 0, 0), 0, 0)), (2, (.ldc 247, 2, (0, 0, 0), 2147483647, 1364)), (4, (.invokestatic 209, 3, (0, 89, 0), 0, 1242)), (7, (.aload_n 0, 1, (0, 0, 0), 0, 0)), (8, (.getfield 54, 3, (11, 6, 0), 0, 581)), (11, (.aload_n 0, 1, (0, 0, 0), 0, 0)), (12, (.getfield 19, 3, (11, 1, 0), 0, 576)), (15, (.aload_n 0, 1, (0, 0, 0), 0, 0)), (16, (.getfield 26, 3, (11, 2, 0), 0, 577)), (19, (.iload_n 1, 1, (0, 0, 0), 0, 0)), (20, (.invokevirtual 269, 3, (0, 202, 1), 0, 1436)), (23, (.ireturn, 1, (0, 0, 0), 0, 0))]]
set_option maxRecDepth 10000 in
def zp66 : List (List (Nat × ZI)) := [[(0, (.aload_n 0, 1, (0, 0, 0), 0, 0)), (1, (.iload_n 1, 1, (0, 0, 0), 0, 0)), (2, (.invokevirtual 138, 3, (0, 87, 0), 0, 1128)), (5, (.iload_n 2, 1, (0, 0, 0), 0, 0)), (6, (.iconst 0, 1, (0, 0, 0), 0, 0)), (7, (.bipush 24, 2, (0, 0, 0), 24, 0)), (9, (.invokestatic 209, 3, (0, 89, 0), 0, 1242)), (12, (.aload_n 0, 1, (0, 0, 0), 0, 0)), (13, (.getfield 54, 3, (11, 6, 0), 0, 581)), (16, (.aload_n 0, 1, (0, 0, 0), 0, 0)), (17, (.getfield 19, 3, (11, 1, 0), 0, 576)), (20, (.aload_n 0, 1, (0, 0, 0), 0, 0)), (21, (.getfield 26, 3, (11, 2, 0), 0, 577)), (24, (.iload_n 1, 1, (0, 0, 0), 0, 0)), (25, (.iload_n 2, 1, (0, 0, 0), 0, 0)), (26, (.invokevirtual 272, 3, (0, 203, 1), 0, 1447)), (29, (.ireturn, 1, (0, 0, 0), 0, 0))]]
set_option maxRecDepth 10000 in
def zp67 : List (List (Nat × ZI)) := [[(0, (.aload_n 0, 1, (0, 0, 0), 0, 0)), (1, (.iload_n 1, 1, (0, 0, 0), 0, 0)), (2, (.invokevirtual 170, 3, (0, 88, 0), 0, 1190)), (5, (.aload_n 0, 1, (0, 0, 0), 0, 0)), (6, (.iload_n 2, 1, (0, 0, 0), 0, 0)), (7, (.invokevirtual 138, 3, (0, 87, 0), 0, 1128)), (10, (.iload_n 3, 1, (0, 0, 0), 0, 0)), (11, (.iconst 0, 1, (0, 0, 0), 0, 0)), (12, (.bipush 24, 2, (0, 0, 0), 24, 0)), (14, (.invokestatic 209, 3, (0, 89, 0), 0, 1242)), (17, (.aload_n 0, 1, (0, 0, 0), 0, 0)), (18, (.getfield 54, 3, (11, 6, 0), 0, 581)), (21, (.aload_n 0, 1, (0, 0, 0), 0, 0)), (22, (.getfield 19, 3, (11, 1, 0), 0, 576)), (25, (.aload_n 0, 1, (0, 0, 0), 0, 0)), (26, (.getfield 26, 3, (11, 2, 0), 0, 577)), (29, (.iload_n 1, 1, (0, 0, 0), 0, 0)), (30, (.iload_n 2, 1, (0, 0, 0), 0, 0)), (31, (.iload_n 3, 1, (0, 0, 0), 0, 0))],
  [(32, (.invokevirtual 275, 3, (0, 204, 1), 0, 1459)), (35, (.ireturn, 1, (0, 0, 0), 0, 0))]]
set_option maxRecDepth 10000 in
def zp68 : List (List (Nat × ZI)) := [[(0, (.aload_n 0, 1, (0, 0, 0), 0, 0)), (1, (.iload_n 1, 1, (0, 0, 0), 0, 0)), (2, (.invokevirtual 170, 3, (0, 88, 0), 0, 1190)), (5, (.iload_n 2, 1, (0, 0, 0), 0, 0)), (6, (.iconst 0, 1, (0, 0, 0), 0, 0)), (7, (.bipush 24, 2, (0, 0, 0), 24, 0)), (9, (.invokestatic 209, 3, (0, 89, 0), 0, 1242)), (12, (.aload_n 0, 1, (0, 0, 0), 0, 0)), (13, (.getfield 54, 3, (11, 6, 0), 0, 581)), (16, (.aload_n 0, 1, (0, 0, 0), 0, 0)), (17, (.getfield 19, 3, (11, 1, 0), 0, 576)), (20, (.aload_n 0, 1, (0, 0, 0), 0, 0)), (21, (.getfield 26, 3, (11, 2, 0), 0, 577)), (24, (.iload_n 1, 1, (0, 0, 0), 0, 0)), (25, (.iload_n 2, 1, (0, 0, 0), 0, 0)), (26, (.invokevirtual 278, 3, (0, 205, 1), 0, 1472)), (29, (.ireturn, 1, (0, 0, 0), 0, 0))]]
set_option maxRecDepth 10000 in
def zp69 : List (List (Nat × ZI)) := [[(0, (.iload_n 1, 1, (0, 0, 0), 0, 0)), (1, (.iconst 0, 1, (0, 0, 0), 0, 0)), (2, (.bipush 24, 2, (0, 0, 0), 24, 0)), (4, (.invokestatic 209, 3, (0, 89, 0), 0, 1242)), (7, (.aload_n 0, 1, (0, 0, 0), 0, 0)), (8, (.getfield 54, 3, (11, 6, 0), 0, 581)), (11, (.aload_n 0, 1, (0, 0, 0), 0, 0)), (12, (.getfield 19, 3, (11, 1, 0), 0, 576)), (15, (.aload_n 0, 1, (0, 0, 0), 0, 0)), (16, (.getfield 26, 3, (11, 2, 0), 0, 577)), (19, (.iload_n 1, 1, (0, 0, 0), 0, 0)), (20, (.iload_n 2, 1, (0, 0, 0), 0, 0)), (21, (.invokevirtual 281, 3, (0, 206, 1), 0, 1485)), (24, (.ireturn, 1, (0, 0, 0), 0, 0))]]
set_option maxRecDepth 10000 in
def zp70 : List (List (Nat × ZI)) := [[(0, (.iload_n 1, 1, (0, 0, 0), 0, 0)), (1, (.iconst 1, 1, (0, 0, 0), 1, 0)), (2, (.bipush 100, 2, (0, 0, 0), 100, 0)), (4, (.invokestatic 209, 3, (0, 89, 0), 0, 1242)), (7, (.aload_n 0, 1, (0, 0, 0), 0, 0)), (8, (.getfield 54, 3, (11, 6, 0), 0, 581)), (11, (.aload_n 0, 1, (0, 0, 0), 0, 0)), (12, (.getfield 19, 3, (11, 1, 0), 0, 576)), (15, (.aload_n 0, 1, (0, 0, 0), 0, 0)), (16, (.getfield 26, 3, (11, 2, 0), 0, 577)), (19, (.iload_n 1, 1, (0, 0, 0), 0, 0)), (20, (.invokevirtual 285, 3, (0, 207, 1), 0, 1496)), (23, (.ireturn, 1, (0, 0, 0), 0, 0))]]
set_option maxRecDepth 10000 in
def zp71 : List (List (Nat × ZI)) := [[(0, (.aload_n 0, 1, (0, 0, 0), 0, 0)), (1, (.iload_n 1, 1, (0, 0, 0), 0, 0)), (2, (.invokevirtual 170, 3, (0, 88, 0), 0, 1190)), (5, (.iload_n 1, 1, (0, 0, 0), 0, 0)), (6, (.bipush 8, 2, (0, 0, 0), 8, 0)), (8, (.imul, 1, (0, 0, 0), 0, 0)), (9, (.istore_n 3, 1, (0, 0, 0), 0, 0)), (10, (.iload_n 2, 1, (0, 0, 0), 0, 0)), (11, (.ifCond .eq 21, 3, (32, 0, 0), 0, 0)), (14, (.aload_n 0, 1, (0, 0, 0), 0, 0)), (15, (.getfield 26, 3, (11, 2, 0), 0, 577)), (18, (.aload_n 0, 1, (0, 0, 0), 0, 0)), (19, (.getfield 26, 3, (11, 2, 0), 0, 577)), (22, (.getfield 200, 3, (0, 5, 1), 0, 391)), (25, (.iload_n 3, 1, (0, 0, 0), 0, 0)), (26, (.invokevirtual 288, 3, (0, 106, 1), 0, 1507)), (29, (.goto 18, 3, (47, 0, 0), 0, 0))],
  [(32, (.aload_n 0, 1, (0, 0, 0), 0, 0)), (33, (.getfield 26, 3, (11, 2, 0), 0, 577)), (36, (.aload_n 0, 1, (0, 0, 0), 0, 0)), (37, (.getfield 26, 3, (11, 2, 0), 0, 577)), (40, (.getfield 200, 3, (0, 5, 1), 0, 391)), (43, (.iload_n 3, 1, (0, 0, 0), 0, 0)), (44, (.invokevirtual 292, 3, (0, 105, 1), 0, 1511)), (47, (.ireturn, 1, (0, 0, 0), 0, 0))]]
set_option maxRecDepth 10000 in
def zp72 : List (List (Nat × ZI)) := [[(0, (.aload_n 0, 1, (0, 0, 0), 0, 0)), (1, (.iload_n 1, 1, (0, 0, 0), 0, 0)), (2, (.invokevirtual 138, 3, (0, 87, 0), 0, 1128)), (5, (.aload_n 0, 1, (0, 0, 0), 0, 0)), (6, (.getfield 26, 3, (11, 2, 0), 0, 577)), (9, (.aload_n 0, 1, (0, 0, 0), 0, 0)), (10, (.getfield 26, 3, (11, 2, 0), 0, 577)), (13, (.getfield 173, 3, (0, 4, 1), 0, 388)), (16, (.iload_n 1, 1, (0, 0, 0), 0, 0)), (17, (.bipush 8, 2, (0, 0, 0), 8, 0)), (19, (.imul, 1, (0, 0, 0), 0, 0)), (20, (.invokevirtual 292, 3, (0, 105, 1), 0, 1511)), (23, (.ireturn, 1, (0, 0, 0), 0, 0))]]
set_option maxRecDepth 10000 in
def zp73 : List (List (Nat × ZI)) := [[(0, (.aload_n 0, 1, (0, 0, 0), 0, 0)), (1, (.iload_n 1, 1, (0, 0, 0), 0, 0)), (2, (.invokevirtual 138, 3, (0, 87, 0), 0, 1128)), (5, (.aload_n 0, 1, (0, 0, 0), 0, 0)), (6, (.iload_n 2, 1, (0, 0, 0), 0, 0)), (7, (.invokevirtual 170, 3, (0, 88, 0), 0, 1190)), (10, (.aload_n 0, 1, (0, 0, 0), 0, 0)), (11, (.getfield 26, 3, (11, 2, 0), 0, 577)), (14, (.iload_n 1, 1, (0, 0, 0), 0, 0)), (15, (.invokevirtual 151, 3, (0, 92, 1), 0, 1148)), (18, (.i2l, 1, (0, 0, 0), 0, 0)), (19, (.lstore_n 3, 1, (0, 0, 0), 0, 0)), (20, (.lload_n 3, 1, (0, 0, 0), 0, 0)), (21, (.lconst 0, 1, (0, 0, 0), 0, 0)), (22, (.lcmp, 1, (0, 0, 0), 0, 0)), (23, (.ifCond .gt 5, 3, (28, 0, 0), 0, 0)), (26, (.iconst 0, 1, (0, 0, 0), 0, 0)), (27, (.ireturn, 1, (0, 0, 0), 0, 0)), (28, (.ldc2_w 295, 3, (0, 0, 0), 10000, 1529)), (31, (.aload_n 0, 1, (0, 0, 0), 0, 0))],
  [(32, (.getfield 26, 3, (11, 2, 0), 0, 577)), (35, (.getfield 173, 3, (0, 4, 1), 0, 388)), (38, (.iload_n 1, 1, (0, 0, 0), 0, 0)), (39, (.bipush 8, 2, (0, 0, 0), 8, 0)), (41, (.imul, 1, (0, 0, 0), 0, 0)), (42, (.iload_n 2, 1, (0, 0, 0), 0, 0)), (43, (.iadd, 1, (0, 0, 0), 0, 0)), (44, (.iaload, 1, (0, 0, 0), 0, 0)), (45, (.i2l, 1, (0, 0, 0), 0, 0)), (46, (.lmul, 1, (0, 0, 0), 0, 0)), (47, (.lload_n 3, 1, (0, 0, 0), 0, 0)), (48, (.ldiv, 1, (0, 0, 0), 0, 0)), (49, (.l2i, 1, (0, 0, 0), 0, 0)), (50, (.ireturn, 1, (0, 0, 0), 0, 0))]]
set_option maxRecDepth 10000 in
def zp74 : List (List (Nat × ZI)) := [[(0, (.aload_n 0, 1, (0, 0, 0), 0, 0)), (1, (.getfield 19, 3, (11, 1, 0), 0, 576)), (4, (.aload_n 0, 1, (0, 0, 0), 0, 0)), (5, (.getfield 26, 3, (11, 2, 0), 0, 577)), (8, (.invokevirtual 297, 3, (0, 123, 1), 0, 719)), (11, (.ireturn, 1, (0, 0, 0), 0, 0))]]
set_option maxRecDepth 10000 in
def zp75 : List (List (Nat × ZI)) := [[(0, (.iload_n 1, 1, (0, 0, 0), 0, 0)), (1, (.iconst 0, 1, (0, 0, 0), 0, 0)), (2, (.ldc 247, 2, (0, 0, 0), 2147483647, 1364)), (4, (.invokestatic 209, 3, (0, 89, 0), 0, 1242)), (7, (.aload_n 0, 1, (0, 0, 0), 0, 0)), (8, (.getfield 19, 3, (11, 1, 0), 0, 576)), (11, (.aload_n 0, 1, (0, 0, 0), 0, 0)), (12, (.getfield 26, 3, (11, 2, 0), 0, 577)), (15, (.iload_n 1, 1, (0, 0, 0), 0, 0)), (16, (.invokevirtual 301, 3, (0, 124, 1), 0, 1537)), (19, (.ireturn, 1, (0, 0, 0), 0, 0))]]
set_option maxRecDepth 10000 in
def zp76 : List (List (Nat × ZI)) := [[(0, (.aload_n 0, 1, (0, 0, 0), 0, 0)), (1, (.iload_n 1, 1, (0, 0, 0), 0, 0)), (2, (.invokevirtual 138, 3, (0, 87, 0), 0, 1128)), (5, (.aload_n 0, 1, (0, 0, 0), 0, 0)), (6, (.iload_n 2, 1, (0, 0, 0), 0, 0)), (7, (.invokevirtual 138, 3, (0, 87, 0), 0, 1128)), (10, (.aload_n 0, 1, (0, 0, 0), 0, 0)), (11, (.getfield 19, 3, (11, 1, 0), 0, 576)), (14, (.getfield 83, 3, (2, 0, 1), 0, 350)), (17, (.iload_n 1, 1, (0, 0, 0), 0, 0)), (18, (.iload_n 2, 1, (0, 0, 0), 0, 0)), (19, (.invokevirtual 304, 3, (0, 177, 1), 0, 1548)), (22, (.ireturn, 1, (0, 0, 0), 0, 0))]]
set_option maxRecDepth 10000 in
def zp77 : List (List (Nat × ZI)) := [[(0, (.aload_n 0, 1, (0, 0, 0), 0, 0)), (1, (.iload_n 1, 1, (0, 0, 0), 0, 0)), (2, (.invokevirtual 170, 3, (0, 88, 0), 0, 1190)), (5, (.aload_n 0, 1, (0, 0, 0), 0, 0)), (6, (.iload_n 2, 1, (0, 0, 0), 0, 0)), (7, (.invokevirtual 170, 3, (0, 88, 0), 0, 1190)), (10, (.iload_n 1, 1, (0, 0, 0), 0, 0)), (11, (.iload_n 2, 1, (0, 0, 0), 0, 0)), (12, (.if_icmp .ne 14, 3, (26, 0, 0), 0, 0)), (15, (.new 91, 3, (1, 0, 20), 1, 957)), (18, (.dup, 1, (0, 0, 0), 0, 0)), (19, (.ldc_w 307, 3, (2, 0, 0), 0, 1559)), (22, (.invokespecial 95, 3, (9, 0, 0), 0, 1000)), (25, (.athrow, 1, (0, 0, 0), 0, 0)), (26, (.aload_n 0, 1, (0, 0, 0), 0, 0)), (27, (.getfield 19, 3, (11, 1, 0), 0, 576)), (30, (.aload_n 0, 1, (0, 0, 0), 0, 0)), (31, (.getfield 26, 3, (11, 2, 0), 0, 577))],
  [(34, (.iload_n 1, 1, (0, 0, 0), 0, 0)), (35, (.iload_n 2, 1, (0, 0, 0), 0, 0)), (36, (.invokevirtual 309, 3, (0, 127, 1), 0, 1560)), (39, (.ireturn, 1, (0, 0, 0), 0, 0))]]
set_option maxRecDepth 10000 in
def zp78 : List (List (Nat × ZI)) := [[(0, (.aload_n 0, 1, (0, 0, 0), 0, 0)), (1, (.getfield 10, 3, (11, 0, 0), 0, 575)), (4, (.getfield 76, 3, (9, 1, 1), 0, 227)), (7, (.istore_n 1, 1, (0, 0, 0), 0, 0)), (8, (.aload_n 0, 1, (0, 0, 0), 0, 0)), (9, (.getfield 10, 3, (11, 0, 0), 0, 575)), (12, (.iconst 0, 1, (0, 0, 0), 0, 0)), (13, (.putfield 76, 3, (9, 1, 1), 0, 227)), (16, (.aload_n 0, 1, (0, 0, 0), 0, 0)), (17, (.getfield 10, 3, (11, 0, 0), 0, 575)), (20, (.iload_n 1, 1, (0, 0, 0), 0, 0)), (21, (.aload_n 0, 1, (0, 0, 0), 0, 0)), (22, (.getfield 19, 3, (11, 1, 0), 0, 576)), (25, (.getfield 83, 3, (2, 0, 1), 0, 350)), (28, (.getfield 313, 3, (8, 0, 1), 0, 268)), (31, (.invokevirtual 316, 3, (0, 186, 1), 0, 1571))],
  [(34, (.ifCond .ne 14, 3, (48, 0, 0), 0, 0)), (37, (.new 91, 3, (1, 0, 21), 1, 957)), (40, (.dup, 1, (0, 0, 0), 0, 0)), (41, (.ldc_w 320, 3, (2, 0, 0), 0, 1583)), (44, (.invokespecial 95, 3, (9, 0, 0), 0, 1000)), (47, (.athrow, 1, (0, 0, 0), 0, 0)), (48, (.aload_n 0, 1, (0, 0, 0), 0, 0)), (49, (.getfield 19, 3, (11, 1, 0), 0, 576)), (52, (.getfield 83, 3, (2, 0, 1), 0, 350)), (55, (.invokevirtual 322, 3, (0, 172, 1), 0, 727)), (58, (.istore_n 2, 1, (0, 0, 0), 0, 0)), (59, (.iconst 0, 1, (0, 0, 0), 0, 0)), (60, (.istore_n 3, 1, (0, 0, 0), 0, 0)), (61, (.iload_n 3, 1, (0, 0, 0), 0, 0)), (62, (.iconst 2, 1, (0, 0, 0), 2, 0)), (63, (.iadd, 1, (0, 0, 0), 0, 0))],
  [(64, (.iload_n 1, 1, (0, 0, 0), 0, 0)), (65, (.if_icmp .ge 39, 3, (104, 0, 0), 0, 0)), (68, (.iload_n 2, 1, (0, 0, 0), 0, 0)), (69, (.aload_n 0, 1, (0, 0, 0), 0, 0)), (70, (.getfield 19, 3, (11, 1, 0), 0, 576)), (73, (.aload_n 0, 1, (0, 0, 0), 0, 0)), (74, (.getfield 26, 3, (11, 2, 0), 0, 577)), (77, (.aload_n 0, 1, (0, 0, 0), 0, 0)), (78, (.getfield 10, 3, (11, 0, 0), 0, 575)), (81, (.iload_n 3, 1, (0, 0, 0), 0, 0)), (82, (.invokevirtual 326, 3, (0, 187, 1), 0, 1584)), (85, (.aload_n 0, 1, (0, 0, 0), 0, 0)), (86, (.getfield 10, 3, (11, 0, 0), 0, 575)), (89, (.iload_n 3, 1, (0, 0, 0), 0, 0)), (90, (.invokevirtual 329, 3, (0, 188, 1), 0, 1585)), (93, (.invokevirtual 332, 3, (0, 126, 1), 0, 1586))],
  [(96, (.iand, 1, (0, 0, 0), 0, 0)), (97, (.istore_n 2, 1, (0, 0, 0), 0, 0)), (98, (.iinc 3 3, 3, (0, 0, 0), 3, 0)), (101, (.goto (-40), 3, (61, 0, 0), 0, 0)), (104, (.iload_n 2, 1, (0, 0, 0), 0, 0)), (105, (.ireturn, 1, (0, 0, 0), 0, 0))]]
set_option maxRecDepth 10000 in
def zp79 : List (List (Nat × ZI)) := [[(0, (.aload_n 0, 1, (0, 0, 0), 0, 0)), (1, (.getfield 19, 3, (11, 1, 0), 0, 576)), (4, (.getfield 83, 3, (2, 0, 1), 0, 350)), (7, (.invokevirtual 322, 3, (0, 172, 1), 0, 727)), (10, (.istore_n 2, 1, (0, 0, 0), 0, 0)), (11, (.iconst 0, 1, (0, 0, 0), 0, 0)), (12, (.istore_n 3, 1, (0, 0, 0), 0, 0)), (13, (.iload_n 3, 1, (0, 0, 0), 0, 0)), (14, (.aload_n 0, 1, (0, 0, 0), 0, 0)), (15, (.getfield 19, 3, (11, 1, 0), 0, 576)), (18, (.getfield 83, 3, (2, 0, 1), 0, 350)), (21, (.getfield 313, 3, (8, 0, 1), 0, 268)), (24, (.if_icmp .ge 28, 3, (52, 0, 0), 0, 0)), (27, (.iload_n 1, 1, (0, 0, 0), 0, 0)), (28, (.iload_n 3, 1, (0, 0, 0), 0, 0)), (29, (.ishr, 1, (0, 0, 0), 0, 0)), (30, (.iconst 1, 1, (0, 0, 0), 1, 0)), (31, (.iand, 1, (0, 0, 0), 0, 0))],
  [(32, (.ifCond .eq 14, 3, (46, 0, 0), 0, 0)), (35, (.iload_n 2, 1, (0, 0, 0), 0, 0)), (36, (.aload_n 0, 1, (0, 0, 0), 0, 0)), (37, (.getfield 33, 3, (11, 3, 0), 0, 578)), (40, (.iload_n 3, 1, (0, 0, 0), 0, 0)), (41, (.invokevirtual 335, 3, (0, 111, 1), 0, 731)), (44, (.iand, 1, (0, 0, 0), 0, 0)), (45, (.istore_n 2, 1, (0, 0, 0), 0, 0)), (46, (.iinc 3 1, 3, (0, 0, 0), 1, 0)), (49, (.goto (-36), 3, (13, 0, 0), 0, 0)), (52, (.iload_n 2, 1, (0, 0, 0), 0, 0)), (53, (.ireturn, 1, (0, 0, 0), 0, 0))]]
set_option maxRecDepth 10000 in
def zp80 : List (List (Nat × ZI)) := [[(0, (.iload_n 2, 1, (0, 0, 0), 0, 0)), (1, (.ifCond .lt 8, 3, (9, 0, 0), 0, 0)), (4, (.iload_n 2, 1, (0, 0, 0), 0, 0)), (5, (.iconst 5, 1, (0, 0, 0), 5, 0)), (6, (.if_icmp .lt 14, 3, (20, 0, 0), 0, 0)), (9, (.new 165, 3, (1, 3, 22), 1, 1167)), (12, (.dup, 1, (0, 0, 0), 0, 0)), (13, (.ldc_w 338, 3, (2, 0, 0), 0, 1594)), (16, (.invokespecial 169, 3, (9, 0, 0), 0, 1177)), (19, (.athrow, 1, (0, 0, 0), 0, 0)), (20, (.aload_n 0, 1, (0, 0, 0), 0, 0)), (21, (.getfield 33, 3, (11, 3, 0), 0, 578)), (24, (.iload_n 1, 1, (0, 0, 0), 0, 0)), (25, (.iload_n 2, 1, (0, 0, 0), 0, 0)), (26, (.invokevirtual 340, 3, (0, 110, 1), 0, 1595)), (29, (.ireturn, 1, (0, 0, 0), 0, 0))]]
set_option maxRecDepth 10000 in
def zp81 : List (List (Nat × ZI)) := [[(0, (.aload_n 0, 1, (0, 0, 0), 0, 0)), (1, (.iload_n 1, 1, (0, 0, 0), 0, 0)), (2, (.invokevirtual 138, 3, (0, 87, 0), 0, 1128)), (5, (.iload_n 2, 1, (0, 0, 0), 0, 0)), (6, (.iconst 0, 1, (0, 0, 0), 0, 0)), (7, (.ldc 247, 2, (0, 0, 0), 2147483647, 1364)), (9, (.invokestatic 209, 3, (0, 89, 0), 0, 1242)), (12, (.aload_n 0, 1, (0, 0, 0), 0, 0)), (13, (.getfield 33, 3, (11, 3, 0), 0, 578)), (16, (.iload_n 1, 1, (0, 0, 0), 0, 0)), (17, (.iload_n 2, 1, (0, 0, 0), 0, 0)), (18, (.invokevirtual 343, 3, (0, 112, 1), 0, 1603)), (21, (.ireturn, 1, (0, 0, 0), 0, 0))]]
set_option maxRecDepth 10000 in
def zp82 : List (List (Nat × ZI)) := [[(0, (.aload_n 0, 1, (0, 0, 0), 0, 0)), (1, (.getfield 26, 3, (11, 2, 0), 0, 577)), (4, (.getfield 346, 3, (0, 12, 1), 0, 413)), (7, (.istore_n 2, 1, (0, 0, 0), 0, 0)), (8, (.aload_n 0, 1, (0, 0, 0), 0, 0)), (9, (.getfield 26, 3, (11, 2, 0), 0, 577)), (12, (.iload_n 1, 1, (0, 0, 0), 0, 0)), (13, (.putfield 346, 3, (0, 12, 1), 0, 413)), (16, (.iload_n 2, 1, (0, 0, 0), 0, 0)), (17, (.ireturn, 1, (0, 0, 0), 0, 0))]]
set_option maxRecDepth 10000 in
def zp83 : List (List (Nat × ZI)) := [[(0, (.aload_n 0, 1, (0, 0, 0), 0, 0)), (1, (.getfield 40, 3, (11, 4, 0), 0, 579)), (4, (.aload_n 0, 1, (0, 0, 0), 0, 0)), (5, (.getfield 26, 3, (11, 2, 0), 0, 577)), (8, (.aload_n 0, 1, (0, 0, 0), 0, 0)), (9, (.getfield 33, 3, (11, 3, 0), 0, 578)), (12, (.invokevirtual 349, 3, (0, 168, 1), 0, 750)), (15, (.ireturn, 1, (0, 0, 0), 0, 0))]]
set_option maxRecDepth 10000 in
def zp84 : List (List (Nat × ZI)) := [[(0, (.aload_n 0, 1, (0, 0, 0), 0, 0)), (1, (.getfield 47, 3, (11, 5, 0), 0, 580)), (4, (.aload_n 0, 1, (0, 0, 0), 0, 0)), (5, (.getfield 19, 3, (11, 1, 0), 0, 576)), (8, (.aload_n 0, 1, (0, 0, 0), 0, 0)), (9, (.getfield 26, 3, (11, 2, 0), 0, 577)), (12, (.aload_n 0, 1, (0, 0, 0), 0, 0)), (13, (.getfield 33, 3, (11, 3, 0), 0, 578)), (16, (.invokevirtual 353, 3, (0, 145, 1), 0, 764)), (19, (.return_, 1, (0, 0, 0), 0, 0))]]
set_option maxRecDepth 10000 in
def zp85 : List (List (Nat × ZI)) := [[(0, (.aload_n 0, 1, (0, 0, 0), 0, 0)), (1, (.getfield 47, 3, (11, 5, 0), 0, 580)), (4, (.getfield 357, 3, (4, 4, 1), 1, 501)), (7, (.ifCond .ne 5, 3, (12, 0, 0), 0, 0)), (10, (.iconst 0, 1, (0, 0, 0), 0, 0)), (11, (.ireturn, 1, (0, 0, 0), 0, 0)), (12, (.aload_n 0, 1, (0, 0, 0), 0, 0)), (13, (.getfield 47, 3, (11, 5, 0), 0, 580)), (16, (.aload_n 0, 1, (0, 0, 0), 0, 0)), (17, (.getfield 19, 3, (11, 1, 0), 0, 576)), (20, (.aload_n 0, 1, (0, 0, 0), 0, 0)), (21, (.getfield 26, 3, (11, 2, 0), 0, 577)), (24, (.aload_n 0, 1, (0, 0, 0), 0, 0)), (25, (.getfield 33, 3, (11, 3, 0), 0, 578)), (28, (.invokevirtual 361, 3, (0, 146, 1), 0, 784)), (31, (.aload_n 0, 1, (0, 0, 0), 0, 0))],
  [(32, (.getfield 40, 3, (11, 4, 0), 0, 579)), (35, (.invokevirtual 117, 3, (0, 166, 1), 0, 788)), (38, (.iconst 1, 1, (0, 0, 0), 1, 0)), (39, (.ireturn, 1, (0, 0, 0), 0, 0))]]
set_option maxRecDepth 10000 in
def zp86 : List (List (Nat × ZI)) := [[(0, (.iload_n 1, 1, (0, 0, 0), 0, 0)), (1, (.tableswitch 210 0 14 #[75, 86, 97, 108, 119, 130, 138, 146, 154, 162, 170, 178, 186, 194, 202], 75, (3, 0, 0), 0, 0))],
  [],
  [(76, (.aload_n 0, 1, (0, 0, 0), 0, 0)), (77, (.getfield 19, 3, (11, 1, 0), 0, 576)), (80, (.getfield 83, 3, (2, 0, 1), 0, 350)), (83, (.getfield 313, 3, (8, 0, 1), 0, 268)), (86, (.ireturn, 1, (0, 0, 0), 0, 0)), (87, (.aload_n 0, 1, (0, 0, 0), 0, 0)), (88, (.getfield 19, 3, (11, 1, 0), 0, 576)), (91, (.getfield 83, 3, (2, 0, 1), 0, 350)), (94, (.getfield 364, 3, (8, 1, 1), 0, 271))],
  [(97, (.ireturn, 1, (0, 0, 0), 0, 0)), (98, (.aload_n 0, 1, (0, 0, 0), 0, 0)), (99, (.getfield 19, 3, (11, 1, 0), 0, 576)), (102, (.getfield 83, 3, (2, 0, 1), 0, 350)), (105, (.getfield 367, 3, (8, 2, 1), 0, 276)), (108, (.ireturn, 1, (0, 0, 0), 0, 0)), (109, (.aload_n 0, 1, (0, 0, 0), 0, 0)), (110, (.getfield 19, 3, (11, 1, 0), 0, 576)), (113, (.getfield 83, 3, (2, 0, 1), 0, 350)), (116, (.getfield 98, 3, (8, 3, 1), 0, 278)), (119, (.ireturn, 1, (0, 0, 0), 0, 0)), (120, (.aload_n 0, 1, (0, 0, 0), 0, 0)), (121, (.getfield 19, 3, (11, 1, 0), 0, 576)), (124, (.getfield 125, 3, (2, 1, 1), 0, 354)), (127, (.getfield 135, 3, (5, 0, 1), 0, 322))],
  [(130, (.ireturn, 1, (0, 0, 0), 0, 0)), (131, (.aload_n 0, 1, (0, 0, 0), 0, 0)), (132, (.getfield 26, 3, (11, 2, 0), 0, 577)), (135, (.getfield 370, 3, (0, 10, 1), 0, 408)), (138, (.ireturn, 1, (0, 0, 0), 0, 0)), (139, (.aload_n 0, 1, (0, 0, 0), 0, 0)), (140, (.getfield 26, 3, (11, 2, 0), 0, 577)), (143, (.invokevirtual 373, 3, (0, 94, 1), 0, 796)), (146, (.ireturn, 1, (0, 0, 0), 0, 0)), (147, (.aload_n 0, 1, (0, 0, 0), 0, 0)), (148, (.getfield 26, 3, (11, 2, 0), 0, 577)), (151, (.invokevirtual 376, 3, (0, 95, 1), 0, 801)), (154, (.ireturn, 1, (0, 0, 0), 0, 0)), (155, (.aload_n 0, 1, (0, 0, 0), 0, 0)), (156, (.getfield 26, 3, (11, 2, 0), 0, 577)), (159, (.getfield 379, 3, (0, 6, 1), 0, 394))],
  [(162, (.ireturn, 1, (0, 0, 0), 0, 0)), (163, (.aload_n 0, 1, (0, 0, 0), 0, 0)), (164, (.getfield 26, 3, (11, 2, 0), 0, 577)), (167, (.getfield 382, 3, (0, 7, 1), 0, 396)), (170, (.ireturn, 1, (0, 0, 0), 0, 0)), (171, (.aload_n 0, 1, (0, 0, 0), 0, 0)), (172, (.getfield 26, 3, (11, 2, 0), 0, 577)), (175, (.getfield 385, 3, (0, 8, 1), 0, 400)), (178, (.ireturn, 1, (0, 0, 0), 0, 0)), (179, (.aload_n 0, 1, (0, 0, 0), 0, 0)), (180, (.getfield 26, 3, (11, 2, 0), 0, 577)), (183, (.getfield 388, 3, (0, 9, 1), 0, 405)), (186, (.ireturn, 1, (0, 0, 0), 0, 0)), (187, (.aload_n 0, 1, (0, 0, 0), 0, 0)), (188, (.getfield 26, 3, (11, 2, 0), 0, 577)), (191, (.getfield 221, 3, (0, 11, 1), 0, 410))],
  [(194, (.ireturn, 1, (0, 0, 0), 0, 0)), (195, (.aload_n 0, 1, (0, 0, 0), 0, 0)), (196, (.getfield 33, 3, (11, 3, 0), 0, 578)), (199, (.getfield 391, 3, (1, 1, 1), 0, 449)), (202, (.ireturn, 1, (0, 0, 0), 0, 0)), (203, (.aload_n 0, 1, (0, 0, 0), 0, 0)), (204, (.getfield 40, 3, (11, 4, 0), 0, 579)), (207, (.getfield 394, 3, (7, 2, 1), 0, 471)), (210, (.ireturn, 1, (0, 0, 0), 0, 0)), (211, (.iconst (-1), 1, (0, 0, 0), (-1), 0)), (212, (.ireturn, 1, (0, 0, 0), 0, 0))]]
set_option maxRecDepth 10000 in
def zp87 : List (List (Nat × ZI)) := [[(0, (.iload_n 1, 1, (0, 0, 0), 0, 0)), (1, (.ifCond .lt 17, 3, (18, 0, 0), 0, 0)), (4, (.iload_n 1, 1, (0, 0, 0), 0, 0)), (5, (.aload_n 0, 1, (0, 0, 0), 0, 0)), (6, (.getfield 19, 3, (11, 1, 0), 0, 576)), (9, (.getfield 83, 3, (2, 0, 1), 0, 350)), (12, (.getfield 313, 3, (8, 0, 1), 0, 268)), (15, (.if_icmp .lt 14, 3, (29, 0, 0), 0, 0)), (18, (.new 395, 3, (1, 2, 13), 1, 1132)), (21, (.dup, 1, (0, 0, 0), 0, 0)), (22, (.ldc_w 397, 3, (2, 0, 0), 0, 1141)), (25, (.invokespecial 399, 3, (9, 0, 0), 0, 1142)), (28, (.athrow, 1, (0, 0, 0), 0, 0)), (29, (.return_, 1, (0, 0, 0), 0, 0))]]
set_option maxRecDepth 10000 in
def zp88 : List (List (Nat × ZI)) := [[(0, (.iload_n 1, 1, (0, 0, 0), 0, 0)), (1, (.ifCond .lt 17, 3, (18, 0, 0), 0, 0)), (4, (.iload_n 1, 1, (0, 0, 0), 0, 0)), (5, (.aload_n 0, 1, (0, 0, 0), 0, 0)), (6, (.getfield 19, 3, (11, 1, 0), 0, 576)), (9, (.getfield 83, 3, (2, 0, 1), 0, 350)), (12, (.getfield 367, 3, (8, 2, 1), 0, 276)), (15, (.if_icmp .lt 14, 3, (29, 0, 0), 0, 0)), (18, (.new 395, 3, (1, 2, 15), 1, 1132)), (21, (.dup, 1, (0, 0, 0), 0, 0)), (22, (.ldc_w 400, 3, (2, 0, 0), 0, 1194)), (25, (.invokespecial 399, 3, (9, 0, 0), 0, 1142)), (28, (.athrow, 1, (0, 0, 0), 0, 0)), (29, (.return_, 1, (0, 0, 0), 0, 0))]]
set_option maxRecDepth 10000 in
def zp89 : List (List (Nat × ZI)) := [[(0, (.iload_n 0, 1, (0, 0, 0), 0, 0)), (1, (.iload_n 1, 1, (0, 0, 0), 0, 0)), (2, (.if_icmp .lt 8, 3, (10, 0, 0), 0, 0)), (5, (.iload_n 0, 1, (0, 0, 0), 0, 0)), (6, (.iload_n 2, 1, (0, 0, 0), 0, 0)), (7, (.if_icmp .le 14, 3, (21, 0, 0), 0, 0)), (10, (.new 91, 3, (1, 0, 18), 1, 957)), (13, (.dup, 1, (0, 0, 0), 0, 0)), (14, (.ldc_w 402, 3, (2, 0, 0), 0, 1245)), (17, (.invokespecial 95, 3, (9, 0, 0), 0, 1000)), (20, (.athrow, 1, (0, 0, 0), 0, 0)), (21, (.return_, 1, (0, 0, 0), 0, 0))]]
set_option maxRecDepth 10000 in
def zp90 : List (List (Nat × ZI)) := [[(0, (.aload_n 0, 1, (0, 0, 0), 0, 0)), (1, (.invokespecial 3, 3, (1, 0, 0), 0, 368)), (4, (.aload_n 0, 1, (0, 0, 0), 0, 0)), (5, (.bipush 12, 2, (0, 0, 0), 12, 0)), (7, (.newarray .int, 2, (0, 0, 0), 0, 251)), (9, (.putfield 9, 3, (0, 0, 0), 0, 369)), (12, (.aload_n 0, 1, (0, 0, 0), 0, 0)), (13, (.bipush 8, 2, (0, 0, 0), 8, 0)), (15, (.newarray .int, 2, (0, 0, 0), 0, 251)), (17, (.putfield 15, 3, (0, 1, 0), 0, 374)), (20, (.aload_n 0, 1, (0, 0, 0), 0, 0)), (21, (.bipush 8, 2, (0, 0, 0), 8, 0)), (23, (.newarray .int, 2, (0, 0, 0), 0, 251)), (25, (.putfield 18, 3, (0, 2, 0), 0, 378)), (28, (.aload_n 0, 1, (0, 0, 0), 0, 0)), (29, (.bipush 8, 2, (0, 0, 0), 8, 0)), (31, (.newarray .int, 2, (0, 0, 0), 0, 251))],
  [(33, (.putfield 21, 3, (0, 3, 0), 0, 383)), (36, (.aload_n 0, 1, (0, 0, 0), 0, 0)), (37, (.bipush 96, 2, (0, 0, 0), 96, 0)), (39, (.newarray .int, 2, (0, 0, 0), 0, 251)), (41, (.putfield 24, 3, (0, 4, 0), 0, 387)), (44, (.aload_n 0, 1, (0, 0, 0), 0, 0)), (45, (.bipush 64, 2, (0, 0, 0), 64, 0)), (47, (.newarray .int, 2, (0, 0, 0), 0, 251)), (49, (.putfield 27, 3, (0, 5, 0), 0, 390)), (52, (.aload_n 0, 1, (0, 0, 0), 0, 0)), (53, (.iconst 0, 1, (0, 0, 0), 0, 0)), (54, (.putfield 30, 3, (0, 6, 0), 0, 392)), (57, (.aload_n 0, 1, (0, 0, 0), 0, 0)), (58, (.iconst 0, 1, (0, 0, 0), 0, 0)), (59, (.putfield 34, 3, (0, 7, 0), 0, 395)), (62, (.aload_n 0, 1, (0, 0, 0), 0, 0)), (63, (.iconst 0, 1, (0, 0, 0), 0, 0))],
  [(64, (.putfield 37, 3, (0, 8, 0), 0, 397)), (67, (.aload_n 0, 1, (0, 0, 0), 0, 0)), (68, (.sipush 1000, 3, (0, 0, 0), 1000, 0)), (71, (.putfield 40, 3, (0, 9, 0), 0, 401)), (74, (.aload_n 0, 1, (0, 0, 0), 0, 0)), (75, (.iconst 0, 1, (0, 0, 0), 0, 0)), (76, (.putfield 43, 3, (0, 10, 0), 0, 406)), (79, (.aload_n 0, 1, (0, 0, 0), 0, 0)), (80, (.iconst 0, 1, (0, 0, 0), 0, 0)), (81, (.putfield 46, 3, (0, 11, 0), 0, 409)), (84, (.aload_n 0, 1, (0, 0, 0), 0, 0)), (85, (.iconst 1, 1, (0, 0, 0), 1, 0)), (86, (.putfield 49, 3, (0, 12, 0), 0, 411)), (89, (.return_, 1, (0, 0, 0), 0, 0))]]
set_option maxRecDepth 10000 in
def zp91 : List (List (Nat × ZI)) := [[(0, (.aload_n 1, 1, (0, 0, 0), 0, 0)), (1, (.getfield 9, 3, (0, 0, 0), 0, 369)), (4, (.iconst 0, 1, (0, 0, 0), 0, 0)), (5, (.aload_n 0, 1, (0, 0, 0), 0, 0)), (6, (.getfield 9, 3, (0, 0, 0), 0, 369)), (9, (.iconst 0, 1, (0, 0, 0), 0, 0)), (10, (.bipush 12, 2, (0, 0, 0), 12, 0)), (12, (.invokestatic 52, 3, (6, 0, 0), 0, 634)), (15, (.aload_n 1, 1, (0, 0, 0), 0, 0)), (16, (.getfield 15, 3, (0, 1, 0), 0, 374)), (19, (.iconst 0, 1, (0, 0, 0), 0, 0)), (20, (.aload_n 0, 1, (0, 0, 0), 0, 0)), (21, (.getfield 15, 3, (0, 1, 0), 0, 374)), (24, (.iconst 0, 1, (0, 0, 0), 0, 0)), (25, (.bipush 8, 2, (0, 0, 0), 8, 0)), (27, (.invokestatic 52, 3, (6, 0, 0), 0, 634)), (30, (.aload_n 1, 1, (0, 0, 0), 0, 0)), (31, (.getfield 18, 3, (0, 2, 0), 0, 378))],
  [(34, (.iconst 0, 1, (0, 0, 0), 0, 0)), (35, (.aload_n 0, 1, (0, 0, 0), 0, 0)), (36, (.getfield 18, 3, (0, 2, 0), 0, 378)), (39, (.iconst 0, 1, (0, 0, 0), 0, 0)), (40, (.bipush 8, 2, (0, 0, 0), 8, 0)), (42, (.invokestatic 52, 3, (6, 0, 0), 0, 634)), (45, (.aload_n 1, 1, (0, 0, 0), 0, 0)), (46, (.getfield 21, 3, (0, 3, 0), 0, 383)), (49, (.iconst 0, 1, (0, 0, 0), 0, 0)), (50, (.aload_n 0, 1, (0, 0, 0), 0, 0)), (51, (.getfield 21, 3, (0, 3, 0), 0, 383)), (54, (.iconst 0, 1, (0, 0, 0), 0, 0)), (55, (.bipush 8, 2, (0, 0, 0), 8, 0)), (57, (.invokestatic 52, 3, (6, 0, 0), 0, 634)), (60, (.aload_n 1, 1, (0, 0, 0), 0, 0)), (61, (.getfield 24, 3, (0, 4, 0), 0, 387))],
  [(64, (.iconst 0, 1, (0, 0, 0), 0, 0)), (65, (.aload_n 0, 1, (0, 0, 0), 0, 0)), (66, (.getfield 24, 3, (0, 4, 0), 0, 387)), (69, (.iconst 0, 1, (0, 0, 0), 0, 0)), (70, (.bipush 96, 2, (0, 0, 0), 96, 0)), (72, (.invokestatic 52, 3, (6, 0, 0), 0, 634)), (75, (.aload_n 1, 1, (0, 0, 0), 0, 0)), (76, (.getfield 27, 3, (0, 5, 0), 0, 390)), (79, (.iconst 0, 1, (0, 0, 0), 0, 0)), (80, (.aload_n 0, 1, (0, 0, 0), 0, 0)), (81, (.getfield 27, 3, (0, 5, 0), 0, 390)), (84, (.iconst 0, 1, (0, 0, 0), 0, 0)), (85, (.bipush 64, 2, (0, 0, 0), 64, 0)), (87, (.invokestatic 52, 3, (6, 0, 0), 0, 634)), (90, (.aload_n 0, 1, (0, 0, 0), 0, 0)), (91, (.aload_n 1, 1, (0, 0, 0), 0, 0)), (92, (.getfield 30, 3, (0, 6, 0), 0, 392)), (95, (.putfield 30, 3, (0, 6, 0), 0, 392))],
  [(98, (.aload_n 0, 1, (0, 0, 0), 0, 0)), (99, (.aload_n 1, 1, (0, 0, 0), 0, 0)), (100, (.getfield 34, 3, (0, 7, 0), 0, 395)), (103, (.putfield 34, 3, (0, 7, 0), 0, 395)), (106, (.aload_n 0, 1, (0, 0, 0), 0, 0)), (107, (.aload_n 1, 1, (0, 0, 0), 0, 0)), (108, (.getfield 37, 3, (0, 8, 0), 0, 397)), (111, (.putfield 37, 3, (0, 8, 0), 0, 397)), (114, (.aload_n 0, 1, (0, 0, 0), 0, 0)), (115, (.aload_n 1, 1, (0, 0, 0), 0, 0)), (116, (.getfield 40, 3, (0, 9, 0), 0, 401)), (119, (.putfield 40, 3, (0, 9, 0), 0, 401)), (122, (.aload_n 0, 1, (0, 0, 0), 0, 0)), (123, (.aload_n 1, 1, (0, 0, 0), 0, 0)), (124, (.getfield 43, 3, (0, 10, 0), 0, 406)), (127, (.putfield 43, 3, (0, 10, 0), 0, 406))],
  [(130, (.aload_n 0, 1, (0, 0, 0), 0, 0)), (131, (.aload_n 1, 1, (0, 0, 0), 0, 0)), (132, (.getfield 46, 3, (0, 11, 0), 0, 409)), (135, (.putfield 46, 3, (0, 11, 0), 0, 409)), (138, (.aload_n 0, 1, (0, 0, 0), 0, 0)), (139, (.aload_n 1, 1, (0, 0, 0), 0, 0)), (140, (.getfield 49, 3, (0, 12, 0), 0, 411)), (143, (.putfield 49, 3, (0, 12, 0), 0, 411)), (146, (.return_, 1, (0, 0, 0), 0, 0))]]
set_option maxRecDepth 10000 in
def zp92 : List (List (Nat × ZI)) := [[(0, (.iconst 0, 1, (0, 0, 0), 0, 0)), (1, (.istore_n 2, 1, (0, 0, 0), 0, 0)), (2, (.iload_n 1, 1, (0, 0, 0), 0, 0)), (3, (.bipush 8, 2, (0, 0, 0), 8, 0)), (5, (.imul, 1, (0, 0, 0), 0, 0)), (6, (.istore_n 3, 1, (0, 0, 0), 0, 0)), (7, (.iload_n 3, 1, (0, 0, 0), 0, 0)), (8, (.iload_n 1, 1, (0, 0, 0), 0, 0)), (9, (.bipush 8, 2, (0, 0, 0), 8, 0)), (11, (.imul, 1, (0, 0, 0), 0, 0)), (12, (.bipush 8, 2, (0, 0, 0), 8, 0)), (14, (.iadd, 1, (0, 0, 0), 0, 0)), (15, (.if_icmp .ge 18, 3, (33, 0, 0), 0, 0)), (18, (.iload_n 2, 1, (0, 0, 0), 0, 0)), (19, (.aload_n 0, 1, (0, 0, 0), 0, 0)), (20, (.getfield 24, 3, (0, 4, 0), 0, 387)), (23, (.iload_n 3, 1, (0, 0, 0), 0, 0)), (24, (.iaload, 1, (0, 0, 0), 0, 0)), (25, (.iadd, 1, (0, 0, 0), 0, 0)), (26, (.istore_n 2, 1, (0, 0, 0), 0, 0)), (27, (.iinc 3 1, 3, (0, 0, 0), 1, 0)), (30, (.goto (-23), 3, (7, 0, 0), 0, 0))],
  [(33, (.iload_n 2, 1, (0, 0, 0), 0, 0)), (34, (.ireturn, 1, (0, 0, 0), 0, 0))]]
set_option maxRecDepth 10000 in
def zp93 : List (List (Nat × ZI)) := [[(0, (.iconst 0, 1, (0, 0, 0), 0, 0)), (1, (.istore_n 2, 1, (0, 0, 0), 0, 0)), (2, (.iload_n 1, 1, (0, 0, 0), 0, 0)), (3, (.bipush 8, 2, (0, 0, 0), 8, 0)), (5, (.imul, 1, (0, 0, 0), 0, 0)), (6, (.istore_n 3, 1, (0, 0, 0), 0, 0)), (7, (.iload_n 3, 1, (0, 0, 0), 0, 0)), (8, (.iload_n 1, 1, (0, 0, 0), 0, 0)), (9, (.bipush 8, 2, (0, 0, 0), 8, 0)), (11, (.imul, 1, (0, 0, 0), 0, 0)), (12, (.bipush 8, 2, (0, 0, 0), 8, 0)), (14, (.iadd, 1, (0, 0, 0), 0, 0)), (15, (.if_icmp .ge 18, 3, (33, 0, 0), 0, 0)), (18, (.iload_n 2, 1, (0, 0, 0), 0, 0)), (19, (.aload_n 0, 1, (0, 0, 0), 0, 0)), (20, (.getfield 27, 3, (0, 5, 0), 0, 390)), (23, (.iload_n 3, 1, (0, 0, 0), 0, 0)), (24, (.iaload, 1, (0, 0, 0), 0, 0)), (25, (.iadd, 1, (0, 0, 0), 0, 0)), (26, (.istore_n 2, 1, (0, 0, 0), 0, 0)), (27, (.iinc 3 1, 3, (0, 0, 0), 1, 0)), (30, (.goto (-23), 3, (7, 0, 0), 0, 0))],
  [(33, (.iload_n 2, 1, (0, 0, 0), 0, 0)), (34, (.ireturn, 1, (0, 0, 0), 0, 0))]]
set_option maxRecDepth 10000 in
def zp94 : List (List (Nat × ZI)) := [[(0, (.iconst 0, 1, (0, 0, 0), 0, 0)), (1, (.istore_n 1, 1, (0, 0, 0), 0, 0)), (2, (.iconst 0, 1, (0, 0, 0), 0, 0)), (3, (.istore_n 2, 1, (0, 0, 0), 0, 0)), (4, (.iload_n 2, 1, (0, 0, 0), 0, 0)), (5, (.bipush 12, 2, (0, 0, 0), 12, 0)), (7, (.if_icmp .ge 17, 3, (24, 0, 0), 0, 0)), (10, (.iload_n 1, 1, (0, 0, 0), 0, 0)), (11, (.aload_n 0, 1, (0, 0, 0), 0, 0)), (12, (.iload_n 2, 1, (0, 0, 0), 0, 0)), (13, (.invokevirtual 58, 3, (0, 92, 0), 0, 800)), (16, (.iadd, 1, (0, 0, 0), 0, 0)), (17, (.istore_n 1, 1, (0, 0, 0), 0, 0)), (18, (.iinc 2 1, 3, (0, 0, 0), 1, 0)), (21, (.goto (-17), 3, (4, 0, 0), 0, 0)), (24, (.iload_n 1, 1, (0, 0, 0), 0, 0)), (25, (.ireturn, 1, (0, 0, 0), 0, 0))]]
set_option maxRecDepth 10000 in
def zp95 : List (List (Nat × ZI)) := [[(0, (.iconst 0, 1, (0, 0, 0), 0, 0)), (1, (.istore_n 1, 1, (0, 0, 0), 0, 0)), (2, (.iconst 0, 1, (0, 0, 0), 0, 0)), (3, (.istore_n 2, 1, (0, 0, 0), 0, 0)), (4, (.iload_n 2, 1, (0, 0, 0), 0, 0)), (5, (.bipush 8, 2, (0, 0, 0), 8, 0)), (7, (.if_icmp .ge 17, 3, (24, 0, 0), 0, 0)), (10, (.iload_n 1, 1, (0, 0, 0), 0, 0)), (11, (.aload_n 0, 1, (0, 0, 0), 0, 0)), (12, (.iload_n 2, 1, (0, 0, 0), 0, 0)), (13, (.invokevirtual 62, 3, (0, 93, 0), 0, 679)), (16, (.iadd, 1, (0, 0, 0), 0, 0)), (17, (.istore_n 1, 1, (0, 0, 0), 0, 0)), (18, (.iinc 2 1, 3, (0, 0, 0), 1, 0)), (21, (.goto (-17), 3, (4, 0, 0), 0, 0)), (24, (.iload_n 1, 1, (0, 0, 0), 0, 0)), (25, (.ireturn, 1, (0, 0, 0), 0, 0))]]
set_option maxRecDepth 10000 in
def zp96 : List (List (Nat × ZI)) := [[(0, (.iload_n 0, 1, (0, 0, 0), 0, 0)), (1, (.i2l, 1, (0, 0, 0), 0, 0)), (2, (.iload_n 1, 1, (0, 0, 0), 0, 0)), (3, (.i2l, 1, (0, 0, 0), 0, 0)), (4, (.lmul, 1, (0, 0, 0), 0, 0)), (5, (.ldc2_w 65, 3, (0, 0, 0), 100, 693)), (8, (.ldiv, 1, (0, 0, 0), 0, 0)), (9, (.l2i, 1, (0, 0, 0), 0, 0)), (10, (.ireturn, 1, (0, 0, 0), 0, 0))]]
set_option maxRecDepth 10000 in
def zp97 : List (List (Nat × ZI)) := [[(0, (.aload_n 0, 1, (0, 0, 0), 0, 0)), (1, (.ldc 67, 2, (0, 0, 0), 1103515245, 685)), (3, (.aload_n 0, 1, (0, 0, 0), 0, 0)), (4, (.getfield 49, 3, (0, 12, 0), 0, 411)), (7, (.imul, 1, (0, 0, 0), 0, 0)), (8, (.sipush 12345, 3, (0, 0, 0), 12345, 0)), (11, (.iadd, 1, (0, 0, 0), 0, 0)), (12, (.putfield 49, 3, (0, 12, 0), 0, 411)), (15, (.aload_n 0, 1, (0, 0, 0), 0, 0)), (16, (.getfield 49, 3, (0, 12, 0), 0, 411)), (19, (.bipush 16, 2, (0, 0, 0), 16, 0)), (21, (.iushr, 1, (0, 0, 0), 0, 0)), (22, (.sipush 32767, 3, (0, 0, 0), 32767, 0)), (25, (.iand, 1, (0, 0, 0), 0, 0)), (26, (.ireturn, 1, (0, 0, 0), 0, 0))]]
set_option maxRecDepth 10000 in
def zp98 : List (List (Nat × ZI)) := [[(0, (.iload_n 2, 1, (0, 0, 0), 0, 0)), (1, (.sipush 9999, 3, (0, 0, 0), 9999, 0)), (4, (.aload_n 0, 1, (0, 0, 0), 0, 0)), (5, (.iload_n 1, 1, (0, 0, 0), 0, 0)), (6, (.invokevirtual 62, 3, (0, 93, 0), 0, 679)), (9, (.isub, 1, (0, 0, 0), 0, 0)), (10, (.invokestatic 68, 3, (2, 0, 0), 0, 680)), (13, (.istore_n 3, 1, (0, 0, 0), 0, 0)), (14, (.aload_n 0, 1, (0, 0, 0), 0, 0)), (15, (.getfield 27, 3, (0, 5, 0), 0, 390)), (18, (.iload_n 1, 1, (0, 0, 0), 0, 0)), (19, (.bipush 8, 2, (0, 0, 0), 8, 0)), (21, (.imul, 1, (0, 0, 0), 0, 0)), (22, (.iload_n 1, 1, (0, 0, 0), 0, 0)), (23, (.iadd, 1, (0, 0, 0), 0, 0)), (24, (.dup2, 1, (0, 0, 0), 0, 0)), (25, (.iaload, 1, (0, 0, 0), 0, 0)), (26, (.iload_n 3, 1, (0, 0, 0), 0, 0)), (27, (.iadd, 1, (0, 0, 0), 0, 0)), (28, (.iastore, 1, (0, 0, 0), 0, 0)), (29, (.aload_n 0, 1, (0, 0, 0), 0, 0)), (30, (.dup, 1, (0, 0, 0), 0, 0)), (31, (.getfield 34, 3, (0, 7, 0), 0, 395))],
  [(34, (.iload_n 3, 1, (0, 0, 0), 0, 0)), (35, (.iadd, 1, (0, 0, 0), 0, 0)), (36, (.putfield 34, 3, (0, 7, 0), 0, 395)), (39, (.return_, 1, (0, 0, 0), 0, 0))]]
set_option maxRecDepth 10000 in
def zp99 : List (List (Nat × ZI)) := [[(0, (.aload_n 0, 1, (0, 0, 0), 0, 0)), (1, (.getfield 24, 3, (0, 4, 0), 0, 387)), (4, (.iload_n 1, 1, (0, 0, 0), 0, 0)), (5, (.bipush 8, 2, (0, 0, 0), 8, 0)), (7, (.imul, 1, (0, 0, 0), 0, 0)), (8, (.iload_n 2, 1, (0, 0, 0), 0, 0)), (9, (.iadd, 1, (0, 0, 0), 0, 0)), (10, (.dup2, 1, (0, 0, 0), 0, 0)), (11, (.iaload, 1, (0, 0, 0), 0, 0)), (12, (.iload_n 3, 1, (0, 0, 0), 0, 0)), (13, (.iadd, 1, (0, 0, 0), 0, 0)), (14, (.iastore, 1, (0, 0, 0), 0, 0)), (15, (.aload_n 0, 1, (0, 0, 0), 0, 0)), (16, (.dup, 1, (0, 0, 0), 0, 0)), (17, (.getfield 34, 3, (0, 7, 0), 0, 395)), (20, (.iload_n 3, 1, (0, 0, 0), 0, 0)), (21, (.iadd, 1, (0, 0, 0), 0, 0)), (22, (.putfield 34, 3, (0, 7, 0), 0, 395)), (25, (.return_, 1, (0, 0, 0), 0, 0))]]
set_option maxRecDepth 10000 in
def zp100 : List (List (Nat × ZI)) := [[(0, (.iconst 0, 1, (0, 0, 0), 0, 0)), (1, (.istore_n 3, 1, (0, 0, 0), 0, 0)), (2, (.iconst 0, 1, (0, 0, 0), 0, 0)), (3, (.istore 4, 2, (0, 0, 0), 0, 0)), (5, (.iload 4, 2, (0, 0, 0), 0, 0)), (7, (.bipush 8, 2, (0, 0, 0), 8, 0)), (9, (.if_icmp .ge 49, 3, (58, 0, 0), 0, 0)), (12, (.aload_n 0, 1, (0, 0, 0), 0, 0)), (13, (.getfield 27, 3, (0, 5, 0), 0, 390)), (16, (.iload_n 1, 1, (0, 0, 0), 0, 0)), (17, (.bipush 8, 2, (0, 0, 0), 8, 0)), (19, (.imul, 1, (0, 0, 0), 0, 0)), (20, (.iload 4, 2, (0, 0, 0), 0, 0)), (22, (.iadd, 1, (0, 0, 0), 0, 0)), (23, (.iaload, 1, (0, 0, 0), 0, 0)), (24, (.iload_n 2, 1, (0, 0, 0), 0, 0)), (25, (.invokestatic 74, 3, (0, 96, 0), 0, 690)), (28, (.istore 5, 2, (0, 0, 0), 0, 0)), (30, (.aload_n 0, 1, (0, 0, 0), 0, 0)), (31, (.getfield 27, 3, (0, 5, 0), 0, 390))],
  [(34, (.iload_n 1, 1, (0, 0, 0), 0, 0)), (35, (.bipush 8, 2, (0, 0, 0), 8, 0)), (37, (.imul, 1, (0, 0, 0), 0, 0)), (38, (.iload 4, 2, (0, 0, 0), 0, 0)), (40, (.iadd, 1, (0, 0, 0), 0, 0)), (41, (.dup2, 1, (0, 0, 0), 0, 0)), (42, (.iaload, 1, (0, 0, 0), 0, 0)), (43, (.iload 5, 2, (0, 0, 0), 0, 0)), (45, (.isub, 1, (0, 0, 0), 0, 0)), (46, (.iastore, 1, (0, 0, 0), 0, 0)), (47, (.iload_n 3, 1, (0, 0, 0), 0, 0)), (48, (.iload 5, 2, (0, 0, 0), 0, 0)), (50, (.iadd, 1, (0, 0, 0), 0, 0)), (51, (.istore_n 3, 1, (0, 0, 0), 0, 0)), (52, (.iinc 4 1, 3, (0, 0, 0), 1, 0)), (55, (.goto (-50), 3, (5, 0, 0), 0, 0)), (58, (.aload_n 0, 1, (0, 0, 0), 0, 0)), (59, (.dup, 1, (0, 0, 0), 0, 0)), (60, (.getfield 30, 3, (0, 6, 0), 0, 392)), (63, (.iload_n 3, 1, (0, 0, 0), 0, 0))],
  [(64, (.iadd, 1, (0, 0, 0), 0, 0)), (65, (.putfield 30, 3, (0, 6, 0), 0, 392)), (68, (.iload_n 3, 1, (0, 0, 0), 0, 0)), (69, (.ireturn, 1, (0, 0, 0), 0, 0))]]
set_option maxRecDepth 10000 in
def zp101 : List (List (Nat × ZI)) := [[(0, (.aload_n 0, 1, (0, 0, 0), 0, 0)), (1, (.iload_n 1, 1, (0, 0, 0), 0, 0)), (2, (.bipush 50, 2, (0, 0, 0), 50, 0)), (4, (.invokevirtual 77, 3, (0, 100, 0), 0, 1277)), (7, (.ireturn, 1, (0, 0, 0), 0, 0))]]
set_option maxRecDepth 10000 in
def zp102 : List (List (Nat × ZI)) := [[(0, (.iconst 0, 1, (0, 0, 0), 0, 0)), (1, (.istore_n 3, 1, (0, 0, 0), 0, 0)), (2, (.iconst 0, 1, (0, 0, 0), 0, 0)), (3, (.istore 4, 2, (0, 0, 0), 0, 0)), (5, (.iload 4, 2, (0, 0, 0), 0, 0)), (7, (.bipush 8, 2, (0, 0, 0), 8, 0)), (9, (.if_icmp .ge 49, 3, (58, 0, 0), 0, 0)), (12, (.aload_n 0, 1, (0, 0, 0), 0, 0)), (13, (.getfield 24, 3, (0, 4, 0), 0, 387)), (16, (.iload_n 1, 1, (0, 0, 0), 0, 0)), (17, (.bipush 8, 2, (0, 0, 0), 8, 0)), (19, (.imul, 1, (0, 0, 0), 0, 0)), (20, (.iload 4, 2, (0, 0, 0), 0, 0)), (22, (.iadd, 1, (0, 0, 0), 0, 0)), (23, (.iaload, 1, (0, 0, 0), 0, 0)), (24, (.iload_n 2, 1, (0, 0, 0), 0, 0)), (25, (.invokestatic 74, 3, (0, 96, 0), 0, 690)), (28, (.istore 5, 2, (0, 0, 0), 0, 0)), (30, (.aload_n 0, 1, (0, 0, 0), 0, 0)), (31, (.getfield 24, 3, (0, 4, 0), 0, 387))],
  [(34, (.iload_n 1, 1, (0, 0, 0), 0, 0)), (35, (.bipush 8, 2, (0, 0, 0), 8, 0)), (37, (.imul, 1, (0, 0, 0), 0, 0)), (38, (.iload 4, 2, (0, 0, 0), 0, 0)), (40, (.iadd, 1, (0, 0, 0), 0, 0)), (41, (.dup2, 1, (0, 0, 0), 0, 0)), (42, (.iaload, 1, (0, 0, 0), 0, 0)), (43, (.iload 5, 2, (0, 0, 0), 0, 0)), (45, (.isub, 1, (0, 0, 0), 0, 0)), (46, (.iastore, 1, (0, 0, 0), 0, 0)), (47, (.iload_n 3, 1, (0, 0, 0), 0, 0)), (48, (.iload 5, 2, (0, 0, 0), 0, 0)), (50, (.iadd, 1, (0, 0, 0), 0, 0)), (51, (.istore_n 3, 1, (0, 0, 0), 0, 0)), (52, (.iinc 4 1, 3, (0, 0, 0), 1, 0)), (55, (.goto (-50), 3, (5, 0, 0), 0, 0)), (58, (.aload_n 0, 1, (0, 0, 0), 0, 0)), (59, (.dup, 1, (0, 0, 0), 0, 0)), (60, (.getfield 30, 3, (0, 6, 0), 0, 392)), (63, (.iload_n 3, 1, (0, 0, 0), 0, 0))],
  [(64, (.iadd, 1, (0, 0, 0), 0, 0)), (65, (.putfield 30, 3, (0, 6, 0), 0, 392)), (68, (.iload_n 3, 1, (0, 0, 0), 0, 0)), (69, (.ireturn, 1, (0, 0, 0), 0, 0))]]
set_option maxRecDepth 10000 in
def zp103 : List (List (Nat × ZI)) := [[(0, (.iconst 0, 1, (0, 0, 0), 0, 0)), (1, (.istore 4, 2, (0, 0, 0), 0, 0)), (3, (.iconst 0, 1, (0, 0, 0), 0, 0)), (4, (.istore 5, 2, (0, 0, 0), 0, 0)), (6, (.iload 5, 2, (0, 0, 0), 0, 0)), (8, (.bipush 8, 2, (0, 0, 0), 8, 0)), (10, (.if_icmp .ge 68, 3, (78, 0, 0), 0, 0)), (13, (.aload_n 0, 1, (0, 0, 0), 0, 0)), (14, (.getfield 27, 3, (0, 5, 0), 0, 390)), (17, (.iload_n 1, 1, (0, 0, 0), 0, 0)), (18, (.bipush 8, 2, (0, 0, 0), 8, 0)), (20, (.imul, 1, (0, 0, 0), 0, 0)), (21, (.iload 5, 2, (0, 0, 0), 0, 0)), (23, (.iadd, 1, (0, 0, 0), 0, 0)), (24, (.iaload, 1, (0, 0, 0), 0, 0)), (25, (.iload_n 3, 1, (0, 0, 0), 0, 0)), (26, (.invokestatic 74, 3, (0, 96, 0), 0, 690)), (29, (.istore 6, 2, (0, 0, 0), 0, 0)), (31, (.aload_n 0, 1, (0, 0, 0), 0, 0))],
  [(32, (.getfield 27, 3, (0, 5, 0), 0, 390)), (35, (.iload_n 1, 1, (0, 0, 0), 0, 0)), (36, (.bipush 8, 2, (0, 0, 0), 8, 0)), (38, (.imul, 1, (0, 0, 0), 0, 0)), (39, (.iload 5, 2, (0, 0, 0), 0, 0)), (41, (.iadd, 1, (0, 0, 0), 0, 0)), (42, (.dup2, 1, (0, 0, 0), 0, 0)), (43, (.iaload, 1, (0, 0, 0), 0, 0)), (44, (.iload 6, 2, (0, 0, 0), 0, 0)), (46, (.isub, 1, (0, 0, 0), 0, 0)), (47, (.iastore, 1, (0, 0, 0), 0, 0)), (48, (.aload_n 0, 1, (0, 0, 0), 0, 0)), (49, (.getfield 24, 3, (0, 4, 0), 0, 387)), (52, (.iload_n 2, 1, (0, 0, 0), 0, 0)), (53, (.bipush 8, 2, (0, 0, 0), 8, 0)), (55, (.imul, 1, (0, 0, 0), 0, 0)), (56, (.iload 5, 2, (0, 0, 0), 0, 0)), (58, (.iadd, 1, (0, 0, 0), 0, 0)), (59, (.dup2, 1, (0, 0, 0), 0, 0)), (60, (.iaload, 1, (0, 0, 0), 0, 0)), (61, (.iload 6, 2, (0, 0, 0), 0, 0)), (63, (.iadd, 1, (0, 0, 0), 0, 0))],
  [(64, (.iastore, 1, (0, 0, 0), 0, 0)), (65, (.iload 4, 2, (0, 0, 0), 0, 0)), (67, (.iload 6, 2, (0, 0, 0), 0, 0)), (69, (.iadd, 1, (0, 0, 0), 0, 0)), (70, (.istore 4, 2, (0, 0, 0), 0, 0)), (72, (.iinc 5 1, 3, (0, 0, 0), 1, 0)), (75, (.goto (-69), 3, (6, 0, 0), 0, 0)), (78, (.iload 4, 2, (0, 0, 0), 0, 0)), (80, (.ireturn, 1, (0, 0, 0), 0, 0))]]
set_option maxRecDepth 10000 in
def zp104 : List (List (Nat × ZI)) := [[(0, (.aload_n 0, 1, (0, 0, 0), 0, 0)), (1, (.iload_n 1, 1, (0, 0, 0), 0, 0)), (2, (.invokevirtual 62, 3, (0, 93, 0), 0, 679)), (5, (.i2l, 1, (0, 0, 0), 0, 0)), (6, (.lstore 4, 2, (0, 0, 0), 0, 0)), (8, (.iconst 0, 1, (0, 0, 0), 0, 0)), (9, (.istore 6, 2, (0, 0, 0), 0, 0)), (11, (.iload 6, 2, (0, 0, 0), 0, 0)), (13, (.bipush 8, 2, (0, 0, 0), 8, 0)), (15, (.if_icmp .ge 31, 3, (46, 0, 0), 0, 0)), (18, (.lload 4, 2, (0, 0, 0), 0, 0)), (20, (.aload_n 0, 1, (0, 0, 0), 0, 0)), (21, (.getfield 24, 3, (0, 4, 0), 0, 387)), (24, (.iload_n 2, 1, (0, 0, 0), 0, 0)), (25, (.bipush 8, 2, (0, 0, 0), 8, 0)), (27, (.imul, 1, (0, 0, 0), 0, 0)), (28, (.iload 6, 2, (0, 0, 0), 0, 0)), (30, (.iadd, 1, (0, 0, 0), 0, 0)), (31, (.iaload, 1, (0, 0, 0), 0, 0))],
  [(32, (.iload_n 3, 1, (0, 0, 0), 0, 0)), (33, (.invokestatic 74, 3, (0, 96, 0), 0, 690)), (36, (.i2l, 1, (0, 0, 0), 0, 0)), (37, (.ladd, 1, (0, 0, 0), 0, 0)), (38, (.lstore 4, 2, (0, 0, 0), 0, 0)), (40, (.iinc 6 1, 3, (0, 0, 0), 1, 0)), (43, (.goto (-32), 3, (11, 0, 0), 0, 0)), (46, (.lload 4, 2, (0, 0, 0), 0, 0)), (48, (.ldc2_w 80, 3, (0, 0, 0), 9999, 702)), (51, (.lcmp, 1, (0, 0, 0), 0, 0)), (52, (.ifCond .le 4, 3, (56, 0, 0), 0, 0)), (55, (.return_, 1, (0, 0, 0), 0, 0)), (56, (.iconst 0, 1, (0, 0, 0), 0, 0)), (57, (.istore 6, 2, (0, 0, 0), 0, 0)), (59, (.iload 6, 2, (0, 0, 0), 0, 0)), (61, (.bipush 8, 2, (0, 0, 0), 8, 0)), (63, (.if_icmp .ge 61, 3, (124, 0, 0), 0, 0))],
  [(66, (.aload_n 0, 1, (0, 0, 0), 0, 0)), (67, (.getfield 24, 3, (0, 4, 0), 0, 387)), (70, (.iload_n 2, 1, (0, 0, 0), 0, 0)), (71, (.bipush 8, 2, (0, 0, 0), 8, 0)), (73, (.imul, 1, (0, 0, 0), 0, 0)), (74, (.iload 6, 2, (0, 0, 0), 0, 0)), (76, (.iadd, 1, (0, 0, 0), 0, 0)), (77, (.iaload, 1, (0, 0, 0), 0, 0)), (78, (.iload_n 3, 1, (0, 0, 0), 0, 0)), (79, (.invokestatic 74, 3, (0, 96, 0), 0, 690)), (82, (.istore 7, 2, (0, 0, 0), 0, 0)), (84, (.aload_n 0, 1, (0, 0, 0), 0, 0)), (85, (.getfield 24, 3, (0, 4, 0), 0, 387)), (88, (.iload_n 2, 1, (0, 0, 0), 0, 0)), (89, (.bipush 8, 2, (0, 0, 0), 8, 0)), (91, (.imul, 1, (0, 0, 0), 0, 0)), (92, (.iload 6, 2, (0, 0, 0), 0, 0)), (94, (.iadd, 1, (0, 0, 0), 0, 0)), (95, (.dup2, 1, (0, 0, 0), 0, 0))],
  [(96, (.iaload, 1, (0, 0, 0), 0, 0)), (97, (.iload 7, 2, (0, 0, 0), 0, 0)), (99, (.isub, 1, (0, 0, 0), 0, 0)), (100, (.iastore, 1, (0, 0, 0), 0, 0)), (101, (.aload_n 0, 1, (0, 0, 0), 0, 0)), (102, (.getfield 27, 3, (0, 5, 0), 0, 390)), (105, (.iload_n 1, 1, (0, 0, 0), 0, 0)), (106, (.bipush 8, 2, (0, 0, 0), 8, 0)), (108, (.imul, 1, (0, 0, 0), 0, 0)), (109, (.iload 6, 2, (0, 0, 0), 0, 0)), (111, (.iadd, 1, (0, 0, 0), 0, 0)), (112, (.dup2, 1, (0, 0, 0), 0, 0)), (113, (.iaload, 1, (0, 0, 0), 0, 0)), (114, (.iload 7, 2, (0, 0, 0), 0, 0)), (116, (.iadd, 1, (0, 0, 0), 0, 0)), (117, (.iastore, 1, (0, 0, 0), 0, 0)), (118, (.iinc 6 1, 3, (0, 0, 0), 1, 0)), (121, (.goto (-62), 3, (59, 0, 0), 0, 0)), (124, (.return_, 1, (0, 0, 0), 0, 0))]]
set_option maxRecDepth 10000 in
def zp105 : List (List (Nat × ZI)) := [[(0, (.iconst (-1), 1, (0, 0, 0), (-1), 0)), (1, (.istore_n 3, 1, (0, 0, 0), 0, 0)), (2, (.iconst 0, 1, (0, 0, 0), 0, 0)), (3, (.istore 4, 2, (0, 0, 0), 0, 0)), (5, (.iconst 0, 1, (0, 0, 0), 0, 0)), (6, (.istore 5, 2, (0, 0, 0), 0, 0)), (8, (.iload 5, 2, (0, 0, 0), 0, 0)), (10, (.bipush 8, 2, (0, 0, 0), 8, 0)), (12, (.if_icmp .ge 31, 3, (43, 0, 0), 0, 0)), (15, (.aload_n 1, 1, (0, 0, 0), 0, 0)), (16, (.iload_n 2, 1, (0, 0, 0), 0, 0)), (17, (.iload 5, 2, (0, 0, 0), 0, 0)), (19, (.iadd, 1, (0, 0, 0), 0, 0)), (20, (.iaload, 1, (0, 0, 0), 0, 0)), (21, (.iload 4, 2, (0, 0, 0), 0, 0)), (23, (.if_icmp .le 14, 3, (37, 0, 0), 0, 0)), (26, (.aload_n 1, 1, (0, 0, 0), 0, 0)), (27, (.iload_n 2, 1, (0, 0, 0), 0, 0)), (28, (.iload 5, 2, (0, 0, 0), 0, 0)), (30, (.iadd, 1, (0, 0, 0), 0, 0)), (31, (.iaload, 1, (0, 0, 0), 0, 0))],
  [(32, (.istore 4, 2, (0, 0, 0), 0, 0)), (34, (.iload 5, 2, (0, 0, 0), 0, 0)), (36, (.istore_n 3, 1, (0, 0, 0), 0, 0)), (37, (.iinc 5 1, 3, (0, 0, 0), 1, 0)), (40, (.goto (-32), 3, (8, 0, 0), 0, 0)), (43, (.iload_n 3, 1, (0, 0, 0), 0, 0)), (44, (.ireturn, 1, (0, 0, 0), 0, 0))]]
set_option maxRecDepth 10000 in
def zp106 : List (List (Nat × ZI)) := [[(0, (.iconst 0, 1, (0, 0, 0), 0, 0)), (1, (.istore_n 3, 1, (0, 0, 0), 0, 0)), (2, (.iconst 0, 1, (0, 0, 0), 0, 0)), (3, (.istore 4, 2, (0, 0, 0), 0, 0)), (5, (.iload 4, 2, (0, 0, 0), 0, 0)), (7, (.bipush 8, 2, (0, 0, 0), 8, 0)), (9, (.if_icmp .ge 21, 3, (30, 0, 0), 0, 0)), (12, (.aload_n 1, 1, (0, 0, 0), 0, 0)), (13, (.iload_n 2, 1, (0, 0, 0), 0, 0)), (14, (.iload 4, 2, (0, 0, 0), 0, 0)), (16, (.iadd, 1, (0, 0, 0), 0, 0)), (17, (.iaload, 1, (0, 0, 0), 0, 0)), (18, (.ifCond .le 6, 3, (24, 0, 0), 0, 0)), (21, (.iinc 3 1, 3, (0, 0, 0), 1, 0)), (24, (.iinc 4 1, 3, (0, 0, 0), 1, 0)), (27, (.goto (-22), 3, (5, 0, 0), 0, 0)), (30, (.iload_n 3, 1, (0, 0, 0), 0, 0)), (31, (.ireturn, 1, (0, 0, 0), 0, 0))]]
set_option maxRecDepth 10000 in
def zp107 : List (List (Nat × ZI)) := [[(0, (.aload_n 0, 1, (0, 0, 0), 0, 0)), (1, (.invokespecial 3, 3, (1, 0, 0), 0, 446)), (4, (.aload_n 0, 1, (0, 0, 0), 0, 0)), (5, (.sipush 400, 3, (0, 0, 0), 400, 0)), (8, (.newarray .int, 2, (0, 0, 0), 0, 251)), (10, (.putfield 11, 3, (1, 0, 0), 0, 447)), (13, (.aload_n 0, 1, (0, 0, 0), 0, 0)), (14, (.iconst 0, 1, (0, 0, 0), 0, 0)), (15, (.putfield 15, 3, (1, 1, 0), 0, 448)), (18, (.aload_n 0, 1, (0, 0, 0), 0, 0)), (19, (.iconst 0, 1, (0, 0, 0), 0, 0)), (20, (.putfield 19, 3, (1, 2, 0), 0, 450)), (23, (.return_, 1, (0, 0, 0), 0, 0))]]
set_option maxRecDepth 10000 in
def zp108 : List (List (Nat × ZI)) := [[(0, (.aload_n 1, 1, (0, 0, 0), 0, 0)), (1, (.getfield 11, 3, (1, 0, 0), 0, 447)), (4, (.iconst 0, 1, (0, 0, 0), 0, 0)), (5, (.aload_n 0, 1, (0, 0, 0), 0, 0)), (6, (.getfield 11, 3, (1, 0, 0), 0, 447)), (9, (.iconst 0, 1, (0, 0, 0), 0, 0)), (10, (.sipush 400, 3, (0, 0, 0), 400, 0)), (13, (.invokestatic 22, 3, (6, 0, 0), 0, 759)), (16, (.aload_n 0, 1, (0, 0, 0), 0, 0)), (17, (.aload_n 1, 1, (0, 0, 0), 0, 0)), (18, (.getfield 15, 3, (1, 1, 0), 0, 448)), (21, (.putfield 15, 3, (1, 1, 0), 0, 448)), (24, (.aload_n 0, 1, (0, 0, 0), 0, 0)), (25, (.aload_n 1, 1, (0, 0, 0), 0, 0)), (26, (.getfield 19, 3, (1, 2, 0), 0, 450)), (29, (.putfield 19, 3, (1, 2, 0), 0, 450))],
  [(32, (.return_, 1, (0, 0, 0), 0, 0))]]
set_option maxRecDepth 10000 in
def zp109 : List (List (Nat × ZI)) := [[(0, (.aload_n 0, 1, (0, 0, 0), 0, 0)), (1, (.getfield 19, 3, (1, 2, 0), 0, 450)), (4, (.iconst 5, 1, (0, 0, 0), 5, 0)), (5, (.imul, 1, (0, 0, 0), 0, 0)), (6, (.istore 6, 2, (0, 0, 0), 0, 0)), (8, (.aload_n 0, 1, (0, 0, 0), 0, 0)), (9, (.getfield 11, 3, (1, 0, 0), 0, 447)), (12, (.iload 6, 2, (0, 0, 0), 0, 0)), (14, (.iload_n 1, 1, (0, 0, 0), 0, 0)), (15, (.iastore, 1, (0, 0, 0), 0, 0)), (16, (.aload_n 0, 1, (0, 0, 0), 0, 0)), (17, (.getfield 11, 3, (1, 0, 0), 0, 447)), (20, (.iload 6, 2, (0, 0, 0), 0, 0)), (22, (.iconst 1, 1, (0, 0, 0), 1, 0)), (23, (.iadd, 1, (0, 0, 0), 0, 0)), (24, (.iload_n 2, 1, (0, 0, 0), 0, 0)), (25, (.iastore, 1, (0, 0, 0), 0, 0)), (26, (.aload_n 0, 1, (0, 0, 0), 0, 0)), (27, (.getfield 11, 3, (1, 0, 0), 0, 447)), (30, (.iload 6, 2, (0, 0, 0), 0, 0))],
  [(32, (.iconst 2, 1, (0, 0, 0), 2, 0)), (33, (.iadd, 1, (0, 0, 0), 0, 0)), (34, (.iload_n 3, 1, (0, 0, 0), 0, 0)), (35, (.iastore, 1, (0, 0, 0), 0, 0)), (36, (.aload_n 0, 1, (0, 0, 0), 0, 0)), (37, (.getfield 11, 3, (1, 0, 0), 0, 447)), (40, (.iload 6, 2, (0, 0, 0), 0, 0)), (42, (.iconst 3, 1, (0, 0, 0), 3, 0)), (43, (.iadd, 1, (0, 0, 0), 0, 0)), (44, (.iload 4, 2, (0, 0, 0), 0, 0)), (46, (.iastore, 1, (0, 0, 0), 0, 0)), (47, (.aload_n 0, 1, (0, 0, 0), 0, 0)), (48, (.getfield 11, 3, (1, 0, 0), 0, 447)), (51, (.iload 6, 2, (0, 0, 0), 0, 0)), (53, (.iconst 4, 1, (0, 0, 0), 4, 0)), (54, (.iadd, 1, (0, 0, 0), 0, 0)), (55, (.iload 5, 2, (0, 0, 0), 0, 0)), (57, (.iastore, 1, (0, 0, 0), 0, 0)), (58, (.aload_n 0, 1, (0, 0, 0), 0, 0)), (59, (.aload_n 0, 1, (0, 0, 0), 0, 0)), (60, (.getfield 19, 3, (1, 2, 0), 0, 450)), (63, (.iconst 1, 1, (0, 0, 0), 1, 0))],
  [(64, (.iadd, 1, (0, 0, 0), 0, 0)), (65, (.bipush 80, 2, (0, 0, 0), 80, 0)), (67, (.if_icmp .ge 12, 3, (79, 0, 0), 0, 0)), (70, (.aload_n 0, 1, (0, 0, 0), 0, 0)), (71, (.getfield 19, 3, (1, 2, 0), 0, 450)), (74, (.iconst 1, 1, (0, 0, 0), 1, 0)), (75, (.iadd, 1, (0, 0, 0), 0, 0)), (76, (.goto 4, 3, (80, 0, 0), 0, 0)), (79, (.iconst 0, 1, (0, 0, 0), 0, 0)), (80, (.putfield 19, 3, (1, 2, 0), 0, 450)), (83, (.aload_n 0, 1, (0, 0, 0), 0, 0)), (84, (.aload_n 0, 1, (0, 0, 0), 0, 0)), (85, (.getfield 15, 3, (1, 1, 0), 0, 448)), (88, (.iconst 1, 1, (0, 0, 0), 1, 0)), (89, (.iadd, 1, (0, 0, 0), 0, 0)), (90, (.bipush 80, 2, (0, 0, 0), 80, 0)), (92, (.invokestatic 28, 3, (2, 0, 0), 0, 710)), (95, (.putfield 15, 3, (1, 1, 0), 0, 448))],
  [(98, (.return_, 1, (0, 0, 0), 0, 0))]]
set_option maxRecDepth 10000 in
def zp110 : List (List (Nat × ZI)) := [[(0, (.iload_n 1, 1, (0, 0, 0), 0, 0)), (1, (.ifCond .lt 11, 3, (12, 0, 0), 0, 0)), (4, (.iload_n 1, 1, (0, 0, 0), 0, 0)), (5, (.aload_n 0, 1, (0, 0, 0), 0, 0)), (6, (.getfield 15, 3, (1, 1, 0), 0, 448)), (9, (.if_icmp .lt 5, 3, (14, 0, 0), 0, 0)), (12, (.iconst (-1), 1, (0, 0, 0), (-1), 0)), (13, (.ireturn, 1, (0, 0, 0), 0, 0)), (14, (.aload_n 0, 1, (0, 0, 0), 0, 0)), (15, (.getfield 11, 3, (1, 0, 0), 0, 447)), (18, (.aload_n 0, 1, (0, 0, 0), 0, 0)), (19, (.getfield 19, 3, (1, 2, 0), 0, 450)), (22, (.iconst 1, 1, (0, 0, 0), 1, 0)), (23, (.isub, 1, (0, 0, 0), 0, 0)), (24, (.iload_n 1, 1, (0, 0, 0), 0, 0)), (25, (.isub, 1, (0, 0, 0), 0, 0)), (26, (.bipush 80, 2, (0, 0, 0), 80, 0)), (28, (.invokestatic 34, 3, (0, 337, 0), 0, 739)), (31, (.iconst 5, 1, (0, 0, 0), 5, 0))],
  [(32, (.imul, 1, (0, 0, 0), 0, 0)), (33, (.iload_n 2, 1, (0, 0, 0), 0, 0)), (34, (.iadd, 1, (0, 0, 0), 0, 0)), (35, (.iaload, 1, (0, 0, 0), 0, 0)), (36, (.ireturn, 1, (0, 0, 0), 0, 0))]]
set_option maxRecDepth 10000 in
def zp111 : List (List (Nat × ZI)) := [[(0, (.iconst 0, 1, (0, 0, 0), 0, 0)), (1, (.istore_n 2, 1, (0, 0, 0), 0, 0)), (2, (.iconst 0, 1, (0, 0, 0), 0, 0)), (3, (.istore_n 3, 1, (0, 0, 0), 0, 0)), (4, (.iload_n 3, 1, (0, 0, 0), 0, 0)), (5, (.aload_n 0, 1, (0, 0, 0), 0, 0)), (6, (.getfield 15, 3, (1, 1, 0), 0, 448)), (9, (.if_icmp .ge 30, 3, (39, 0, 0), 0, 0)), (12, (.aload_n 0, 1, (0, 0, 0), 0, 0)), (13, (.iload_n 3, 1, (0, 0, 0), 0, 0)), (14, (.iconst 2, 1, (0, 0, 0), 2, 0)), (15, (.invokevirtual 37, 3, (0, 110, 0), 0, 735)), (18, (.iload_n 1, 1, (0, 0, 0), 0, 0)), (19, (.if_icmp .ne 14, 3, (33, 0, 0), 0, 0)), (22, (.iload_n 2, 1, (0, 0, 0), 0, 0)), (23, (.iconst 1, 1, (0, 0, 0), 1, 0)), (24, (.aload_n 0, 1, (0, 0, 0), 0, 0)), (25, (.iload_n 3, 1, (0, 0, 0), 0, 0)), (26, (.iconst 1, 1, (0, 0, 0), 1, 0)), (27, (.invokevirtual 37, 3, (0, 110, 0), 0, 735)), (30, (.ishl, 1, (0, 0, 0), 0, 0)), (31, (.ior, 1, (0, 0, 0), 0, 0))],
  [(32, (.istore_n 2, 1, (0, 0, 0), 0, 0)), (33, (.iinc 3 1, 3, (0, 0, 0), 1, 0)), (36, (.goto (-32), 3, (4, 0, 0), 0, 0)), (39, (.iload_n 2, 1, (0, 0, 0), 0, 0)), (40, (.ireturn, 1, (0, 0, 0), 0, 0))]]
set_option maxRecDepth 10000 in
def zp112 : List (List (Nat × ZI)) := [[(0, (.iload_n 1, 1, (0, 0, 0), 0, 0)), (1, (.istore_n 3, 1, (0, 0, 0), 0, 0)), (2, (.iconst 0, 1, (0, 0, 0), 0, 0)), (3, (.istore 4, 2, (0, 0, 0), 0, 0)), (5, (.iconst 0, 1, (0, 0, 0), 0, 0)), (6, (.istore 5, 2, (0, 0, 0), 0, 0)), (8, (.iload 5, 2, (0, 0, 0), 0, 0)), (10, (.aload_n 0, 1, (0, 0, 0), 0, 0)), (11, (.getfield 15, 3, (1, 1, 0), 0, 448)), (14, (.if_icmp .ge 37, 3, (51, 0, 0), 0, 0)), (17, (.iload 4, 2, (0, 0, 0), 0, 0)), (19, (.iload_n 2, 1, (0, 0, 0), 0, 0)), (20, (.if_icmp .ge 31, 3, (51, 0, 0), 0, 0)), (23, (.aload_n 0, 1, (0, 0, 0), 0, 0)), (24, (.iload 5, 2, (0, 0, 0), 0, 0)), (26, (.iconst 2, 1, (0, 0, 0), 2, 0)), (27, (.invokevirtual 37, 3, (0, 110, 0), 0, 735)), (30, (.iload_n 3, 1, (0, 0, 0), 0, 0)), (31, (.if_icmp .ne 14, 3, (45, 0, 0), 0, 0))],
  [(34, (.aload_n 0, 1, (0, 0, 0), 0, 0)), (35, (.iload 5, 2, (0, 0, 0), 0, 0)), (37, (.iconst 4, 1, (0, 0, 0), 4, 0)), (38, (.invokevirtual 37, 3, (0, 110, 0), 0, 735)), (41, (.istore_n 3, 1, (0, 0, 0), 0, 0)), (42, (.iinc 4 1, 3, (0, 0, 0), 1, 0)), (45, (.iinc 5 1, 3, (0, 0, 0), 1, 0)), (48, (.goto (-40), 3, (8, 0, 0), 0, 0)), (51, (.iload 4, 2, (0, 0, 0), 0, 0)), (53, (.iload_n 2, 1, (0, 0, 0), 0, 0)), (54, (.if_icmp .ne 7, 3, (61, 0, 0), 0, 0)), (57, (.iload_n 3, 1, (0, 0, 0), 0, 0)), (58, (.goto 4, 3, (62, 0, 0), 0, 0)), (61, (.iconst (-1), 1, (0, 0, 0), (-1), 0)), (62, (.ireturn, 1, (0, 0, 0), 0, 0))]]
set_option maxRecDepth 10000 in
def zp113 : List (List (Nat × ZI)) := [[(0, (.aload_n 0, 1, (0, 0, 0), 0, 0)), (1, (.invokespecial 3, 3, (1, 0, 0), 0, 257)), (4, (.aload_n 0, 1, (0, 0, 0), 0, 0)), (5, (.new 9, 3, (0, 8, 0), 0, 258)), (8, (.dup, 1, (0, 0, 0), 0, 0)), (9, (.invokespecial 11, 3, (0, 169, 1), 0, 260)), (12, (.putfield 12, 3, (2, 0, 0), 0, 348)), (15, (.aload_n 0, 1, (0, 0, 0), 0, 0)), (16, (.new 18, 3, (0, 5, 0), 0, 315)), (19, (.dup, 1, (0, 0, 0), 0, 0)), (20, (.invokespecial 20, 3, (0, 147, 1), 0, 317)), (23, (.putfield 21, 3, (2, 1, 0), 0, 352)), (26, (.aload_n 0, 1, (0, 0, 0), 0, 0)), (27, (.bipush 12, 2, (0, 0, 0), 12, 0)), (29, (.newarray .int, 2, (0, 0, 0), 0, 251)), (31, (.putfield 25, 3, (2, 2, 0), 0, 355))],
  [(34, (.return_, 1, (0, 0, 0), 0, 0))]]
set_option maxRecDepth 10000 in
def zp114 : List (List (Nat × ZI)) := [[(0, (.aload_n 0, 1, (0, 0, 0), 0, 0)), (1, (.getfield 25, 3, (2, 2, 0), 0, 355)), (4, (.iconst 0, 1, (0, 0, 0), 0, 0)), (5, (.iload_n 2, 1, (0, 0, 0), 0, 0)), (6, (.iastore, 1, (0, 0, 0), 0, 0)), (7, (.aload_n 0, 1, (0, 0, 0), 0, 0)), (8, (.getfield 25, 3, (2, 2, 0), 0, 355)), (11, (.iconst 1, 1, (0, 0, 0), 1, 0)), (12, (.iload_n 3, 1, (0, 0, 0), 0, 0)), (13, (.iastore, 1, (0, 0, 0), 0, 0)), (14, (.aload_n 0, 1, (0, 0, 0), 0, 0)), (15, (.getfield 25, 3, (2, 2, 0), 0, 355)), (18, (.iconst 2, 1, (0, 0, 0), 2, 0)), (19, (.aload_n 1, 1, (0, 0, 0), 0, 0)), (20, (.iload_n 2, 1, (0, 0, 0), 0, 0)), (21, (.invokevirtual 29, 3, (0, 93, 1), 0, 653)), (24, (.iastore, 1, (0, 0, 0), 0, 0)), (25, (.aload_n 0, 1, (0, 0, 0), 0, 0)), (26, (.getfield 25, 3, (2, 2, 0), 0, 355)), (29, (.iconst 3, 1, (0, 0, 0), 3, 0)), (30, (.aload_n 1, 1, (0, 0, 0), 0, 0)), (31, (.iload_n 3, 1, (0, 0, 0), 0, 0))],
  [(32, (.invokevirtual 35, 3, (0, 92, 1), 0, 657)), (35, (.iastore, 1, (0, 0, 0), 0, 0)), (36, (.aload_n 0, 1, (0, 0, 0), 0, 0)), (37, (.getfield 25, 3, (2, 2, 0), 0, 355)), (40, (.iconst 4, 1, (0, 0, 0), 4, 0)), (41, (.aload_n 1, 1, (0, 0, 0), 0, 0)), (42, (.getfield 38, 3, (0, 10, 1), 0, 407)), (45, (.iastore, 1, (0, 0, 0), 0, 0)), (46, (.aload_n 0, 1, (0, 0, 0), 0, 0)), (47, (.getfield 25, 3, (2, 2, 0), 0, 355)), (50, (.iconst 5, 1, (0, 0, 0), 5, 0)), (51, (.aload_n 1, 1, (0, 0, 0), 0, 0)), (52, (.getfield 42, 3, (0, 0, 1), 0, 370)), (55, (.iload_n 3, 1, (0, 0, 0), 0, 0)), (56, (.iaload, 1, (0, 0, 0), 0, 0)), (57, (.iastore, 1, (0, 0, 0), 0, 0)), (58, (.iconst 0, 1, (0, 0, 0), 0, 0)), (59, (.istore 4, 2, (0, 0, 0), 0, 0)), (61, (.iload 4, 2, (0, 0, 0), 0, 0)), (63, (.iconst 4, 1, (0, 0, 0), 4, 0))],
  [(64, (.if_icmp .gt 38, 3, (102, 0, 0), 0, 0)), (67, (.aload_n 0, 1, (0, 0, 0), 0, 0)), (68, (.getfield 25, 3, (2, 2, 0), 0, 355)), (71, (.bipush 6, 2, (0, 0, 0), 6, 0)), (73, (.iload 4, 2, (0, 0, 0), 0, 0)), (75, (.iadd, 1, (0, 0, 0), 0, 0)), (76, (.aload_n 0, 1, (0, 0, 0), 0, 0)), (77, (.getfield 12, 3, (2, 0, 0), 0, 348)), (80, (.getfield 45, 3, (8, 4, 1), 0, 280)), (83, (.iload_n 3, 1, (0, 0, 0), 0, 0)), (84, (.iaload, 1, (0, 0, 0), 0, 0)), (85, (.iload 4, 2, (0, 0, 0), 0, 0)), (87, (.if_icmp .ne 7, 3, (94, 0, 0), 0, 0)), (90, (.iconst 1, 1, (0, 0, 0), 1, 0)), (91, (.goto 4, 3, (95, 0, 0), 0, 0)), (94, (.iconst 0, 1, (0, 0, 0), 0, 0)), (95, (.iastore, 1, (0, 0, 0), 0, 0))],
  [(96, (.iinc 4 1, 3, (0, 0, 0), 1, 0)), (99, (.goto (-38), 3, (61, 0, 0), 0, 0)), (102, (.aload_n 0, 1, (0, 0, 0), 0, 0)), (103, (.getfield 25, 3, (2, 2, 0), 0, 355)), (106, (.bipush 11, 2, (0, 0, 0), 11, 0)), (108, (.aload_n 1, 1, (0, 0, 0), 0, 0)), (109, (.getfield 48, 3, (0, 3, 1), 0, 384)), (112, (.iload_n 2, 1, (0, 0, 0), 0, 0)), (113, (.iaload, 1, (0, 0, 0), 0, 0)), (114, (.ifCond .le 7, 3, (121, 0, 0), 0, 0)), (117, (.iconst 1, 1, (0, 0, 0), 1, 0)), (118, (.goto 4, 3, (122, 0, 0), 0, 0)), (121, (.iconst 0, 1, (0, 0, 0), 0, 0)), (122, (.iastore, 1, (0, 0, 0), 0, 0)), (123, (.return_, 1, (0, 0, 0), 0, 0))]]
set_option maxRecDepth 10000 in
def zp115 : List (List (Nat × ZI)) := [[(0, (.aload_n 0, 1, (0, 0, 0), 0, 0)), (1, (.aload_n 1, 1, (0, 0, 0), 0, 0)), (2, (.iload_n 2, 1, (0, 0, 0), 0, 0)), (3, (.iload_n 3, 1, (0, 0, 0), 0, 0)), (4, (.invokevirtual 51, 3, (0, 114, 0), 0, 649)), (7, (.aload_n 0, 1, (0, 0, 0), 0, 0)), (8, (.getfield 21, 3, (2, 1, 0), 0, 352)), (11, (.iload 4, 2, (0, 0, 0), 0, 0)), (13, (.aload_n 0, 1, (0, 0, 0), 0, 0)), (14, (.getfield 25, 3, (2, 2, 0), 0, 355)), (17, (.invokevirtual 55, 3, (0, 153, 1), 0, 661)), (20, (.ireturn, 1, (0, 0, 0), 0, 0))]]
set_option maxRecDepth 10000 in
def zp116 : List (List (Nat × ZI)) := [[(0, (.aload_n 0, 1, (0, 0, 0), 0, 0)), (1, (.aload_n 1, 1, (0, 0, 0), 0, 0)), (2, (.iconst 0, 1, (0, 0, 0), 0, 0)), (3, (.iload_n 2, 1, (0, 0, 0), 0, 0)), (4, (.invokevirtual 51, 3, (0, 114, 0), 0, 649)), (7, (.aload_n 0, 1, (0, 0, 0), 0, 0)), (8, (.getfield 25, 3, (2, 2, 0), 0, 355)), (11, (.iconst 2, 1, (0, 0, 0), 2, 0)), (12, (.iconst 0, 1, (0, 0, 0), 0, 0)), (13, (.iastore, 1, (0, 0, 0), 0, 0)), (14, (.aload_n 0, 1, (0, 0, 0), 0, 0)), (15, (.getfield 25, 3, (2, 2, 0), 0, 355)), (18, (.bipush 11, 2, (0, 0, 0), 11, 0)), (20, (.iconst 0, 1, (0, 0, 0), 0, 0)), (21, (.iastore, 1, (0, 0, 0), 0, 0)), (22, (.aload_n 0, 1, (0, 0, 0), 0, 0)), (23, (.getfield 21, 3, (2, 1, 0), 0, 352)), (26, (.iconst 3, 1, (0, 0, 0), 3, 0)), (27, (.aload_n 0, 1, (0, 0, 0), 0, 0)), (28, (.getfield 25, 3, (2, 2, 0), 0, 355)), (31, (.invokevirtual 55, 3, (0, 153, 1), 0, 661))],
  [(34, (.ireturn, 1, (0, 0, 0), 0, 0))]]
set_option maxRecDepth 10000 in
def zp117 : List (List (Nat × ZI)) := [[(0, (.iconst 0, 1, (0, 0, 0), 0, 0)), (1, (.istore_n 3, 1, (0, 0, 0), 0, 0)), (2, (.iconst 0, 1, (0, 0, 0), 0, 0)), (3, (.istore 4, 2, (0, 0, 0), 0, 0)), (5, (.iload 4, 2, (0, 0, 0), 0, 0)), (7, (.aload_n 0, 1, (0, 0, 0), 0, 0)), (8, (.getfield 12, 3, (2, 0, 0), 0, 348)), (11, (.getfield 59, 3, (8, 2, 1), 0, 273)), (14, (.if_icmp .ge 20, 3, (34, 0, 0), 0, 0)), (17, (.iload_n 3, 1, (0, 0, 0), 0, 0)), (18, (.aload_n 0, 1, (0, 0, 0), 0, 0)), (19, (.aload_n 1, 1, (0, 0, 0), 0, 0)), (20, (.iload 4, 2, (0, 0, 0), 0, 0)), (22, (.aload_n 2, 1, (0, 0, 0), 0, 0)), (23, (.invokevirtual 62, 3, (0, 118, 0), 0, 641)), (26, (.iadd, 1, (0, 0, 0), 0, 0)), (27, (.istore_n 3, 1, (0, 0, 0), 0, 0)), (28, (.iinc 4 1, 3, (0, 0, 0), 1, 0)), (31, (.goto (-26), 3, (5, 0, 0), 0, 0))],
  [(34, (.iconst 0, 1, (0, 0, 0), 0, 0)), (35, (.istore 4, 2, (0, 0, 0), 0, 0)), (37, (.iload 4, 2, (0, 0, 0), 0, 0)), (39, (.aload_n 0, 1, (0, 0, 0), 0, 0)), (40, (.getfield 12, 3, (2, 0, 0), 0, 348)), (43, (.getfield 66, 3, (8, 0, 1), 0, 266)), (46, (.if_icmp .ge 51, 3, (97, 0, 0), 0, 0)), (49, (.aload_n 0, 1, (0, 0, 0), 0, 0)), (50, (.getfield 12, 3, (2, 0, 0), 0, 348)), (53, (.getfield 45, 3, (8, 4, 1), 0, 280)), (56, (.iload 4, 2, (0, 0, 0), 0, 0)), (58, (.iaload, 1, (0, 0, 0), 0, 0)), (59, (.iconst 4, 1, (0, 0, 0), 4, 0)), (60, (.if_icmp .ne 31, 3, (91, 0, 0), 0, 0)), (63, (.aload_n 1, 1, (0, 0, 0), 0, 0))],
  [(64, (.getfield 69, 3, (0, 8, 1), 0, 398)), (67, (.aload_n 1, 1, (0, 0, 0), 0, 0)), (68, (.getfield 72, 3, (0, 9, 1), 0, 402)), (71, (.if_icmp .ge 20, 3, (91, 0, 0), 0, 0)), (74, (.aload_n 1, 1, (0, 0, 0), 0, 0)), (75, (.dup, 1, (0, 0, 0), 0, 0)), (76, (.getfield 69, 3, (0, 8, 1), 0, 398)), (79, (.aload_n 1, 1, (0, 0, 0), 0, 0)), (80, (.iload 4, 2, (0, 0, 0), 0, 0)), (82, (.bipush 10, 2, (0, 0, 0), 10, 0)), (84, (.invokevirtual 75, 3, (0, 102, 1), 0, 711)), (87, (.iadd, 1, (0, 0, 0), 0, 0)), (88, (.putfield 69, 3, (0, 8, 1), 0, 398)), (91, (.iinc 4 1, 3, (0, 0, 0), 1, 0)), (94, (.goto (-57), 3, (37, 0, 0), 0, 0))],
  [(97, (.aload_n 1, 1, (0, 0, 0), 0, 0)), (98, (.dup, 1, (0, 0, 0), 0, 0)), (99, (.getfield 38, 3, (0, 10, 1), 0, 407)), (102, (.iconst 1, 1, (0, 0, 0), 1, 0)), (103, (.iadd, 1, (0, 0, 0), 0, 0)), (104, (.putfield 38, 3, (0, 10, 1), 0, 407)), (107, (.iload_n 3, 1, (0, 0, 0), 0, 0)), (108, (.ireturn, 1, (0, 0, 0), 0, 0))]]
set_option maxRecDepth 10000 in
def zp118 : List (List (Nat × ZI)) := [[(0, (.aload_n 0, 1, (0, 0, 0), 0, 0)), (1, (.getfield 12, 3, (2, 0, 0), 0, 348)), (4, (.iload_n 2, 1, (0, 0, 0), 0, 0)), (5, (.aload_n 1, 1, (0, 0, 0), 0, 0)), (6, (.getfield 79, 3, (0, 1, 1), 0, 375)), (9, (.iload_n 2, 1, (0, 0, 0), 0, 0)), (10, (.iaload, 1, (0, 0, 0), 0, 0)), (11, (.invokevirtual 82, 3, (0, 173, 1), 0, 645)), (14, (.istore 4, 2, (0, 0, 0), 0, 0)), (16, (.aload_n 1, 1, (0, 0, 0), 0, 0)), (17, (.getfield 79, 3, (0, 1, 1), 0, 375)), (20, (.iload_n 2, 1, (0, 0, 0), 0, 0)), (21, (.aload_n 1, 1, (0, 0, 0), 0, 0)), (22, (.getfield 79, 3, (0, 1, 1), 0, 375)), (25, (.iload_n 2, 1, (0, 0, 0), 0, 0)), (26, (.iaload, 1, (0, 0, 0), 0, 0)), (27, (.iconst 1, 1, (0, 0, 0), 1, 0)), (28, (.iadd, 1, (0, 0, 0), 0, 0)), (29, (.aload_n 0, 1, (0, 0, 0), 0, 0)), (30, (.getfield 12, 3, (2, 0, 0), 0, 348))],
  [(33, (.getfield 85, 3, (8, 7, 1), 0, 291)), (36, (.iload_n 2, 1, (0, 0, 0), 0, 0)), (37, (.iaload, 1, (0, 0, 0), 0, 0)), (38, (.if_icmp .ge 14, 3, (52, 0, 0), 0, 0)), (41, (.aload_n 1, 1, (0, 0, 0), 0, 0)), (42, (.getfield 79, 3, (0, 1, 1), 0, 375)), (45, (.iload_n 2, 1, (0, 0, 0), 0, 0)), (46, (.iaload, 1, (0, 0, 0), 0, 0)), (47, (.iconst 1, 1, (0, 0, 0), 1, 0)), (48, (.iadd, 1, (0, 0, 0), 0, 0)), (49, (.goto 4, 3, (53, 0, 0), 0, 0)), (52, (.iconst 0, 1, (0, 0, 0), 0, 0)), (53, (.iastore, 1, (0, 0, 0), 0, 0)), (54, (.aload_n 0, 1, (0, 0, 0), 0, 0)), (55, (.getfield 12, 3, (2, 0, 0), 0, 348)), (58, (.iload_n 2, 1, (0, 0, 0), 0, 0)), (59, (.aload_n 1, 1, (0, 0, 0), 0, 0)), (60, (.getfield 79, 3, (0, 1, 1), 0, 375)), (63, (.iload_n 2, 1, (0, 0, 0), 0, 0))],
  [(64, (.iaload, 1, (0, 0, 0), 0, 0)), (65, (.invokevirtual 82, 3, (0, 173, 1), 0, 645)), (68, (.istore 5, 2, (0, 0, 0), 0, 0)), (70, (.iload 4, 2, (0, 0, 0), 0, 0)), (72, (.iconst (-1), 1, (0, 0, 0), (-1), 0)), (73, (.if_icmp .eq 9, 3, (82, 0, 0), 0, 0)), (76, (.iload 5, 2, (0, 0, 0), 0, 0)), (78, (.iconst (-1), 1, (0, 0, 0), (-1), 0)), (79, (.if_icmp .ne 5, 3, (84, 0, 0), 0, 0)), (82, (.iconst 0, 1, (0, 0, 0), 0, 0)), (83, (.ireturn, 1, (0, 0, 0), 0, 0)), (84, (.aload_n 0, 1, (0, 0, 0), 0, 0)), (85, (.aload_n 1, 1, (0, 0, 0), 0, 0)), (86, (.iload_n 2, 1, (0, 0, 0), 0, 0)), (87, (.iload 5, 2, (0, 0, 0), 0, 0)), (89, (.invokevirtual 51, 3, (0, 114, 0), 0, 649)), (92, (.aload_n 1, 1, (0, 0, 0), 0, 0)), (93, (.iload_n 2, 1, (0, 0, 0), 0, 0)), (94, (.aload_n 0, 1, (0, 0, 0), 0, 0)), (95, (.getfield 21, 3, (2, 1, 0), 0, 352))],
  [(98, (.iconst 0, 1, (0, 0, 0), 0, 0)), (99, (.aload_n 0, 1, (0, 0, 0), 0, 0)), (100, (.getfield 25, 3, (2, 2, 0), 0, 355)), (103, (.invokevirtual 55, 3, (0, 153, 1), 0, 661)), (106, (.invokevirtual 88, 3, (0, 98, 1), 0, 675)), (109, (.aload_n 1, 1, (0, 0, 0), 0, 0)), (110, (.getfield 42, 3, (0, 0, 1), 0, 370)), (113, (.iload 5, 2, (0, 0, 0), 0, 0)), (115, (.iaload, 1, (0, 0, 0), 0, 0)), (116, (.ifCond .le 32, 3, (148, 0, 0), 0, 0)), (119, (.aload_n 1, 1, (0, 0, 0), 0, 0)), (120, (.invokevirtual 92, 3, (0, 97, 1), 0, 681)), (123, (.bipush 100, 2, (0, 0, 0), 100, 0)), (125, (.irem, 1, (0, 0, 0), 0, 0)), (126, (.aload_n 1, 1, (0, 0, 0), 0, 0)), (127, (.getfield 96, 3, (0, 2, 1), 0, 379))],
  [(130, (.iload_n 2, 1, (0, 0, 0), 0, 0)), (131, (.iaload, 1, (0, 0, 0), 0, 0)), (132, (.if_icmp .ge 16, 3, (148, 0, 0), 0, 0)), (135, (.aload_n 1, 1, (0, 0, 0), 0, 0)), (136, (.iload_n 2, 1, (0, 0, 0), 0, 0)), (137, (.aload_n 1, 1, (0, 0, 0), 0, 0)), (138, (.getfield 42, 3, (0, 0, 1), 0, 370)), (141, (.iload 5, 2, (0, 0, 0), 0, 0)), (143, (.iaload, 1, (0, 0, 0), 0, 0)), (144, (.invokevirtual 99, 3, (0, 100, 1), 0, 686)), (147, (.pop, 1, (0, 0, 0), 0, 0)), (148, (.iconst 0, 1, (0, 0, 0), 0, 0)), (149, (.istore 6, 2, (0, 0, 0), 0, 0)), (151, (.aload_n 1, 1, (0, 0, 0), 0, 0)), (152, (.getfield 48, 3, (0, 3, 1), 0, 384)), (155, (.iload_n 2, 1, (0, 0, 0), 0, 0)), (156, (.iaload, 1, (0, 0, 0), 0, 0)), (157, (.ifCond .ne 32, 3, (189, 0, 0), 0, 0))],
  [(160, (.aload_n 0, 1, (0, 0, 0), 0, 0)), (161, (.aload_n 1, 1, (0, 0, 0), 0, 0)), (162, (.iload_n 2, 1, (0, 0, 0), 0, 0)), (163, (.iload 5, 2, (0, 0, 0), 0, 0)), (165, (.invokevirtual 51, 3, (0, 114, 0), 0, 649)), (168, (.aload_n 1, 1, (0, 0, 0), 0, 0)), (169, (.iload_n 2, 1, (0, 0, 0), 0, 0)), (170, (.iload 5, 2, (0, 0, 0), 0, 0)), (172, (.aload_n 0, 1, (0, 0, 0), 0, 0)), (173, (.getfield 21, 3, (2, 1, 0), 0, 352)), (176, (.iconst 1, 1, (0, 0, 0), 1, 0)), (177, (.aload_n 0, 1, (0, 0, 0), 0, 0)), (178, (.getfield 25, 3, (2, 2, 0), 0, 355)), (181, (.invokevirtual 55, 3, (0, 153, 1), 0, 661)), (184, (.invokevirtual 102, 3, (0, 103, 1), 0, 694)), (187, (.istore 6, 2, (0, 0, 0), 0, 0)), (189, (.aload_n 0, 1, (0, 0, 0), 0, 0)), (190, (.aload_n 1, 1, (0, 0, 0), 0, 0)), (191, (.iload_n 2, 1, (0, 0, 0), 0, 0))],
  [(192, (.iload 5, 2, (0, 0, 0), 0, 0)), (194, (.invokevirtual 51, 3, (0, 114, 0), 0, 649)), (197, (.aload_n 1, 1, (0, 0, 0), 0, 0)), (198, (.iload_n 2, 1, (0, 0, 0), 0, 0)), (199, (.iload 5, 2, (0, 0, 0), 0, 0)), (201, (.aload_n 0, 1, (0, 0, 0), 0, 0)), (202, (.getfield 21, 3, (2, 1, 0), 0, 352)), (205, (.iconst 2, 1, (0, 0, 0), 2, 0)), (206, (.aload_n 0, 1, (0, 0, 0), 0, 0)), (207, (.getfield 25, 3, (2, 2, 0), 0, 355)), (210, (.invokevirtual 55, 3, (0, 153, 1), 0, 661)), (213, (.invokevirtual 106, 3, (0, 104, 1), 0, 698)), (216, (.aload_n 1, 1, (0, 0, 0), 0, 0)), (217, (.getfield 48, 3, (0, 3, 1), 0, 384)), (220, (.iload_n 2, 1, (0, 0, 0), 0, 0)), (221, (.aload_n 1, 1, (0, 0, 0), 0, 0)), (222, (.getfield 48, 3, (0, 3, 1), 0, 384))],
  [(225, (.iload_n 2, 1, (0, 0, 0), 0, 0)), (226, (.iaload, 1, (0, 0, 0), 0, 0)), (227, (.iconst 1, 1, (0, 0, 0), 1, 0)), (228, (.isub, 1, (0, 0, 0), 0, 0)), (229, (.iconst 0, 1, (0, 0, 0), 0, 0)), (230, (.invokestatic 110, 3, (3, 0, 0), 0, 703)), (233, (.iastore, 1, (0, 0, 0), 0, 0)), (234, (.iload 6, 2, (0, 0, 0), 0, 0)), (236, (.ifCond .le 22, 3, (258, 0, 0), 0, 0)), (239, (.aload_n 3, 1, (0, 0, 0), 0, 0)), (240, (.ifnull 18, 3, (258, 0, 0), 0, 0)), (243, (.aload_n 3, 1, (0, 0, 0), 0, 0)), (244, (.aload_n 1, 1, (0, 0, 0), 0, 0)), (245, (.getfield 38, 3, (0, 10, 1), 0, 407)), (248, (.iload_n 2, 1, (0, 0, 0), 0, 0)), (249, (.iload 5, 2, (0, 0, 0), 0, 0)), (251, (.iload 6, 2, (0, 0, 0), 0, 0)), (253, (.iload 4, 2, (0, 0, 0), 0, 0)), (255, (.invokevirtual 115, 3, (0, 109, 1), 0, 706))],
  [(258, (.iload 6, 2, (0, 0, 0), 0, 0)), (260, (.ireturn, 1, (0, 0, 0), 0, 0))]]
set_option maxRecDepth 10000 in
def zp119 : List (List (Nat × ZI)) := [[(0, (.aload_n 1, 1, (0, 0, 0), 0, 0)), (1, (.iload_n 2, 1, (0, 0, 0), 0, 0)), (2, (.aload_n 0, 1, (0, 0, 0), 0, 0)), (3, (.aload_n 1, 1, (0, 0, 0), 0, 0)), (4, (.iload_n 2, 1, (0, 0, 0), 0, 0)), (5, (.invokevirtual 121, 3, (0, 116, 0), 0, 1265)), (8, (.invokevirtual 75, 3, (0, 102, 1), 0, 711)), (11, (.ireturn, 1, (0, 0, 0), 0, 0))]]
set_option maxRecDepth 10000 in
def zp120 : List (List (Nat × ZI)) := [[(0, (.iconst 0, 1, (0, 0, 0), 0, 0)), (1, (.istore_n 2, 1, (0, 0, 0), 0, 0)), (2, (.iload_n 2, 1, (0, 0, 0), 0, 0)), (3, (.aload_n 0, 1, (0, 0, 0), 0, 0)), (4, (.getfield 12, 3, (2, 0, 0), 0, 348)), (7, (.getfield 66, 3, (8, 0, 1), 0, 266)), (10, (.if_icmp .ge 28, 3, (38, 0, 0), 0, 0)), (13, (.aload_n 0, 1, (0, 0, 0), 0, 0)), (14, (.getfield 12, 3, (2, 0, 0), 0, 348)), (17, (.getfield 45, 3, (8, 4, 1), 0, 280)), (20, (.iload_n 2, 1, (0, 0, 0), 0, 0)), (21, (.iaload, 1, (0, 0, 0), 0, 0)), (22, (.ifCond .eq 10, 3, (32, 0, 0), 0, 0)), (25, (.aload_n 0, 1, (0, 0, 0), 0, 0)), (26, (.aload_n 1, 1, (0, 0, 0), 0, 0)), (27, (.iload_n 2, 1, (0, 0, 0), 0, 0)), (28, (.invokevirtual 125, 3, (0, 119, 0), 0, 1416)), (31, (.pop, 1, (0, 0, 0), 0, 0))],
  [(32, (.iinc 2 1, 3, (0, 0, 0), 1, 0)), (35, (.goto (-33), 3, (2, 0, 0), 0, 0)), (38, (.return_, 1, (0, 0, 0), 0, 0))]]
set_option maxRecDepth 10000 in
def zp121 : List (List (Nat × ZI)) := [[(0, (.iconst 0, 1, (0, 0, 0), 0, 0)), (1, (.istore_n 2, 1, (0, 0, 0), 0, 0)), (2, (.iconst 0, 1, (0, 0, 0), 0, 0)), (3, (.istore_n 3, 1, (0, 0, 0), 0, 0)), (4, (.iload_n 3, 1, (0, 0, 0), 0, 0)), (5, (.aload_n 0, 1, (0, 0, 0), 0, 0)), (6, (.getfield 12, 3, (2, 0, 0), 0, 348)), (9, (.getfield 66, 3, (8, 0, 1), 0, 266)), (12, (.if_icmp .ge 30, 3, (42, 0, 0), 0, 0)), (15, (.aload_n 0, 1, (0, 0, 0), 0, 0)), (16, (.getfield 12, 3, (2, 0, 0), 0, 348)), (19, (.getfield 45, 3, (8, 4, 1), 0, 280)), (22, (.iload_n 3, 1, (0, 0, 0), 0, 0)), (23, (.iaload, 1, (0, 0, 0), 0, 0)), (24, (.iconst 3, 1, (0, 0, 0), 3, 0)), (25, (.if_icmp .ne 11, 3, (36, 0, 0), 0, 0)), (28, (.iload_n 2, 1, (0, 0, 0), 0, 0)), (29, (.aload_n 1, 1, (0, 0, 0), 0, 0)), (30, (.iload_n 3, 1, (0, 0, 0), 0, 0)), (31, (.invokevirtual 35, 3, (0, 92, 1), 0, 657))],
  [(34, (.iadd, 1, (0, 0, 0), 0, 0)), (35, (.istore_n 2, 1, (0, 0, 0), 0, 0)), (36, (.iinc 3 1, 3, (0, 0, 0), 1, 0)), (39, (.goto (-35), 3, (4, 0, 0), 0, 0)), (42, (.iload_n 2, 1, (0, 0, 0), 0, 0)), (43, (.ireturn, 1, (0, 0, 0), 0, 0))]]
set_option maxRecDepth 10000 in
def zp122 : List (List (Nat × ZI)) := [[(0, (.iconst 0, 1, (0, 0, 0), 0, 0)), (1, (.istore_n 2, 1, (0, 0, 0), 0, 0)), (2, (.iconst 0, 1, (0, 0, 0), 0, 0)), (3, (.istore_n 3, 1, (0, 0, 0), 0, 0)), (4, (.iload_n 3, 1, (0, 0, 0), 0, 0)), (5, (.aload_n 0, 1, (0, 0, 0), 0, 0)), (6, (.getfield 12, 3, (2, 0, 0), 0, 348)), (9, (.getfield 66, 3, (8, 0, 1), 0, 266)), (12, (.if_icmp .ge 29, 3, (41, 0, 0), 0, 0)), (15, (.aload_n 0, 1, (0, 0, 0), 0, 0)), (16, (.getfield 12, 3, (2, 0, 0), 0, 348)), (19, (.getfield 45, 3, (8, 4, 1), 0, 280)), (22, (.iload_n 3, 1, (0, 0, 0), 0, 0)), (23, (.iaload, 1, (0, 0, 0), 0, 0)), (24, (.ifCond .eq 11, 3, (35, 0, 0), 0, 0)), (27, (.iload_n 2, 1, (0, 0, 0), 0, 0)), (28, (.aload_n 1, 1, (0, 0, 0), 0, 0)), (29, (.iload_n 3, 1, (0, 0, 0), 0, 0)), (30, (.invokevirtual 35, 3, (0, 92, 1), 0, 657))],
  [(33, (.iadd, 1, (0, 0, 0), 0, 0)), (34, (.istore_n 2, 1, (0, 0, 0), 0, 0)), (35, (.iinc 3 1, 3, (0, 0, 0), 1, 0)), (38, (.goto (-34), 3, (4, 0, 0), 0, 0)), (41, (.iload_n 2, 1, (0, 0, 0), 0, 0)), (42, (.ireturn, 1, (0, 0, 0), 0, 0))]]
set_option maxRecDepth 10000 in
def zp123 : List (List (Nat × ZI)) := [[(0, (.iconst (-1), 1, (0, 0, 0), (-1), 0)), (1, (.istore_n 2, 1, (0, 0, 0), 0, 0)), (2, (.iconst 0, 1, (0, 0, 0), 0, 0)), (3, (.istore_n 3, 1, (0, 0, 0), 0, 0)), (4, (.iconst 0, 1, (0, 0, 0), 0, 0)), (5, (.istore 4, 2, (0, 0, 0), 0, 0)), (7, (.iload 4, 2, (0, 0, 0), 0, 0)), (9, (.aload_n 0, 1, (0, 0, 0), 0, 0)), (10, (.getfield 12, 3, (2, 0, 0), 0, 348)), (13, (.getfield 59, 3, (8, 2, 1), 0, 273)), (16, (.if_icmp .ge 77, 3, (93, 0, 0), 0, 0)), (19, (.iconst 0, 1, (0, 0, 0), 0, 0)), (20, (.istore 5, 2, (0, 0, 0), 0, 0)), (22, (.iconst 0, 1, (0, 0, 0), 0, 0)), (23, (.istore 6, 2, (0, 0, 0), 0, 0)), (25, (.iload 6, 2, (0, 0, 0), 0, 0)), (27, (.aload_n 0, 1, (0, 0, 0), 0, 0)), (28, (.getfield 12, 3, (2, 0, 0), 0, 348)), (31, (.getfield 66, 3, (8, 0, 1), 0, 266))],
  [(34, (.if_icmp .ge 41, 3, (75, 0, 0), 0, 0)), (37, (.aload_n 0, 1, (0, 0, 0), 0, 0)), (38, (.getfield 12, 3, (2, 0, 0), 0, 348)), (41, (.getfield 45, 3, (8, 4, 1), 0, 280)), (44, (.iload 6, 2, (0, 0, 0), 0, 0)), (46, (.iaload, 1, (0, 0, 0), 0, 0)), (47, (.iconst 3, 1, (0, 0, 0), 3, 0)), (48, (.if_icmp .ne 21, 3, (69, 0, 0), 0, 0)), (51, (.iload 5, 2, (0, 0, 0), 0, 0)), (53, (.aload_n 1, 1, (0, 0, 0), 0, 0)), (54, (.getfield 128, 3, (0, 4, 1), 0, 389)), (57, (.iload 6, 2, (0, 0, 0), 0, 0)), (59, (.bipush 8, 2, (0, 0, 0), 8, 0)), (61, (.imul, 1, (0, 0, 0), 0, 0)), (62, (.iload 4, 2, (0, 0, 0), 0, 0))],
  [(64, (.iadd, 1, (0, 0, 0), 0, 0)), (65, (.iaload, 1, (0, 0, 0), 0, 0)), (66, (.iadd, 1, (0, 0, 0), 0, 0)), (67, (.istore 5, 2, (0, 0, 0), 0, 0)), (69, (.iinc 6 1, 3, (0, 0, 0), 1, 0)), (72, (.goto (-47), 3, (25, 0, 0), 0, 0)), (75, (.iload 5, 2, (0, 0, 0), 0, 0)), (77, (.iload_n 3, 1, (0, 0, 0), 0, 0)), (78, (.if_icmp .le 9, 3, (87, 0, 0), 0, 0)), (81, (.iload 5, 2, (0, 0, 0), 0, 0)), (83, (.istore_n 3, 1, (0, 0, 0), 0, 0)), (84, (.iload 4, 2, (0, 0, 0), 0, 0)), (86, (.istore_n 2, 1, (0, 0, 0), 0, 0)), (87, (.iinc 4 1, 3, (0, 0, 0), 1, 0)), (90, (.goto (-83), 3, (7, 0, 0), 0, 0)), (93, (.iload_n 2, 1, (0, 0, 0), 0, 0)), (94, (.ireturn, 1, (0, 0, 0), 0, 0))]]
set_option maxRecDepth 10000 in
def zp124 : List (List (Nat × ZI)) := [[(0, (.iconst 0, 1, (0, 0, 0), 0, 0)), (1, (.istore_n 3, 1, (0, 0, 0), 0, 0)), (2, (.iconst 0, 1, (0, 0, 0), 0, 0)), (3, (.istore 4, 2, (0, 0, 0), 0, 0)), (5, (.iload 4, 2, (0, 0, 0), 0, 0)), (7, (.aload_n 0, 1, (0, 0, 0), 0, 0)), (8, (.getfield 12, 3, (2, 0, 0), 0, 348)), (11, (.getfield 66, 3, (8, 0, 1), 0, 266)), (14, (.if_icmp .ge 40, 3, (54, 0, 0), 0, 0)), (17, (.aload_n 0, 1, (0, 0, 0), 0, 0)), (18, (.getfield 12, 3, (2, 0, 0), 0, 348)), (21, (.getfield 45, 3, (8, 4, 1), 0, 280)), (24, (.iload 4, 2, (0, 0, 0), 0, 0)), (26, (.iaload, 1, (0, 0, 0), 0, 0)), (27, (.iconst 3, 1, (0, 0, 0), 3, 0)), (28, (.if_icmp .ne 20, 3, (48, 0, 0), 0, 0)), (31, (.aload_n 1, 1, (0, 0, 0), 0, 0))],
  [(32, (.iload 4, 2, (0, 0, 0), 0, 0)), (34, (.invokevirtual 35, 3, (0, 92, 1), 0, 657)), (37, (.iload_n 2, 1, (0, 0, 0), 0, 0)), (38, (.if_icmp .le 10, 3, (48, 0, 0), 0, 0)), (41, (.iload_n 3, 1, (0, 0, 0), 0, 0)), (42, (.iconst 1, 1, (0, 0, 0), 1, 0)), (43, (.iload 4, 2, (0, 0, 0), 0, 0)), (45, (.ishl, 1, (0, 0, 0), 0, 0)), (46, (.ior, 1, (0, 0, 0), 0, 0)), (47, (.istore_n 3, 1, (0, 0, 0), 0, 0)), (48, (.iinc 4 1, 3, (0, 0, 0), 1, 0)), (51, (.goto (-46), 3, (5, 0, 0), 0, 0)), (54, (.iload_n 3, 1, (0, 0, 0), 0, 0)), (55, (.ireturn, 1, (0, 0, 0), 0, 0))]]
set_option maxRecDepth 10000 in
def zp125 : List (List (Nat × ZI)) := [[(0, (.aload_n 0, 1, (0, 0, 0), 0, 0)), (1, (.aload_n 1, 1, (0, 0, 0), 0, 0)), (2, (.iload_n 2, 1, (0, 0, 0), 0, 0)), (3, (.aload_n 1, 1, (0, 0, 0), 0, 0)), (4, (.getfield 38, 3, (0, 10, 1), 0, 407)), (7, (.invokevirtual 131, 3, (0, 126, 0), 0, 1153)), (10, (.ireturn, 1, (0, 0, 0), 0, 0))]]
set_option maxRecDepth 10000 in
def zp126 : List (List (Nat × ZI)) := [[(0, (.iconst 0, 1, (0, 0, 0), 0, 0)), (1, (.istore 4, 2, (0, 0, 0), 0, 0)), (3, (.iconst 0, 1, (0, 0, 0), 0, 0)), (4, (.istore 5, 2, (0, 0, 0), 0, 0)), (6, (.iload 5, 2, (0, 0, 0), 0, 0)), (8, (.aload_n 0, 1, (0, 0, 0), 0, 0)), (9, (.getfield 12, 3, (2, 0, 0), 0, 348)), (12, (.getfield 59, 3, (8, 2, 1), 0, 273)), (15, (.if_icmp .ge 44, 3, (59, 0, 0), 0, 0)), (18, (.aload_n 0, 1, (0, 0, 0), 0, 0)), (19, (.getfield 12, 3, (2, 0, 0), 0, 348)), (22, (.iload 5, 2, (0, 0, 0), 0, 0)), (24, (.aload_n 1, 1, (0, 0, 0), 0, 0)), (25, (.getfield 79, 3, (0, 1, 1), 0, 375)), (28, (.iload 5, 2, (0, 0, 0), 0, 0)), (30, (.iaload, 1, (0, 0, 0), 0, 0)), (31, (.iload_n 3, 1, (0, 0, 0), 0, 0))],
  [(32, (.aload_n 1, 1, (0, 0, 0), 0, 0)), (33, (.getfield 38, 3, (0, 10, 1), 0, 407)), (36, (.isub, 1, (0, 0, 0), 0, 0)), (37, (.invokevirtual 135, 3, (0, 174, 1), 0, 1157)), (40, (.iload_n 2, 1, (0, 0, 0), 0, 0)), (41, (.if_icmp .ne 12, 3, (53, 0, 0), 0, 0)), (44, (.iload 4, 2, (0, 0, 0), 0, 0)), (46, (.iconst 1, 1, (0, 0, 0), 1, 0)), (47, (.iload 5, 2, (0, 0, 0), 0, 0)), (49, (.ishl, 1, (0, 0, 0), 0, 0)), (50, (.ior, 1, (0, 0, 0), 0, 0)), (51, (.istore 4, 2, (0, 0, 0), 0, 0)), (53, (.iinc 5 1, 3, (0, 0, 0), 1, 0)), (56, (.goto (-50), 3, (6, 0, 0), 0, 0)), (59, (.iload 4, 2, (0, 0, 0), 0, 0)), (61, (.ireturn, 1, (0, 0, 0), 0, 0))]]
set_option maxRecDepth 10000 in
def zp127 : List (List (Nat × ZI)) := [[(0, (.iconst 0, 1, (0, 0, 0), 0, 0)), (1, (.istore 4, 2, (0, 0, 0), 0, 0)), (3, (.iload 4, 2, (0, 0, 0), 0, 0)), (5, (.sipush 144, 3, (0, 0, 0), 144, 0)), (8, (.if_icmp .gt 56, 3, (64, 0, 0), 0, 0)), (11, (.aload_n 0, 1, (0, 0, 0), 0, 0)), (12, (.getfield 12, 3, (2, 0, 0), 0, 348)), (15, (.iload_n 2, 1, (0, 0, 0), 0, 0)), (16, (.aload_n 1, 1, (0, 0, 0), 0, 0)), (17, (.getfield 79, 3, (0, 1, 1), 0, 375)), (20, (.iload_n 2, 1, (0, 0, 0), 0, 0)), (21, (.iaload, 1, (0, 0, 0), 0, 0)), (22, (.iload 4, 2, (0, 0, 0), 0, 0)), (24, (.invokevirtual 135, 3, (0, 174, 1), 0, 1157)), (27, (.istore 5, 2, (0, 0, 0), 0, 0)), (29, (.iload 5, 2, (0, 0, 0), 0, 0)), (31, (.aload_n 0, 1, (0, 0, 0), 0, 0))],
  [(32, (.getfield 12, 3, (2, 0, 0), 0, 348)), (35, (.iload_n 3, 1, (0, 0, 0), 0, 0)), (36, (.aload_n 1, 1, (0, 0, 0), 0, 0)), (37, (.getfield 79, 3, (0, 1, 1), 0, 375)), (40, (.iload_n 3, 1, (0, 0, 0), 0, 0)), (41, (.iaload, 1, (0, 0, 0), 0, 0)), (42, (.iload 4, 2, (0, 0, 0), 0, 0)), (44, (.invokevirtual 135, 3, (0, 174, 1), 0, 1157)), (47, (.if_icmp .ne 11, 3, (58, 0, 0), 0, 0)), (50, (.aload_n 1, 1, (0, 0, 0), 0, 0)), (51, (.getfield 38, 3, (0, 10, 1), 0, 407)), (54, (.iload 4, 2, (0, 0, 0), 0, 0)), (56, (.iadd, 1, (0, 0, 0), 0, 0)), (57, (.ireturn, 1, (0, 0, 0), 0, 0)), (58, (.iinc 4 1, 3, (0, 0, 0), 1, 0)), (61, (.goto (-58), 3, (3, 0, 0), 0, 0))],
  [(64, (.iconst (-1), 1, (0, 0, 0), (-1), 0)), (65, (.ireturn, 1, (0, 0, 0), 0, 0))]]
set_option maxRecDepth 10000 in
def zp128 : List (List (Nat × ZI)) := [[(0, (.aload_n 0, 1, (0, 0, 0), 0, 0)), (1, (.invokespecial 3, 3, (1, 0, 0), 0, 533)), (4, (.aload_n 0, 1, (0, 0, 0), 0, 0)), (5, (.new 9, 3, (0, 8, 0), 0, 534)), (8, (.dup, 1, (0, 0, 0), 0, 0)), (9, (.invokespecial 11, 3, (0, 169, 1), 0, 535)), (12, (.putfield 12, 3, (3, 0, 0), 0, 538)), (15, (.aload_n 0, 1, (0, 0, 0), 0, 0)), (16, (.new 18, 3, (0, 0, 0), 0, 536)), (19, (.dup, 1, (0, 0, 0), 0, 0)), (20, (.invokespecial 20, 3, (0, 90, 1), 0, 537)), (23, (.putfield 21, 3, (3, 1, 0), 0, 540)), (26, (.aload_n 0, 1, (0, 0, 0), 0, 0)), (27, (.iconst (-1), 1, (0, 0, 0), (-1), 0)), (28, (.putfield 25, 3, (3, 2, 0), 0, 542)), (31, (.aload_n 0, 1, (0, 0, 0), 0, 0))],
  [(32, (.iconst 0, 1, (0, 0, 0), 0, 0)), (33, (.putfield 29, 3, (3, 3, 0), 0, 543)), (36, (.aload_n 0, 1, (0, 0, 0), 0, 0)), (37, (.iconst 0, 1, (0, 0, 0), 0, 0)), (38, (.putfield 32, 3, (3, 4, 0), 0, 544)), (41, (.aload_n 0, 1, (0, 0, 0), 0, 0)), (42, (.iconst 0, 1, (0, 0, 0), 0, 0)), (43, (.putfield 35, 3, (3, 5, 0), 0, 545)), (46, (.return_, 1, (0, 0, 0), 0, 0))]]
set_option maxRecDepth 10000 in
def zp129 : List (List (Nat × ZI)) := [[(0, (.aload_n 0, 1, (0, 0, 0), 0, 0)), (1, (.getfield 12, 3, (3, 0, 0), 0, 538)), (4, (.aload_n 2, 1, (0, 0, 0), 0, 0)), (5, (.invokevirtual 38, 3, (0, 170, 1), 0, 818)), (8, (.aload_n 0, 1, (0, 0, 0), 0, 0)), (9, (.getfield 21, 3, (3, 1, 0), 0, 540)), (12, (.aload_n 3, 1, (0, 0, 0), 0, 0)), (13, (.invokevirtual 42, 3, (0, 91, 1), 0, 819)), (16, (.aload_n 0, 1, (0, 0, 0), 0, 0)), (17, (.iconst (-1), 1, (0, 0, 0), (-1), 0)), (18, (.putfield 25, 3, (3, 2, 0), 0, 542)), (21, (.aload_n 1, 1, (0, 0, 0), 0, 0)), (22, (.invokevirtual 45, 3, (0, 180, 1), 0, 820)), (25, (.aload_n 1, 1, (0, 0, 0), 0, 0)), (26, (.getfield 50, 3, (9, 2, 1), 0, 230)), (29, (.ifCond .ne 5, 3, (34, 0, 0), 0, 0))],
  [(32, (.iconst (-1), 1, (0, 0, 0), (-1), 0)), (33, (.ireturn, 1, (0, 0, 0), 0, 0)), (34, (.iconst 0, 1, (0, 0, 0), 0, 0)), (35, (.istore 4, 2, (0, 0, 0), 0, 0)), (37, (.iload 4, 2, (0, 0, 0), 0, 0)), (39, (.bipush 14, 2, (0, 0, 0), 14, 0)), (41, (.if_icmp .ge 49, 3, (90, 0, 0), 0, 0)), (44, (.aload_n 0, 1, (0, 0, 0), 0, 0)), (45, (.aload_n 1, 1, (0, 0, 0), 0, 0)), (46, (.invokevirtual 53, 3, (0, 131, 0), 0, 828)), (49, (.ifCond .ne 8, 3, (57, 0, 0), 0, 0)), (52, (.aload_n 0, 1, (0, 0, 0), 0, 0)), (53, (.getfield 25, 3, (3, 2, 0), 0, 542)), (56, (.ireturn, 1, (0, 0, 0), 0, 0)), (57, (.aload_n 1, 1, (0, 0, 0), 0, 0)), (58, (.getfield 50, 3, (9, 2, 1), 0, 230)), (61, (.ifCond .ne 5, 3, (66, 0, 0), 0, 0))],
  [(64, (.iconst (-1), 1, (0, 0, 0), (-1), 0)), (65, (.ireturn, 1, (0, 0, 0), 0, 0)), (66, (.aload_n 1, 1, (0, 0, 0), 0, 0)), (67, (.bipush 59, 2, (0, 0, 0), 59, 0)), (69, (.invokevirtual 57, 3, (0, 183, 1), 0, 953)), (72, (.ifCond .ne 8, 3, (80, 0, 0), 0, 0)), (75, (.aload_n 1, 1, (0, 0, 0), 0, 0)), (76, (.getfield 61, 3, (9, 3, 1), 0, 233)), (79, (.ireturn, 1, (0, 0, 0), 0, 0)), (80, (.aload_n 1, 1, (0, 0, 0), 0, 0)), (81, (.invokevirtual 64, 3, (0, 181, 1), 0, 893)), (84, (.iinc 4 1, 3, (0, 0, 0), 1, 0)), (87, (.goto (-50), 3, (37, 0, 0), 0, 0)), (90, (.aload_n 1, 1, (0, 0, 0), 0, 0)), (91, (.getfield 61, 3, (9, 3, 1), 0, 233)), (94, (.ireturn, 1, (0, 0, 0), 0, 0))]]
set_option maxRecDepth 10000 in
def zp130 : List (List (Nat × ZI)) := [[(0, (.aload_n 0, 1, (0, 0, 0), 0, 0)), (1, (.iload_n 1, 1, (0, 0, 0), 0, 0)), (2, (.putfield 25, 3, (3, 2, 0), 0, 542)), (5, (.iconst 0, 1, (0, 0, 0), 0, 0)), (6, (.ireturn, 1, (0, 0, 0), 0, 0))]]
set_option maxRecDepth 10000 in
def zp131 : List (List (Nat × ZI)) := [[(0, (.aload_n 1, 1, (0, 0, 0), 0, 0)), (1, (.ldc 67, 2, (1, 0, 0), 0, 832)), (3, (.invokevirtual 69, 3, (0, 185, 1), 0, 833)), (6, (.tableswitch 104 0 8 #[50, 56, 62, 68, 74, 80, 86, 92, 98], 50, (4, 0, 0), 0, 0))],
  [(56, (.aload_n 0, 1, (0, 0, 0), 0, 0)), (57, (.aload_n 1, 1, (0, 0, 0), 0, 0)), (58, (.invokevirtual 73, 3, (0, 135, 0), 0, 885)), (61, (.ireturn, 1, (0, 0, 0), 0, 0)), (62, (.aload_n 0, 1, (0, 0, 0), 0, 0)), (63, (.aload_n 1, 1, (0, 0, 0), 0, 0))],
  [(64, (.invokevirtual 76, 3, (0, 136, 0), 0, 903)), (67, (.ireturn, 1, (0, 0, 0), 0, 0)), (68, (.aload_n 0, 1, (0, 0, 0), 0, 0)), (69, (.aload_n 1, 1, (0, 0, 0), 0, 0)), (70, (.invokevirtual 79, 3, (0, 137, 0), 0, 911)), (73, (.ireturn, 1, (0, 0, 0), 0, 0)), (74, (.aload_n 0, 1, (0, 0, 0), 0, 0)), (75, (.aload_n 1, 1, (0, 0, 0), 0, 0)), (76, (.invokevirtual 82, 3, (0, 138, 0), 0, 923)), (79, (.ireturn, 1, (0, 0, 0), 0, 0)), (80, (.aload_n 0, 1, (0, 0, 0), 0, 0)), (81, (.aload_n 1, 1, (0, 0, 0), 0, 0)), (82, (.invokevirtual 85, 3, (0, 139, 0), 0, 928)), (85, (.ireturn, 1, (0, 0, 0), 0, 0)), (86, (.aload_n 0, 1, (0, 0, 0), 0, 0)), (87, (.aload_n 1, 1, (0, 0, 0), 0, 0)), (88, (.invokevirtual 88, 3, (0, 140, 0), 0, 936)), (91, (.ireturn, 1, (0, 0, 0), 0, 0)), (92, (.aload_n 0, 1, (0, 0, 0), 0, 0)), (93, (.aload_n 1, 1, (0, 0, 0), 0, 0)), (94, (.invokevirtual 91, 3, (0, 141, 0), 0, 940))],
  [(97, (.ireturn, 1, (0, 0, 0), 0, 0)), (98, (.aload_n 0, 1, (0, 0, 0), 0, 0)), (99, (.aload_n 1, 1, (0, 0, 0), 0, 0)), (100, (.invokevirtual 94, 3, (0, 142, 0), 0, 944)), (103, (.ireturn, 1, (0, 0, 0), 0, 0)), (104, (.aload_n 0, 1, (0, 0, 0), 0, 0)), (105, (.aload_n 1, 1, (0, 0, 0), 0, 0)), (106, (.invokevirtual 97, 3, (0, 143, 0), 0, 948)), (109, (.ireturn, 1, (0, 0, 0), 0, 0)), (110, (.aload_n 0, 1, (0, 0, 0), 0, 0)), (111, (.aload_n 1, 1, (0, 0, 0), 0, 0)), (112, (.getfield 61, 3, (9, 3, 1), 0, 233)), (115, (.invokevirtual 100, 3, (0, 130, 0), 0, 889)), (118, (.ireturn, 1, (0, 0, 0), 0, 0))]]
set_option maxRecDepth 10000 in
def zp132 : List (List (Nat × ZI)) := [[(0, (.aload_n 1, 1, (0, 0, 0), 0, 0)), (1, (.iconst 5, 1, (0, 0, 0), 5, 0)), (2, (.invokevirtual 104, 3, (0, 182, 1), 0, 899)), (5, (.ifCond .eq 19, 3, (24, 0, 0), 0, 0)), (8, (.aload_n 1, 1, (0, 0, 0), 0, 0)), (9, (.getfield 107, 3, (9, 5, 1), 0, 237)), (12, (.iload_n 2, 1, (0, 0, 0), 0, 0)), (13, (.if_icmp .lt 11, 3, (24, 0, 0), 0, 0)), (16, (.aload_n 1, 1, (0, 0, 0), 0, 0)), (17, (.getfield 107, 3, (9, 5, 1), 0, 237)), (20, (.iload_n 3, 1, (0, 0, 0), 0, 0)), (21, (.if_icmp .le 12, 3, (33, 0, 0), 0, 0)), (24, (.aload_n 0, 1, (0, 0, 0), 0, 0)), (25, (.aload_n 1, 1, (0, 0, 0), 0, 0)), (26, (.getfield 61, 3, (9, 3, 1), 0, 233)), (29, (.invokevirtual 100, 3, (0, 130, 0), 0, 889))],
  [(32, (.ireturn, 1, (0, 0, 0), 0, 0)), (33, (.aload_n 0, 1, (0, 0, 0), 0, 0)), (34, (.aload_n 1, 1, (0, 0, 0), 0, 0)), (35, (.getfield 107, 3, (9, 5, 1), 0, 237)), (38, (.putfield 32, 3, (3, 4, 0), 0, 544)), (41, (.aload_n 0, 1, (0, 0, 0), 0, 0)), (42, (.aload_n 1, 1, (0, 0, 0), 0, 0)), (43, (.getfield 61, 3, (9, 3, 1), 0, 233)), (46, (.putfield 35, 3, (3, 5, 0), 0, 545)), (49, (.aload_n 1, 1, (0, 0, 0), 0, 0)), (50, (.invokevirtual 64, 3, (0, 181, 1), 0, 893)), (53, (.iconst 1, 1, (0, 0, 0), 1, 0)), (54, (.ireturn, 1, (0, 0, 0), 0, 0))]]
set_option maxRecDepth 10000 in
def zp133 : List (List (Nat × ZI)) := [[(0, (.aload_n 0, 1, (0, 0, 0), 0, 0)), (1, (.aload_n 1, 1, (0, 0, 0), 0, 0)), (2, (.iconst 0, 1, (0, 0, 0), 0, 0)), (3, (.aload_n 0, 1, (0, 0, 0), 0, 0)), (4, (.getfield 12, 3, (3, 0, 0), 0, 538)), (7, (.getfield 110, 3, (8, 0, 1), 0, 267)), (10, (.iconst 1, 1, (0, 0, 0), 1, 0)), (11, (.isub, 1, (0, 0, 0), 0, 0)), (12, (.invokevirtual 113, 3, (0, 132, 0), 0, 895)), (15, (.ireturn, 1, (0, 0, 0), 0, 0))]]
set_option maxRecDepth 10000 in
def zp134 : List (List (Nat × ZI)) := [[(0, (.aload_n 0, 1, (0, 0, 0), 0, 0)), (1, (.aload_n 1, 1, (0, 0, 0), 0, 0)), (2, (.iconst 0, 1, (0, 0, 0), 0, 0)), (3, (.iload_n 2, 1, (0, 0, 0), 0, 0)), (4, (.iconst 1, 1, (0, 0, 0), 1, 0)), (5, (.isub, 1, (0, 0, 0), 0, 0)), (6, (.invokevirtual 113, 3, (0, 132, 0), 0, 895)), (9, (.ifCond .ne 5, 3, (14, 0, 0), 0, 0)), (12, (.iconst 0, 1, (0, 0, 0), 0, 0)), (13, (.ireturn, 1, (0, 0, 0), 0, 0)), (14, (.aload_n 0, 1, (0, 0, 0), 0, 0)), (15, (.aload_n 0, 1, (0, 0, 0), 0, 0)), (16, (.getfield 32, 3, (3, 4, 0), 0, 544)), (19, (.putfield 29, 3, (3, 3, 0), 0, 543)), (22, (.aload_n 0, 1, (0, 0, 0), 0, 0)), (23, (.aload_n 1, 1, (0, 0, 0), 0, 0)), (24, (.iconst 0, 1, (0, 0, 0), 0, 0)), (25, (.iload_n 3, 1, (0, 0, 0), 0, 0)), (26, (.invokevirtual 113, 3, (0, 132, 0), 0, 895)), (29, (.ireturn, 1, (0, 0, 0), 0, 0))]]
set_option maxRecDepth 10000 in
def zp135 : List (List (Nat × ZI)) := [[(0, (.aload_n 0, 1, (0, 0, 0), 0, 0)), (1, (.getfield 12, 3, (3, 0, 0), 0, 538)), (4, (.getfield 110, 3, (8, 0, 1), 0, 267)), (7, (.bipush 12, 2, (0, 0, 0), 12, 0)), (9, (.if_icmp .lt 12, 3, (21, 0, 0), 0, 0)), (12, (.aload_n 0, 1, (0, 0, 0), 0, 0)), (13, (.aload_n 1, 1, (0, 0, 0), 0, 0)), (14, (.getfield 61, 3, (9, 3, 1), 0, 233)), (17, (.invokevirtual 100, 3, (0, 130, 0), 0, 889)), (20, (.ireturn, 1, (0, 0, 0), 0, 0)), (21, (.aload_n 1, 1, (0, 0, 0), 0, 0)), (22, (.invokevirtual 64, 3, (0, 181, 1), 0, 893)), (25, (.aload_n 1, 1, (0, 0, 0), 0, 0)), (26, (.ldc 117, 2, (1, 1, 0), 0, 894)), (28, (.invokevirtual 69, 3, (0, 185, 1), 0, 833)), (31, (.istore_n 2, 1, (0, 0, 0), 0, 0))],
  [(32, (.iload_n 2, 1, (0, 0, 0), 0, 0)), (33, (.iconst (-1), 1, (0, 0, 0), (-1), 0)), (34, (.if_icmp .ne 12, 3, (46, 0, 0), 0, 0)), (37, (.aload_n 0, 1, (0, 0, 0), 0, 0)), (38, (.aload_n 1, 1, (0, 0, 0), 0, 0)), (39, (.getfield 61, 3, (9, 3, 1), 0, 233)), (42, (.invokevirtual 100, 3, (0, 130, 0), 0, 889)), (45, (.ireturn, 1, (0, 0, 0), 0, 0)), (46, (.aload_n 1, 1, (0, 0, 0), 0, 0)), (47, (.invokevirtual 64, 3, (0, 181, 1), 0, 893)), (50, (.aload_n 0, 1, (0, 0, 0), 0, 0)), (51, (.aload_n 1, 1, (0, 0, 0), 0, 0)), (52, (.iconst 1, 1, (0, 0, 0), 1, 0)), (53, (.bipush 99, 2, (0, 0, 0), 99, 0)), (55, (.invokevirtual 113, 3, (0, 132, 0), 0, 895)), (58, (.ifCond .ne 5, 3, (63, 0, 0), 0, 0)), (61, (.iconst 0, 1, (0, 0, 0), 0, 0)), (62, (.ireturn, 1, (0, 0, 0), 0, 0)), (63, (.aload_n 0, 1, (0, 0, 0), 0, 0))],
  [(64, (.getfield 12, 3, (3, 0, 0), 0, 538)), (67, (.getfield 119, 3, (8, 4, 1), 0, 283)), (70, (.aload_n 0, 1, (0, 0, 0), 0, 0)), (71, (.getfield 12, 3, (3, 0, 0), 0, 538)), (74, (.getfield 110, 3, (8, 0, 1), 0, 267)), (77, (.iload_n 2, 1, (0, 0, 0), 0, 0)), (78, (.iastore, 1, (0, 0, 0), 0, 0)), (79, (.aload_n 0, 1, (0, 0, 0), 0, 0)), (80, (.getfield 12, 3, (3, 0, 0), 0, 538)), (83, (.getfield 123, 3, (8, 5, 1), 0, 286)), (86, (.aload_n 0, 1, (0, 0, 0), 0, 0)), (87, (.getfield 12, 3, (3, 0, 0), 0, 538)), (90, (.getfield 110, 3, (8, 0, 1), 0, 267)), (93, (.aload_n 0, 1, (0, 0, 0), 0, 0)), (94, (.getfield 32, 3, (3, 4, 0), 0, 544))],
  [(97, (.iastore, 1, (0, 0, 0), 0, 0)), (98, (.aload_n 0, 1, (0, 0, 0), 0, 0)), (99, (.getfield 12, 3, (3, 0, 0), 0, 538)), (102, (.dup, 1, (0, 0, 0), 0, 0)), (103, (.getfield 110, 3, (8, 0, 1), 0, 267)), (106, (.iconst 1, 1, (0, 0, 0), 1, 0)), (107, (.iadd, 1, (0, 0, 0), 0, 0)), (108, (.putfield 110, 3, (8, 0, 1), 0, 267)), (111, (.iconst 1, 1, (0, 0, 0), 1, 0)), (112, (.ireturn, 1, (0, 0, 0), 0, 0))]]
set_option maxRecDepth 10000 in
def zp136 : List (List (Nat × ZI)) := [[(0, (.aload_n 0, 1, (0, 0, 0), 0, 0)), (1, (.getfield 12, 3, (3, 0, 0), 0, 538)), (4, (.getfield 126, 3, (8, 1, 1), 0, 270)), (7, (.bipush 20, 2, (0, 0, 0), 20, 0)), (9, (.if_icmp .lt 12, 3, (21, 0, 0), 0, 0)), (12, (.aload_n 0, 1, (0, 0, 0), 0, 0)), (13, (.aload_n 1, 1, (0, 0, 0), 0, 0)), (14, (.getfield 61, 3, (9, 3, 1), 0, 233)), (17, (.invokevirtual 100, 3, (0, 130, 0), 0, 889)), (20, (.ireturn, 1, (0, 0, 0), 0, 0)), (21, (.aload_n 1, 1, (0, 0, 0), 0, 0)), (22, (.invokevirtual 64, 3, (0, 181, 1), 0, 893)), (25, (.aload_n 0, 1, (0, 0, 0), 0, 0)), (26, (.aload_n 1, 1, (0, 0, 0), 0, 0)), (27, (.aload_n 0, 1, (0, 0, 0), 0, 0)), (28, (.getfield 12, 3, (3, 0, 0), 0, 538)), (31, (.getfield 110, 3, (8, 0, 1), 0, 267))],
  [(34, (.aload_n 0, 1, (0, 0, 0), 0, 0)), (35, (.getfield 12, 3, (3, 0, 0), 0, 538)), (38, (.getfield 110, 3, (8, 0, 1), 0, 267)), (41, (.iconst 1, 1, (0, 0, 0), 1, 0)), (42, (.isub, 1, (0, 0, 0), 0, 0)), (43, (.invokevirtual 129, 3, (0, 134, 0), 0, 907)), (46, (.ifCond .ne 5, 3, (51, 0, 0), 0, 0)), (49, (.iconst 0, 1, (0, 0, 0), 0, 0)), (50, (.ireturn, 1, (0, 0, 0), 0, 0)), (51, (.aload_n 0, 1, (0, 0, 0), 0, 0)), (52, (.getfield 32, 3, (3, 4, 0), 0, 544)), (55, (.aload_n 0, 1, (0, 0, 0), 0, 0)), (56, (.getfield 29, 3, (3, 3, 0), 0, 543)), (59, (.if_icmp .ne 12, 3, (71, 0, 0), 0, 0)), (62, (.aload_n 0, 1, (0, 0, 0), 0, 0)), (63, (.aload_n 0, 1, (0, 0, 0), 0, 0))],
  [(64, (.getfield 35, 3, (3, 5, 0), 0, 545)), (67, (.invokevirtual 100, 3, (0, 130, 0), 0, 889)), (70, (.ireturn, 1, (0, 0, 0), 0, 0)), (71, (.aload_n 0, 1, (0, 0, 0), 0, 0)), (72, (.getfield 12, 3, (3, 0, 0), 0, 538)), (75, (.getfield 132, 3, (8, 6, 1), 0, 289)), (78, (.aload_n 0, 1, (0, 0, 0), 0, 0)), (79, (.getfield 29, 3, (3, 3, 0), 0, 543)), (82, (.dup2, 1, (0, 0, 0), 0, 0)), (83, (.iaload, 1, (0, 0, 0), 0, 0)), (84, (.iconst 1, 1, (0, 0, 0), 1, 0)), (85, (.aload_n 0, 1, (0, 0, 0), 0, 0)), (86, (.getfield 32, 3, (3, 4, 0), 0, 544)), (89, (.ishl, 1, (0, 0, 0), 0, 0)), (90, (.ior, 1, (0, 0, 0), 0, 0)), (91, (.iastore, 1, (0, 0, 0), 0, 0)), (92, (.aload_n 0, 1, (0, 0, 0), 0, 0)), (93, (.getfield 12, 3, (3, 0, 0), 0, 538))],
  [(96, (.getfield 132, 3, (8, 6, 1), 0, 289)), (99, (.aload_n 0, 1, (0, 0, 0), 0, 0)), (100, (.getfield 32, 3, (3, 4, 0), 0, 544)), (103, (.dup2, 1, (0, 0, 0), 0, 0)), (104, (.iaload, 1, (0, 0, 0), 0, 0)), (105, (.iconst 1, 1, (0, 0, 0), 1, 0)), (106, (.aload_n 0, 1, (0, 0, 0), 0, 0)), (107, (.getfield 29, 3, (3, 3, 0), 0, 543)), (110, (.ishl, 1, (0, 0, 0), 0, 0)), (111, (.ior, 1, (0, 0, 0), 0, 0)), (112, (.iastore, 1, (0, 0, 0), 0, 0)), (113, (.aload_n 0, 1, (0, 0, 0), 0, 0)), (114, (.getfield 12, 3, (3, 0, 0), 0, 538)), (117, (.dup, 1, (0, 0, 0), 0, 0)), (118, (.getfield 126, 3, (8, 1, 1), 0, 270)), (121, (.iconst 1, 1, (0, 0, 0), 1, 0)), (122, (.iadd, 1, (0, 0, 0), 0, 0)), (123, (.putfield 126, 3, (8, 1, 1), 0, 270)), (126, (.iconst 1, 1, (0, 0, 0), 1, 0)), (127, (.ireturn, 1, (0, 0, 0), 0, 0))]]
set_option maxRecDepth 10000 in
def zp137 : List (List (Nat × ZI)) := [[(0, (.aload_n 0, 1, (0, 0, 0), 0, 0)), (1, (.getfield 12, 3, (3, 0, 0), 0, 538)), (4, (.getfield 135, 3, (8, 2, 1), 0, 275)), (7, (.istore_n 2, 1, (0, 0, 0), 0, 0)), (8, (.iload_n 2, 1, (0, 0, 0), 0, 0)), (9, (.bipush 8, 2, (0, 0, 0), 8, 0)), (11, (.if_icmp .lt 12, 3, (23, 0, 0), 0, 0)), (14, (.aload_n 0, 1, (0, 0, 0), 0, 0)), (15, (.aload_n 1, 1, (0, 0, 0), 0, 0)), (16, (.getfield 61, 3, (9, 3, 1), 0, 233)), (19, (.invokevirtual 100, 3, (0, 130, 0), 0, 889)), (22, (.ireturn, 1, (0, 0, 0), 0, 0)), (23, (.aload_n 1, 1, (0, 0, 0), 0, 0)), (24, (.invokevirtual 64, 3, (0, 181, 1), 0, 893)), (27, (.iconst 0, 1, (0, 0, 0), 0, 0)), (28, (.istore_n 3, 1, (0, 0, 0), 0, 0)), (29, (.iconst 0, 1, (0, 0, 0), 0, 0)), (30, (.istore 4, 2, (0, 0, 0), 0, 0))],
  [(32, (.iconst 0, 1, (0, 0, 0), 0, 0)), (33, (.istore 5, 2, (0, 0, 0), 0, 0)), (35, (.iload_n 3, 1, (0, 0, 0), 0, 0)), (36, (.bipush 12, 2, (0, 0, 0), 12, 0)), (38, (.if_icmp .lt 12, 3, (50, 0, 0), 0, 0)), (41, (.aload_n 0, 1, (0, 0, 0), 0, 0)), (42, (.aload_n 1, 1, (0, 0, 0), 0, 0)), (43, (.getfield 61, 3, (9, 3, 1), 0, 233)), (46, (.invokevirtual 100, 3, (0, 130, 0), 0, 889)), (49, (.ireturn, 1, (0, 0, 0), 0, 0)), (50, (.aload_n 0, 1, (0, 0, 0), 0, 0)), (51, (.aload_n 1, 1, (0, 0, 0), 0, 0)), (52, (.invokevirtual 138, 3, (0, 133, 0), 0, 915)), (55, (.ifCond .ne 5, 3, (60, 0, 0), 0, 0)), (58, (.iconst 0, 1, (0, 0, 0), 0, 0)), (59, (.ireturn, 1, (0, 0, 0), 0, 0)), (60, (.iload_n 3, 1, (0, 0, 0), 0, 0)), (61, (.ifCond .ne 12, 3, (73, 0, 0), 0, 0))],
  [(64, (.aload_n 0, 1, (0, 0, 0), 0, 0)), (65, (.getfield 32, 3, (3, 4, 0), 0, 544)), (68, (.istore 4, 2, (0, 0, 0), 0, 0)), (70, (.goto 28, 3, (98, 0, 0), 0, 0)), (73, (.aload_n 0, 1, (0, 0, 0), 0, 0)), (74, (.getfield 12, 3, (3, 0, 0), 0, 538)), (77, (.iload 5, 2, (0, 0, 0), 0, 0)), (79, (.aload_n 0, 1, (0, 0, 0), 0, 0)), (80, (.getfield 32, 3, (3, 4, 0), 0, 544)), (83, (.invokevirtual 141, 3, (0, 171, 1), 0, 919)), (86, (.ifCond .ne 12, 3, (98, 0, 0), 0, 0)), (89, (.aload_n 0, 1, (0, 0, 0), 0, 0)), (90, (.aload_n 0, 1, (0, 0, 0), 0, 0)), (91, (.getfield 35, 3, (3, 5, 0), 0, 545)), (94, (.invokevirtual 100, 3, (0, 130, 0), 0, 889))],
  [(97, (.ireturn, 1, (0, 0, 0), 0, 0)), (98, (.aload_n 0, 1, (0, 0, 0), 0, 0)), (99, (.getfield 32, 3, (3, 4, 0), 0, 544)), (102, (.istore 5, 2, (0, 0, 0), 0, 0)), (104, (.aload_n 0, 1, (0, 0, 0), 0, 0)), (105, (.getfield 12, 3, (3, 0, 0), 0, 538)), (108, (.getfield 145, 3, (8, 8, 1), 0, 295)), (111, (.iload_n 2, 1, (0, 0, 0), 0, 0)), (112, (.bipush 12, 2, (0, 0, 0), 12, 0)), (114, (.imul, 1, (0, 0, 0), 0, 0)), (115, (.iload_n 3, 1, (0, 0, 0), 0, 0)), (116, (.iadd, 1, (0, 0, 0), 0, 0)), (117, (.aload_n 0, 1, (0, 0, 0), 0, 0)), (118, (.getfield 32, 3, (3, 4, 0), 0, 544)), (121, (.iastore, 1, (0, 0, 0), 0, 0)), (122, (.iinc 3 1, 3, (0, 0, 0), 1, 0)), (125, (.aload_n 1, 1, (0, 0, 0), 0, 0)), (126, (.getfield 50, 3, (9, 2, 1), 0, 230))],
  [(129, (.iconst 1, 1, (0, 0, 0), 1, 0)), (130, (.if_icmp .eq (-95), 3, (35, 0, 0), 0, 0)), (133, (.aload_n 0, 1, (0, 0, 0), 0, 0)), (134, (.getfield 12, 3, (3, 0, 0), 0, 538)), (137, (.iload 5, 2, (0, 0, 0), 0, 0)), (139, (.iload 4, 2, (0, 0, 0), 0, 0)), (141, (.invokevirtual 141, 3, (0, 171, 1), 0, 919)), (144, (.ifCond .ne 12, 3, (156, 0, 0), 0, 0)), (147, (.aload_n 0, 1, (0, 0, 0), 0, 0)), (148, (.aload_n 0, 1, (0, 0, 0), 0, 0)), (149, (.getfield 35, 3, (3, 5, 0), 0, 545)), (152, (.invokevirtual 100, 3, (0, 130, 0), 0, 889)), (155, (.ireturn, 1, (0, 0, 0), 0, 0)), (156, (.aload_n 0, 1, (0, 0, 0), 0, 0)), (157, (.getfield 12, 3, (3, 0, 0), 0, 538))],
  [(160, (.getfield 148, 3, (8, 7, 1), 0, 293)), (163, (.iload_n 2, 1, (0, 0, 0), 0, 0)), (164, (.iload_n 3, 1, (0, 0, 0), 0, 0)), (165, (.iastore, 1, (0, 0, 0), 0, 0)), (166, (.aload_n 0, 1, (0, 0, 0), 0, 0)), (167, (.getfield 21, 3, (3, 1, 0), 0, 540)), (170, (.getfield 151, 3, (0, 2, 1), 0, 382)), (173, (.iload_n 2, 1, (0, 0, 0), 0, 0)), (174, (.bipush 100, 2, (0, 0, 0), 100, 0)), (176, (.iastore, 1, (0, 0, 0), 0, 0)), (177, (.aload_n 0, 1, (0, 0, 0), 0, 0)), (178, (.getfield 12, 3, (3, 0, 0), 0, 538)), (181, (.dup, 1, (0, 0, 0), 0, 0)), (182, (.getfield 135, 3, (8, 2, 1), 0, 275)), (185, (.iconst 1, 1, (0, 0, 0), 1, 0)), (186, (.iadd, 1, (0, 0, 0), 0, 0)), (187, (.putfield 135, 3, (8, 2, 1), 0, 275)), (190, (.iconst 1, 1, (0, 0, 0), 1, 0)), (191, (.ireturn, 1, (0, 0, 0), 0, 0))]]
set_option maxRecDepth 10000 in
def zp138 : List (List (Nat × ZI)) := [[(0, (.aload_n 1, 1, (0, 0, 0), 0, 0)), (1, (.invokevirtual 64, 3, (0, 181, 1), 0, 893)), (4, (.aload_n 0, 1, (0, 0, 0), 0, 0)), (5, (.aload_n 1, 1, (0, 0, 0), 0, 0)), (6, (.aload_n 0, 1, (0, 0, 0), 0, 0)), (7, (.getfield 12, 3, (3, 0, 0), 0, 538)), (10, (.getfield 135, 3, (8, 2, 1), 0, 275)), (13, (.sipush 9999, 3, (0, 0, 0), 9999, 0)), (16, (.invokevirtual 129, 3, (0, 134, 0), 0, 907)), (19, (.ifCond .ne 5, 3, (24, 0, 0), 0, 0)), (22, (.iconst 0, 1, (0, 0, 0), 0, 0)), (23, (.ireturn, 1, (0, 0, 0), 0, 0)), (24, (.aload_n 0, 1, (0, 0, 0), 0, 0)), (25, (.getfield 21, 3, (3, 1, 0), 0, 540)), (28, (.aload_n 0, 1, (0, 0, 0), 0, 0)), (29, (.getfield 29, 3, (3, 3, 0), 0, 543))],
  [(32, (.aload_n 0, 1, (0, 0, 0), 0, 0)), (33, (.getfield 32, 3, (3, 4, 0), 0, 544)), (36, (.invokevirtual 154, 3, (0, 98, 1), 0, 927)), (39, (.iconst 1, 1, (0, 0, 0), 1, 0)), (40, (.ireturn, 1, (0, 0, 0), 0, 0))]]
set_option maxRecDepth 10000 in
def zp139 : List (List (Nat × ZI)) := [[(0, (.aload_n 1, 1, (0, 0, 0), 0, 0)), (1, (.invokevirtual 64, 3, (0, 181, 1), 0, 893)), (4, (.aload_n 0, 1, (0, 0, 0), 0, 0)), (5, (.aload_n 1, 1, (0, 0, 0), 0, 0)), (6, (.invokevirtual 138, 3, (0, 133, 0), 0, 915)), (9, (.ifCond .ne 5, 3, (14, 0, 0), 0, 0)), (12, (.iconst 0, 1, (0, 0, 0), 0, 0)), (13, (.ireturn, 1, (0, 0, 0), 0, 0)), (14, (.aload_n 0, 1, (0, 0, 0), 0, 0)), (15, (.getfield 32, 3, (3, 4, 0), 0, 544)), (18, (.istore_n 2, 1, (0, 0, 0), 0, 0)), (19, (.aload_n 0, 1, (0, 0, 0), 0, 0)), (20, (.aload_n 1, 1, (0, 0, 0), 0, 0)), (21, (.aload_n 0, 1, (0, 0, 0), 0, 0)), (22, (.getfield 12, 3, (3, 0, 0), 0, 538)), (25, (.getfield 135, 3, (8, 2, 1), 0, 275)), (28, (.sipush 9999, 3, (0, 0, 0), 9999, 0)), (31, (.invokevirtual 129, 3, (0, 134, 0), 0, 907))],
  [(34, (.ifCond .ne 5, 3, (39, 0, 0), 0, 0)), (37, (.iconst 0, 1, (0, 0, 0), 0, 0)), (38, (.ireturn, 1, (0, 0, 0), 0, 0)), (39, (.aload_n 0, 1, (0, 0, 0), 0, 0)), (40, (.getfield 21, 3, (3, 1, 0), 0, 540)), (43, (.iload_n 2, 1, (0, 0, 0), 0, 0)), (44, (.aload_n 0, 1, (0, 0, 0), 0, 0)), (45, (.getfield 29, 3, (3, 3, 0), 0, 543)), (48, (.aload_n 0, 1, (0, 0, 0), 0, 0)), (49, (.getfield 32, 3, (3, 4, 0), 0, 544)), (52, (.invokevirtual 158, 3, (0, 99, 1), 0, 932)), (55, (.iconst 1, 1, (0, 0, 0), 1, 0)), (56, (.ireturn, 1, (0, 0, 0), 0, 0))]]
set_option maxRecDepth 10000 in
def zp140 : List (List (Nat × ZI)) := [[(0, (.aload_n 1, 1, (0, 0, 0), 0, 0)), (1, (.invokevirtual 64, 3, (0, 181, 1), 0, 893)), (4, (.aload_n 0, 1, (0, 0, 0), 0, 0)), (5, (.aload_n 1, 1, (0, 0, 0), 0, 0)), (6, (.aload_n 0, 1, (0, 0, 0), 0, 0)), (7, (.getfield 12, 3, (3, 0, 0), 0, 538)), (10, (.getfield 110, 3, (8, 0, 1), 0, 267)), (13, (.bipush 100, 2, (0, 0, 0), 100, 0)), (15, (.invokevirtual 129, 3, (0, 134, 0), 0, 907)), (18, (.ifCond .ne 5, 3, (23, 0, 0), 0, 0)), (21, (.iconst 0, 1, (0, 0, 0), 0, 0)), (22, (.ireturn, 1, (0, 0, 0), 0, 0)), (23, (.aload_n 0, 1, (0, 0, 0), 0, 0)), (24, (.getfield 21, 3, (3, 1, 0), 0, 540)), (27, (.getfield 162, 3, (0, 0, 1), 0, 373)), (30, (.aload_n 0, 1, (0, 0, 0), 0, 0)), (31, (.getfield 29, 3, (3, 3, 0), 0, 543))],
  [(34, (.aload_n 0, 1, (0, 0, 0), 0, 0)), (35, (.getfield 32, 3, (3, 4, 0), 0, 544)), (38, (.iastore, 1, (0, 0, 0), 0, 0)), (39, (.iconst 1, 1, (0, 0, 0), 1, 0)), (40, (.ireturn, 1, (0, 0, 0), 0, 0))]]
set_option maxRecDepth 10000 in
def zp141 : List (List (Nat × ZI)) := [[(0, (.aload_n 1, 1, (0, 0, 0), 0, 0)), (1, (.invokevirtual 64, 3, (0, 181, 1), 0, 893)), (4, (.aload_n 0, 1, (0, 0, 0), 0, 0)), (5, (.aload_n 1, 1, (0, 0, 0), 0, 0)), (6, (.aload_n 0, 1, (0, 0, 0), 0, 0)), (7, (.getfield 12, 3, (3, 0, 0), 0, 538)), (10, (.getfield 135, 3, (8, 2, 1), 0, 275)), (13, (.bipush 100, 2, (0, 0, 0), 100, 0)), (15, (.invokevirtual 129, 3, (0, 134, 0), 0, 907)), (18, (.ifCond .ne 5, 3, (23, 0, 0), 0, 0)), (21, (.iconst 0, 1, (0, 0, 0), 0, 0)), (22, (.ireturn, 1, (0, 0, 0), 0, 0)), (23, (.aload_n 0, 1, (0, 0, 0), 0, 0)), (24, (.getfield 21, 3, (3, 1, 0), 0, 540)), (27, (.getfield 151, 3, (0, 2, 1), 0, 382)), (30, (.aload_n 0, 1, (0, 0, 0), 0, 0)), (31, (.getfield 29, 3, (3, 3, 0), 0, 543))],
  [(34, (.aload_n 0, 1, (0, 0, 0), 0, 0)), (35, (.getfield 32, 3, (3, 4, 0), 0, 544)), (38, (.iastore, 1, (0, 0, 0), 0, 0)), (39, (.iconst 1, 1, (0, 0, 0), 1, 0)), (40, (.ireturn, 1, (0, 0, 0), 0, 0))]]
set_option maxRecDepth 10000 in
def zp142 : List (List (Nat × ZI)) := [[(0, (.aload_n 1, 1, (0, 0, 0), 0, 0)), (1, (.invokevirtual 64, 3, (0, 181, 1), 0, 893)), (4, (.aload_n 0, 1, (0, 0, 0), 0, 0)), (5, (.aload_n 1, 1, (0, 0, 0), 0, 0)), (6, (.aload_n 0, 1, (0, 0, 0), 0, 0)), (7, (.getfield 12, 3, (3, 0, 0), 0, 538)), (10, (.getfield 135, 3, (8, 2, 1), 0, 275)), (13, (.bipush 99, 2, (0, 0, 0), 99, 0)), (15, (.invokevirtual 129, 3, (0, 134, 0), 0, 907)), (18, (.ifCond .ne 5, 3, (23, 0, 0), 0, 0)), (21, (.iconst 0, 1, (0, 0, 0), 0, 0)), (22, (.ireturn, 1, (0, 0, 0), 0, 0)), (23, (.aload_n 0, 1, (0, 0, 0), 0, 0)), (24, (.getfield 21, 3, (3, 1, 0), 0, 540)), (27, (.getfield 165, 3, (0, 3, 1), 0, 386)), (30, (.aload_n 0, 1, (0, 0, 0), 0, 0)), (31, (.getfield 29, 3, (3, 3, 0), 0, 543))],
  [(34, (.aload_n 0, 1, (0, 0, 0), 0, 0)), (35, (.getfield 32, 3, (3, 4, 0), 0, 544)), (38, (.iastore, 1, (0, 0, 0), 0, 0)), (39, (.iconst 1, 1, (0, 0, 0), 1, 0)), (40, (.ireturn, 1, (0, 0, 0), 0, 0))]]
set_option maxRecDepth 10000 in
def zp143 : List (List (Nat × ZI)) := [[(0, (.aload_n 1, 1, (0, 0, 0), 0, 0)), (1, (.invokevirtual 64, 3, (0, 181, 1), 0, 893)), (4, (.aload_n 0, 1, (0, 0, 0), 0, 0)), (5, (.aload_n 1, 1, (0, 0, 0), 0, 0)), (6, (.iconst 0, 1, (0, 0, 0), 0, 0)), (7, (.ldc 168, 2, (0, 0, 0), 99999, 952)), (9, (.invokevirtual 113, 3, (0, 132, 0), 0, 895)), (12, (.ifCond .ne 5, 3, (17, 0, 0), 0, 0)), (15, (.iconst 0, 1, (0, 0, 0), 0, 0)), (16, (.ireturn, 1, (0, 0, 0), 0, 0)), (17, (.aload_n 0, 1, (0, 0, 0), 0, 0)), (18, (.getfield 21, 3, (3, 1, 0), 0, 540)), (21, (.aload_n 0, 1, (0, 0, 0), 0, 0)), (22, (.getfield 32, 3, (3, 4, 0), 0, 544)), (25, (.putfield 169, 3, (0, 9, 1), 0, 404)), (28, (.iconst 1, 1, (0, 0, 0), 1, 0)), (29, (.ireturn, 1, (0, 0, 0), 0, 0))]]
set_option maxRecDepth 10000 in
def zp144 : List (List (Nat × ZI)) := [[(0, (.aload_n 0, 1, (0, 0, 0), 0, 0)), (1, (.invokespecial 1, 3, (1, 0, 0), 0, 487)), (4, (.aload_n 0, 1, (0, 0, 0), 0, 0)), (5, (.new 7, 3, (0, 8, 0), 0, 488)), (8, (.dup, 1, (0, 0, 0), 0, 0)), (9, (.invokespecial 9, 3, (0, 169, 1), 0, 489)), (12, (.putfield 10, 3, (4, 0, 0), 0, 496)), (15, (.aload_n 0, 1, (0, 0, 0), 0, 0)), (16, (.new 16, 3, (0, 5, 0), 0, 490)), (19, (.dup, 1, (0, 0, 0), 0, 0)), (20, (.invokespecial 18, 3, (0, 147, 1), 0, 491)), (23, (.putfield 19, 3, (4, 1, 0), 0, 497)), (26, (.aload_n 0, 1, (0, 0, 0), 0, 0)), (27, (.new 23, 3, (0, 0, 0), 0, 492)), (30, (.dup, 1, (0, 0, 0), 0, 0)), (31, (.invokespecial 25, 3, (0, 90, 1), 0, 493))],
  [(34, (.putfield 26, 3, (4, 2, 0), 0, 498)), (37, (.aload_n 0, 1, (0, 0, 0), 0, 0)), (38, (.new 30, 3, (0, 1, 0), 0, 494)), (41, (.dup, 1, (0, 0, 0), 0, 0)), (42, (.invokespecial 32, 3, (0, 107, 1), 0, 495)), (45, (.putfield 33, 3, (4, 3, 0), 0, 499)), (48, (.aload_n 0, 1, (0, 0, 0), 0, 0)), (49, (.iconst 0, 1, (0, 0, 0), 0, 0)), (50, (.putfield 37, 3, (4, 4, 0), 1, 500)), (53, (.return_, 1, (0, 0, 0), 0, 0))]]
set_option maxRecDepth 10000 in
def zp145 : List (List (Nat × ZI)) := [[(0, (.aload_n 0, 1, (0, 0, 0), 0, 0)), (1, (.getfield 10, 3, (4, 0, 0), 0, 496)), (4, (.aload_n 1, 1, (0, 0, 0), 0, 0)), (5, (.getfield 41, 3, (2, 0, 1), 0, 349)), (8, (.invokevirtual 44, 3, (0, 170, 1), 0, 768)), (11, (.aload_n 0, 1, (0, 0, 0), 0, 0)), (12, (.getfield 19, 3, (4, 1, 0), 0, 497)), (15, (.aload_n 1, 1, (0, 0, 0), 0, 0)), (16, (.getfield 48, 3, (2, 1, 1), 0, 353)), (19, (.invokevirtual 49, 3, (0, 148, 1), 0, 773)), (22, (.aload_n 0, 1, (0, 0, 0), 0, 0)), (23, (.getfield 26, 3, (4, 2, 0), 0, 498)), (26, (.aload_n 2, 1, (0, 0, 0), 0, 0)), (27, (.invokevirtual 52, 3, (0, 91, 1), 0, 778)), (30, (.aload_n 0, 1, (0, 0, 0), 0, 0)), (31, (.getfield 33, 3, (4, 3, 0), 0, 499))],
  [(34, (.aload_n 3, 1, (0, 0, 0), 0, 0)), (35, (.invokevirtual 55, 3, (0, 108, 1), 0, 779)), (38, (.aload_n 0, 1, (0, 0, 0), 0, 0)), (39, (.iconst 1, 1, (0, 0, 0), 1, 0)), (40, (.putfield 37, 3, (4, 4, 0), 1, 500)), (43, (.return_, 1, (0, 0, 0), 0, 0))]]
set_option maxRecDepth 10000 in
def zp146 : List (List (Nat × ZI)) := [[(0, (.aload_n 1, 1, (0, 0, 0), 0, 0)), (1, (.getfield 41, 3, (2, 0, 1), 0, 349)), (4, (.aload_n 0, 1, (0, 0, 0), 0, 0)), (5, (.getfield 10, 3, (4, 0, 0), 0, 496)), (8, (.invokevirtual 44, 3, (0, 170, 1), 0, 768)), (11, (.aload_n 1, 1, (0, 0, 0), 0, 0)), (12, (.getfield 48, 3, (2, 1, 1), 0, 353)), (15, (.aload_n 0, 1, (0, 0, 0), 0, 0)), (16, (.getfield 19, 3, (4, 1, 0), 0, 497)), (19, (.invokevirtual 49, 3, (0, 148, 1), 0, 773)), (22, (.aload_n 2, 1, (0, 0, 0), 0, 0)), (23, (.aload_n 0, 1, (0, 0, 0), 0, 0)), (24, (.getfield 26, 3, (4, 2, 0), 0, 498)), (27, (.invokevirtual 52, 3, (0, 91, 1), 0, 778)), (30, (.aload_n 3, 1, (0, 0, 0), 0, 0)), (31, (.aload_n 0, 1, (0, 0, 0), 0, 0))],
  [(32, (.getfield 33, 3, (4, 3, 0), 0, 499)), (35, (.invokevirtual 55, 3, (0, 108, 1), 0, 779)), (38, (.return_, 1, (0, 0, 0), 0, 0))]]
set_option maxRecDepth 10000 in
def zp147 : List (List (Nat × ZI)) := [[(0, (.aload_n 0, 1, (0, 0, 0), 0, 0)), (1, (.invokespecial 3, 3, (1, 0, 0), 0, 320)), (4, (.aload_n 0, 1, (0, 0, 0), 0, 0)), (5, (.iconst (-1), 1, (0, 0, 0), (-1), 0)), (6, (.putfield 9, 3, (5, 0, 0), 0, 321)), (9, (.aload_n 0, 1, (0, 0, 0), 0, 0)), (10, (.iconst 0, 1, (0, 0, 0), 0, 0)), (11, (.putfield 15, 3, (5, 1, 0), 0, 323)), (14, (.aload_n 0, 1, (0, 0, 0), 0, 0)), (15, (.bipush 12, 2, (0, 0, 0), 12, 0)), (17, (.newarray .int, 2, (0, 0, 0), 0, 251)), (19, (.putfield 18, 3, (5, 2, 0), 0, 324)), (22, (.aload_n 0, 1, (0, 0, 0), 0, 0)), (23, (.bipush 12, 2, (0, 0, 0), 12, 0)), (25, (.newarray .int, 2, (0, 0, 0), 0, 251)), (27, (.putfield 22, 3, (5, 3, 0), 0, 325)), (30, (.aload_n 0, 1, (0, 0, 0), 0, 0)), (31, (.bipush 12, 2, (0, 0, 0), 12, 0))],
  [(33, (.newarray .int, 2, (0, 0, 0), 0, 251)), (35, (.putfield 25, 3, (5, 4, 0), 0, 326)), (38, (.aload_n 0, 1, (0, 0, 0), 0, 0)), (39, (.bipush 12, 2, (0, 0, 0), 12, 0)), (41, (.newarray .int, 2, (0, 0, 0), 0, 251)), (43, (.putfield 28, 3, (5, 5, 0), 0, 327)), (46, (.aload_n 0, 1, (0, 0, 0), 0, 0)), (47, (.sipush 400, 3, (0, 0, 0), 400, 0)), (50, (.newarray .int, 2, (0, 0, 0), 0, 251)), (52, (.putfield 31, 3, (5, 6, 0), 0, 328)), (55, (.aload_n 0, 1, (0, 0, 0), 0, 0)), (56, (.bipush 32, 2, (0, 0, 0), 32, 0)), (58, (.newarray .long, 2, (2, 0, 0), 0, 347)), (60, (.putfield 34, 3, (5, 7, 0), 0, 329)), (63, (.return_, 1, (0, 0, 0), 0, 0))]]
set_option maxRecDepth 10000 in
def zp148 : List (List (Nat × ZI)) := [[(0, (.aload_n 0, 1, (0, 0, 0), 0, 0)), (1, (.aload_n 1, 1, (0, 0, 0), 0, 0)), (2, (.getfield 9, 3, (5, 0, 0), 0, 321)), (5, (.putfield 9, 3, (5, 0, 0), 0, 321)), (8, (.aload_n 0, 1, (0, 0, 0), 0, 0)), (9, (.aload_n 1, 1, (0, 0, 0), 0, 0)), (10, (.getfield 15, 3, (5, 1, 0), 0, 323)), (13, (.putfield 15, 3, (5, 1, 0), 0, 323)), (16, (.aload_n 1, 1, (0, 0, 0), 0, 0)), (17, (.getfield 18, 3, (5, 2, 0), 0, 324)), (20, (.iconst 0, 1, (0, 0, 0), 0, 0)), (21, (.aload_n 0, 1, (0, 0, 0), 0, 0)), (22, (.getfield 18, 3, (5, 2, 0), 0, 324)), (25, (.iconst 0, 1, (0, 0, 0), 0, 0)), (26, (.bipush 12, 2, (0, 0, 0), 12, 0)), (28, (.invokestatic 38, 3, (6, 0, 0), 0, 777)), (31, (.aload_n 1, 1, (0, 0, 0), 0, 0))],
  [(32, (.getfield 22, 3, (5, 3, 0), 0, 325)), (35, (.iconst 0, 1, (0, 0, 0), 0, 0)), (36, (.aload_n 0, 1, (0, 0, 0), 0, 0)), (37, (.getfield 22, 3, (5, 3, 0), 0, 325)), (40, (.iconst 0, 1, (0, 0, 0), 0, 0)), (41, (.bipush 12, 2, (0, 0, 0), 12, 0)), (43, (.invokestatic 38, 3, (6, 0, 0), 0, 777)), (46, (.aload_n 1, 1, (0, 0, 0), 0, 0)), (47, (.getfield 25, 3, (5, 4, 0), 0, 326)), (50, (.iconst 0, 1, (0, 0, 0), 0, 0)), (51, (.aload_n 0, 1, (0, 0, 0), 0, 0)), (52, (.getfield 25, 3, (5, 4, 0), 0, 326)), (55, (.iconst 0, 1, (0, 0, 0), 0, 0)), (56, (.bipush 12, 2, (0, 0, 0), 12, 0)), (58, (.invokestatic 38, 3, (6, 0, 0), 0, 777)), (61, (.aload_n 1, 1, (0, 0, 0), 0, 0)), (62, (.getfield 28, 3, (5, 5, 0), 0, 327))],
  [(65, (.iconst 0, 1, (0, 0, 0), 0, 0)), (66, (.aload_n 0, 1, (0, 0, 0), 0, 0)), (67, (.getfield 28, 3, (5, 5, 0), 0, 327)), (70, (.iconst 0, 1, (0, 0, 0), 0, 0)), (71, (.bipush 12, 2, (0, 0, 0), 12, 0)), (73, (.invokestatic 38, 3, (6, 0, 0), 0, 777)), (76, (.aload_n 1, 1, (0, 0, 0), 0, 0)), (77, (.getfield 31, 3, (5, 6, 0), 0, 328)), (80, (.iconst 0, 1, (0, 0, 0), 0, 0)), (81, (.aload_n 0, 1, (0, 0, 0), 0, 0)), (82, (.getfield 31, 3, (5, 6, 0), 0, 328)), (85, (.iconst 0, 1, (0, 0, 0), 0, 0)), (86, (.sipush 400, 3, (0, 0, 0), 400, 0)), (89, (.invokestatic 38, 3, (6, 0, 0), 0, 777)), (92, (.return_, 1, (0, 0, 0), 0, 0))]]
set_option maxRecDepth 10000 in
def zp149 : List (List (Nat × ZI)) := [[(0, (.aload_n 0, 1, (0, 0, 0), 0, 0)), (1, (.iconst 0, 1, (0, 0, 0), 0, 0)), (2, (.putfield 9, 3, (5, 0, 0), 0, 321)), (5, (.aload_n 0, 1, (0, 0, 0), 0, 0)), (6, (.iconst 0, 1, (0, 0, 0), 0, 0)), (7, (.putfield 15, 3, (5, 1, 0), 0, 323)), (10, (.return_, 1, (0, 0, 0), 0, 0))]]
set_option maxRecDepth 10000 in
def zp150 : List (List (Nat × ZI)) := [[(0, (.aload_n 0, 1, (0, 0, 0), 0, 0)), (1, (.getfield 9, 3, (5, 0, 0), 0, 321)), (4, (.bipush 12, 2, (0, 0, 0), 12, 0)), (6, (.if_icmp .ge 36, 3, (42, 0, 0), 0, 0)), (9, (.aload_n 0, 1, (0, 0, 0), 0, 0)), (10, (.getfield 18, 3, (5, 2, 0), 0, 324)), (13, (.aload_n 0, 1, (0, 0, 0), 0, 0)), (14, (.getfield 9, 3, (5, 0, 0), 0, 321)), (17, (.iload_n 1, 1, (0, 0, 0), 0, 0)), (18, (.iastore, 1, (0, 0, 0), 0, 0)), (19, (.aload_n 0, 1, (0, 0, 0), 0, 0)), (20, (.getfield 22, 3, (5, 3, 0), 0, 325)), (23, (.aload_n 0, 1, (0, 0, 0), 0, 0)), (24, (.getfield 9, 3, (5, 0, 0), 0, 321)), (27, (.iload_n 2, 1, (0, 0, 0), 0, 0)), (28, (.iastore, 1, (0, 0, 0), 0, 0)), (29, (.aload_n 0, 1, (0, 0, 0), 0, 0)), (30, (.getfield 25, 3, (5, 4, 0), 0, 326))],
  [(33, (.aload_n 0, 1, (0, 0, 0), 0, 0)), (34, (.getfield 9, 3, (5, 0, 0), 0, 321)), (37, (.aload_n 0, 1, (0, 0, 0), 0, 0)), (38, (.getfield 15, 3, (5, 1, 0), 0, 323)), (41, (.iastore, 1, (0, 0, 0), 0, 0)), (42, (.return_, 1, (0, 0, 0), 0, 0))]]
set_option maxRecDepth 10000 in
def zp151 : List (List (Nat × ZI)) := [[(0, (.aload_n 0, 1, (0, 0, 0), 0, 0)), (1, (.getfield 9, 3, (5, 0, 0), 0, 321)), (4, (.bipush 12, 2, (0, 0, 0), 12, 0)), (6, (.if_icmp .ge 26, 3, (32, 0, 0), 0, 0)), (9, (.aload_n 0, 1, (0, 0, 0), 0, 0)), (10, (.getfield 28, 3, (5, 5, 0), 0, 327)), (13, (.aload_n 0, 1, (0, 0, 0), 0, 0)), (14, (.getfield 9, 3, (5, 0, 0), 0, 321)), (17, (.aload_n 0, 1, (0, 0, 0), 0, 0)), (18, (.getfield 15, 3, (5, 1, 0), 0, 323)), (21, (.iastore, 1, (0, 0, 0), 0, 0)), (22, (.aload_n 0, 1, (0, 0, 0), 0, 0)), (23, (.dup, 1, (0, 0, 0), 0, 0)), (24, (.getfield 9, 3, (5, 0, 0), 0, 321)), (27, (.iconst 1, 1, (0, 0, 0), 1, 0)), (28, (.iadd, 1, (0, 0, 0), 0, 0)), (29, (.putfield 9, 3, (5, 0, 0), 0, 321))],
  [(32, (.return_, 1, (0, 0, 0), 0, 0))]]
set_option maxRecDepth 10000 in
def zp152 : List (List (Nat × ZI)) := [[(0, (.aload_n 0, 1, (0, 0, 0), 0, 0)), (1, (.getfield 15, 3, (5, 1, 0), 0, 323)), (4, (.sipush 400, 3, (0, 0, 0), 400, 0)), (7, (.if_icmp .ge 23, 3, (30, 0, 0), 0, 0)), (10, (.aload_n 0, 1, (0, 0, 0), 0, 0)), (11, (.getfield 31, 3, (5, 6, 0), 0, 328)), (14, (.aload_n 0, 1, (0, 0, 0), 0, 0)), (15, (.getfield 15, 3, (5, 1, 0), 0, 323)), (18, (.iload_n 1, 1, (0, 0, 0), 0, 0)), (19, (.iastore, 1, (0, 0, 0), 0, 0)), (20, (.aload_n 0, 1, (0, 0, 0), 0, 0)), (21, (.dup, 1, (0, 0, 0), 0, 0)), (22, (.getfield 15, 3, (5, 1, 0), 0, 323)), (25, (.iconst 1, 1, (0, 0, 0), 1, 0)), (26, (.iadd, 1, (0, 0, 0), 0, 0)), (27, (.putfield 15, 3, (5, 1, 0), 0, 323)), (30, (.return_, 1, (0, 0, 0), 0, 0))]]
set_option maxRecDepth 10000 in
def zp153 : List (List (Nat × ZI)) := [[(0, (.aload_n 0, 1, (0, 0, 0), 0, 0)), (1, (.getfield 9, 3, (5, 0, 0), 0, 321)), (4, (.iconst (-1), 1, (0, 0, 0), (-1), 0)), (5, (.if_icmp .ne 9, 3, (14, 0, 0), 0, 0)), (8, (.iload_n 1, 1, (0, 0, 0), 0, 0)), (9, (.aload_n 2, 1, (0, 0, 0), 0, 0)), (10, (.invokestatic 44, 3, (0, 154, 0), 0, 665)), (13, (.ireturn, 1, (0, 0, 0), 0, 0)), (14, (.iconst 0, 1, (0, 0, 0), 0, 0)), (15, (.istore_n 3, 1, (0, 0, 0), 0, 0)), (16, (.iconst 0, 1, (0, 0, 0), 0, 0)), (17, (.istore 4, 2, (0, 0, 0), 0, 0)), (19, (.iload 4, 2, (0, 0, 0), 0, 0)), (21, (.aload_n 0, 1, (0, 0, 0), 0, 0)), (22, (.getfield 9, 3, (5, 0, 0), 0, 321)), (25, (.if_icmp .ge 40, 3, (65, 0, 0), 0, 0)), (28, (.aload_n 0, 1, (0, 0, 0), 0, 0)), (29, (.getfield 18, 3, (5, 2, 0), 0, 324))],
  [(32, (.iload 4, 2, (0, 0, 0), 0, 0)), (34, (.iaload, 1, (0, 0, 0), 0, 0)), (35, (.iload_n 1, 1, (0, 0, 0), 0, 0)), (36, (.if_icmp .ne 23, 3, (59, 0, 0), 0, 0)), (39, (.aload_n 0, 1, (0, 0, 0), 0, 0)), (40, (.iload 4, 2, (0, 0, 0), 0, 0)), (42, (.aload_n 2, 1, (0, 0, 0), 0, 0)), (43, (.invokevirtual 48, 3, (0, 155, 0), 0, 668)), (46, (.ifCond .eq 13, 3, (59, 0, 0), 0, 0)), (49, (.iload_n 3, 1, (0, 0, 0), 0, 0)), (50, (.aload_n 0, 1, (0, 0, 0), 0, 0)), (51, (.getfield 22, 3, (5, 3, 0), 0, 325)), (54, (.iload 4, 2, (0, 0, 0), 0, 0)), (56, (.iaload, 1, (0, 0, 0), 0, 0)), (57, (.iadd, 1, (0, 0, 0), 0, 0)), (58, (.istore_n 3, 1, (0, 0, 0), 0, 0)), (59, (.iinc 4 1, 3, (0, 0, 0), 1, 0)), (62, (.goto (-43), 3, (19, 0, 0), 0, 0))],
  [(65, (.iload_n 3, 1, (0, 0, 0), 0, 0)), (66, (.iload_n 1, 1, (0, 0, 0), 0, 0)), (67, (.ifCond .ne 9, 3, (76, 0, 0), 0, 0)), (70, (.sipush 200, 3, (0, 0, 0), 200, 0)), (73, (.goto 5, 3, (78, 0, 0), 0, 0)), (76, (.bipush 100, 2, (0, 0, 0), 100, 0)), (78, (.invokestatic 52, 3, (2, 0, 0), 0, 672)), (81, (.ireturn, 1, (0, 0, 0), 0, 0))]]
set_option maxRecDepth 10000 in
def zp154 : List (List (Nat × ZI)) := [[(0, (.iload_n 0, 1, (0, 0, 0), 0, 0)), (1, (.tableswitch 40 0 2 #[27, 35, 38], 27, (5, 0, 0), 0, 0)), (28, (.aload_n 1, 1, (0, 0, 0), 0, 0)), (29, (.bipush 6, 2, (0, 0, 0), 6, 0)), (31, (.iaload, 1, (0, 0, 0), 0, 0))],
  [(32, (.bipush 50, 2, (0, 0, 0), 50, 0)), (34, (.imul, 1, (0, 0, 0), 0, 0)), (35, (.ireturn, 1, (0, 0, 0), 0, 0)), (36, (.bipush 20, 2, (0, 0, 0), 20, 0)), (38, (.ireturn, 1, (0, 0, 0), 0, 0)), (39, (.iconst 5, 1, (0, 0, 0), 5, 0)), (40, (.ireturn, 1, (0, 0, 0), 0, 0)), (41, (.bipush 50, 2, (0, 0, 0), 50, 0)), (43, (.ireturn, 1, (0, 0, 0), 0, 0))]]
set_option maxRecDepth 10000 in
def zp155 : List (List (Nat × ZI)) := [[(0, (.iconst 0, 1, (0, 0, 0), 0, 0)), (1, (.istore_n 3, 1, (0, 0, 0), 0, 0)), (2, (.aload_n 0, 1, (0, 0, 0), 0, 0)), (3, (.getfield 25, 3, (5, 4, 0), 0, 326)), (6, (.iload_n 1, 1, (0, 0, 0), 0, 0)), (7, (.iaload, 1, (0, 0, 0), 0, 0)), (8, (.istore 4, 2, (0, 0, 0), 0, 0)), (10, (.iload 4, 2, (0, 0, 0), 0, 0)), (12, (.aload_n 0, 1, (0, 0, 0), 0, 0)), (13, (.getfield 28, 3, (5, 5, 0), 0, 327)), (16, (.iload_n 1, 1, (0, 0, 0), 0, 0)), (17, (.iaload, 1, (0, 0, 0), 0, 0)), (18, (.if_icmp .ge 253, 3, (271, 0, 0), 0, 0)), (21, (.aload_n 0, 1, (0, 0, 0), 0, 0)), (22, (.getfield 31, 3, (5, 6, 0), 0, 328)), (25, (.iload 4, 2, (0, 0, 0), 0, 0)), (27, (.iaload, 1, (0, 0, 0), 0, 0)), (28, (.istore 5, 2, (0, 0, 0), 0, 0)), (30, (.iload 5, 2, (0, 0, 0), 0, 0))],
  [(32, (.sipush 1020, 3, (0, 0, 0), 1020, 0)), (35, (.if_icmp .ge 44, 3, (79, 0, 0), 0, 0)), (38, (.iload_n 3, 1, (0, 0, 0), 0, 0)), (39, (.bipush 32, 2, (0, 0, 0), 32, 0)), (41, (.if_icmp .ge 224, 3, (265, 0, 0), 0, 0)), (44, (.aload_n 0, 1, (0, 0, 0), 0, 0)), (45, (.getfield 34, 3, (5, 7, 0), 0, 329)), (48, (.iload_n 3, 1, (0, 0, 0), 0, 0)), (49, (.iload 5, 2, (0, 0, 0), 0, 0)), (51, (.sipush 1000, 3, (0, 0, 0), 1000, 0)), (54, (.if_icmp .ge 9, 3, (63, 0, 0), 0, 0)), (57, (.iload 5, 2, (0, 0, 0), 0, 0)), (59, (.i2l, 1, (0, 0, 0), 0, 0)), (60, (.goto 12, 3, (72, 0, 0), 0, 0)), (63, (.aload_n 2, 1, (0, 0, 0), 0, 0))],
  [(64, (.iload 5, 2, (0, 0, 0), 0, 0)), (66, (.sipush 1000, 3, (0, 0, 0), 1000, 0)), (69, (.isub, 1, (0, 0, 0), 0, 0)), (70, (.iaload, 1, (0, 0, 0), 0, 0)), (71, (.i2l, 1, (0, 0, 0), 0, 0)), (72, (.lastore, 1, (0, 0, 0), 0, 0)), (73, (.iinc 3 1, 3, (0, 0, 0), 1, 0)), (76, (.goto 189, 3, (265, 0, 0), 0, 0)), (79, (.iload 5, 2, (0, 0, 0), 0, 0)), (81, (.sipush 1020, 3, (0, 0, 0), 1020, 0)), (84, (.if_icmp .ne 28, 3, (112, 0, 0), 0, 0)), (87, (.iload_n 3, 1, (0, 0, 0), 0, 0)), (88, (.ifCond .le 177, 3, (265, 0, 0), 0, 0)), (91, (.aload_n 0, 1, (0, 0, 0), 0, 0)), (92, (.getfield 34, 3, (5, 7, 0), 0, 329)), (95, (.iload_n 3, 1, (0, 0, 0), 0, 0))],
  [(96, (.iconst 1, 1, (0, 0, 0), 1, 0)), (97, (.isub, 1, (0, 0, 0), 0, 0)), (98, (.lconst 1, 1, (0, 0, 0), 1, 0)), (99, (.aload_n 0, 1, (0, 0, 0), 0, 0)), (100, (.getfield 34, 3, (5, 7, 0), 0, 329)), (103, (.iload_n 3, 1, (0, 0, 0), 0, 0)), (104, (.iconst 1, 1, (0, 0, 0), 1, 0)), (105, (.isub, 1, (0, 0, 0), 0, 0)), (106, (.laload, 1, (0, 0, 0), 0, 0)), (107, (.lsub, 1, (0, 0, 0), 0, 0)), (108, (.lastore, 1, (0, 0, 0), 0, 0)), (109, (.goto 156, 3, (265, 0, 0), 0, 0)), (112, (.iload_n 3, 1, (0, 0, 0), 0, 0)), (113, (.iconst 1, 1, (0, 0, 0), 1, 0)), (114, (.if_icmp .le 151, 3, (265, 0, 0), 0, 0)), (117, (.iinc 3 (-1), 3, (0, 0, 0), (-1), 0)), (120, (.aload_n 0, 1, (0, 0, 0), 0, 0)), (121, (.getfield 34, 3, (5, 7, 0), 0, 329)), (124, (.iload_n 3, 1, (0, 0, 0), 0, 0)), (125, (.iconst 1, 1, (0, 0, 0), 1, 0)), (126, (.isub, 1, (0, 0, 0), 0, 0)), (127, (.laload, 1, (0, 0, 0), 0, 0))],
  [(128, (.lstore 6, 2, (0, 0, 0), 0, 0)), (130, (.aload_n 0, 1, (0, 0, 0), 0, 0)), (131, (.getfield 34, 3, (5, 7, 0), 0, 329)), (134, (.iload_n 3, 1, (0, 0, 0), 0, 0)), (135, (.laload, 1, (0, 0, 0), 0, 0)), (136, (.lstore 8, 2, (0, 0, 0), 0, 0)), (138, (.iload 5, 2, (0, 0, 0), 0, 0)), (140, (.tableswitch 112 1021 1024 #[32, 48, 72, 96], 32, (6, 0, 0), 0, 0))],
  [(172, (.aload_n 0, 1, (0, 0, 0), 0, 0)), (173, (.getfield 34, 3, (5, 7, 0), 0, 329)), (176, (.iload_n 3, 1, (0, 0, 0), 0, 0)), (177, (.iconst 1, 1, (0, 0, 0), 1, 0)), (178, (.isub, 1, (0, 0, 0), 0, 0)), (179, (.lload 6, 2, (0, 0, 0), 0, 0)), (181, (.lload 8, 2, (0, 0, 0), 0, 0)), (183, (.ladd, 1, (0, 0, 0), 0, 0)), (184, (.lastore, 1, (0, 0, 0), 0, 0)), (185, (.goto 80, 3, (265, 0, 0), 0, 0)), (188, (.aload_n 0, 1, (0, 0, 0), 0, 0)), (189, (.getfield 34, 3, (5, 7, 0), 0, 329))],
  [(192, (.iload_n 3, 1, (0, 0, 0), 0, 0)), (193, (.iconst 1, 1, (0, 0, 0), 1, 0)), (194, (.isub, 1, (0, 0, 0), 0, 0)), (195, (.lload 6, 2, (0, 0, 0), 0, 0)), (197, (.lload 8, 2, (0, 0, 0), 0, 0)), (199, (.lcmp, 1, (0, 0, 0), 0, 0)), (200, (.ifCond .ge 7, 3, (207, 0, 0), 0, 0)), (203, (.lconst 1, 1, (0, 0, 0), 1, 0)), (204, (.goto 4, 3, (208, 0, 0), 0, 0)), (207, (.lconst 0, 1, (0, 0, 0), 0, 0)), (208, (.lastore, 1, (0, 0, 0), 0, 0)), (209, (.goto 56, 3, (265, 0, 0), 0, 0)), (212, (.aload_n 0, 1, (0, 0, 0), 0, 0)), (213, (.getfield 34, 3, (5, 7, 0), 0, 329)), (216, (.iload_n 3, 1, (0, 0, 0), 0, 0)), (217, (.iconst 1, 1, (0, 0, 0), 1, 0)), (218, (.isub, 1, (0, 0, 0), 0, 0)), (219, (.lload 6, 2, (0, 0, 0), 0, 0)), (221, (.lload 8, 2, (0, 0, 0), 0, 0)), (223, (.lcmp, 1, (0, 0, 0), 0, 0))],
  [(224, (.ifCond .le 7, 3, (231, 0, 0), 0, 0)), (227, (.lconst 1, 1, (0, 0, 0), 1, 0)), (228, (.goto 4, 3, (232, 0, 0), 0, 0)), (231, (.lconst 0, 1, (0, 0, 0), 0, 0)), (232, (.lastore, 1, (0, 0, 0), 0, 0)), (233, (.goto 32, 3, (265, 0, 0), 0, 0)), (236, (.aload_n 0, 1, (0, 0, 0), 0, 0)), (237, (.getfield 34, 3, (5, 7, 0), 0, 329)), (240, (.iload_n 3, 1, (0, 0, 0), 0, 0)), (241, (.iconst 1, 1, (0, 0, 0), 1, 0)), (242, (.isub, 1, (0, 0, 0), 0, 0)), (243, (.lload 6, 2, (0, 0, 0), 0, 0)), (245, (.lload 8, 2, (0, 0, 0), 0, 0)), (247, (.land, 1, (0, 0, 0), 0, 0)), (248, (.lastore, 1, (0, 0, 0), 0, 0)), (249, (.goto 16, 3, (265, 0, 0), 0, 0)), (252, (.aload_n 0, 1, (0, 0, 0), 0, 0)), (253, (.getfield 34, 3, (5, 7, 0), 0, 329))],
  [(256, (.iload_n 3, 1, (0, 0, 0), 0, 0)), (257, (.iconst 1, 1, (0, 0, 0), 1, 0)), (258, (.isub, 1, (0, 0, 0), 0, 0)), (259, (.lload 6, 2, (0, 0, 0), 0, 0)), (261, (.lload 8, 2, (0, 0, 0), 0, 0)), (263, (.lor, 1, (0, 0, 0), 0, 0)), (264, (.lastore, 1, (0, 0, 0), 0, 0)), (265, (.iinc 4 1, 3, (0, 0, 0), 1, 0)), (268, (.goto (-258), 3, (10, 0, 0), 0, 0)), (271, (.iload_n 3, 1, (0, 0, 0), 0, 0)), (272, (.ifCond .eq 14, 3, (286, 0, 0), 0, 0)), (275, (.aload_n 0, 1, (0, 0, 0), 0, 0)), (276, (.getfield 34, 3, (5, 7, 0), 0, 329)), (279, (.iconst 0, 1, (0, 0, 0), 0, 0)), (280, (.laload, 1, (0, 0, 0), 0, 0)), (281, (.lconst 0, 1, (0, 0, 0), 0, 0)), (282, (.lcmp, 1, (0, 0, 0), 0, 0)), (283, (.ifCond .eq 7, 3, (290, 0, 0), 0, 0)), (286, (.iconst 1, 1, (0, 0, 0), 1, 0)), (287, (.goto 4, 3, (291, 0, 0), 0, 0))],
  [(290, (.iconst 0, 1, (0, 0, 0), 0, 0)), (291, (.ireturn, 1, (0, 0, 0), 0, 0))]]
set_option maxRecDepth 10000 in
def zp156 : List (List (Nat × ZI)) := [[(0, (.aload_n 0, 1, (0, 0, 0), 0, 0)), (1, (.invokespecial 3, 3, (1, 0, 0), 0, 564)), (4, (.aload_n 0, 1, (0, 0, 0), 0, 0)), (5, (.new 9, 3, (0, 5, 0), 0, 565)), (8, (.dup, 1, (0, 0, 0), 0, 0)), (9, (.invokespecial 11, 3, (0, 147, 1), 0, 566)), (12, (.putfield 12, 3, (6, 0, 0), 0, 567)), (15, (.aload_n 0, 1, (0, 0, 0), 0, 0)), (16, (.iconst (-1), 1, (0, 0, 0), (-1), 0)), (17, (.putfield 18, 3, (6, 1, 0), 0, 569)), (20, (.return_, 1, (0, 0, 0), 0, 0))]]
set_option maxRecDepth 10000 in
def zp157 : List (List (Nat × ZI)) := [[(0, (.aload_n 0, 1, (0, 0, 0), 0, 0)), (1, (.getfield 12, 3, (6, 0, 0), 0, 567)), (4, (.invokevirtual 22, 3, (0, 149, 1), 0, 1055)), (7, (.aload_n 0, 1, (0, 0, 0), 0, 0)), (8, (.iconst (-1), 1, (0, 0, 0), (-1), 0)), (9, (.putfield 18, 3, (6, 1, 0), 0, 569)), (12, (.aload_n 1, 1, (0, 0, 0), 0, 0)), (13, (.invokevirtual 25, 3, (0, 180, 1), 0, 1059)), (16, (.aload_n 1, 1, (0, 0, 0), 0, 0)), (17, (.getfield 30, 3, (9, 2, 1), 0, 229)), (20, (.ifCond .ne 5, 3, (25, 0, 0), 0, 0)), (23, (.iconst (-1), 1, (0, 0, 0), (-1), 0)), (24, (.ireturn, 1, (0, 0, 0), 0, 0)), (25, (.iconst 0, 1, (0, 0, 0), 0, 0)), (26, (.istore_n 2, 1, (0, 0, 0), 0, 0)), (27, (.iload_n 2, 1, (0, 0, 0), 0, 0)), (28, (.bipush 12, 2, (0, 0, 0), 12, 0)), (30, (.if_icmp .ge 49, 3, (79, 0, 0), 0, 0))],
  [(33, (.aload_n 0, 1, (0, 0, 0), 0, 0)), (34, (.aload_n 1, 1, (0, 0, 0), 0, 0)), (35, (.invokevirtual 33, 3, (0, 159, 0), 0, 1060)), (38, (.ifCond .ne 8, 3, (46, 0, 0), 0, 0)), (41, (.aload_n 0, 1, (0, 0, 0), 0, 0)), (42, (.getfield 18, 3, (6, 1, 0), 0, 569)), (45, (.ireturn, 1, (0, 0, 0), 0, 0)), (46, (.aload_n 1, 1, (0, 0, 0), 0, 0)), (47, (.getfield 30, 3, (9, 2, 1), 0, 229)), (50, (.ifCond .ne 5, 3, (55, 0, 0), 0, 0)), (53, (.iconst (-1), 1, (0, 0, 0), (-1), 0)), (54, (.ireturn, 1, (0, 0, 0), 0, 0)), (55, (.aload_n 1, 1, (0, 0, 0), 0, 0)), (56, (.bipush 59, 2, (0, 0, 0), 59, 0)), (58, (.invokevirtual 37, 3, (0, 183, 1), 0, 1091)), (61, (.ifCond .ne 8, 3, (69, 0, 0), 0, 0))],
  [(64, (.aload_n 1, 1, (0, 0, 0), 0, 0)), (65, (.getfield 41, 3, (9, 3, 1), 0, 232)), (68, (.ireturn, 1, (0, 0, 0), 0, 0)), (69, (.aload_n 1, 1, (0, 0, 0), 0, 0)), (70, (.invokevirtual 44, 3, (0, 181, 1), 0, 1070)), (73, (.iinc 2 1, 3, (0, 0, 0), 1, 0)), (76, (.goto (-49), 3, (27, 0, 0), 0, 0)), (79, (.aload_n 1, 1, (0, 0, 0), 0, 0)), (80, (.getfield 41, 3, (9, 3, 1), 0, 232)), (83, (.ireturn, 1, (0, 0, 0), 0, 0))]]
set_option maxRecDepth 10000 in
def zp158 : List (List (Nat × ZI)) := [[(0, (.aload_n 0, 1, (0, 0, 0), 0, 0)), (1, (.iload_n 1, 1, (0, 0, 0), 0, 0)), (2, (.putfield 18, 3, (6, 1, 0), 0, 569)), (5, (.iconst 0, 1, (0, 0, 0), 0, 0)), (6, (.ireturn, 1, (0, 0, 0), 0, 0))]]
set_option maxRecDepth 10000 in
def zp159 : List (List (Nat × ZI)) := [[(0, (.aload_n 1, 1, (0, 0, 0), 0, 0)), (1, (.ldc 47, 2, (1, 4, 0), 0, 1064)), (3, (.invokevirtual 49, 3, (0, 185, 1), 0, 1065)), (6, (.istore_n 2, 1, (0, 0, 0), 0, 0)), (7, (.iload_n 2, 1, (0, 0, 0), 0, 0)), (8, (.iconst (-1), 1, (0, 0, 0), (-1), 0)), (9, (.if_icmp .ne 12, 3, (21, 0, 0), 0, 0)), (12, (.aload_n 0, 1, (0, 0, 0), 0, 0)), (13, (.aload_n 1, 1, (0, 0, 0), 0, 0)), (14, (.getfield 41, 3, (9, 3, 1), 0, 232)), (17, (.invokevirtual 53, 3, (0, 158, 0), 0, 1066)), (20, (.ireturn, 1, (0, 0, 0), 0, 0)), (21, (.aload_n 1, 1, (0, 0, 0), 0, 0)), (22, (.invokevirtual 44, 3, (0, 181, 1), 0, 1070)), (25, (.aload_n 1, 1, (0, 0, 0), 0, 0)), (26, (.iconst 3, 1, (0, 0, 0), 3, 0)), (27, (.invokevirtual 57, 3, (0, 182, 1), 0, 1071)), (30, (.ifCond .ne 12, 3, (42, 0, 0), 0, 0))],
  [(33, (.aload_n 0, 1, (0, 0, 0), 0, 0)), (34, (.aload_n 1, 1, (0, 0, 0), 0, 0)), (35, (.getfield 41, 3, (9, 3, 1), 0, 232)), (38, (.invokevirtual 53, 3, (0, 158, 0), 0, 1066)), (41, (.ireturn, 1, (0, 0, 0), 0, 0)), (42, (.aload_n 0, 1, (0, 0, 0), 0, 0)), (43, (.getfield 12, 3, (6, 0, 0), 0, 567)), (46, (.iload_n 2, 1, (0, 0, 0), 0, 0)), (47, (.aload_n 1, 1, (0, 0, 0), 0, 0)), (48, (.getfield 60, 3, (9, 5, 1), 0, 236)), (51, (.invokevirtual 63, 3, (0, 150, 1), 0, 1072)), (54, (.aload_n 1, 1, (0, 0, 0), 0, 0)), (55, (.invokevirtual 44, 3, (0, 181, 1), 0, 1070)), (58, (.aload_n 1, 1, (0, 0, 0), 0, 0)), (59, (.ldc 67, 2, (1, 5, 0), 0, 1076)), (61, (.invokevirtual 69, 3, (0, 184, 1), 0, 1077))],
  [(64, (.ifCond .eq 18, 3, (82, 0, 0), 0, 0)), (67, (.aload_n 1, 1, (0, 0, 0), 0, 0)), (68, (.invokevirtual 44, 3, (0, 181, 1), 0, 1070)), (71, (.aload_n 0, 1, (0, 0, 0), 0, 0)), (72, (.aload_n 1, 1, (0, 0, 0), 0, 0)), (73, (.iconst 0, 1, (0, 0, 0), 0, 0)), (74, (.invokevirtual 73, 3, (0, 160, 0), 0, 1082)), (77, (.ifCond .ne 5, 3, (82, 0, 0), 0, 0)), (80, (.iconst 0, 1, (0, 0, 0), 0, 0)), (81, (.ireturn, 1, (0, 0, 0), 0, 0)), (82, (.aload_n 0, 1, (0, 0, 0), 0, 0)), (83, (.getfield 12, 3, (6, 0, 0), 0, 567)), (86, (.invokevirtual 77, 3, (0, 151, 1), 0, 1113)), (89, (.iconst 1, 1, (0, 0, 0), 1, 0)), (90, (.ireturn, 1, (0, 0, 0), 0, 0))]]
set_option maxRecDepth 10000 in
def zp160 : List (List (Nat × ZI)) := [[(0, (.iconst 0, 1, (0, 0, 0), 0, 0)), (1, (.istore_n 3, 1, (0, 0, 0), 0, 0)), (2, (.iconst 0, 1, (0, 0, 0), 0, 0)), (3, (.istore 4, 2, (0, 0, 0), 0, 0)), (5, (.iconst 0, 1, (0, 0, 0), 0, 0)), (6, (.istore 5, 2, (0, 0, 0), 0, 0)), (8, (.iload 5, 2, (0, 0, 0), 0, 0)), (10, (.sipush 400, 3, (0, 0, 0), 400, 0)), (13, (.if_icmp .ge 79, 3, (92, 0, 0), 0, 0)), (16, (.aload_n 0, 1, (0, 0, 0), 0, 0)), (17, (.aload_n 1, 1, (0, 0, 0), 0, 0)), (18, (.iload_n 2, 1, (0, 0, 0), 0, 0)), (19, (.invokevirtual 80, 3, (0, 161, 0), 0, 1086)), (22, (.ifCond .ne 5, 3, (27, 0, 0), 0, 0)), (25, (.iconst 0, 1, (0, 0, 0), 0, 0)), (26, (.ireturn, 1, (0, 0, 0), 0, 0)), (27, (.iload_n 3, 1, (0, 0, 0), 0, 0)), (28, (.ifCond .eq 13, 3, (41, 0, 0), 0, 0)), (31, (.aload_n 0, 1, (0, 0, 0), 0, 0))],
  [(32, (.getfield 12, 3, (6, 0, 0), 0, 567)), (35, (.sipush 1024, 3, (0, 0, 0), 1024, 0)), (38, (.invokevirtual 83, 3, (0, 152, 1), 0, 1096)), (41, (.aload_n 1, 1, (0, 0, 0), 0, 0)), (42, (.ldc 87, 2, (1, 10, 0), 0, 1111)), (44, (.invokevirtual 69, 3, (0, 184, 1), 0, 1077)), (47, (.istore_n 3, 1, (0, 0, 0), 0, 0)), (48, (.iload_n 3, 1, (0, 0, 0), 0, 0)), (49, (.ifCond .ne 33, 3, (82, 0, 0), 0, 0)), (52, (.iload 4, 2, (0, 0, 0), 0, 0)), (54, (.ifCond .eq 13, 3, (67, 0, 0), 0, 0)), (57, (.aload_n 0, 1, (0, 0, 0), 0, 0)), (58, (.getfield 12, 3, (6, 0, 0), 0, 567)), (61, (.sipush 1025, 3, (0, 0, 0), 1025, 0))],
  [(64, (.invokevirtual 83, 3, (0, 152, 1), 0, 1096)), (67, (.aload_n 1, 1, (0, 0, 0), 0, 0)), (68, (.ldc 89, 2, (1, 11, 0), 0, 1112)), (70, (.invokevirtual 69, 3, (0, 184, 1), 0, 1077)), (73, (.istore 4, 2, (0, 0, 0), 0, 0)), (75, (.iload 4, 2, (0, 0, 0), 0, 0)), (77, (.ifCond .ne 5, 3, (82, 0, 0), 0, 0)), (80, (.iconst 1, 1, (0, 0, 0), 1, 0)), (81, (.ireturn, 1, (0, 0, 0), 0, 0)), (82, (.aload_n 1, 1, (0, 0, 0), 0, 0)), (83, (.invokevirtual 44, 3, (0, 181, 1), 0, 1070)), (86, (.iinc 5 1, 3, (0, 0, 0), 1, 0)), (89, (.goto (-81), 3, (8, 0, 0), 0, 0)), (92, (.aload_n 0, 1, (0, 0, 0), 0, 0)), (93, (.aload_n 1, 1, (0, 0, 0), 0, 0)), (94, (.getfield 41, 3, (9, 3, 1), 0, 232))],
  [(97, (.invokevirtual 53, 3, (0, 158, 0), 0, 1066)), (100, (.ireturn, 1, (0, 0, 0), 0, 0))]]
set_option maxRecDepth 10000 in
def zp161 : List (List (Nat × ZI)) := [[(0, (.aload_n 1, 1, (0, 0, 0), 0, 0)), (1, (.ldc 91, 2, (1, 6, 0), 0, 1090)), (3, (.invokevirtual 69, 3, (0, 184, 1), 0, 1077)), (6, (.istore_n 3, 1, (0, 0, 0), 0, 0)), (7, (.iload_n 3, 1, (0, 0, 0), 0, 0)), (8, (.ifCond .ne 12, 3, (20, 0, 0), 0, 0)), (11, (.aload_n 1, 1, (0, 0, 0), 0, 0)), (12, (.bipush 40, 2, (0, 0, 0), 40, 0)), (14, (.invokevirtual 37, 3, (0, 183, 1), 0, 1091)), (17, (.ifCond .eq 46, 3, (63, 0, 0), 0, 0)), (20, (.iload_n 2, 1, (0, 0, 0), 0, 0)), (21, (.bipush 6, 2, (0, 0, 0), 6, 0)), (23, (.if_icmp .lt 12, 3, (35, 0, 0), 0, 0)), (26, (.aload_n 0, 1, (0, 0, 0), 0, 0)), (27, (.aload_n 1, 1, (0, 0, 0), 0, 0)), (28, (.getfield 41, 3, (9, 3, 1), 0, 232)), (31, (.invokevirtual 53, 3, (0, 158, 0), 0, 1066))],
  [(34, (.ireturn, 1, (0, 0, 0), 0, 0)), (35, (.aload_n 1, 1, (0, 0, 0), 0, 0)), (36, (.invokevirtual 44, 3, (0, 181, 1), 0, 1070)), (39, (.iload_n 3, 1, (0, 0, 0), 0, 0)), (40, (.ifCond .eq 14, 3, (54, 0, 0), 0, 0)), (43, (.aload_n 0, 1, (0, 0, 0), 0, 0)), (44, (.aload_n 1, 1, (0, 0, 0), 0, 0)), (45, (.iload_n 2, 1, (0, 0, 0), 0, 0)), (46, (.iconst 1, 1, (0, 0, 0), 1, 0)), (47, (.iadd, 1, (0, 0, 0), 0, 0)), (48, (.invokevirtual 93, 3, (0, 162, 0), 0, 1092)), (51, (.goto 11, 3, (62, 0, 0), 0, 0)), (54, (.aload_n 0, 1, (0, 0, 0), 0, 0)), (55, (.aload_n 1, 1, (0, 0, 0), 0, 0)), (56, (.iload_n 2, 1, (0, 0, 0), 0, 0)), (57, (.iconst 1, 1, (0, 0, 0), 1, 0)), (58, (.iadd, 1, (0, 0, 0), 0, 0)), (59, (.invokevirtual 96, 3, (0, 163, 0), 0, 1100)), (62, (.ireturn, 1, (0, 0, 0), 0, 0)), (63, (.aload_n 1, 1, (0, 0, 0), 0, 0))],
  [(64, (.ldc 99, 2, (1, 7, 0), 0, 1104)), (66, (.invokevirtual 49, 3, (0, 185, 1), 0, 1065)), (69, (.istore 4, 2, (0, 0, 0), 0, 0)), (71, (.iload 4, 2, (0, 0, 0), 0, 0)), (73, (.iconst (-1), 1, (0, 0, 0), (-1), 0)), (74, (.if_icmp .eq 22, 3, (96, 0, 0), 0, 0)), (77, (.aload_n 0, 1, (0, 0, 0), 0, 0)), (78, (.getfield 12, 3, (6, 0, 0), 0, 567)), (81, (.sipush 1006, 3, (0, 0, 0), 1006, 0)), (84, (.iload 4, 2, (0, 0, 0), 0, 0)), (86, (.iadd, 1, (0, 0, 0), 0, 0)), (87, (.invokevirtual 83, 3, (0, 152, 1), 0, 1096)), (90, (.aload_n 1, 1, (0, 0, 0), 0, 0)), (91, (.invokevirtual 44, 3, (0, 181, 1), 0, 1070)), (94, (.iconst 1, 1, (0, 0, 0), 1, 0)), (95, (.ireturn, 1, (0, 0, 0), 0, 0))],
  [(96, (.aload_n 1, 1, (0, 0, 0), 0, 0)), (97, (.ldc 101, 2, (1, 8, 0), 0, 1105)), (99, (.invokevirtual 69, 3, (0, 184, 1), 0, 1077)), (102, (.ifCond .eq 19, 3, (121, 0, 0), 0, 0)), (105, (.aload_n 0, 1, (0, 0, 0), 0, 0)), (106, (.getfield 12, 3, (6, 0, 0), 0, 567)), (109, (.sipush 1011, 3, (0, 0, 0), 1011, 0)), (112, (.invokevirtual 83, 3, (0, 152, 1), 0, 1096)), (115, (.aload_n 1, 1, (0, 0, 0), 0, 0)), (116, (.invokevirtual 44, 3, (0, 181, 1), 0, 1070)), (119, (.iconst 1, 1, (0, 0, 0), 1, 0)), (120, (.ireturn, 1, (0, 0, 0), 0, 0)), (121, (.aload_n 0, 1, (0, 0, 0), 0, 0)), (122, (.aload_n 1, 1, (0, 0, 0), 0, 0)), (123, (.invokevirtual 103, 3, (0, 164, 0), 0, 1106)), (126, (.ireturn, 1, (0, 0, 0), 0, 0))]]
set_option maxRecDepth 10000 in
def zp162 : List (List (Nat × ZI)) := [[(0, (.aload_n 0, 1, (0, 0, 0), 0, 0)), (1, (.aload_n 1, 1, (0, 0, 0), 0, 0)), (2, (.iload_n 2, 1, (0, 0, 0), 0, 0)), (3, (.invokevirtual 80, 3, (0, 161, 0), 0, 1086)), (6, (.ifCond .ne 5, 3, (11, 0, 0), 0, 0)), (9, (.iconst 0, 1, (0, 0, 0), 0, 0)), (10, (.ireturn, 1, (0, 0, 0), 0, 0)), (11, (.aload_n 0, 1, (0, 0, 0), 0, 0)), (12, (.getfield 12, 3, (6, 0, 0), 0, 567)), (15, (.sipush 1020, 3, (0, 0, 0), 1020, 0)), (18, (.invokevirtual 83, 3, (0, 152, 1), 0, 1096)), (21, (.iconst 1, 1, (0, 0, 0), 1, 0)), (22, (.ireturn, 1, (0, 0, 0), 0, 0))]]
set_option maxRecDepth 10000 in
def zp163 : List (List (Nat × ZI)) := [[(0, (.aload_n 0, 1, (0, 0, 0), 0, 0)), (1, (.aload_n 1, 1, (0, 0, 0), 0, 0)), (2, (.iload_n 2, 1, (0, 0, 0), 0, 0)), (3, (.invokevirtual 73, 3, (0, 160, 0), 0, 1082)), (6, (.ifCond .ne 5, 3, (11, 0, 0), 0, 0)), (9, (.iconst 0, 1, (0, 0, 0), 0, 0)), (10, (.ireturn, 1, (0, 0, 0), 0, 0)), (11, (.aload_n 1, 1, (0, 0, 0), 0, 0)), (12, (.bipush 41, 2, (0, 0, 0), 41, 0)), (14, (.invokevirtual 37, 3, (0, 183, 1), 0, 1091)), (17, (.ifCond .ne 12, 3, (29, 0, 0), 0, 0)), (20, (.aload_n 0, 1, (0, 0, 0), 0, 0)), (21, (.aload_n 1, 1, (0, 0, 0), 0, 0)), (22, (.getfield 41, 3, (9, 3, 1), 0, 232)), (25, (.invokevirtual 53, 3, (0, 158, 0), 0, 1066)), (28, (.ireturn, 1, (0, 0, 0), 0, 0)), (29, (.aload_n 1, 1, (0, 0, 0), 0, 0)), (30, (.invokevirtual 44, 3, (0, 181, 1), 0, 1070))],
  [(33, (.iconst 1, 1, (0, 0, 0), 1, 0)), (34, (.ireturn, 1, (0, 0, 0), 0, 0))]]
set_option maxRecDepth 10000 in
def zp164 : List (List (Nat × ZI)) := [[(0, (.iconst (-1), 1, (0, 0, 0), (-1), 0)), (1, (.istore_n 2, 1, (0, 0, 0), 0, 0)), (2, (.iconst 0, 1, (0, 0, 0), 0, 0)), (3, (.istore_n 3, 1, (0, 0, 0), 0, 0)), (4, (.iconst 0, 1, (0, 0, 0), 0, 0)), (5, (.istore 4, 2, (0, 0, 0), 0, 0)), (7, (.iload 4, 2, (0, 0, 0), 0, 0)), (9, (.sipush 400, 3, (0, 0, 0), 400, 0)), (12, (.if_icmp .ge 160, 3, (172, 0, 0), 0, 0)), (15, (.aload_n 1, 1, (0, 0, 0), 0, 0)), (16, (.ldc 106, 2, (1, 9, 0), 0, 1110)), (18, (.invokevirtual 49, 3, (0, 185, 1), 0, 1065)), (21, (.istore 5, 2, (0, 0, 0), 0, 0)), (23, (.iload 5, 2, (0, 0, 0), 0, 0)), (25, (.iconst (-1), 1, (0, 0, 0), (-1), 0)), (26, (.if_icmp .ne 20, 3, (46, 0, 0), 0, 0)), (29, (.aload_n 1, 1, (0, 0, 0), 0, 0)), (30, (.iconst 3, 1, (0, 0, 0), 3, 0)), (31, (.invokevirtual 57, 3, (0, 182, 1), 0, 1071))],
  [(34, (.ifCond .ne 12, 3, (46, 0, 0), 0, 0)), (37, (.aload_n 0, 1, (0, 0, 0), 0, 0)), (38, (.aload_n 1, 1, (0, 0, 0), 0, 0)), (39, (.getfield 41, 3, (9, 3, 1), 0, 232)), (42, (.invokevirtual 53, 3, (0, 158, 0), 0, 1066)), (45, (.ireturn, 1, (0, 0, 0), 0, 0)), (46, (.aload_n 0, 1, (0, 0, 0), 0, 0)), (47, (.getfield 12, 3, (6, 0, 0), 0, 567)), (50, (.iload 5, 2, (0, 0, 0), 0, 0)), (52, (.iconst (-1), 1, (0, 0, 0), (-1), 0)), (53, (.if_icmp .ne 10, 3, (63, 0, 0), 0, 0)), (56, (.aload_n 1, 1, (0, 0, 0), 0, 0)), (57, (.getfield 60, 3, (9, 5, 1), 0, 236)), (60, (.goto 9, 3, (69, 0, 0), 0, 0)), (63, (.sipush 1000, 3, (0, 0, 0), 1000, 0))],
  [(66, (.iload 5, 2, (0, 0, 0), 0, 0)), (68, (.iadd, 1, (0, 0, 0), 0, 0)), (69, (.invokevirtual 83, 3, (0, 152, 1), 0, 1096)), (72, (.iload_n 3, 1, (0, 0, 0), 0, 0)), (73, (.ifCond .eq 13, 3, (86, 0, 0), 0, 0)), (76, (.aload_n 0, 1, (0, 0, 0), 0, 0)), (77, (.getfield 12, 3, (6, 0, 0), 0, 567)), (80, (.sipush 1021, 3, (0, 0, 0), 1021, 0)), (83, (.invokevirtual 83, 3, (0, 152, 1), 0, 1096)), (86, (.aload_n 1, 1, (0, 0, 0), 0, 0)), (87, (.invokevirtual 44, 3, (0, 181, 1), 0, 1070)), (90, (.aload_n 1, 1, (0, 0, 0), 0, 0)), (91, (.bipush 43, 2, (0, 0, 0), 43, 0)), (93, (.invokevirtual 37, 3, (0, 183, 1), 0, 1091))],
  [(96, (.istore_n 3, 1, (0, 0, 0), 0, 0)), (97, (.iload_n 3, 1, (0, 0, 0), 0, 0)), (98, (.ifCond .ne 64, 3, (162, 0, 0), 0, 0)), (101, (.iload_n 2, 1, (0, 0, 0), 0, 0)), (102, (.iconst (-1), 1, (0, 0, 0), (-1), 0)), (103, (.if_icmp .eq 13, 3, (116, 0, 0), 0, 0)), (106, (.aload_n 0, 1, (0, 0, 0), 0, 0)), (107, (.getfield 12, 3, (6, 0, 0), 0, 567)), (110, (.iload_n 2, 1, (0, 0, 0), 0, 0)), (111, (.invokevirtual 83, 3, (0, 152, 1), 0, 1096)), (114, (.iconst 1, 1, (0, 0, 0), 1, 0)), (115, (.ireturn, 1, (0, 0, 0), 0, 0)), (116, (.aload_n 1, 1, (0, 0, 0), 0, 0)), (117, (.bipush 60, 2, (0, 0, 0), 60, 0)), (119, (.invokevirtual 37, 3, (0, 183, 1), 0, 1091)), (122, (.ifCond .ne 21, 3, (143, 0, 0), 0, 0)), (125, (.aload_n 1, 1, (0, 0, 0), 0, 0)), (126, (.bipush 62, 2, (0, 0, 0), 62, 0))],
  [(128, (.invokevirtual 37, 3, (0, 183, 1), 0, 1091)), (131, (.ifCond .ne 12, 3, (143, 0, 0), 0, 0)), (134, (.aload_n 0, 1, (0, 0, 0), 0, 0)), (135, (.aload_n 1, 1, (0, 0, 0), 0, 0)), (136, (.getfield 41, 3, (9, 3, 1), 0, 232)), (139, (.invokevirtual 53, 3, (0, 158, 0), 0, 1066)), (142, (.ireturn, 1, (0, 0, 0), 0, 0)), (143, (.aload_n 1, 1, (0, 0, 0), 0, 0)), (144, (.bipush 60, 2, (0, 0, 0), 60, 0)), (146, (.invokevirtual 37, 3, (0, 183, 1), 0, 1091)), (149, (.ifCond .eq 9, 3, (158, 0, 0), 0, 0)), (152, (.sipush 1022, 3, (0, 0, 0), 1022, 0)), (155, (.goto 6, 3, (161, 0, 0), 0, 0)), (158, (.sipush 1023, 3, (0, 0, 0), 1023, 0))],
  [(161, (.istore_n 2, 1, (0, 0, 0), 0, 0)), (162, (.aload_n 1, 1, (0, 0, 0), 0, 0)), (163, (.invokevirtual 44, 3, (0, 181, 1), 0, 1070)), (166, (.iinc 4 1, 3, (0, 0, 0), 1, 0)), (169, (.goto (-162), 3, (7, 0, 0), 0, 0)), (172, (.aload_n 0, 1, (0, 0, 0), 0, 0)), (173, (.aload_n 1, 1, (0, 0, 0), 0, 0)), (174, (.getfield 41, 3, (9, 3, 1), 0, 232)), (177, (.invokevirtual 53, 3, (0, 158, 0), 0, 1066)), (180, (.ireturn, 1, (0, 0, 0), 0, 0))]]
set_option maxRecDepth 10000 in
def zp165 : List (List (Nat × ZI)) := [[(0, (.aload_n 0, 1, (0, 0, 0), 0, 0)), (1, (.invokespecial 1, 3, (1, 0, 0), 0, 463)), (4, (.aload_n 0, 1, (0, 0, 0), 0, 0)), (5, (.bipush 12, 2, (0, 0, 0), 12, 0)), (7, (.anewarray 9, 3, (3, 465, 0), 0, 464)), (10, (.putfield 11, 3, (7, 0, 0), 0, 468)), (13, (.aload_n 0, 1, (0, 0, 0), 0, 0)), (14, (.bipush 12, 2, (0, 0, 0), 12, 0)), (16, (.anewarray 15, 3, (4, 467, 0), 0, 466)), (19, (.putfield 17, 3, (7, 1, 0), 0, 469)), (22, (.aload_n 0, 1, (0, 0, 0), 0, 0)), (23, (.iconst 0, 1, (0, 0, 0), 0, 0)), (24, (.putfield 21, 3, (7, 2, 0), 0, 470)), (27, (.aload_n 0, 1, (0, 0, 0), 0, 0)), (28, (.iconst 0, 1, (0, 0, 0), 0, 0)), (29, (.putfield 25, 3, (7, 3, 0), 0, 472))],
  [(32, (.return_, 1, (0, 0, 0), 0, 0))]]
set_option maxRecDepth 10000 in
def zp166 : List (List (Nat × ZI)) := [[(0, (.aload_n 0, 1, (0, 0, 0), 0, 0)), (1, (.iconst 0, 1, (0, 0, 0), 0, 0)), (2, (.putfield 21, 3, (7, 2, 0), 0, 470)), (5, (.return_, 1, (0, 0, 0), 0, 0))]]
set_option maxRecDepth 10000 in
def zp167 : List (List (Nat × ZI)) := [[(0, (.aload_n 0, 1, (0, 0, 0), 0, 0)), (1, (.getfield 11, 3, (7, 0, 0), 0, 468)), (4, (.aload_n 0, 1, (0, 0, 0), 0, 0)), (5, (.getfield 25, 3, (7, 3, 0), 0, 472)), (8, (.aaload, 1, (0, 0, 0), 0, 0)), (9, (.ifnonnull 19, 3, (28, 0, 0), 0, 0)), (12, (.aload_n 0, 1, (0, 0, 0), 0, 0)), (13, (.getfield 11, 3, (7, 0, 0), 0, 468)), (16, (.aload_n 0, 1, (0, 0, 0), 0, 0)), (17, (.getfield 25, 3, (7, 3, 0), 0, 472)), (20, (.new 9, 3, (0, 0, 0), 0, 464)), (23, (.dup, 1, (0, 0, 0), 0, 0)), (24, (.invokespecial 28, 3, (0, 90, 1), 0, 1250)), (27, (.aastore, 1, (0, 0, 0), 0, 0)), (28, (.aload_n 0, 1, (0, 0, 0), 0, 0)), (29, (.getfield 17, 3, (7, 1, 0), 0, 469))],
  [(32, (.aload_n 0, 1, (0, 0, 0), 0, 0)), (33, (.getfield 25, 3, (7, 3, 0), 0, 472)), (36, (.aaload, 1, (0, 0, 0), 0, 0)), (37, (.ifnonnull 19, 3, (56, 0, 0), 0, 0)), (40, (.aload_n 0, 1, (0, 0, 0), 0, 0)), (41, (.getfield 17, 3, (7, 1, 0), 0, 469)), (44, (.aload_n 0, 1, (0, 0, 0), 0, 0)), (45, (.getfield 25, 3, (7, 3, 0), 0, 472)), (48, (.new 15, 3, (0, 1, 0), 0, 466)), (51, (.dup, 1, (0, 0, 0), 0, 0)), (52, (.invokespecial 29, 3, (0, 107, 1), 0, 1251)), (55, (.aastore, 1, (0, 0, 0), 0, 0)), (56, (.aload_n 0, 1, (0, 0, 0), 0, 0)), (57, (.getfield 11, 3, (7, 0, 0), 0, 468)), (60, (.aload_n 0, 1, (0, 0, 0), 0, 0)), (61, (.getfield 25, 3, (7, 3, 0), 0, 472))],
  [(64, (.aaload, 1, (0, 0, 0), 0, 0)), (65, (.aload_n 1, 1, (0, 0, 0), 0, 0)), (66, (.invokevirtual 30, 3, (0, 91, 1), 0, 754)), (69, (.aload_n 0, 1, (0, 0, 0), 0, 0)), (70, (.getfield 17, 3, (7, 1, 0), 0, 469)), (73, (.aload_n 0, 1, (0, 0, 0), 0, 0)), (74, (.getfield 25, 3, (7, 3, 0), 0, 472)), (77, (.aaload, 1, (0, 0, 0), 0, 0)), (78, (.aload_n 2, 1, (0, 0, 0), 0, 0)), (79, (.invokevirtual 34, 3, (0, 108, 1), 0, 755)), (82, (.aload_n 0, 1, (0, 0, 0), 0, 0)), (83, (.aload_n 0, 1, (0, 0, 0), 0, 0)), (84, (.getfield 25, 3, (7, 3, 0), 0, 472)), (87, (.iconst 1, 1, (0, 0, 0), 1, 0)), (88, (.iadd, 1, (0, 0, 0), 0, 0)), (89, (.bipush 12, 2, (0, 0, 0), 12, 0)), (91, (.if_icmp .ge 12, 3, (103, 0, 0), 0, 0)), (94, (.aload_n 0, 1, (0, 0, 0), 0, 0)), (95, (.getfield 25, 3, (7, 3, 0), 0, 472))],
  [(98, (.iconst 1, 1, (0, 0, 0), 1, 0)), (99, (.iadd, 1, (0, 0, 0), 0, 0)), (100, (.goto 4, 3, (104, 0, 0), 0, 0)), (103, (.iconst 0, 1, (0, 0, 0), 0, 0)), (104, (.putfield 25, 3, (7, 3, 0), 0, 472)), (107, (.aload_n 0, 1, (0, 0, 0), 0, 0)), (108, (.aload_n 0, 1, (0, 0, 0), 0, 0)), (109, (.getfield 21, 3, (7, 2, 0), 0, 470)), (112, (.iconst 1, 1, (0, 0, 0), 1, 0)), (113, (.iadd, 1, (0, 0, 0), 0, 0)), (114, (.bipush 12, 2, (0, 0, 0), 12, 0)), (116, (.invokestatic 37, 3, (2, 0, 0), 0, 1252)), (119, (.putfield 21, 3, (7, 2, 0), 0, 470)), (122, (.return_, 1, (0, 0, 0), 0, 0))]]
set_option maxRecDepth 10000 in
def zp168 : List (List (Nat × ZI)) := [[(0, (.aload_n 0, 1, (0, 0, 0), 0, 0)), (1, (.getfield 25, 3, (7, 3, 0), 0, 472)), (4, (.ifCond .le 12, 3, (16, 0, 0), 0, 0)), (7, (.aload_n 0, 1, (0, 0, 0), 0, 0)), (8, (.getfield 25, 3, (7, 3, 0), 0, 472)), (11, (.iconst 1, 1, (0, 0, 0), 1, 0)), (12, (.isub, 1, (0, 0, 0), 0, 0)), (13, (.goto 5, 3, (18, 0, 0), 0, 0)), (16, (.bipush 11, 2, (0, 0, 0), 11, 0)), (18, (.istore_n 3, 1, (0, 0, 0), 0, 0)), (19, (.aload_n 0, 1, (0, 0, 0), 0, 0)), (20, (.getfield 21, 3, (7, 2, 0), 0, 470)), (23, (.ifCond .eq 21, 3, (44, 0, 0), 0, 0)), (26, (.aload_n 0, 1, (0, 0, 0), 0, 0)), (27, (.getfield 11, 3, (7, 0, 0), 0, 468)), (30, (.iload_n 3, 1, (0, 0, 0), 0, 0)), (31, (.aaload, 1, (0, 0, 0), 0, 0))],
  [(32, (.ifnull 12, 3, (44, 0, 0), 0, 0)), (35, (.aload_n 0, 1, (0, 0, 0), 0, 0)), (36, (.getfield 17, 3, (7, 1, 0), 0, 469)), (39, (.iload_n 3, 1, (0, 0, 0), 0, 0)), (40, (.aaload, 1, (0, 0, 0), 0, 0)), (41, (.ifnonnull 5, 3, (46, 0, 0), 0, 0)), (44, (.iconst 0, 1, (0, 0, 0), 0, 0)), (45, (.ireturn, 1, (0, 0, 0), 0, 0)), (46, (.aload_n 1, 1, (0, 0, 0), 0, 0)), (47, (.aload_n 0, 1, (0, 0, 0), 0, 0)), (48, (.getfield 11, 3, (7, 0, 0), 0, 468)), (51, (.iload_n 3, 1, (0, 0, 0), 0, 0)), (52, (.aaload, 1, (0, 0, 0), 0, 0)), (53, (.invokevirtual 30, 3, (0, 91, 1), 0, 754)), (56, (.aload_n 2, 1, (0, 0, 0), 0, 0)), (57, (.aload_n 0, 1, (0, 0, 0), 0, 0)), (58, (.getfield 17, 3, (7, 1, 0), 0, 469)), (61, (.iload_n 3, 1, (0, 0, 0), 0, 0)), (62, (.aaload, 1, (0, 0, 0), 0, 0)), (63, (.invokevirtual 34, 3, (0, 108, 1), 0, 755))],
  [(66, (.aload_n 0, 1, (0, 0, 0), 0, 0)), (67, (.iload_n 3, 1, (0, 0, 0), 0, 0)), (68, (.putfield 25, 3, (7, 3, 0), 0, 472)), (71, (.aload_n 0, 1, (0, 0, 0), 0, 0)), (72, (.dup, 1, (0, 0, 0), 0, 0)), (73, (.getfield 21, 3, (7, 2, 0), 0, 470)), (76, (.iconst 1, 1, (0, 0, 0), 1, 0)), (77, (.isub, 1, (0, 0, 0), 0, 0)), (78, (.putfield 21, 3, (7, 2, 0), 0, 470)), (81, (.iconst 1, 1, (0, 0, 0), 1, 0)), (82, (.ireturn, 1, (0, 0, 0), 0, 0))]]
set_option maxRecDepth 10000 in
def zp169 : List (List (Nat × ZI)) := [[(0, (.aload_n 0, 1, (0, 0, 0), 0, 0)), (1, (.invokespecial 3, 3, (1, 0, 0), 0, 263)), (4, (.aload_n 0, 1, (0, 0, 0), 0, 0)), (5, (.iconst 0, 1, (0, 0, 0), 0, 0)), (6, (.putfield 9, 3, (8, 0, 0), 0, 264)), (9, (.aload_n 0, 1, (0, 0, 0), 0, 0)), (10, (.iconst 0, 1, (0, 0, 0), 0, 0)), (11, (.putfield 15, 3, (8, 1, 0), 0, 269)), (14, (.aload_n 0, 1, (0, 0, 0), 0, 0)), (15, (.iconst 0, 1, (0, 0, 0), 0, 0)), (16, (.putfield 18, 3, (8, 2, 0), 0, 272)), (19, (.aload_n 0, 1, (0, 0, 0), 0, 0)), (20, (.iconst 0, 1, (0, 0, 0), 0, 0)), (21, (.putfield 21, 3, (8, 3, 0), 0, 277)), (24, (.aload_n 0, 1, (0, 0, 0), 0, 0)), (25, (.bipush 12, 2, (0, 0, 0), 12, 0)), (27, (.newarray .int, 2, (0, 0, 0), 0, 251)), (29, (.putfield 24, 3, (8, 4, 0), 0, 279))],
  [(32, (.aload_n 0, 1, (0, 0, 0), 0, 0)), (33, (.bipush 12, 2, (0, 0, 0), 12, 0)), (35, (.newarray .int, 2, (0, 0, 0), 0, 251)), (37, (.putfield 28, 3, (8, 5, 0), 0, 284)), (40, (.aload_n 0, 1, (0, 0, 0), 0, 0)), (41, (.bipush 12, 2, (0, 0, 0), 12, 0)), (43, (.newarray .int, 2, (0, 0, 0), 0, 251)), (45, (.putfield 31, 3, (8, 6, 0), 0, 287)), (48, (.aload_n 0, 1, (0, 0, 0), 0, 0)), (49, (.bipush 8, 2, (0, 0, 0), 8, 0)), (51, (.newarray .int, 2, (0, 0, 0), 0, 251)), (53, (.putfield 34, 3, (8, 7, 0), 0, 290)), (56, (.aload_n 0, 1, (0, 0, 0), 0, 0)), (57, (.bipush 96, 2, (0, 0, 0), 96, 0)), (59, (.newarray .int, 2, (0, 0, 0), 0, 251)), (61, (.putfield 37, 3, (8, 8, 0), 0, 294))],
  [(64, (.return_, 1, (0, 0, 0), 0, 0))]]
set_option maxRecDepth 10000 in
def zp170 : List (List (Nat × ZI)) := [[(0, (.aload_n 0, 1, (0, 0, 0), 0, 0)), (1, (.aload_n 1, 1, (0, 0, 0), 0, 0)), (2, (.getfield 9, 3, (8, 0, 0), 0, 264)), (5, (.putfield 9, 3, (8, 0, 0), 0, 264)), (8, (.aload_n 0, 1, (0, 0, 0), 0, 0)), (9, (.aload_n 1, 1, (0, 0, 0), 0, 0)), (10, (.getfield 15, 3, (8, 1, 0), 0, 269)), (13, (.putfield 15, 3, (8, 1, 0), 0, 269)), (16, (.aload_n 0, 1, (0, 0, 0), 0, 0)), (17, (.aload_n 1, 1, (0, 0, 0), 0, 0)), (18, (.getfield 18, 3, (8, 2, 0), 0, 272)), (21, (.putfield 18, 3, (8, 2, 0), 0, 272)), (24, (.aload_n 0, 1, (0, 0, 0), 0, 0)), (25, (.aload_n 1, 1, (0, 0, 0), 0, 0)), (26, (.getfield 21, 3, (8, 3, 0), 0, 277)), (29, (.putfield 21, 3, (8, 3, 0), 0, 277))],
  [(32, (.aload_n 1, 1, (0, 0, 0), 0, 0)), (33, (.getfield 24, 3, (8, 4, 0), 0, 279)), (36, (.iconst 0, 1, (0, 0, 0), 0, 0)), (37, (.aload_n 0, 1, (0, 0, 0), 0, 0)), (38, (.getfield 24, 3, (8, 4, 0), 0, 279)), (41, (.iconst 0, 1, (0, 0, 0), 0, 0)), (42, (.bipush 12, 2, (0, 0, 0), 12, 0)), (44, (.invokestatic 40, 3, (6, 0, 0), 0, 772)), (47, (.aload_n 1, 1, (0, 0, 0), 0, 0)), (48, (.getfield 28, 3, (8, 5, 0), 0, 284)), (51, (.iconst 0, 1, (0, 0, 0), 0, 0)), (52, (.aload_n 0, 1, (0, 0, 0), 0, 0)), (53, (.getfield 28, 3, (8, 5, 0), 0, 284)), (56, (.iconst 0, 1, (0, 0, 0), 0, 0)), (57, (.bipush 12, 2, (0, 0, 0), 12, 0)), (59, (.invokestatic 40, 3, (6, 0, 0), 0, 772)), (62, (.aload_n 1, 1, (0, 0, 0), 0, 0)), (63, (.getfield 31, 3, (8, 6, 0), 0, 287))],
  [(66, (.iconst 0, 1, (0, 0, 0), 0, 0)), (67, (.aload_n 0, 1, (0, 0, 0), 0, 0)), (68, (.getfield 31, 3, (8, 6, 0), 0, 287)), (71, (.iconst 0, 1, (0, 0, 0), 0, 0)), (72, (.bipush 12, 2, (0, 0, 0), 12, 0)), (74, (.invokestatic 40, 3, (6, 0, 0), 0, 772)), (77, (.aload_n 1, 1, (0, 0, 0), 0, 0)), (78, (.getfield 34, 3, (8, 7, 0), 0, 290)), (81, (.iconst 0, 1, (0, 0, 0), 0, 0)), (82, (.aload_n 0, 1, (0, 0, 0), 0, 0)), (83, (.getfield 34, 3, (8, 7, 0), 0, 290)), (86, (.iconst 0, 1, (0, 0, 0), 0, 0)), (87, (.bipush 8, 2, (0, 0, 0), 8, 0)), (89, (.invokestatic 40, 3, (6, 0, 0), 0, 772)), (92, (.aload_n 1, 1, (0, 0, 0), 0, 0)), (93, (.getfield 37, 3, (8, 8, 0), 0, 294))],
  [(96, (.iconst 0, 1, (0, 0, 0), 0, 0)), (97, (.aload_n 0, 1, (0, 0, 0), 0, 0)), (98, (.getfield 37, 3, (8, 8, 0), 0, 294)), (101, (.iconst 0, 1, (0, 0, 0), 0, 0)), (102, (.bipush 96, 2, (0, 0, 0), 96, 0)), (104, (.invokestatic 40, 3, (6, 0, 0), 0, 772)), (107, (.return_, 1, (0, 0, 0), 0, 0))]]
set_option maxRecDepth 10000 in
def zp171 : List (List (Nat × ZI)) := [[(0, (.iload_n 1, 1, (0, 0, 0), 0, 0)), (1, (.iload_n 2, 1, (0, 0, 0), 0, 0)), (2, (.if_icmp .eq 16, 3, (18, 0, 0), 0, 0)), (5, (.aload_n 0, 1, (0, 0, 0), 0, 0)), (6, (.getfield 31, 3, (8, 6, 0), 0, 287)), (9, (.iload_n 1, 1, (0, 0, 0), 0, 0)), (10, (.iaload, 1, (0, 0, 0), 0, 0)), (11, (.iload_n 2, 1, (0, 0, 0), 0, 0)), (12, (.ishr, 1, (0, 0, 0), 0, 0)), (13, (.iconst 1, 1, (0, 0, 0), 1, 0)), (14, (.iand, 1, (0, 0, 0), 0, 0)), (15, (.ifCond .eq 7, 3, (22, 0, 0), 0, 0)), (18, (.iconst 1, 1, (0, 0, 0), 1, 0)), (19, (.goto 4, 3, (23, 0, 0), 0, 0)), (22, (.iconst 0, 1, (0, 0, 0), 0, 0)), (23, (.ireturn, 1, (0, 0, 0), 0, 0))]]
set_option maxRecDepth 10000 in
def zp172 : List (List (Nat × ZI)) := [[(0, (.iconst 1, 1, (0, 0, 0), 1, 0)), (1, (.aload_n 0, 1, (0, 0, 0), 0, 0)), (2, (.getfield 18, 3, (8, 2, 0), 0, 272)), (5, (.ishl, 1, (0, 0, 0), 0, 0)), (6, (.iconst 1, 1, (0, 0, 0), 1, 0)), (7, (.isub, 1, (0, 0, 0), 0, 0)), (8, (.ireturn, 1, (0, 0, 0), 0, 0))]]
set_option maxRecDepth 10000 in
def zp173 : List (List (Nat × ZI)) := [[(0, (.iload_n 2, 1, (0, 0, 0), 0, 0)), (1, (.ifCond .lt 13, 3, (14, 0, 0), 0, 0)), (4, (.iload_n 2, 1, (0, 0, 0), 0, 0)), (5, (.aload_n 0, 1, (0, 0, 0), 0, 0)), (6, (.getfield 34, 3, (8, 7, 0), 0, 290)), (9, (.iload_n 1, 1, (0, 0, 0), 0, 0)), (10, (.iaload, 1, (0, 0, 0), 0, 0)), (11, (.if_icmp .lt 5, 3, (16, 0, 0), 0, 0)), (14, (.iconst (-1), 1, (0, 0, 0), (-1), 0)), (15, (.ireturn, 1, (0, 0, 0), 0, 0)), (16, (.aload_n 0, 1, (0, 0, 0), 0, 0)), (17, (.getfield 37, 3, (8, 8, 0), 0, 294)), (20, (.iload_n 1, 1, (0, 0, 0), 0, 0)), (21, (.bipush 12, 2, (0, 0, 0), 12, 0)), (23, (.imul, 1, (0, 0, 0), 0, 0)), (24, (.iload_n 2, 1, (0, 0, 0), 0, 0)), (25, (.iadd, 1, (0, 0, 0), 0, 0)), (26, (.iaload, 1, (0, 0, 0), 0, 0)), (27, (.ireturn, 1, (0, 0, 0), 0, 0))]]
set_option maxRecDepth 10000 in
def zp174 : List (List (Nat × ZI)) := [[(0, (.aload_n 0, 1, (0, 0, 0), 0, 0)), (1, (.getfield 34, 3, (8, 7, 0), 0, 290)), (4, (.iload_n 1, 1, (0, 0, 0), 0, 0)), (5, (.iaload, 1, (0, 0, 0), 0, 0)), (6, (.ifCond .gt 5, 3, (11, 0, 0), 0, 0)), (9, (.iconst (-1), 1, (0, 0, 0), (-1), 0)), (10, (.ireturn, 1, (0, 0, 0), 0, 0)), (11, (.aload_n 0, 1, (0, 0, 0), 0, 0)), (12, (.iload_n 1, 1, (0, 0, 0), 0, 0)), (13, (.iload_n 2, 1, (0, 0, 0), 0, 0)), (14, (.iload_n 3, 1, (0, 0, 0), 0, 0)), (15, (.iadd, 1, (0, 0, 0), 0, 0)), (16, (.aload_n 0, 1, (0, 0, 0), 0, 0)), (17, (.getfield 34, 3, (8, 7, 0), 0, 290)), (20, (.iload_n 1, 1, (0, 0, 0), 0, 0)), (21, (.iaload, 1, (0, 0, 0), 0, 0)), (22, (.invokestatic 46, 3, (0, 337, 0), 0, 1161)), (25, (.invokevirtual 52, 3, (0, 173, 0), 0, 1162)), (28, (.ireturn, 1, (0, 0, 0), 0, 0))]]
set_option maxRecDepth 10000 in
def zp175 : List (List (Nat × ZI)) := [[(0, (.iconst 0, 1, (0, 0, 0), 0, 0)), (1, (.istore_n 2, 1, (0, 0, 0), 0, 0)), (2, (.iconst 0, 1, (0, 0, 0), 0, 0)), (3, (.istore_n 3, 1, (0, 0, 0), 0, 0)), (4, (.iload_n 3, 1, (0, 0, 0), 0, 0)), (5, (.aload_n 0, 1, (0, 0, 0), 0, 0)), (6, (.getfield 34, 3, (8, 7, 0), 0, 290)), (9, (.iload_n 1, 1, (0, 0, 0), 0, 0)), (10, (.iaload, 1, (0, 0, 0), 0, 0)), (11, (.if_icmp .ge 25, 3, (36, 0, 0), 0, 0)), (14, (.iload_n 2, 1, (0, 0, 0), 0, 0)), (15, (.iconst 1, 1, (0, 0, 0), 1, 0)), (16, (.aload_n 0, 1, (0, 0, 0), 0, 0)), (17, (.getfield 37, 3, (8, 8, 0), 0, 294)), (20, (.iload_n 1, 1, (0, 0, 0), 0, 0)), (21, (.bipush 12, 2, (0, 0, 0), 12, 0)), (23, (.imul, 1, (0, 0, 0), 0, 0)), (24, (.iload_n 3, 1, (0, 0, 0), 0, 0)), (25, (.iadd, 1, (0, 0, 0), 0, 0)), (26, (.iaload, 1, (0, 0, 0), 0, 0)), (27, (.ishl, 1, (0, 0, 0), 0, 0)), (28, (.ior, 1, (0, 0, 0), 0, 0)), (29, (.istore_n 2, 1, (0, 0, 0), 0, 0)), (30, (.iinc 3 1, 3, (0, 0, 0), 1, 0))],
  [(33, (.goto (-29), 3, (4, 0, 0), 0, 0)), (36, (.iload_n 2, 1, (0, 0, 0), 0, 0)), (37, (.ireturn, 1, (0, 0, 0), 0, 0))]]
set_option maxRecDepth 10000 in
def zp176 : List (List (Nat × ZI)) := [[(0, (.iconst 0, 1, (0, 0, 0), 0, 0)), (1, (.istore_n 2, 1, (0, 0, 0), 0, 0)), (2, (.iconst 0, 1, (0, 0, 0), 0, 0)), (3, (.istore_n 3, 1, (0, 0, 0), 0, 0)), (4, (.iload_n 3, 1, (0, 0, 0), 0, 0)), (5, (.aload_n 0, 1, (0, 0, 0), 0, 0)), (6, (.getfield 9, 3, (8, 0, 0), 0, 264)), (9, (.if_icmp .ge 26, 3, (35, 0, 0), 0, 0)), (12, (.iload_n 1, 1, (0, 0, 0), 0, 0)), (13, (.iload_n 3, 1, (0, 0, 0), 0, 0)), (14, (.ishr, 1, (0, 0, 0), 0, 0)), (15, (.iconst 1, 1, (0, 0, 0), 1, 0)), (16, (.iand, 1, (0, 0, 0), 0, 0)), (17, (.ifCond .eq 12, 3, (29, 0, 0), 0, 0)), (20, (.iload_n 2, 1, (0, 0, 0), 0, 0)), (21, (.aload_n 0, 1, (0, 0, 0), 0, 0)), (22, (.getfield 28, 3, (8, 5, 0), 0, 284)), (25, (.iload_n 3, 1, (0, 0, 0), 0, 0)), (26, (.iaload, 1, (0, 0, 0), 0, 0)), (27, (.iadd, 1, (0, 0, 0), 0, 0)), (28, (.istore_n 2, 1, (0, 0, 0), 0, 0)), (29, (.iinc 3 1, 3, (0, 0, 0), 1, 0))],
  [(32, (.goto (-28), 3, (4, 0, 0), 0, 0)), (35, (.iload_n 2, 1, (0, 0, 0), 0, 0)), (36, (.ireturn, 1, (0, 0, 0), 0, 0))]]
set_option maxRecDepth 10000 in
def zp177 : List (List (Nat × ZI)) := [[(0, (.iconst 1, 1, (0, 0, 0), 1, 0)), (1, (.iload_n 1, 1, (0, 0, 0), 0, 0)), (2, (.ishl, 1, (0, 0, 0), 0, 0)), (3, (.istore_n 3, 1, (0, 0, 0), 0, 0)), (4, (.iconst 0, 1, (0, 0, 0), 0, 0)), (5, (.istore 4, 2, (0, 0, 0), 0, 0)), (7, (.iload 4, 2, (0, 0, 0), 0, 0)), (9, (.bipush 12, 2, (0, 0, 0), 12, 0)), (11, (.if_icmp .ge 65, 3, (76, 0, 0), 0, 0)), (14, (.iload_n 3, 1, (0, 0, 0), 0, 0)), (15, (.iload_n 2, 1, (0, 0, 0), 0, 0)), (16, (.ishr, 1, (0, 0, 0), 0, 0)), (17, (.iconst 1, 1, (0, 0, 0), 1, 0)), (18, (.iand, 1, (0, 0, 0), 0, 0)), (19, (.ifCond .eq 6, 3, (25, 0, 0), 0, 0)), (22, (.iload 4, 2, (0, 0, 0), 0, 0)), (24, (.ireturn, 1, (0, 0, 0), 0, 0)), (25, (.iload_n 3, 1, (0, 0, 0), 0, 0)), (26, (.istore 5, 2, (0, 0, 0), 0, 0)), (28, (.iconst 0, 1, (0, 0, 0), 0, 0)), (29, (.istore 6, 2, (0, 0, 0), 0, 0)), (31, (.iload 6, 2, (0, 0, 0), 0, 0))],
  [(33, (.aload_n 0, 1, (0, 0, 0), 0, 0)), (34, (.getfield 9, 3, (8, 0, 0), 0, 264)), (37, (.if_icmp .ge 30, 3, (67, 0, 0), 0, 0)), (40, (.iload_n 3, 1, (0, 0, 0), 0, 0)), (41, (.iload 6, 2, (0, 0, 0), 0, 0)), (43, (.ishr, 1, (0, 0, 0), 0, 0)), (44, (.iconst 1, 1, (0, 0, 0), 1, 0)), (45, (.iand, 1, (0, 0, 0), 0, 0)), (46, (.ifCond .eq 15, 3, (61, 0, 0), 0, 0)), (49, (.iload 5, 2, (0, 0, 0), 0, 0)), (51, (.aload_n 0, 1, (0, 0, 0), 0, 0)), (52, (.getfield 31, 3, (8, 6, 0), 0, 287)), (55, (.iload 6, 2, (0, 0, 0), 0, 0)), (57, (.iaload, 1, (0, 0, 0), 0, 0)), (58, (.ior, 1, (0, 0, 0), 0, 0)), (59, (.istore 5, 2, (0, 0, 0), 0, 0)), (61, (.iinc 6 1, 3, (0, 0, 0), 1, 0))],
  [(64, (.goto (-33), 3, (31, 0, 0), 0, 0)), (67, (.iload 5, 2, (0, 0, 0), 0, 0)), (69, (.istore_n 3, 1, (0, 0, 0), 0, 0)), (70, (.iinc 4 1, 3, (0, 0, 0), 1, 0)), (73, (.goto (-66), 3, (7, 0, 0), 0, 0)), (76, (.iconst (-1), 1, (0, 0, 0), (-1), 0)), (77, (.ireturn, 1, (0, 0, 0), 0, 0))]]
set_option maxRecDepth 10000 in
def zp178 : List (List (Nat × ZI)) := [[(0, (.aload_n 0, 1, (0, 0, 0), 0, 0)), (1, (.invokespecial 3, 3, (1, 0, 0), 0, 224)), (4, (.aload_n 0, 1, (0, 0, 0), 0, 0)), (5, (.sipush 400, 3, (0, 0, 0), 400, 0)), (8, (.newarray .int, 2, (0, 0, 0), 0, 251)), (10, (.putfield 9, 3, (9, 0, 0), 0, 225)), (13, (.aload_n 0, 1, (0, 0, 0), 0, 0)), (14, (.iconst 0, 1, (0, 0, 0), 0, 0)), (15, (.putfield 15, 3, (9, 1, 0), 0, 226)), (18, (.aload_n 0, 1, (0, 0, 0), 0, 0)), (19, (.iconst 0, 1, (0, 0, 0), 0, 0)), (20, (.putfield 19, 3, (9, 2, 0), 0, 228)), (23, (.aload_n 0, 1, (0, 0, 0), 0, 0)), (24, (.iconst 0, 1, (0, 0, 0), 0, 0)), (25, (.putfield 22, 3, (9, 3, 0), 0, 231)), (28, (.aload_n 0, 1, (0, 0, 0), 0, 0)), (29, (.iconst 0, 1, (0, 0, 0), 0, 0)), (30, (.putfield 25, 3, (9, 4, 0), 0, 234))],
  [(33, (.aload_n 0, 1, (0, 0, 0), 0, 0)), (34, (.iconst 0, 1, (0, 0, 0), 0, 0)), (35, (.putfield 28, 3, (9, 5, 0), 0, 235)), (38, (.return_, 1, (0, 0, 0), 0, 0))]]
set_option maxRecDepth 10000 in
def zp179 : List (List (Nat × ZI)) := [[(0, (.bipush 24, 2, (0, 0, 0), 24, 0)), (2, (.istore_n 2, 1, (0, 0, 0), 0, 0)), (3, (.iload_n 2, 1, (0, 0, 0), 0, 0)), (4, (.ifCond .lt 45, 3, (49, 0, 0), 0, 0)), (7, (.aload_n 0, 1, (0, 0, 0), 0, 0)), (8, (.getfield 15, 3, (9, 1, 0), 0, 226)), (11, (.sipush 400, 3, (0, 0, 0), 400, 0)), (14, (.if_icmp .ge 29, 3, (43, 0, 0), 0, 0)), (17, (.aload_n 0, 1, (0, 0, 0), 0, 0)), (18, (.getfield 9, 3, (9, 0, 0), 0, 225)), (21, (.aload_n 0, 1, (0, 0, 0), 0, 0)), (22, (.getfield 15, 3, (9, 1, 0), 0, 226)), (25, (.iload_n 1, 1, (0, 0, 0), 0, 0)), (26, (.iload_n 2, 1, (0, 0, 0), 0, 0)), (27, (.ishr, 1, (0, 0, 0), 0, 0)), (28, (.sipush 255, 3, (0, 0, 0), 255, 0)), (31, (.iand, 1, (0, 0, 0), 0, 0))],
  [(32, (.iastore, 1, (0, 0, 0), 0, 0)), (33, (.aload_n 0, 1, (0, 0, 0), 0, 0)), (34, (.dup, 1, (0, 0, 0), 0, 0)), (35, (.getfield 15, 3, (9, 1, 0), 0, 226)), (38, (.iconst 1, 1, (0, 0, 0), 1, 0)), (39, (.iadd, 1, (0, 0, 0), 0, 0)), (40, (.putfield 15, 3, (9, 1, 0), 0, 226)), (43, (.iinc 2 (-8), 3, (0, 0, 0), (-8), 0)), (46, (.goto (-43), 3, (3, 0, 0), 0, 0)), (49, (.return_, 1, (0, 0, 0), 0, 0))]]
set_option maxRecDepth 10000 in
def zp180 : List (List (Nat × ZI)) := [[(0, (.aload_n 0, 1, (0, 0, 0), 0, 0)), (1, (.iconst 0, 1, (0, 0, 0), 0, 0)), (2, (.putfield 25, 3, (9, 4, 0), 0, 234)), (5, (.aload_n 0, 1, (0, 0, 0), 0, 0)), (6, (.invokevirtual 31, 3, (0, 181, 0), 0, 824)), (9, (.return_, 1, (0, 0, 0), 0, 0))]]
set_option maxRecDepth 10000 in
def zp181 : List (List (Nat × ZI)) := [[(0, (.aload_n 0, 1, (0, 0, 0), 0, 0)), (1, (.getfield 25, 3, (9, 4, 0), 0, 234)), (4, (.istore_n 1, 1, (0, 0, 0), 0, 0)), (5, (.iload_n 1, 1, (0, 0, 0), 0, 0)), (6, (.aload_n 0, 1, (0, 0, 0), 0, 0)), (7, (.getfield 15, 3, (9, 1, 0), 0, 226)), (10, (.if_icmp .ge 20, 3, (30, 0, 0), 0, 0)), (13, (.aload_n 0, 1, (0, 0, 0), 0, 0)), (14, (.getfield 9, 3, (9, 0, 0), 0, 225)), (17, (.iload_n 1, 1, (0, 0, 0), 0, 0)), (18, (.iaload, 1, (0, 0, 0), 0, 0)), (19, (.bipush 32, 2, (0, 0, 0), 32, 0)), (21, (.if_icmp .ne 9, 3, (30, 0, 0), 0, 0)), (24, (.iinc 1 1, 3, (0, 0, 0), 1, 0)), (27, (.goto (-22), 3, (5, 0, 0), 0, 0)), (30, (.aload_n 0, 1, (0, 0, 0), 0, 0)), (31, (.iload_n 1, 1, (0, 0, 0), 0, 0))],
  [(32, (.putfield 22, 3, (9, 3, 0), 0, 231)), (35, (.aload_n 0, 1, (0, 0, 0), 0, 0)), (36, (.iconst 0, 1, (0, 0, 0), 0, 0)), (37, (.putfield 28, 3, (9, 5, 0), 0, 235)), (40, (.aload_n 0, 1, (0, 0, 0), 0, 0)), (41, (.iload_n 1, 1, (0, 0, 0), 0, 0)), (42, (.aload_n 0, 1, (0, 0, 0), 0, 0)), (43, (.getfield 15, 3, (9, 1, 0), 0, 226)), (46, (.if_icmp .lt 7, 3, (53, 0, 0), 0, 0)), (49, (.iconst 0, 1, (0, 0, 0), 0, 0)), (50, (.goto 4, 3, (54, 0, 0), 0, 0)), (53, (.iconst 3, 1, (0, 0, 0), 3, 0)), (54, (.putfield 19, 3, (9, 2, 0), 0, 228)), (57, (.iload_n 1, 1, (0, 0, 0), 0, 0)), (58, (.aload_n 0, 1, (0, 0, 0), 0, 0)), (59, (.getfield 15, 3, (9, 1, 0), 0, 226)), (62, (.if_icmp .ge 68, 3, (130, 0, 0), 0, 0))],
  [(65, (.aload_n 0, 1, (0, 0, 0), 0, 0)), (66, (.getfield 9, 3, (9, 0, 0), 0, 225)), (69, (.iload_n 1, 1, (0, 0, 0), 0, 0)), (70, (.iaload, 1, (0, 0, 0), 0, 0)), (71, (.bipush 48, 2, (0, 0, 0), 48, 0)), (73, (.if_icmp .lt 57, 3, (130, 0, 0), 0, 0)), (76, (.aload_n 0, 1, (0, 0, 0), 0, 0)), (77, (.getfield 9, 3, (9, 0, 0), 0, 225)), (80, (.iload_n 1, 1, (0, 0, 0), 0, 0)), (81, (.iaload, 1, (0, 0, 0), 0, 0)), (82, (.bipush 57, 2, (0, 0, 0), 57, 0)), (84, (.if_icmp .gt 46, 3, (130, 0, 0), 0, 0)), (87, (.iload_n 1, 1, (0, 0, 0), 0, 0)), (88, (.aload_n 0, 1, (0, 0, 0), 0, 0)), (89, (.getfield 22, 3, (9, 3, 0), 0, 231)), (92, (.isub, 1, (0, 0, 0), 0, 0)), (93, (.bipush 9, 2, (0, 0, 0), 9, 0)), (95, (.if_icmp .ge 24, 3, (119, 0, 0), 0, 0))],
  [(98, (.aload_n 0, 1, (0, 0, 0), 0, 0)), (99, (.aload_n 0, 1, (0, 0, 0), 0, 0)), (100, (.getfield 28, 3, (9, 5, 0), 0, 235)), (103, (.bipush 10, 2, (0, 0, 0), 10, 0)), (105, (.imul, 1, (0, 0, 0), 0, 0)), (106, (.aload_n 0, 1, (0, 0, 0), 0, 0)), (107, (.getfield 9, 3, (9, 0, 0), 0, 225)), (110, (.iload_n 1, 1, (0, 0, 0), 0, 0)), (111, (.iaload, 1, (0, 0, 0), 0, 0)), (112, (.iadd, 1, (0, 0, 0), 0, 0)), (113, (.bipush 48, 2, (0, 0, 0), 48, 0)), (115, (.isub, 1, (0, 0, 0), 0, 0)), (116, (.putfield 28, 3, (9, 5, 0), 0, 235)), (119, (.aload_n 0, 1, (0, 0, 0), 0, 0)), (120, (.iconst 1, 1, (0, 0, 0), 1, 0)), (121, (.putfield 19, 3, (9, 2, 0), 0, 228)), (124, (.iinc 1 1, 3, (0, 0, 0), 1, 0)), (127, (.goto (-70), 3, (57, 0, 0), 0, 0))],
  [(130, (.aload_n 0, 1, (0, 0, 0), 0, 0)), (131, (.getfield 19, 3, (9, 2, 0), 0, 228)), (134, (.iconst 1, 1, (0, 0, 0), 1, 0)), (135, (.if_icmp .eq 44, 3, (179, 0, 0), 0, 0)), (138, (.iload_n 1, 1, (0, 0, 0), 0, 0)), (139, (.aload_n 0, 1, (0, 0, 0), 0, 0)), (140, (.getfield 15, 3, (9, 1, 0), 0, 226)), (143, (.if_icmp .ge 36, 3, (179, 0, 0), 0, 0)), (146, (.aload_n 0, 1, (0, 0, 0), 0, 0)), (147, (.getfield 9, 3, (9, 0, 0), 0, 225)), (150, (.iload_n 1, 1, (0, 0, 0), 0, 0)), (151, (.iaload, 1, (0, 0, 0), 0, 0)), (152, (.bipush 97, 2, (0, 0, 0), 97, 0)), (154, (.if_icmp .lt 25, 3, (179, 0, 0), 0, 0)), (157, (.aload_n 0, 1, (0, 0, 0), 0, 0)), (158, (.getfield 9, 3, (9, 0, 0), 0, 225))],
  [(161, (.iload_n 1, 1, (0, 0, 0), 0, 0)), (162, (.iaload, 1, (0, 0, 0), 0, 0)), (163, (.bipush 122, 2, (0, 0, 0), 122, 0)), (165, (.if_icmp .gt 14, 3, (179, 0, 0), 0, 0)), (168, (.aload_n 0, 1, (0, 0, 0), 0, 0)), (169, (.iconst 2, 1, (0, 0, 0), 2, 0)), (170, (.putfield 19, 3, (9, 2, 0), 0, 228)), (173, (.iinc 1 1, 3, (0, 0, 0), 1, 0)), (176, (.goto (-46), 3, (130, 0, 0), 0, 0)), (179, (.aload_n 0, 1, (0, 0, 0), 0, 0)), (180, (.aload_n 0, 1, (0, 0, 0), 0, 0)), (181, (.getfield 19, 3, (9, 2, 0), 0, 228)), (184, (.iconst 3, 1, (0, 0, 0), 3, 0)), (185, (.if_icmp .ne 9, 3, (194, 0, 0), 0, 0)), (188, (.iload_n 1, 1, (0, 0, 0), 0, 0)), (189, (.iconst 1, 1, (0, 0, 0), 1, 0)), (190, (.iadd, 1, (0, 0, 0), 0, 0)), (191, (.goto 4, 3, (195, 0, 0), 0, 0))],
  [(194, (.iload_n 1, 1, (0, 0, 0), 0, 0)), (195, (.putfield 25, 3, (9, 4, 0), 0, 234)), (198, (.return_, 1, (0, 0, 0), 0, 0))]]
set_option maxRecDepth 10000 in
def zp182 : List (List (Nat × ZI)) := [[(0, (.aload_n 0, 1, (0, 0, 0), 0, 0)), (1, (.getfield 19, 3, (9, 2, 0), 0, 228)), (4, (.iconst 1, 1, (0, 0, 0), 1, 0)), (5, (.if_icmp .ne 20, 3, (25, 0, 0), 0, 0)), (8, (.aload_n 0, 1, (0, 0, 0), 0, 0)), (9, (.getfield 25, 3, (9, 4, 0), 0, 234)), (12, (.aload_n 0, 1, (0, 0, 0), 0, 0)), (13, (.getfield 22, 3, (9, 3, 0), 0, 231)), (16, (.isub, 1, (0, 0, 0), 0, 0)), (17, (.iload_n 1, 1, (0, 0, 0), 0, 0)), (18, (.if_icmp .gt 7, 3, (25, 0, 0), 0, 0)), (21, (.iconst 1, 1, (0, 0, 0), 1, 0)), (22, (.goto 4, 3, (26, 0, 0), 0, 0)), (25, (.iconst 0, 1, (0, 0, 0), 0, 0)), (26, (.ireturn, 1, (0, 0, 0), 0, 0))]]
set_option maxRecDepth 10000 in
def zp183 : List (List (Nat × ZI)) := [[(0, (.aload_n 0, 1, (0, 0, 0), 0, 0)), (1, (.getfield 19, 3, (9, 2, 0), 0, 228)), (4, (.iconst 3, 1, (0, 0, 0), 3, 0)), (5, (.if_icmp .ne 20, 3, (25, 0, 0), 0, 0)), (8, (.aload_n 0, 1, (0, 0, 0), 0, 0)), (9, (.getfield 9, 3, (9, 0, 0), 0, 225)), (12, (.aload_n 0, 1, (0, 0, 0), 0, 0)), (13, (.getfield 22, 3, (9, 3, 0), 0, 231)), (16, (.iaload, 1, (0, 0, 0), 0, 0)), (17, (.iload_n 1, 1, (0, 0, 0), 0, 0)), (18, (.if_icmp .ne 7, 3, (25, 0, 0), 0, 0)), (21, (.iconst 1, 1, (0, 0, 0), 1, 0)), (22, (.goto 4, 3, (26, 0, 0), 0, 0)), (25, (.iconst 0, 1, (0, 0, 0), 0, 0)), (26, (.ireturn, 1, (0, 0, 0), 0, 0))]]
set_option maxRecDepth 10000 in
def zp184 : List (List (Nat × ZI)) := [[(0, (.aload_n 0, 1, (0, 0, 0), 0, 0)), (1, (.aload_n 1, 1, (0, 0, 0), 0, 0)), (2, (.invokevirtual 34, 3, (0, 185, 0), 0, 1081)), (5, (.ifCond .ne 7, 3, (12, 0, 0), 0, 0)), (8, (.iconst 1, 1, (0, 0, 0), 1, 0)), (9, (.goto 4, 3, (13, 0, 0), 0, 0)), (12, (.iconst 0, 1, (0, 0, 0), 0, 0)), (13, (.ireturn, 1, (0, 0, 0), 0, 0))]]
set_option maxRecDepth 10000 in
def zp185 : List (List (Nat × ZI)) := [[(0, (.aload_n 0, 1, (0, 0, 0), 0, 0)), (1, (.getfield 19, 3, (9, 2, 0), 0, 228)), (4, (.iconst 2, 1, (0, 0, 0), 2, 0)), (5, (.if_icmp .eq 5, 3, (10, 0, 0), 0, 0)), (8, (.iconst (-1), 1, (0, 0, 0), (-1), 0)), (9, (.ireturn, 1, (0, 0, 0), 0, 0)), (10, (.iconst 0, 1, (0, 0, 0), 0, 0)), (11, (.istore_n 2, 1, (0, 0, 0), 0, 0)), (12, (.iconst 0, 1, (0, 0, 0), 0, 0)), (13, (.istore_n 3, 1, (0, 0, 0), 0, 0)), (14, (.iconst 0, 1, (0, 0, 0), 0, 0)), (15, (.istore 4, 2, (0, 0, 0), 0, 0)), (17, (.iload 4, 2, (0, 0, 0), 0, 0)), (19, (.aload_n 1, 1, (0, 0, 0), 0, 0)), (20, (.invokevirtual 38, 3, (4, 0, 0), 0, 837)), (23, (.if_icmp .gt 102, 3, (125, 0, 0), 0, 0)), (26, (.iload 4, 2, (0, 0, 0), 0, 0)), (28, (.aload_n 1, 1, (0, 0, 0), 0, 0)), (29, (.invokevirtual 38, 3, (4, 0, 0), 0, 837))],
  [(32, (.if_icmp .ge 12, 3, (44, 0, 0), 0, 0)), (35, (.aload_n 1, 1, (0, 0, 0), 0, 0)), (36, (.iload 4, 2, (0, 0, 0), 0, 0)), (38, (.invokevirtual 43, 3, (5, 0, 0), 0, 847)), (41, (.goto 5, 3, (46, 0, 0), 0, 0)), (44, (.bipush 32, 2, (0, 0, 0), 32, 0)), (46, (.istore 5, 2, (0, 0, 0), 0, 0)), (48, (.iload 5, 2, (0, 0, 0), 0, 0)), (50, (.bipush 32, 2, (0, 0, 0), 32, 0)), (52, (.if_icmp .ne 26, 3, (78, 0, 0), 0, 0)), (55, (.aload_n 0, 1, (0, 0, 0), 0, 0)), (56, (.getfield 22, 3, (9, 3, 0), 0, 231)), (59, (.iload_n 3, 1, (0, 0, 0), 0, 0)), (60, (.iadd, 1, (0, 0, 0), 0, 0)), (61, (.aload_n 0, 1, (0, 0, 0), 0, 0)), (62, (.getfield 25, 3, (9, 4, 0), 0, 234))],
  [(65, (.if_icmp .ne 5, 3, (70, 0, 0), 0, 0)), (68, (.iload_n 2, 1, (0, 0, 0), 0, 0)), (69, (.ireturn, 1, (0, 0, 0), 0, 0)), (70, (.iinc 2 1, 3, (0, 0, 0), 1, 0)), (73, (.iconst 0, 1, (0, 0, 0), 0, 0)), (74, (.istore_n 3, 1, (0, 0, 0), 0, 0)), (75, (.goto 44, 3, (119, 0, 0), 0, 0)), (78, (.iload_n 3, 1, (0, 0, 0), 0, 0)), (79, (.ifCond .lt 38, 3, (117, 0, 0), 0, 0)), (82, (.aload_n 0, 1, (0, 0, 0), 0, 0)), (83, (.getfield 22, 3, (9, 3, 0), 0, 231)), (86, (.iload_n 3, 1, (0, 0, 0), 0, 0)), (87, (.iadd, 1, (0, 0, 0), 0, 0)), (88, (.aload_n 0, 1, (0, 0, 0), 0, 0)), (89, (.getfield 25, 3, (9, 4, 0), 0, 234)), (92, (.if_icmp .ge 25, 3, (117, 0, 0), 0, 0)), (95, (.aload_n 0, 1, (0, 0, 0), 0, 0))],
  [(96, (.getfield 9, 3, (9, 0, 0), 0, 225)), (99, (.aload_n 0, 1, (0, 0, 0), 0, 0)), (100, (.getfield 22, 3, (9, 3, 0), 0, 231)), (103, (.iload_n 3, 1, (0, 0, 0), 0, 0)), (104, (.iadd, 1, (0, 0, 0), 0, 0)), (105, (.iaload, 1, (0, 0, 0), 0, 0)), (106, (.iload 5, 2, (0, 0, 0), 0, 0)), (108, (.if_icmp .ne 9, 3, (117, 0, 0), 0, 0)), (111, (.iinc 3 1, 3, (0, 0, 0), 1, 0)), (114, (.goto 5, 3, (119, 0, 0), 0, 0)), (117, (.iconst (-1), 1, (0, 0, 0), (-1), 0)), (118, (.istore_n 3, 1, (0, 0, 0), 0, 0)), (119, (.iinc 4 1, 3, (0, 0, 0), 1, 0)), (122, (.goto (-105), 3, (17, 0, 0), 0, 0)), (125, (.iconst (-1), 1, (0, 0, 0), (-1), 0)), (126, (.ireturn, 1, (0, 0, 0), 0, 0))]]
set_option maxRecDepth 10000 in
def zp186 : List (List (Nat × ZI)) := [[(0, (.iload_n 1, 1, (0, 0, 0), 0, 0)), (1, (.iconst 3, 1, (0, 0, 0), 3, 0)), (2, (.irem, 1, (0, 0, 0), 0, 0)), (3, (.ifCond .eq 5, 3, (8, 0, 0), 0, 0)), (6, (.iconst 0, 1, (0, 0, 0), 0, 0)), (7, (.ireturn, 1, (0, 0, 0), 0, 0)), (8, (.iconst 0, 1, (0, 0, 0), 0, 0)), (9, (.istore_n 3, 1, (0, 0, 0), 0, 0)), (10, (.iload_n 3, 1, (0, 0, 0), 0, 0)), (11, (.iconst 2, 1, (0, 0, 0), 2, 0)), (12, (.iadd, 1, (0, 0, 0), 0, 0)), (13, (.iload_n 1, 1, (0, 0, 0), 0, 0)), (14, (.if_icmp .ge 40, 3, (54, 0, 0), 0, 0)), (17, (.aload_n 0, 1, (0, 0, 0), 0, 0)), (18, (.iload_n 3, 1, (0, 0, 0), 0, 0)), (19, (.invokevirtual 47, 3, (0, 187, 0), 0, 1575)), (22, (.istore 4, 2, (0, 0, 0), 0, 0)), (24, (.iload 4, 2, (0, 0, 0), 0, 0)), (26, (.ifCond .lt 20, 3, (46, 0, 0), 0, 0)), (29, (.iload 4, 2, (0, 0, 0), 0, 0)), (31, (.iload_n 2, 1, (0, 0, 0), 0, 0))],
  [(32, (.if_icmp .ge 14, 3, (46, 0, 0), 0, 0)), (35, (.aload_n 0, 1, (0, 0, 0), 0, 0)), (36, (.iload_n 3, 1, (0, 0, 0), 0, 0)), (37, (.invokevirtual 51, 3, (0, 188, 0), 0, 1579)), (40, (.sipush 9999, 3, (0, 0, 0), 9999, 0)), (43, (.if_icmp .le 5, 3, (48, 0, 0), 0, 0)), (46, (.iconst 0, 1, (0, 0, 0), 0, 0)), (47, (.ireturn, 1, (0, 0, 0), 0, 0)), (48, (.iinc 3 3, 3, (0, 0, 0), 3, 0)), (51, (.goto (-41), 3, (10, 0, 0), 0, 0)), (54, (.iconst 1, 1, (0, 0, 0), 1, 0)), (55, (.ireturn, 1, (0, 0, 0), 0, 0))]]
set_option maxRecDepth 10000 in
def zp187 : List (List (Nat × ZI)) := [[(0, (.aload_n 0, 1, (0, 0, 0), 0, 0)), (1, (.getfield 9, 3, (9, 0, 0), 0, 225)), (4, (.iload_n 1, 1, (0, 0, 0), 0, 0)), (5, (.iaload, 1, (0, 0, 0), 0, 0)), (6, (.bipush 97, 2, (0, 0, 0), 97, 0)), (8, (.isub, 1, (0, 0, 0), 0, 0)), (9, (.ireturn, 1, (0, 0, 0), 0, 0))]]
set_option maxRecDepth 10000 in
def zp188 : List (List (Nat × ZI)) := [[(0, (.aload_n 0, 1, (0, 0, 0), 0, 0)), (1, (.getfield 9, 3, (9, 0, 0), 0, 225)), (4, (.iload_n 1, 1, (0, 0, 0), 0, 0)), (5, (.iconst 1, 1, (0, 0, 0), 1, 0)), (6, (.iadd, 1, (0, 0, 0), 0, 0)), (7, (.iaload, 1, (0, 0, 0), 0, 0)), (8, (.bipush 8, 2, (0, 0, 0), 8, 0)), (10, (.ishl, 1, (0, 0, 0), 0, 0)), (11, (.aload_n 0, 1, (0, 0, 0), 0, 0)), (12, (.getfield 9, 3, (9, 0, 0), 0, 225)), (15, (.iload_n 1, 1, (0, 0, 0), 0, 0)), (16, (.iconst 2, 1, (0, 0, 0), 2, 0)), (17, (.iadd, 1, (0, 0, 0), 0, 0)), (18, (.iaload, 1, (0, 0, 0), 0, 0)), (19, (.ior, 1, (0, 0, 0), 0, 0)), (20, (.ireturn, 1, (0, 0, 0), 0, 0))]]
set_option maxRecDepth 10000 in
def zp189 : List (List (Nat × ZI)) := [[(0, (.aload_n 0, 1, (0, 0, 0), 0, 0)), (1, (.invokespecial 3, 3, (1, 0, 0), 0, 518)), (4, (.aload_n 0, 1, (0, 0, 0), 0, 0)), (5, (.new 9, 3, (0, 0, 0), 0, 519)), (8, (.dup, 1, (0, 0, 0), 0, 0)), (9, (.invokespecial 11, 3, (0, 90, 1), 0, 520)), (12, (.putfield 12, 3, (10, 0, 0), 0, 521)), (15, (.aload_n 0, 1, (0, 0, 0), 0, 0)), (16, (.bipush 12, 2, (0, 0, 0), 12, 0)), (18, (.newarray .int, 2, (0, 0, 0), 0, 251)), (20, (.putfield 18, 3, (10, 1, 0), 0, 522)), (23, (.return_, 1, (0, 0, 0), 0, 0))]]
set_option maxRecDepth 10000 in
def zp190 : List (List (Nat × ZI)) := [[(0, (.iconst 0, 1, (0, 0, 0), 0, 0)), (1, (.istore_n 3, 1, (0, 0, 0), 0, 0)), (2, (.iload_n 3, 1, (0, 0, 0), 0, 0)), (3, (.iload_n 2, 1, (0, 0, 0), 0, 0)), (4, (.if_icmp .ge 19, 3, (23, 0, 0), 0, 0)), (7, (.aload_n 1, 1, (0, 0, 0), 0, 0)), (8, (.aload_n 0, 1, (0, 0, 0), 0, 0)), (9, (.getfield 12, 3, (10, 0, 0), 0, 521)), (12, (.aconst_null, 1, (0, 0, 0), 0, 0)), (13, (.invokevirtual 22, 3, (0, 117, 1), 0, 637)), (16, (.pop, 1, (0, 0, 0), 0, 0)), (17, (.iinc 3 1, 3, (0, 0, 0), 1, 0)), (20, (.goto (-18), 3, (2, 0, 0), 0, 0)), (23, (.aload_n 1, 1, (0, 0, 0), 0, 0)), (24, (.aload_n 0, 1, (0, 0, 0), 0, 0)), (25, (.getfield 12, 3, (10, 0, 0), 0, 521)), (28, (.invokevirtual 28, 3, (0, 121, 1), 0, 1315)), (31, (.ireturn, 1, (0, 0, 0), 0, 0))]]
set_option maxRecDepth 10000 in
def zp191 : List (List (Nat × ZI)) := [[(0, (.aload_n 0, 1, (0, 0, 0), 0, 0)), (1, (.getfield 12, 3, (10, 0, 0), 0, 521)), (4, (.aload_n 2, 1, (0, 0, 0), 0, 0)), (5, (.invokevirtual 32, 3, (0, 91, 1), 0, 630)), (8, (.aload_n 0, 1, (0, 0, 0), 0, 0)), (9, (.aload_n 1, 1, (0, 0, 0), 0, 0)), (10, (.iload_n 3, 1, (0, 0, 0), 0, 0)), (11, (.invokevirtual 36, 3, (0, 190, 0), 0, 1311)), (14, (.istore 5, 2, (0, 0, 0), 0, 0)), (16, (.iload 4, 2, (0, 0, 0), 0, 0)), (18, (.tableswitch 46 0 2 #[26, 29, 38], 26, (7, 0, 0), 0, 0))],
  [(44, (.iload 5, 2, (0, 0, 0), 0, 0)), (46, (.ireturn, 1, (0, 0, 0), 0, 0)), (47, (.aload_n 1, 1, (0, 0, 0), 0, 0)), (48, (.aload_n 0, 1, (0, 0, 0), 0, 0)), (49, (.getfield 12, 3, (10, 0, 0), 0, 521)), (52, (.invokevirtual 40, 3, (0, 122, 1), 0, 1319)), (55, (.ireturn, 1, (0, 0, 0), 0, 0)), (56, (.aload_n 0, 1, (0, 0, 0), 0, 0)), (57, (.getfield 12, 3, (10, 0, 0), 0, 521)), (60, (.invokevirtual 43, 3, (0, 95, 1), 0, 1323)), (63, (.ireturn, 1, (0, 0, 0), 0, 0))],
  [(64, (.aload_n 0, 1, (0, 0, 0), 0, 0)), (65, (.getfield 12, 3, (10, 0, 0), 0, 521)), (68, (.getfield 47, 3, (0, 6, 1), 0, 393)), (71, (.ireturn, 1, (0, 0, 0), 0, 0))]]
set_option maxRecDepth 10000 in
def zp192 : List (List (Nat × ZI)) := [[(0, (.aload_n 0, 1, (0, 0, 0), 0, 0)), (1, (.getfield 12, 3, (10, 0, 0), 0, 521)), (4, (.aload_n 2, 1, (0, 0, 0), 0, 0)), (5, (.invokevirtual 32, 3, (0, 91, 1), 0, 630)), (8, (.aload_n 0, 1, (0, 0, 0), 0, 0)), (9, (.aload_n 1, 1, (0, 0, 0), 0, 0)), (10, (.iload 5, 2, (0, 0, 0), 0, 0)), (12, (.invokevirtual 36, 3, (0, 190, 0), 0, 1311)), (15, (.istore 6, 2, (0, 0, 0), 0, 0)), (17, (.aload_n 0, 1, (0, 0, 0), 0, 0)), (18, (.getfield 12, 3, (10, 0, 0), 0, 521)), (21, (.aload_n 2, 1, (0, 0, 0), 0, 0)), (22, (.invokevirtual 32, 3, (0, 91, 1), 0, 630)), (25, (.aload_n 0, 1, (0, 0, 0), 0, 0)), (26, (.getfield 12, 3, (10, 0, 0), 0, 521)), (29, (.getfield 51, 3, (0, 0, 1), 0, 371))],
  [(32, (.iload_n 3, 1, (0, 0, 0), 0, 0)), (33, (.iload 4, 2, (0, 0, 0), 0, 0)), (35, (.iastore, 1, (0, 0, 0), 0, 0)), (36, (.iload 6, 2, (0, 0, 0), 0, 0)), (38, (.aload_n 0, 1, (0, 0, 0), 0, 0)), (39, (.aload_n 1, 1, (0, 0, 0), 0, 0)), (40, (.iload 5, 2, (0, 0, 0), 0, 0)), (42, (.invokevirtual 36, 3, (0, 190, 0), 0, 1311)), (45, (.isub, 1, (0, 0, 0), 0, 0)), (46, (.ireturn, 1, (0, 0, 0), 0, 0))]]
set_option maxRecDepth 10000 in
def zp193 : List (List (Nat × ZI)) := [[(0, (.iconst (-1), 1, (0, 0, 0), (-1), 0)), (1, (.istore 6, 2, (0, 0, 0), 0, 0)), (3, (.iconst 0, 1, (0, 0, 0), 0, 0)), (4, (.istore 7, 2, (0, 0, 0), 0, 0)), (6, (.iconst 0, 1, (0, 0, 0), 0, 0)), (7, (.istore 8, 2, (0, 0, 0), 0, 0)), (9, (.iload 8, 2, (0, 0, 0), 0, 0)), (11, (.aload_n 1, 1, (0, 0, 0), 0, 0)), (12, (.getfield 54, 3, (2, 0, 1), 0, 351)), (15, (.getfield 58, 3, (8, 0, 1), 0, 265)), (18, (.if_icmp .ge 91, 3, (109, 0, 0), 0, 0)), (21, (.aload_n 2, 1, (0, 0, 0), 0, 0)), (22, (.getfield 51, 3, (0, 0, 1), 0, 371)), (25, (.iload 8, 2, (0, 0, 0), 0, 0)), (27, (.iaload, 1, (0, 0, 0), 0, 0)), (28, (.ifCond .le 6, 3, (34, 0, 0), 0, 0)), (31, (.goto 72, 3, (103, 0, 0), 0, 0))],
  [(34, (.aload_n 0, 1, (0, 0, 0), 0, 0)), (35, (.getfield 12, 3, (10, 0, 0), 0, 521)), (38, (.aload_n 2, 1, (0, 0, 0), 0, 0)), (39, (.invokevirtual 32, 3, (0, 91, 1), 0, 630)), (42, (.aload_n 0, 1, (0, 0, 0), 0, 0)), (43, (.getfield 12, 3, (10, 0, 0), 0, 521)), (46, (.getfield 51, 3, (0, 0, 1), 0, 371)), (49, (.iload 8, 2, (0, 0, 0), 0, 0)), (51, (.iload_n 3, 1, (0, 0, 0), 0, 0)), (52, (.iastore, 1, (0, 0, 0), 0, 0)), (53, (.aload_n 0, 1, (0, 0, 0), 0, 0)), (54, (.aload_n 1, 1, (0, 0, 0), 0, 0)), (55, (.iload 4, 2, (0, 0, 0), 0, 0)), (57, (.invokevirtual 36, 3, (0, 190, 0), 0, 1311)), (60, (.istore 9, 2, (0, 0, 0), 0, 0)), (62, (.iload 5, 2, (0, 0, 0), 0, 0))],
  [(64, (.ifCond .eq 14, 3, (78, 0, 0), 0, 0)), (67, (.aload_n 1, 1, (0, 0, 0), 0, 0)), (68, (.aload_n 0, 1, (0, 0, 0), 0, 0)), (69, (.getfield 12, 3, (10, 0, 0), 0, 521)), (72, (.invokevirtual 40, 3, (0, 122, 1), 0, 1319)), (75, (.goto 5, 3, (80, 0, 0), 0, 0)), (78, (.iload 9, 2, (0, 0, 0), 0, 0)), (80, (.istore 10, 2, (0, 0, 0), 0, 0)), (82, (.iload 6, 2, (0, 0, 0), 0, 0)), (84, (.iconst (-1), 1, (0, 0, 0), (-1), 0)), (85, (.if_icmp .eq 10, 3, (95, 0, 0), 0, 0)), (88, (.iload 10, 2, (0, 0, 0), 0, 0)), (90, (.iload 7, 2, (0, 0, 0), 0, 0)), (92, (.if_icmp .ge 11, 3, (103, 0, 0), 0, 0)), (95, (.iload 8, 2, (0, 0, 0), 0, 0))],
  [(97, (.istore 6, 2, (0, 0, 0), 0, 0)), (99, (.iload 10, 2, (0, 0, 0), 0, 0)), (101, (.istore 7, 2, (0, 0, 0), 0, 0)), (103, (.iinc 8 1, 3, (0, 0, 0), 1, 0)), (106, (.goto (-97), 3, (9, 0, 0), 0, 0)), (109, (.iload 6, 2, (0, 0, 0), 0, 0)), (111, (.ireturn, 1, (0, 0, 0), 0, 0))]]
set_option maxRecDepth 10000 in
def zp194 : List (List (Nat × ZI)) := [[(0, (.iconst (-1), 1, (0, 0, 0), (-1), 0)), (1, (.istore 5, 2, (0, 0, 0), 0, 0)), (3, (.iconst 0, 1, (0, 0, 0), 0, 0)), (4, (.istore 6, 2, (0, 0, 0), 0, 0)), (6, (.iconst 1, 1, (0, 0, 0), 1, 0)), (7, (.istore 7, 2, (0, 0, 0), 0, 0)), (9, (.iload 7, 2, (0, 0, 0), 0, 0)), (11, (.aload_n 1, 1, (0, 0, 0), 0, 0)), (12, (.getfield 54, 3, (2, 0, 1), 0, 351)), (15, (.getfield 58, 3, (8, 0, 1), 0, 265)), (18, (.if_icmp .ge 115, 3, (133, 0, 0), 0, 0)), (21, (.iconst 0, 1, (0, 0, 0), 0, 0)), (22, (.istore 8, 2, (0, 0, 0), 0, 0)), (24, (.iload 8, 2, (0, 0, 0), 0, 0)), (26, (.iload 7, 2, (0, 0, 0), 0, 0)), (28, (.if_icmp .ge 99, 3, (127, 0, 0), 0, 0)), (31, (.aload_n 2, 1, (0, 0, 0), 0, 0))],
  [(32, (.getfield 51, 3, (0, 0, 1), 0, 371)), (35, (.iload 7, 2, (0, 0, 0), 0, 0)), (37, (.iaload, 1, (0, 0, 0), 0, 0)), (38, (.ifCond .gt 83, 3, (121, 0, 0), 0, 0)), (41, (.aload_n 2, 1, (0, 0, 0), 0, 0)), (42, (.getfield 51, 3, (0, 0, 1), 0, 371)), (45, (.iload 8, 2, (0, 0, 0), 0, 0)), (47, (.iaload, 1, (0, 0, 0), 0, 0)), (48, (.ifCond .le 6, 3, (54, 0, 0), 0, 0)), (51, (.goto 70, 3, (121, 0, 0), 0, 0)), (54, (.aload_n 0, 1, (0, 0, 0), 0, 0)), (55, (.getfield 12, 3, (10, 0, 0), 0, 521)), (58, (.aload_n 2, 1, (0, 0, 0), 0, 0)), (59, (.invokevirtual 32, 3, (0, 91, 1), 0, 630)), (62, (.aload_n 0, 1, (0, 0, 0), 0, 0)), (63, (.getfield 12, 3, (10, 0, 0), 0, 521))],
  [(66, (.getfield 51, 3, (0, 0, 1), 0, 371)), (69, (.iload 7, 2, (0, 0, 0), 0, 0)), (71, (.iload_n 3, 1, (0, 0, 0), 0, 0)), (72, (.iastore, 1, (0, 0, 0), 0, 0)), (73, (.aload_n 0, 1, (0, 0, 0), 0, 0)), (74, (.getfield 12, 3, (10, 0, 0), 0, 521)), (77, (.getfield 51, 3, (0, 0, 1), 0, 371)), (80, (.iload 8, 2, (0, 0, 0), 0, 0)), (82, (.iload_n 3, 1, (0, 0, 0), 0, 0)), (83, (.iastore, 1, (0, 0, 0), 0, 0)), (84, (.aload_n 0, 1, (0, 0, 0), 0, 0)), (85, (.aload_n 1, 1, (0, 0, 0), 0, 0)), (86, (.iload 4, 2, (0, 0, 0), 0, 0)), (88, (.invokevirtual 36, 3, (0, 190, 0), 0, 1311)), (91, (.istore 9, 2, (0, 0, 0), 0, 0)), (93, (.iload 5, 2, (0, 0, 0), 0, 0)), (95, (.iconst (-1), 1, (0, 0, 0), (-1), 0))],
  [(96, (.if_icmp .eq 10, 3, (106, 0, 0), 0, 0)), (99, (.iload 9, 2, (0, 0, 0), 0, 0)), (101, (.iload 6, 2, (0, 0, 0), 0, 0)), (103, (.if_icmp .ge 18, 3, (121, 0, 0), 0, 0)), (106, (.iconst 1, 1, (0, 0, 0), 1, 0)), (107, (.iload 7, 2, (0, 0, 0), 0, 0)), (109, (.ishl, 1, (0, 0, 0), 0, 0)), (110, (.iconst 1, 1, (0, 0, 0), 1, 0)), (111, (.iload 8, 2, (0, 0, 0), 0, 0)), (113, (.ishl, 1, (0, 0, 0), 0, 0)), (114, (.ior, 1, (0, 0, 0), 0, 0)), (115, (.istore 5, 2, (0, 0, 0), 0, 0)), (117, (.iload 9, 2, (0, 0, 0), 0, 0)), (119, (.istore 6, 2, (0, 0, 0), 0, 0)), (121, (.iinc 8 1, 3, (0, 0, 0), 1, 0)), (124, (.goto (-100), 3, (24, 0, 0), 0, 0)), (127, (.iinc 7 1, 3, (0, 0, 0), 1, 0))],
  [(130, (.goto (-121), 3, (9, 0, 0), 0, 0)), (133, (.iload 5, 2, (0, 0, 0), 0, 0)), (135, (.ireturn, 1, (0, 0, 0), 0, 0))]]
set_option maxRecDepth 10000 in
def zp195 : List (List (Nat × ZI)) := [[(0, (.iconst 0, 1, (0, 0, 0), 0, 0)), (1, (.istore 5, 2, (0, 0, 0), 0, 0)), (3, (.iload 5, 2, (0, 0, 0), 0, 0)), (5, (.aload_n 1, 1, (0, 0, 0), 0, 0)), (6, (.getfield 54, 3, (2, 0, 1), 0, 351)), (9, (.getfield 63, 3, (8, 2, 1), 0, 274)), (12, (.if_icmp .gt 106, 3, (118, 0, 0), 0, 0)), (15, (.iconst 0, 1, (0, 0, 0), 0, 0)), (16, (.istore 6, 2, (0, 0, 0), 0, 0)), (18, (.iload 6, 2, (0, 0, 0), 0, 0)), (20, (.aload_n 1, 1, (0, 0, 0), 0, 0)), (21, (.getfield 54, 3, (2, 0, 1), 0, 351)), (24, (.invokevirtual 66, 3, (0, 172, 1), 0, 1369)), (27, (.if_icmp .gt 85, 3, (112, 0, 0), 0, 0)), (30, (.iload 6, 2, (0, 0, 0), 0, 0))],
  [(32, (.invokestatic 69, 3, (0, 338, 0), 0, 1370)), (35, (.iload 5, 2, (0, 0, 0), 0, 0)), (37, (.if_icmp .eq 6, 3, (43, 0, 0), 0, 0)), (40, (.goto 66, 3, (106, 0, 0), 0, 0)), (43, (.aload_n 0, 1, (0, 0, 0), 0, 0)), (44, (.getfield 12, 3, (10, 0, 0), 0, 521)), (47, (.aload_n 2, 1, (0, 0, 0), 0, 0)), (48, (.invokevirtual 32, 3, (0, 91, 1), 0, 630)), (51, (.iconst 0, 1, (0, 0, 0), 0, 0)), (52, (.istore 7, 2, (0, 0, 0), 0, 0)), (54, (.iload 7, 2, (0, 0, 0), 0, 0)), (56, (.aload_n 1, 1, (0, 0, 0), 0, 0)), (57, (.getfield 54, 3, (2, 0, 1), 0, 351)), (60, (.getfield 63, 3, (8, 2, 1), 0, 274)), (63, (.if_icmp .ge 29, 3, (92, 0, 0), 0, 0))],
  [(66, (.aload_n 0, 1, (0, 0, 0), 0, 0)), (67, (.getfield 12, 3, (10, 0, 0), 0, 521)), (70, (.getfield 75, 3, (0, 2, 1), 0, 380)), (73, (.iload 7, 2, (0, 0, 0), 0, 0)), (75, (.iload 6, 2, (0, 0, 0), 0, 0)), (77, (.iload 7, 2, (0, 0, 0), 0, 0)), (79, (.ishr, 1, (0, 0, 0), 0, 0)), (80, (.iconst 1, 1, (0, 0, 0), 1, 0)), (81, (.iand, 1, (0, 0, 0), 0, 0)), (82, (.bipush 100, 2, (0, 0, 0), 100, 0)), (84, (.imul, 1, (0, 0, 0), 0, 0)), (85, (.iastore, 1, (0, 0, 0), 0, 0)), (86, (.iinc 7 1, 3, (0, 0, 0), 1, 0)), (89, (.goto (-35), 3, (54, 0, 0), 0, 0)), (92, (.aload_n 0, 1, (0, 0, 0), 0, 0)), (93, (.aload_n 1, 1, (0, 0, 0), 0, 0)), (94, (.iload 4, 2, (0, 0, 0), 0, 0))],
  [(96, (.invokevirtual 36, 3, (0, 190, 0), 0, 1311)), (99, (.iload_n 3, 1, (0, 0, 0), 0, 0)), (100, (.if_icmp .gt 6, 3, (106, 0, 0), 0, 0)), (103, (.iload 6, 2, (0, 0, 0), 0, 0)), (105, (.ireturn, 1, (0, 0, 0), 0, 0)), (106, (.iinc 6 1, 3, (0, 0, 0), 1, 0)), (109, (.goto (-91), 3, (18, 0, 0), 0, 0)), (112, (.iinc 5 1, 3, (0, 0, 0), 1, 0)), (115, (.goto (-112), 3, (3, 0, 0), 0, 0)), (118, (.iconst (-1), 1, (0, 0, 0), (-1), 0)), (119, (.ireturn, 1, (0, 0, 0), 0, 0))]]
set_option maxRecDepth 10000 in
def zp196 : List (List (Nat × ZI)) := [[(0, (.aload_n 0, 1, (0, 0, 0), 0, 0)), (1, (.getfield 12, 3, (10, 0, 0), 0, 521)), (4, (.aload_n 2, 1, (0, 0, 0), 0, 0)), (5, (.invokevirtual 32, 3, (0, 91, 1), 0, 630)), (8, (.iconst 0, 1, (0, 0, 0), 0, 0)), (9, (.istore 4, 2, (0, 0, 0), 0, 0)), (11, (.iconst 0, 1, (0, 0, 0), 0, 0)), (12, (.istore 5, 2, (0, 0, 0), 0, 0)), (14, (.iload 5, 2, (0, 0, 0), 0, 0)), (16, (.aload_n 1, 1, (0, 0, 0), 0, 0)), (17, (.getfield 54, 3, (2, 0, 1), 0, 351)), (20, (.getfield 58, 3, (8, 0, 1), 0, 265)), (23, (.if_icmp .ge 48, 3, (71, 0, 0), 0, 0)), (26, (.aload_n 0, 1, (0, 0, 0), 0, 0)), (27, (.getfield 18, 3, (10, 1, 0), 0, 522)), (30, (.iload 5, 2, (0, 0, 0), 0, 0))],
  [(32, (.aload_n 1, 1, (0, 0, 0), 0, 0)), (33, (.aload_n 0, 1, (0, 0, 0), 0, 0)), (34, (.getfield 12, 3, (10, 0, 0), 0, 521)), (37, (.iload 5, 2, (0, 0, 0), 0, 0)), (39, (.invokevirtual 78, 3, (0, 119, 1), 0, 1387)), (42, (.iastore, 1, (0, 0, 0), 0, 0)), (43, (.aload_n 1, 1, (0, 0, 0), 0, 0)), (44, (.getfield 54, 3, (2, 0, 1), 0, 351)), (47, (.getfield 82, 3, (8, 4, 1), 0, 282)), (50, (.iload 5, 2, (0, 0, 0), 0, 0)), (52, (.iaload, 1, (0, 0, 0), 0, 0)), (53, (.ifCond .eq 12, 3, (65, 0, 0), 0, 0)), (56, (.iload 4, 2, (0, 0, 0), 0, 0)), (58, (.iconst 1, 1, (0, 0, 0), 1, 0)), (59, (.iload 5, 2, (0, 0, 0), 0, 0)), (61, (.ishl, 1, (0, 0, 0), 0, 0)), (62, (.ior, 1, (0, 0, 0), 0, 0)), (63, (.istore 4, 2, (0, 0, 0), 0, 0))],
  [(65, (.iinc 5 1, 3, (0, 0, 0), 1, 0)), (68, (.goto (-54), 3, (14, 0, 0), 0, 0)), (71, (.aload_n 1, 1, (0, 0, 0), 0, 0)), (72, (.aload_n 2, 1, (0, 0, 0), 0, 0)), (73, (.invokevirtual 40, 3, (0, 122, 1), 0, 1319)), (76, (.istore 5, 2, (0, 0, 0), 0, 0)), (78, (.iconst (-1), 1, (0, 0, 0), (-1), 0)), (79, (.istore 6, 2, (0, 0, 0), 0, 0)), (81, (.iconst 0, 1, (0, 0, 0), 0, 0)), (82, (.istore 7, 2, (0, 0, 0), 0, 0)), (84, (.iconst 0, 1, (0, 0, 0), 0, 0)), (85, (.istore 8, 2, (0, 0, 0), 0, 0)), (87, (.iload 8, 2, (0, 0, 0), 0, 0)), (89, (.iload 4, 2, (0, 0, 0), 0, 0)), (91, (.if_icmp .gt 74, 3, (165, 0, 0), 0, 0)), (94, (.iload 8, 2, (0, 0, 0), 0, 0))],
  [(96, (.iload 4, 2, (0, 0, 0), 0, 0)), (98, (.iconst (-1), 1, (0, 0, 0), (-1), 0)), (99, (.ixor, 1, (0, 0, 0), 0, 0)), (100, (.iand, 1, (0, 0, 0), 0, 0)), (101, (.ifCond .ne 58, 3, (159, 0, 0), 0, 0)), (104, (.iload 5, 2, (0, 0, 0), 0, 0)), (106, (.aload_n 0, 1, (0, 0, 0), 0, 0)), (107, (.iload 8, 2, (0, 0, 0), 0, 0)), (109, (.aload_n 1, 1, (0, 0, 0), 0, 0)), (110, (.getfield 54, 3, (2, 0, 1), 0, 351)), (113, (.getfield 58, 3, (8, 0, 1), 0, 265)), (116, (.invokevirtual 85, 3, (0, 197, 0), 0, 1388)), (119, (.isub, 1, (0, 0, 0), 0, 0)), (120, (.iload_n 3, 1, (0, 0, 0), 0, 0)), (121, (.if_icmp .le 6, 3, (127, 0, 0), 0, 0)), (124, (.goto 35, 3, (159, 0, 0), 0, 0)), (127, (.aload_n 1, 1, (0, 0, 0), 0, 0))],
  [(128, (.getfield 54, 3, (2, 0, 1), 0, 351)), (131, (.iload 8, 2, (0, 0, 0), 0, 0)), (133, (.invokevirtual 89, 3, (0, 176, 1), 0, 1392)), (136, (.istore 9, 2, (0, 0, 0), 0, 0)), (138, (.iload 6, 2, (0, 0, 0), 0, 0)), (140, (.iconst (-1), 1, (0, 0, 0), (-1), 0)), (141, (.if_icmp .eq 10, 3, (151, 0, 0), 0, 0)), (144, (.iload 9, 2, (0, 0, 0), 0, 0)), (146, (.iload 7, 2, (0, 0, 0), 0, 0)), (148, (.if_icmp .ge 11, 3, (159, 0, 0), 0, 0)), (151, (.iload 8, 2, (0, 0, 0), 0, 0)), (153, (.istore 6, 2, (0, 0, 0), 0, 0)), (155, (.iload 9, 2, (0, 0, 0), 0, 0)), (157, (.istore 7, 2, (0, 0, 0), 0, 0)), (159, (.iinc 8 1, 3, (0, 0, 0), 1, 0))],
  [(162, (.goto (-75), 3, (87, 0, 0), 0, 0)), (165, (.iload 6, 2, (0, 0, 0), 0, 0)), (167, (.ireturn, 1, (0, 0, 0), 0, 0))]]
set_option maxRecDepth 10000 in
def zp197 : List (List (Nat × ZI)) := [[(0, (.iconst 0, 1, (0, 0, 0), 0, 0)), (1, (.istore_n 3, 1, (0, 0, 0), 0, 0)), (2, (.iconst 0, 1, (0, 0, 0), 0, 0)), (3, (.istore 4, 2, (0, 0, 0), 0, 0)), (5, (.iload 4, 2, (0, 0, 0), 0, 0)), (7, (.iload_n 2, 1, (0, 0, 0), 0, 0)), (8, (.if_icmp .ge 28, 3, (36, 0, 0), 0, 0)), (11, (.iload_n 1, 1, (0, 0, 0), 0, 0)), (12, (.iload 4, 2, (0, 0, 0), 0, 0)), (14, (.ishr, 1, (0, 0, 0), 0, 0)), (15, (.iconst 1, 1, (0, 0, 0), 1, 0)), (16, (.iand, 1, (0, 0, 0), 0, 0)), (17, (.ifCond .eq 13, 3, (30, 0, 0), 0, 0)), (20, (.iload_n 3, 1, (0, 0, 0), 0, 0)), (21, (.aload_n 0, 1, (0, 0, 0), 0, 0)), (22, (.getfield 18, 3, (10, 1, 0), 0, 522)), (25, (.iload 4, 2, (0, 0, 0), 0, 0)), (27, (.iaload, 1, (0, 0, 0), 0, 0)), (28, (.iadd, 1, (0, 0, 0), 0, 0)), (29, (.istore_n 3, 1, (0, 0, 0), 0, 0)), (30, (.iinc 4 1, 3, (0, 0, 0), 1, 0))],
  [(33, (.goto (-28), 3, (5, 0, 0), 0, 0)), (36, (.iload_n 3, 1, (0, 0, 0), 0, 0)), (37, (.ireturn, 1, (0, 0, 0), 0, 0))]]
set_option maxRecDepth 10000 in
def zp198 : List (List (Nat × ZI)) := [[(0, (.iload 4, 2, (0, 0, 0), 0, 0)), (2, (.istore 5, 2, (0, 0, 0), 0, 0)), (4, (.iload 5, 2, (0, 0, 0), 0, 0)), (6, (.iconst 1, 1, (0, 0, 0), 1, 0)), (7, (.if_icmp .lt 26, 3, (33, 0, 0), 0, 0)), (10, (.aload_n 0, 1, (0, 0, 0), 0, 0)), (11, (.aload_n 1, 1, (0, 0, 0), 0, 0)), (12, (.aload_n 2, 1, (0, 0, 0), 0, 0)), (13, (.iload_n 3, 1, (0, 0, 0), 0, 0)), (14, (.iload 4, 2, (0, 0, 0), 0, 0)), (16, (.iload 5, 2, (0, 0, 0), 0, 0)), (18, (.invokevirtual 92, 3, (0, 199, 0), 0, 1408)), (21, (.ifCond .eq 6, 3, (27, 0, 0), 0, 0)), (24, (.iload 5, 2, (0, 0, 0), 0, 0)), (26, (.ireturn, 1, (0, 0, 0), 0, 0)), (27, (.iinc 5 (-1), 3, (0, 0, 0), (-1), 0)), (30, (.goto (-26), 3, (4, 0, 0), 0, 0))],
  [(33, (.iconst (-1), 1, (0, 0, 0), (-1), 0)), (34, (.ireturn, 1, (0, 0, 0), 0, 0))]]
set_option maxRecDepth 10000 in
def zp199 : List (List (Nat × ZI)) := [[(0, (.aload_n 0, 1, (0, 0, 0), 0, 0)), (1, (.getfield 12, 3, (10, 0, 0), 0, 521)), (4, (.aload_n 2, 1, (0, 0, 0), 0, 0)), (5, (.invokevirtual 32, 3, (0, 91, 1), 0, 630)), (8, (.iconst 0, 1, (0, 0, 0), 0, 0)), (9, (.istore 6, 2, (0, 0, 0), 0, 0)), (11, (.iconst 0, 1, (0, 0, 0), 0, 0)), (12, (.istore 7, 2, (0, 0, 0), 0, 0)), (14, (.iload 7, 2, (0, 0, 0), 0, 0)), (16, (.iload 4, 2, (0, 0, 0), 0, 0)), (18, (.if_icmp .ge 54, 3, (72, 0, 0), 0, 0)), (21, (.aload_n 1, 1, (0, 0, 0), 0, 0)), (22, (.aload_n 0, 1, (0, 0, 0), 0, 0)), (23, (.getfield 12, 3, (10, 0, 0), 0, 521)), (26, (.aconst_null, 1, (0, 0, 0), 0, 0)), (27, (.invokevirtual 22, 3, (0, 117, 1), 0, 637)), (30, (.pop, 1, (0, 0, 0), 0, 0)), (31, (.iinc 6 1, 3, (0, 0, 0), 1, 0))],
  [(34, (.iload 6, 2, (0, 0, 0), 0, 0)), (36, (.iload 5, 2, (0, 0, 0), 0, 0)), (38, (.if_icmp .ne 14, 3, (52, 0, 0), 0, 0)), (41, (.aload_n 1, 1, (0, 0, 0), 0, 0)), (42, (.aload_n 0, 1, (0, 0, 0), 0, 0)), (43, (.getfield 12, 3, (10, 0, 0), 0, 521)), (46, (.invokevirtual 96, 3, (0, 120, 1), 0, 1412)), (49, (.iconst 0, 1, (0, 0, 0), 0, 0)), (50, (.istore 6, 2, (0, 0, 0), 0, 0)), (52, (.aload_n 1, 1, (0, 0, 0), 0, 0)), (53, (.aload_n 0, 1, (0, 0, 0), 0, 0)), (54, (.getfield 12, 3, (10, 0, 0), 0, 521)), (57, (.invokevirtual 28, 3, (0, 121, 1), 0, 1315)), (60, (.iload_n 3, 1, (0, 0, 0), 0, 0)), (61, (.if_icmp .le 5, 3, (66, 0, 0), 0, 0))],
  [(64, (.iconst 0, 1, (0, 0, 0), 0, 0)), (65, (.ireturn, 1, (0, 0, 0), 0, 0)), (66, (.iinc 7 1, 3, (0, 0, 0), 1, 0)), (69, (.goto (-55), 3, (14, 0, 0), 0, 0)), (72, (.iconst 1, 1, (0, 0, 0), 1, 0)), (73, (.ireturn, 1, (0, 0, 0), 0, 0))]]
set_option maxRecDepth 10000 in
def zp200 : List (List (Nat × ZI)) := [[(0, (.aload_n 0, 1, (0, 0, 0), 0, 0)), (1, (.getfield 12, 3, (10, 0, 0), 0, 521)), (4, (.aload_n 2, 1, (0, 0, 0), 0, 0)), (5, (.invokevirtual 32, 3, (0, 91, 1), 0, 630)), (8, (.iconst 0, 1, (0, 0, 0), 0, 0)), (9, (.istore 4, 2, (0, 0, 0), 0, 0)), (11, (.iload 4, 2, (0, 0, 0), 0, 0)), (13, (.sipush 300, 3, (0, 0, 0), 300, 0)), (16, (.if_icmp .gt 34, 3, (50, 0, 0), 0, 0)), (19, (.aload_n 1, 1, (0, 0, 0), 0, 0)), (20, (.aload_n 0, 1, (0, 0, 0), 0, 0)), (21, (.getfield 12, 3, (10, 0, 0), 0, 521)), (24, (.invokevirtual 28, 3, (0, 121, 1), 0, 1315)), (27, (.iload_n 3, 1, (0, 0, 0), 0, 0)), (28, (.if_icmp .lt 6, 3, (34, 0, 0), 0, 0)), (31, (.iload 4, 2, (0, 0, 0), 0, 0))],
  [(33, (.ireturn, 1, (0, 0, 0), 0, 0)), (34, (.aload_n 1, 1, (0, 0, 0), 0, 0)), (35, (.aload_n 0, 1, (0, 0, 0), 0, 0)), (36, (.getfield 12, 3, (10, 0, 0), 0, 521)), (39, (.aconst_null, 1, (0, 0, 0), 0, 0)), (40, (.invokevirtual 22, 3, (0, 117, 1), 0, 637)), (43, (.pop, 1, (0, 0, 0), 0, 0)), (44, (.iinc 4 1, 3, (0, 0, 0), 1, 0)), (47, (.goto (-36), 3, (11, 0, 0), 0, 0)), (50, (.iconst (-1), 1, (0, 0, 0), (-1), 0)), (51, (.ireturn, 1, (0, 0, 0), 0, 0))]]
set_option maxRecDepth 10000 in
def zp201 : List (List (Nat × ZI)) := [[(0, (.aload_n 0, 1, (0, 0, 0), 0, 0)), (1, (.getfield 12, 3, (10, 0, 0), 0, 521)), (4, (.aload_n 2, 1, (0, 0, 0), 0, 0)), (5, (.invokevirtual 32, 3, (0, 91, 1), 0, 630)), (8, (.iconst 0, 1, (0, 0, 0), 0, 0)), (9, (.istore_n 3, 1, (0, 0, 0), 0, 0)), (10, (.iload_n 3, 1, (0, 0, 0), 0, 0)), (11, (.sipush 300, 3, (0, 0, 0), 300, 0)), (14, (.if_icmp .gt 38, 3, (52, 0, 0), 0, 0)), (17, (.aload_n 0, 1, (0, 0, 0), 0, 0)), (18, (.getfield 12, 3, (10, 0, 0), 0, 521)), (21, (.getfield 99, 3, (0, 8, 1), 0, 399)), (24, (.aload_n 0, 1, (0, 0, 0), 0, 0)), (25, (.getfield 12, 3, (10, 0, 0), 0, 521)), (28, (.getfield 102, 3, (0, 9, 1), 0, 403)), (31, (.if_icmp .lt 5, 3, (36, 0, 0), 0, 0))],
  [(34, (.iload_n 3, 1, (0, 0, 0), 0, 0)), (35, (.ireturn, 1, (0, 0, 0), 0, 0)), (36, (.aload_n 1, 1, (0, 0, 0), 0, 0)), (37, (.aload_n 0, 1, (0, 0, 0), 0, 0)), (38, (.getfield 12, 3, (10, 0, 0), 0, 521)), (41, (.aconst_null, 1, (0, 0, 0), 0, 0)), (42, (.invokevirtual 22, 3, (0, 117, 1), 0, 637)), (45, (.pop, 1, (0, 0, 0), 0, 0)), (46, (.iinc 3 1, 3, (0, 0, 0), 1, 0)), (49, (.goto (-39), 3, (10, 0, 0), 0, 0)), (52, (.iconst (-1), 1, (0, 0, 0), (-1), 0)), (53, (.ireturn, 1, (0, 0, 0), 0, 0))]]
set_option maxRecDepth 10000 in
def zp202 : List (List (Nat × ZI)) := [[(0, (.aload_n 0, 1, (0, 0, 0), 0, 0)), (1, (.getfield 12, 3, (10, 0, 0), 0, 521)), (4, (.aload_n 2, 1, (0, 0, 0), 0, 0)), (5, (.invokevirtual 32, 3, (0, 91, 1), 0, 630)), (8, (.iconst 0, 1, (0, 0, 0), 0, 0)), (9, (.istore 4, 2, (0, 0, 0), 0, 0)), (11, (.iload 4, 2, (0, 0, 0), 0, 0)), (13, (.bipush 99, 2, (0, 0, 0), 99, 0)), (15, (.if_icmp .gt 32, 3, (47, 0, 0), 0, 0)), (18, (.aload_n 1, 1, (0, 0, 0), 0, 0)), (19, (.aload_n 0, 1, (0, 0, 0), 0, 0)), (20, (.getfield 12, 3, (10, 0, 0), 0, 521)), (23, (.invokevirtual 40, 3, (0, 122, 1), 0, 1319)), (26, (.iload_n 3, 1, (0, 0, 0), 0, 0)), (27, (.if_icmp .gt 6, 3, (33, 0, 0), 0, 0)), (30, (.iload 4, 2, (0, 0, 0), 0, 0))],
  [(32, (.ireturn, 1, (0, 0, 0), 0, 0)), (33, (.aload_n 1, 1, (0, 0, 0), 0, 0)), (34, (.aload_n 0, 1, (0, 0, 0), 0, 0)), (35, (.getfield 12, 3, (10, 0, 0), 0, 521)), (38, (.invokevirtual 96, 3, (0, 120, 1), 0, 1412)), (41, (.iinc 4 1, 3, (0, 0, 0), 1, 0)), (44, (.goto (-33), 3, (11, 0, 0), 0, 0)), (47, (.iconst (-1), 1, (0, 0, 0), (-1), 0)), (48, (.ireturn, 1, (0, 0, 0), 0, 0))]]
set_option maxRecDepth 10000 in
def zp203 : List (List (Nat × ZI)) := [[(0, (.iconst 0, 1, (0, 0, 0), 0, 0)), (1, (.istore 5, 2, (0, 0, 0), 0, 0)), (3, (.iconst 0, 1, (0, 0, 0), 0, 0)), (4, (.istore 6, 2, (0, 0, 0), 0, 0)), (6, (.iconst 0, 1, (0, 0, 0), 0, 0)), (7, (.istore 7, 2, (0, 0, 0), 0, 0)), (9, (.iload 7, 2, (0, 0, 0), 0, 0)), (11, (.iload 4, 2, (0, 0, 0), 0, 0)), (13, (.if_icmp .gt 76, 3, (89, 0, 0), 0, 0)), (16, (.aload_n 0, 1, (0, 0, 0), 0, 0)), (17, (.getfield 12, 3, (10, 0, 0), 0, 521)), (20, (.aload_n 2, 1, (0, 0, 0), 0, 0)), (21, (.invokevirtual 32, 3, (0, 91, 1), 0, 630)), (24, (.aload_n 0, 1, (0, 0, 0), 0, 0)), (25, (.aload_n 1, 1, (0, 0, 0), 0, 0)), (26, (.iload 7, 2, (0, 0, 0), 0, 0)), (28, (.invokevirtual 36, 3, (0, 190, 0), 0, 1311)), (31, (.pop, 1, (0, 0, 0), 0, 0))],
  [(32, (.aload_n 1, 1, (0, 0, 0), 0, 0)), (33, (.aload_n 0, 1, (0, 0, 0), 0, 0)), (34, (.getfield 12, 3, (10, 0, 0), 0, 521)), (37, (.iload_n 3, 1, (0, 0, 0), 0, 0)), (38, (.invokevirtual 78, 3, (0, 119, 1), 0, 1387)), (41, (.pop, 1, (0, 0, 0), 0, 0)), (42, (.aload_n 0, 1, (0, 0, 0), 0, 0)), (43, (.aload_n 1, 1, (0, 0, 0), 0, 0)), (44, (.iload 4, 2, (0, 0, 0), 0, 0)), (46, (.iload 7, 2, (0, 0, 0), 0, 0)), (48, (.isub, 1, (0, 0, 0), 0, 0)), (49, (.invokevirtual 36, 3, (0, 190, 0), 0, 1311)), (52, (.pop, 1, (0, 0, 0), 0, 0)), (53, (.aload_n 0, 1, (0, 0, 0), 0, 0)), (54, (.getfield 12, 3, (10, 0, 0), 0, 521)), (57, (.iload_n 3, 1, (0, 0, 0), 0, 0)), (58, (.invokevirtual 105, 3, (0, 92, 1), 0, 1451)), (61, (.istore 8, 2, (0, 0, 0), 0, 0)), (63, (.iload 7, 2, (0, 0, 0), 0, 0))],
  [(65, (.ifCond .eq 10, 3, (75, 0, 0), 0, 0)), (68, (.iload 8, 2, (0, 0, 0), 0, 0)), (70, (.iload 6, 2, (0, 0, 0), 0, 0)), (72, (.if_icmp .ge 11, 3, (83, 0, 0), 0, 0)), (75, (.iload 7, 2, (0, 0, 0), 0, 0)), (77, (.istore 5, 2, (0, 0, 0), 0, 0)), (79, (.iload 8, 2, (0, 0, 0), 0, 0)), (81, (.istore 6, 2, (0, 0, 0), 0, 0)), (83, (.iinc 7 1, 3, (0, 0, 0), 1, 0)), (86, (.goto (-77), 3, (9, 0, 0), 0, 0)), (89, (.iload 5, 2, (0, 0, 0), 0, 0)), (91, (.ireturn, 1, (0, 0, 0), 0, 0))]]
set_option maxRecDepth 10000 in
def zp204 : List (List (Nat × ZI)) := [[(0, (.aload_n 0, 1, (0, 0, 0), 0, 0)), (1, (.getfield 12, 3, (10, 0, 0), 0, 521)), (4, (.aload_n 2, 1, (0, 0, 0), 0, 0)), (5, (.invokevirtual 32, 3, (0, 91, 1), 0, 630)), (8, (.aload_n 0, 1, (0, 0, 0), 0, 0)), (9, (.aload_n 1, 1, (0, 0, 0), 0, 0)), (10, (.iload 5, 2, (0, 0, 0), 0, 0)), (12, (.invokevirtual 36, 3, (0, 190, 0), 0, 1311)), (15, (.istore 6, 2, (0, 0, 0), 0, 0)), (17, (.aload_n 0, 1, (0, 0, 0), 0, 0)), (18, (.getfield 12, 3, (10, 0, 0), 0, 521)), (21, (.aload_n 2, 1, (0, 0, 0), 0, 0)), (22, (.invokevirtual 32, 3, (0, 91, 1), 0, 630)), (25, (.iconst 0, 1, (0, 0, 0), 0, 0)), (26, (.istore 7, 2, (0, 0, 0), 0, 0)), (28, (.iload 7, 2, (0, 0, 0), 0, 0)), (30, (.iload 5, 2, (0, 0, 0), 0, 0))],
  [(32, (.if_icmp .ge 50, 3, (82, 0, 0), 0, 0)), (35, (.aload_n 1, 1, (0, 0, 0), 0, 0)), (36, (.aload_n 0, 1, (0, 0, 0), 0, 0)), (37, (.getfield 12, 3, (10, 0, 0), 0, 521)), (40, (.aconst_null, 1, (0, 0, 0), 0, 0)), (41, (.invokevirtual 22, 3, (0, 117, 1), 0, 637)), (44, (.pop, 1, (0, 0, 0), 0, 0)), (45, (.aload_n 1, 1, (0, 0, 0), 0, 0)), (46, (.getfield 54, 3, (2, 0, 1), 0, 351)), (49, (.iload_n 3, 1, (0, 0, 0), 0, 0)), (50, (.aload_n 0, 1, (0, 0, 0), 0, 0)), (51, (.getfield 12, 3, (10, 0, 0), 0, 521)), (54, (.getfield 108, 3, (0, 1, 1), 0, 377)), (57, (.iload_n 3, 1, (0, 0, 0), 0, 0)), (58, (.iaload, 1, (0, 0, 0), 0, 0)), (59, (.invokevirtual 111, 3, (0, 173, 1), 0, 1463)), (62, (.iload 4, 2, (0, 0, 0), 0, 0))],
  [(64, (.if_icmp .ne 12, 3, (76, 0, 0), 0, 0)), (67, (.aload_n 0, 1, (0, 0, 0), 0, 0)), (68, (.getfield 12, 3, (10, 0, 0), 0, 521)), (71, (.iload_n 3, 1, (0, 0, 0), 0, 0)), (72, (.invokevirtual 114, 3, (0, 101, 1), 0, 1464)), (75, (.pop, 1, (0, 0, 0), 0, 0)), (76, (.iinc 7 1, 3, (0, 0, 0), 1, 0)), (79, (.goto (-51), 3, (28, 0, 0), 0, 0)), (82, (.iload 6, 2, (0, 0, 0), 0, 0)), (84, (.aload_n 1, 1, (0, 0, 0), 0, 0)), (85, (.aload_n 0, 1, (0, 0, 0), 0, 0)), (86, (.getfield 12, 3, (10, 0, 0), 0, 521)), (89, (.invokevirtual 28, 3, (0, 121, 1), 0, 1315)), (92, (.isub, 1, (0, 0, 0), 0, 0)), (93, (.ireturn, 1, (0, 0, 0), 0, 0))]]
set_option maxRecDepth 10000 in
def zp205 : List (List (Nat × ZI)) := [[(0, (.aload_n 1, 1, (0, 0, 0), 0, 0)), (1, (.getfield 54, 3, (2, 0, 1), 0, 351)), (4, (.iload_n 3, 1, (0, 0, 0), 0, 0)), (5, (.invokevirtual 117, 3, (0, 175, 1), 0, 1476)), (8, (.istore 5, 2, (0, 0, 0), 0, 0)), (10, (.iconst (-1), 1, (0, 0, 0), (-1), 0)), (11, (.istore 6, 2, (0, 0, 0), 0, 0)), (13, (.iconst 0, 1, (0, 0, 0), 0, 0)), (14, (.istore 7, 2, (0, 0, 0), 0, 0)), (16, (.iconst 0, 1, (0, 0, 0), 0, 0)), (17, (.istore 8, 2, (0, 0, 0), 0, 0)), (19, (.iload 8, 2, (0, 0, 0), 0, 0)), (21, (.aload_n 1, 1, (0, 0, 0), 0, 0)), (22, (.getfield 54, 3, (2, 0, 1), 0, 351)), (25, (.getfield 58, 3, (8, 0, 1), 0, 265)), (28, (.if_icmp .ge 56, 3, (84, 0, 0), 0, 0)), (31, (.iload 5, 2, (0, 0, 0), 0, 0))],
  [(33, (.iload 8, 2, (0, 0, 0), 0, 0)), (35, (.ishr, 1, (0, 0, 0), 0, 0)), (36, (.iconst 1, 1, (0, 0, 0), 1, 0)), (37, (.iand, 1, (0, 0, 0), 0, 0)), (38, (.ifCond .ne 6, 3, (44, 0, 0), 0, 0)), (41, (.goto 37, 3, (78, 0, 0), 0, 0)), (44, (.aload_n 0, 1, (0, 0, 0), 0, 0)), (45, (.aload_n 1, 1, (0, 0, 0), 0, 0)), (46, (.aload_n 2, 1, (0, 0, 0), 0, 0)), (47, (.iload_n 3, 1, (0, 0, 0), 0, 0)), (48, (.iload 8, 2, (0, 0, 0), 0, 0)), (50, (.iload 4, 2, (0, 0, 0), 0, 0)), (52, (.invokevirtual 120, 3, (0, 204, 0), 0, 1477)), (55, (.istore 9, 2, (0, 0, 0), 0, 0)), (57, (.iload 6, 2, (0, 0, 0), 0, 0)), (59, (.iconst (-1), 1, (0, 0, 0), (-1), 0)), (60, (.if_icmp .eq 10, 3, (70, 0, 0), 0, 0)), (63, (.iload 9, 2, (0, 0, 0), 0, 0))],
  [(65, (.iload 7, 2, (0, 0, 0), 0, 0)), (67, (.if_icmp .le 11, 3, (78, 0, 0), 0, 0)), (70, (.iload 8, 2, (0, 0, 0), 0, 0)), (72, (.istore 6, 2, (0, 0, 0), 0, 0)), (74, (.iload 9, 2, (0, 0, 0), 0, 0)), (76, (.istore 7, 2, (0, 0, 0), 0, 0)), (78, (.iinc 8 1, 3, (0, 0, 0), 1, 0)), (81, (.goto (-62), 3, (19, 0, 0), 0, 0)), (84, (.iload 6, 2, (0, 0, 0), 0, 0)), (86, (.ireturn, 1, (0, 0, 0), 0, 0))]]
set_option maxRecDepth 10000 in
def zp206 : List (List (Nat × ZI)) := [[(0, (.iconst 0, 1, (0, 0, 0), 0, 0)), (1, (.istore 5, 2, (0, 0, 0), 0, 0)), (3, (.iconst 1, 1, (0, 0, 0), 1, 0)), (4, (.istore 6, 2, (0, 0, 0), 0, 0)), (6, (.iload 6, 2, (0, 0, 0), 0, 0)), (8, (.bipush 8, 2, (0, 0, 0), 8, 0)), (10, (.if_icmp .gt 66, 3, (76, 0, 0), 0, 0)), (13, (.aload_n 0, 1, (0, 0, 0), 0, 0)), (14, (.getfield 12, 3, (10, 0, 0), 0, 521)), (17, (.aload_n 2, 1, (0, 0, 0), 0, 0)), (18, (.invokevirtual 32, 3, (0, 91, 1), 0, 630)), (21, (.aload_n 0, 1, (0, 0, 0), 0, 0)), (22, (.getfield 12, 3, (10, 0, 0), 0, 521)), (25, (.iload 6, 2, (0, 0, 0), 0, 0)), (27, (.putfield 124, 3, (0, 12, 1), 0, 412)), (30, (.aload_n 0, 1, (0, 0, 0), 0, 0)), (31, (.aload_n 1, 1, (0, 0, 0), 0, 0))],
  [(32, (.iload_n 3, 1, (0, 0, 0), 0, 0)), (33, (.invokevirtual 36, 3, (0, 190, 0), 0, 1311)), (36, (.istore 7, 2, (0, 0, 0), 0, 0)), (38, (.iload 6, 2, (0, 0, 0), 0, 0)), (40, (.iconst 1, 1, (0, 0, 0), 1, 0)), (41, (.if_icmp .eq 25, 3, (66, 0, 0), 0, 0)), (44, (.iload 4, 2, (0, 0, 0), 0, 0)), (46, (.ifCond .eq 13, 3, (59, 0, 0), 0, 0)), (49, (.iload 7, 2, (0, 0, 0), 0, 0)), (51, (.iload 5, 2, (0, 0, 0), 0, 0)), (53, (.if_icmp .le 17, 3, (70, 0, 0), 0, 0)), (56, (.goto 10, 3, (66, 0, 0), 0, 0)), (59, (.iload 7, 2, (0, 0, 0), 0, 0)), (61, (.iload 5, 2, (0, 0, 0), 0, 0)), (63, (.if_icmp .ge 7, 3, (70, 0, 0), 0, 0))],
  [(66, (.iload 7, 2, (0, 0, 0), 0, 0)), (68, (.istore 5, 2, (0, 0, 0), 0, 0)), (70, (.iinc 6 1, 3, (0, 0, 0), 1, 0)), (73, (.goto (-67), 3, (6, 0, 0), 0, 0)), (76, (.iload 5, 2, (0, 0, 0), 0, 0)), (78, (.ireturn, 1, (0, 0, 0), 0, 0))]]
set_option maxRecDepth 10000 in
def zp207 : List (List (Nat × ZI)) := [[(0, (.aload_n 0, 1, (0, 0, 0), 0, 0)), (1, (.getfield 12, 3, (10, 0, 0), 0, 521)), (4, (.aload_n 2, 1, (0, 0, 0), 0, 0)), (5, (.invokevirtual 32, 3, (0, 91, 1), 0, 630)), (8, (.iconst (-1), 1, (0, 0, 0), (-1), 0)), (9, (.istore 4, 2, (0, 0, 0), 0, 0)), (11, (.iconst 0, 1, (0, 0, 0), 0, 0)), (12, (.istore 5, 2, (0, 0, 0), 0, 0)), (14, (.aload_n 1, 1, (0, 0, 0), 0, 0)), (15, (.aload_n 0, 1, (0, 0, 0), 0, 0)), (16, (.getfield 12, 3, (10, 0, 0), 0, 521)), (19, (.invokevirtual 28, 3, (0, 121, 1), 0, 1315)), (22, (.istore 6, 2, (0, 0, 0), 0, 0)), (24, (.iconst 1, 1, (0, 0, 0), 1, 0)), (25, (.istore 7, 2, (0, 0, 0), 0, 0)), (27, (.iload 7, 2, (0, 0, 0), 0, 0)), (29, (.iload_n 3, 1, (0, 0, 0), 0, 0)), (30, (.if_icmp .gt 48, 3, (78, 0, 0), 0, 0))],
  [(33, (.aload_n 0, 1, (0, 0, 0), 0, 0)), (34, (.aload_n 1, 1, (0, 0, 0), 0, 0)), (35, (.iconst 1, 1, (0, 0, 0), 1, 0)), (36, (.invokevirtual 36, 3, (0, 190, 0), 0, 1311)), (39, (.istore 8, 2, (0, 0, 0), 0, 0)), (41, (.iload 4, 2, (0, 0, 0), 0, 0)), (43, (.iconst (-1), 1, (0, 0, 0), (-1), 0)), (44, (.if_icmp .eq 13, 3, (57, 0, 0), 0, 0)), (47, (.iload 8, 2, (0, 0, 0), 0, 0)), (49, (.iload 6, 2, (0, 0, 0), 0, 0)), (51, (.isub, 1, (0, 0, 0), 0, 0)), (52, (.iload 5, 2, (0, 0, 0), 0, 0)), (54, (.if_icmp .le 14, 3, (68, 0, 0), 0, 0)), (57, (.iload 7, 2, (0, 0, 0), 0, 0)), (59, (.istore 4, 2, (0, 0, 0), 0, 0)), (61, (.iload 8, 2, (0, 0, 0), 0, 0)), (63, (.iload 6, 2, (0, 0, 0), 0, 0))],
  [(65, (.isub, 1, (0, 0, 0), 0, 0)), (66, (.istore 5, 2, (0, 0, 0), 0, 0)), (68, (.iload 8, 2, (0, 0, 0), 0, 0)), (70, (.istore 6, 2, (0, 0, 0), 0, 0)), (72, (.iinc 7 1, 3, (0, 0, 0), 1, 0)), (75, (.goto (-48), 3, (27, 0, 0), 0, 0)), (78, (.iload 4, 2, (0, 0, 0), 0, 0)), (80, (.ireturn, 1, (0, 0, 0), 0, 0))]]
set_option maxRecDepth 10000 in
def zp208 : List (List (Nat × ZI)) := [[(0, (.aload_n 0, 1, (0, 0, 0), 0, 0)), (1, (.getfield 3, 3, (12, 0, 0), 0, 1617)), (4, (.ireturn, 1, (0, 0, 0), 0, 0))]]
set_option maxRecDepth 10000 in
def zp209 : List (List (Nat × ZI)) := [[(0, (.iload_n 1, 1, (0, 0, 0), 0, 0)), (1, (.ifCond .eq 8, 3, (9, 0, 0), 0, 0)), (4, (.aload_n 0, 1, (0, 0, 0), 0, 0)), (5, (.iload_n 2, 1, (0, 0, 0), 0, 0)), (6, (.putfield 3, 3, (12, 0, 0), 0, 1617)), (9, (.iload_n 1, 1, (0, 0, 0), 0, 0)), (10, (.ireturn, 1, (0, 0, 0), 0, 0))]]
set_option maxRecDepth 10000 in
def zp210 : List (List (Nat × ZI)) := [[(0, (.iload_n 0, 1, (0, 0, 0), 0, 0)), (1, (.iload_n 1, 1, (0, 0, 0), 0, 0)), (2, (.if_icmp .lt 12, 3, (14, 0, 0), 0, 0)), (5, (.iload_n 0, 1, (0, 0, 0), 0, 0)), (6, (.iload_n 2, 1, (0, 0, 0), 0, 0)), (7, (.if_icmp .gt 7, 3, (14, 0, 0), 0, 0)), (10, (.iconst 1, 1, (0, 0, 0), 1, 0)), (11, (.goto 4, 3, (15, 0, 0), 0, 0)), (14, (.iconst 0, 1, (0, 0, 0), 0, 0)), (15, (.ireturn, 1, (0, 0, 0), 0, 0))]]
set_option maxRecDepth 10000 in
def zp211 : List (List (Nat × ZI)) := [[(0, (.iload_n 0, 1, (0, 0, 0), 0, 0)), (1, (.iload_n 1, 1, (0, 0, 0), 0, 0)), (2, (.ishr, 1, (0, 0, 0), 0, 0)), (3, (.iconst 1, 1, (0, 0, 0), 1, 0)), (4, (.iand, 1, (0, 0, 0), 0, 0)), (5, (.iconst 1, 1, (0, 0, 0), 1, 0)), (6, (.if_icmp .ne 7, 3, (13, 0, 0), 0, 0)), (9, (.iconst 1, 1, (0, 0, 0), 1, 0)), (10, (.goto 4, 3, (14, 0, 0), 0, 0)), (13, (.iconst 0, 1, (0, 0, 0), 0, 0)), (14, (.ireturn, 1, (0, 0, 0), 0, 0))]]
set_option maxRecDepth 10000 in
def zp212 : List (List (Nat × ZI)) := [[(0, (.aload_n 0, 1, (0, 0, 0), 0, 0)), (1, (.invokespecial 7, 3, (1, 0, 0), 0, 1616)), (4, (.aload_n 0, 1, (0, 0, 0), 0, 0)), (5, (.sipush 2475, 3, (0, 0, 0), 2475, 0)), (8, (.newarray .int, 2, (0, 0, 0), 0, 251)), (10, (.putfield 13, 3, (12, 1, 0), 0, 1618)), (13, (.aload_n 0, 1, (0, 0, 0), 0, 0)), (14, (.sipush 1626, 3, (0, 0, 0), 1626, 0)), (17, (.newarray .int, 2, (0, 0, 0), 0, 251)), (19, (.putfield 17, 3, (12, 2, 0), 0, 1619)), (22, (.aload_n 0, 1, (0, 0, 0), 0, 0)), (23, (.sipush 1626, 3, (0, 0, 0), 1626, 0)), (26, (.newarray .int, 2, (0, 0, 0), 0, 251)), (28, (.putfield 20, 3, (12, 3, 0), 0, 1620)), (31, (.aload_n 0, 1, (0, 0, 0), 0, 0))],
  [(32, (.sipush 777, 3, (0, 0, 0), 777, 0)), (35, (.newarray .int, 2, (0, 0, 0), 0, 251)), (37, (.putfield 23, 3, (12, 4, 0), 0, 1621)), (40, (.aload_n 0, 1, (0, 0, 0), 0, 0)), (41, (.sipush 9324, 3, (0, 0, 0), 9324, 0)), (44, (.newarray .int, 2, (0, 0, 0), 0, 251)), (46, (.putfield 26, 3, (12, 5, 0), 0, 1622)), (49, (.aload_n 0, 1, (0, 0, 0), 0, 0)), (50, (.sipush 400, 3, (0, 0, 0), 400, 0)), (53, (.newarray .byte, 2, (1, 0, 0), 0, 1025)), (55, (.putfield 29, 3, (12, 8, 0), 0, 1625)), (58, (.aload_n 0, 1, (0, 0, 0), 0, 0)), (59, (.iconst (-1), 1, (0, 0, 0), (-1), 0)), (60, (.putfield 33, 3, (12, 14, 0), 0, 1631)), (63, (.aload_n 0, 1, (0, 0, 0), 0, 0))],
  [(64, (.iconst 5, 1, (0, 0, 0), 5, 0)), (65, (.newarray .int, 2, (0, 0, 0), 0, 251)), (67, (.putfield 36, 3, (12, 15, 0), 0, 1632)), (70, (.aload_n 0, 1, (0, 0, 0), 0, 0)), (71, (.sipush 400, 3, (0, 0, 0), 400, 0)), (74, (.newarray .int, 2, (0, 0, 0), 0, 251)), (76, (.putfield 39, 3, (12, 17, 0), 0, 1634)), (79, (.aload_n 0, 1, (0, 0, 0), 0, 0)), (80, (.bipush 12, 2, (0, 0, 0), 12, 0)), (82, (.newarray .int, 2, (0, 0, 0), 0, 251)), (84, (.putfield 42, 3, (12, 18, 0), 0, 1635)), (87, (.aload_n 0, 1, (0, 0, 0), 0, 0)), (88, (.getfield 13, 3, (12, 1, 0), 0, 1618)), (91, (.bipush 9, 2, (0, 0, 0), 9, 0)), (93, (.sipush 1000, 3, (0, 0, 0), 1000, 0))],
  [(96, (.iastore, 1, (0, 0, 0), 0, 0)), (97, (.aload_n 0, 1, (0, 0, 0), 0, 0)), (98, (.getfield 13, 3, (12, 1, 0), 0, 1618)), (101, (.bipush 12, 2, (0, 0, 0), 12, 0)), (103, (.iconst 1, 1, (0, 0, 0), 1, 0)), (104, (.iastore, 1, (0, 0, 0), 0, 0)), (105, (.return_, 1, (0, 0, 0), 0, 0))]]
set_option maxRecDepth 10000 in
def zp213 : List (List (Nat × ZI)) := [[(0, (.aload_n 0, 1, (0, 0, 0), 0, 0)), (1, (.iconst 0, 1, (0, 0, 0), 0, 0)), (2, (.putfield 3, 3, (12, 0, 0), 0, 1617)), (5, (.iconst 0, 1, (0, 0, 0), 0, 0)), (6, (.istore_n 1, 1, (0, 0, 0), 0, 0)), (7, (.iload_n 1, 1, (0, 0, 0), 0, 0)), (8, (.sipush 1626, 3, (0, 0, 0), 1626, 0)), (11, (.if_icmp .ge 21, 3, (32, 0, 0), 0, 0)), (14, (.aload_n 0, 1, (0, 0, 0), 0, 0)), (15, (.getfield 17, 3, (12, 2, 0), 0, 1619)), (18, (.iload_n 1, 1, (0, 0, 0), 0, 0)), (19, (.aload_n 0, 1, (0, 0, 0), 0, 0)), (20, (.getfield 13, 3, (12, 1, 0), 0, 1618)), (23, (.iload_n 1, 1, (0, 0, 0), 0, 0)), (24, (.iaload, 1, (0, 0, 0), 0, 0)), (25, (.iastore, 1, (0, 0, 0), 0, 0)), (26, (.iinc 1 1, 3, (0, 0, 0), 1, 0)), (29, (.goto (-22), 3, (7, 0, 0), 0, 0))],
  [(32, (.aload_n 0, 1, (0, 0, 0), 0, 0)), (33, (.iconst 1, 1, (0, 0, 0), 1, 0)), (34, (.putfield 45, 3, (12, 6, 0), 1, 1623)), (37, (.return_, 1, (0, 0, 0), 0, 0))]]
set_option maxRecDepth 10000 in
def zp214 : List (List (Nat × ZI)) := [[(0, (.aload_n 0, 1, (0, 0, 0), 0, 0)), (1, (.iconst 0, 1, (0, 0, 0), 0, 0)), (2, (.putfield 3, 3, (12, 0, 0), 0, 1617)), (5, (.aload_n 0, 1, (0, 0, 0), 0, 0)), (6, (.getfield 45, 3, (12, 6, 0), 1, 1623)), (9, (.ifCond .ne 5, 3, (14, 0, 0), 0, 0)), (12, (.iconst 0, 1, (0, 0, 0), 0, 0)), (13, (.ireturn, 1, (0, 0, 0), 0, 0)), (14, (.iconst 0, 1, (0, 0, 0), 0, 0)), (15, (.istore_n 1, 1, (0, 0, 0), 0, 0)), (16, (.iload_n 1, 1, (0, 0, 0), 0, 0)), (17, (.sipush 1626, 3, (0, 0, 0), 1626, 0)), (20, (.if_icmp .ge 21, 3, (41, 0, 0), 0, 0)), (23, (.aload_n 0, 1, (0, 0, 0), 0, 0)), (24, (.getfield 13, 3, (12, 1, 0), 0, 1618)), (27, (.iload_n 1, 1, (0, 0, 0), 0, 0)), (28, (.aload_n 0, 1, (0, 0, 0), 0, 0)), (29, (.getfield 17, 3, (12, 2, 0), 0, 1619))],
  [(32, (.iload_n 1, 1, (0, 0, 0), 0, 0)), (33, (.iaload, 1, (0, 0, 0), 0, 0)), (34, (.iastore, 1, (0, 0, 0), 0, 0)), (35, (.iinc 1 1, 3, (0, 0, 0), 1, 0)), (38, (.goto (-22), 3, (16, 0, 0), 0, 0)), (41, (.aload_n 0, 1, (0, 0, 0), 0, 0)), (42, (.iconst 0, 1, (0, 0, 0), 0, 0)), (43, (.putfield 49, 3, (12, 7, 0), 0, 1624)), (46, (.iconst 1, 1, (0, 0, 0), 1, 0)), (47, (.ireturn, 1, (0, 0, 0), 0, 0))]]
set_option maxRecDepth 10000 in
def zp215 : List (List (Nat × ZI)) := [[(0, (.aload_n 0, 1, (0, 0, 0), 0, 0)), (1, (.getfield 49, 3, (12, 7, 0), 0, 1624)), (4, (.bipush 12, 2, (0, 0, 0), 12, 0)), (6, (.if_icmp .ne 37, 3, (43, 0, 0), 0, 0)), (9, (.iconst 0, 1, (0, 0, 0), 0, 0)), (10, (.istore_n 1, 1, (0, 0, 0), 0, 0)), (11, (.iload_n 1, 1, (0, 0, 0), 0, 0)), (12, (.sipush 8547, 3, (0, 0, 0), 8547, 0)), (15, (.if_icmp .ge 25, 3, (40, 0, 0), 0, 0)), (18, (.aload_n 0, 1, (0, 0, 0), 0, 0)), (19, (.getfield 26, 3, (12, 5, 0), 0, 1622)), (22, (.iload_n 1, 1, (0, 0, 0), 0, 0)), (23, (.aload_n 0, 1, (0, 0, 0), 0, 0)), (24, (.getfield 26, 3, (12, 5, 0), 0, 1622)), (27, (.iload_n 1, 1, (0, 0, 0), 0, 0)), (28, (.sipush 777, 3, (0, 0, 0), 777, 0)), (31, (.iadd, 1, (0, 0, 0), 0, 0))],
  [(32, (.iaload, 1, (0, 0, 0), 0, 0)), (33, (.iastore, 1, (0, 0, 0), 0, 0)), (34, (.iinc 1 1, 3, (0, 0, 0), 1, 0)), (37, (.goto (-26), 3, (11, 0, 0), 0, 0)), (40, (.goto 13, 3, (53, 0, 0), 0, 0)), (43, (.aload_n 0, 1, (0, 0, 0), 0, 0)), (44, (.dup, 1, (0, 0, 0), 0, 0)), (45, (.getfield 49, 3, (12, 7, 0), 0, 1624)), (48, (.iconst 1, 1, (0, 0, 0), 1, 0)), (49, (.iadd, 1, (0, 0, 0), 0, 0)), (50, (.putfield 49, 3, (12, 7, 0), 0, 1624)), (53, (.iconst 0, 1, (0, 0, 0), 0, 0)), (54, (.istore_n 1, 1, (0, 0, 0), 0, 0)), (55, (.iload_n 1, 1, (0, 0, 0), 0, 0)), (56, (.sipush 777, 3, (0, 0, 0), 777, 0)), (59, (.if_icmp .ge 32, 3, (91, 0, 0), 0, 0)), (62, (.aload_n 0, 1, (0, 0, 0), 0, 0)), (63, (.getfield 26, 3, (12, 5, 0), 0, 1622))],
  [(66, (.sipush 777, 3, (0, 0, 0), 777, 0)), (69, (.aload_n 0, 1, (0, 0, 0), 0, 0)), (70, (.getfield 49, 3, (12, 7, 0), 0, 1624)), (73, (.iconst 1, 1, (0, 0, 0), 1, 0)), (74, (.isub, 1, (0, 0, 0), 0, 0)), (75, (.imul, 1, (0, 0, 0), 0, 0)), (76, (.iload_n 1, 1, (0, 0, 0), 0, 0)), (77, (.iadd, 1, (0, 0, 0), 0, 0)), (78, (.aload_n 0, 1, (0, 0, 0), 0, 0)), (79, (.getfield 13, 3, (12, 1, 0), 0, 1618)), (82, (.iload_n 1, 1, (0, 0, 0), 0, 0)), (83, (.iaload, 1, (0, 0, 0), 0, 0)), (84, (.iastore, 1, (0, 0, 0), 0, 0)), (85, (.iinc 1 1, 3, (0, 0, 0), 1, 0)), (88, (.goto (-33), 3, (55, 0, 0), 0, 0)), (91, (.return_, 1, (0, 0, 0), 0, 0))]]
set_option maxRecDepth 10000 in
def zp216 : List (List (Nat × ZI)) := [[(0, (.aload_n 0, 1, (0, 0, 0), 0, 0)), (1, (.iconst 0, 1, (0, 0, 0), 0, 0)), (2, (.putfield 3, 3, (12, 0, 0), 0, 1617)), (5, (.aload_n 0, 1, (0, 0, 0), 0, 0)), (6, (.getfield 49, 3, (12, 7, 0), 0, 1624)), (9, (.ifCond .ne 5, 3, (14, 0, 0), 0, 0)), (12, (.iconst 0, 1, (0, 0, 0), 0, 0)), (13, (.ireturn, 1, (0, 0, 0), 0, 0)), (14, (.aload_n 0, 1, (0, 0, 0), 0, 0)), (15, (.dup, 1, (0, 0, 0), 0, 0)), (16, (.getfield 49, 3, (12, 7, 0), 0, 1624)), (19, (.iconst 1, 1, (0, 0, 0), 1, 0)), (20, (.isub, 1, (0, 0, 0), 0, 0)), (21, (.putfield 49, 3, (12, 7, 0), 0, 1624)), (24, (.iconst 0, 1, (0, 0, 0), 0, 0)), (25, (.istore_n 1, 1, (0, 0, 0), 0, 0)), (26, (.iload_n 1, 1, (0, 0, 0), 0, 0)), (27, (.sipush 777, 3, (0, 0, 0), 777, 0)), (30, (.if_icmp .ge 30, 3, (60, 0, 0), 0, 0))],
  [(33, (.aload_n 0, 1, (0, 0, 0), 0, 0)), (34, (.getfield 13, 3, (12, 1, 0), 0, 1618)), (37, (.iload_n 1, 1, (0, 0, 0), 0, 0)), (38, (.aload_n 0, 1, (0, 0, 0), 0, 0)), (39, (.getfield 26, 3, (12, 5, 0), 0, 1622)), (42, (.sipush 777, 3, (0, 0, 0), 777, 0)), (45, (.aload_n 0, 1, (0, 0, 0), 0, 0)), (46, (.getfield 49, 3, (12, 7, 0), 0, 1624)), (49, (.imul, 1, (0, 0, 0), 0, 0)), (50, (.iload_n 1, 1, (0, 0, 0), 0, 0)), (51, (.iadd, 1, (0, 0, 0), 0, 0)), (52, (.iaload, 1, (0, 0, 0), 0, 0)), (53, (.iastore, 1, (0, 0, 0), 0, 0)), (54, (.iinc 1 1, 3, (0, 0, 0), 1, 0)), (57, (.goto (-31), 3, (26, 0, 0), 0, 0)), (60, (.iconst 1, 1, (0, 0, 0), 1, 0)), (61, (.ireturn, 1, (0, 0, 0), 0, 0))]]
set_option maxRecDepth 10000 in
def zp217 : List (List (Nat × ZI)) := [[(0, (.aload_n 0, 1, (0, 0, 0), 0, 0)), (1, (.getfield 13, 3, (12, 1, 0), 0, 1618)), (4, (.iconst 0, 1, (0, 0, 0), 0, 0)), (5, (.iaload, 1, (0, 0, 0), 0, 0)), (6, (.ireturn, 1, (0, 0, 0), 0, 0))]]
set_option maxRecDepth 10000 in
def zp218 : List (List (Nat × ZI)) := [[(0, (.aload_n 0, 1, (0, 0, 0), 0, 0)), (1, (.getfield 13, 3, (12, 1, 0), 0, 1618)), (4, (.iconst 2, 1, (0, 0, 0), 2, 0)), (5, (.iaload, 1, (0, 0, 0), 0, 0)), (6, (.ireturn, 1, (0, 0, 0), 0, 0))]]
set_option maxRecDepth 10000 in
def zp219 : List (List (Nat × ZI)) := [[(0, (.bipush 13, 2, (0, 0, 0), 13, 0)), (2, (.bipush 11, 2, (0, 0, 0), 11, 0)), (4, (.iload_n 0, 1, (0, 0, 0), 0, 0)), (5, (.imul, 1, (0, 0, 0), 0, 0)), (6, (.iadd, 1, (0, 0, 0), 0, 0)), (7, (.iload_n 1, 1, (0, 0, 0), 0, 0)), (8, (.iadd, 1, (0, 0, 0), 0, 0)), (9, (.ireturn, 1, (0, 0, 0), 0, 0))]]
set_option maxRecDepth 10000 in
def zp220 : List (List (Nat × ZI)) := [[(0, (.sipush 185, 3, (0, 0, 0), 185, 0)), (3, (.bipush 24, 2, (0, 0, 0), 24, 0)), (5, (.iload_n 0, 1, (0, 0, 0), 0, 0)), (6, (.imul, 1, (0, 0, 0), 0, 0)), (7, (.iadd, 1, (0, 0, 0), 0, 0)), (8, (.iload_n 1, 1, (0, 0, 0), 0, 0)), (9, (.iadd, 1, (0, 0, 0), 0, 0)), (10, (.ireturn, 1, (0, 0, 0), 0, 0))]]
set_option maxRecDepth 10000 in
def zp221 : List (List (Nat × ZI)) := [[(0, (.aload_n 0, 1, (0, 0, 0), 0, 0)), (1, (.getfield 13, 3, (12, 1, 0), 0, 1618)), (4, (.iload_n 1, 1, (0, 0, 0), 0, 0)), (5, (.iload_n 2, 1, (0, 0, 0), 0, 0)), (6, (.invokestatic 52, 3, (0, 219, 0), 0, 1763)), (9, (.iaload, 1, (0, 0, 0), 0, 0)), (10, (.ireturn, 1, (0, 0, 0), 0, 0))]]
set_option maxRecDepth 10000 in
def zp222 : List (List (Nat × ZI)) := [[(0, (.aload_n 0, 1, (0, 0, 0), 0, 0)), (1, (.getfield 13, 3, (12, 1, 0), 0, 1618)), (4, (.iload_n 1, 1, (0, 0, 0), 0, 0)), (5, (.iload_n 2, 1, (0, 0, 0), 0, 0)), (6, (.invokestatic 56, 3, (0, 220, 0), 0, 1788)), (9, (.iaload, 1, (0, 0, 0), 0, 0)), (10, (.ireturn, 1, (0, 0, 0), 0, 0))]]
set_option maxRecDepth 10000 in
def zp223 : List (List (Nat × ZI)) := [[(0, (.aload_n 0, 1, (0, 0, 0), 0, 0)), (1, (.getfield 13, 3, (12, 1, 0), 0, 1618)), (4, (.iload_n 1, 1, (0, 0, 0), 0, 0)), (5, (.iload_n 2, 1, (0, 0, 0), 0, 0)), (6, (.invokestatic 56, 3, (0, 220, 0), 0, 1788)), (9, (.iload_n 3, 1, (0, 0, 0), 0, 0)), (10, (.iastore, 1, (0, 0, 0), 0, 0)), (11, (.return_, 1, (0, 0, 0), 0, 0))]]
set_option maxRecDepth 10000 in
def zp224 : List (List (Nat × ZI)) := [[(0, (.aload_n 0, 1, (0, 0, 0), 0, 0)), (1, (.iload_n 1, 1, (0, 0, 0), 0, 0)), (2, (.iconst 4, 1, (0, 0, 0), 4, 0)), (3, (.aload_n 0, 1, (0, 0, 0), 0, 0)), (4, (.iload_n 1, 1, (0, 0, 0), 0, 0)), (5, (.iconst 0, 1, (0, 0, 0), 0, 0)), (6, (.invokevirtual 59, 3, (0, 222, 0), 0, 1791)), (9, (.iadd, 1, (0, 0, 0), 0, 0)), (10, (.invokevirtual 59, 3, (0, 222, 0), 0, 1791)), (13, (.ireturn, 1, (0, 0, 0), 0, 0))]]
set_option maxRecDepth 10000 in
def zp225 : List (List (Nat × ZI)) := [[(0, (.iconst 0, 1, (0, 0, 0), 0, 0)), (1, (.istore_n 2, 1, (0, 0, 0), 0, 0)), (2, (.iconst 0, 1, (0, 0, 0), 0, 0)), (3, (.istore_n 3, 1, (0, 0, 0), 0, 0)), (4, (.iload_n 3, 1, (0, 0, 0), 0, 0)), (5, (.bipush 8, 2, (0, 0, 0), 8, 0)), (7, (.if_icmp .ge 20, 3, (27, 0, 0), 0, 0)), (10, (.iload_n 2, 1, (0, 0, 0), 0, 0)), (11, (.aload_n 0, 1, (0, 0, 0), 0, 0)), (12, (.getfield 13, 3, (12, 1, 0), 0, 1618)), (15, (.iload_n 1, 1, (0, 0, 0), 0, 0)), (16, (.iload_n 3, 1, (0, 0, 0), 0, 0)), (17, (.iadd, 1, (0, 0, 0), 0, 0)), (18, (.iaload, 1, (0, 0, 0), 0, 0)), (19, (.iadd, 1, (0, 0, 0), 0, 0)), (20, (.istore_n 2, 1, (0, 0, 0), 0, 0)), (21, (.iinc 3 1, 3, (0, 0, 0), 1, 0)), (24, (.goto (-20), 3, (4, 0, 0), 0, 0)), (27, (.iload_n 2, 1, (0, 0, 0), 0, 0)), (28, (.ireturn, 1, (0, 0, 0), 0, 0))]]
set_option maxRecDepth 10000 in
def zp226 : List (List (Nat × ZI)) := [[(0, (.aload_n 0, 1, (0, 0, 0), 0, 0)), (1, (.iload_n 1, 1, (0, 0, 0), 0, 0)), (2, (.iconst 3, 1, (0, 0, 0), 3, 0)), (3, (.invokestatic 52, 3, (0, 219, 0), 0, 1763)), (6, (.invokevirtual 62, 3, (0, 225, 0), 0, 1812)), (9, (.ireturn, 1, (0, 0, 0), 0, 0))]]
set_option maxRecDepth 10000 in
def zp227 : List (List (Nat × ZI)) := [[(0, (.aload_n 0, 1, (0, 0, 0), 0, 0)), (1, (.iload_n 1, 1, (0, 0, 0), 0, 0)), (2, (.bipush 16, 2, (0, 0, 0), 16, 0)), (4, (.invokestatic 56, 3, (0, 220, 0), 0, 1788)), (7, (.invokevirtual 62, 3, (0, 225, 0), 0, 1812)), (10, (.ireturn, 1, (0, 0, 0), 0, 0))]]
set_option maxRecDepth 10000 in
def zp228 : List (List (Nat × ZI)) := [[(0, (.iload_n 1, 1, (0, 0, 0), 0, 0)), (1, (.iconst 0, 1, (0, 0, 0), 0, 0)), (2, (.aload_n 0, 1, (0, 0, 0), 0, 0)), (3, (.invokevirtual 66, 3, (0, 217, 0), 0, 1742)), (6, (.iconst 1, 1, (0, 0, 0), 1, 0)), (7, (.isub, 1, (0, 0, 0), 0, 0)), (8, (.invokestatic 70, 3, (0, 210, 0), 0, 1902)), (11, (.ifCond .ne 7, 3, (18, 0, 0), 0, 0)), (14, (.iconst 1, 1, (0, 0, 0), 1, 0)), (15, (.goto 4, 3, (19, 0, 0), 0, 0)), (18, (.iconst 0, 1, (0, 0, 0), 0, 0)), (19, (.ireturn, 1, (0, 0, 0), 0, 0))]]
set_option maxRecDepth 10000 in
def zp229 : List (List (Nat × ZI)) := [[(0, (.iload_n 1, 1, (0, 0, 0), 0, 0)), (1, (.iconst 0, 1, (0, 0, 0), 0, 0)), (2, (.aload_n 0, 1, (0, 0, 0), 0, 0)), (3, (.invokevirtual 74, 3, (0, 218, 0), 0, 1780)), (6, (.iconst 1, 1, (0, 0, 0), 1, 0)), (7, (.isub, 1, (0, 0, 0), 0, 0)), (8, (.invokestatic 70, 3, (0, 210, 0), 0, 1902)), (11, (.ifCond .ne 7, 3, (18, 0, 0), 0, 0)), (14, (.iconst 1, 1, (0, 0, 0), 1, 0)), (15, (.goto 4, 3, (19, 0, 0), 0, 0)), (18, (.iconst 0, 1, (0, 0, 0), 0, 0)), (19, (.ireturn, 1, (0, 0, 0), 0, 0))]]
set_option maxRecDepth 10000 in
def zp230 : List (List (Nat × ZI)) := [[(0, (.aload_n 0, 1, (0, 0, 0), 0, 0)), (1, (.iload_n 1, 1, (0, 0, 0), 0, 0)), (2, (.iconst 0, 1, (0, 0, 0), 0, 0)), (3, (.invokevirtual 77, 3, (0, 221, 0), 0, 1905)), (6, (.ifCond .eq 7, 3, (13, 0, 0), 0, 0)), (9, (.iconst 1, 1, (0, 0, 0), 1, 0)), (10, (.goto 4, 3, (14, 0, 0), 0, 0)), (13, (.iconst 0, 1, (0, 0, 0), 0, 0)), (14, (.ireturn, 1, (0, 0, 0), 0, 0))]]
set_option maxRecDepth 10000 in
def zp231 : List (List (Nat × ZI)) := [[(0, (.iconst 0, 1, (0, 0, 0), 0, 0)), (1, (.istore_n 3, 1, (0, 0, 0), 0, 0)), (2, (.iconst 0, 1, (0, 0, 0), 0, 0)), (3, (.istore 4, 2, (0, 0, 0), 0, 0)), (5, (.iload 4, 2, (0, 0, 0), 0, 0)), (7, (.aload_n 0, 1, (0, 0, 0), 0, 0)), (8, (.getfield 13, 3, (12, 1, 0), 0, 1618)), (11, (.iconst 1, 1, (0, 0, 0), 1, 0)), (12, (.iaload, 1, (0, 0, 0), 0, 0)), (13, (.if_icmp .ge 75, 3, (88, 0, 0), 0, 0)), (16, (.aload_n 0, 1, (0, 0, 0), 0, 0)), (17, (.getfield 13, 3, (12, 1, 0), 0, 1618)), (20, (.sipush 145, 3, (0, 0, 0), 145, 0)), (23, (.iconst 2, 1, (0, 0, 0), 2, 0)), (24, (.iload 4, 2, (0, 0, 0), 0, 0)), (26, (.imul, 1, (0, 0, 0), 0, 0)), (27, (.iadd, 1, (0, 0, 0), 0, 0)), (28, (.iaload, 1, (0, 0, 0), 0, 0)), (29, (.istore 5, 2, (0, 0, 0), 0, 0)), (31, (.aload_n 0, 1, (0, 0, 0), 0, 0))],
  [(32, (.getfield 13, 3, (12, 1, 0), 0, 1618)), (35, (.sipush 145, 3, (0, 0, 0), 145, 0)), (38, (.iconst 2, 1, (0, 0, 0), 2, 0)), (39, (.iload 4, 2, (0, 0, 0), 0, 0)), (41, (.imul, 1, (0, 0, 0), 0, 0)), (42, (.iadd, 1, (0, 0, 0), 0, 0)), (43, (.iconst 1, 1, (0, 0, 0), 1, 0)), (44, (.iadd, 1, (0, 0, 0), 0, 0)), (45, (.iaload, 1, (0, 0, 0), 0, 0)), (46, (.istore 6, 2, (0, 0, 0), 0, 0)), (48, (.iload_n 3, 1, (0, 0, 0), 0, 0)), (49, (.ifCond .ne 27, 3, (76, 0, 0), 0, 0)), (52, (.iload 5, 2, (0, 0, 0), 0, 0)), (54, (.iload_n 1, 1, (0, 0, 0), 0, 0)), (55, (.if_icmp .ne 9, 3, (64, 0, 0), 0, 0)), (58, (.iload 6, 2, (0, 0, 0), 0, 0)), (60, (.iload_n 2, 1, (0, 0, 0), 0, 0)), (61, (.if_icmp .eq 15, 3, (76, 0, 0), 0, 0))],
  [(64, (.iload 5, 2, (0, 0, 0), 0, 0)), (66, (.iload_n 2, 1, (0, 0, 0), 0, 0)), (67, (.if_icmp .ne 13, 3, (80, 0, 0), 0, 0)), (70, (.iload 6, 2, (0, 0, 0), 0, 0)), (72, (.iload_n 1, 1, (0, 0, 0), 0, 0)), (73, (.if_icmp .ne 7, 3, (80, 0, 0), 0, 0)), (76, (.iconst 1, 1, (0, 0, 0), 1, 0)), (77, (.goto 4, 3, (81, 0, 0), 0, 0)), (80, (.iconst 0, 1, (0, 0, 0), 0, 0)), (81, (.istore_n 3, 1, (0, 0, 0), 0, 0)), (82, (.iinc 4 1, 3, (0, 0, 0), 1, 0)), (85, (.goto (-80), 3, (5, 0, 0), 0, 0)), (88, (.iload_n 3, 1, (0, 0, 0), 0, 0)), (89, (.ireturn, 1, (0, 0, 0), 0, 0))]]
set_option maxRecDepth 10000 in
def zp232 : List (List (Nat × ZI)) := [[(0, (.aload_n 0, 1, (0, 0, 0), 0, 0)), (1, (.getfield 13, 3, (12, 1, 0), 0, 1618)), (4, (.bipush 12, 2, (0, 0, 0), 12, 0)), (6, (.ldc 80, 2, (0, 0, 0), 1103515245, 1985)), (8, (.aload_n 0, 1, (0, 0, 0), 0, 0)), (9, (.getfield 13, 3, (12, 1, 0), 0, 1618)), (12, (.bipush 12, 2, (0, 0, 0), 12, 0)), (14, (.iaload, 1, (0, 0, 0), 0, 0)), (15, (.imul, 1, (0, 0, 0), 0, 0)), (16, (.sipush 12345, 3, (0, 0, 0), 12345, 0)), (19, (.iadd, 1, (0, 0, 0), 0, 0)), (20, (.iastore, 1, (0, 0, 0), 0, 0)), (21, (.aload_n 0, 1, (0, 0, 0), 0, 0)), (22, (.getfield 13, 3, (12, 1, 0), 0, 1618)), (25, (.bipush 12, 2, (0, 0, 0), 12, 0)), (27, (.iaload, 1, (0, 0, 0), 0, 0)), (28, (.bipush 16, 2, (0, 0, 0), 16, 0)), (30, (.ishr, 1, (0, 0, 0), 0, 0)), (31, (.sipush 32767, 3, (0, 0, 0), 32767, 0))],
  [(34, (.iand, 1, (0, 0, 0), 0, 0)), (35, (.iload_n 1, 1, (0, 0, 0), 0, 0)), (36, (.irem, 1, (0, 0, 0), 0, 0)), (37, (.ireturn, 1, (0, 0, 0), 0, 0))]]
set_option maxRecDepth 10000 in
def zp233 : List (List (Nat × ZI)) := [[(0, (.aload_n 0, 1, (0, 0, 0), 0, 0)), (1, (.iconst 0, 1, (0, 0, 0), 0, 0)), (2, (.putfield 3, 3, (12, 0, 0), 0, 1617)), (5, (.aload_n 0, 1, (0, 0, 0), 0, 0)), (6, (.getfield 81, 3, (12, 9, 0), 0, 1626)), (9, (.bipush 20, 2, (0, 0, 0), 20, 0)), (11, (.iadd, 1, (0, 0, 0), 0, 0)), (12, (.sipush 400, 3, (0, 0, 0), 400, 0)), (15, (.if_icmp .le 5, 3, (20, 0, 0), 0, 0)), (18, (.iconst (-1), 1, (0, 0, 0), (-1), 0)), (19, (.ireturn, 1, (0, 0, 0), 0, 0)), (20, (.aload_n 0, 1, (0, 0, 0), 0, 0)), (21, (.getfield 36, 3, (12, 15, 0), 0, 1632)), (24, (.iconst 0, 1, (0, 0, 0), 0, 0)), (25, (.iload_n 1, 1, (0, 0, 0), 0, 0)), (26, (.iastore, 1, (0, 0, 0), 0, 0)), (27, (.aload_n 0, 1, (0, 0, 0), 0, 0)), (28, (.getfield 36, 3, (12, 15, 0), 0, 1632)), (31, (.iconst 1, 1, (0, 0, 0), 1, 0))],
  [(32, (.iload_n 2, 1, (0, 0, 0), 0, 0)), (33, (.iastore, 1, (0, 0, 0), 0, 0)), (34, (.aload_n 0, 1, (0, 0, 0), 0, 0)), (35, (.getfield 36, 3, (12, 15, 0), 0, 1632)), (38, (.iconst 2, 1, (0, 0, 0), 2, 0)), (39, (.iload_n 3, 1, (0, 0, 0), 0, 0)), (40, (.iastore, 1, (0, 0, 0), 0, 0)), (41, (.aload_n 0, 1, (0, 0, 0), 0, 0)), (42, (.getfield 36, 3, (12, 15, 0), 0, 1632)), (45, (.iconst 3, 1, (0, 0, 0), 3, 0)), (46, (.iload 4, 2, (0, 0, 0), 0, 0)), (48, (.iastore, 1, (0, 0, 0), 0, 0)), (49, (.aload_n 0, 1, (0, 0, 0), 0, 0)), (50, (.getfield 36, 3, (12, 15, 0), 0, 1632)), (53, (.iconst 4, 1, (0, 0, 0), 4, 0)), (54, (.iload 5, 2, (0, 0, 0), 0, 0)), (56, (.iastore, 1, (0, 0, 0), 0, 0)), (57, (.iconst 0, 1, (0, 0, 0), 0, 0)), (58, (.istore 6, 2, (0, 0, 0), 0, 0)), (60, (.iload 6, 2, (0, 0, 0), 0, 0)), (62, (.bipush 20, 2, (0, 0, 0), 20, 0))],
  [(64, (.if_icmp .ge 42, 3, (106, 0, 0), 0, 0)), (67, (.aload_n 0, 1, (0, 0, 0), 0, 0)), (68, (.getfield 29, 3, (12, 8, 0), 0, 1625)), (71, (.aload_n 0, 1, (0, 0, 0), 0, 0)), (72, (.getfield 81, 3, (12, 9, 0), 0, 1626)), (75, (.iload 6, 2, (0, 0, 0), 0, 0)), (77, (.iadd, 1, (0, 0, 0), 0, 0)), (78, (.aload_n 0, 1, (0, 0, 0), 0, 0)), (79, (.getfield 36, 3, (12, 15, 0), 0, 1632)), (82, (.iload 6, 2, (0, 0, 0), 0, 0)), (84, (.iconst 4, 1, (0, 0, 0), 4, 0)), (85, (.idiv, 1, (0, 0, 0), 0, 0)), (86, (.iaload, 1, (0, 0, 0), 0, 0)), (87, (.bipush 24, 2, (0, 0, 0), 24, 0)), (89, (.bipush 8, 2, (0, 0, 0), 8, 0)), (91, (.iload 6, 2, (0, 0, 0), 0, 0)), (93, (.iconst 4, 1, (0, 0, 0), 4, 0)), (94, (.irem, 1, (0, 0, 0), 0, 0)), (95, (.imul, 1, (0, 0, 0), 0, 0))],
  [(96, (.isub, 1, (0, 0, 0), 0, 0)), (97, (.ishr, 1, (0, 0, 0), 0, 0)), (98, (.i2b, 1, (0, 0, 0), 0, 0)), (99, (.bastore, 1, (0, 0, 0), 0, 0)), (100, (.iinc 6 1, 3, (0, 0, 0), 1, 0)), (103, (.goto (-43), 3, (60, 0, 0), 0, 0)), (106, (.aload_n 0, 1, (0, 0, 0), 0, 0)), (107, (.dup, 1, (0, 0, 0), 0, 0)), (108, (.getfield 81, 3, (12, 9, 0), 0, 1626)), (111, (.bipush 20, 2, (0, 0, 0), 20, 0)), (113, (.iadd, 1, (0, 0, 0), 0, 0)), (114, (.putfield 81, 3, (12, 9, 0), 0, 1626)), (117, (.aload_n 0, 1, (0, 0, 0), 0, 0)), (118, (.getfield 81, 3, (12, 9, 0), 0, 1626)), (121, (.ireturn, 1, (0, 0, 0), 0, 0))]]
set_option maxRecDepth 10000 in
def zp234 : List (List (Nat × ZI)) := [[(0, (.aload_n 0, 1, (0, 0, 0), 0, 0)), (1, (.iconst 0, 1, (0, 0, 0), 0, 0)), (2, (.putfield 3, 3, (12, 0, 0), 0, 1617)), (5, (.iload_n 1, 1, (0, 0, 0), 0, 0)), (6, (.ifCond .lt 11, 3, (17, 0, 0), 0, 0)), (9, (.iload_n 1, 1, (0, 0, 0), 0, 0)), (10, (.aload_n 0, 1, (0, 0, 0), 0, 0)), (11, (.getfield 81, 3, (12, 9, 0), 0, 1626)), (14, (.if_icmp .le 5, 3, (19, 0, 0), 0, 0)), (17, (.iconst 0, 1, (0, 0, 0), 0, 0)), (18, (.ireturn, 1, (0, 0, 0), 0, 0)), (19, (.aload_n 0, 1, (0, 0, 0), 0, 0)), (20, (.iload_n 1, 1, (0, 0, 0), 0, 0)), (21, (.putfield 81, 3, (12, 9, 0), 0, 1626)), (24, (.iconst 1, 1, (0, 0, 0), 1, 0)), (25, (.ireturn, 1, (0, 0, 0), 0, 0))]]
set_option maxRecDepth 10000 in
def zp235 : List (List (Nat × ZI)) := [[(0, (.aload_n 0, 1, (0, 0, 0), 0, 0)), (1, (.getfield 84, 3, (12, 10, 0), 0, 1627)), (4, (.aload_n 0, 1, (0, 0, 0), 0, 0)), (5, (.getfield 87, 3, (12, 11, 0), 0, 1628)), (8, (.if_icmp .ge 33, 3, (41, 0, 0), 0, 0)), (11, (.aload_n 0, 1, (0, 0, 0), 0, 0)), (12, (.getfield 29, 3, (12, 8, 0), 0, 1625)), (15, (.aload_n 0, 1, (0, 0, 0), 0, 0)), (16, (.getfield 84, 3, (12, 10, 0), 0, 1627)), (19, (.baload, 1, (0, 0, 0), 0, 0)), (20, (.iload_n 1, 1, (0, 0, 0), 0, 0)), (21, (.if_icmp .lt 20, 3, (41, 0, 0), 0, 0)), (24, (.aload_n 0, 1, (0, 0, 0), 0, 0)), (25, (.getfield 29, 3, (12, 8, 0), 0, 1625)), (28, (.aload_n 0, 1, (0, 0, 0), 0, 0)), (29, (.getfield 84, 3, (12, 10, 0), 0, 1627))],
  [(32, (.baload, 1, (0, 0, 0), 0, 0)), (33, (.iload_n 2, 1, (0, 0, 0), 0, 0)), (34, (.if_icmp .gt 7, 3, (41, 0, 0), 0, 0)), (37, (.iconst 1, 1, (0, 0, 0), 1, 0)), (38, (.goto 4, 3, (42, 0, 0), 0, 0)), (41, (.iconst 0, 1, (0, 0, 0), 0, 0)), (42, (.ireturn, 1, (0, 0, 0), 0, 0))]]
set_option maxRecDepth 10000 in
def zp236 : List (List (Nat × ZI)) := [[(0, (.aload_n 0, 1, (0, 0, 0), 0, 0)), (1, (.bipush 32, 2, (0, 0, 0), 32, 0)), (3, (.bipush 32, 2, (0, 0, 0), 32, 0)), (5, (.invokevirtual 90, 3, (0, 235, 0), 0, 1715)), (8, (.ifCond .eq 16, 3, (24, 0, 0), 0, 0)), (11, (.aload_n 0, 1, (0, 0, 0), 0, 0)), (12, (.dup, 1, (0, 0, 0), 0, 0)), (13, (.getfield 84, 3, (12, 10, 0), 0, 1627)), (16, (.iconst 1, 1, (0, 0, 0), 1, 0)), (17, (.iadd, 1, (0, 0, 0), 0, 0)), (18, (.putfield 84, 3, (12, 10, 0), 0, 1627)), (21, (.goto (-21), 3, (0, 0, 0), 0, 0)), (24, (.aload_n 0, 1, (0, 0, 0), 0, 0)), (25, (.aload_n 0, 1, (0, 0, 0), 0, 0)), (26, (.getfield 84, 3, (12, 10, 0), 0, 1627)), (29, (.putfield 94, 3, (12, 12, 0), 0, 1629))],
  [(32, (.return_, 1, (0, 0, 0), 0, 0))]]
set_option maxRecDepth 10000 in
def zp237 : List (List (Nat × ZI)) := [[(0, (.aload_n 0, 1, (0, 0, 0), 0, 0)), (1, (.invokevirtual 97, 3, (0, 236, 0), 0, 1711)), (4, (.aload_n 0, 1, (0, 0, 0), 0, 0)), (5, (.bipush 97, 2, (0, 0, 0), 97, 0)), (7, (.bipush 122, 2, (0, 0, 0), 122, 0)), (9, (.invokevirtual 90, 3, (0, 235, 0), 0, 1715)), (12, (.ifCond .eq 16, 3, (28, 0, 0), 0, 0)), (15, (.aload_n 0, 1, (0, 0, 0), 0, 0)), (16, (.dup, 1, (0, 0, 0), 0, 0)), (17, (.getfield 84, 3, (12, 10, 0), 0, 1627)), (20, (.iconst 1, 1, (0, 0, 0), 1, 0)), (21, (.iadd, 1, (0, 0, 0), 0, 0)), (22, (.putfield 84, 3, (12, 10, 0), 0, 1627)), (25, (.goto (-21), 3, (4, 0, 0), 0, 0)), (28, (.return_, 1, (0, 0, 0), 0, 0))]]
set_option maxRecDepth 10000 in
def zp238 : List (List (Nat × ZI)) := [[(0, (.aload_n 0, 1, (0, 0, 0), 0, 0)), (1, (.getfield 84, 3, (12, 10, 0), 0, 1627)), (4, (.aload_n 0, 1, (0, 0, 0), 0, 0)), (5, (.getfield 94, 3, (12, 12, 0), 0, 1629)), (8, (.isub, 1, (0, 0, 0), 0, 0)), (9, (.aload_n 1, 1, (0, 0, 0), 0, 0)), (10, (.invokevirtual 100, 3, (4, 0, 0), 0, 1736)), (13, (.if_icmp .ne 7, 3, (20, 0, 0), 0, 0)), (16, (.iconst 1, 1, (0, 0, 0), 1, 0)), (17, (.goto 4, 3, (21, 0, 0), 0, 0)), (20, (.iconst 0, 1, (0, 0, 0), 0, 0)), (21, (.istore_n 2, 1, (0, 0, 0), 0, 0)), (22, (.iconst 0, 1, (0, 0, 0), 0, 0)), (23, (.istore_n 3, 1, (0, 0, 0), 0, 0)), (24, (.iload_n 2, 1, (0, 0, 0), 0, 0)), (25, (.ifCond .eq 42, 3, (67, 0, 0), 0, 0)), (28, (.iload_n 3, 1, (0, 0, 0), 0, 0)), (29, (.aload_n 1, 1, (0, 0, 0), 0, 0)), (30, (.invokevirtual 100, 3, (4, 0, 0), 0, 1736))],
  [(33, (.if_icmp .ge 34, 3, (67, 0, 0), 0, 0)), (36, (.aload_n 0, 1, (0, 0, 0), 0, 0)), (37, (.getfield 29, 3, (12, 8, 0), 0, 1625)), (40, (.aload_n 0, 1, (0, 0, 0), 0, 0)), (41, (.getfield 94, 3, (12, 12, 0), 0, 1629)), (44, (.iload_n 3, 1, (0, 0, 0), 0, 0)), (45, (.iadd, 1, (0, 0, 0), 0, 0)), (46, (.baload, 1, (0, 0, 0), 0, 0)), (47, (.aload_n 1, 1, (0, 0, 0), 0, 0)), (48, (.iload_n 3, 1, (0, 0, 0), 0, 0)), (49, (.invokevirtual 105, 3, (5, 0, 0), 0, 1737)), (52, (.if_icmp .ne 7, 3, (59, 0, 0), 0, 0)), (55, (.iconst 1, 1, (0, 0, 0), 1, 0)), (56, (.goto 4, 3, (60, 0, 0), 0, 0)), (59, (.iconst 0, 1, (0, 0, 0), 0, 0)), (60, (.istore_n 2, 1, (0, 0, 0), 0, 0)), (61, (.iinc 3 1, 3, (0, 0, 0), 1, 0))],
  [(64, (.goto (-40), 3, (24, 0, 0), 0, 0)), (67, (.iload_n 2, 1, (0, 0, 0), 0, 0)), (68, (.ireturn, 1, (0, 0, 0), 0, 0))]]
set_option maxRecDepth 10000 in
def zp239 : List (List (Nat × ZI)) := [[(0, (.aload_n 0, 1, (0, 0, 0), 0, 0)), (1, (.invokevirtual 109, 3, (0, 237, 0), 0, 1723)), (4, (.aload_n 0, 1, (0, 0, 0), 0, 0)), (5, (.aload_n 1, 1, (0, 0, 0), 0, 0)), (6, (.invokevirtual 112, 3, (0, 238, 0), 0, 1732)), (9, (.ifCond .eq 5, 3, (14, 0, 0), 0, 0)), (12, (.iconst 1, 1, (0, 0, 0), 1, 0)), (13, (.ireturn, 1, (0, 0, 0), 0, 0)), (14, (.aload_n 0, 1, (0, 0, 0), 0, 0)), (15, (.aload_n 0, 1, (0, 0, 0), 0, 0)), (16, (.getfield 94, 3, (12, 12, 0), 0, 1629)), (19, (.putfield 84, 3, (12, 10, 0), 0, 1627)), (22, (.iconst 0, 1, (0, 0, 0), 0, 0)), (23, (.ireturn, 1, (0, 0, 0), 0, 0))]]
set_option maxRecDepth 10000 in
def zp240 : List (List (Nat × ZI)) := [[(0, (.aload_n 0, 1, (0, 0, 0), 0, 0)), (1, (.invokevirtual 97, 3, (0, 236, 0), 0, 1711)), (4, (.aload_n 0, 1, (0, 0, 0), 0, 0)), (5, (.iload_n 1, 1, (0, 0, 0), 0, 0)), (6, (.iload_n 1, 1, (0, 0, 0), 0, 0)), (7, (.invokevirtual 90, 3, (0, 235, 0), 0, 1715)), (10, (.ifCond .ne 5, 3, (15, 0, 0), 0, 0)), (13, (.iconst 0, 1, (0, 0, 0), 0, 0)), (14, (.ireturn, 1, (0, 0, 0), 0, 0)), (15, (.aload_n 0, 1, (0, 0, 0), 0, 0)), (16, (.dup, 1, (0, 0, 0), 0, 0)), (17, (.getfield 84, 3, (12, 10, 0), 0, 1627)), (20, (.iconst 1, 1, (0, 0, 0), 1, 0)), (21, (.iadd, 1, (0, 0, 0), 0, 0)), (22, (.putfield 84, 3, (12, 10, 0), 0, 1627)), (25, (.iconst 1, 1, (0, 0, 0), 1, 0)), (26, (.ireturn, 1, (0, 0, 0), 0, 0))]]
set_option maxRecDepth 10000 in
def zp241 : List (List (Nat × ZI)) := [[(0, (.aload_n 0, 1, (0, 0, 0), 0, 0)), (1, (.invokevirtual 97, 3, (0, 236, 0), 0, 1711)), (4, (.iconst 0, 1, (0, 0, 0), 0, 0)), (5, (.istore 4, 2, (0, 0, 0), 0, 0)), (7, (.aload_n 0, 1, (0, 0, 0), 0, 0)), (8, (.bipush 48, 2, (0, 0, 0), 48, 0)), (10, (.bipush 57, 2, (0, 0, 0), 57, 0)), (12, (.invokevirtual 90, 3, (0, 235, 0), 0, 1715)), (15, (.ifCond .eq 54, 3, (69, 0, 0), 0, 0)), (18, (.aload_n 0, 1, (0, 0, 0), 0, 0)), (19, (.getfield 84, 3, (12, 10, 0), 0, 1627)), (22, (.aload_n 0, 1, (0, 0, 0), 0, 0)), (23, (.getfield 94, 3, (12, 12, 0), 0, 1629)), (26, (.isub, 1, (0, 0, 0), 0, 0)), (27, (.iload_n 3, 1, (0, 0, 0), 0, 0)), (28, (.if_icmp .ge 24, 3, (52, 0, 0), 0, 0)), (31, (.bipush 10, 2, (0, 0, 0), 10, 0))],
  [(33, (.iload 4, 2, (0, 0, 0), 0, 0)), (35, (.imul, 1, (0, 0, 0), 0, 0)), (36, (.aload_n 0, 1, (0, 0, 0), 0, 0)), (37, (.getfield 29, 3, (12, 8, 0), 0, 1625)), (40, (.aload_n 0, 1, (0, 0, 0), 0, 0)), (41, (.getfield 84, 3, (12, 10, 0), 0, 1627)), (44, (.baload, 1, (0, 0, 0), 0, 0)), (45, (.iadd, 1, (0, 0, 0), 0, 0)), (46, (.bipush 48, 2, (0, 0, 0), 48, 0)), (48, (.isub, 1, (0, 0, 0), 0, 0)), (49, (.goto 5, 3, (54, 0, 0), 0, 0)), (52, (.iload 4, 2, (0, 0, 0), 0, 0)), (54, (.istore 4, 2, (0, 0, 0), 0, 0)), (56, (.aload_n 0, 1, (0, 0, 0), 0, 0)), (57, (.dup, 1, (0, 0, 0), 0, 0)), (58, (.getfield 84, 3, (12, 10, 0), 0, 1627)), (61, (.iconst 1, 1, (0, 0, 0), 1, 0)), (62, (.iadd, 1, (0, 0, 0), 0, 0)), (63, (.putfield 84, 3, (12, 10, 0), 0, 1627))],
  [(66, (.goto (-59), 3, (7, 0, 0), 0, 0)), (69, (.aload_n 0, 1, (0, 0, 0), 0, 0)), (70, (.getfield 84, 3, (12, 10, 0), 0, 1627)), (73, (.aload_n 0, 1, (0, 0, 0), 0, 0)), (74, (.getfield 94, 3, (12, 12, 0), 0, 1629)), (77, (.if_icmp .eq 28, 3, (105, 0, 0), 0, 0)), (80, (.aload_n 0, 1, (0, 0, 0), 0, 0)), (81, (.getfield 84, 3, (12, 10, 0), 0, 1627)), (84, (.aload_n 0, 1, (0, 0, 0), 0, 0)), (85, (.getfield 94, 3, (12, 12, 0), 0, 1629)), (88, (.isub, 1, (0, 0, 0), 0, 0)), (89, (.iload_n 3, 1, (0, 0, 0), 0, 0)), (90, (.if_icmp .gt 15, 3, (105, 0, 0), 0, 0)), (93, (.iload 4, 2, (0, 0, 0), 0, 0)), (95, (.iload_n 1, 1, (0, 0, 0), 0, 0))],
  [(96, (.if_icmp .lt 9, 3, (105, 0, 0), 0, 0)), (99, (.iload 4, 2, (0, 0, 0), 0, 0)), (101, (.iload_n 2, 1, (0, 0, 0), 0, 0)), (102, (.if_icmp .le 7, 3, (109, 0, 0), 0, 0)), (105, (.iconst (-1), 1, (0, 0, 0), (-1), 0)), (106, (.goto 5, 3, (111, 0, 0), 0, 0)), (109, (.iload 4, 2, (0, 0, 0), 0, 0)), (111, (.ireturn, 1, (0, 0, 0), 0, 0))]]
set_option maxRecDepth 10000 in
def zp242 : List (List (Nat × ZI)) := [[(0, (.aload_n 0, 1, (0, 0, 0), 0, 0)), (1, (.iload_n 1, 1, (0, 0, 0), 0, 0)), (2, (.iload_n 2, 1, (0, 0, 0), 0, 0)), (3, (.iconst 5, 1, (0, 0, 0), 5, 0)), (4, (.invokevirtual 116, 3, (0, 241, 0), 0, 1759)), (7, (.ireturn, 1, (0, 0, 0), 0, 0))]]
set_option maxRecDepth 10000 in
def zp243 : List (List (Nat × ZI)) := [[(0, (.aload_n 0, 1, (0, 0, 0), 0, 0)), (1, (.ldc 120, 2, (1, 24, 0), 0, 1750)), (3, (.invokevirtual 112, 3, (0, 238, 0), 0, 1732)), (6, (.ifCond .eq 7, 3, (13, 0, 0), 0, 0)), (9, (.iconst 0, 1, (0, 0, 0), 0, 0)), (10, (.goto 56, 3, (66, 0, 0), 0, 0)), (13, (.aload_n 0, 1, (0, 0, 0), 0, 0)), (14, (.ldc 122, 2, (1, 25, 0), 0, 1751)), (16, (.invokevirtual 112, 3, (0, 238, 0), 0, 1732)), (19, (.ifCond .eq 7, 3, (26, 0, 0), 0, 0)), (22, (.iconst 1, 1, (0, 0, 0), 1, 0)), (23, (.goto 43, 3, (66, 0, 0), 0, 0)), (26, (.aload_n 0, 1, (0, 0, 0), 0, 0)), (27, (.ldc 124, 2, (1, 26, 0), 0, 1752)), (29, (.invokevirtual 112, 3, (0, 238, 0), 0, 1732))],
  [(32, (.ifCond .eq 7, 3, (39, 0, 0), 0, 0)), (35, (.iconst 2, 1, (0, 0, 0), 2, 0)), (36, (.goto 30, 3, (66, 0, 0), 0, 0)), (39, (.aload_n 0, 1, (0, 0, 0), 0, 0)), (40, (.ldc 126, 2, (1, 27, 0), 0, 1753)), (42, (.invokevirtual 112, 3, (0, 238, 0), 0, 1732)), (45, (.ifCond .eq 7, 3, (52, 0, 0), 0, 0)), (48, (.iconst 3, 1, (0, 0, 0), 3, 0)), (49, (.goto 17, 3, (66, 0, 0), 0, 0)), (52, (.aload_n 0, 1, (0, 0, 0), 0, 0)), (53, (.ldc 128, 2, (1, 28, 0), 0, 1754)), (55, (.invokevirtual 112, 3, (0, 238, 0), 0, 1732)), (58, (.ifCond .eq 7, 3, (65, 0, 0), 0, 0)), (61, (.iconst 4, 1, (0, 0, 0), 4, 0)), (62, (.goto 4, 3, (66, 0, 0), 0, 0))],
  [(65, (.iconst (-1), 1, (0, 0, 0), (-1), 0)), (66, (.ireturn, 1, (0, 0, 0), 0, 0))]]
set_option maxRecDepth 10000 in
def zp244 : List (List (Nat × ZI)) := [[(0, (.aload_n 0, 1, (0, 0, 0), 0, 0)), (1, (.iconst 0, 1, (0, 0, 0), 0, 0)), (2, (.putfield 3, 3, (12, 0, 0), 0, 1617)), (5, (.aload_n 0, 1, (0, 0, 0), 0, 0)), (6, (.getfield 33, 3, (12, 14, 0), 0, 1631)), (9, (.ireturn, 1, (0, 0, 0), 0, 0))]]
set_option maxRecDepth 10000 in
def zp245 : List (List (Nat × ZI)) := [[(0, (.aload_n 0, 1, (0, 0, 0), 0, 0)), (1, (.iconst 0, 1, (0, 0, 0), 0, 0)), (2, (.putfield 3, 3, (12, 0, 0), 0, 1617)), (5, (.aload_n 0, 1, (0, 0, 0), 0, 0)), (6, (.aload_n 0, 1, (0, 0, 0), 0, 0)), (7, (.getfield 81, 3, (12, 9, 0), 0, 1626)), (10, (.putfield 87, 3, (12, 11, 0), 0, 1628)), (13, (.aload_n 0, 1, (0, 0, 0), 0, 0)), (14, (.iconst 0, 1, (0, 0, 0), 0, 0)), (15, (.putfield 81, 3, (12, 9, 0), 0, 1626)), (18, (.aload_n 0, 1, (0, 0, 0), 0, 0)), (19, (.iconst 0, 1, (0, 0, 0), 0, 0)), (20, (.putfield 84, 3, (12, 10, 0), 0, 1627)), (23, (.return_, 1, (0, 0, 0), 0, 0))]]
set_option maxRecDepth 10000 in
def zp246 : List (List (Nat × ZI)) := [[(0, (.aload_n 0, 1, (0, 0, 0), 0, 0)), (1, (.iconst 0, 1, (0, 0, 0), 0, 0)), (2, (.aload_n 0, 1, (0, 0, 0), 0, 0)), (3, (.invokevirtual 66, 3, (0, 217, 0), 0, 1742)), (6, (.iconst 1, 1, (0, 0, 0), 1, 0)), (7, (.isub, 1, (0, 0, 0), 0, 0)), (8, (.invokevirtual 130, 3, (0, 242, 0), 0, 1755)), (11, (.ireturn, 1, (0, 0, 0), 0, 0))]]
set_option maxRecDepth 10000 in
def zp247 : List (List (Nat × ZI)) := [[(0, (.aload_n 0, 1, (0, 0, 0), 0, 0)), (1, (.iconst 0, 1, (0, 0, 0), 0, 0)), (2, (.aload_n 0, 1, (0, 0, 0), 0, 0)), (3, (.invokevirtual 74, 3, (0, 218, 0), 0, 1780)), (6, (.iconst 1, 1, (0, 0, 0), 1, 0)), (7, (.isub, 1, (0, 0, 0), 0, 0)), (8, (.invokevirtual 130, 3, (0, 242, 0), 0, 1755)), (11, (.ireturn, 1, (0, 0, 0), 0, 0))]]
set_option maxRecDepth 10000 in
def zp248 : List (List (Nat × ZI)) := [[(0, (.aload_n 0, 1, (0, 0, 0), 0, 0)), (1, (.invokevirtual 66, 3, (0, 217, 0), 0, 1742)), (4, (.istore_n 1, 1, (0, 0, 0), 0, 0)), (5, (.iload_n 1, 1, (0, 0, 0), 0, 0)), (6, (.bipush 12, 2, (0, 0, 0), 12, 0)), (8, (.if_icmp .ne 5, 3, (13, 0, 0), 0, 0)), (11, (.iconst 0, 1, (0, 0, 0), 0, 0)), (12, (.ireturn, 1, (0, 0, 0), 0, 0)), (13, (.aload_n 0, 1, (0, 0, 0), 0, 0)), (14, (.invokevirtual 109, 3, (0, 237, 0), 0, 1723)), (17, (.aload_n 0, 1, (0, 0, 0), 0, 0)), (18, (.invokevirtual 133, 3, (0, 243, 0), 0, 1746)), (21, (.istore_n 2, 1, (0, 0, 0), 0, 0)), (22, (.iload_n 2, 1, (0, 0, 0), 0, 0)), (23, (.ifCond .ge 7, 3, (30, 0, 0), 0, 0)), (26, (.iconst (-1), 1, (0, 0, 0), (-1), 0)), (27, (.goto 10, 3, (37, 0, 0), 0, 0)), (30, (.aload_n 0, 1, (0, 0, 0), 0, 0)), (31, (.iconst 1, 1, (0, 0, 0), 1, 0))],
  [(32, (.bipush 99, 2, (0, 0, 0), 99, 0)), (34, (.invokevirtual 130, 3, (0, 242, 0), 0, 1755)), (37, (.istore_n 3, 1, (0, 0, 0), 0, 0)), (38, (.iload_n 3, 1, (0, 0, 0), 0, 0)), (39, (.ifCond .ge 5, 3, (44, 0, 0), 0, 0)), (42, (.iconst 0, 1, (0, 0, 0), 0, 0)), (43, (.ireturn, 1, (0, 0, 0), 0, 0)), (44, (.iconst 0, 1, (0, 0, 0), 0, 0)), (45, (.istore 4, 2, (0, 0, 0), 0, 0)), (47, (.iload 4, 2, (0, 0, 0), 0, 0)), (49, (.bipush 11, 2, (0, 0, 0), 11, 0)), (51, (.if_icmp .ge 21, 3, (72, 0, 0), 0, 0)), (54, (.aload_n 0, 1, (0, 0, 0), 0, 0)), (55, (.getfield 13, 3, (12, 1, 0), 0, 1618)), (58, (.iload_n 1, 1, (0, 0, 0), 0, 0)), (59, (.iload 4, 2, (0, 0, 0), 0, 0)), (61, (.invokestatic 52, 3, (0, 219, 0), 0, 1763))],
  [(64, (.iconst 0, 1, (0, 0, 0), 0, 0)), (65, (.iastore, 1, (0, 0, 0), 0, 0)), (66, (.iinc 4 1, 3, (0, 0, 0), 1, 0)), (69, (.goto (-22), 3, (47, 0, 0), 0, 0)), (72, (.aload_n 0, 1, (0, 0, 0), 0, 0)), (73, (.getfield 13, 3, (12, 1, 0), 0, 1618)), (76, (.iload_n 1, 1, (0, 0, 0), 0, 0)), (77, (.iconst 0, 1, (0, 0, 0), 0, 0)), (78, (.invokestatic 52, 3, (0, 219, 0), 0, 1763)), (81, (.iload_n 2, 1, (0, 0, 0), 0, 0)), (82, (.iastore, 1, (0, 0, 0), 0, 0)), (83, (.aload_n 0, 1, (0, 0, 0), 0, 0)), (84, (.getfield 13, 3, (12, 1, 0), 0, 1618)), (87, (.iload_n 1, 1, (0, 0, 0), 0, 0)), (88, (.iconst 1, 1, (0, 0, 0), 1, 0)), (89, (.invokestatic 52, 3, (0, 219, 0), 0, 1763)), (92, (.iload_n 3, 1, (0, 0, 0), 0, 0)), (93, (.iastore, 1, (0, 0, 0), 0, 0)), (94, (.aload_n 0, 1, (0, 0, 0), 0, 0)), (95, (.getfield 13, 3, (12, 1, 0), 0, 1618))],
  [(98, (.iconst 0, 1, (0, 0, 0), 0, 0)), (99, (.dup2, 1, (0, 0, 0), 0, 0)), (100, (.iaload, 1, (0, 0, 0), 0, 0)), (101, (.iconst 1, 1, (0, 0, 0), 1, 0)), (102, (.iadd, 1, (0, 0, 0), 0, 0)), (103, (.iastore, 1, (0, 0, 0), 0, 0)), (104, (.iconst 1, 1, (0, 0, 0), 1, 0)), (105, (.ireturn, 1, (0, 0, 0), 0, 0))]]
set_option maxRecDepth 10000 in
def zp249 : List (List (Nat × ZI)) := [[(0, (.aload_n 0, 1, (0, 0, 0), 0, 0)), (1, (.getfield 13, 3, (12, 1, 0), 0, 1618)), (4, (.iconst 1, 1, (0, 0, 0), 1, 0)), (5, (.iaload, 1, (0, 0, 0), 0, 0)), (6, (.istore_n 1, 1, (0, 0, 0), 0, 0)), (7, (.iload_n 1, 1, (0, 0, 0), 0, 0)), (8, (.bipush 20, 2, (0, 0, 0), 20, 0)), (10, (.if_icmp .ne 5, 3, (15, 0, 0), 0, 0)), (13, (.iconst 0, 1, (0, 0, 0), 0, 0)), (14, (.ireturn, 1, (0, 0, 0), 0, 0)), (15, (.aload_n 0, 1, (0, 0, 0), 0, 0)), (16, (.invokevirtual 136, 3, (0, 246, 0), 0, 1771)), (19, (.istore_n 2, 1, (0, 0, 0), 0, 0)), (20, (.iload_n 2, 1, (0, 0, 0), 0, 0)), (21, (.ifCond .ge 7, 3, (28, 0, 0), 0, 0)), (24, (.iconst (-1), 1, (0, 0, 0), (-1), 0)), (25, (.goto 7, 3, (32, 0, 0), 0, 0)), (28, (.aload_n 0, 1, (0, 0, 0), 0, 0)), (29, (.invokevirtual 136, 3, (0, 246, 0), 0, 1771))],
  [(32, (.istore_n 3, 1, (0, 0, 0), 0, 0)), (33, (.iload_n 3, 1, (0, 0, 0), 0, 0)), (34, (.ifCond .lt 8, 3, (42, 0, 0), 0, 0)), (37, (.iload_n 2, 1, (0, 0, 0), 0, 0)), (38, (.iload_n 3, 1, (0, 0, 0), 0, 0)), (39, (.if_icmp .ne 5, 3, (44, 0, 0), 0, 0)), (42, (.iconst 0, 1, (0, 0, 0), 0, 0)), (43, (.ireturn, 1, (0, 0, 0), 0, 0)), (44, (.aload_n 0, 1, (0, 0, 0), 0, 0)), (45, (.getfield 13, 3, (12, 1, 0), 0, 1618)), (48, (.sipush 145, 3, (0, 0, 0), 145, 0)), (51, (.iconst 2, 1, (0, 0, 0), 2, 0)), (52, (.iload_n 1, 1, (0, 0, 0), 0, 0)), (53, (.imul, 1, (0, 0, 0), 0, 0)), (54, (.iadd, 1, (0, 0, 0), 0, 0)), (55, (.iload_n 2, 1, (0, 0, 0), 0, 0)), (56, (.iastore, 1, (0, 0, 0), 0, 0)), (57, (.aload_n 0, 1, (0, 0, 0), 0, 0)), (58, (.getfield 13, 3, (12, 1, 0), 0, 1618)), (61, (.sipush 145, 3, (0, 0, 0), 145, 0))],
  [(64, (.iconst 2, 1, (0, 0, 0), 2, 0)), (65, (.iload_n 1, 1, (0, 0, 0), 0, 0)), (66, (.imul, 1, (0, 0, 0), 0, 0)), (67, (.iadd, 1, (0, 0, 0), 0, 0)), (68, (.iconst 1, 1, (0, 0, 0), 1, 0)), (69, (.iadd, 1, (0, 0, 0), 0, 0)), (70, (.iload_n 3, 1, (0, 0, 0), 0, 0)), (71, (.iastore, 1, (0, 0, 0), 0, 0)), (72, (.aload_n 0, 1, (0, 0, 0), 0, 0)), (73, (.getfield 13, 3, (12, 1, 0), 0, 1618)), (76, (.iconst 1, 1, (0, 0, 0), 1, 0)), (77, (.dup2, 1, (0, 0, 0), 0, 0)), (78, (.iaload, 1, (0, 0, 0), 0, 0)), (79, (.iconst 1, 1, (0, 0, 0), 1, 0)), (80, (.iadd, 1, (0, 0, 0), 0, 0)), (81, (.iastore, 1, (0, 0, 0), 0, 0)), (82, (.iconst 1, 1, (0, 0, 0), 1, 0)), (83, (.ireturn, 1, (0, 0, 0), 0, 0))]]
set_option maxRecDepth 10000 in
def zp250 : List (List (Nat × ZI)) := [[(0, (.aload_n 0, 1, (0, 0, 0), 0, 0)), (1, (.invokevirtual 74, 3, (0, 218, 0), 0, 1780)), (4, (.istore_n 1, 1, (0, 0, 0), 0, 0)), (5, (.iload_n 1, 1, (0, 0, 0), 0, 0)), (6, (.bipush 8, 2, (0, 0, 0), 8, 0)), (8, (.if_icmp .ne 5, 3, (13, 0, 0), 0, 0)), (11, (.iconst 0, 1, (0, 0, 0), 0, 0)), (12, (.ireturn, 1, (0, 0, 0), 0, 0)), (13, (.iconst 0, 1, (0, 0, 0), 0, 0)), (14, (.istore_n 2, 1, (0, 0, 0), 0, 0)), (15, (.iload_n 2, 1, (0, 0, 0), 0, 0)), (16, (.bipush 24, 2, (0, 0, 0), 24, 0)), (18, (.if_icmp .ge 16, 3, (34, 0, 0), 0, 0)), (21, (.aload_n 0, 1, (0, 0, 0), 0, 0)), (22, (.iload_n 1, 1, (0, 0, 0), 0, 0)), (23, (.iload_n 2, 1, (0, 0, 0), 0, 0)), (24, (.iconst 0, 1, (0, 0, 0), 0, 0)), (25, (.invokevirtual 139, 3, (0, 223, 0), 0, 1784)), (28, (.iinc 2 1, 3, (0, 0, 0), 1, 0)), (31, (.goto (-16), 3, (15, 0, 0), 0, 0))],
  [(34, (.aload_n 0, 1, (0, 0, 0), 0, 0)), (35, (.iload_n 1, 1, (0, 0, 0), 0, 0)), (36, (.iconst 1, 1, (0, 0, 0), 1, 0)), (37, (.bipush 100, 2, (0, 0, 0), 100, 0)), (39, (.invokevirtual 139, 3, (0, 223, 0), 0, 1784)), (42, (.iconst 0, 1, (0, 0, 0), 0, 0)), (43, (.istore_n 2, 1, (0, 0, 0), 0, 0)), (44, (.aload_n 0, 1, (0, 0, 0), 0, 0)), (45, (.invokevirtual 136, 3, (0, 246, 0), 0, 1771)), (48, (.istore 4, 2, (0, 0, 0), 0, 0)), (50, (.aload_n 0, 1, (0, 0, 0), 0, 0)), (51, (.getfield 94, 3, (12, 12, 0), 0, 1629)), (54, (.istore_n 3, 1, (0, 0, 0), 0, 0)), (55, (.iload 4, 2, (0, 0, 0), 0, 0)), (57, (.ifCond .lt 47, 3, (104, 0, 0), 0, 0)), (60, (.iload_n 2, 1, (0, 0, 0), 0, 0)), (61, (.bipush 12, 2, (0, 0, 0), 12, 0)), (63, (.if_icmp .eq 41, 3, (104, 0, 0), 0, 0))],
  [(66, (.iload_n 2, 1, (0, 0, 0), 0, 0)), (67, (.ifCond .le 39, 3, (106, 0, 0), 0, 0)), (70, (.iload 4, 2, (0, 0, 0), 0, 0)), (72, (.aload_n 0, 1, (0, 0, 0), 0, 0)), (73, (.iload_n 1, 1, (0, 0, 0), 0, 0)), (74, (.iconst 4, 1, (0, 0, 0), 4, 0)), (75, (.iload_n 2, 1, (0, 0, 0), 0, 0)), (76, (.iadd, 1, (0, 0, 0), 0, 0)), (77, (.iconst 1, 1, (0, 0, 0), 1, 0)), (78, (.isub, 1, (0, 0, 0), 0, 0)), (79, (.invokevirtual 59, 3, (0, 222, 0), 0, 1791)), (82, (.if_icmp .eq 24, 3, (106, 0, 0), 0, 0)), (85, (.aload_n 0, 1, (0, 0, 0), 0, 0)), (86, (.aload_n 0, 1, (0, 0, 0), 0, 0)), (87, (.iload_n 1, 1, (0, 0, 0), 0, 0)), (88, (.iconst 4, 1, (0, 0, 0), 4, 0)), (89, (.iload_n 2, 1, (0, 0, 0), 0, 0)), (90, (.iadd, 1, (0, 0, 0), 0, 0)), (91, (.iconst 1, 1, (0, 0, 0), 1, 0)), (92, (.isub, 1, (0, 0, 0), 0, 0)), (93, (.invokevirtual 59, 3, (0, 222, 0), 0, 1791))],
  [(96, (.iload 4, 2, (0, 0, 0), 0, 0)), (98, (.invokevirtual 143, 3, (0, 231, 0), 0, 1795)), (101, (.ifCond .ne 5, 3, (106, 0, 0), 0, 0)), (104, (.iconst 0, 1, (0, 0, 0), 0, 0)), (105, (.ireturn, 1, (0, 0, 0), 0, 0)), (106, (.aload_n 0, 1, (0, 0, 0), 0, 0)), (107, (.iload_n 1, 1, (0, 0, 0), 0, 0)), (108, (.iconst 4, 1, (0, 0, 0), 4, 0)), (109, (.iload_n 2, 1, (0, 0, 0), 0, 0)), (110, (.iadd, 1, (0, 0, 0), 0, 0)), (111, (.iload 4, 2, (0, 0, 0), 0, 0)), (113, (.invokevirtual 139, 3, (0, 223, 0), 0, 1784)), (116, (.iinc 2 1, 3, (0, 0, 0), 1, 0)), (119, (.aload_n 0, 1, (0, 0, 0), 0, 0)), (120, (.invokevirtual 97, 3, (0, 236, 0), 0, 1711)), (123, (.aload_n 0, 1, (0, 0, 0), 0, 0)), (124, (.bipush 48, 2, (0, 0, 0), 48, 0)), (126, (.bipush 57, 2, (0, 0, 0), 57, 0))],
  [(128, (.invokevirtual 90, 3, (0, 235, 0), 0, 1715)), (131, (.ifCond .ne (-87), 3, (44, 0, 0), 0, 0)), (134, (.aload_n 0, 1, (0, 0, 0), 0, 0)), (135, (.iload_n 1, 1, (0, 0, 0), 0, 0)), (136, (.iconst 3, 1, (0, 0, 0), 3, 0)), (137, (.iload_n 2, 1, (0, 0, 0), 0, 0)), (138, (.invokevirtual 139, 3, (0, 223, 0), 0, 1784)), (141, (.aload_n 0, 1, (0, 0, 0), 0, 0)), (142, (.getfield 13, 3, (12, 1, 0), 0, 1618)), (145, (.iconst 2, 1, (0, 0, 0), 2, 0)), (146, (.dup2, 1, (0, 0, 0), 0, 0)), (147, (.iaload, 1, (0, 0, 0), 0, 0)), (148, (.iconst 1, 1, (0, 0, 0), 1, 0)), (149, (.iadd, 1, (0, 0, 0), 0, 0)), (150, (.iastore, 1, (0, 0, 0), 0, 0)), (151, (.aload_n 0, 1, (0, 0, 0), 0, 0)), (152, (.iload_n 1, 1, (0, 0, 0), 0, 0)), (153, (.iconst 4, 1, (0, 0, 0), 4, 0)), (154, (.iload_n 2, 1, (0, 0, 0), 0, 0)), (155, (.iadd, 1, (0, 0, 0), 0, 0)), (156, (.iconst 1, 1, (0, 0, 0), 1, 0)), (157, (.isub, 1, (0, 0, 0), 0, 0)), (158, (.invokevirtual 59, 3, (0, 222, 0), 0, 1791))],
  [(161, (.istore 4, 2, (0, 0, 0), 0, 0)), (163, (.iload 4, 2, (0, 0, 0), 0, 0)), (165, (.aload_n 0, 1, (0, 0, 0), 0, 0)), (166, (.iload_n 1, 1, (0, 0, 0), 0, 0)), (167, (.iconst 4, 1, (0, 0, 0), 4, 0)), (168, (.invokevirtual 59, 3, (0, 222, 0), 0, 1791)), (171, (.if_icmp .eq 18, 3, (189, 0, 0), 0, 0)), (174, (.aload_n 0, 1, (0, 0, 0), 0, 0)), (175, (.iload 4, 2, (0, 0, 0), 0, 0)), (177, (.aload_n 0, 1, (0, 0, 0), 0, 0)), (178, (.iload_n 1, 1, (0, 0, 0), 0, 0)), (179, (.iconst 4, 1, (0, 0, 0), 4, 0)), (180, (.invokevirtual 59, 3, (0, 222, 0), 0, 1791)), (183, (.invokevirtual 143, 3, (0, 231, 0), 0, 1795)), (186, (.ifCond .eq 5, 3, (191, 0, 0), 0, 0)), (189, (.iconst 1, 1, (0, 0, 0), 1, 0)), (190, (.ireturn, 1, (0, 0, 0), 0, 0)), (191, (.aload_n 0, 1, (0, 0, 0), 0, 0))],
  [(192, (.iload_n 3, 1, (0, 0, 0), 0, 0)), (193, (.putfield 94, 3, (12, 12, 0), 0, 1629)), (196, (.iconst 0, 1, (0, 0, 0), 0, 0)), (197, (.ireturn, 1, (0, 0, 0), 0, 0))]]
set_option maxRecDepth 10000 in
def zp251 : List (List (Nat × ZI)) := [[(0, (.aload_n 0, 1, (0, 0, 0), 0, 0)), (1, (.invokevirtual 146, 3, (0, 247, 0), 0, 1804)), (4, (.istore_n 1, 1, (0, 0, 0), 0, 0)), (5, (.iload_n 1, 1, (0, 0, 0), 0, 0)), (6, (.ifCond .ge 7, 3, (13, 0, 0), 0, 0)), (9, (.iconst (-1), 1, (0, 0, 0), (-1), 0)), (10, (.goto 11, 3, (21, 0, 0), 0, 0)), (13, (.aload_n 0, 1, (0, 0, 0), 0, 0)), (14, (.iconst 0, 1, (0, 0, 0), 0, 0)), (15, (.sipush 9999, 3, (0, 0, 0), 9999, 0)), (18, (.invokevirtual 130, 3, (0, 242, 0), 0, 1755)), (21, (.istore_n 2, 1, (0, 0, 0), 0, 0)), (22, (.iload_n 2, 1, (0, 0, 0), 0, 0)), (23, (.ifCond .ge 5, 3, (28, 0, 0), 0, 0)), (26, (.iconst 0, 1, (0, 0, 0), 0, 0)), (27, (.ireturn, 1, (0, 0, 0), 0, 0)), (28, (.iload_n 2, 1, (0, 0, 0), 0, 0)), (29, (.sipush 9999, 3, (0, 0, 0), 9999, 0))],
  [(32, (.aload_n 0, 1, (0, 0, 0), 0, 0)), (33, (.iload_n 1, 1, (0, 0, 0), 0, 0)), (34, (.invokevirtual 149, 3, (0, 227, 0), 0, 1808)), (37, (.isub, 1, (0, 0, 0), 0, 0)), (38, (.invokestatic 152, 3, (2, 0, 0), 0, 1816)), (41, (.istore_n 3, 1, (0, 0, 0), 0, 0)), (42, (.aload_n 0, 1, (0, 0, 0), 0, 0)), (43, (.iload_n 1, 1, (0, 0, 0), 0, 0)), (44, (.bipush 16, 2, (0, 0, 0), 16, 0)), (46, (.iload_n 1, 1, (0, 0, 0), 0, 0)), (47, (.iadd, 1, (0, 0, 0), 0, 0)), (48, (.aload_n 0, 1, (0, 0, 0), 0, 0)), (49, (.iload_n 1, 1, (0, 0, 0), 0, 0)), (50, (.bipush 16, 2, (0, 0, 0), 16, 0)), (52, (.iload_n 1, 1, (0, 0, 0), 0, 0)), (53, (.iadd, 1, (0, 0, 0), 0, 0)), (54, (.invokevirtual 59, 3, (0, 222, 0), 0, 1791)), (57, (.iload_n 3, 1, (0, 0, 0), 0, 0)), (58, (.iadd, 1, (0, 0, 0), 0, 0)), (59, (.invokevirtual 139, 3, (0, 223, 0), 0, 1784)), (62, (.aload_n 0, 1, (0, 0, 0), 0, 0)), (63, (.getfield 13, 3, (12, 1, 0), 0, 1618))],
  [(66, (.bipush 7, 2, (0, 0, 0), 7, 0)), (68, (.dup2, 1, (0, 0, 0), 0, 0)), (69, (.iaload, 1, (0, 0, 0), 0, 0)), (70, (.iload_n 3, 1, (0, 0, 0), 0, 0)), (71, (.iadd, 1, (0, 0, 0), 0, 0)), (72, (.iastore, 1, (0, 0, 0), 0, 0)), (73, (.iconst 1, 1, (0, 0, 0), 1, 0)), (74, (.ireturn, 1, (0, 0, 0), 0, 0))]]
set_option maxRecDepth 10000 in
def zp252 : List (List (Nat × ZI)) := [[(0, (.aload_n 0, 1, (0, 0, 0), 0, 0)), (1, (.invokevirtual 136, 3, (0, 246, 0), 0, 1771)), (4, (.istore_n 1, 1, (0, 0, 0), 0, 0)), (5, (.iload_n 1, 1, (0, 0, 0), 0, 0)), (6, (.ifCond .ge 7, 3, (13, 0, 0), 0, 0)), (9, (.iconst (-1), 1, (0, 0, 0), (-1), 0)), (10, (.goto 7, 3, (17, 0, 0), 0, 0)), (13, (.aload_n 0, 1, (0, 0, 0), 0, 0)), (14, (.invokevirtual 146, 3, (0, 247, 0), 0, 1804)), (17, (.istore_n 2, 1, (0, 0, 0), 0, 0)), (18, (.iload_n 2, 1, (0, 0, 0), 0, 0)), (19, (.ifCond .ge 7, 3, (26, 0, 0), 0, 0)), (22, (.iconst (-1), 1, (0, 0, 0), (-1), 0)), (23, (.goto 11, 3, (34, 0, 0), 0, 0)), (26, (.aload_n 0, 1, (0, 0, 0), 0, 0)), (27, (.iconst 0, 1, (0, 0, 0), 0, 0)), (28, (.sipush 9999, 3, (0, 0, 0), 9999, 0)), (31, (.invokevirtual 130, 3, (0, 242, 0), 0, 1755))],
  [(34, (.istore_n 3, 1, (0, 0, 0), 0, 0)), (35, (.iload_n 3, 1, (0, 0, 0), 0, 0)), (36, (.ifCond .ge 5, 3, (41, 0, 0), 0, 0)), (39, (.iconst 0, 1, (0, 0, 0), 0, 0)), (40, (.ireturn, 1, (0, 0, 0), 0, 0)), (41, (.aload_n 0, 1, (0, 0, 0), 0, 0)), (42, (.getfield 13, 3, (12, 1, 0), 0, 1618)), (45, (.iload_n 1, 1, (0, 0, 0), 0, 0)), (46, (.iconst 3, 1, (0, 0, 0), 3, 0)), (47, (.iload_n 2, 1, (0, 0, 0), 0, 0)), (48, (.iadd, 1, (0, 0, 0), 0, 0)), (49, (.invokestatic 52, 3, (0, 219, 0), 0, 1763)), (52, (.dup2, 1, (0, 0, 0), 0, 0)), (53, (.iaload, 1, (0, 0, 0), 0, 0)), (54, (.iload_n 3, 1, (0, 0, 0), 0, 0)), (55, (.iadd, 1, (0, 0, 0), 0, 0)), (56, (.iastore, 1, (0, 0, 0), 0, 0)), (57, (.aload_n 0, 1, (0, 0, 0), 0, 0)), (58, (.getfield 13, 3, (12, 1, 0), 0, 1618)), (61, (.bipush 7, 2, (0, 0, 0), 7, 0)), (63, (.dup2, 1, (0, 0, 0), 0, 0))],
  [(64, (.iaload, 1, (0, 0, 0), 0, 0)), (65, (.iload_n 3, 1, (0, 0, 0), 0, 0)), (66, (.iadd, 1, (0, 0, 0), 0, 0)), (67, (.iastore, 1, (0, 0, 0), 0, 0)), (68, (.iconst 1, 1, (0, 0, 0), 1, 0)), (69, (.ireturn, 1, (0, 0, 0), 0, 0))]]
set_option maxRecDepth 10000 in
def zp253 : List (List (Nat × ZI)) := [[(0, (.aload_n 0, 1, (0, 0, 0), 0, 0)), (1, (.invokevirtual 136, 3, (0, 246, 0), 0, 1771)), (4, (.istore_n 1, 1, (0, 0, 0), 0, 0)), (5, (.iload_n 1, 1, (0, 0, 0), 0, 0)), (6, (.ifCond .ge 7, 3, (13, 0, 0), 0, 0)), (9, (.iconst (-1), 1, (0, 0, 0), (-1), 0)), (10, (.goto 10, 3, (20, 0, 0), 0, 0)), (13, (.aload_n 0, 1, (0, 0, 0), 0, 0)), (14, (.iconst 0, 1, (0, 0, 0), 0, 0)), (15, (.bipush 100, 2, (0, 0, 0), 100, 0)), (17, (.invokevirtual 130, 3, (0, 242, 0), 0, 1755)), (20, (.istore_n 2, 1, (0, 0, 0), 0, 0)), (21, (.iload_n 2, 1, (0, 0, 0), 0, 0)), (22, (.ifCond .lt 14, 3, (36, 0, 0), 0, 0)), (25, (.aload_n 0, 1, (0, 0, 0), 0, 0)), (26, (.getfield 13, 3, (12, 1, 0), 0, 1618)), (29, (.iload_n 1, 1, (0, 0, 0), 0, 0)), (30, (.iconst 2, 1, (0, 0, 0), 2, 0)), (31, (.invokestatic 52, 3, (0, 219, 0), 0, 1763))],
  [(34, (.iload_n 2, 1, (0, 0, 0), 0, 0)), (35, (.iastore, 1, (0, 0, 0), 0, 0)), (36, (.iload_n 2, 1, (0, 0, 0), 0, 0)), (37, (.ifCond .lt 7, 3, (44, 0, 0), 0, 0)), (40, (.iconst 1, 1, (0, 0, 0), 1, 0)), (41, (.goto 4, 3, (45, 0, 0), 0, 0)), (44, (.iconst 0, 1, (0, 0, 0), 0, 0)), (45, (.ireturn, 1, (0, 0, 0), 0, 0))]]
set_option maxRecDepth 10000 in
def zp254 : List (List (Nat × ZI)) := [[(0, (.aload_n 0, 1, (0, 0, 0), 0, 0)), (1, (.invokevirtual 146, 3, (0, 247, 0), 0, 1804)), (4, (.istore_n 3, 1, (0, 0, 0), 0, 0)), (5, (.iload_n 3, 1, (0, 0, 0), 0, 0)), (6, (.ifCond .ge 7, 3, (13, 0, 0), 0, 0)), (9, (.iconst (-1), 1, (0, 0, 0), (-1), 0)), (10, (.goto 9, 3, (19, 0, 0), 0, 0)), (13, (.aload_n 0, 1, (0, 0, 0), 0, 0)), (14, (.iconst 0, 1, (0, 0, 0), 0, 0)), (15, (.iload_n 2, 1, (0, 0, 0), 0, 0)), (16, (.invokevirtual 130, 3, (0, 242, 0), 0, 1755)), (19, (.istore 4, 2, (0, 0, 0), 0, 0)), (21, (.iload 4, 2, (0, 0, 0), 0, 0)), (23, (.ifCond .lt 11, 3, (34, 0, 0), 0, 0)), (26, (.aload_n 0, 1, (0, 0, 0), 0, 0)), (27, (.iload_n 3, 1, (0, 0, 0), 0, 0)), (28, (.iload_n 1, 1, (0, 0, 0), 0, 0)), (29, (.iload 4, 2, (0, 0, 0), 0, 0)), (31, (.invokevirtual 139, 3, (0, 223, 0), 0, 1784))],
  [(34, (.iload 4, 2, (0, 0, 0), 0, 0)), (36, (.ifCond .lt 7, 3, (43, 0, 0), 0, 0)), (39, (.iconst 1, 1, (0, 0, 0), 1, 0)), (40, (.goto 4, 3, (44, 0, 0), 0, 0)), (43, (.iconst 0, 1, (0, 0, 0), 0, 0)), (44, (.ireturn, 1, (0, 0, 0), 0, 0))]]
set_option maxRecDepth 10000 in
def zp255 : List (List (Nat × ZI)) := [[(0, (.aload_n 0, 1, (0, 0, 0), 0, 0)), (1, (.ldc 157, 2, (1, 23, 0), 0, 1731)), (3, (.invokevirtual 112, 3, (0, 238, 0), 0, 1732)), (6, (.ifCond .eq 8, 3, (14, 0, 0), 0, 0)), (9, (.aload_n 0, 1, (0, 0, 0), 0, 0)), (10, (.invokevirtual 159, 3, (0, 248, 0), 0, 1738)), (13, (.ireturn, 1, (0, 0, 0), 0, 0)), (14, (.aload_n 0, 1, (0, 0, 0), 0, 0)), (15, (.ldc 163, 2, (1, 29, 0), 0, 1766)), (17, (.invokevirtual 112, 3, (0, 238, 0), 0, 1732)), (20, (.ifCond .eq 8, 3, (28, 0, 0), 0, 0)), (23, (.aload_n 0, 1, (0, 0, 0), 0, 0)), (24, (.invokevirtual 165, 3, (0, 249, 0), 0, 1767)), (27, (.ireturn, 1, (0, 0, 0), 0, 0)), (28, (.aload_n 0, 1, (0, 0, 0), 0, 0)), (29, (.ldc 168, 2, (1, 30, 0), 0, 1775)), (31, (.invokevirtual 112, 3, (0, 238, 0), 0, 1732))],
  [(34, (.ifCond .eq 8, 3, (42, 0, 0), 0, 0)), (37, (.aload_n 0, 1, (0, 0, 0), 0, 0)), (38, (.invokevirtual 170, 3, (0, 250, 0), 0, 1776)), (41, (.ireturn, 1, (0, 0, 0), 0, 0)), (42, (.aload_n 0, 1, (0, 0, 0), 0, 0)), (43, (.ldc 173, 2, (1, 31, 0), 0, 1799)), (45, (.invokevirtual 112, 3, (0, 238, 0), 0, 1732)), (48, (.ifCond .eq 8, 3, (56, 0, 0), 0, 0)), (51, (.aload_n 0, 1, (0, 0, 0), 0, 0)), (52, (.invokevirtual 175, 3, (0, 251, 0), 0, 1800)), (55, (.ireturn, 1, (0, 0, 0), 0, 0)), (56, (.aload_n 0, 1, (0, 0, 0), 0, 0)), (57, (.ldc 178, 2, (1, 32, 0), 0, 1817)), (59, (.invokevirtual 112, 3, (0, 238, 0), 0, 1732)), (62, (.ifCond .eq 8, 3, (70, 0, 0), 0, 0))],
  [(65, (.aload_n 0, 1, (0, 0, 0), 0, 0)), (66, (.invokevirtual 180, 3, (0, 252, 0), 0, 1818)), (69, (.ireturn, 1, (0, 0, 0), 0, 0)), (70, (.aload_n 0, 1, (0, 0, 0), 0, 0)), (71, (.ldc 183, 2, (1, 33, 0), 0, 1822)), (73, (.invokevirtual 112, 3, (0, 238, 0), 0, 1732)), (76, (.ifCond .eq 8, 3, (84, 0, 0), 0, 0)), (79, (.aload_n 0, 1, (0, 0, 0), 0, 0)), (80, (.invokevirtual 185, 3, (0, 253, 0), 0, 1823)), (83, (.ireturn, 1, (0, 0, 0), 0, 0)), (84, (.aload_n 0, 1, (0, 0, 0), 0, 0)), (85, (.ldc 188, 2, (1, 34, 0), 0, 1827)), (87, (.invokevirtual 112, 3, (0, 238, 0), 0, 1732)), (90, (.ifCond .eq 11, 3, (101, 0, 0), 0, 0)), (93, (.aload_n 0, 1, (0, 0, 0), 0, 0)), (94, (.iconst 1, 1, (0, 0, 0), 1, 0)), (95, (.bipush 100, 2, (0, 0, 0), 100, 0))],
  [(97, (.invokevirtual 190, 3, (0, 254, 0), 0, 1828)), (100, (.ireturn, 1, (0, 0, 0), 0, 0)), (101, (.aload_n 0, 1, (0, 0, 0), 0, 0)), (102, (.ldc 193, 2, (1, 35, 0), 0, 1832)), (104, (.invokevirtual 112, 3, (0, 238, 0), 0, 1732)), (107, (.ifCond .eq 11, 3, (118, 0, 0), 0, 0)), (110, (.aload_n 0, 1, (0, 0, 0), 0, 0)), (111, (.iconst 2, 1, (0, 0, 0), 2, 0)), (112, (.bipush 99, 2, (0, 0, 0), 99, 0)), (114, (.invokevirtual 190, 3, (0, 254, 0), 0, 1828)), (117, (.ireturn, 1, (0, 0, 0), 0, 0)), (118, (.aload_n 0, 1, (0, 0, 0), 0, 0)), (119, (.ldc 195, 2, (1, 36, 0), 0, 1833)), (121, (.invokevirtual 112, 3, (0, 238, 0), 0, 1732)), (124, (.ifCond .ne 5, 3, (129, 0, 0), 0, 0)), (127, (.iconst 0, 1, (0, 0, 0), 0, 0))],
  [(128, (.ireturn, 1, (0, 0, 0), 0, 0)), (129, (.aload_n 0, 1, (0, 0, 0), 0, 0)), (130, (.getfield 13, 3, (12, 1, 0), 0, 1618)), (133, (.bipush 9, 2, (0, 0, 0), 9, 0)), (135, (.aload_n 0, 1, (0, 0, 0), 0, 0)), (136, (.iconst 0, 1, (0, 0, 0), 0, 0)), (137, (.ldc 197, 2, (0, 0, 0), 99999, 1834)), (139, (.invokevirtual 130, 3, (0, 242, 0), 0, 1755)), (142, (.iastore, 1, (0, 0, 0), 0, 0)), (143, (.aload_n 0, 1, (0, 0, 0), 0, 0)), (144, (.getfield 13, 3, (12, 1, 0), 0, 1618)), (147, (.bipush 9, 2, (0, 0, 0), 9, 0)), (149, (.iaload, 1, (0, 0, 0), 0, 0)), (150, (.ifCond .lt 7, 3, (157, 0, 0), 0, 0)), (153, (.iconst 1, 1, (0, 0, 0), 1, 0)), (154, (.goto 4, 3, (158, 0, 0), 0, 0)), (157, (.iconst 0, 1, (0, 0, 0), 0, 0)), (158, (.ireturn, 1, (0, 0, 0), 0, 0))]]
set_option maxRecDepth 10000 in
def zp256 : List (List (Nat × ZI)) := [[(0, (.aload_n 0, 1, (0, 0, 0), 0, 0)), (1, (.getfield 13, 3, (12, 1, 0), 0, 1618)), (4, (.sipush 1675, 3, (0, 0, 0), 1675, 0)), (7, (.iconst 2, 1, (0, 0, 0), 2, 0)), (8, (.aload_n 0, 1, (0, 0, 0), 0, 0)), (9, (.getfield 198, 3, (12, 16, 0), 0, 1633)), (12, (.imul, 1, (0, 0, 0), 0, 0)), (13, (.iadd, 1, (0, 0, 0), 0, 0)), (14, (.iload_n 1, 1, (0, 0, 0), 0, 0)), (15, (.iastore, 1, (0, 0, 0), 0, 0)), (16, (.aload_n 0, 1, (0, 0, 0), 0, 0)), (17, (.getfield 13, 3, (12, 1, 0), 0, 1618)), (20, (.sipush 1675, 3, (0, 0, 0), 1675, 0)), (23, (.iconst 2, 1, (0, 0, 0), 2, 0)), (24, (.aload_n 0, 1, (0, 0, 0), 0, 0)), (25, (.getfield 198, 3, (12, 16, 0), 0, 1633)), (28, (.imul, 1, (0, 0, 0), 0, 0)), (29, (.iadd, 1, (0, 0, 0), 0, 0)), (30, (.iconst 1, 1, (0, 0, 0), 1, 0)), (31, (.iadd, 1, (0, 0, 0), 0, 0))],
  [(32, (.iload_n 2, 1, (0, 0, 0), 0, 0)), (33, (.iastore, 1, (0, 0, 0), 0, 0)), (34, (.aload_n 0, 1, (0, 0, 0), 0, 0)), (35, (.dup, 1, (0, 0, 0), 0, 0)), (36, (.getfield 198, 3, (12, 16, 0), 0, 1633)), (39, (.iconst 1, 1, (0, 0, 0), 1, 0)), (40, (.iadd, 1, (0, 0, 0), 0, 0)), (41, (.putfield 198, 3, (12, 16, 0), 0, 1633)), (44, (.return_, 1, (0, 0, 0), 0, 0))]]
set_option maxRecDepth 10000 in
def zp257 : List (List (Nat × ZI)) := [[(0, (.aload_n 0, 1, (0, 0, 0), 0, 0)), (1, (.invokevirtual 109, 3, (0, 237, 0), 0, 1723)), (4, (.aload_n 0, 1, (0, 0, 0), 0, 0)), (5, (.getfield 84, 3, (12, 10, 0), 0, 1627)), (8, (.aload_n 0, 1, (0, 0, 0), 0, 0)), (9, (.getfield 94, 3, (12, 12, 0), 0, 1629)), (12, (.if_icmp .ne 23, 3, (35, 0, 0), 0, 0)), (15, (.aload_n 0, 1, (0, 0, 0), 0, 0)), (16, (.iconst 0, 1, (0, 0, 0), 0, 0)), (17, (.sipush 999, 3, (0, 0, 0), 999, 0)), (20, (.iconst 3, 1, (0, 0, 0), 3, 0)), (21, (.invokevirtual 116, 3, (0, 241, 0), 0, 1759)), (24, (.istore_n 1, 1, (0, 0, 0), 0, 0)), (25, (.aload_n 0, 1, (0, 0, 0), 0, 0)), (26, (.bipush 8, 2, (0, 0, 0), 8, 0)), (28, (.iload_n 1, 1, (0, 0, 0), 0, 0)), (29, (.invokevirtual 201, 3, (0, 256, 0), 0, 1865))],
  [(32, (.goto 89, 3, (121, 0, 0), 0, 0)), (35, (.aload_n 0, 1, (0, 0, 0), 0, 0)), (36, (.ldc 168, 2, (1, 30, 0), 0, 1775)), (38, (.invokevirtual 112, 3, (0, 238, 0), 0, 1732)), (41, (.ifCond .eq 7, 3, (48, 0, 0), 0, 0)), (44, (.iconst 0, 1, (0, 0, 0), 0, 0)), (45, (.goto 69, 3, (114, 0, 0), 0, 0)), (48, (.aload_n 0, 1, (0, 0, 0), 0, 0)), (49, (.ldc 157, 2, (1, 23, 0), 0, 1731)), (51, (.invokevirtual 112, 3, (0, 238, 0), 0, 1732)), (54, (.ifCond .eq 7, 3, (61, 0, 0), 0, 0)), (57, (.iconst 1, 1, (0, 0, 0), 1, 0)), (58, (.goto 56, 3, (114, 0, 0), 0, 0)), (61, (.aload_n 0, 1, (0, 0, 0), 0, 0)), (62, (.ldc 173, 2, (1, 31, 0), 0, 1799))],
  [(64, (.invokevirtual 112, 3, (0, 238, 0), 0, 1732)), (67, (.ifCond .eq 7, 3, (74, 0, 0), 0, 0)), (70, (.iconst 2, 1, (0, 0, 0), 2, 0)), (71, (.goto 43, 3, (114, 0, 0), 0, 0)), (74, (.aload_n 0, 1, (0, 0, 0), 0, 0)), (75, (.ldc 205, 2, (1, 43, 0), 0, 1881)), (77, (.invokevirtual 112, 3, (0, 238, 0), 0, 1732)), (80, (.ifCond .eq 7, 3, (87, 0, 0), 0, 0)), (83, (.iconst 3, 1, (0, 0, 0), 3, 0)), (84, (.goto 30, 3, (114, 0, 0), 0, 0)), (87, (.aload_n 0, 1, (0, 0, 0), 0, 0)), (88, (.ldc 207, 2, (1, 44, 0), 0, 1882)), (90, (.invokevirtual 112, 3, (0, 238, 0), 0, 1732)), (93, (.ifCond .eq 7, 3, (100, 0, 0), 0, 0))],
  [(96, (.iconst 4, 1, (0, 0, 0), 4, 0)), (97, (.goto 17, 3, (114, 0, 0), 0, 0)), (100, (.aload_n 0, 1, (0, 0, 0), 0, 0)), (101, (.ldc 209, 2, (1, 45, 0), 0, 1883)), (103, (.invokevirtual 112, 3, (0, 238, 0), 0, 1732)), (106, (.ifCond .eq 7, 3, (113, 0, 0), 0, 0)), (109, (.iconst 5, 1, (0, 0, 0), 5, 0)), (110, (.goto 4, 3, (114, 0, 0), 0, 0)), (113, (.iconst (-1), 1, (0, 0, 0), (-1), 0)), (114, (.istore_n 1, 1, (0, 0, 0), 0, 0)), (115, (.aload_n 0, 1, (0, 0, 0), 0, 0)), (116, (.iload_n 1, 1, (0, 0, 0), 0, 0)), (117, (.iconst 0, 1, (0, 0, 0), 0, 0)), (118, (.invokevirtual 201, 3, (0, 256, 0), 0, 1865)), (121, (.iload_n 1, 1, (0, 0, 0), 0, 0)), (122, (.ifCond .lt 7, 3, (129, 0, 0), 0, 0)), (125, (.iconst 1, 1, (0, 0, 0), 1, 0)), (126, (.goto 4, 3, (130, 0, 0), 0, 0))],
  [(129, (.iconst 0, 1, (0, 0, 0), 0, 0)), (130, (.ireturn, 1, (0, 0, 0), 0, 0))]]
set_option maxRecDepth 10000 in
def zp258 : List (List (Nat × ZI)) := [[(0, (.aload_n 0, 1, (0, 0, 0), 0, 0)), (1, (.invokevirtual 211, 3, (0, 257, 0), 0, 1877)), (4, (.ifCond .ne 5, 3, (9, 0, 0), 0, 0)), (7, (.iconst 0, 1, (0, 0, 0), 0, 0)), (8, (.ireturn, 1, (0, 0, 0), 0, 0)), (9, (.aload_n 0, 1, (0, 0, 0), 0, 0)), (10, (.bipush 43, 2, (0, 0, 0), 43, 0)), (12, (.invokevirtual 214, 3, (0, 240, 0), 0, 1860)), (15, (.ifCond .eq 22, 3, (37, 0, 0), 0, 0)), (18, (.aload_n 0, 1, (0, 0, 0), 0, 0)), (19, (.invokevirtual 211, 3, (0, 257, 0), 0, 1877)), (22, (.ifCond .ne 5, 3, (27, 0, 0), 0, 0)), (25, (.iconst 0, 1, (0, 0, 0), 0, 0)), (26, (.ireturn, 1, (0, 0, 0), 0, 0)), (27, (.aload_n 0, 1, (0, 0, 0), 0, 0)), (28, (.bipush 9, 2, (0, 0, 0), 9, 0)), (30, (.iconst 0, 1, (0, 0, 0), 0, 0)), (31, (.invokevirtual 201, 3, (0, 256, 0), 0, 1865))],
  [(34, (.goto (-25), 3, (9, 0, 0), 0, 0)), (37, (.iconst 1, 1, (0, 0, 0), 1, 0)), (38, (.ireturn, 1, (0, 0, 0), 0, 0))]]
set_option maxRecDepth 10000 in
def zp259 : List (List (Nat × ZI)) := [[(0, (.aload_n 0, 1, (0, 0, 0), 0, 0)), (1, (.invokevirtual 109, 3, (0, 237, 0), 0, 1723)), (4, (.aload_n 0, 1, (0, 0, 0), 0, 0)), (5, (.invokevirtual 133, 3, (0, 243, 0), 0, 1746)), (8, (.istore_n 1, 1, (0, 0, 0), 0, 0)), (9, (.iload_n 1, 1, (0, 0, 0), 0, 0)), (10, (.ifCond .lt 8, 3, (18, 0, 0), 0, 0)), (13, (.bipush 6, 2, (0, 0, 0), 6, 0)), (15, (.goto 18, 3, (33, 0, 0), 0, 0)), (18, (.aload_n 0, 1, (0, 0, 0), 0, 0)), (19, (.ldc 193, 2, (1, 35, 0), 0, 1832)), (21, (.invokevirtual 112, 3, (0, 238, 0), 0, 1732)), (24, (.ifCond .eq 8, 3, (32, 0, 0), 0, 0)), (27, (.bipush 7, 2, (0, 0, 0), 7, 0)), (29, (.goto 4, 3, (33, 0, 0), 0, 0))],
  [(32, (.iconst (-1), 1, (0, 0, 0), (-1), 0)), (33, (.istore_n 2, 1, (0, 0, 0), 0, 0)), (34, (.iload_n 2, 1, (0, 0, 0), 0, 0)), (35, (.ifCond .lt 12, 3, (47, 0, 0), 0, 0)), (38, (.aload_n 0, 1, (0, 0, 0), 0, 0)), (39, (.iload_n 2, 1, (0, 0, 0), 0, 0)), (40, (.iload_n 1, 1, (0, 0, 0), 0, 0)), (41, (.invokevirtual 201, 3, (0, 256, 0), 0, 1865)), (44, (.goto 11, 3, (55, 0, 0), 0, 0)), (47, (.aload_n 0, 1, (0, 0, 0), 0, 0)), (48, (.aload_n 0, 1, (0, 0, 0), 0, 0)), (49, (.getfield 94, 3, (12, 12, 0), 0, 1629)), (52, (.putfield 84, 3, (12, 10, 0), 0, 1627)), (55, (.iload_n 2, 1, (0, 0, 0), 0, 0)), (56, (.ifCond .lt 7, 3, (63, 0, 0), 0, 0)), (59, (.iconst 1, 1, (0, 0, 0), 1, 0)), (60, (.goto 4, 3, (64, 0, 0), 0, 0)), (63, (.iconst 0, 1, (0, 0, 0), 0, 0))],
  [(64, (.ireturn, 1, (0, 0, 0), 0, 0))]]
set_option maxRecDepth 10000 in
def zp260 : List (List (Nat × ZI)) := [[(0, (.aload_n 0, 1, (0, 0, 0), 0, 0)), (1, (.bipush 40, 2, (0, 0, 0), 40, 0)), (3, (.invokevirtual 214, 3, (0, 240, 0), 0, 1860)), (6, (.ifCond .eq 50, 3, (56, 0, 0), 0, 0)), (9, (.aload_n 0, 1, (0, 0, 0), 0, 0)), (10, (.getfield 218, 3, (12, 13, 0), 0, 1630)), (13, (.bipush 6, 2, (0, 0, 0), 6, 0)), (15, (.if_icmp .ne 5, 3, (20, 0, 0), 0, 0)), (18, (.iconst 0, 1, (0, 0, 0), 0, 0)), (19, (.ireturn, 1, (0, 0, 0), 0, 0)), (20, (.aload_n 0, 1, (0, 0, 0), 0, 0)), (21, (.dup, 1, (0, 0, 0), 0, 0)), (22, (.getfield 218, 3, (12, 13, 0), 0, 1630)), (25, (.iconst 1, 1, (0, 0, 0), 1, 0)), (26, (.iadd, 1, (0, 0, 0), 0, 0)), (27, (.putfield 218, 3, (12, 13, 0), 0, 1630)), (30, (.aload_n 0, 1, (0, 0, 0), 0, 0)), (31, (.invokevirtual 221, 3, (0, 262, 0), 0, 1848))],
  [(34, (.ifCond .ne 5, 3, (39, 0, 0), 0, 0)), (37, (.iconst 0, 1, (0, 0, 0), 0, 0)), (38, (.ireturn, 1, (0, 0, 0), 0, 0)), (39, (.aload_n 0, 1, (0, 0, 0), 0, 0)), (40, (.dup, 1, (0, 0, 0), 0, 0)), (41, (.getfield 218, 3, (12, 13, 0), 0, 1630)), (44, (.iconst 1, 1, (0, 0, 0), 1, 0)), (45, (.isub, 1, (0, 0, 0), 0, 0)), (46, (.putfield 218, 3, (12, 13, 0), 0, 1630)), (49, (.aload_n 0, 1, (0, 0, 0), 0, 0)), (50, (.bipush 41, 2, (0, 0, 0), 41, 0)), (52, (.invokevirtual 214, 3, (0, 240, 0), 0, 1860)), (55, (.ireturn, 1, (0, 0, 0), 0, 0)), (56, (.aload_n 0, 1, (0, 0, 0), 0, 0)), (57, (.ldc 224, 2, (1, 42, 0), 0, 1864)), (59, (.invokevirtual 226, 3, (0, 239, 0), 0, 1844)), (62, (.ifCond .eq 52, 3, (114, 0, 0), 0, 0))],
  [(65, (.aload_n 0, 1, (0, 0, 0), 0, 0)), (66, (.getfield 218, 3, (12, 13, 0), 0, 1630)), (69, (.bipush 6, 2, (0, 0, 0), 6, 0)), (71, (.if_icmp .ne 5, 3, (76, 0, 0), 0, 0)), (74, (.iconst 0, 1, (0, 0, 0), 0, 0)), (75, (.ireturn, 1, (0, 0, 0), 0, 0)), (76, (.aload_n 0, 1, (0, 0, 0), 0, 0)), (77, (.dup, 1, (0, 0, 0), 0, 0)), (78, (.getfield 218, 3, (12, 13, 0), 0, 1630)), (81, (.iconst 1, 1, (0, 0, 0), 1, 0)), (82, (.iadd, 1, (0, 0, 0), 0, 0)), (83, (.putfield 218, 3, (12, 13, 0), 0, 1630)), (86, (.aload_n 0, 1, (0, 0, 0), 0, 0)), (87, (.invokevirtual 229, 3, (0, 260, 0), 0, 1856)), (90, (.ifCond .ne 5, 3, (95, 0, 0), 0, 0)), (93, (.iconst 0, 1, (0, 0, 0), 0, 0)), (94, (.ireturn, 1, (0, 0, 0), 0, 0)), (95, (.aload_n 0, 1, (0, 0, 0), 0, 0))],
  [(96, (.dup, 1, (0, 0, 0), 0, 0)), (97, (.getfield 218, 3, (12, 13, 0), 0, 1630)), (100, (.iconst 1, 1, (0, 0, 0), 1, 0)), (101, (.isub, 1, (0, 0, 0), 0, 0)), (102, (.putfield 218, 3, (12, 13, 0), 0, 1630)), (105, (.aload_n 0, 1, (0, 0, 0), 0, 0)), (106, (.bipush 12, 2, (0, 0, 0), 12, 0)), (108, (.iconst 0, 1, (0, 0, 0), 0, 0)), (109, (.invokevirtual 201, 3, (0, 256, 0), 0, 1865)), (112, (.iconst 1, 1, (0, 0, 0), 1, 0)), (113, (.ireturn, 1, (0, 0, 0), 0, 0)), (114, (.aload_n 0, 1, (0, 0, 0), 0, 0)), (115, (.invokevirtual 232, 3, (0, 259, 0), 0, 1869)), (118, (.ifCond .eq 5, 3, (123, 0, 0), 0, 0)), (121, (.iconst 1, 1, (0, 0, 0), 1, 0)), (122, (.ireturn, 1, (0, 0, 0), 0, 0)), (123, (.aload_n 0, 1, (0, 0, 0), 0, 0)), (124, (.invokevirtual 235, 3, (0, 258, 0), 0, 1873)), (127, (.ifCond .ne 5, 3, (132, 0, 0), 0, 0))],
  [(130, (.iconst 0, 1, (0, 0, 0), 0, 0)), (131, (.ireturn, 1, (0, 0, 0), 0, 0)), (132, (.aload_n 0, 1, (0, 0, 0), 0, 0)), (133, (.bipush 60, 2, (0, 0, 0), 60, 0)), (135, (.invokevirtual 214, 3, (0, 240, 0), 0, 1860)), (138, (.istore_n 1, 1, (0, 0, 0), 0, 0)), (139, (.iload_n 1, 1, (0, 0, 0), 0, 0)), (140, (.ifCond .ne 12, 3, (152, 0, 0), 0, 0)), (143, (.aload_n 0, 1, (0, 0, 0), 0, 0)), (144, (.bipush 62, 2, (0, 0, 0), 62, 0)), (146, (.invokevirtual 214, 3, (0, 240, 0), 0, 1860)), (149, (.ifCond .eq 10, 3, (159, 0, 0), 0, 0)), (152, (.aload_n 0, 1, (0, 0, 0), 0, 0)), (153, (.invokevirtual 235, 3, (0, 258, 0), 0, 1873)), (156, (.ifCond .ne 5, 3, (161, 0, 0), 0, 0)), (159, (.iconst 0, 1, (0, 0, 0), 0, 0))],
  [(160, (.ireturn, 1, (0, 0, 0), 0, 0)), (161, (.aload_n 0, 1, (0, 0, 0), 0, 0)), (162, (.iload_n 1, 1, (0, 0, 0), 0, 0)), (163, (.ifCond .eq 8, 3, (171, 0, 0), 0, 0)), (166, (.bipush 10, 2, (0, 0, 0), 10, 0)), (168, (.goto 5, 3, (173, 0, 0), 0, 0)), (171, (.bipush 11, 2, (0, 0, 0), 11, 0)), (173, (.iconst 0, 1, (0, 0, 0), 0, 0)), (174, (.invokevirtual 201, 3, (0, 256, 0), 0, 1865)), (177, (.iconst 1, 1, (0, 0, 0), 1, 0)), (178, (.ireturn, 1, (0, 0, 0), 0, 0))]]
set_option maxRecDepth 10000 in
def zp261 : List (List (Nat × ZI)) := [[(0, (.aload_n 0, 1, (0, 0, 0), 0, 0)), (1, (.invokevirtual 229, 3, (0, 260, 0), 0, 1856)), (4, (.ifCond .ne 5, 3, (9, 0, 0), 0, 0)), (7, (.iconst 0, 1, (0, 0, 0), 0, 0)), (8, (.ireturn, 1, (0, 0, 0), 0, 0)), (9, (.aload_n 0, 1, (0, 0, 0), 0, 0)), (10, (.ldc 238, 2, (1, 46, 0), 0, 1884)), (12, (.invokevirtual 226, 3, (0, 239, 0), 0, 1844)), (15, (.ifCond .eq 22, 3, (37, 0, 0), 0, 0)), (18, (.aload_n 0, 1, (0, 0, 0), 0, 0)), (19, (.invokevirtual 229, 3, (0, 260, 0), 0, 1856)), (22, (.ifCond .ne 5, 3, (27, 0, 0), 0, 0)), (25, (.iconst 0, 1, (0, 0, 0), 0, 0)), (26, (.ireturn, 1, (0, 0, 0), 0, 0)), (27, (.aload_n 0, 1, (0, 0, 0), 0, 0)), (28, (.bipush 13, 2, (0, 0, 0), 13, 0)), (30, (.iconst 0, 1, (0, 0, 0), 0, 0)), (31, (.invokevirtual 201, 3, (0, 256, 0), 0, 1865))],
  [(34, (.goto (-25), 3, (9, 0, 0), 0, 0)), (37, (.iconst 1, 1, (0, 0, 0), 1, 0)), (38, (.ireturn, 1, (0, 0, 0), 0, 0))]]
set_option maxRecDepth 10000 in
def zp262 : List (List (Nat × ZI)) := [[(0, (.aload_n 0, 1, (0, 0, 0), 0, 0)), (1, (.invokevirtual 240, 3, (0, 261, 0), 0, 1852)), (4, (.ifCond .ne 5, 3, (9, 0, 0), 0, 0)), (7, (.iconst 0, 1, (0, 0, 0), 0, 0)), (8, (.ireturn, 1, (0, 0, 0), 0, 0)), (9, (.aload_n 0, 1, (0, 0, 0), 0, 0)), (10, (.ldc 243, 2, (1, 47, 0), 0, 1885)), (12, (.invokevirtual 226, 3, (0, 239, 0), 0, 1844)), (15, (.ifCond .eq 22, 3, (37, 0, 0), 0, 0)), (18, (.aload_n 0, 1, (0, 0, 0), 0, 0)), (19, (.invokevirtual 240, 3, (0, 261, 0), 0, 1852)), (22, (.ifCond .ne 5, 3, (27, 0, 0), 0, 0)), (25, (.iconst 0, 1, (0, 0, 0), 0, 0)), (26, (.ireturn, 1, (0, 0, 0), 0, 0)), (27, (.aload_n 0, 1, (0, 0, 0), 0, 0)), (28, (.bipush 14, 2, (0, 0, 0), 14, 0)), (30, (.iconst 0, 1, (0, 0, 0), 0, 0)), (31, (.invokevirtual 201, 3, (0, 256, 0), 0, 1865))],
  [(34, (.goto (-25), 3, (9, 0, 0), 0, 0)), (37, (.iconst 1, 1, (0, 0, 0), 1, 0)), (38, (.ireturn, 1, (0, 0, 0), 0, 0))]]
set_option maxRecDepth 10000 in
def zp263 : List (List (Nat × ZI)) := [[(0, (.sipush 1627, 3, (0, 0, 0), 1627, 0)), (3, (.iconst 4, 1, (0, 0, 0), 4, 0)), (4, (.iload_n 1, 1, (0, 0, 0), 0, 0)), (5, (.imul, 1, (0, 0, 0), 0, 0)), (6, (.iadd, 1, (0, 0, 0), 0, 0)), (7, (.istore_n 2, 1, (0, 0, 0), 0, 0)), (8, (.aload_n 0, 1, (0, 0, 0), 0, 0)), (9, (.getfield 13, 3, (12, 1, 0), 0, 1618)), (12, (.iload_n 2, 1, (0, 0, 0), 0, 0)), (13, (.aload_n 0, 1, (0, 0, 0), 0, 0)), (14, (.ldc 245, 2, (1, 37, 0), 0, 1839)), (16, (.invokevirtual 112, 3, (0, 238, 0), 0, 1732)), (19, (.ifCond .eq 7, 3, (26, 0, 0), 0, 0)), (22, (.iconst 0, 1, (0, 0, 0), 0, 0)), (23, (.goto 43, 3, (66, 0, 0), 0, 0)), (26, (.aload_n 0, 1, (0, 0, 0), 0, 0)), (27, (.ldc 247, 2, (1, 38, 0), 0, 1840)), (29, (.invokevirtual 112, 3, (0, 238, 0), 0, 1732))],
  [(32, (.ifCond .eq 7, 3, (39, 0, 0), 0, 0)), (35, (.iconst 1, 1, (0, 0, 0), 1, 0)), (36, (.goto 30, 3, (66, 0, 0), 0, 0)), (39, (.aload_n 0, 1, (0, 0, 0), 0, 0)), (40, (.ldc 249, 2, (1, 39, 0), 0, 1841)), (42, (.invokevirtual 112, 3, (0, 238, 0), 0, 1732)), (45, (.ifCond .eq 7, 3, (52, 0, 0), 0, 0)), (48, (.iconst 2, 1, (0, 0, 0), 2, 0)), (49, (.goto 17, 3, (66, 0, 0), 0, 0)), (52, (.aload_n 0, 1, (0, 0, 0), 0, 0)), (53, (.ldc 251, 2, (1, 40, 0), 0, 1842)), (55, (.invokevirtual 112, 3, (0, 238, 0), 0, 1732)), (58, (.ifCond .eq 7, 3, (65, 0, 0), 0, 0)), (61, (.iconst 3, 1, (0, 0, 0), 3, 0)), (62, (.goto 4, 3, (66, 0, 0), 0, 0))],
  [(65, (.iconst (-1), 1, (0, 0, 0), (-1), 0)), (66, (.iastore, 1, (0, 0, 0), 0, 0)), (67, (.aload_n 0, 1, (0, 0, 0), 0, 0)), (68, (.getfield 13, 3, (12, 1, 0), 0, 1618)), (71, (.iload_n 2, 1, (0, 0, 0), 0, 0)), (72, (.iaload, 1, (0, 0, 0), 0, 0)), (73, (.ifCond .ge 5, 3, (78, 0, 0), 0, 0)), (76, (.iconst 0, 1, (0, 0, 0), 0, 0)), (77, (.ireturn, 1, (0, 0, 0), 0, 0)), (78, (.aload_n 0, 1, (0, 0, 0), 0, 0)), (79, (.getfield 13, 3, (12, 1, 0), 0, 1618)), (82, (.iload_n 2, 1, (0, 0, 0), 0, 0)), (83, (.iconst 1, 1, (0, 0, 0), 1, 0)), (84, (.iadd, 1, (0, 0, 0), 0, 0)), (85, (.aload_n 0, 1, (0, 0, 0), 0, 0)), (86, (.iconst 0, 1, (0, 0, 0), 0, 0)), (87, (.sipush 999, 3, (0, 0, 0), 999, 0)), (90, (.iconst 3, 1, (0, 0, 0), 3, 0)), (91, (.invokevirtual 116, 3, (0, 241, 0), 0, 1759)), (94, (.iastore, 1, (0, 0, 0), 0, 0)), (95, (.aload_n 0, 1, (0, 0, 0), 0, 0))],
  [(96, (.getfield 13, 3, (12, 1, 0), 0, 1618)), (99, (.iload_n 2, 1, (0, 0, 0), 0, 0)), (100, (.iconst 1, 1, (0, 0, 0), 1, 0)), (101, (.iadd, 1, (0, 0, 0), 0, 0)), (102, (.iaload, 1, (0, 0, 0), 0, 0)), (103, (.ifCond .ge 5, 3, (108, 0, 0), 0, 0)), (106, (.iconst 0, 1, (0, 0, 0), 0, 0)), (107, (.ireturn, 1, (0, 0, 0), 0, 0)), (108, (.aload_n 0, 1, (0, 0, 0), 0, 0)), (109, (.getfield 13, 3, (12, 1, 0), 0, 1618)), (112, (.iload_n 2, 1, (0, 0, 0), 0, 0)), (113, (.iconst 2, 1, (0, 0, 0), 2, 0)), (114, (.iadd, 1, (0, 0, 0), 0, 0)), (115, (.aload_n 0, 1, (0, 0, 0), 0, 0)), (116, (.getfield 198, 3, (12, 16, 0), 0, 1633)), (119, (.iastore, 1, (0, 0, 0), 0, 0)), (120, (.aload_n 0, 1, (0, 0, 0), 0, 0)), (121, (.iconst 0, 1, (0, 0, 0), 0, 0)), (122, (.putfield 218, 3, (12, 13, 0), 0, 1630)), (125, (.aload_n 0, 1, (0, 0, 0), 0, 0)), (126, (.ldc 253, 2, (1, 41, 0), 0, 1843))],
  [(128, (.invokevirtual 226, 3, (0, 239, 0), 0, 1844)), (131, (.ifCond .eq 12, 3, (143, 0, 0), 0, 0)), (134, (.aload_n 0, 1, (0, 0, 0), 0, 0)), (135, (.invokevirtual 221, 3, (0, 262, 0), 0, 1848)), (138, (.ifCond .ne 5, 3, (143, 0, 0), 0, 0)), (141, (.iconst 0, 1, (0, 0, 0), 0, 0)), (142, (.ireturn, 1, (0, 0, 0), 0, 0)), (143, (.aload_n 0, 1, (0, 0, 0), 0, 0)), (144, (.getfield 13, 3, (12, 1, 0), 0, 1618)), (147, (.iload_n 2, 1, (0, 0, 0), 0, 0)), (148, (.iconst 3, 1, (0, 0, 0), 3, 0)), (149, (.iadd, 1, (0, 0, 0), 0, 0)), (150, (.aload_n 0, 1, (0, 0, 0), 0, 0)), (151, (.getfield 198, 3, (12, 16, 0), 0, 1633)), (154, (.iastore, 1, (0, 0, 0), 0, 0)), (155, (.iconst 1, 1, (0, 0, 0), 1, 0)), (156, (.ireturn, 1, (0, 0, 0), 0, 0))]]
set_option maxRecDepth 10000 in
def zp264 : List (List (Nat × ZI)) := [[(0, (.aload_n 0, 1, (0, 0, 0), 0, 0)), (1, (.invokevirtual 109, 3, (0, 237, 0), 0, 1723)), (4, (.iload_n 2, 1, (0, 0, 0), 0, 0)), (5, (.iload_n 1, 1, (0, 0, 0), 0, 0)), (6, (.ifCond .eq 8, 3, (14, 0, 0), 0, 0)), (9, (.bipush 14, 2, (0, 0, 0), 14, 0)), (11, (.goto 5, 3, (16, 0, 0), 0, 0)), (14, (.bipush 12, 2, (0, 0, 0), 12, 0)), (16, (.if_icmp .ge 29, 3, (45, 0, 0), 0, 0)), (19, (.iload_n 1, 1, (0, 0, 0), 0, 0)), (20, (.ifCond .eq 13, 3, (33, 0, 0), 0, 0)), (23, (.aload_n 0, 1, (0, 0, 0), 0, 0)), (24, (.invokevirtual 255, 3, (0, 255, 0), 0, 1727)), (27, (.ifCond .eq 18, 3, (45, 0, 0), 0, 0)), (30, (.goto 11, 3, (41, 0, 0), 0, 0))],
  [(33, (.aload_n 0, 1, (0, 0, 0), 0, 0)), (34, (.iload_n 2, 1, (0, 0, 0), 0, 0)), (35, (.invokevirtual 258, 3, (0, 263, 0), 0, 1835)), (38, (.ifCond .eq 7, 3, (45, 0, 0), 0, 0)), (41, (.iconst 1, 1, (0, 0, 0), 1, 0)), (42, (.goto 4, 3, (46, 0, 0), 0, 0)), (45, (.iconst 0, 1, (0, 0, 0), 0, 0)), (46, (.ireturn, 1, (0, 0, 0), 0, 0))]]
set_option maxRecDepth 10000 in
def zp265 : List (List (Nat × ZI)) := [[(0, (.aload_n 0, 1, (0, 0, 0), 0, 0)), (1, (.invokevirtual 261, 3, (0, 245, 0), 0, 1707)), (4, (.aload_n 0, 1, (0, 0, 0), 0, 0)), (5, (.iconst 0, 1, (0, 0, 0), 0, 0)), (6, (.putfield 198, 3, (12, 16, 0), 0, 1633)), (9, (.aload_n 0, 1, (0, 0, 0), 0, 0)), (10, (.invokevirtual 97, 3, (0, 236, 0), 0, 1711)), (13, (.aload_n 0, 1, (0, 0, 0), 0, 0)), (14, (.getfield 84, 3, (12, 10, 0), 0, 1627)), (17, (.aload_n 0, 1, (0, 0, 0), 0, 0)), (18, (.getfield 87, 3, (12, 11, 0), 0, 1628)), (21, (.if_icmp .ne 5, 3, (26, 0, 0), 0, 0)), (24, (.iconst 0, 1, (0, 0, 0), 0, 0)), (25, (.ireturn, 1, (0, 0, 0), 0, 0)), (26, (.iconst 0, 1, (0, 0, 0), 0, 0)), (27, (.istore_n 2, 1, (0, 0, 0), 0, 0)), (28, (.aload_n 0, 1, (0, 0, 0), 0, 0)), (29, (.iload_n 1, 1, (0, 0, 0), 0, 0)), (30, (.iload_n 2, 1, (0, 0, 0), 0, 0)), (31, (.invokevirtual 264, 3, (0, 264, 0), 0, 1719))],
  [(34, (.ifCond .ne 5, 3, (39, 0, 0), 0, 0)), (37, (.iconst (-1), 1, (0, 0, 0), (-1), 0)), (38, (.ireturn, 1, (0, 0, 0), 0, 0)), (39, (.aload_n 0, 1, (0, 0, 0), 0, 0)), (40, (.invokevirtual 97, 3, (0, 236, 0), 0, 1711)), (43, (.aload_n 0, 1, (0, 0, 0), 0, 0)), (44, (.getfield 84, 3, (12, 10, 0), 0, 1627)), (47, (.aload_n 0, 1, (0, 0, 0), 0, 0)), (48, (.getfield 87, 3, (12, 11, 0), 0, 1628)), (51, (.if_icmp .ne 7, 3, (58, 0, 0), 0, 0)), (54, (.iload_n 2, 1, (0, 0, 0), 0, 0)), (55, (.iconst 1, 1, (0, 0, 0), 1, 0)), (56, (.iadd, 1, (0, 0, 0), 0, 0)), (57, (.ireturn, 1, (0, 0, 0), 0, 0)), (58, (.aload_n 0, 1, (0, 0, 0), 0, 0)), (59, (.bipush 59, 2, (0, 0, 0), 59, 0)), (61, (.bipush 59, 2, (0, 0, 0), 59, 0)), (63, (.invokevirtual 90, 3, (0, 235, 0), 0, 1715))],
  [(66, (.ifCond .ne 5, 3, (71, 0, 0), 0, 0)), (69, (.iconst (-1), 1, (0, 0, 0), (-1), 0)), (70, (.ireturn, 1, (0, 0, 0), 0, 0)), (71, (.aload_n 0, 1, (0, 0, 0), 0, 0)), (72, (.dup, 1, (0, 0, 0), 0, 0)), (73, (.getfield 84, 3, (12, 10, 0), 0, 1627)), (76, (.iconst 1, 1, (0, 0, 0), 1, 0)), (77, (.iadd, 1, (0, 0, 0), 0, 0)), (78, (.putfield 84, 3, (12, 10, 0), 0, 1627)), (81, (.iinc 2 1, 3, (0, 0, 0), 1, 0)), (84, (.goto (-56), 3, (28, 0, 0), 0, 0))]]
set_option maxRecDepth 10000 in
def zp266 : List (List (Nat × ZI)) := [[(0, (.iconst 0, 1, (0, 0, 0), 0, 0)), (1, (.istore_n 1, 1, (0, 0, 0), 0, 0)), (2, (.iload_n 1, 1, (0, 0, 0), 0, 0)), (3, (.sipush 1626, 3, (0, 0, 0), 1626, 0)), (6, (.if_icmp .ge 21, 3, (27, 0, 0), 0, 0)), (9, (.aload_n 0, 1, (0, 0, 0), 0, 0)), (10, (.getfield 20, 3, (12, 3, 0), 0, 1620)), (13, (.iload_n 1, 1, (0, 0, 0), 0, 0)), (14, (.aload_n 0, 1, (0, 0, 0), 0, 0)), (15, (.getfield 13, 3, (12, 1, 0), 0, 1618)), (18, (.iload_n 1, 1, (0, 0, 0), 0, 0)), (19, (.iaload, 1, (0, 0, 0), 0, 0)), (20, (.iastore, 1, (0, 0, 0), 0, 0)), (21, (.iinc 1 1, 3, (0, 0, 0), 1, 0)), (24, (.goto (-22), 3, (2, 0, 0), 0, 0)), (27, (.aload_n 0, 1, (0, 0, 0), 0, 0)), (28, (.iconst 1, 1, (0, 0, 0), 1, 0)), (29, (.invokevirtual 268, 3, (0, 265, 0), 0, 1703))],
  [(32, (.istore_n 1, 1, (0, 0, 0), 0, 0)), (33, (.aload_n 0, 1, (0, 0, 0), 0, 0)), (34, (.iload_n 1, 1, (0, 0, 0), 0, 0)), (35, (.ifCond .ge 10, 3, (45, 0, 0), 0, 0)), (38, (.aload_n 0, 1, (0, 0, 0), 0, 0)), (39, (.getfield 94, 3, (12, 12, 0), 0, 1629)), (42, (.goto 4, 3, (46, 0, 0), 0, 0)), (45, (.iconst (-1), 1, (0, 0, 0), (-1), 0)), (46, (.putfield 33, 3, (12, 14, 0), 0, 1631)), (49, (.aload_n 0, 1, (0, 0, 0), 0, 0)), (50, (.iload_n 1, 1, (0, 0, 0), 0, 0)), (51, (.ifCond .ge 7, 3, (58, 0, 0), 0, 0)), (54, (.iconst 1, 1, (0, 0, 0), 1, 0)), (55, (.goto 4, 3, (59, 0, 0), 0, 0)), (58, (.iconst 0, 1, (0, 0, 0), 0, 0)), (59, (.iconst 1, 1, (0, 0, 0), 1, 0)), (60, (.invokevirtual 272, 3, (0, 209, 0), 0, 1886)), (63, (.ifCond .ne 27, 3, (90, 0, 0), 0, 0))],
  [(66, (.aload_n 0, 1, (0, 0, 0), 0, 0)), (67, (.aload_n 0, 1, (0, 0, 0), 0, 0)), (68, (.getfield 13, 3, (12, 1, 0), 0, 1618)), (71, (.iconst 3, 1, (0, 0, 0), 3, 0)), (72, (.iaload, 1, (0, 0, 0), 0, 0)), (73, (.bipush 12, 2, (0, 0, 0), 12, 0)), (75, (.if_icmp .ne 7, 3, (82, 0, 0), 0, 0)), (78, (.iconst 1, 1, (0, 0, 0), 1, 0)), (79, (.goto 4, 3, (83, 0, 0), 0, 0)), (82, (.iconst 0, 1, (0, 0, 0), 0, 0)), (83, (.iconst 2, 1, (0, 0, 0), 2, 0)), (84, (.invokevirtual 272, 3, (0, 209, 0), 0, 1886)), (87, (.ifCond .eq 32, 3, (119, 0, 0), 0, 0)), (90, (.iconst 0, 1, (0, 0, 0), 0, 0)), (91, (.istore_n 2, 1, (0, 0, 0), 0, 0)), (92, (.iload_n 2, 1, (0, 0, 0), 0, 0)), (93, (.sipush 1626, 3, (0, 0, 0), 1626, 0))],
  [(96, (.if_icmp .ge 21, 3, (117, 0, 0), 0, 0)), (99, (.aload_n 0, 1, (0, 0, 0), 0, 0)), (100, (.getfield 13, 3, (12, 1, 0), 0, 1618)), (103, (.iload_n 2, 1, (0, 0, 0), 0, 0)), (104, (.aload_n 0, 1, (0, 0, 0), 0, 0)), (105, (.getfield 20, 3, (12, 3, 0), 0, 1620)), (108, (.iload_n 2, 1, (0, 0, 0), 0, 0)), (109, (.iaload, 1, (0, 0, 0), 0, 0)), (110, (.iastore, 1, (0, 0, 0), 0, 0)), (111, (.iinc 2 1, 3, (0, 0, 0), 1, 0)), (114, (.goto (-22), 3, (92, 0, 0), 0, 0)), (117, (.iconst 0, 1, (0, 0, 0), 0, 0)), (118, (.ireturn, 1, (0, 0, 0), 0, 0)), (119, (.aload_n 0, 1, (0, 0, 0), 0, 0)), (120, (.getfield 13, 3, (12, 1, 0), 0, 1618)), (123, (.iconst 3, 1, (0, 0, 0), 3, 0)), (124, (.dup2, 1, (0, 0, 0), 0, 0)), (125, (.iaload, 1, (0, 0, 0), 0, 0)), (126, (.iconst 1, 1, (0, 0, 0), 1, 0)), (127, (.iadd, 1, (0, 0, 0), 0, 0))],
  [(128, (.iastore, 1, (0, 0, 0), 0, 0)), (129, (.aload_n 0, 1, (0, 0, 0), 0, 0)), (130, (.iconst 0, 1, (0, 0, 0), 0, 0)), (131, (.putfield 49, 3, (12, 7, 0), 0, 1624)), (134, (.aload_n 0, 1, (0, 0, 0), 0, 0)), (135, (.getfield 13, 3, (12, 1, 0), 0, 1618)), (138, (.iconst 3, 1, (0, 0, 0), 3, 0)), (139, (.iaload, 1, (0, 0, 0), 0, 0)), (140, (.ireturn, 1, (0, 0, 0), 0, 0))]]
set_option maxRecDepth 10000 in
def zp267 : List (List (Nat × ZI)) := [[(0, (.aload_n 0, 1, (0, 0, 0), 0, 0)), (1, (.iconst 0, 1, (0, 0, 0), 0, 0)), (2, (.invokevirtual 268, 3, (0, 265, 0), 0, 1703)), (5, (.istore_n 1, 1, (0, 0, 0), 0, 0)), (6, (.aload_n 0, 1, (0, 0, 0), 0, 0)), (7, (.iload_n 1, 1, (0, 0, 0), 0, 0)), (8, (.ifCond .ge 10, 3, (18, 0, 0), 0, 0)), (11, (.aload_n 0, 1, (0, 0, 0), 0, 0)), (12, (.getfield 94, 3, (12, 12, 0), 0, 1629)), (15, (.goto 4, 3, (19, 0, 0), 0, 0)), (18, (.iconst (-1), 1, (0, 0, 0), (-1), 0)), (19, (.putfield 33, 3, (12, 14, 0), 0, 1631)), (22, (.aload_n 0, 1, (0, 0, 0), 0, 0)), (23, (.iload_n 1, 1, (0, 0, 0), 0, 0)), (24, (.ifCond .ge 7, 3, (31, 0, 0), 0, 0)), (27, (.iconst 1, 1, (0, 0, 0), 1, 0)), (28, (.goto 4, 3, (32, 0, 0), 0, 0)), (31, (.iconst 0, 1, (0, 0, 0), 0, 0))],
  [(32, (.iconst 1, 1, (0, 0, 0), 1, 0)), (33, (.invokevirtual 272, 3, (0, 209, 0), 0, 1886)), (36, (.ifCond .eq 5, 3, (41, 0, 0), 0, 0)), (39, (.iconst 0, 1, (0, 0, 0), 0, 0)), (40, (.ireturn, 1, (0, 0, 0), 0, 0)), (41, (.aload_n 0, 1, (0, 0, 0), 0, 0)), (42, (.getfield 13, 3, (12, 1, 0), 0, 1618)), (45, (.sipush 1626, 3, (0, 0, 0), 1626, 0)), (48, (.iload_n 1, 1, (0, 0, 0), 0, 0)), (49, (.iastore, 1, (0, 0, 0), 0, 0)), (50, (.iconst 0, 1, (0, 0, 0), 0, 0)), (51, (.istore_n 2, 1, (0, 0, 0), 0, 0)), (52, (.iload_n 2, 1, (0, 0, 0), 0, 0)), (53, (.sipush 849, 3, (0, 0, 0), 849, 0)), (56, (.if_icmp .ge 29, 3, (85, 0, 0), 0, 0)), (59, (.aload_n 0, 1, (0, 0, 0), 0, 0)), (60, (.getfield 13, 3, (12, 1, 0), 0, 1618)), (63, (.sipush 777, 3, (0, 0, 0), 777, 0))],
  [(66, (.iload_n 2, 1, (0, 0, 0), 0, 0)), (67, (.iadd, 1, (0, 0, 0), 0, 0)), (68, (.aload_n 0, 1, (0, 0, 0), 0, 0)), (69, (.getfield 13, 3, (12, 1, 0), 0, 1618)), (72, (.sipush 1626, 3, (0, 0, 0), 1626, 0)), (75, (.iload_n 2, 1, (0, 0, 0), 0, 0)), (76, (.iadd, 1, (0, 0, 0), 0, 0)), (77, (.iaload, 1, (0, 0, 0), 0, 0)), (78, (.iastore, 1, (0, 0, 0), 0, 0)), (79, (.iinc 2 1, 3, (0, 0, 0), 1, 0)), (82, (.goto (-30), 3, (52, 0, 0), 0, 0)), (85, (.aload_n 0, 1, (0, 0, 0), 0, 0)), (86, (.getfield 13, 3, (12, 1, 0), 0, 1618)), (89, (.iconst 4, 1, (0, 0, 0), 4, 0)), (90, (.iconst 1, 1, (0, 0, 0), 1, 0)), (91, (.iastore, 1, (0, 0, 0), 0, 0)), (92, (.aload_n 0, 1, (0, 0, 0), 0, 0)), (93, (.iconst 0, 1, (0, 0, 0), 0, 0)), (94, (.putfield 49, 3, (12, 7, 0), 0, 1624))],
  [(97, (.iload_n 1, 1, (0, 0, 0), 0, 0)), (98, (.ireturn, 1, (0, 0, 0), 0, 0))]]
set_option maxRecDepth 10000 in
def zp268 : List (List (Nat × ZI)) := [[(0, (.iload_n 1, 1, (0, 0, 0), 0, 0)), (1, (.tableswitch 126 0 7 #[47, 49, 52, 67, 74, 81, 89, 106], 47, (8, 0, 0), 0, 0))],
  [(48, (.iload_n 3, 1, (0, 0, 0), 0, 0)), (49, (.ireturn, 1, (0, 0, 0), 0, 0)), (50, (.iload 4, 2, (0, 0, 0), 0, 0)), (52, (.ireturn, 1, (0, 0, 0), 0, 0)), (53, (.iload 5, 2, (0, 0, 0), 0, 0)), (55, (.ifCond .eq 7, 3, (62, 0, 0), 0, 0)), (58, (.iconst 0, 1, (0, 0, 0), 0, 0)), (59, (.goto 8, 3, (67, 0, 0), 0, 0)), (62, (.aload_n 0, 1, (0, 0, 0), 0, 0)), (63, (.iload_n 3, 1, (0, 0, 0), 0, 0))],
  [(64, (.invokevirtual 149, 3, (0, 227, 0), 0, 1808)), (67, (.ireturn, 1, (0, 0, 0), 0, 0)), (68, (.aload_n 0, 1, (0, 0, 0), 0, 0)), (69, (.iload 4, 2, (0, 0, 0), 0, 0)), (71, (.invokevirtual 275, 3, (0, 226, 0), 0, 1909)), (74, (.ireturn, 1, (0, 0, 0), 0, 0)), (75, (.aload_n 0, 1, (0, 0, 0), 0, 0)), (76, (.getfield 13, 3, (12, 1, 0), 0, 1618)), (79, (.iconst 5, 1, (0, 0, 0), 5, 0)), (80, (.iaload, 1, (0, 0, 0), 0, 0)), (81, (.ireturn, 1, (0, 0, 0), 0, 0)), (82, (.aload_n 0, 1, (0, 0, 0), 0, 0)), (83, (.iload 4, 2, (0, 0, 0), 0, 0)), (85, (.iconst 2, 1, (0, 0, 0), 2, 0)), (86, (.invokevirtual 77, 3, (0, 221, 0), 0, 1905)), (89, (.ireturn, 1, (0, 0, 0), 0, 0)), (90, (.aload_n 0, 1, (0, 0, 0), 0, 0)), (91, (.iload 4, 2, (0, 0, 0), 0, 0)), (93, (.iconst 0, 1, (0, 0, 0), 0, 0)), (94, (.invokevirtual 77, 3, (0, 221, 0), 0, 1905))],
  [(97, (.iload_n 2, 1, (0, 0, 0), 0, 0)), (98, (.if_icmp .ne 7, 3, (105, 0, 0), 0, 0)), (101, (.iconst 1, 1, (0, 0, 0), 1, 0)), (102, (.goto 4, 3, (106, 0, 0), 0, 0)), (105, (.iconst 0, 1, (0, 0, 0), 0, 0)), (106, (.ireturn, 1, (0, 0, 0), 0, 0)), (107, (.iload 5, 2, (0, 0, 0), 0, 0)), (109, (.ifCond .ne 16, 3, (125, 0, 0), 0, 0)), (112, (.aload_n 0, 1, (0, 0, 0), 0, 0)), (113, (.iload_n 3, 1, (0, 0, 0), 0, 0)), (114, (.iconst 2, 1, (0, 0, 0), 2, 0)), (115, (.invokevirtual 59, 3, (0, 222, 0), 0, 1791)), (118, (.ifCond .le 7, 3, (125, 0, 0), 0, 0)), (121, (.iconst 1, 1, (0, 0, 0), 1, 0)), (122, (.goto 4, 3, (126, 0, 0), 0, 0)), (125, (.iconst 0, 1, (0, 0, 0), 0, 0)), (126, (.ireturn, 1, (0, 0, 0), 0, 0)), (127, (.iload_n 2, 1, (0, 0, 0), 0, 0))],
  [(128, (.ireturn, 1, (0, 0, 0), 0, 0))]]
set_option maxRecDepth 10000 in
def zp269 : List (List (Nat × ZI)) := [[(0, (.iconst 0, 1, (0, 0, 0), 0, 0)), (1, (.istore 5, 2, (0, 0, 0), 0, 0)), (3, (.sipush 778, 3, (0, 0, 0), 778, 0)), (6, (.iconst 4, 1, (0, 0, 0), 4, 0)), (7, (.iload_n 1, 1, (0, 0, 0), 0, 0)), (8, (.imul, 1, (0, 0, 0), 0, 0)), (9, (.iadd, 1, (0, 0, 0), 0, 0)), (10, (.istore 6, 2, (0, 0, 0), 0, 0)), (12, (.aload_n 0, 1, (0, 0, 0), 0, 0)), (13, (.getfield 13, 3, (12, 1, 0), 0, 1618)), (16, (.iload 6, 2, (0, 0, 0), 0, 0)), (18, (.iconst 2, 1, (0, 0, 0), 2, 0)), (19, (.iadd, 1, (0, 0, 0), 0, 0)), (20, (.iaload, 1, (0, 0, 0), 0, 0)), (21, (.istore 7, 2, (0, 0, 0), 0, 0)), (23, (.iload 7, 2, (0, 0, 0), 0, 0)), (25, (.aload_n 0, 1, (0, 0, 0), 0, 0)), (26, (.getfield 13, 3, (12, 1, 0), 0, 1618)), (29, (.iload 6, 2, (0, 0, 0), 0, 0)), (31, (.iconst 3, 1, (0, 0, 0), 3, 0))],
  [(32, (.iadd, 1, (0, 0, 0), 0, 0)), (33, (.iaload, 1, (0, 0, 0), 0, 0)), (34, (.if_icmp .ge 239, 3, (273, 0, 0), 0, 0)), (37, (.aload_n 0, 1, (0, 0, 0), 0, 0)), (38, (.getfield 13, 3, (12, 1, 0), 0, 1618)), (41, (.sipush 826, 3, (0, 0, 0), 826, 0)), (44, (.iconst 2, 1, (0, 0, 0), 2, 0)), (45, (.iload 7, 2, (0, 0, 0), 0, 0)), (47, (.imul, 1, (0, 0, 0), 0, 0)), (48, (.iadd, 1, (0, 0, 0), 0, 0)), (49, (.iaload, 1, (0, 0, 0), 0, 0)), (50, (.istore 8, 2, (0, 0, 0), 0, 0)), (52, (.iload 8, 2, (0, 0, 0), 0, 0)), (54, (.bipush 8, 2, (0, 0, 0), 8, 0)), (56, (.if_icmp .gt 41, 3, (97, 0, 0), 0, 0)), (59, (.aload_n 0, 1, (0, 0, 0), 0, 0)), (60, (.getfield 39, 3, (12, 17, 0), 0, 1634)), (63, (.iload 5, 2, (0, 0, 0), 0, 0))],
  [(65, (.aload_n 0, 1, (0, 0, 0), 0, 0)), (66, (.iload 8, 2, (0, 0, 0), 0, 0)), (68, (.aload_n 0, 1, (0, 0, 0), 0, 0)), (69, (.getfield 13, 3, (12, 1, 0), 0, 1618)), (72, (.sipush 826, 3, (0, 0, 0), 826, 0)), (75, (.iconst 2, 1, (0, 0, 0), 2, 0)), (76, (.iload 7, 2, (0, 0, 0), 0, 0)), (78, (.imul, 1, (0, 0, 0), 0, 0)), (79, (.iadd, 1, (0, 0, 0), 0, 0)), (80, (.iconst 1, 1, (0, 0, 0), 1, 0)), (81, (.iadd, 1, (0, 0, 0), 0, 0)), (82, (.iaload, 1, (0, 0, 0), 0, 0)), (83, (.iload_n 2, 1, (0, 0, 0), 0, 0)), (84, (.iload_n 3, 1, (0, 0, 0), 0, 0)), (85, (.iload 4, 2, (0, 0, 0), 0, 0)), (87, (.invokevirtual 277, 3, (0, 268, 0), 0, 1933)), (90, (.iastore, 1, (0, 0, 0), 0, 0)), (91, (.iinc 5 1, 3, (0, 0, 0), 1, 0)), (94, (.goto 173, 3, (267, 0, 0), 0, 0))],
  [(97, (.iload 8, 2, (0, 0, 0), 0, 0)), (99, (.bipush 12, 2, (0, 0, 0), 12, 0)), (101, (.if_icmp .ne 26, 3, (127, 0, 0), 0, 0)), (104, (.aload_n 0, 1, (0, 0, 0), 0, 0)), (105, (.getfield 39, 3, (12, 17, 0), 0, 1634)), (108, (.iload 5, 2, (0, 0, 0), 0, 0)), (110, (.iconst 1, 1, (0, 0, 0), 1, 0)), (111, (.isub, 1, (0, 0, 0), 0, 0)), (112, (.iconst 1, 1, (0, 0, 0), 1, 0)), (113, (.aload_n 0, 1, (0, 0, 0), 0, 0)), (114, (.getfield 39, 3, (12, 17, 0), 0, 1634)), (117, (.iload 5, 2, (0, 0, 0), 0, 0)), (119, (.iconst 1, 1, (0, 0, 0), 1, 0)), (120, (.isub, 1, (0, 0, 0), 0, 0)), (121, (.iaload, 1, (0, 0, 0), 0, 0)), (122, (.isub, 1, (0, 0, 0), 0, 0)), (123, (.iastore, 1, (0, 0, 0), 0, 0)), (124, (.goto 143, 3, (267, 0, 0), 0, 0)), (127, (.iinc 5 (-1), 3, (0, 0, 0), (-1), 0))],
  [(130, (.aload_n 0, 1, (0, 0, 0), 0, 0)), (131, (.getfield 39, 3, (12, 17, 0), 0, 1634)), (134, (.iload 5, 2, (0, 0, 0), 0, 0)), (136, (.iconst 1, 1, (0, 0, 0), 1, 0)), (137, (.isub, 1, (0, 0, 0), 0, 0)), (138, (.iaload, 1, (0, 0, 0), 0, 0)), (139, (.istore 9, 2, (0, 0, 0), 0, 0)), (141, (.aload_n 0, 1, (0, 0, 0), 0, 0)), (142, (.getfield 39, 3, (12, 17, 0), 0, 1634)), (145, (.iload 5, 2, (0, 0, 0), 0, 0)), (147, (.iaload, 1, (0, 0, 0), 0, 0)), (148, (.istore 10, 2, (0, 0, 0), 0, 0)), (150, (.iload 8, 2, (0, 0, 0), 0, 0)), (152, (.bipush 10, 2, (0, 0, 0), 10, 0)), (154, (.if_icmp .ne 18, 3, (172, 0, 0), 0, 0)), (157, (.iload 9, 2, (0, 0, 0), 0, 0)), (159, (.iload 10, 2, (0, 0, 0), 0, 0))],
  [(161, (.if_icmp .ge 7, 3, (168, 0, 0), 0, 0)), (164, (.iconst 1, 1, (0, 0, 0), 1, 0)), (165, (.goto 66, 3, (231, 0, 0), 0, 0)), (168, (.iconst 0, 1, (0, 0, 0), 0, 0)), (169, (.goto 62, 3, (231, 0, 0), 0, 0)), (172, (.iload 8, 2, (0, 0, 0), 0, 0)), (174, (.bipush 11, 2, (0, 0, 0), 11, 0)), (176, (.if_icmp .ne 18, 3, (194, 0, 0), 0, 0)), (179, (.iload 9, 2, (0, 0, 0), 0, 0)), (181, (.iload 10, 2, (0, 0, 0), 0, 0)), (183, (.if_icmp .le 7, 3, (190, 0, 0), 0, 0)), (186, (.iconst 1, 1, (0, 0, 0), 1, 0)), (187, (.goto 44, 3, (231, 0, 0), 0, 0)), (190, (.iconst 0, 1, (0, 0, 0), 0, 0)), (191, (.goto 40, 3, (231, 0, 0), 0, 0))],
  [(194, (.iload 8, 2, (0, 0, 0), 0, 0)), (196, (.bipush 13, 2, (0, 0, 0), 13, 0)), (198, (.if_icmp .ne 20, 3, (218, 0, 0), 0, 0)), (201, (.iload 9, 2, (0, 0, 0), 0, 0)), (203, (.iload 10, 2, (0, 0, 0), 0, 0)), (205, (.iadd, 1, (0, 0, 0), 0, 0)), (206, (.iconst 2, 1, (0, 0, 0), 2, 0)), (207, (.if_icmp .ne 7, 3, (214, 0, 0), 0, 0)), (210, (.iconst 1, 1, (0, 0, 0), 1, 0)), (211, (.goto 20, 3, (231, 0, 0), 0, 0)), (214, (.iconst 0, 1, (0, 0, 0), 0, 0)), (215, (.goto 16, 3, (231, 0, 0), 0, 0)), (218, (.iload 9, 2, (0, 0, 0), 0, 0)), (220, (.iload 10, 2, (0, 0, 0), 0, 0)), (222, (.iadd, 1, (0, 0, 0), 0, 0)), (223, (.ifCond .le 7, 3, (230, 0, 0), 0, 0))],
  [(226, (.iconst 1, 1, (0, 0, 0), 1, 0)), (227, (.goto 4, 3, (231, 0, 0), 0, 0)), (230, (.iconst 0, 1, (0, 0, 0), 0, 0)), (231, (.istore 11, 2, (0, 0, 0), 0, 0)), (233, (.aload_n 0, 1, (0, 0, 0), 0, 0)), (234, (.getfield 39, 3, (12, 17, 0), 0, 1634)), (237, (.iload 5, 2, (0, 0, 0), 0, 0)), (239, (.iconst 1, 1, (0, 0, 0), 1, 0)), (240, (.isub, 1, (0, 0, 0), 0, 0)), (241, (.iload 8, 2, (0, 0, 0), 0, 0)), (243, (.bipush 9, 2, (0, 0, 0), 9, 0)), (245, (.if_icmp .ne 11, 3, (256, 0, 0), 0, 0)), (248, (.iload 9, 2, (0, 0, 0), 0, 0)), (250, (.iload 10, 2, (0, 0, 0), 0, 0)), (252, (.iadd, 1, (0, 0, 0), 0, 0)), (253, (.goto 13, 3, (266, 0, 0), 0, 0))],
  [(256, (.iload 11, 2, (0, 0, 0), 0, 0)), (258, (.ifCond .eq 7, 3, (265, 0, 0), 0, 0)), (261, (.iconst 1, 1, (0, 0, 0), 1, 0)), (262, (.goto 4, 3, (266, 0, 0), 0, 0)), (265, (.iconst 0, 1, (0, 0, 0), 0, 0)), (266, (.iastore, 1, (0, 0, 0), 0, 0)), (267, (.iinc 7 1, 3, (0, 0, 0), 1, 0)), (270, (.goto (-247), 3, (23, 0, 0), 0, 0)), (273, (.iload 5, 2, (0, 0, 0), 0, 0)), (275, (.ifCond .eq 13, 3, (288, 0, 0), 0, 0)), (278, (.aload_n 0, 1, (0, 0, 0), 0, 0)), (279, (.getfield 39, 3, (12, 17, 0), 0, 1634)), (282, (.iconst 0, 1, (0, 0, 0), 0, 0)), (283, (.iaload, 1, (0, 0, 0), 0, 0)), (284, (.iconst 1, 1, (0, 0, 0), 1, 0)), (285, (.if_icmp .ne 7, 3, (292, 0, 0), 0, 0))],
  [(288, (.iconst 1, 1, (0, 0, 0), 1, 0)), (289, (.goto 4, 3, (293, 0, 0), 0, 0)), (292, (.iconst 0, 1, (0, 0, 0), 0, 0)), (293, (.ireturn, 1, (0, 0, 0), 0, 0))]]
set_option maxRecDepth 10000 in
def zp270 : List (List (Nat × ZI)) := [[(0, (.aload_n 0, 1, (0, 0, 0), 0, 0)), (1, (.getfield 13, 3, (12, 1, 0), 0, 1618)), (4, (.iconst 4, 1, (0, 0, 0), 4, 0)), (5, (.iaload, 1, (0, 0, 0), 0, 0)), (6, (.ifCond .ne 47, 3, (53, 0, 0), 0, 0)), (9, (.iload_n 1, 1, (0, 0, 0), 0, 0)), (10, (.ifCond .ne 21, 3, (31, 0, 0), 0, 0)), (13, (.aload_n 0, 1, (0, 0, 0), 0, 0)), (14, (.iload_n 3, 1, (0, 0, 0), 0, 0)), (15, (.iconst 0, 1, (0, 0, 0), 0, 0)), (16, (.invokevirtual 77, 3, (0, 221, 0), 0, 1905)), (19, (.ifCond .ne 8, 3, (27, 0, 0), 0, 0)), (22, (.bipush 50, 2, (0, 0, 0), 50, 0)), (24, (.goto 28, 3, (52, 0, 0), 0, 0)), (27, (.iconst 0, 1, (0, 0, 0), 0, 0)), (28, (.goto 24, 3, (52, 0, 0), 0, 0)), (31, (.iload_n 1, 1, (0, 0, 0), 0, 0))],
  [(32, (.iconst 1, 1, (0, 0, 0), 1, 0)), (33, (.if_icmp .ne 8, 3, (41, 0, 0), 0, 0)), (36, (.bipush 20, 2, (0, 0, 0), 20, 0)), (38, (.goto 14, 3, (52, 0, 0), 0, 0)), (41, (.iload_n 1, 1, (0, 0, 0), 0, 0)), (42, (.iconst 2, 1, (0, 0, 0), 2, 0)), (43, (.if_icmp .ne 7, 3, (50, 0, 0), 0, 0)), (46, (.iconst 5, 1, (0, 0, 0), 5, 0)), (47, (.goto 5, 3, (52, 0, 0), 0, 0)), (50, (.bipush 50, 2, (0, 0, 0), 50, 0)), (52, (.ireturn, 1, (0, 0, 0), 0, 0)), (53, (.iconst 0, 1, (0, 0, 0), 0, 0)), (54, (.istore 4, 2, (0, 0, 0), 0, 0)), (56, (.iconst 0, 1, (0, 0, 0), 0, 0)), (57, (.istore 5, 2, (0, 0, 0), 0, 0)), (59, (.iload 5, 2, (0, 0, 0), 0, 0)), (61, (.aload_n 0, 1, (0, 0, 0), 0, 0)), (62, (.getfield 13, 3, (12, 1, 0), 0, 1618))],
  [(65, (.sipush 777, 3, (0, 0, 0), 777, 0)), (68, (.iaload, 1, (0, 0, 0), 0, 0)), (69, (.if_icmp .ge 71, 3, (140, 0, 0), 0, 0)), (72, (.iload 4, 2, (0, 0, 0), 0, 0)), (74, (.aload_n 0, 1, (0, 0, 0), 0, 0)), (75, (.getfield 13, 3, (12, 1, 0), 0, 1618)), (78, (.sipush 778, 3, (0, 0, 0), 778, 0)), (81, (.iconst 4, 1, (0, 0, 0), 4, 0)), (82, (.iload 5, 2, (0, 0, 0), 0, 0)), (84, (.imul, 1, (0, 0, 0), 0, 0)), (85, (.iadd, 1, (0, 0, 0), 0, 0)), (86, (.iaload, 1, (0, 0, 0), 0, 0)), (87, (.iload_n 1, 1, (0, 0, 0), 0, 0)), (88, (.if_icmp .ne 42, 3, (130, 0, 0), 0, 0)), (91, (.aload_n 0, 1, (0, 0, 0), 0, 0)), (92, (.iload 5, 2, (0, 0, 0), 0, 0)), (94, (.iload_n 2, 1, (0, 0, 0), 0, 0)), (95, (.iload_n 3, 1, (0, 0, 0), 0, 0))],
  [(96, (.iload_n 1, 1, (0, 0, 0), 0, 0)), (97, (.iconst 3, 1, (0, 0, 0), 3, 0)), (98, (.if_icmp .ne 7, 3, (105, 0, 0), 0, 0)), (101, (.iconst 1, 1, (0, 0, 0), 1, 0)), (102, (.goto 4, 3, (106, 0, 0), 0, 0)), (105, (.iconst 0, 1, (0, 0, 0), 0, 0)), (106, (.invokevirtual 281, 3, (0, 269, 0), 0, 1929)), (109, (.ifCond .eq 21, 3, (130, 0, 0), 0, 0)), (112, (.aload_n 0, 1, (0, 0, 0), 0, 0)), (113, (.getfield 13, 3, (12, 1, 0), 0, 1618)), (116, (.sipush 778, 3, (0, 0, 0), 778, 0)), (119, (.iconst 4, 1, (0, 0, 0), 4, 0)), (120, (.iload 5, 2, (0, 0, 0), 0, 0)), (122, (.imul, 1, (0, 0, 0), 0, 0)), (123, (.iadd, 1, (0, 0, 0), 0, 0)), (124, (.iconst 1, 1, (0, 0, 0), 1, 0)), (125, (.iadd, 1, (0, 0, 0), 0, 0)), (126, (.iaload, 1, (0, 0, 0), 0, 0)), (127, (.goto 4, 3, (131, 0, 0), 0, 0))],
  [(130, (.iconst 0, 1, (0, 0, 0), 0, 0)), (131, (.iadd, 1, (0, 0, 0), 0, 0)), (132, (.istore 4, 2, (0, 0, 0), 0, 0)), (134, (.iinc 5 1, 3, (0, 0, 0), 1, 0)), (137, (.goto (-78), 3, (59, 0, 0), 0, 0)), (140, (.iload_n 1, 1, (0, 0, 0), 0, 0)), (141, (.ifCond .ne 9, 3, (150, 0, 0), 0, 0)), (144, (.sipush 200, 3, (0, 0, 0), 200, 0)), (147, (.goto 5, 3, (152, 0, 0), 0, 0)), (150, (.bipush 100, 2, (0, 0, 0), 100, 0)), (152, (.iload 4, 2, (0, 0, 0), 0, 0)), (154, (.invokestatic 152, 3, (2, 0, 0), 0, 1816)), (157, (.ireturn, 1, (0, 0, 0), 0, 0))]]
set_option maxRecDepth 10000 in
def zp271 : List (List (Nat × ZI)) := [[(0, (.iconst 0, 1, (0, 0, 0), 0, 0)), (1, (.istore_n 2, 1, (0, 0, 0), 0, 0)), (2, (.iconst 0, 1, (0, 0, 0), 0, 0)), (3, (.istore_n 3, 1, (0, 0, 0), 0, 0)), (4, (.iload_n 3, 1, (0, 0, 0), 0, 0)), (5, (.aload_n 0, 1, (0, 0, 0), 0, 0)), (6, (.invokevirtual 74, 3, (0, 218, 0), 0, 1780)), (9, (.if_icmp .ge 28, 3, (37, 0, 0), 0, 0)), (12, (.iload_n 2, 1, (0, 0, 0), 0, 0)), (13, (.aload_n 0, 1, (0, 0, 0), 0, 0)), (14, (.iload_n 3, 1, (0, 0, 0), 0, 0)), (15, (.invokevirtual 285, 3, (0, 224, 0), 0, 1917)), (18, (.iload_n 1, 1, (0, 0, 0), 0, 0)), (19, (.if_icmp .ne 9, 3, (28, 0, 0), 0, 0)), (22, (.iconst 1, 1, (0, 0, 0), 1, 0)), (23, (.iload_n 3, 1, (0, 0, 0), 0, 0)), (24, (.ishl, 1, (0, 0, 0), 0, 0)), (25, (.goto 4, 3, (29, 0, 0), 0, 0)), (28, (.iconst 0, 1, (0, 0, 0), 0, 0)), (29, (.ior, 1, (0, 0, 0), 0, 0)), (30, (.istore_n 2, 1, (0, 0, 0), 0, 0)), (31, (.iinc 3 1, 3, (0, 0, 0), 1, 0))],
  [(34, (.goto (-30), 3, (4, 0, 0), 0, 0)), (37, (.iload_n 2, 1, (0, 0, 0), 0, 0)), (38, (.ireturn, 1, (0, 0, 0), 0, 0))]]
set_option maxRecDepth 10000 in
def zp272 : List (List (Nat × ZI)) := [[(0, (.iconst 0, 1, (0, 0, 0), 0, 0)), (1, (.istore_n 2, 1, (0, 0, 0), 0, 0)), (2, (.iconst 0, 1, (0, 0, 0), 0, 0)), (3, (.istore_n 3, 1, (0, 0, 0), 0, 0)), (4, (.iload_n 3, 1, (0, 0, 0), 0, 0)), (5, (.aload_n 0, 1, (0, 0, 0), 0, 0)), (6, (.invokevirtual 66, 3, (0, 217, 0), 0, 1742)), (9, (.if_icmp .ge 28, 3, (37, 0, 0), 0, 0)), (12, (.iload_n 2, 1, (0, 0, 0), 0, 0)), (13, (.aload_n 0, 1, (0, 0, 0), 0, 0)), (14, (.iload_n 1, 1, (0, 0, 0), 0, 0)), (15, (.iload_n 3, 1, (0, 0, 0), 0, 0)), (16, (.invokevirtual 143, 3, (0, 231, 0), 0, 1795)), (19, (.ifCond .eq 9, 3, (28, 0, 0), 0, 0)), (22, (.iconst 1, 1, (0, 0, 0), 1, 0)), (23, (.iload_n 3, 1, (0, 0, 0), 0, 0)), (24, (.ishl, 1, (0, 0, 0), 0, 0)), (25, (.goto 4, 3, (29, 0, 0), 0, 0)), (28, (.iconst 0, 1, (0, 0, 0), 0, 0)), (29, (.ior, 1, (0, 0, 0), 0, 0)), (30, (.istore_n 2, 1, (0, 0, 0), 0, 0)), (31, (.iinc 3 1, 3, (0, 0, 0), 1, 0))],
  [(34, (.goto (-30), 3, (4, 0, 0), 0, 0)), (37, (.iload_n 2, 1, (0, 0, 0), 0, 0)), (38, (.ireturn, 1, (0, 0, 0), 0, 0))]]
set_option maxRecDepth 10000 in
def zp273 : List (List (Nat × ZI)) := [[(0, (.aload_n 0, 1, (0, 0, 0), 0, 0)), (1, (.iconst 0, 1, (0, 0, 0), 0, 0)), (2, (.putfield 3, 3, (12, 0, 0), 0, 1617)), (5, (.aload_n 0, 1, (0, 0, 0), 0, 0)), (6, (.aload_n 0, 1, (0, 0, 0), 0, 0)), (7, (.iload_n 1, 1, (0, 0, 0), 0, 0)), (8, (.invokevirtual 288, 3, (0, 228, 0), 0, 1898)), (11, (.iconst 1, 1, (0, 0, 0), 1, 0)), (12, (.invokevirtual 272, 3, (0, 209, 0), 0, 1886)), (15, (.ifCond .ne 26, 3, (41, 0, 0), 0, 0)), (18, (.aload_n 0, 1, (0, 0, 0), 0, 0)), (19, (.iload_n 2, 1, (0, 0, 0), 0, 0)), (20, (.iconst 0, 1, (0, 0, 0), 0, 0)), (21, (.bipush 6, 2, (0, 0, 0), 6, 0)), (23, (.invokestatic 70, 3, (0, 210, 0), 0, 1902)), (26, (.ifCond .ne 7, 3, (33, 0, 0), 0, 0)), (29, (.iconst 1, 1, (0, 0, 0), 1, 0)), (30, (.goto 4, 3, (34, 0, 0), 0, 0))],
  [(33, (.iconst 0, 1, (0, 0, 0), 0, 0)), (34, (.iconst 2, 1, (0, 0, 0), 2, 0)), (35, (.invokevirtual 272, 3, (0, 209, 0), 0, 1886)), (38, (.ifCond .eq 5, 3, (43, 0, 0), 0, 0)), (41, (.iconst 0, 1, (0, 0, 0), 0, 0)), (42, (.ireturn, 1, (0, 0, 0), 0, 0)), (43, (.iload_n 2, 1, (0, 0, 0), 0, 0)), (44, (.iconst 3, 1, (0, 0, 0), 3, 0)), (45, (.if_icmp .ge 10, 3, (55, 0, 0), 0, 0)), (48, (.aload_n 0, 1, (0, 0, 0), 0, 0)), (49, (.iload_n 1, 1, (0, 0, 0), 0, 0)), (50, (.iload_n 2, 1, (0, 0, 0), 0, 0)), (51, (.invokevirtual 77, 3, (0, 221, 0), 0, 1905)), (54, (.ireturn, 1, (0, 0, 0), 0, 0)), (55, (.iload_n 2, 1, (0, 0, 0), 0, 0)), (56, (.iconst 3, 1, (0, 0, 0), 3, 0)), (57, (.if_icmp .ne 11, 3, (68, 0, 0), 0, 0)), (60, (.aload_n 0, 1, (0, 0, 0), 0, 0)), (61, (.iload_n 1, 1, (0, 0, 0), 0, 0)), (62, (.invokevirtual 275, 3, (0, 226, 0), 0, 1909))],
  [(65, (.goto 36, 3, (101, 0, 0), 0, 0)), (68, (.iload_n 2, 1, (0, 0, 0), 0, 0)), (69, (.iconst 4, 1, (0, 0, 0), 4, 0)), (70, (.if_icmp .ne 11, 3, (81, 0, 0), 0, 0)), (73, (.aload_n 0, 1, (0, 0, 0), 0, 0)), (74, (.iload_n 1, 1, (0, 0, 0), 0, 0)), (75, (.invokevirtual 291, 3, (0, 271, 0), 0, 1913)), (78, (.goto 23, 3, (101, 0, 0), 0, 0)), (81, (.iload_n 2, 1, (0, 0, 0), 0, 0)), (82, (.iconst 5, 1, (0, 0, 0), 5, 0)), (83, (.if_icmp .ne 11, 3, (94, 0, 0), 0, 0)), (86, (.aload_n 0, 1, (0, 0, 0), 0, 0)), (87, (.iload_n 1, 1, (0, 0, 0), 0, 0)), (88, (.invokevirtual 294, 3, (0, 272, 0), 0, 1921)), (91, (.goto 10, 3, (101, 0, 0), 0, 0)), (94, (.aload_n 0, 1, (0, 0, 0), 0, 0)), (95, (.iconst 3, 1, (0, 0, 0), 3, 0))],
  [(96, (.iconst 0, 1, (0, 0, 0), 0, 0)), (97, (.iload_n 1, 1, (0, 0, 0), 0, 0)), (98, (.invokevirtual 297, 3, (0, 270, 0), 0, 1925)), (101, (.ireturn, 1, (0, 0, 0), 0, 0))]]
set_option maxRecDepth 10000 in
def zp274 : List (List (Nat × ZI)) := [[(0, (.aload_n 0, 1, (0, 0, 0), 0, 0)), (1, (.iconst 0, 1, (0, 0, 0), 0, 0)), (2, (.putfield 3, 3, (12, 0, 0), 0, 1617)), (5, (.aload_n 0, 1, (0, 0, 0), 0, 0)), (6, (.aload_n 0, 1, (0, 0, 0), 0, 0)), (7, (.iload_n 1, 1, (0, 0, 0), 0, 0)), (8, (.invokevirtual 288, 3, (0, 228, 0), 0, 1898)), (11, (.ifCond .ne 11, 3, (22, 0, 0), 0, 0)), (14, (.aload_n 0, 1, (0, 0, 0), 0, 0)), (15, (.iload_n 2, 1, (0, 0, 0), 0, 0)), (16, (.invokevirtual 300, 3, (0, 229, 0), 0, 1941)), (19, (.ifCond .eq 7, 3, (26, 0, 0), 0, 0)), (22, (.iconst 1, 1, (0, 0, 0), 1, 0)), (23, (.goto 4, 3, (27, 0, 0), 0, 0)), (26, (.iconst 0, 1, (0, 0, 0), 0, 0)), (27, (.iconst 1, 1, (0, 0, 0), 1, 0)), (28, (.invokevirtual 272, 3, (0, 209, 0), 0, 1886)), (31, (.ifCond .eq 7, 3, (38, 0, 0), 0, 0))],
  [(34, (.iconst 0, 1, (0, 0, 0), 0, 0)), (35, (.goto 11, 3, (46, 0, 0), 0, 0)), (38, (.aload_n 0, 1, (0, 0, 0), 0, 0)), (39, (.iload_n 1, 1, (0, 0, 0), 0, 0)), (40, (.iconst 3, 1, (0, 0, 0), 3, 0)), (41, (.iload_n 2, 1, (0, 0, 0), 0, 0)), (42, (.iadd, 1, (0, 0, 0), 0, 0)), (43, (.invokevirtual 77, 3, (0, 221, 0), 0, 1905)), (46, (.ireturn, 1, (0, 0, 0), 0, 0))]]
set_option maxRecDepth 10000 in
def zp275 : List (List (Nat × ZI)) := [[(0, (.iconst 0, 1, (0, 0, 0), 0, 0)), (1, (.istore_n 2, 1, (0, 0, 0), 0, 0)), (2, (.iconst 0, 1, (0, 0, 0), 0, 0)), (3, (.istore_n 3, 1, (0, 0, 0), 0, 0)), (4, (.iload_n 3, 1, (0, 0, 0), 0, 0)), (5, (.aload_n 0, 1, (0, 0, 0), 0, 0)), (6, (.iload_n 1, 1, (0, 0, 0), 0, 0)), (7, (.iconst 3, 1, (0, 0, 0), 3, 0)), (8, (.invokevirtual 59, 3, (0, 222, 0), 0, 1791)), (11, (.if_icmp .ge 22, 3, (33, 0, 0), 0, 0)), (14, (.iload_n 2, 1, (0, 0, 0), 0, 0)), (15, (.iconst 1, 1, (0, 0, 0), 1, 0)), (16, (.aload_n 0, 1, (0, 0, 0), 0, 0)), (17, (.iload_n 1, 1, (0, 0, 0), 0, 0)), (18, (.iconst 4, 1, (0, 0, 0), 4, 0)), (19, (.iload_n 3, 1, (0, 0, 0), 0, 0)), (20, (.iadd, 1, (0, 0, 0), 0, 0)), (21, (.invokevirtual 59, 3, (0, 222, 0), 0, 1791)), (24, (.ishl, 1, (0, 0, 0), 0, 0)), (25, (.ior, 1, (0, 0, 0), 0, 0)), (26, (.istore_n 2, 1, (0, 0, 0), 0, 0)), (27, (.iinc 3 1, 3, (0, 0, 0), 1, 0)), (30, (.goto (-26), 3, (4, 0, 0), 0, 0))],
  [(33, (.iload_n 2, 1, (0, 0, 0), 0, 0)), (34, (.ireturn, 1, (0, 0, 0), 0, 0))]]
set_option maxRecDepth 10000 in
def zp276 : List (List (Nat × ZI)) := [[(0, (.aload_n 0, 1, (0, 0, 0), 0, 0)), (1, (.iconst 0, 1, (0, 0, 0), 0, 0)), (2, (.putfield 3, 3, (12, 0, 0), 0, 1617)), (5, (.aload_n 0, 1, (0, 0, 0), 0, 0)), (6, (.aload_n 0, 1, (0, 0, 0), 0, 0)), (7, (.iload_n 1, 1, (0, 0, 0), 0, 0)), (8, (.invokevirtual 300, 3, (0, 229, 0), 0, 1941)), (11, (.iconst 1, 1, (0, 0, 0), 1, 0)), (12, (.invokevirtual 272, 3, (0, 209, 0), 0, 1886)), (15, (.ifCond .ne 26, 3, (41, 0, 0), 0, 0)), (18, (.aload_n 0, 1, (0, 0, 0), 0, 0)), (19, (.iload_n 2, 1, (0, 0, 0), 0, 0)), (20, (.iconst 0, 1, (0, 0, 0), 0, 0)), (21, (.bipush 6, 2, (0, 0, 0), 6, 0)), (23, (.invokestatic 70, 3, (0, 210, 0), 0, 1902)), (26, (.ifCond .ne 7, 3, (33, 0, 0), 0, 0)), (29, (.iconst 1, 1, (0, 0, 0), 1, 0)), (30, (.goto 4, 3, (34, 0, 0), 0, 0))],
  [(33, (.iconst 0, 1, (0, 0, 0), 0, 0)), (34, (.iconst 2, 1, (0, 0, 0), 2, 0)), (35, (.invokevirtual 272, 3, (0, 209, 0), 0, 1886)), (38, (.ifCond .eq 5, 3, (43, 0, 0), 0, 0)), (41, (.iconst 0, 1, (0, 0, 0), 0, 0)), (42, (.ireturn, 1, (0, 0, 0), 0, 0)), (43, (.iload_n 2, 1, (0, 0, 0), 0, 0)), (44, (.tableswitch 80 0 5 #[40, 46, 52, 59, 66, 73], 40, (9, 0, 0), 0, 0))],
  [(84, (.aload_n 0, 1, (0, 0, 0), 0, 0)), (85, (.iload_n 1, 1, (0, 0, 0), 0, 0)), (86, (.invokevirtual 285, 3, (0, 224, 0), 0, 1917)), (89, (.ireturn, 1, (0, 0, 0), 0, 0)), (90, (.aload_n 0, 1, (0, 0, 0), 0, 0)), (91, (.iload_n 1, 1, (0, 0, 0), 0, 0)), (92, (.invokevirtual 149, 3, (0, 227, 0), 0, 1808)), (95, (.ireturn, 1, (0, 0, 0), 0, 0))],
  [(96, (.aload_n 0, 1, (0, 0, 0), 0, 0)), (97, (.iload_n 1, 1, (0, 0, 0), 0, 0)), (98, (.iconst 1, 1, (0, 0, 0), 1, 0)), (99, (.invokevirtual 59, 3, (0, 222, 0), 0, 1791)), (102, (.ireturn, 1, (0, 0, 0), 0, 0)), (103, (.aload_n 0, 1, (0, 0, 0), 0, 0)), (104, (.iload_n 1, 1, (0, 0, 0), 0, 0)), (105, (.iconst 2, 1, (0, 0, 0), 2, 0)), (106, (.invokevirtual 59, 3, (0, 222, 0), 0, 1791)), (109, (.ireturn, 1, (0, 0, 0), 0, 0)), (110, (.aload_n 0, 1, (0, 0, 0), 0, 0)), (111, (.iload_n 1, 1, (0, 0, 0), 0, 0)), (112, (.iconst 3, 1, (0, 0, 0), 3, 0)), (113, (.invokevirtual 59, 3, (0, 222, 0), 0, 1791)), (116, (.ireturn, 1, (0, 0, 0), 0, 0)), (117, (.aload_n 0, 1, (0, 0, 0), 0, 0)), (118, (.iload_n 1, 1, (0, 0, 0), 0, 0)), (119, (.iconst 0, 1, (0, 0, 0), 0, 0)), (120, (.invokevirtual 59, 3, (0, 222, 0), 0, 1791)), (123, (.ireturn, 1, (0, 0, 0), 0, 0)), (124, (.aload_n 0, 1, (0, 0, 0), 0, 0)), (125, (.iload_n 1, 1, (0, 0, 0), 0, 0)), (126, (.invokevirtual 303, 3, (0, 275, 0), 0, 1949))],
  [(129, (.ireturn, 1, (0, 0, 0), 0, 0))]]
set_option maxRecDepth 10000 in
def zp277 : List (List (Nat × ZI)) := [[(0, (.aload_n 0, 1, (0, 0, 0), 0, 0)), (1, (.iconst 0, 1, (0, 0, 0), 0, 0)), (2, (.putfield 3, 3, (12, 0, 0), 0, 1617)), (5, (.aload_n 0, 1, (0, 0, 0), 0, 0)), (6, (.aload_n 0, 1, (0, 0, 0), 0, 0)), (7, (.iload_n 1, 1, (0, 0, 0), 0, 0)), (8, (.invokevirtual 300, 3, (0, 229, 0), 0, 1941)), (11, (.ifCond .ne 11, 3, (22, 0, 0), 0, 0)), (14, (.aload_n 0, 1, (0, 0, 0), 0, 0)), (15, (.iload_n 2, 1, (0, 0, 0), 0, 0)), (16, (.invokevirtual 300, 3, (0, 229, 0), 0, 1941)), (19, (.ifCond .eq 7, 3, (26, 0, 0), 0, 0)), (22, (.iconst 1, 1, (0, 0, 0), 1, 0)), (23, (.goto 4, 3, (27, 0, 0), 0, 0)), (26, (.iconst 0, 1, (0, 0, 0), 0, 0)), (27, (.iconst 1, 1, (0, 0, 0), 1, 0)), (28, (.invokevirtual 272, 3, (0, 209, 0), 0, 1886)), (31, (.ifCond .eq 7, 3, (38, 0, 0), 0, 0))],
  [(34, (.iconst 0, 1, (0, 0, 0), 0, 0)), (35, (.goto 12, 3, (47, 0, 0), 0, 0)), (38, (.aload_n 0, 1, (0, 0, 0), 0, 0)), (39, (.iload_n 1, 1, (0, 0, 0), 0, 0)), (40, (.bipush 16, 2, (0, 0, 0), 16, 0)), (42, (.iload_n 2, 1, (0, 0, 0), 0, 0)), (43, (.iadd, 1, (0, 0, 0), 0, 0)), (44, (.invokevirtual 59, 3, (0, 222, 0), 0, 1791)), (47, (.ireturn, 1, (0, 0, 0), 0, 0))]]
set_option maxRecDepth 10000 in
def zp278 : List (List (Nat × ZI)) := [[(0, (.aload_n 0, 1, (0, 0, 0), 0, 0)), (1, (.iconst 0, 1, (0, 0, 0), 0, 0)), (2, (.putfield 3, 3, (12, 0, 0), 0, 1617)), (5, (.aload_n 0, 1, (0, 0, 0), 0, 0)), (6, (.aload_n 0, 1, (0, 0, 0), 0, 0)), (7, (.iload_n 1, 1, (0, 0, 0), 0, 0)), (8, (.invokevirtual 300, 3, (0, 229, 0), 0, 1941)), (11, (.iconst 1, 1, (0, 0, 0), 1, 0)), (12, (.invokevirtual 272, 3, (0, 209, 0), 0, 1886)), (15, (.ifCond .eq 5, 3, (20, 0, 0), 0, 0)), (18, (.iconst 0, 1, (0, 0, 0), 0, 0)), (19, (.ireturn, 1, (0, 0, 0), 0, 0)), (20, (.iload_n 2, 1, (0, 0, 0), 0, 0)), (21, (.iconst 0, 1, (0, 0, 0), 0, 0)), (22, (.aload_n 0, 1, (0, 0, 0), 0, 0)), (23, (.iload_n 1, 1, (0, 0, 0), 0, 0)), (24, (.iconst 3, 1, (0, 0, 0), 3, 0)), (25, (.invokevirtual 59, 3, (0, 222, 0), 0, 1791)), (28, (.iconst 1, 1, (0, 0, 0), 1, 0)), (29, (.isub, 1, (0, 0, 0), 0, 0)), (30, (.invokestatic 70, 3, (0, 210, 0), 0, 1902))],
  [(33, (.ifCond .eq 14, 3, (47, 0, 0), 0, 0)), (36, (.aload_n 0, 1, (0, 0, 0), 0, 0)), (37, (.iload_n 1, 1, (0, 0, 0), 0, 0)), (38, (.iconst 4, 1, (0, 0, 0), 4, 0)), (39, (.iload_n 2, 1, (0, 0, 0), 0, 0)), (40, (.iadd, 1, (0, 0, 0), 0, 0)), (41, (.invokevirtual 59, 3, (0, 222, 0), 0, 1791)), (44, (.goto 4, 3, (48, 0, 0), 0, 0)), (47, (.iconst (-1), 1, (0, 0, 0), (-1), 0)), (48, (.ireturn, 1, (0, 0, 0), 0, 0))]]
set_option maxRecDepth 10000 in
def zp279 : List (List (Nat × ZI)) := [[(0, (.aload_n 0, 1, (0, 0, 0), 0, 0)), (1, (.iconst 0, 1, (0, 0, 0), 0, 0)), (2, (.putfield 3, 3, (12, 0, 0), 0, 1617)), (5, (.aload_n 0, 1, (0, 0, 0), 0, 0)), (6, (.aload_n 0, 1, (0, 0, 0), 0, 0)), (7, (.iload_n 1, 1, (0, 0, 0), 0, 0)), (8, (.invokevirtual 300, 3, (0, 229, 0), 0, 1941)), (11, (.ifCond .ne 11, 3, (22, 0, 0), 0, 0)), (14, (.aload_n 0, 1, (0, 0, 0), 0, 0)), (15, (.iload_n 2, 1, (0, 0, 0), 0, 0)), (16, (.invokevirtual 288, 3, (0, 228, 0), 0, 1898)), (19, (.ifCond .eq 7, 3, (26, 0, 0), 0, 0)), (22, (.iconst 1, 1, (0, 0, 0), 1, 0)), (23, (.goto 4, 3, (27, 0, 0), 0, 0)), (26, (.iconst 0, 1, (0, 0, 0), 0, 0)), (27, (.iconst 1, 1, (0, 0, 0), 1, 0)), (28, (.invokevirtual 272, 3, (0, 209, 0), 0, 1886)), (31, (.ifCond .ne 25, 3, (56, 0, 0), 0, 0))],
  [(34, (.aload_n 0, 1, (0, 0, 0), 0, 0)), (35, (.iload_n 3, 1, (0, 0, 0), 0, 0)), (36, (.iconst 0, 1, (0, 0, 0), 0, 0)), (37, (.iconst 2, 1, (0, 0, 0), 2, 0)), (38, (.invokestatic 70, 3, (0, 210, 0), 0, 1902)), (41, (.ifCond .ne 7, 3, (48, 0, 0), 0, 0)), (44, (.iconst 1, 1, (0, 0, 0), 1, 0)), (45, (.goto 4, 3, (49, 0, 0), 0, 0)), (48, (.iconst 0, 1, (0, 0, 0), 0, 0)), (49, (.iconst 2, 1, (0, 0, 0), 2, 0)), (50, (.invokevirtual 272, 3, (0, 209, 0), 0, 1886)), (53, (.ifCond .eq 7, 3, (60, 0, 0), 0, 0)), (56, (.iconst 0, 1, (0, 0, 0), 0, 0)), (57, (.goto 10, 3, (67, 0, 0), 0, 0)), (60, (.aload_n 0, 1, (0, 0, 0), 0, 0)), (61, (.iload_n 3, 1, (0, 0, 0), 0, 0)), (62, (.iload_n 1, 1, (0, 0, 0), 0, 0)), (63, (.iload_n 2, 1, (0, 0, 0), 0, 0))],
  [(64, (.invokevirtual 297, 3, (0, 270, 0), 0, 1925)), (67, (.ireturn, 1, (0, 0, 0), 0, 0))]]
set_option maxRecDepth 10000 in
def zp280 : List (List (Nat × ZI)) := [[(0, (.iconst 0, 1, (0, 0, 0), 0, 0)), (1, (.istore 4, 2, (0, 0, 0), 0, 0)), (3, (.iconst 0, 1, (0, 0, 0), 0, 0)), (4, (.istore 5, 2, (0, 0, 0), 0, 0)), (6, (.iload 5, 2, (0, 0, 0), 0, 0)), (8, (.bipush 8, 2, (0, 0, 0), 8, 0)), (10, (.if_icmp .ge 79, 3, (89, 0, 0), 0, 0)), (13, (.aload_n 0, 1, (0, 0, 0), 0, 0)), (14, (.getfield 13, 3, (12, 1, 0), 0, 1618)), (17, (.iload_n 1, 1, (0, 0, 0), 0, 0)), (18, (.iload 5, 2, (0, 0, 0), 0, 0)), (20, (.iadd, 1, (0, 0, 0), 0, 0)), (21, (.iaload, 1, (0, 0, 0), 0, 0)), (22, (.iload_n 3, 1, (0, 0, 0), 0, 0)), (23, (.imul, 1, (0, 0, 0), 0, 0)), (24, (.bipush 100, 2, (0, 0, 0), 100, 0)), (26, (.idiv, 1, (0, 0, 0), 0, 0)), (27, (.istore 6, 2, (0, 0, 0), 0, 0)), (29, (.aload_n 0, 1, (0, 0, 0), 0, 0)), (30, (.getfield 13, 3, (12, 1, 0), 0, 1618))],
  [(33, (.iload_n 1, 1, (0, 0, 0), 0, 0)), (34, (.iload 5, 2, (0, 0, 0), 0, 0)), (36, (.iadd, 1, (0, 0, 0), 0, 0)), (37, (.dup2, 1, (0, 0, 0), 0, 0)), (38, (.iaload, 1, (0, 0, 0), 0, 0)), (39, (.iload 6, 2, (0, 0, 0), 0, 0)), (41, (.isub, 1, (0, 0, 0), 0, 0)), (42, (.iastore, 1, (0, 0, 0), 0, 0)), (43, (.iload_n 2, 1, (0, 0, 0), 0, 0)), (44, (.ifCond .ge 18, 3, (62, 0, 0), 0, 0)), (47, (.aload_n 0, 1, (0, 0, 0), 0, 0)), (48, (.getfield 13, 3, (12, 1, 0), 0, 1618)), (51, (.bipush 6, 2, (0, 0, 0), 6, 0)), (53, (.dup2, 1, (0, 0, 0), 0, 0)), (54, (.iaload, 1, (0, 0, 0), 0, 0)), (55, (.iload 6, 2, (0, 0, 0), 0, 0)), (57, (.iadd, 1, (0, 0, 0), 0, 0)), (58, (.iastore, 1, (0, 0, 0), 0, 0)), (59, (.goto 17, 3, (76, 0, 0), 0, 0)), (62, (.aload_n 0, 1, (0, 0, 0), 0, 0)), (63, (.getfield 13, 3, (12, 1, 0), 0, 1618))],
  [(66, (.iload_n 2, 1, (0, 0, 0), 0, 0)), (67, (.iload 5, 2, (0, 0, 0), 0, 0)), (69, (.iadd, 1, (0, 0, 0), 0, 0)), (70, (.dup2, 1, (0, 0, 0), 0, 0)), (71, (.iaload, 1, (0, 0, 0), 0, 0)), (72, (.iload 6, 2, (0, 0, 0), 0, 0)), (74, (.iadd, 1, (0, 0, 0), 0, 0)), (75, (.iastore, 1, (0, 0, 0), 0, 0)), (76, (.iload 4, 2, (0, 0, 0), 0, 0)), (78, (.iload 6, 2, (0, 0, 0), 0, 0)), (80, (.iadd, 1, (0, 0, 0), 0, 0)), (81, (.istore 4, 2, (0, 0, 0), 0, 0)), (83, (.iinc 5 1, 3, (0, 0, 0), 1, 0)), (86, (.goto (-80), 3, (6, 0, 0), 0, 0)), (89, (.iload 4, 2, (0, 0, 0), 0, 0)), (91, (.ireturn, 1, (0, 0, 0), 0, 0))]]
set_option maxRecDepth 10000 in
def zp281 : List (List (Nat × ZI)) := [[(0, (.iconst 0, 1, (0, 0, 0), 0, 0)), (1, (.istore_n 3, 1, (0, 0, 0), 0, 0)), (2, (.iconst 0, 1, (0, 0, 0), 0, 0)), (3, (.istore 4, 2, (0, 0, 0), 0, 0)), (5, (.iload 4, 2, (0, 0, 0), 0, 0)), (7, (.bipush 8, 2, (0, 0, 0), 8, 0)), (9, (.if_icmp .ge 26, 3, (35, 0, 0), 0, 0)), (12, (.iload_n 3, 1, (0, 0, 0), 0, 0)), (13, (.aload_n 0, 1, (0, 0, 0), 0, 0)), (14, (.getfield 13, 3, (12, 1, 0), 0, 1618)), (17, (.iload_n 1, 1, (0, 0, 0), 0, 0)), (18, (.iload 4, 2, (0, 0, 0), 0, 0)), (20, (.iadd, 1, (0, 0, 0), 0, 0)), (21, (.iaload, 1, (0, 0, 0), 0, 0)), (22, (.iload_n 2, 1, (0, 0, 0), 0, 0)), (23, (.imul, 1, (0, 0, 0), 0, 0)), (24, (.bipush 100, 2, (0, 0, 0), 100, 0)), (26, (.idiv, 1, (0, 0, 0), 0, 0)), (27, (.iadd, 1, (0, 0, 0), 0, 0)), (28, (.istore_n 3, 1, (0, 0, 0), 0, 0)), (29, (.iinc 4 1, 3, (0, 0, 0), 1, 0))],
  [(32, (.goto (-27), 3, (5, 0, 0), 0, 0)), (35, (.iload_n 3, 1, (0, 0, 0), 0, 0)), (36, (.ireturn, 1, (0, 0, 0), 0, 0))]]
set_option maxRecDepth 10000 in
def zp282 : List (List (Nat × ZI)) := [[(0, (.sipush 399, 3, (0, 0, 0), 399, 0)), (3, (.istore 5, 2, (0, 0, 0), 0, 0)), (5, (.iload 5, 2, (0, 0, 0), 0, 0)), (7, (.iconst 5, 1, (0, 0, 0), 5, 0)), (8, (.if_icmp .lt 33, 3, (41, 0, 0), 0, 0)), (11, (.aload_n 0, 1, (0, 0, 0), 0, 0)), (12, (.getfield 13, 3, (12, 1, 0), 0, 1618)), (15, (.sipush 377, 3, (0, 0, 0), 377, 0)), (18, (.iload 5, 2, (0, 0, 0), 0, 0)), (20, (.iadd, 1, (0, 0, 0), 0, 0)), (21, (.aload_n 0, 1, (0, 0, 0), 0, 0)), (22, (.getfield 13, 3, (12, 1, 0), 0, 1618)), (25, (.sipush 377, 3, (0, 0, 0), 377, 0)), (28, (.iload 5, 2, (0, 0, 0), 0, 0)), (30, (.iadd, 1, (0, 0, 0), 0, 0)), (31, (.iconst 5, 1, (0, 0, 0), 5, 0))],
  [(32, (.isub, 1, (0, 0, 0), 0, 0)), (33, (.iaload, 1, (0, 0, 0), 0, 0)), (34, (.iastore, 1, (0, 0, 0), 0, 0)), (35, (.iinc 5 (-1), 3, (0, 0, 0), (-1), 0)), (38, (.goto (-33), 3, (5, 0, 0), 0, 0)), (41, (.aload_n 0, 1, (0, 0, 0), 0, 0)), (42, (.getfield 13, 3, (12, 1, 0), 0, 1618)), (45, (.sipush 377, 3, (0, 0, 0), 377, 0)), (48, (.aload_n 0, 1, (0, 0, 0), 0, 0)), (49, (.getfield 13, 3, (12, 1, 0), 0, 1618)), (52, (.iconst 5, 1, (0, 0, 0), 5, 0)), (53, (.iaload, 1, (0, 0, 0), 0, 0)), (54, (.iastore, 1, (0, 0, 0), 0, 0)), (55, (.aload_n 0, 1, (0, 0, 0), 0, 0)), (56, (.getfield 13, 3, (12, 1, 0), 0, 1618)), (59, (.sipush 378, 3, (0, 0, 0), 378, 0)), (62, (.iload_n 1, 1, (0, 0, 0), 0, 0)), (63, (.iastore, 1, (0, 0, 0), 0, 0))],
  [(64, (.aload_n 0, 1, (0, 0, 0), 0, 0)), (65, (.getfield 13, 3, (12, 1, 0), 0, 1618)), (68, (.sipush 379, 3, (0, 0, 0), 379, 0)), (71, (.iload_n 2, 1, (0, 0, 0), 0, 0)), (72, (.iastore, 1, (0, 0, 0), 0, 0)), (73, (.aload_n 0, 1, (0, 0, 0), 0, 0)), (74, (.getfield 13, 3, (12, 1, 0), 0, 1618)), (77, (.sipush 380, 3, (0, 0, 0), 380, 0)), (80, (.iload_n 3, 1, (0, 0, 0), 0, 0)), (81, (.iastore, 1, (0, 0, 0), 0, 0)), (82, (.aload_n 0, 1, (0, 0, 0), 0, 0)), (83, (.getfield 13, 3, (12, 1, 0), 0, 1618)), (86, (.sipush 381, 3, (0, 0, 0), 381, 0)), (89, (.iload 4, 2, (0, 0, 0), 0, 0)), (91, (.iastore, 1, (0, 0, 0), 0, 0)), (92, (.aload_n 0, 1, (0, 0, 0), 0, 0)), (93, (.getfield 13, 3, (12, 1, 0), 0, 1618))],
  [(96, (.bipush 11, 2, (0, 0, 0), 11, 0)), (98, (.bipush 80, 2, (0, 0, 0), 80, 0)), (100, (.aload_n 0, 1, (0, 0, 0), 0, 0)), (101, (.getfield 13, 3, (12, 1, 0), 0, 1618)), (104, (.bipush 11, 2, (0, 0, 0), 11, 0)), (106, (.iaload, 1, (0, 0, 0), 0, 0)), (107, (.iconst 1, 1, (0, 0, 0), 1, 0)), (108, (.iadd, 1, (0, 0, 0), 0, 0)), (109, (.invokestatic 152, 3, (2, 0, 0), 0, 1816)), (112, (.iastore, 1, (0, 0, 0), 0, 0)), (113, (.return_, 1, (0, 0, 0), 0, 0))]]
set_option maxRecDepth 10000 in
def zp283 : List (List (Nat × ZI)) := [[(0, (.aload_n 0, 1, (0, 0, 0), 0, 0)), (1, (.iload_n 1, 1, (0, 0, 0), 0, 0)), (2, (.invokevirtual 285, 3, (0, 224, 0), 0, 1917)), (5, (.istore_n 2, 1, (0, 0, 0), 0, 0)), (6, (.aload_n 0, 1, (0, 0, 0), 0, 0)), (7, (.iload_n 1, 1, (0, 0, 0), 0, 0)), (8, (.iconst 0, 1, (0, 0, 0), 0, 0)), (9, (.aload_n 0, 1, (0, 0, 0), 0, 0)), (10, (.iload_n 1, 1, (0, 0, 0), 0, 0)), (11, (.iconst 0, 1, (0, 0, 0), 0, 0)), (12, (.invokevirtual 59, 3, (0, 222, 0), 0, 1791)), (15, (.iconst 1, 1, (0, 0, 0), 1, 0)), (16, (.iadd, 1, (0, 0, 0), 0, 0)), (17, (.aload_n 0, 1, (0, 0, 0), 0, 0)), (18, (.iload_n 1, 1, (0, 0, 0), 0, 0)), (19, (.iconst 3, 1, (0, 0, 0), 3, 0)), (20, (.invokevirtual 59, 3, (0, 222, 0), 0, 1791)), (23, (.irem, 1, (0, 0, 0), 0, 0)), (24, (.invokevirtual 139, 3, (0, 223, 0), 0, 1784)), (27, (.aload_n 0, 1, (0, 0, 0), 0, 0)), (28, (.iload_n 1, 1, (0, 0, 0), 0, 0)), (29, (.invokevirtual 285, 3, (0, 224, 0), 0, 1917))],
  [(32, (.istore_n 3, 1, (0, 0, 0), 0, 0)), (33, (.iload_n 1, 1, (0, 0, 0), 0, 0)), (34, (.bipush 16, 2, (0, 0, 0), 16, 0)), (36, (.invokestatic 56, 3, (0, 220, 0), 0, 1788)), (39, (.istore 4, 2, (0, 0, 0), 0, 0)), (41, (.iload_n 3, 1, (0, 0, 0), 0, 0)), (42, (.iconst 3, 1, (0, 0, 0), 3, 0)), (43, (.invokestatic 52, 3, (0, 219, 0), 0, 1763)), (46, (.istore 5, 2, (0, 0, 0), 0, 0)), (48, (.aload_n 0, 1, (0, 0, 0), 0, 0)), (49, (.iconst 0, 1, (0, 0, 0), 0, 0)), (50, (.iload_n 1, 1, (0, 0, 0), 0, 0)), (51, (.iload_n 3, 1, (0, 0, 0), 0, 0)), (52, (.invokevirtual 297, 3, (0, 270, 0), 0, 1925)), (55, (.sipush 9999, 3, (0, 0, 0), 9999, 0)), (58, (.aload_n 0, 1, (0, 0, 0), 0, 0)), (59, (.iload_n 1, 1, (0, 0, 0), 0, 0)), (60, (.invokevirtual 149, 3, (0, 227, 0), 0, 1808)), (63, (.isub, 1, (0, 0, 0), 0, 0))],
  [(64, (.invokestatic 152, 3, (2, 0, 0), 0, 1816)), (67, (.istore 6, 2, (0, 0, 0), 0, 0)), (69, (.aload_n 0, 1, (0, 0, 0), 0, 0)), (70, (.getfield 13, 3, (12, 1, 0), 0, 1618)), (73, (.iload 4, 2, (0, 0, 0), 0, 0)), (75, (.iload_n 1, 1, (0, 0, 0), 0, 0)), (76, (.iadd, 1, (0, 0, 0), 0, 0)), (77, (.dup2, 1, (0, 0, 0), 0, 0)), (78, (.iaload, 1, (0, 0, 0), 0, 0)), (79, (.iload 6, 2, (0, 0, 0), 0, 0)), (81, (.iadd, 1, (0, 0, 0), 0, 0)), (82, (.iastore, 1, (0, 0, 0), 0, 0)), (83, (.aload_n 0, 1, (0, 0, 0), 0, 0)), (84, (.getfield 13, 3, (12, 1, 0), 0, 1618)), (87, (.bipush 7, 2, (0, 0, 0), 7, 0)), (89, (.dup2, 1, (0, 0, 0), 0, 0)), (90, (.iaload, 1, (0, 0, 0), 0, 0)), (91, (.iload 6, 2, (0, 0, 0), 0, 0)), (93, (.iadd, 1, (0, 0, 0), 0, 0)), (94, (.iastore, 1, (0, 0, 0), 0, 0)), (95, (.aload_n 0, 1, (0, 0, 0), 0, 0))],
  [(96, (.iload_n 3, 1, (0, 0, 0), 0, 0)), (97, (.iconst 2, 1, (0, 0, 0), 2, 0)), (98, (.invokevirtual 77, 3, (0, 221, 0), 0, 1905)), (101, (.ifCond .le 32, 3, (133, 0, 0), 0, 0)), (104, (.aload_n 0, 1, (0, 0, 0), 0, 0)), (105, (.bipush 100, 2, (0, 0, 0), 100, 0)), (107, (.invokevirtual 306, 3, (0, 232, 0), 0, 1981)), (110, (.aload_n 0, 1, (0, 0, 0), 0, 0)), (111, (.iload_n 1, 1, (0, 0, 0), 0, 0)), (112, (.iconst 1, 1, (0, 0, 0), 1, 0)), (113, (.invokevirtual 59, 3, (0, 222, 0), 0, 1791)), (116, (.if_icmp .ge 17, 3, (133, 0, 0), 0, 0)), (119, (.aload_n 0, 1, (0, 0, 0), 0, 0)), (120, (.iload 4, 2, (0, 0, 0), 0, 0)), (122, (.iconst (-1), 1, (0, 0, 0), (-1), 0)), (123, (.aload_n 0, 1, (0, 0, 0), 0, 0)), (124, (.iload_n 3, 1, (0, 0, 0), 0, 0)), (125, (.iconst 2, 1, (0, 0, 0), 2, 0)), (126, (.invokevirtual 77, 3, (0, 221, 0), 0, 1905))],
  [(129, (.invokevirtual 309, 3, (0, 280, 0), 0, 1986)), (132, (.pop, 1, (0, 0, 0), 0, 0)), (133, (.aload_n 0, 1, (0, 0, 0), 0, 0)), (134, (.iload_n 1, 1, (0, 0, 0), 0, 0)), (135, (.iconst 2, 1, (0, 0, 0), 2, 0)), (136, (.invokevirtual 59, 3, (0, 222, 0), 0, 1791)), (139, (.ifCond .le 7, 3, (146, 0, 0), 0, 0)), (142, (.iconst 0, 1, (0, 0, 0), 0, 0)), (143, (.goto 18, 3, (161, 0, 0), 0, 0)), (146, (.aload_n 0, 1, (0, 0, 0), 0, 0)), (147, (.iload 4, 2, (0, 0, 0), 0, 0)), (149, (.iload 5, 2, (0, 0, 0), 0, 0)), (151, (.aload_n 0, 1, (0, 0, 0), 0, 0)), (152, (.iconst 1, 1, (0, 0, 0), 1, 0)), (153, (.iload_n 1, 1, (0, 0, 0), 0, 0)), (154, (.iload_n 3, 1, (0, 0, 0), 0, 0)), (155, (.invokevirtual 297, 3, (0, 270, 0), 0, 1925)), (158, (.invokevirtual 309, 3, (0, 280, 0), 0, 1986))],
  [(161, (.istore 7, 2, (0, 0, 0), 0, 0)), (163, (.iload 7, 2, (0, 0, 0), 0, 0)), (165, (.ifCond .le 12, 3, (177, 0, 0), 0, 0)), (168, (.aload_n 0, 1, (0, 0, 0), 0, 0)), (169, (.iload_n 1, 1, (0, 0, 0), 0, 0)), (170, (.iload_n 3, 1, (0, 0, 0), 0, 0)), (171, (.iload 7, 2, (0, 0, 0), 0, 0)), (173, (.iload_n 2, 1, (0, 0, 0), 0, 0)), (174, (.invokevirtual 312, 3, (0, 282, 0), 0, 1990)), (177, (.aload_n 0, 1, (0, 0, 0), 0, 0)), (178, (.iconst 2, 1, (0, 0, 0), 2, 0)), (179, (.iload_n 1, 1, (0, 0, 0), 0, 0)), (180, (.iload_n 3, 1, (0, 0, 0), 0, 0)), (181, (.invokevirtual 297, 3, (0, 270, 0), 0, 1925)), (184, (.istore 8, 2, (0, 0, 0), 0, 0)), (186, (.aload_n 0, 1, (0, 0, 0), 0, 0)), (187, (.iload_n 1, 1, (0, 0, 0), 0, 0)), (188, (.invokevirtual 149, 3, (0, 227, 0), 0, 1808)), (191, (.aload_n 0, 1, (0, 0, 0), 0, 0))],
  [(192, (.iload 5, 2, (0, 0, 0), 0, 0)), (194, (.iload 8, 2, (0, 0, 0), 0, 0)), (196, (.invokevirtual 316, 3, (0, 281, 0), 0, 1994)), (199, (.iadd, 1, (0, 0, 0), 0, 0)), (200, (.sipush 9999, 3, (0, 0, 0), 9999, 0)), (203, (.if_icmp .gt 14, 3, (217, 0, 0), 0, 0)), (206, (.aload_n 0, 1, (0, 0, 0), 0, 0)), (207, (.iload 5, 2, (0, 0, 0), 0, 0)), (209, (.iload 4, 2, (0, 0, 0), 0, 0)), (211, (.iload 8, 2, (0, 0, 0), 0, 0)), (213, (.invokevirtual 309, 3, (0, 280, 0), 0, 1986)), (216, (.pop, 1, (0, 0, 0), 0, 0)), (217, (.aload_n 0, 1, (0, 0, 0), 0, 0)), (218, (.iload_n 1, 1, (0, 0, 0), 0, 0)), (219, (.iconst 2, 1, (0, 0, 0), 2, 0)), (220, (.iconst 0, 1, (0, 0, 0), 0, 0)), (221, (.aload_n 0, 1, (0, 0, 0), 0, 0)), (222, (.iload_n 1, 1, (0, 0, 0), 0, 0)), (223, (.iconst 2, 1, (0, 0, 0), 2, 0))],
  [(224, (.invokevirtual 59, 3, (0, 222, 0), 0, 1791)), (227, (.iconst 1, 1, (0, 0, 0), 1, 0)), (228, (.isub, 1, (0, 0, 0), 0, 0)), (229, (.invokestatic 319, 3, (3, 0, 0), 0, 1998)), (232, (.invokevirtual 139, 3, (0, 223, 0), 0, 1784)), (235, (.iload 7, 2, (0, 0, 0), 0, 0)), (237, (.ireturn, 1, (0, 0, 0), 0, 0))]]
set_option maxRecDepth 10000 in
def zp284 : List (List (Nat × ZI)) := [[(0, (.iconst 0, 1, (0, 0, 0), 0, 0)), (1, (.istore_n 1, 1, (0, 0, 0), 0, 0)), (2, (.iconst 0, 1, (0, 0, 0), 0, 0)), (3, (.istore_n 2, 1, (0, 0, 0), 0, 0)), (4, (.iload_n 2, 1, (0, 0, 0), 0, 0)), (5, (.aload_n 0, 1, (0, 0, 0), 0, 0)), (6, (.invokevirtual 74, 3, (0, 218, 0), 0, 1780)), (9, (.if_icmp .ge 17, 3, (26, 0, 0), 0, 0)), (12, (.iload_n 1, 1, (0, 0, 0), 0, 0)), (13, (.aload_n 0, 1, (0, 0, 0), 0, 0)), (14, (.iload_n 2, 1, (0, 0, 0), 0, 0)), (15, (.invokevirtual 322, 3, (0, 283, 0), 0, 1977)), (18, (.iadd, 1, (0, 0, 0), 0, 0)), (19, (.istore_n 1, 1, (0, 0, 0), 0, 0)), (20, (.iinc 2 1, 3, (0, 0, 0), 1, 0)), (23, (.goto (-19), 3, (4, 0, 0), 0, 0)), (26, (.iconst 0, 1, (0, 0, 0), 0, 0)), (27, (.istore_n 2, 1, (0, 0, 0), 0, 0)), (28, (.iload_n 2, 1, (0, 0, 0), 0, 0)), (29, (.aload_n 0, 1, (0, 0, 0), 0, 0)), (30, (.invokevirtual 66, 3, (0, 217, 0), 0, 1742))],
  [(33, (.if_icmp .ge 58, 3, (91, 0, 0), 0, 0)), (36, (.aload_n 0, 1, (0, 0, 0), 0, 0)), (37, (.iload_n 2, 1, (0, 0, 0), 0, 0)), (38, (.iconst 0, 1, (0, 0, 0), 0, 0)), (39, (.invokevirtual 77, 3, (0, 221, 0), 0, 1905)), (42, (.iconst 4, 1, (0, 0, 0), 4, 0)), (43, (.if_icmp .ne 42, 3, (85, 0, 0), 0, 0)), (46, (.aload_n 0, 1, (0, 0, 0), 0, 0)), (47, (.getfield 13, 3, (12, 1, 0), 0, 1618)), (50, (.bipush 8, 2, (0, 0, 0), 8, 0)), (52, (.iaload, 1, (0, 0, 0), 0, 0)), (53, (.aload_n 0, 1, (0, 0, 0), 0, 0)), (54, (.getfield 13, 3, (12, 1, 0), 0, 1618)), (57, (.bipush 9, 2, (0, 0, 0), 9, 0)), (59, (.iaload, 1, (0, 0, 0), 0, 0)), (60, (.if_icmp .ge 25, 3, (85, 0, 0), 0, 0)), (63, (.aload_n 0, 1, (0, 0, 0), 0, 0))],
  [(64, (.getfield 13, 3, (12, 1, 0), 0, 1618)), (67, (.bipush 8, 2, (0, 0, 0), 8, 0)), (69, (.dup2, 1, (0, 0, 0), 0, 0)), (70, (.iaload, 1, (0, 0, 0), 0, 0)), (71, (.aload_n 0, 1, (0, 0, 0), 0, 0)), (72, (.iload_n 2, 1, (0, 0, 0), 0, 0)), (73, (.iconst 3, 1, (0, 0, 0), 3, 0)), (74, (.invokestatic 52, 3, (0, 219, 0), 0, 1763)), (77, (.iconst (-1), 1, (0, 0, 0), (-1), 0)), (78, (.bipush 10, 2, (0, 0, 0), 10, 0)), (80, (.invokevirtual 309, 3, (0, 280, 0), 0, 1986)), (83, (.iadd, 1, (0, 0, 0), 0, 0)), (84, (.iastore, 1, (0, 0, 0), 0, 0)), (85, (.iinc 2 1, 3, (0, 0, 0), 1, 0)), (88, (.goto (-60), 3, (28, 0, 0), 0, 0)), (91, (.aload_n 0, 1, (0, 0, 0), 0, 0)), (92, (.getfield 13, 3, (12, 1, 0), 0, 1618)), (95, (.iconst 5, 1, (0, 0, 0), 5, 0))],
  [(96, (.dup2, 1, (0, 0, 0), 0, 0)), (97, (.iaload, 1, (0, 0, 0), 0, 0)), (98, (.iconst 1, 1, (0, 0, 0), 1, 0)), (99, (.iadd, 1, (0, 0, 0), 0, 0)), (100, (.iastore, 1, (0, 0, 0), 0, 0)), (101, (.iload_n 1, 1, (0, 0, 0), 0, 0)), (102, (.ireturn, 1, (0, 0, 0), 0, 0))]]
set_option maxRecDepth 10000 in
def zp285 : List (List (Nat × ZI)) := [[(0, (.aload_n 0, 1, (0, 0, 0), 0, 0)), (1, (.iconst 0, 1, (0, 0, 0), 0, 0)), (2, (.putfield 3, 3, (12, 0, 0), 0, 1617)), (5, (.aload_n 0, 1, (0, 0, 0), 0, 0)), (6, (.iload_n 1, 1, (0, 0, 0), 0, 0)), (7, (.iconst 1, 1, (0, 0, 0), 1, 0)), (8, (.bipush 100, 2, (0, 0, 0), 100, 0)), (10, (.invokestatic 70, 3, (0, 210, 0), 0, 1902)), (13, (.ifCond .ne 7, 3, (20, 0, 0), 0, 0)), (16, (.iconst 1, 1, (0, 0, 0), 1, 0)), (17, (.goto 4, 3, (21, 0, 0), 0, 0)), (20, (.iconst 0, 1, (0, 0, 0), 0, 0)), (21, (.iconst 1, 1, (0, 0, 0), 1, 0)), (22, (.invokevirtual 272, 3, (0, 209, 0), 0, 1886)), (25, (.ifCond .eq 5, 3, (30, 0, 0), 0, 0)), (28, (.iconst 0, 1, (0, 0, 0), 0, 0)), (29, (.ireturn, 1, (0, 0, 0), 0, 0)), (30, (.aload_n 0, 1, (0, 0, 0), 0, 0)), (31, (.invokevirtual 325, 3, (0, 215, 0), 0, 1969))],
  [(34, (.iconst 0, 1, (0, 0, 0), 0, 0)), (35, (.istore_n 2, 1, (0, 0, 0), 0, 0)), (36, (.iconst 0, 1, (0, 0, 0), 0, 0)), (37, (.istore_n 3, 1, (0, 0, 0), 0, 0)), (38, (.iload_n 3, 1, (0, 0, 0), 0, 0)), (39, (.iload_n 1, 1, (0, 0, 0), 0, 0)), (40, (.if_icmp .ge 16, 3, (56, 0, 0), 0, 0)), (43, (.iload_n 2, 1, (0, 0, 0), 0, 0)), (44, (.aload_n 0, 1, (0, 0, 0), 0, 0)), (45, (.invokevirtual 328, 3, (0, 284, 0), 0, 1973)), (48, (.iadd, 1, (0, 0, 0), 0, 0)), (49, (.istore_n 2, 1, (0, 0, 0), 0, 0)), (50, (.iinc 3 1, 3, (0, 0, 0), 1, 0)), (53, (.goto (-15), 3, (38, 0, 0), 0, 0)), (56, (.iload_n 2, 1, (0, 0, 0), 0, 0)), (57, (.ireturn, 1, (0, 0, 0), 0, 0))]]
set_option maxRecDepth 10000 in
def zp286 : List (List (Nat × ZI)) := [[(0, (.aload_n 0, 1, (0, 0, 0), 0, 0)), (1, (.iload_n 1, 1, (0, 0, 0), 0, 0)), (2, (.iconst 3, 1, (0, 0, 0), 3, 0)), (3, (.invokestatic 52, 3, (0, 219, 0), 0, 1763)), (6, (.iconst (-1), 1, (0, 0, 0), (-1), 0)), (7, (.aload_n 0, 1, (0, 0, 0), 0, 0)), (8, (.iconst 3, 1, (0, 0, 0), 3, 0)), (9, (.iconst 0, 1, (0, 0, 0), 0, 0)), (10, (.iload_n 1, 1, (0, 0, 0), 0, 0)), (11, (.invokevirtual 297, 3, (0, 270, 0), 0, 1925)), (14, (.invokevirtual 309, 3, (0, 280, 0), 0, 1986)), (17, (.ireturn, 1, (0, 0, 0), 0, 0))]]
set_option maxRecDepth 10000 in
def zp287 : List (List (Nat × ZI)) := [[(0, (.aload_n 0, 1, (0, 0, 0), 0, 0)), (1, (.iload_n 1, 1, (0, 0, 0), 0, 0)), (2, (.bipush 16, 2, (0, 0, 0), 16, 0)), (4, (.invokestatic 56, 3, (0, 220, 0), 0, 1788)), (7, (.iconst (-1), 1, (0, 0, 0), (-1), 0)), (8, (.bipush 50, 2, (0, 0, 0), 50, 0)), (10, (.invokevirtual 309, 3, (0, 280, 0), 0, 1986)), (13, (.ireturn, 1, (0, 0, 0), 0, 0))]]
set_option maxRecDepth 10000 in
def zp288 : List (List (Nat × ZI)) := [[(0, (.aload_n 0, 1, (0, 0, 0), 0, 0)), (1, (.iconst 0, 1, (0, 0, 0), 0, 0)), (2, (.putfield 3, 3, (12, 0, 0), 0, 1617)), (5, (.aload_n 0, 1, (0, 0, 0), 0, 0)), (6, (.aload_n 0, 1, (0, 0, 0), 0, 0)), (7, (.iload_n 1, 1, (0, 0, 0), 0, 0)), (8, (.invokevirtual 288, 3, (0, 228, 0), 0, 1898)), (11, (.iconst 1, 1, (0, 0, 0), 1, 0)), (12, (.invokevirtual 272, 3, (0, 209, 0), 0, 1886)), (15, (.ifCond .eq 5, 3, (20, 0, 0), 0, 0)), (18, (.iconst 0, 1, (0, 0, 0), 0, 0)), (19, (.ireturn, 1, (0, 0, 0), 0, 0)), (20, (.aload_n 0, 1, (0, 0, 0), 0, 0)), (21, (.invokevirtual 325, 3, (0, 215, 0), 0, 1969)), (24, (.aload_n 0, 1, (0, 0, 0), 0, 0)), (25, (.getfield 13, 3, (12, 1, 0), 0, 1618)), (28, (.bipush 10, 2, (0, 0, 0), 10, 0)), (30, (.dup2, 1, (0, 0, 0), 0, 0)), (31, (.iaload, 1, (0, 0, 0), 0, 0))],
  [(32, (.aload_n 0, 1, (0, 0, 0), 0, 0)), (33, (.iload_n 1, 1, (0, 0, 0), 0, 0)), (34, (.iconst 1, 1, (0, 0, 0), 1, 0)), (35, (.invokevirtual 77, 3, (0, 221, 0), 0, 1905)), (38, (.iadd, 1, (0, 0, 0), 0, 0)), (39, (.iastore, 1, (0, 0, 0), 0, 0)), (40, (.aload_n 0, 1, (0, 0, 0), 0, 0)), (41, (.iload_n 1, 1, (0, 0, 0), 0, 0)), (42, (.invokevirtual 330, 3, (0, 286, 0), 0, 2003)), (45, (.ireturn, 1, (0, 0, 0), 0, 0))]]
set_option maxRecDepth 10000 in
def zp289 : List (List (Nat × ZI)) := [[(0, (.aload_n 0, 1, (0, 0, 0), 0, 0)), (1, (.iconst 0, 1, (0, 0, 0), 0, 0)), (2, (.putfield 3, 3, (12, 0, 0), 0, 1617)), (5, (.aload_n 0, 1, (0, 0, 0), 0, 0)), (6, (.aload_n 0, 1, (0, 0, 0), 0, 0)), (7, (.iload_n 1, 1, (0, 0, 0), 0, 0)), (8, (.invokevirtual 300, 3, (0, 229, 0), 0, 1941)), (11, (.iconst 1, 1, (0, 0, 0), 1, 0)), (12, (.invokevirtual 272, 3, (0, 209, 0), 0, 1886)), (15, (.ifCond .eq 5, 3, (20, 0, 0), 0, 0)), (18, (.iconst 0, 1, (0, 0, 0), 0, 0)), (19, (.ireturn, 1, (0, 0, 0), 0, 0)), (20, (.aload_n 0, 1, (0, 0, 0), 0, 0)), (21, (.invokevirtual 325, 3, (0, 215, 0), 0, 1969)), (24, (.aload_n 0, 1, (0, 0, 0), 0, 0)), (25, (.iload_n 1, 1, (0, 0, 0), 0, 0)), (26, (.invokevirtual 333, 3, (0, 287, 0), 0, 2011)), (29, (.ireturn, 1, (0, 0, 0), 0, 0))]]
set_option maxRecDepth 10000 in
def zp290 : List (List (Nat × ZI)) := [[(0, (.aload_n 0, 1, (0, 0, 0), 0, 0)), (1, (.invokevirtual 325, 3, (0, 215, 0), 0, 1969)), (4, (.aload_n 0, 1, (0, 0, 0), 0, 0)), (5, (.getfield 13, 3, (12, 1, 0), 0, 1618)), (8, (.iload_n 1, 1, (0, 0, 0), 0, 0)), (9, (.iaload, 1, (0, 0, 0), 0, 0)), (10, (.istore_n 3, 1, (0, 0, 0), 0, 0)), (11, (.aload_n 0, 1, (0, 0, 0), 0, 0)), (12, (.getfield 13, 3, (12, 1, 0), 0, 1618)), (15, (.iload_n 1, 1, (0, 0, 0), 0, 0)), (16, (.iload_n 2, 1, (0, 0, 0), 0, 0)), (17, (.iastore, 1, (0, 0, 0), 0, 0)), (18, (.iload_n 3, 1, (0, 0, 0), 0, 0)), (19, (.ireturn, 1, (0, 0, 0), 0, 0))]]
set_option maxRecDepth 10000 in
def zp291 : List (List (Nat × ZI)) := [[(0, (.aload_n 0, 1, (0, 0, 0), 0, 0)), (1, (.iconst 0, 1, (0, 0, 0), 0, 0)), (2, (.putfield 3, 3, (12, 0, 0), 0, 1617)), (5, (.aload_n 0, 1, (0, 0, 0), 0, 0)), (6, (.aload_n 0, 1, (0, 0, 0), 0, 0)), (7, (.iload_n 1, 1, (0, 0, 0), 0, 0)), (8, (.invokevirtual 288, 3, (0, 228, 0), 0, 1898)), (11, (.iconst 1, 1, (0, 0, 0), 1, 0)), (12, (.invokevirtual 272, 3, (0, 209, 0), 0, 1886)), (15, (.ifCond .ne 26, 3, (41, 0, 0), 0, 0)), (18, (.aload_n 0, 1, (0, 0, 0), 0, 0)), (19, (.iload_n 2, 1, (0, 0, 0), 0, 0)), (20, (.iconst 0, 1, (0, 0, 0), 0, 0)), (21, (.bipush 100, 2, (0, 0, 0), 100, 0)), (23, (.invokestatic 70, 3, (0, 210, 0), 0, 1902)), (26, (.ifCond .ne 7, 3, (33, 0, 0), 0, 0)), (29, (.iconst 1, 1, (0, 0, 0), 1, 0)), (30, (.goto 4, 3, (34, 0, 0), 0, 0))],
  [(33, (.iconst 0, 1, (0, 0, 0), 0, 0)), (34, (.iconst 2, 1, (0, 0, 0), 2, 0)), (35, (.invokevirtual 272, 3, (0, 209, 0), 0, 1886)), (38, (.ifCond .eq 7, 3, (45, 0, 0), 0, 0)), (41, (.iconst 0, 1, (0, 0, 0), 0, 0)), (42, (.goto 13, 3, (55, 0, 0), 0, 0)), (45, (.aload_n 0, 1, (0, 0, 0), 0, 0)), (46, (.iload_n 1, 1, (0, 0, 0), 0, 0)), (47, (.iconst 2, 1, (0, 0, 0), 2, 0)), (48, (.invokestatic 52, 3, (0, 219, 0), 0, 1763)), (51, (.iload_n 2, 1, (0, 0, 0), 0, 0)), (52, (.invokevirtual 336, 3, (0, 290, 0), 0, 2019)), (55, (.ireturn, 1, (0, 0, 0), 0, 0))]]
set_option maxRecDepth 10000 in
def zp292 : List (List (Nat × ZI)) := [[(0, (.aload_n 0, 1, (0, 0, 0), 0, 0)), (1, (.iconst 0, 1, (0, 0, 0), 0, 0)), (2, (.putfield 3, 3, (12, 0, 0), 0, 1617)), (5, (.aload_n 0, 1, (0, 0, 0), 0, 0)), (6, (.aload_n 0, 1, (0, 0, 0), 0, 0)), (7, (.iload_n 1, 1, (0, 0, 0), 0, 0)), (8, (.invokevirtual 300, 3, (0, 229, 0), 0, 1941)), (11, (.iconst 1, 1, (0, 0, 0), 1, 0)), (12, (.invokevirtual 272, 3, (0, 209, 0), 0, 1886)), (15, (.ifCond .ne 26, 3, (41, 0, 0), 0, 0)), (18, (.aload_n 0, 1, (0, 0, 0), 0, 0)), (19, (.iload_n 2, 1, (0, 0, 0), 0, 0)), (20, (.iconst 0, 1, (0, 0, 0), 0, 0)), (21, (.bipush 100, 2, (0, 0, 0), 100, 0)), (23, (.invokestatic 70, 3, (0, 210, 0), 0, 1902)), (26, (.ifCond .ne 7, 3, (33, 0, 0), 0, 0)), (29, (.iconst 1, 1, (0, 0, 0), 1, 0)), (30, (.goto 4, 3, (34, 0, 0), 0, 0))],
  [(33, (.iconst 0, 1, (0, 0, 0), 0, 0)), (34, (.iconst 2, 1, (0, 0, 0), 2, 0)), (35, (.invokevirtual 272, 3, (0, 209, 0), 0, 1886)), (38, (.ifCond .eq 7, 3, (45, 0, 0), 0, 0)), (41, (.iconst 0, 1, (0, 0, 0), 0, 0)), (42, (.goto 13, 3, (55, 0, 0), 0, 0)), (45, (.aload_n 0, 1, (0, 0, 0), 0, 0)), (46, (.iload_n 1, 1, (0, 0, 0), 0, 0)), (47, (.iconst 1, 1, (0, 0, 0), 1, 0)), (48, (.invokestatic 56, 3, (0, 220, 0), 0, 1788)), (51, (.iload_n 2, 1, (0, 0, 0), 0, 0)), (52, (.invokevirtual 336, 3, (0, 290, 0), 0, 2019)), (55, (.ireturn, 1, (0, 0, 0), 0, 0))]]
set_option maxRecDepth 10000 in
def zp293 : List (List (Nat × ZI)) := [[(0, (.aload_n 0, 1, (0, 0, 0), 0, 0)), (1, (.iconst 0, 1, (0, 0, 0), 0, 0)), (2, (.putfield 3, 3, (12, 0, 0), 0, 1617)), (5, (.aload_n 0, 1, (0, 0, 0), 0, 0)), (6, (.aload_n 0, 1, (0, 0, 0), 0, 0)), (7, (.iload_n 1, 1, (0, 0, 0), 0, 0)), (8, (.invokevirtual 300, 3, (0, 229, 0), 0, 1941)), (11, (.iconst 1, 1, (0, 0, 0), 1, 0)), (12, (.invokevirtual 272, 3, (0, 209, 0), 0, 1886)), (15, (.ifCond .ne 26, 3, (41, 0, 0), 0, 0)), (18, (.aload_n 0, 1, (0, 0, 0), 0, 0)), (19, (.iload_n 2, 1, (0, 0, 0), 0, 0)), (20, (.iconst 0, 1, (0, 0, 0), 0, 0)), (21, (.bipush 99, 2, (0, 0, 0), 99, 0)), (23, (.invokestatic 70, 3, (0, 210, 0), 0, 1902)), (26, (.ifCond .ne 7, 3, (33, 0, 0), 0, 0)), (29, (.iconst 1, 1, (0, 0, 0), 1, 0)), (30, (.goto 4, 3, (34, 0, 0), 0, 0))],
  [(33, (.iconst 0, 1, (0, 0, 0), 0, 0)), (34, (.iconst 2, 1, (0, 0, 0), 2, 0)), (35, (.invokevirtual 272, 3, (0, 209, 0), 0, 1886)), (38, (.ifCond .eq 7, 3, (45, 0, 0), 0, 0)), (41, (.iconst 0, 1, (0, 0, 0), 0, 0)), (42, (.goto 13, 3, (55, 0, 0), 0, 0)), (45, (.aload_n 0, 1, (0, 0, 0), 0, 0)), (46, (.iload_n 1, 1, (0, 0, 0), 0, 0)), (47, (.iconst 2, 1, (0, 0, 0), 2, 0)), (48, (.invokestatic 56, 3, (0, 220, 0), 0, 1788)), (51, (.iload_n 2, 1, (0, 0, 0), 0, 0)), (52, (.invokevirtual 336, 3, (0, 290, 0), 0, 2019)), (55, (.ireturn, 1, (0, 0, 0), 0, 0))]]
set_option maxRecDepth 10000 in
def zp294 : List (List (Nat × ZI)) := [[(0, (.iconst 0, 1, (0, 0, 0), 0, 0)), (1, (.istore_n 1, 1, (0, 0, 0), 0, 0)), (2, (.iload_n 1, 1, (0, 0, 0), 0, 0)), (3, (.sipush 777, 3, (0, 0, 0), 777, 0)), (6, (.if_icmp .ge 21, 3, (27, 0, 0), 0, 0)), (9, (.aload_n 0, 1, (0, 0, 0), 0, 0)), (10, (.getfield 23, 3, (12, 4, 0), 0, 1621)), (13, (.iload_n 1, 1, (0, 0, 0), 0, 0)), (14, (.aload_n 0, 1, (0, 0, 0), 0, 0)), (15, (.getfield 13, 3, (12, 1, 0), 0, 1618)), (18, (.iload_n 1, 1, (0, 0, 0), 0, 0)), (19, (.iaload, 1, (0, 0, 0), 0, 0)), (20, (.iastore, 1, (0, 0, 0), 0, 0)), (21, (.iinc 1 1, 3, (0, 0, 0), 1, 0)), (24, (.goto (-22), 3, (2, 0, 0), 0, 0)), (27, (.return_, 1, (0, 0, 0), 0, 0))]]
set_option maxRecDepth 10000 in
def zp295 : List (List (Nat × ZI)) := [[(0, (.iconst 0, 1, (0, 0, 0), 0, 0)), (1, (.istore_n 1, 1, (0, 0, 0), 0, 0)), (2, (.iload_n 1, 1, (0, 0, 0), 0, 0)), (3, (.sipush 777, 3, (0, 0, 0), 777, 0)), (6, (.if_icmp .ge 21, 3, (27, 0, 0), 0, 0)), (9, (.aload_n 0, 1, (0, 0, 0), 0, 0)), (10, (.getfield 13, 3, (12, 1, 0), 0, 1618)), (13, (.iload_n 1, 1, (0, 0, 0), 0, 0)), (14, (.aload_n 0, 1, (0, 0, 0), 0, 0)), (15, (.getfield 23, 3, (12, 4, 0), 0, 1621)), (18, (.iload_n 1, 1, (0, 0, 0), 0, 0)), (19, (.iaload, 1, (0, 0, 0), 0, 0)), (20, (.iastore, 1, (0, 0, 0), 0, 0)), (21, (.iinc 1 1, 3, (0, 0, 0), 1, 0)), (24, (.goto (-22), 3, (2, 0, 0), 0, 0)), (27, (.return_, 1, (0, 0, 0), 0, 0))]]
set_option maxRecDepth 10000 in
def zp296 : List (List (Nat × ZI)) := [[(0, (.iconst 0, 1, (0, 0, 0), 0, 0)), (1, (.istore_n 2, 1, (0, 0, 0), 0, 0)), (2, (.iload_n 2, 1, (0, 0, 0), 0, 0)), (3, (.iload_n 1, 1, (0, 0, 0), 0, 0)), (4, (.if_icmp .ge 14, 3, (18, 0, 0), 0, 0)), (7, (.aload_n 0, 1, (0, 0, 0), 0, 0)), (8, (.invokevirtual 328, 3, (0, 284, 0), 0, 1973)), (11, (.pop, 1, (0, 0, 0), 0, 0)), (12, (.iinc 2 1, 3, (0, 0, 0), 1, 0)), (15, (.goto (-13), 3, (2, 0, 0), 0, 0)), (18, (.return_, 1, (0, 0, 0), 0, 0))]]
set_option maxRecDepth 10000 in
def zp297 : List (List (Nat × ZI)) := [[(0, (.iconst 0, 1, (0, 0, 0), 0, 0)), (1, (.istore_n 1, 1, (0, 0, 0), 0, 0)), (2, (.iconst 0, 1, (0, 0, 0), 0, 0)), (3, (.istore_n 2, 1, (0, 0, 0), 0, 0)), (4, (.iload_n 2, 1, (0, 0, 0), 0, 0)), (5, (.aload_n 0, 1, (0, 0, 0), 0, 0)), (6, (.invokevirtual 66, 3, (0, 217, 0), 0, 1742)), (9, (.if_icmp .ge 31, 3, (40, 0, 0), 0, 0)), (12, (.iload_n 1, 1, (0, 0, 0), 0, 0)), (13, (.aload_n 0, 1, (0, 0, 0), 0, 0)), (14, (.iload_n 2, 1, (0, 0, 0), 0, 0)), (15, (.iconst 0, 1, (0, 0, 0), 0, 0)), (16, (.invokevirtual 77, 3, (0, 221, 0), 0, 1905)), (19, (.iconst 3, 1, (0, 0, 0), 3, 0)), (20, (.if_icmp .ne 11, 3, (31, 0, 0), 0, 0)), (23, (.aload_n 0, 1, (0, 0, 0), 0, 0)), (24, (.iload_n 2, 1, (0, 0, 0), 0, 0)), (25, (.invokevirtual 275, 3, (0, 226, 0), 0, 1909)), (28, (.goto 4, 3, (32, 0, 0), 0, 0)), (31, (.iconst 0, 1, (0, 0, 0), 0, 0))],
  [(32, (.iadd, 1, (0, 0, 0), 0, 0)), (33, (.istore_n 1, 1, (0, 0, 0), 0, 0)), (34, (.iinc 2 1, 3, (0, 0, 0), 1, 0)), (37, (.goto (-33), 3, (4, 0, 0), 0, 0)), (40, (.iload_n 1, 1, (0, 0, 0), 0, 0)), (41, (.ireturn, 1, (0, 0, 0), 0, 0))]]
set_option maxRecDepth 10000 in
def zp298 : List (List (Nat × ZI)) := [[(0, (.iconst 0, 1, (0, 0, 0), 0, 0)), (1, (.istore_n 1, 1, (0, 0, 0), 0, 0)), (2, (.iconst 0, 1, (0, 0, 0), 0, 0)), (3, (.istore_n 2, 1, (0, 0, 0), 0, 0)), (4, (.iload_n 2, 1, (0, 0, 0), 0, 0)), (5, (.aload_n 0, 1, (0, 0, 0), 0, 0)), (6, (.invokevirtual 66, 3, (0, 217, 0), 0, 1742)), (9, (.if_icmp .ge 29, 3, (38, 0, 0), 0, 0)), (12, (.iload_n 1, 1, (0, 0, 0), 0, 0)), (13, (.aload_n 0, 1, (0, 0, 0), 0, 0)), (14, (.iload_n 2, 1, (0, 0, 0), 0, 0)), (15, (.invokevirtual 339, 3, (0, 230, 0), 0, 2051)), (18, (.ifCond .eq 11, 3, (29, 0, 0), 0, 0)), (21, (.aload_n 0, 1, (0, 0, 0), 0, 0)), (22, (.iload_n 2, 1, (0, 0, 0), 0, 0)), (23, (.invokevirtual 275, 3, (0, 226, 0), 0, 1909)), (26, (.goto 4, 3, (30, 0, 0), 0, 0)), (29, (.iconst 0, 1, (0, 0, 0), 0, 0)), (30, (.iadd, 1, (0, 0, 0), 0, 0)), (31, (.istore_n 1, 1, (0, 0, 0), 0, 0))],
  [(32, (.iinc 2 1, 3, (0, 0, 0), 1, 0)), (35, (.goto (-31), 3, (4, 0, 0), 0, 0)), (38, (.iload_n 1, 1, (0, 0, 0), 0, 0)), (39, (.ireturn, 1, (0, 0, 0), 0, 0))]]
set_option maxRecDepth 10000 in
def zp299 : List (List (Nat × ZI)) := [[(0, (.iconst 0, 1, (0, 0, 0), 0, 0)), (1, (.istore_n 1, 1, (0, 0, 0), 0, 0)), (2, (.iconst 0, 1, (0, 0, 0), 0, 0)), (3, (.istore_n 2, 1, (0, 0, 0), 0, 0)), (4, (.iload_n 2, 1, (0, 0, 0), 0, 0)), (5, (.aload_n 0, 1, (0, 0, 0), 0, 0)), (6, (.invokevirtual 74, 3, (0, 218, 0), 0, 1780)), (9, (.if_icmp .ge 17, 3, (26, 0, 0), 0, 0)), (12, (.iload_n 1, 1, (0, 0, 0), 0, 0)), (13, (.aload_n 0, 1, (0, 0, 0), 0, 0)), (14, (.iload_n 2, 1, (0, 0, 0), 0, 0)), (15, (.invokevirtual 149, 3, (0, 227, 0), 0, 1808)), (18, (.iadd, 1, (0, 0, 0), 0, 0)), (19, (.istore_n 1, 1, (0, 0, 0), 0, 0)), (20, (.iinc 2 1, 3, (0, 0, 0), 1, 0)), (23, (.goto (-19), 3, (4, 0, 0), 0, 0)), (26, (.iload_n 1, 1, (0, 0, 0), 0, 0)), (27, (.ireturn, 1, (0, 0, 0), 0, 0))]]
set_option maxRecDepth 10000 in
def zp300 : List (List (Nat × ZI)) := [[(0, (.aload_n 0, 1, (0, 0, 0), 0, 0)), (1, (.iconst 0, 1, (0, 0, 0), 0, 0)), (2, (.putfield 3, 3, (12, 0, 0), 0, 1617)), (5, (.aload_n 0, 1, (0, 0, 0), 0, 0)), (6, (.iload_n 1, 1, (0, 0, 0), 0, 0)), (7, (.iconst 0, 1, (0, 0, 0), 0, 0)), (8, (.bipush 100, 2, (0, 0, 0), 100, 0)), (10, (.invokestatic 70, 3, (0, 210, 0), 0, 1902)), (13, (.ifCond .ne 7, 3, (20, 0, 0), 0, 0)), (16, (.iconst 1, 1, (0, 0, 0), 1, 0)), (17, (.goto 4, 3, (21, 0, 0), 0, 0)), (20, (.iconst 0, 1, (0, 0, 0), 0, 0)), (21, (.iconst 1, 1, (0, 0, 0), 1, 0)), (22, (.invokevirtual 272, 3, (0, 209, 0), 0, 1886)), (25, (.ifCond .ne 25, 3, (50, 0, 0), 0, 0)), (28, (.aload_n 0, 1, (0, 0, 0), 0, 0)), (29, (.iload_n 2, 1, (0, 0, 0), 0, 0)), (30, (.iconst 0, 1, (0, 0, 0), 0, 0)), (31, (.iconst 3, 1, (0, 0, 0), 3, 0))],
  [(32, (.invokestatic 70, 3, (0, 210, 0), 0, 1902)), (35, (.ifCond .ne 7, 3, (42, 0, 0), 0, 0)), (38, (.iconst 1, 1, (0, 0, 0), 1, 0)), (39, (.goto 4, 3, (43, 0, 0), 0, 0)), (42, (.iconst 0, 1, (0, 0, 0), 0, 0)), (43, (.iconst 2, 1, (0, 0, 0), 2, 0)), (44, (.invokevirtual 272, 3, (0, 209, 0), 0, 1886)), (47, (.ifCond .eq 5, 3, (52, 0, 0), 0, 0)), (50, (.iconst 0, 1, (0, 0, 0), 0, 0)), (51, (.ireturn, 1, (0, 0, 0), 0, 0)), (52, (.aload_n 0, 1, (0, 0, 0), 0, 0)), (53, (.invokevirtual 342, 3, (0, 294, 0), 0, 2035)), (56, (.aload_n 0, 1, (0, 0, 0), 0, 0)), (57, (.iload_n 1, 1, (0, 0, 0), 0, 0)), (58, (.invokevirtual 345, 3, (0, 296, 0), 0, 2039)), (61, (.iload_n 2, 1, (0, 0, 0), 0, 0)), (62, (.ifCond .ne 10, 3, (72, 0, 0), 0, 0))],
  [(65, (.aload_n 0, 1, (0, 0, 0), 0, 0)), (66, (.invokevirtual 349, 3, (0, 297, 0), 0, 2043)), (69, (.goto 34, 3, (103, 0, 0), 0, 0)), (72, (.iload_n 2, 1, (0, 0, 0), 0, 0)), (73, (.iconst 1, 1, (0, 0, 0), 1, 0)), (74, (.if_icmp .ne 10, 3, (84, 0, 0), 0, 0)), (77, (.aload_n 0, 1, (0, 0, 0), 0, 0)), (78, (.invokevirtual 352, 3, (0, 298, 0), 0, 2047)), (81, (.goto 22, 3, (103, 0, 0), 0, 0)), (84, (.iload_n 2, 1, (0, 0, 0), 0, 0)), (85, (.iconst 2, 1, (0, 0, 0), 2, 0)), (86, (.if_icmp .ne 10, 3, (96, 0, 0), 0, 0)), (89, (.aload_n 0, 1, (0, 0, 0), 0, 0)), (90, (.invokevirtual 355, 3, (0, 299, 0), 0, 2055)), (93, (.goto 10, 3, (103, 0, 0), 0, 0))],
  [(96, (.aload_n 0, 1, (0, 0, 0), 0, 0)), (97, (.getfield 13, 3, (12, 1, 0), 0, 1618)), (100, (.bipush 6, 2, (0, 0, 0), 6, 0)), (102, (.iaload, 1, (0, 0, 0), 0, 0)), (103, (.istore_n 3, 1, (0, 0, 0), 0, 0)), (104, (.aload_n 0, 1, (0, 0, 0), 0, 0)), (105, (.invokevirtual 358, 3, (0, 295, 0), 0, 2059)), (108, (.iload_n 3, 1, (0, 0, 0), 0, 0)), (109, (.ireturn, 1, (0, 0, 0), 0, 0))]]
set_option maxRecDepth 10000 in
def zp301 : List (List (Nat × ZI)) := [[(0, (.aload_n 0, 1, (0, 0, 0), 0, 0)), (1, (.iload_n 1, 1, (0, 0, 0), 0, 0)), (2, (.invokevirtual 345, 3, (0, 296, 0), 0, 2039)), (5, (.iload_n 2, 1, (0, 0, 0), 0, 0)), (6, (.ifCond .eq 10, 3, (16, 0, 0), 0, 0)), (9, (.aload_n 0, 1, (0, 0, 0), 0, 0)), (10, (.invokevirtual 352, 3, (0, 298, 0), 0, 2047)), (13, (.goto 7, 3, (20, 0, 0), 0, 0)), (16, (.aload_n 0, 1, (0, 0, 0), 0, 0)), (17, (.invokevirtual 349, 3, (0, 297, 0), 0, 2043)), (20, (.istore_n 3, 1, (0, 0, 0), 0, 0)), (21, (.aload_n 0, 1, (0, 0, 0), 0, 0)), (22, (.invokevirtual 358, 3, (0, 295, 0), 0, 2059)), (25, (.iload_n 3, 1, (0, 0, 0), 0, 0)), (26, (.ireturn, 1, (0, 0, 0), 0, 0))]]
set_option maxRecDepth 10000 in
def zp302 : List (List (Nat × ZI)) := [[(0, (.aload_n 0, 1, (0, 0, 0), 0, 0)), (1, (.iconst 0, 1, (0, 0, 0), 0, 0)), (2, (.putfield 3, 3, (12, 0, 0), 0, 1617)), (5, (.aload_n 0, 1, (0, 0, 0), 0, 0)), (6, (.aload_n 0, 1, (0, 0, 0), 0, 0)), (7, (.iload_n 1, 1, (0, 0, 0), 0, 0)), (8, (.invokevirtual 288, 3, (0, 228, 0), 0, 1898)), (11, (.iconst 1, 1, (0, 0, 0), 1, 0)), (12, (.invokevirtual 272, 3, (0, 209, 0), 0, 1886)), (15, (.ifCond .ne 36, 3, (51, 0, 0), 0, 0)), (18, (.aload_n 0, 1, (0, 0, 0), 0, 0)), (19, (.iload_n 2, 1, (0, 0, 0), 0, 0)), (20, (.iconst 1, 1, (0, 0, 0), 1, 0)), (21, (.bipush 100, 2, (0, 0, 0), 100, 0)), (23, (.invokestatic 70, 3, (0, 210, 0), 0, 1902)), (26, (.ifCond .eq 13, 3, (39, 0, 0), 0, 0)), (29, (.iload_n 3, 1, (0, 0, 0), 0, 0)), (30, (.iconst 0, 1, (0, 0, 0), 0, 0)), (31, (.bipush 100, 2, (0, 0, 0), 100, 0))],
  [(33, (.invokestatic 70, 3, (0, 210, 0), 0, 1902)), (36, (.ifCond .ne 7, 3, (43, 0, 0), 0, 0)), (39, (.iconst 1, 1, (0, 0, 0), 1, 0)), (40, (.goto 4, 3, (44, 0, 0), 0, 0)), (43, (.iconst 0, 1, (0, 0, 0), 0, 0)), (44, (.iconst 2, 1, (0, 0, 0), 2, 0)), (45, (.invokevirtual 272, 3, (0, 209, 0), 0, 1886)), (48, (.ifCond .eq 5, 3, (53, 0, 0), 0, 0)), (51, (.iconst 0, 1, (0, 0, 0), 0, 0)), (52, (.ireturn, 1, (0, 0, 0), 0, 0)), (53, (.aload_n 0, 1, (0, 0, 0), 0, 0)), (54, (.invokevirtual 342, 3, (0, 294, 0), 0, 2035)), (57, (.aload_n 0, 1, (0, 0, 0), 0, 0)), (58, (.iload_n 3, 1, (0, 0, 0), 0, 0)), (59, (.iconst 0, 1, (0, 0, 0), 0, 0)), (60, (.invokevirtual 361, 3, (0, 301, 0), 0, 2067)), (63, (.istore 4, 2, (0, 0, 0), 0, 0))],
  [(65, (.aload_n 0, 1, (0, 0, 0), 0, 0)), (66, (.getfield 13, 3, (12, 1, 0), 0, 1618)), (69, (.iload_n 1, 1, (0, 0, 0), 0, 0)), (70, (.iconst 2, 1, (0, 0, 0), 2, 0)), (71, (.invokestatic 52, 3, (0, 219, 0), 0, 1763)), (74, (.iload_n 2, 1, (0, 0, 0), 0, 0)), (75, (.iastore, 1, (0, 0, 0), 0, 0)), (76, (.iload 4, 2, (0, 0, 0), 0, 0)), (78, (.aload_n 0, 1, (0, 0, 0), 0, 0)), (79, (.iload_n 3, 1, (0, 0, 0), 0, 0)), (80, (.iconst 0, 1, (0, 0, 0), 0, 0)), (81, (.invokevirtual 361, 3, (0, 301, 0), 0, 2067)), (84, (.isub, 1, (0, 0, 0), 0, 0)), (85, (.ireturn, 1, (0, 0, 0), 0, 0))]]
set_option maxRecDepth 10000 in
def zp303 : List (List (Nat × ZI)) := [[(0, (.iload_n 1, 1, (0, 0, 0), 0, 0)), (1, (.iconst 1, 1, (0, 0, 0), 1, 0)), (2, (.bipush 100, 2, (0, 0, 0), 100, 0)), (4, (.invokestatic 70, 3, (0, 210, 0), 0, 1902)), (7, (.ifCond .eq 13, 3, (20, 0, 0), 0, 0)), (10, (.iload_n 2, 1, (0, 0, 0), 0, 0)), (11, (.iconst 0, 1, (0, 0, 0), 0, 0)), (12, (.bipush 24, 2, (0, 0, 0), 24, 0)), (14, (.invokestatic 70, 3, (0, 210, 0), 0, 1902)), (17, (.ifCond .ne 7, 3, (24, 0, 0), 0, 0)), (20, (.iconst 1, 1, (0, 0, 0), 1, 0)), (21, (.goto 4, 3, (25, 0, 0), 0, 0)), (24, (.iconst 0, 1, (0, 0, 0), 0, 0)), (25, (.ireturn, 1, (0, 0, 0), 0, 0))]]
set_option maxRecDepth 10000 in
def zp304 : List (List (Nat × ZI)) := [[(0, (.aload_n 0, 1, (0, 0, 0), 0, 0)), (1, (.iconst 0, 1, (0, 0, 0), 0, 0)), (2, (.putfield 3, 3, (12, 0, 0), 0, 1617)), (5, (.aload_n 0, 1, (0, 0, 0), 0, 0)), (6, (.aload_n 0, 1, (0, 0, 0), 0, 0)), (7, (.iload_n 1, 1, (0, 0, 0), 0, 0)), (8, (.iload_n 2, 1, (0, 0, 0), 0, 0)), (9, (.invokevirtual 365, 3, (0, 303, 0), 0, 2075)), (12, (.iconst 1, 1, (0, 0, 0), 1, 0)), (13, (.invokevirtual 272, 3, (0, 209, 0), 0, 1886)), (16, (.ifCond .eq 5, 3, (21, 0, 0), 0, 0)), (19, (.iconst 0, 1, (0, 0, 0), 0, 0)), (20, (.ireturn, 1, (0, 0, 0), 0, 0)), (21, (.aload_n 0, 1, (0, 0, 0), 0, 0)), (22, (.invokevirtual 342, 3, (0, 294, 0), 0, 2035)), (25, (.iconst (-1), 1, (0, 0, 0), (-1), 0)), (26, (.istore 4, 2, (0, 0, 0), 0, 0)), (28, (.iconst 0, 1, (0, 0, 0), 0, 0)), (29, (.istore 5, 2, (0, 0, 0), 0, 0)), (31, (.iconst 0, 1, (0, 0, 0), 0, 0))],
  [(32, (.istore 6, 2, (0, 0, 0), 0, 0)), (34, (.iload 6, 2, (0, 0, 0), 0, 0)), (36, (.aload_n 0, 1, (0, 0, 0), 0, 0)), (37, (.invokevirtual 66, 3, (0, 217, 0), 0, 1742)), (40, (.if_icmp .ge 65, 3, (105, 0, 0), 0, 0)), (43, (.aload_n 0, 1, (0, 0, 0), 0, 0)), (44, (.iload 6, 2, (0, 0, 0), 0, 0)), (46, (.iconst 2, 1, (0, 0, 0), 2, 0)), (47, (.invokevirtual 77, 3, (0, 221, 0), 0, 1905)), (50, (.ifCond .le 6, 3, (56, 0, 0), 0, 0)), (53, (.goto 46, 3, (99, 0, 0), 0, 0)), (56, (.aload_n 0, 1, (0, 0, 0), 0, 0)), (57, (.getfield 13, 3, (12, 1, 0), 0, 1618)), (60, (.iload 6, 2, (0, 0, 0), 0, 0)), (62, (.iconst 2, 1, (0, 0, 0), 2, 0)), (63, (.invokestatic 52, 3, (0, 219, 0), 0, 1763))],
  [(66, (.iload_n 1, 1, (0, 0, 0), 0, 0)), (67, (.iastore, 1, (0, 0, 0), 0, 0)), (68, (.aload_n 0, 1, (0, 0, 0), 0, 0)), (69, (.iload_n 2, 1, (0, 0, 0), 0, 0)), (70, (.iload_n 3, 1, (0, 0, 0), 0, 0)), (71, (.invokevirtual 361, 3, (0, 301, 0), 0, 2067)), (74, (.istore 7, 2, (0, 0, 0), 0, 0)), (76, (.iload 4, 2, (0, 0, 0), 0, 0)), (78, (.ifCond .lt 13, 3, (91, 0, 0), 0, 0)), (81, (.iload 7, 2, (0, 0, 0), 0, 0)), (83, (.iload 5, 2, (0, 0, 0), 0, 0)), (85, (.if_icmp .lt 6, 3, (91, 0, 0), 0, 0)), (88, (.goto 11, 3, (99, 0, 0), 0, 0)), (91, (.iload 6, 2, (0, 0, 0), 0, 0)), (93, (.istore 4, 2, (0, 0, 0), 0, 0)), (95, (.iload 7, 2, (0, 0, 0), 0, 0))],
  [(97, (.istore 5, 2, (0, 0, 0), 0, 0)), (99, (.iinc 6 1, 3, (0, 0, 0), 1, 0)), (102, (.goto (-68), 3, (34, 0, 0), 0, 0)), (105, (.iload 4, 2, (0, 0, 0), 0, 0)), (107, (.ireturn, 1, (0, 0, 0), 0, 0))]]
set_option maxRecDepth 10000 in
def zp305 : List (List (Nat × ZI)) := [[(0, (.aload_n 0, 1, (0, 0, 0), 0, 0)), (1, (.iconst 0, 1, (0, 0, 0), 0, 0)), (2, (.putfield 3, 3, (12, 0, 0), 0, 1617)), (5, (.aload_n 0, 1, (0, 0, 0), 0, 0)), (6, (.aload_n 0, 1, (0, 0, 0), 0, 0)), (7, (.iload_n 1, 1, (0, 0, 0), 0, 0)), (8, (.iload_n 2, 1, (0, 0, 0), 0, 0)), (9, (.invokevirtual 365, 3, (0, 303, 0), 0, 2075)), (12, (.iconst 1, 1, (0, 0, 0), 1, 0)), (13, (.invokevirtual 272, 3, (0, 209, 0), 0, 1886)), (16, (.ifCond .eq 5, 3, (21, 0, 0), 0, 0)), (19, (.iconst 0, 1, (0, 0, 0), 0, 0)), (20, (.ireturn, 1, (0, 0, 0), 0, 0)), (21, (.aload_n 0, 1, (0, 0, 0), 0, 0)), (22, (.invokevirtual 342, 3, (0, 294, 0), 0, 2035)), (25, (.iconst (-1), 1, (0, 0, 0), (-1), 0)), (26, (.istore_n 3, 1, (0, 0, 0), 0, 0)), (27, (.iconst 0, 1, (0, 0, 0), 0, 0)), (28, (.istore 4, 2, (0, 0, 0), 0, 0)), (30, (.iconst 0, 1, (0, 0, 0), 0, 0)), (31, (.istore 5, 2, (0, 0, 0), 0, 0))],
  [(33, (.iload 5, 2, (0, 0, 0), 0, 0)), (35, (.aload_n 0, 1, (0, 0, 0), 0, 0)), (36, (.invokevirtual 66, 3, (0, 217, 0), 0, 1742)), (39, (.if_icmp .ge 108, 3, (147, 0, 0), 0, 0)), (42, (.iconst 0, 1, (0, 0, 0), 0, 0)), (43, (.istore 6, 2, (0, 0, 0), 0, 0)), (45, (.iload 6, 2, (0, 0, 0), 0, 0)), (47, (.iload 5, 2, (0, 0, 0), 0, 0)), (49, (.if_icmp .ge 92, 3, (141, 0, 0), 0, 0)), (52, (.aload_n 0, 1, (0, 0, 0), 0, 0)), (53, (.iload 6, 2, (0, 0, 0), 0, 0)), (55, (.iconst 2, 1, (0, 0, 0), 2, 0)), (56, (.invokevirtual 77, 3, (0, 221, 0), 0, 1905)), (59, (.ifCond .gt 76, 3, (135, 0, 0), 0, 0)), (62, (.aload_n 0, 1, (0, 0, 0), 0, 0)), (63, (.iload 5, 2, (0, 0, 0), 0, 0))],
  [(65, (.iconst 2, 1, (0, 0, 0), 2, 0)), (66, (.invokevirtual 77, 3, (0, 221, 0), 0, 1905)), (69, (.ifCond .le 6, 3, (75, 0, 0), 0, 0)), (72, (.goto 63, 3, (135, 0, 0), 0, 0)), (75, (.aload_n 0, 1, (0, 0, 0), 0, 0)), (76, (.getfield 13, 3, (12, 1, 0), 0, 1618)), (79, (.iload 6, 2, (0, 0, 0), 0, 0)), (81, (.iconst 2, 1, (0, 0, 0), 2, 0)), (82, (.invokestatic 52, 3, (0, 219, 0), 0, 1763)), (85, (.iload_n 1, 1, (0, 0, 0), 0, 0)), (86, (.iastore, 1, (0, 0, 0), 0, 0)), (87, (.aload_n 0, 1, (0, 0, 0), 0, 0)), (88, (.getfield 13, 3, (12, 1, 0), 0, 1618)), (91, (.iload 5, 2, (0, 0, 0), 0, 0)), (93, (.iconst 2, 1, (0, 0, 0), 2, 0)), (94, (.invokestatic 52, 3, (0, 219, 0), 0, 1763))],
  [(97, (.iload_n 1, 1, (0, 0, 0), 0, 0)), (98, (.iastore, 1, (0, 0, 0), 0, 0)), (99, (.aload_n 0, 1, (0, 0, 0), 0, 0)), (100, (.iload_n 2, 1, (0, 0, 0), 0, 0)), (101, (.iconst 0, 1, (0, 0, 0), 0, 0)), (102, (.invokevirtual 361, 3, (0, 301, 0), 0, 2067)), (105, (.istore 7, 2, (0, 0, 0), 0, 0)), (107, (.iload_n 3, 1, (0, 0, 0), 0, 0)), (108, (.ifCond .lt 13, 3, (121, 0, 0), 0, 0)), (111, (.iload 7, 2, (0, 0, 0), 0, 0)), (113, (.iload 4, 2, (0, 0, 0), 0, 0)), (115, (.if_icmp .lt 6, 3, (121, 0, 0), 0, 0)), (118, (.goto 17, 3, (135, 0, 0), 0, 0)), (121, (.iconst 1, 1, (0, 0, 0), 1, 0)), (122, (.iload 6, 2, (0, 0, 0), 0, 0)), (124, (.ishl, 1, (0, 0, 0), 0, 0)), (125, (.iconst 1, 1, (0, 0, 0), 1, 0)), (126, (.iload 5, 2, (0, 0, 0), 0, 0))],
  [(128, (.ishl, 1, (0, 0, 0), 0, 0)), (129, (.ior, 1, (0, 0, 0), 0, 0)), (130, (.istore_n 3, 1, (0, 0, 0), 0, 0)), (131, (.iload 7, 2, (0, 0, 0), 0, 0)), (133, (.istore 4, 2, (0, 0, 0), 0, 0)), (135, (.iinc 6 1, 3, (0, 0, 0), 1, 0)), (138, (.goto (-93), 3, (45, 0, 0), 0, 0)), (141, (.iinc 5 1, 3, (0, 0, 0), 1, 0)), (144, (.goto (-111), 3, (33, 0, 0), 0, 0)), (147, (.iload_n 3, 1, (0, 0, 0), 0, 0)), (148, (.ireturn, 1, (0, 0, 0), 0, 0))]]
set_option maxRecDepth 10000 in
def zp306 : List (List (Nat × ZI)) := [[(0, (.iload_n 1, 1, (0, 0, 0), 0, 0)), (1, (.ifCond .lt 13, 3, (14, 0, 0), 0, 0)), (4, (.iload_n 2, 1, (0, 0, 0), 0, 0)), (5, (.iload_n 3, 1, (0, 0, 0), 0, 0)), (6, (.bipush 24, 2, (0, 0, 0), 24, 0)), (8, (.invokestatic 70, 3, (0, 210, 0), 0, 1902)), (11, (.ifCond .ne 7, 3, (18, 0, 0), 0, 0)), (14, (.iconst 1, 1, (0, 0, 0), 1, 0)), (15, (.goto 4, 3, (19, 0, 0), 0, 0)), (18, (.iconst 0, 1, (0, 0, 0), 0, 0)), (19, (.ireturn, 1, (0, 0, 0), 0, 0))]]
set_option maxRecDepth 10000 in
def zp307 : List (List (Nat × ZI)) := [[(0, (.aload_n 0, 1, (0, 0, 0), 0, 0)), (1, (.iconst 0, 1, (0, 0, 0), 0, 0)), (2, (.putfield 3, 3, (12, 0, 0), 0, 1617)), (5, (.aload_n 0, 1, (0, 0, 0), 0, 0)), (6, (.aload_n 0, 1, (0, 0, 0), 0, 0)), (7, (.iload_n 1, 1, (0, 0, 0), 0, 0)), (8, (.iload_n 2, 1, (0, 0, 0), 0, 0)), (9, (.iconst 0, 1, (0, 0, 0), 0, 0)), (10, (.invokevirtual 368, 3, (0, 306, 0), 0, 2087)), (13, (.iconst 1, 1, (0, 0, 0), 1, 0)), (14, (.invokevirtual 272, 3, (0, 209, 0), 0, 1886)), (17, (.ifCond .eq 5, 3, (22, 0, 0), 0, 0)), (20, (.iconst 0, 1, (0, 0, 0), 0, 0)), (21, (.ireturn, 1, (0, 0, 0), 0, 0)), (22, (.aload_n 0, 1, (0, 0, 0), 0, 0)), (23, (.invokevirtual 342, 3, (0, 294, 0), 0, 2035)), (26, (.iconst (-1), 1, (0, 0, 0), (-1), 0)), (27, (.istore_n 3, 1, (0, 0, 0), 0, 0)), (28, (.iconst 0, 1, (0, 0, 0), 0, 0)), (29, (.istore 4, 2, (0, 0, 0), 0, 0)), (31, (.iload 4, 2, (0, 0, 0), 0, 0))],
  [(33, (.iconst 1, 1, (0, 0, 0), 1, 0)), (34, (.aload_n 0, 1, (0, 0, 0), 0, 0)), (35, (.invokevirtual 74, 3, (0, 218, 0), 0, 1780)), (38, (.ishl, 1, (0, 0, 0), 0, 0)), (39, (.if_icmp .ge 86, 3, (125, 0, 0), 0, 0)), (42, (.iload_n 3, 1, (0, 0, 0), 0, 0)), (43, (.ifCond .lt 18, 3, (61, 0, 0), 0, 0)), (46, (.iload 4, 2, (0, 0, 0), 0, 0)), (48, (.invokestatic 371, 3, (0, 338, 0), 0, 2091)), (51, (.iload_n 3, 1, (0, 0, 0), 0, 0)), (52, (.invokestatic 371, 3, (0, 338, 0), 0, 2091)), (55, (.if_icmp .lt 6, 3, (61, 0, 0), 0, 0)), (58, (.goto 61, 3, (119, 0, 0), 0, 0)), (61, (.iconst 0, 1, (0, 0, 0), 0, 0)), (62, (.istore 5, 2, (0, 0, 0), 0, 0))],
  [(64, (.iload 5, 2, (0, 0, 0), 0, 0)), (66, (.aload_n 0, 1, (0, 0, 0), 0, 0)), (67, (.invokevirtual 74, 3, (0, 218, 0), 0, 1780)), (70, (.if_icmp .ge 32, 3, (102, 0, 0), 0, 0)), (73, (.aload_n 0, 1, (0, 0, 0), 0, 0)), (74, (.iload 5, 2, (0, 0, 0), 0, 0)), (76, (.iconst 1, 1, (0, 0, 0), 1, 0)), (77, (.iload 4, 2, (0, 0, 0), 0, 0)), (79, (.iload 5, 2, (0, 0, 0), 0, 0)), (81, (.invokestatic 376, 3, (0, 211, 0), 0, 2092)), (84, (.ifCond .eq 8, 3, (92, 0, 0), 0, 0)), (87, (.bipush 100, 2, (0, 0, 0), 100, 0)), (89, (.goto 4, 3, (93, 0, 0), 0, 0)), (92, (.iconst 0, 1, (0, 0, 0), 0, 0)), (93, (.invokevirtual 139, 3, (0, 223, 0), 0, 1784))],
  [(96, (.iinc 5 1, 3, (0, 0, 0), 1, 0)), (99, (.goto (-35), 3, (64, 0, 0), 0, 0)), (102, (.aload_n 0, 1, (0, 0, 0), 0, 0)), (103, (.iload_n 2, 1, (0, 0, 0), 0, 0)), (104, (.iconst 0, 1, (0, 0, 0), 0, 0)), (105, (.invokevirtual 361, 3, (0, 301, 0), 0, 2067)), (108, (.iload_n 1, 1, (0, 0, 0), 0, 0)), (109, (.if_icmp .gt 8, 3, (117, 0, 0), 0, 0)), (112, (.iload 4, 2, (0, 0, 0), 0, 0)), (114, (.goto 4, 3, (118, 0, 0), 0, 0)), (117, (.iload_n 3, 1, (0, 0, 0), 0, 0)), (118, (.istore_n 3, 1, (0, 0, 0), 0, 0)), (119, (.iinc 4 1, 3, (0, 0, 0), 1, 0)), (122, (.goto (-91), 3, (31, 0, 0), 0, 0)), (125, (.iload_n 3, 1, (0, 0, 0), 0, 0)), (126, (.ireturn, 1, (0, 0, 0), 0, 0))]]
set_option maxRecDepth 10000 in
def zp308 : List (List (Nat × ZI)) := [[(0, (.aload_n 0, 1, (0, 0, 0), 0, 0)), (1, (.iconst 0, 1, (0, 0, 0), 0, 0)), (2, (.putfield 3, 3, (12, 0, 0), 0, 1617)), (5, (.aload_n 0, 1, (0, 0, 0), 0, 0)), (6, (.iload_n 1, 1, (0, 0, 0), 0, 0)), (7, (.ifCond .ge 7, 3, (14, 0, 0), 0, 0)), (10, (.iconst 1, 1, (0, 0, 0), 1, 0)), (11, (.goto 4, 3, (15, 0, 0), 0, 0)), (14, (.iconst 0, 1, (0, 0, 0), 0, 0)), (15, (.iconst 1, 1, (0, 0, 0), 1, 0)), (16, (.invokevirtual 272, 3, (0, 209, 0), 0, 1886)), (19, (.ifCond .eq 5, 3, (24, 0, 0), 0, 0)), (22, (.iconst 0, 1, (0, 0, 0), 0, 0)), (23, (.ireturn, 1, (0, 0, 0), 0, 0)), (24, (.iconst 0, 1, (0, 0, 0), 0, 0)), (25, (.istore_n 3, 1, (0, 0, 0), 0, 0)), (26, (.iload_n 3, 1, (0, 0, 0), 0, 0)), (27, (.aload_n 0, 1, (0, 0, 0), 0, 0)), (28, (.invokevirtual 66, 3, (0, 217, 0), 0, 1742)), (31, (.if_icmp .ge 31, 3, (62, 0, 0), 0, 0))],
  [(34, (.aload_n 0, 1, (0, 0, 0), 0, 0)), (35, (.getfield 42, 3, (12, 18, 0), 0, 1635)), (38, (.iload_n 3, 1, (0, 0, 0), 0, 0)), (39, (.aload_n 0, 1, (0, 0, 0), 0, 0)), (40, (.iload_n 3, 1, (0, 0, 0), 0, 0)), (41, (.iconst 3, 1, (0, 0, 0), 3, 0)), (42, (.invokestatic 52, 3, (0, 219, 0), 0, 1763)), (45, (.aload_n 0, 1, (0, 0, 0), 0, 0)), (46, (.iconst 3, 1, (0, 0, 0), 3, 0)), (47, (.iconst 0, 1, (0, 0, 0), 0, 0)), (48, (.iload_n 3, 1, (0, 0, 0), 0, 0)), (49, (.invokevirtual 297, 3, (0, 270, 0), 0, 1925)), (52, (.invokevirtual 316, 3, (0, 281, 0), 0, 1994)), (55, (.iastore, 1, (0, 0, 0), 0, 0)), (56, (.iinc 3 1, 3, (0, 0, 0), 1, 0)), (59, (.goto (-33), 3, (26, 0, 0), 0, 0)), (62, (.aload_n 0, 1, (0, 0, 0), 0, 0)), (63, (.invokevirtual 352, 3, (0, 298, 0), 0, 2047))],
  [(66, (.istore_n 3, 1, (0, 0, 0), 0, 0)), (67, (.iconst (-1), 1, (0, 0, 0), (-1), 0)), (68, (.istore 4, 2, (0, 0, 0), 0, 0)), (70, (.iconst 0, 1, (0, 0, 0), 0, 0)), (71, (.istore 5, 2, (0, 0, 0), 0, 0)), (73, (.iconst 0, 1, (0, 0, 0), 0, 0)), (74, (.istore 6, 2, (0, 0, 0), 0, 0)), (76, (.iload 6, 2, (0, 0, 0), 0, 0)), (78, (.iconst 1, 1, (0, 0, 0), 1, 0)), (79, (.aload_n 0, 1, (0, 0, 0), 0, 0)), (80, (.invokevirtual 66, 3, (0, 217, 0), 0, 1742)), (83, (.ishl, 1, (0, 0, 0), 0, 0)), (84, (.if_icmp .ge 128, 3, (212, 0, 0), 0, 0)), (87, (.iload_n 3, 1, (0, 0, 0), 0, 0)), (88, (.istore 7, 2, (0, 0, 0), 0, 0)), (90, (.iconst 0, 1, (0, 0, 0), 0, 0)), (91, (.istore 8, 2, (0, 0, 0), 0, 0)), (93, (.iconst 1, 1, (0, 0, 0), 1, 0)), (94, (.istore 9, 2, (0, 0, 0), 0, 0))],
  [(96, (.iconst 0, 1, (0, 0, 0), 0, 0)), (97, (.istore 10, 2, (0, 0, 0), 0, 0)), (99, (.iload 10, 2, (0, 0, 0), 0, 0)), (101, (.aload_n 0, 1, (0, 0, 0), 0, 0)), (102, (.invokevirtual 66, 3, (0, 217, 0), 0, 1742)), (105, (.if_icmp .ge 67, 3, (172, 0, 0), 0, 0)), (108, (.iload 6, 2, (0, 0, 0), 0, 0)), (110, (.iload 10, 2, (0, 0, 0), 0, 0)), (112, (.invokestatic 376, 3, (0, 211, 0), 0, 2092)), (115, (.ifCond .ne 6, 3, (121, 0, 0), 0, 0)), (118, (.goto 48, 3, (166, 0, 0), 0, 0)), (121, (.iload 9, 2, (0, 0, 0), 0, 0)), (123, (.ifCond .eq 16, 3, (139, 0, 0), 0, 0)), (126, (.aload_n 0, 1, (0, 0, 0), 0, 0)), (127, (.iload 10, 2, (0, 0, 0), 0, 0))],
  [(129, (.invokevirtual 339, 3, (0, 230, 0), 0, 2051)), (132, (.ifCond .eq 7, 3, (139, 0, 0), 0, 0)), (135, (.iconst 1, 1, (0, 0, 0), 1, 0)), (136, (.goto 4, 3, (140, 0, 0), 0, 0)), (139, (.iconst 0, 1, (0, 0, 0), 0, 0)), (140, (.istore 9, 2, (0, 0, 0), 0, 0)), (142, (.iload 7, 2, (0, 0, 0), 0, 0)), (144, (.aload_n 0, 1, (0, 0, 0), 0, 0)), (145, (.getfield 42, 3, (12, 18, 0), 0, 1635)), (148, (.iload 10, 2, (0, 0, 0), 0, 0)), (150, (.iaload, 1, (0, 0, 0), 0, 0)), (151, (.isub, 1, (0, 0, 0), 0, 0)), (152, (.istore 7, 2, (0, 0, 0), 0, 0)), (154, (.iload 8, 2, (0, 0, 0), 0, 0)), (156, (.aload_n 0, 1, (0, 0, 0), 0, 0)), (157, (.iload 10, 2, (0, 0, 0), 0, 0)), (159, (.iconst 1, 1, (0, 0, 0), 1, 0))],
  [(160, (.invokevirtual 77, 3, (0, 221, 0), 0, 1905)), (163, (.iadd, 1, (0, 0, 0), 0, 0)), (164, (.istore 8, 2, (0, 0, 0), 0, 0)), (166, (.iinc 10 1, 3, (0, 0, 0), 1, 0)), (169, (.goto (-70), 3, (99, 0, 0), 0, 0)), (172, (.iload 9, 2, (0, 0, 0), 0, 0)), (174, (.ifCond .eq 32, 3, (206, 0, 0), 0, 0)), (177, (.iload 7, 2, (0, 0, 0), 0, 0)), (179, (.iload_n 1, 1, (0, 0, 0), 0, 0)), (180, (.if_icmp .gt 26, 3, (206, 0, 0), 0, 0)), (183, (.iload 4, 2, (0, 0, 0), 0, 0)), (185, (.ifCond .lt 13, 3, (198, 0, 0), 0, 0)), (188, (.iload 8, 2, (0, 0, 0), 0, 0)), (190, (.iload 5, 2, (0, 0, 0), 0, 0))],
  [(192, (.if_icmp .lt 6, 3, (198, 0, 0), 0, 0)), (195, (.goto 11, 3, (206, 0, 0), 0, 0)), (198, (.iload 6, 2, (0, 0, 0), 0, 0)), (200, (.istore 4, 2, (0, 0, 0), 0, 0)), (202, (.iload 8, 2, (0, 0, 0), 0, 0)), (204, (.istore 5, 2, (0, 0, 0), 0, 0)), (206, (.iinc 6 1, 3, (0, 0, 0), 1, 0)), (209, (.goto (-133), 3, (76, 0, 0), 0, 0)), (212, (.iload_n 2, 1, (0, 0, 0), 0, 0)), (213, (.ifCond .ne 8, 3, (221, 0, 0), 0, 0)), (216, (.iload 4, 2, (0, 0, 0), 0, 0)), (218, (.ifCond .ge 8, 3, (226, 0, 0), 0, 0)), (221, (.iload 4, 2, (0, 0, 0), 0, 0)), (223, (.goto 5, 3, (228, 0, 0), 0, 0))],
  [(226, (.iload 5, 2, (0, 0, 0), 0, 0)), (228, (.ireturn, 1, (0, 0, 0), 0, 0))]]
set_option maxRecDepth 10000 in
def zp309 : List (List (Nat × ZI)) := [[(0, (.iconst 0, 1, (0, 0, 0), 0, 0)), (1, (.istore_n 1, 1, (0, 0, 0), 0, 0)), (2, (.iload_n 1, 1, (0, 0, 0), 0, 0)), (3, (.aload_n 0, 1, (0, 0, 0), 0, 0)), (4, (.invokevirtual 66, 3, (0, 217, 0), 0, 1742)), (7, (.if_icmp .ge 23, 3, (30, 0, 0), 0, 0)), (10, (.aload_n 0, 1, (0, 0, 0), 0, 0)), (11, (.iload_n 1, 1, (0, 0, 0), 0, 0)), (12, (.invokevirtual 339, 3, (0, 230, 0), 0, 2051)), (15, (.ifCond .eq 9, 3, (24, 0, 0), 0, 0)), (18, (.aload_n 0, 1, (0, 0, 0), 0, 0)), (19, (.iload_n 1, 1, (0, 0, 0), 0, 0)), (20, (.invokevirtual 330, 3, (0, 286, 0), 0, 2003)), (23, (.pop, 1, (0, 0, 0), 0, 0)), (24, (.iinc 1 1, 3, (0, 0, 0), 1, 0)), (27, (.goto (-25), 3, (2, 0, 0), 0, 0)), (30, (.return_, 1, (0, 0, 0), 0, 0))]]
set_option maxRecDepth 10000 in
def zp310 : List (List (Nat × ZI)) := [[(0, (.iconst 1, 1, (0, 0, 0), 1, 0)), (1, (.istore 4, 2, (0, 0, 0), 0, 0)), (3, (.iconst 1, 1, (0, 0, 0), 1, 0)), (4, (.istore 5, 2, (0, 0, 0), 0, 0)), (6, (.iload 5, 2, (0, 0, 0), 0, 0)), (8, (.iload_n 2, 1, (0, 0, 0), 0, 0)), (9, (.if_icmp .gt 45, 3, (54, 0, 0), 0, 0)), (12, (.iload 4, 2, (0, 0, 0), 0, 0)), (14, (.ifCond .eq 40, 3, (54, 0, 0), 0, 0)), (17, (.aload_n 0, 1, (0, 0, 0), 0, 0)), (18, (.invokevirtual 328, 3, (0, 284, 0), 0, 1973)), (21, (.pop, 1, (0, 0, 0), 0, 0)), (22, (.iload 5, 2, (0, 0, 0), 0, 0)), (24, (.iload_n 3, 1, (0, 0, 0), 0, 0)), (25, (.irem, 1, (0, 0, 0), 0, 0)), (26, (.ifCond .ne 7, 3, (33, 0, 0), 0, 0)), (29, (.aload_n 0, 1, (0, 0, 0), 0, 0)), (30, (.invokevirtual 379, 3, (0, 309, 0), 0, 2107))],
  [(33, (.aload_n 0, 1, (0, 0, 0), 0, 0)), (34, (.invokevirtual 349, 3, (0, 297, 0), 0, 2043)), (37, (.iload_n 1, 1, (0, 0, 0), 0, 0)), (38, (.if_icmp .gt 7, 3, (45, 0, 0), 0, 0)), (41, (.iconst 1, 1, (0, 0, 0), 1, 0)), (42, (.goto 4, 3, (46, 0, 0), 0, 0)), (45, (.iconst 0, 1, (0, 0, 0), 0, 0)), (46, (.istore 4, 2, (0, 0, 0), 0, 0)), (48, (.iinc 5 1, 3, (0, 0, 0), 1, 0)), (51, (.goto (-45), 3, (6, 0, 0), 0, 0)), (54, (.aload_n 0, 1, (0, 0, 0), 0, 0)), (55, (.invokevirtual 358, 3, (0, 295, 0), 0, 2059)), (58, (.iload 4, 2, (0, 0, 0), 0, 0)), (60, (.ireturn, 1, (0, 0, 0), 0, 0))]]
set_option maxRecDepth 10000 in
def zp311 : List (List (Nat × ZI)) := [[(0, (.aload_n 0, 1, (0, 0, 0), 0, 0)), (1, (.iconst 0, 1, (0, 0, 0), 0, 0)), (2, (.putfield 3, 3, (12, 0, 0), 0, 1617)), (5, (.aload_n 0, 1, (0, 0, 0), 0, 0)), (6, (.aload_n 0, 1, (0, 0, 0), 0, 0)), (7, (.iload_n 1, 1, (0, 0, 0), 0, 0)), (8, (.iload_n 2, 1, (0, 0, 0), 0, 0)), (9, (.iconst 1, 1, (0, 0, 0), 1, 0)), (10, (.invokevirtual 368, 3, (0, 306, 0), 0, 2087)), (13, (.iconst 1, 1, (0, 0, 0), 1, 0)), (14, (.invokevirtual 272, 3, (0, 209, 0), 0, 1886)), (17, (.ifCond .eq 5, 3, (22, 0, 0), 0, 0)), (20, (.iconst 0, 1, (0, 0, 0), 0, 0)), (21, (.ireturn, 1, (0, 0, 0), 0, 0)), (22, (.aload_n 0, 1, (0, 0, 0), 0, 0)), (23, (.invokevirtual 342, 3, (0, 294, 0), 0, 2035)), (26, (.iload_n 2, 1, (0, 0, 0), 0, 0)), (27, (.istore_n 3, 1, (0, 0, 0), 0, 0)), (28, (.iload_n 3, 1, (0, 0, 0), 0, 0)), (29, (.ifCond .le 19, 3, (48, 0, 0), 0, 0))],
  [(32, (.aload_n 0, 1, (0, 0, 0), 0, 0)), (33, (.iload_n 1, 1, (0, 0, 0), 0, 0)), (34, (.iload_n 2, 1, (0, 0, 0), 0, 0)), (35, (.iload_n 3, 1, (0, 0, 0), 0, 0)), (36, (.invokevirtual 382, 3, (0, 310, 0), 0, 2103)), (39, (.ifCond .ne 9, 3, (48, 0, 0), 0, 0)), (42, (.iinc 3 (-1), 3, (0, 0, 0), (-1), 0)), (45, (.goto (-17), 3, (28, 0, 0), 0, 0)), (48, (.iload_n 3, 1, (0, 0, 0), 0, 0)), (49, (.ifCond .ne 7, 3, (56, 0, 0), 0, 0)), (52, (.iconst (-1), 1, (0, 0, 0), (-1), 0)), (53, (.goto 4, 3, (57, 0, 0), 0, 0)), (56, (.iload_n 3, 1, (0, 0, 0), 0, 0)), (57, (.ireturn, 1, (0, 0, 0), 0, 0))]]
set_option maxRecDepth 10000 in
def zp312 : List (List (Nat × ZI)) := [[(0, (.aload_n 0, 1, (0, 0, 0), 0, 0)), (1, (.iconst 0, 1, (0, 0, 0), 0, 0)), (2, (.putfield 3, 3, (12, 0, 0), 0, 1617)), (5, (.aload_n 0, 1, (0, 0, 0), 0, 0)), (6, (.iload_n 1, 1, (0, 0, 0), 0, 0)), (7, (.iconst 1, 1, (0, 0, 0), 1, 0)), (8, (.ldc 197, 2, (0, 0, 0), 99999, 1834)), (10, (.invokestatic 70, 3, (0, 210, 0), 0, 1902)), (13, (.ifCond .ne 7, 3, (20, 0, 0), 0, 0)), (16, (.iconst 1, 1, (0, 0, 0), 1, 0)), (17, (.goto 4, 3, (21, 0, 0), 0, 0)), (20, (.iconst 0, 1, (0, 0, 0), 0, 0)), (21, (.iconst 1, 1, (0, 0, 0), 1, 0)), (22, (.invokevirtual 272, 3, (0, 209, 0), 0, 1886)), (25, (.ifCond .eq 5, 3, (30, 0, 0), 0, 0)), (28, (.iconst 0, 1, (0, 0, 0), 0, 0)), (29, (.ireturn, 1, (0, 0, 0), 0, 0)), (30, (.aload_n 0, 1, (0, 0, 0), 0, 0)), (31, (.invokevirtual 342, 3, (0, 294, 0), 0, 2035))],
  [(34, (.iconst 0, 1, (0, 0, 0), 0, 0)), (35, (.istore_n 2, 1, (0, 0, 0), 0, 0)), (36, (.iload_n 2, 1, (0, 0, 0), 0, 0)), (37, (.sipush 300, 3, (0, 0, 0), 300, 0)), (40, (.if_icmp .gt 22, 3, (62, 0, 0), 0, 0)), (43, (.aload_n 0, 1, (0, 0, 0), 0, 0)), (44, (.invokevirtual 349, 3, (0, 297, 0), 0, 2043)), (47, (.iload_n 1, 1, (0, 0, 0), 0, 0)), (48, (.if_icmp .ge 14, 3, (62, 0, 0), 0, 0)), (51, (.aload_n 0, 1, (0, 0, 0), 0, 0)), (52, (.invokevirtual 328, 3, (0, 284, 0), 0, 1973)), (55, (.pop, 1, (0, 0, 0), 0, 0)), (56, (.iinc 2 1, 3, (0, 0, 0), 1, 0)), (59, (.goto (-23), 3, (36, 0, 0), 0, 0)), (62, (.aload_n 0, 1, (0, 0, 0), 0, 0)), (63, (.invokevirtual 358, 3, (0, 295, 0), 0, 2059))],
  [(66, (.iload_n 2, 1, (0, 0, 0), 0, 0)), (67, (.sipush 300, 3, (0, 0, 0), 300, 0)), (70, (.if_icmp .le 7, 3, (77, 0, 0), 0, 0)), (73, (.iconst (-1), 1, (0, 0, 0), (-1), 0)), (74, (.goto 4, 3, (78, 0, 0), 0, 0)), (77, (.iload_n 2, 1, (0, 0, 0), 0, 0)), (78, (.ireturn, 1, (0, 0, 0), 0, 0))]]
set_option maxRecDepth 10000 in
def zp313 : List (List (Nat × ZI)) := [[(0, (.aload_n 0, 1, (0, 0, 0), 0, 0)), (1, (.iconst 0, 1, (0, 0, 0), 0, 0)), (2, (.putfield 3, 3, (12, 0, 0), 0, 1617)), (5, (.aload_n 0, 1, (0, 0, 0), 0, 0)), (6, (.invokevirtual 342, 3, (0, 294, 0), 0, 2035)), (9, (.iconst 0, 1, (0, 0, 0), 0, 0)), (10, (.istore_n 1, 1, (0, 0, 0), 0, 0)), (11, (.iload_n 1, 1, (0, 0, 0), 0, 0)), (12, (.sipush 300, 3, (0, 0, 0), 300, 0)), (15, (.if_icmp .gt 31, 3, (46, 0, 0), 0, 0)), (18, (.aload_n 0, 1, (0, 0, 0), 0, 0)), (19, (.getfield 13, 3, (12, 1, 0), 0, 1618)), (22, (.bipush 8, 2, (0, 0, 0), 8, 0)), (24, (.iaload, 1, (0, 0, 0), 0, 0)), (25, (.aload_n 0, 1, (0, 0, 0), 0, 0)), (26, (.getfield 13, 3, (12, 1, 0), 0, 1618)), (29, (.bipush 9, 2, (0, 0, 0), 9, 0)), (31, (.iaload, 1, (0, 0, 0), 0, 0))],
  [(32, (.if_icmp .ge 14, 3, (46, 0, 0), 0, 0)), (35, (.aload_n 0, 1, (0, 0, 0), 0, 0)), (36, (.invokevirtual 328, 3, (0, 284, 0), 0, 1973)), (39, (.pop, 1, (0, 0, 0), 0, 0)), (40, (.iinc 1 1, 3, (0, 0, 0), 1, 0)), (43, (.goto (-32), 3, (11, 0, 0), 0, 0)), (46, (.aload_n 0, 1, (0, 0, 0), 0, 0)), (47, (.invokevirtual 358, 3, (0, 295, 0), 0, 2059)), (50, (.iload_n 1, 1, (0, 0, 0), 0, 0)), (51, (.sipush 300, 3, (0, 0, 0), 300, 0)), (54, (.if_icmp .le 7, 3, (61, 0, 0), 0, 0)), (57, (.iconst (-1), 1, (0, 0, 0), (-1), 0)), (58, (.goto 4, 3, (62, 0, 0), 0, 0)), (61, (.iload_n 1, 1, (0, 0, 0), 0, 0)), (62, (.ireturn, 1, (0, 0, 0), 0, 0))]]
set_option maxRecDepth 10000 in
def zp314 : List (List (Nat × ZI)) := [[(0, (.aload_n 0, 1, (0, 0, 0), 0, 0)), (1, (.iconst 0, 1, (0, 0, 0), 0, 0)), (2, (.putfield 3, 3, (12, 0, 0), 0, 1617)), (5, (.aload_n 0, 1, (0, 0, 0), 0, 0)), (6, (.iload_n 1, 1, (0, 0, 0), 0, 0)), (7, (.ifCond .ge 7, 3, (14, 0, 0), 0, 0)), (10, (.iconst 1, 1, (0, 0, 0), 1, 0)), (11, (.goto 4, 3, (15, 0, 0), 0, 0)), (14, (.iconst 0, 1, (0, 0, 0), 0, 0)), (15, (.iconst 1, 1, (0, 0, 0), 1, 0)), (16, (.invokevirtual 272, 3, (0, 209, 0), 0, 1886)), (19, (.ifCond .eq 5, 3, (24, 0, 0), 0, 0)), (22, (.iconst 0, 1, (0, 0, 0), 0, 0)), (23, (.ireturn, 1, (0, 0, 0), 0, 0)), (24, (.aload_n 0, 1, (0, 0, 0), 0, 0)), (25, (.invokevirtual 342, 3, (0, 294, 0), 0, 2035)), (28, (.iconst 0, 1, (0, 0, 0), 0, 0)), (29, (.istore_n 2, 1, (0, 0, 0), 0, 0)), (30, (.iload_n 2, 1, (0, 0, 0), 0, 0)), (31, (.bipush 99, 2, (0, 0, 0), 99, 0))],
  [(33, (.if_icmp .gt 21, 3, (54, 0, 0), 0, 0)), (36, (.aload_n 0, 1, (0, 0, 0), 0, 0)), (37, (.invokevirtual 352, 3, (0, 298, 0), 0, 2047)), (40, (.iload_n 1, 1, (0, 0, 0), 0, 0)), (41, (.if_icmp .le 13, 3, (54, 0, 0), 0, 0)), (44, (.aload_n 0, 1, (0, 0, 0), 0, 0)), (45, (.invokevirtual 379, 3, (0, 309, 0), 0, 2107)), (48, (.iinc 2 1, 3, (0, 0, 0), 1, 0)), (51, (.goto (-21), 3, (30, 0, 0), 0, 0)), (54, (.aload_n 0, 1, (0, 0, 0), 0, 0)), (55, (.invokevirtual 358, 3, (0, 295, 0), 0, 2059)), (58, (.iload_n 2, 1, (0, 0, 0), 0, 0)), (59, (.bipush 99, 2, (0, 0, 0), 99, 0)), (61, (.if_icmp .le 7, 3, (68, 0, 0), 0, 0))],
  [(64, (.iconst (-1), 1, (0, 0, 0), (-1), 0)), (65, (.goto 4, 3, (69, 0, 0), 0, 0)), (68, (.iload_n 2, 1, (0, 0, 0), 0, 0)), (69, (.ireturn, 1, (0, 0, 0), 0, 0))]]
set_option maxRecDepth 10000 in
def zp315 : List (List (Nat × ZI)) := [[(0, (.aload_n 0, 1, (0, 0, 0), 0, 0)), (1, (.iconst 0, 1, (0, 0, 0), 0, 0)), (2, (.putfield 3, 3, (12, 0, 0), 0, 1617)), (5, (.aload_n 0, 1, (0, 0, 0), 0, 0)), (6, (.aload_n 0, 1, (0, 0, 0), 0, 0)), (7, (.iload_n 1, 1, (0, 0, 0), 0, 0)), (8, (.invokevirtual 288, 3, (0, 228, 0), 0, 1898)), (11, (.iconst 1, 1, (0, 0, 0), 1, 0)), (12, (.invokevirtual 272, 3, (0, 209, 0), 0, 1886)), (15, (.ifCond .ne 26, 3, (41, 0, 0), 0, 0)), (18, (.aload_n 0, 1, (0, 0, 0), 0, 0)), (19, (.iload_n 2, 1, (0, 0, 0), 0, 0)), (20, (.iconst 0, 1, (0, 0, 0), 0, 0)), (21, (.bipush 24, 2, (0, 0, 0), 24, 0)), (23, (.invokestatic 70, 3, (0, 210, 0), 0, 1902)), (26, (.ifCond .ne 7, 3, (33, 0, 0), 0, 0)), (29, (.iconst 1, 1, (0, 0, 0), 1, 0)), (30, (.goto 4, 3, (34, 0, 0), 0, 0))],
  [(33, (.iconst 0, 1, (0, 0, 0), 0, 0)), (34, (.iconst 2, 1, (0, 0, 0), 2, 0)), (35, (.invokevirtual 272, 3, (0, 209, 0), 0, 1886)), (38, (.ifCond .eq 5, 3, (43, 0, 0), 0, 0)), (41, (.iconst 0, 1, (0, 0, 0), 0, 0)), (42, (.ireturn, 1, (0, 0, 0), 0, 0)), (43, (.aload_n 0, 1, (0, 0, 0), 0, 0)), (44, (.invokevirtual 342, 3, (0, 294, 0), 0, 2035)), (47, (.iconst (-1), 1, (0, 0, 0), (-1), 0)), (48, (.istore_n 3, 1, (0, 0, 0), 0, 0)), (49, (.iconst 0, 1, (0, 0, 0), 0, 0)), (50, (.istore 4, 2, (0, 0, 0), 0, 0)), (52, (.iconst 0, 1, (0, 0, 0), 0, 0)), (53, (.istore 5, 2, (0, 0, 0), 0, 0)), (55, (.iload 5, 2, (0, 0, 0), 0, 0)), (57, (.iload_n 2, 1, (0, 0, 0), 0, 0)), (58, (.if_icmp .gt 61, 3, (119, 0, 0), 0, 0)), (61, (.aload_n 0, 1, (0, 0, 0), 0, 0)), (62, (.iload 5, 2, (0, 0, 0), 0, 0))],
  [(64, (.invokevirtual 345, 3, (0, 296, 0), 0, 2039)), (67, (.aload_n 0, 1, (0, 0, 0), 0, 0)), (68, (.iload_n 1, 1, (0, 0, 0), 0, 0)), (69, (.invokevirtual 330, 3, (0, 286, 0), 0, 2003)), (72, (.pop, 1, (0, 0, 0), 0, 0)), (73, (.aload_n 0, 1, (0, 0, 0), 0, 0)), (74, (.iload_n 2, 1, (0, 0, 0), 0, 0)), (75, (.iload 5, 2, (0, 0, 0), 0, 0)), (77, (.isub, 1, (0, 0, 0), 0, 0)), (78, (.invokevirtual 345, 3, (0, 296, 0), 0, 2039)), (81, (.aload_n 0, 1, (0, 0, 0), 0, 0)), (82, (.iload_n 1, 1, (0, 0, 0), 0, 0)), (83, (.invokevirtual 275, 3, (0, 226, 0), 0, 1909)), (86, (.istore 6, 2, (0, 0, 0), 0, 0)), (88, (.aload_n 0, 1, (0, 0, 0), 0, 0)), (89, (.invokevirtual 358, 3, (0, 295, 0), 0, 2059)), (92, (.iload_n 3, 1, (0, 0, 0), 0, 0)), (93, (.ifCond .lt 13, 3, (106, 0, 0), 0, 0))],
  [(96, (.iload 6, 2, (0, 0, 0), 0, 0)), (98, (.iload 4, 2, (0, 0, 0), 0, 0)), (100, (.if_icmp .lt 6, 3, (106, 0, 0), 0, 0)), (103, (.goto 10, 3, (113, 0, 0), 0, 0)), (106, (.iload 5, 2, (0, 0, 0), 0, 0)), (108, (.istore_n 3, 1, (0, 0, 0), 0, 0)), (109, (.iload 6, 2, (0, 0, 0), 0, 0)), (111, (.istore 4, 2, (0, 0, 0), 0, 0)), (113, (.iinc 5 1, 3, (0, 0, 0), 1, 0)), (116, (.goto (-61), 3, (55, 0, 0), 0, 0)), (119, (.iload_n 3, 1, (0, 0, 0), 0, 0)), (120, (.ireturn, 1, (0, 0, 0), 0, 0))]]
set_option maxRecDepth 10000 in
def zp316 : List (List (Nat × ZI)) := [[(0, (.aload_n 0, 1, (0, 0, 0), 0, 0)), (1, (.iload_n 3, 1, (0, 0, 0), 0, 0)), (2, (.iconst 0, 1, (0, 0, 0), 0, 0)), (3, (.invokevirtual 361, 3, (0, 301, 0), 0, 2067)), (6, (.istore 4, 2, (0, 0, 0), 0, 0)), (8, (.iconst 0, 1, (0, 0, 0), 0, 0)), (9, (.istore 5, 2, (0, 0, 0), 0, 0)), (11, (.iload 5, 2, (0, 0, 0), 0, 0)), (13, (.iload_n 3, 1, (0, 0, 0), 0, 0)), (14, (.if_icmp .ge 29, 3, (43, 0, 0), 0, 0)), (17, (.aload_n 0, 1, (0, 0, 0), 0, 0)), (18, (.invokevirtual 328, 3, (0, 284, 0), 0, 1973)), (21, (.pop, 1, (0, 0, 0), 0, 0)), (22, (.aload_n 0, 1, (0, 0, 0), 0, 0)), (23, (.iload_n 1, 1, (0, 0, 0), 0, 0)), (24, (.invokevirtual 285, 3, (0, 224, 0), 0, 1917)), (27, (.iload_n 2, 1, (0, 0, 0), 0, 0)), (28, (.if_icmp .ne 9, 3, (37, 0, 0), 0, 0)), (31, (.aload_n 0, 1, (0, 0, 0), 0, 0))],
  [(32, (.iload_n 1, 1, (0, 0, 0), 0, 0)), (33, (.invokevirtual 333, 3, (0, 287, 0), 0, 2011)), (36, (.pop, 1, (0, 0, 0), 0, 0)), (37, (.iinc 5 1, 3, (0, 0, 0), 1, 0)), (40, (.goto (-29), 3, (11, 0, 0), 0, 0)), (43, (.aload_n 0, 1, (0, 0, 0), 0, 0)), (44, (.invokevirtual 349, 3, (0, 297, 0), 0, 2043)), (47, (.istore 5, 2, (0, 0, 0), 0, 0)), (49, (.aload_n 0, 1, (0, 0, 0), 0, 0)), (50, (.invokevirtual 358, 3, (0, 295, 0), 0, 2059)), (53, (.iload 4, 2, (0, 0, 0), 0, 0)), (55, (.iload 5, 2, (0, 0, 0), 0, 0)), (57, (.isub, 1, (0, 0, 0), 0, 0)), (58, (.ireturn, 1, (0, 0, 0), 0, 0))]]
set_option maxRecDepth 10000 in
def zp317 : List (List (Nat × ZI)) := [[(0, (.aload_n 0, 1, (0, 0, 0), 0, 0)), (1, (.iconst 0, 1, (0, 0, 0), 0, 0)), (2, (.putfield 3, 3, (12, 0, 0), 0, 1617)), (5, (.aload_n 0, 1, (0, 0, 0), 0, 0)), (6, (.aload_n 0, 1, (0, 0, 0), 0, 0)), (7, (.iload_n 1, 1, (0, 0, 0), 0, 0)), (8, (.invokevirtual 300, 3, (0, 229, 0), 0, 1941)), (11, (.ifCond .ne 11, 3, (22, 0, 0), 0, 0)), (14, (.aload_n 0, 1, (0, 0, 0), 0, 0)), (15, (.iload_n 2, 1, (0, 0, 0), 0, 0)), (16, (.invokevirtual 288, 3, (0, 228, 0), 0, 1898)), (19, (.ifCond .eq 7, 3, (26, 0, 0), 0, 0)), (22, (.iconst 1, 1, (0, 0, 0), 1, 0)), (23, (.goto 4, 3, (27, 0, 0), 0, 0)), (26, (.iconst 0, 1, (0, 0, 0), 0, 0)), (27, (.iconst 1, 1, (0, 0, 0), 1, 0)), (28, (.invokevirtual 272, 3, (0, 209, 0), 0, 1886)), (31, (.ifCond .ne 26, 3, (57, 0, 0), 0, 0))],
  [(34, (.aload_n 0, 1, (0, 0, 0), 0, 0)), (35, (.iload_n 3, 1, (0, 0, 0), 0, 0)), (36, (.iconst 0, 1, (0, 0, 0), 0, 0)), (37, (.bipush 24, 2, (0, 0, 0), 24, 0)), (39, (.invokestatic 70, 3, (0, 210, 0), 0, 1902)), (42, (.ifCond .ne 7, 3, (49, 0, 0), 0, 0)), (45, (.iconst 1, 1, (0, 0, 0), 1, 0)), (46, (.goto 4, 3, (50, 0, 0), 0, 0)), (49, (.iconst 0, 1, (0, 0, 0), 0, 0)), (50, (.iconst 2, 1, (0, 0, 0), 2, 0)), (51, (.invokevirtual 272, 3, (0, 209, 0), 0, 1886)), (54, (.ifCond .eq 5, 3, (59, 0, 0), 0, 0)), (57, (.iconst 0, 1, (0, 0, 0), 0, 0)), (58, (.ireturn, 1, (0, 0, 0), 0, 0)), (59, (.aload_n 0, 1, (0, 0, 0), 0, 0)), (60, (.invokevirtual 342, 3, (0, 294, 0), 0, 2035)), (63, (.aload_n 0, 1, (0, 0, 0), 0, 0))],
  [(64, (.iload_n 1, 1, (0, 0, 0), 0, 0)), (65, (.iload_n 2, 1, (0, 0, 0), 0, 0)), (66, (.iload_n 3, 1, (0, 0, 0), 0, 0)), (67, (.invokevirtual 385, 3, (0, 316, 0), 0, 2131)), (70, (.ireturn, 1, (0, 0, 0), 0, 0))]]
set_option maxRecDepth 10000 in
def zp318 : List (List (Nat × ZI)) := [[(0, (.aload_n 0, 1, (0, 0, 0), 0, 0)), (1, (.iconst 0, 1, (0, 0, 0), 0, 0)), (2, (.putfield 3, 3, (12, 0, 0), 0, 1617)), (5, (.aload_n 0, 1, (0, 0, 0), 0, 0)), (6, (.aload_n 0, 1, (0, 0, 0), 0, 0)), (7, (.iload_n 1, 1, (0, 0, 0), 0, 0)), (8, (.invokevirtual 300, 3, (0, 229, 0), 0, 1941)), (11, (.iconst 1, 1, (0, 0, 0), 1, 0)), (12, (.invokevirtual 272, 3, (0, 209, 0), 0, 1886)), (15, (.ifCond .ne 26, 3, (41, 0, 0), 0, 0)), (18, (.aload_n 0, 1, (0, 0, 0), 0, 0)), (19, (.iload_n 2, 1, (0, 0, 0), 0, 0)), (20, (.iconst 0, 1, (0, 0, 0), 0, 0)), (21, (.bipush 24, 2, (0, 0, 0), 24, 0)), (23, (.invokestatic 70, 3, (0, 210, 0), 0, 1902)), (26, (.ifCond .ne 7, 3, (33, 0, 0), 0, 0)), (29, (.iconst 1, 1, (0, 0, 0), 1, 0)), (30, (.goto 4, 3, (34, 0, 0), 0, 0))],
  [(33, (.iconst 0, 1, (0, 0, 0), 0, 0)), (34, (.iconst 2, 1, (0, 0, 0), 2, 0)), (35, (.invokevirtual 272, 3, (0, 209, 0), 0, 1886)), (38, (.ifCond .eq 5, 3, (43, 0, 0), 0, 0)), (41, (.iconst 0, 1, (0, 0, 0), 0, 0)), (42, (.ireturn, 1, (0, 0, 0), 0, 0)), (43, (.aload_n 0, 1, (0, 0, 0), 0, 0)), (44, (.invokevirtual 342, 3, (0, 294, 0), 0, 2035)), (47, (.aload_n 0, 1, (0, 0, 0), 0, 0)), (48, (.iload_n 1, 1, (0, 0, 0), 0, 0)), (49, (.invokevirtual 303, 3, (0, 275, 0), 0, 1949)), (52, (.istore_n 3, 1, (0, 0, 0), 0, 0)), (53, (.iconst (-1), 1, (0, 0, 0), (-1), 0)), (54, (.istore 4, 2, (0, 0, 0), 0, 0)), (56, (.iconst 0, 1, (0, 0, 0), 0, 0)), (57, (.istore 5, 2, (0, 0, 0), 0, 0)), (59, (.iconst 0, 1, (0, 0, 0), 0, 0)), (60, (.istore 6, 2, (0, 0, 0), 0, 0)), (62, (.iload 6, 2, (0, 0, 0), 0, 0))],
  [(64, (.aload_n 0, 1, (0, 0, 0), 0, 0)), (65, (.invokevirtual 66, 3, (0, 217, 0), 0, 1742)), (68, (.if_icmp .ge 54, 3, (122, 0, 0), 0, 0)), (71, (.iload_n 3, 1, (0, 0, 0), 0, 0)), (72, (.iload 6, 2, (0, 0, 0), 0, 0)), (74, (.invokestatic 376, 3, (0, 211, 0), 0, 2092)), (77, (.ifCond .ne 6, 3, (83, 0, 0), 0, 0)), (80, (.goto 36, 3, (116, 0, 0), 0, 0)), (83, (.aload_n 0, 1, (0, 0, 0), 0, 0)), (84, (.iload_n 1, 1, (0, 0, 0), 0, 0)), (85, (.iload 6, 2, (0, 0, 0), 0, 0)), (87, (.iload_n 2, 1, (0, 0, 0), 0, 0)), (88, (.invokevirtual 385, 3, (0, 316, 0), 0, 2131)), (91, (.istore 7, 2, (0, 0, 0), 0, 0)), (93, (.iload 4, 2, (0, 0, 0), 0, 0)), (95, (.ifCond .lt 13, 3, (108, 0, 0), 0, 0))],
  [(98, (.iload 7, 2, (0, 0, 0), 0, 0)), (100, (.iload 5, 2, (0, 0, 0), 0, 0)), (102, (.if_icmp .gt 6, 3, (108, 0, 0), 0, 0)), (105, (.goto 11, 3, (116, 0, 0), 0, 0)), (108, (.iload 6, 2, (0, 0, 0), 0, 0)), (110, (.istore 4, 2, (0, 0, 0), 0, 0)), (112, (.iload 7, 2, (0, 0, 0), 0, 0)), (114, (.istore 5, 2, (0, 0, 0), 0, 0)), (116, (.iinc 6 1, 3, (0, 0, 0), 1, 0)), (119, (.goto (-57), 3, (62, 0, 0), 0, 0)), (122, (.iload 4, 2, (0, 0, 0), 0, 0)), (124, (.ireturn, 1, (0, 0, 0), 0, 0))]]
set_option maxRecDepth 10000 in
def zp319 : List (List (Nat × ZI)) := [[(0, (.aload_n 0, 1, (0, 0, 0), 0, 0)), (1, (.iconst 0, 1, (0, 0, 0), 0, 0)), (2, (.putfield 3, 3, (12, 0, 0), 0, 1617)), (5, (.aload_n 0, 1, (0, 0, 0), 0, 0)), (6, (.iload_n 1, 1, (0, 0, 0), 0, 0)), (7, (.iconst 0, 1, (0, 0, 0), 0, 0)), (8, (.bipush 24, 2, (0, 0, 0), 24, 0)), (10, (.invokestatic 70, 3, (0, 210, 0), 0, 1902)), (13, (.ifCond .ne 7, 3, (20, 0, 0), 0, 0)), (16, (.iconst 1, 1, (0, 0, 0), 1, 0)), (17, (.goto 4, 3, (21, 0, 0), 0, 0)), (20, (.iconst 0, 1, (0, 0, 0), 0, 0)), (21, (.iconst 1, 1, (0, 0, 0), 1, 0)), (22, (.invokevirtual 272, 3, (0, 209, 0), 0, 1886)), (25, (.ifCond .eq 5, 3, (30, 0, 0), 0, 0)), (28, (.iconst 0, 1, (0, 0, 0), 0, 0)), (29, (.ireturn, 1, (0, 0, 0), 0, 0)), (30, (.aload_n 0, 1, (0, 0, 0), 0, 0)), (31, (.invokevirtual 342, 3, (0, 294, 0), 0, 2035))],
  [(34, (.iconst (-1), 1, (0, 0, 0), (-1), 0)), (35, (.istore_n 3, 1, (0, 0, 0), 0, 0)), (36, (.iconst 1, 1, (0, 0, 0), 1, 0)), (37, (.istore 4, 2, (0, 0, 0), 0, 0)), (39, (.iload 4, 2, (0, 0, 0), 0, 0)), (41, (.bipush 8, 2, (0, 0, 0), 8, 0)), (43, (.if_icmp .gt 55, 3, (98, 0, 0), 0, 0)), (46, (.aload_n 0, 1, (0, 0, 0), 0, 0)), (47, (.getfield 13, 3, (12, 1, 0), 0, 1618)), (50, (.bipush 12, 2, (0, 0, 0), 12, 0)), (52, (.iload 4, 2, (0, 0, 0), 0, 0)), (54, (.iastore, 1, (0, 0, 0), 0, 0)), (55, (.aload_n 0, 1, (0, 0, 0), 0, 0)), (56, (.iload_n 1, 1, (0, 0, 0), 0, 0)), (57, (.iconst 0, 1, (0, 0, 0), 0, 0)), (58, (.invokevirtual 361, 3, (0, 301, 0), 0, 2067)), (61, (.istore 5, 2, (0, 0, 0), 0, 0)), (63, (.iload_n 3, 1, (0, 0, 0), 0, 0))],
  [(64, (.ifCond .ge 8, 3, (72, 0, 0), 0, 0)), (67, (.iload 5, 2, (0, 0, 0), 0, 0)), (69, (.goto 22, 3, (91, 0, 0), 0, 0)), (72, (.iload_n 2, 1, (0, 0, 0), 0, 0)), (73, (.ifCond .eq 12, 3, (85, 0, 0), 0, 0)), (76, (.iload_n 3, 1, (0, 0, 0), 0, 0)), (77, (.iload 5, 2, (0, 0, 0), 0, 0)), (79, (.invokestatic 319, 3, (3, 0, 0), 0, 1998)), (82, (.goto 9, 3, (91, 0, 0), 0, 0)), (85, (.iload_n 3, 1, (0, 0, 0), 0, 0)), (86, (.iload 5, 2, (0, 0, 0), 0, 0)), (88, (.invokestatic 152, 3, (2, 0, 0), 0, 1816)), (91, (.istore_n 3, 1, (0, 0, 0), 0, 0)), (92, (.iinc 4 1, 3, (0, 0, 0), 1, 0)), (95, (.goto (-56), 3, (39, 0, 0), 0, 0))],
  [(98, (.iload_n 3, 1, (0, 0, 0), 0, 0)), (99, (.ireturn, 1, (0, 0, 0), 0, 0))]]
set_option maxRecDepth 10000 in
def zp320 : List (List (Nat × ZI)) := [[(0, (.aload_n 0, 1, (0, 0, 0), 0, 0)), (1, (.iconst 0, 1, (0, 0, 0), 0, 0)), (2, (.putfield 3, 3, (12, 0, 0), 0, 1617)), (5, (.aload_n 0, 1, (0, 0, 0), 0, 0)), (6, (.iload_n 1, 1, (0, 0, 0), 0, 0)), (7, (.iconst 1, 1, (0, 0, 0), 1, 0)), (8, (.bipush 100, 2, (0, 0, 0), 100, 0)), (10, (.invokestatic 70, 3, (0, 210, 0), 0, 1902)), (13, (.ifCond .ne 7, 3, (20, 0, 0), 0, 0)), (16, (.iconst 1, 1, (0, 0, 0), 1, 0)), (17, (.goto 4, 3, (21, 0, 0), 0, 0)), (20, (.iconst 0, 1, (0, 0, 0), 0, 0)), (21, (.iconst 1, 1, (0, 0, 0), 1, 0)), (22, (.invokevirtual 272, 3, (0, 209, 0), 0, 1886)), (25, (.ifCond .eq 5, 3, (30, 0, 0), 0, 0)), (28, (.iconst 0, 1, (0, 0, 0), 0, 0)), (29, (.ireturn, 1, (0, 0, 0), 0, 0)), (30, (.aload_n 0, 1, (0, 0, 0), 0, 0)), (31, (.invokevirtual 342, 3, (0, 294, 0), 0, 2035))],
  [(34, (.iconst (-1), 1, (0, 0, 0), (-1), 0)), (35, (.istore_n 2, 1, (0, 0, 0), 0, 0)), (36, (.iconst 0, 1, (0, 0, 0), 0, 0)), (37, (.istore_n 3, 1, (0, 0, 0), 0, 0)), (38, (.iconst 1, 1, (0, 0, 0), 1, 0)), (39, (.istore 4, 2, (0, 0, 0), 0, 0)), (41, (.iload 4, 2, (0, 0, 0), 0, 0)), (43, (.iload_n 1, 1, (0, 0, 0), 0, 0)), (44, (.if_icmp .gt 48, 3, (92, 0, 0), 0, 0)), (47, (.aload_n 0, 1, (0, 0, 0), 0, 0)), (48, (.invokevirtual 349, 3, (0, 297, 0), 0, 2043)), (51, (.istore 5, 2, (0, 0, 0), 0, 0)), (53, (.aload_n 0, 1, (0, 0, 0), 0, 0)), (54, (.invokevirtual 328, 3, (0, 284, 0), 0, 1973)), (57, (.pop, 1, (0, 0, 0), 0, 0)), (58, (.aload_n 0, 1, (0, 0, 0), 0, 0)), (59, (.invokevirtual 349, 3, (0, 297, 0), 0, 2043)), (62, (.iload 5, 2, (0, 0, 0), 0, 0))],
  [(64, (.isub, 1, (0, 0, 0), 0, 0)), (65, (.istore 6, 2, (0, 0, 0), 0, 0)), (67, (.iload_n 2, 1, (0, 0, 0), 0, 0)), (68, (.ifCond .lt 12, 3, (80, 0, 0), 0, 0)), (71, (.iload 6, 2, (0, 0, 0), 0, 0)), (73, (.iload_n 3, 1, (0, 0, 0), 0, 0)), (74, (.if_icmp .gt 6, 3, (80, 0, 0), 0, 0)), (77, (.goto 9, 3, (86, 0, 0), 0, 0)), (80, (.iload 4, 2, (0, 0, 0), 0, 0)), (82, (.istore_n 2, 1, (0, 0, 0), 0, 0)), (83, (.iload 6, 2, (0, 0, 0), 0, 0)), (85, (.istore_n 3, 1, (0, 0, 0), 0, 0)), (86, (.iinc 4 1, 3, (0, 0, 0), 1, 0)), (89, (.goto (-48), 3, (41, 0, 0), 0, 0)), (92, (.aload_n 0, 1, (0, 0, 0), 0, 0)), (93, (.invokevirtual 358, 3, (0, 295, 0), 0, 2059))],
  [(96, (.iload_n 2, 1, (0, 0, 0), 0, 0)), (97, (.ireturn, 1, (0, 0, 0), 0, 0))]]
set_option maxRecDepth 10000 in
def zp321 : List (List (Nat × ZI)) := [[(0, (.iconst (-1), 1, (0, 0, 0), (-1), 0)), (1, (.istore_n 2, 1, (0, 0, 0), 0, 0)), (2, (.iconst 0, 1, (0, 0, 0), 0, 0)), (3, (.istore_n 3, 1, (0, 0, 0), 0, 0)), (4, (.iconst 0, 1, (0, 0, 0), 0, 0)), (5, (.istore 4, 2, (0, 0, 0), 0, 0)), (7, (.iload 4, 2, (0, 0, 0), 0, 0)), (9, (.aload_n 0, 1, (0, 0, 0), 0, 0)), (10, (.invokevirtual 74, 3, (0, 218, 0), 0, 1780)), (13, (.if_icmp .ge 38, 3, (51, 0, 0), 0, 0)), (16, (.aload_n 0, 1, (0, 0, 0), 0, 0)), (17, (.getfield 13, 3, (12, 1, 0), 0, 1618)), (20, (.iload_n 1, 1, (0, 0, 0), 0, 0)), (21, (.iload 4, 2, (0, 0, 0), 0, 0)), (23, (.iadd, 1, (0, 0, 0), 0, 0)), (24, (.iaload, 1, (0, 0, 0), 0, 0)), (25, (.iload_n 3, 1, (0, 0, 0), 0, 0)), (26, (.if_icmp .gt 6, 3, (32, 0, 0), 0, 0)), (29, (.goto 16, 3, (45, 0, 0), 0, 0))],
  [(32, (.iload 4, 2, (0, 0, 0), 0, 0)), (34, (.istore_n 2, 1, (0, 0, 0), 0, 0)), (35, (.aload_n 0, 1, (0, 0, 0), 0, 0)), (36, (.getfield 13, 3, (12, 1, 0), 0, 1618)), (39, (.iload_n 1, 1, (0, 0, 0), 0, 0)), (40, (.iload 4, 2, (0, 0, 0), 0, 0)), (42, (.iadd, 1, (0, 0, 0), 0, 0)), (43, (.iaload, 1, (0, 0, 0), 0, 0)), (44, (.istore_n 3, 1, (0, 0, 0), 0, 0)), (45, (.iinc 4 1, 3, (0, 0, 0), 1, 0)), (48, (.goto (-41), 3, (7, 0, 0), 0, 0)), (51, (.iload_n 2, 1, (0, 0, 0), 0, 0)), (52, (.ireturn, 1, (0, 0, 0), 0, 0))]]
set_option maxRecDepth 10000 in
def zp322 : List (List (Nat × ZI)) := [[(0, (.aload_n 0, 1, (0, 0, 0), 0, 0)), (1, (.iconst 0, 1, (0, 0, 0), 0, 0)), (2, (.putfield 3, 3, (12, 0, 0), 0, 1617)), (5, (.aload_n 0, 1, (0, 0, 0), 0, 0)), (6, (.aload_n 0, 1, (0, 0, 0), 0, 0)), (7, (.iload_n 1, 1, (0, 0, 0), 0, 0)), (8, (.invokevirtual 300, 3, (0, 229, 0), 0, 1941)), (11, (.iconst 1, 1, (0, 0, 0), 1, 0)), (12, (.invokevirtual 272, 3, (0, 209, 0), 0, 1886)), (15, (.ifCond .eq 5, 3, (20, 0, 0), 0, 0)), (18, (.iconst 0, 1, (0, 0, 0), 0, 0)), (19, (.ireturn, 1, (0, 0, 0), 0, 0)), (20, (.iconst 0, 1, (0, 0, 0), 0, 0)), (21, (.istore_n 3, 1, (0, 0, 0), 0, 0)), (22, (.iconst 0, 1, (0, 0, 0), 0, 0)), (23, (.istore 4, 2, (0, 0, 0), 0, 0)), (25, (.iload 4, 2, (0, 0, 0), 0, 0)), (27, (.aload_n 0, 1, (0, 0, 0), 0, 0)), (28, (.invokevirtual 74, 3, (0, 218, 0), 0, 1780)), (31, (.if_icmp .ge 30, 3, (61, 0, 0), 0, 0))],
  [(34, (.iload_n 3, 1, (0, 0, 0), 0, 0)), (35, (.aload_n 0, 1, (0, 0, 0), 0, 0)), (36, (.iload_n 1, 1, (0, 0, 0), 0, 0)), (37, (.bipush 16, 2, (0, 0, 0), 16, 0)), (39, (.iload 4, 2, (0, 0, 0), 0, 0)), (41, (.iadd, 1, (0, 0, 0), 0, 0)), (42, (.invokevirtual 59, 3, (0, 222, 0), 0, 1791)), (45, (.ifCond .le 7, 3, (52, 0, 0), 0, 0)), (48, (.iconst 1, 1, (0, 0, 0), 1, 0)), (49, (.goto 4, 3, (53, 0, 0), 0, 0)), (52, (.iconst 0, 1, (0, 0, 0), 0, 0)), (53, (.iadd, 1, (0, 0, 0), 0, 0)), (54, (.istore_n 3, 1, (0, 0, 0), 0, 0)), (55, (.iinc 4 1, 3, (0, 0, 0), 1, 0)), (58, (.goto (-33), 3, (25, 0, 0), 0, 0)), (61, (.iload_n 2, 1, (0, 0, 0), 0, 0)), (62, (.ifCond .eq 7, 3, (69, 0, 0), 0, 0))],
  [(65, (.iload_n 3, 1, (0, 0, 0), 0, 0)), (66, (.goto 13, 3, (79, 0, 0), 0, 0)), (69, (.aload_n 0, 1, (0, 0, 0), 0, 0)), (70, (.iload_n 1, 1, (0, 0, 0), 0, 0)), (71, (.bipush 16, 2, (0, 0, 0), 16, 0)), (73, (.invokestatic 56, 3, (0, 220, 0), 0, 1788)), (76, (.invokevirtual 388, 3, (0, 321, 0), 0, 2151)), (79, (.ireturn, 1, (0, 0, 0), 0, 0))]]
set_option maxRecDepth 10000 in
def zp323 : List (List (Nat × ZI)) := [[(0, (.aload_n 0, 1, (0, 0, 0), 0, 0)), (1, (.iconst 0, 1, (0, 0, 0), 0, 0)), (2, (.putfield 3, 3, (12, 0, 0), 0, 1617)), (5, (.aload_n 0, 1, (0, 0, 0), 0, 0)), (6, (.aload_n 0, 1, (0, 0, 0), 0, 0)), (7, (.iload_n 1, 1, (0, 0, 0), 0, 0)), (8, (.invokevirtual 288, 3, (0, 228, 0), 0, 1898)), (11, (.iconst 1, 1, (0, 0, 0), 1, 0)), (12, (.invokevirtual 272, 3, (0, 209, 0), 0, 1886)), (15, (.ifCond .eq 7, 3, (22, 0, 0), 0, 0)), (18, (.iconst 0, 1, (0, 0, 0), 0, 0)), (19, (.goto 12, 3, (31, 0, 0), 0, 0)), (22, (.aload_n 0, 1, (0, 0, 0), 0, 0)), (23, (.iload_n 1, 1, (0, 0, 0), 0, 0)), (24, (.iconst 3, 1, (0, 0, 0), 3, 0)), (25, (.invokestatic 52, 3, (0, 219, 0), 0, 1763)), (28, (.invokevirtual 388, 3, (0, 321, 0), 0, 2151)), (31, (.ireturn, 1, (0, 0, 0), 0, 0))]]
set_option maxRecDepth 10000 in
def zp324 : List (List (Nat × ZI)) := [[(0, (.aload_n 0, 1, (0, 0, 0), 0, 0)), (1, (.iconst 0, 1, (0, 0, 0), 0, 0)), (2, (.putfield 3, 3, (12, 0, 0), 0, 1617)), (5, (.aload_n 0, 1, (0, 0, 0), 0, 0)), (6, (.aload_n 0, 1, (0, 0, 0), 0, 0)), (7, (.iload_n 1, 1, (0, 0, 0), 0, 0)), (8, (.invokevirtual 288, 3, (0, 228, 0), 0, 1898)), (11, (.ifCond .ne 11, 3, (22, 0, 0), 0, 0)), (14, (.aload_n 0, 1, (0, 0, 0), 0, 0)), (15, (.iload_n 2, 1, (0, 0, 0), 0, 0)), (16, (.invokevirtual 300, 3, (0, 229, 0), 0, 1941)), (19, (.ifCond .eq 7, 3, (26, 0, 0), 0, 0)), (22, (.iconst 1, 1, (0, 0, 0), 1, 0)), (23, (.goto 4, 3, (27, 0, 0), 0, 0)), (26, (.iconst 0, 1, (0, 0, 0), 0, 0)), (27, (.iconst 1, 1, (0, 0, 0), 1, 0)), (28, (.invokevirtual 272, 3, (0, 209, 0), 0, 1886)), (31, (.ifCond .eq 5, 3, (36, 0, 0), 0, 0))],
  [(34, (.iconst 0, 1, (0, 0, 0), 0, 0)), (35, (.ireturn, 1, (0, 0, 0), 0, 0)), (36, (.aload_n 0, 1, (0, 0, 0), 0, 0)), (37, (.iload_n 1, 1, (0, 0, 0), 0, 0)), (38, (.invokevirtual 275, 3, (0, 226, 0), 0, 1909)), (41, (.istore_n 3, 1, (0, 0, 0), 0, 0)), (42, (.iload_n 3, 1, (0, 0, 0), 0, 0)), (43, (.ifCond .ne 7, 3, (50, 0, 0), 0, 0)), (46, (.iconst 0, 1, (0, 0, 0), 0, 0)), (47, (.goto 20, 3, (67, 0, 0), 0, 0)), (50, (.ldc2_w 391, 3, (0, 0, 0), 10000, 2163)), (53, (.aload_n 0, 1, (0, 0, 0), 0, 0)), (54, (.iload_n 1, 1, (0, 0, 0), 0, 0)), (55, (.iconst 3, 1, (0, 0, 0), 3, 0)), (56, (.iload_n 2, 1, (0, 0, 0), 0, 0)), (57, (.iadd, 1, (0, 0, 0), 0, 0)), (58, (.invokevirtual 77, 3, (0, 221, 0), 0, 1905)), (61, (.i2l, 1, (0, 0, 0), 0, 0)), (62, (.lmul, 1, (0, 0, 0), 0, 0)), (63, (.iload_n 3, 1, (0, 0, 0), 0, 0))],
  [(64, (.i2l, 1, (0, 0, 0), 0, 0)), (65, (.ldiv, 1, (0, 0, 0), 0, 0)), (66, (.l2i, 1, (0, 0, 0), 0, 0)), (67, (.ireturn, 1, (0, 0, 0), 0, 0))]]
set_option maxRecDepth 10000 in
def zp325 : List (List (Nat × ZI)) := [[(0, (.aload_n 0, 1, (0, 0, 0), 0, 0)), (1, (.iconst 0, 1, (0, 0, 0), 0, 0)), (2, (.putfield 3, 3, (12, 0, 0), 0, 1617)), (5, (.iconst (-1), 1, (0, 0, 0), (-1), 0)), (6, (.istore_n 1, 1, (0, 0, 0), 0, 0)), (7, (.iconst 0, 1, (0, 0, 0), 0, 0)), (8, (.istore_n 2, 1, (0, 0, 0), 0, 0)), (9, (.iconst 0, 1, (0, 0, 0), 0, 0)), (10, (.istore_n 3, 1, (0, 0, 0), 0, 0)), (11, (.iload_n 3, 1, (0, 0, 0), 0, 0)), (12, (.aload_n 0, 1, (0, 0, 0), 0, 0)), (13, (.invokevirtual 74, 3, (0, 218, 0), 0, 1780)), (16, (.if_icmp .ge 78, 3, (94, 0, 0), 0, 0)), (19, (.iconst 0, 1, (0, 0, 0), 0, 0)), (20, (.istore 4, 2, (0, 0, 0), 0, 0)), (22, (.iconst 0, 1, (0, 0, 0), 0, 0)), (23, (.istore 5, 2, (0, 0, 0), 0, 0)), (25, (.iload 5, 2, (0, 0, 0), 0, 0)), (27, (.aload_n 0, 1, (0, 0, 0), 0, 0)), (28, (.invokevirtual 66, 3, (0, 217, 0), 0, 1742)), (31, (.if_icmp .ge 38, 3, (69, 0, 0), 0, 0))],
  [(34, (.iload 4, 2, (0, 0, 0), 0, 0)), (36, (.aload_n 0, 1, (0, 0, 0), 0, 0)), (37, (.iload 5, 2, (0, 0, 0), 0, 0)), (39, (.iconst 0, 1, (0, 0, 0), 0, 0)), (40, (.invokevirtual 77, 3, (0, 221, 0), 0, 1905)), (43, (.iconst 3, 1, (0, 0, 0), 3, 0)), (44, (.if_icmp .ne 15, 3, (59, 0, 0), 0, 0)), (47, (.aload_n 0, 1, (0, 0, 0), 0, 0)), (48, (.iload 5, 2, (0, 0, 0), 0, 0)), (50, (.iconst 3, 1, (0, 0, 0), 3, 0)), (51, (.iload_n 3, 1, (0, 0, 0), 0, 0)), (52, (.iadd, 1, (0, 0, 0), 0, 0)), (53, (.invokevirtual 77, 3, (0, 221, 0), 0, 1905)), (56, (.goto 4, 3, (60, 0, 0), 0, 0)), (59, (.iconst 0, 1, (0, 0, 0), 0, 0)), (60, (.iadd, 1, (0, 0, 0), 0, 0)), (61, (.istore 4, 2, (0, 0, 0), 0, 0)), (63, (.iinc 5 1, 3, (0, 0, 0), 1, 0))],
  [(66, (.goto (-41), 3, (25, 0, 0), 0, 0)), (69, (.iload 4, 2, (0, 0, 0), 0, 0)), (71, (.iload_n 2, 1, (0, 0, 0), 0, 0)), (72, (.if_icmp .le 7, 3, (79, 0, 0), 0, 0)), (75, (.iload_n 3, 1, (0, 0, 0), 0, 0)), (76, (.goto 4, 3, (80, 0, 0), 0, 0)), (79, (.iload_n 1, 1, (0, 0, 0), 0, 0)), (80, (.istore_n 1, 1, (0, 0, 0), 0, 0)), (81, (.iload_n 2, 1, (0, 0, 0), 0, 0)), (82, (.iload 4, 2, (0, 0, 0), 0, 0)), (84, (.invokestatic 319, 3, (3, 0, 0), 0, 1998)), (87, (.istore_n 2, 1, (0, 0, 0), 0, 0)), (88, (.iinc 3 1, 3, (0, 0, 0), 1, 0)), (91, (.goto (-80), 3, (11, 0, 0), 0, 0)), (94, (.iload_n 1, 1, (0, 0, 0), 0, 0)), (95, (.ireturn, 1, (0, 0, 0), 0, 0))]]
set_option maxRecDepth 10000 in
def zp326 : List (List (Nat × ZI)) := [[(0, (.aload_n 0, 1, (0, 0, 0), 0, 0)), (1, (.iconst 0, 1, (0, 0, 0), 0, 0)), (2, (.putfield 3, 3, (12, 0, 0), 0, 1617)), (5, (.aload_n 0, 1, (0, 0, 0), 0, 0)), (6, (.iload_n 1, 1, (0, 0, 0), 0, 0)), (7, (.ifCond .ge 7, 3, (14, 0, 0), 0, 0)), (10, (.iconst 1, 1, (0, 0, 0), 1, 0)), (11, (.goto 4, 3, (15, 0, 0), 0, 0)), (14, (.iconst 0, 1, (0, 0, 0), 0, 0)), (15, (.iconst 1, 1, (0, 0, 0), 1, 0)), (16, (.invokevirtual 272, 3, (0, 209, 0), 0, 1886)), (19, (.ifCond .eq 5, 3, (24, 0, 0), 0, 0)), (22, (.iconst 0, 1, (0, 0, 0), 0, 0)), (23, (.ireturn, 1, (0, 0, 0), 0, 0)), (24, (.iconst 0, 1, (0, 0, 0), 0, 0)), (25, (.istore_n 2, 1, (0, 0, 0), 0, 0)), (26, (.iconst 0, 1, (0, 0, 0), 0, 0)), (27, (.istore_n 3, 1, (0, 0, 0), 0, 0)), (28, (.iload_n 3, 1, (0, 0, 0), 0, 0)), (29, (.aload_n 0, 1, (0, 0, 0), 0, 0)), (30, (.invokevirtual 66, 3, (0, 217, 0), 0, 1742))],
  [(33, (.if_icmp .ge 38, 3, (71, 0, 0), 0, 0)), (36, (.iload_n 2, 1, (0, 0, 0), 0, 0)), (37, (.aload_n 0, 1, (0, 0, 0), 0, 0)), (38, (.iload_n 3, 1, (0, 0, 0), 0, 0)), (39, (.iconst 0, 1, (0, 0, 0), 0, 0)), (40, (.invokevirtual 77, 3, (0, 221, 0), 0, 1905)), (43, (.iconst 3, 1, (0, 0, 0), 3, 0)), (44, (.if_icmp .ne 18, 3, (62, 0, 0), 0, 0)), (47, (.aload_n 0, 1, (0, 0, 0), 0, 0)), (48, (.iload_n 3, 1, (0, 0, 0), 0, 0)), (49, (.invokevirtual 275, 3, (0, 226, 0), 0, 1909)), (52, (.iload_n 1, 1, (0, 0, 0), 0, 0)), (53, (.if_icmp .le 9, 3, (62, 0, 0), 0, 0)), (56, (.iconst 1, 1, (0, 0, 0), 1, 0)), (57, (.iload_n 3, 1, (0, 0, 0), 0, 0)), (58, (.ishl, 1, (0, 0, 0), 0, 0)), (59, (.goto 4, 3, (63, 0, 0), 0, 0)), (62, (.iconst 0, 1, (0, 0, 0), 0, 0)), (63, (.ior, 1, (0, 0, 0), 0, 0))],
  [(64, (.istore_n 2, 1, (0, 0, 0), 0, 0)), (65, (.iinc 3 1, 3, (0, 0, 0), 1, 0)), (68, (.goto (-40), 3, (28, 0, 0), 0, 0)), (71, (.iload_n 2, 1, (0, 0, 0), 0, 0)), (72, (.ireturn, 1, (0, 0, 0), 0, 0))]]
set_option maxRecDepth 10000 in
def zp327 : List (List (Nat × ZI)) := [[(0, (.aload_n 0, 1, (0, 0, 0), 0, 0)), (1, (.iconst 0, 1, (0, 0, 0), 0, 0)), (2, (.putfield 3, 3, (12, 0, 0), 0, 1617)), (5, (.aload_n 0, 1, (0, 0, 0), 0, 0)), (6, (.aload_n 0, 1, (0, 0, 0), 0, 0)), (7, (.iload_n 1, 1, (0, 0, 0), 0, 0)), (8, (.invokevirtual 288, 3, (0, 228, 0), 0, 1898)), (11, (.ifCond .ne 11, 3, (22, 0, 0), 0, 0)), (14, (.aload_n 0, 1, (0, 0, 0), 0, 0)), (15, (.iload_n 2, 1, (0, 0, 0), 0, 0)), (16, (.invokevirtual 288, 3, (0, 228, 0), 0, 1898)), (19, (.ifCond .eq 7, 3, (26, 0, 0), 0, 0)), (22, (.iconst 1, 1, (0, 0, 0), 1, 0)), (23, (.goto 4, 3, (27, 0, 0), 0, 0)), (26, (.iconst 0, 1, (0, 0, 0), 0, 0)), (27, (.iconst 1, 1, (0, 0, 0), 1, 0)), (28, (.invokevirtual 272, 3, (0, 209, 0), 0, 1886)), (31, (.ifCond .eq 5, 3, (36, 0, 0), 0, 0))],
  [(34, (.iconst 0, 1, (0, 0, 0), 0, 0)), (35, (.ireturn, 1, (0, 0, 0), 0, 0)), (36, (.iconst 1, 1, (0, 0, 0), 1, 0)), (37, (.iload_n 1, 1, (0, 0, 0), 0, 0)), (38, (.ishl, 1, (0, 0, 0), 0, 0)), (39, (.istore_n 3, 1, (0, 0, 0), 0, 0)), (40, (.iconst 0, 1, (0, 0, 0), 0, 0)), (41, (.istore 4, 2, (0, 0, 0), 0, 0)), (43, (.iload 4, 2, (0, 0, 0), 0, 0)), (45, (.aload_n 0, 1, (0, 0, 0), 0, 0)), (46, (.invokevirtual 66, 3, (0, 217, 0), 0, 1742)), (49, (.if_icmp .ge 68, 3, (117, 0, 0), 0, 0)), (52, (.iload_n 3, 1, (0, 0, 0), 0, 0)), (53, (.iload_n 2, 1, (0, 0, 0), 0, 0)), (54, (.invokestatic 376, 3, (0, 211, 0), 0, 2092)), (57, (.ifCond .eq 6, 3, (63, 0, 0), 0, 0)), (60, (.iload 4, 2, (0, 0, 0), 0, 0)), (62, (.ireturn, 1, (0, 0, 0), 0, 0)), (63, (.iload_n 3, 1, (0, 0, 0), 0, 0))],
  [(64, (.istore 5, 2, (0, 0, 0), 0, 0)), (66, (.iconst 0, 1, (0, 0, 0), 0, 0)), (67, (.istore 6, 2, (0, 0, 0), 0, 0)), (69, (.iload 6, 2, (0, 0, 0), 0, 0)), (71, (.aload_n 0, 1, (0, 0, 0), 0, 0)), (72, (.invokevirtual 66, 3, (0, 217, 0), 0, 1742)), (75, (.if_icmp .ge 33, 3, (108, 0, 0), 0, 0)), (78, (.iload 5, 2, (0, 0, 0), 0, 0)), (80, (.iload_n 3, 1, (0, 0, 0), 0, 0)), (81, (.iload 6, 2, (0, 0, 0), 0, 0)), (83, (.invokestatic 376, 3, (0, 211, 0), 0, 2092)), (86, (.ifCond .eq 12, 3, (98, 0, 0), 0, 0)), (89, (.aload_n 0, 1, (0, 0, 0), 0, 0)), (90, (.iload 6, 2, (0, 0, 0), 0, 0)), (92, (.invokevirtual 294, 3, (0, 272, 0), 0, 1921)), (95, (.goto 4, 3, (99, 0, 0), 0, 0))],
  [(98, (.iconst 0, 1, (0, 0, 0), 0, 0)), (99, (.ior, 1, (0, 0, 0), 0, 0)), (100, (.istore 5, 2, (0, 0, 0), 0, 0)), (102, (.iinc 6 1, 3, (0, 0, 0), 1, 0)), (105, (.goto (-36), 3, (69, 0, 0), 0, 0)), (108, (.iload 5, 2, (0, 0, 0), 0, 0)), (110, (.istore_n 3, 1, (0, 0, 0), 0, 0)), (111, (.iinc 4 1, 3, (0, 0, 0), 1, 0)), (114, (.goto (-71), 3, (43, 0, 0), 0, 0)), (117, (.iconst (-1), 1, (0, 0, 0), (-1), 0)), (118, (.ireturn, 1, (0, 0, 0), 0, 0))]]
set_option maxRecDepth 10000 in
def zp328 : List (List (Nat × ZI)) := [[(0, (.aload_n 0, 1, (0, 0, 0), 0, 0)), (1, (.iload_n 1, 1, (0, 0, 0), 0, 0)), (2, (.iconst 3, 1, (0, 0, 0), 3, 0)), (3, (.invokevirtual 59, 3, (0, 222, 0), 0, 1791)), (6, (.istore_n 3, 1, (0, 0, 0), 0, 0)), (7, (.aload_n 0, 1, (0, 0, 0), 0, 0)), (8, (.iload_n 1, 1, (0, 0, 0), 0, 0)), (9, (.iconst 4, 1, (0, 0, 0), 4, 0)), (10, (.aload_n 0, 1, (0, 0, 0), 0, 0)), (11, (.iload_n 1, 1, (0, 0, 0), 0, 0)), (12, (.iconst 0, 1, (0, 0, 0), 0, 0)), (13, (.invokevirtual 59, 3, (0, 222, 0), 0, 1791)), (16, (.iload_n 2, 1, (0, 0, 0), 0, 0)), (17, (.iadd, 1, (0, 0, 0), 0, 0)), (18, (.iload_n 3, 1, (0, 0, 0), 0, 0)), (19, (.irem, 1, (0, 0, 0), 0, 0)), (20, (.iload_n 3, 1, (0, 0, 0), 0, 0)), (21, (.iadd, 1, (0, 0, 0), 0, 0)), (22, (.iload_n 3, 1, (0, 0, 0), 0, 0)), (23, (.irem, 1, (0, 0, 0), 0, 0)), (24, (.iadd, 1, (0, 0, 0), 0, 0)), (25, (.invokevirtual 59, 3, (0, 222, 0), 0, 1791)), (28, (.ireturn, 1, (0, 0, 0), 0, 0))]]
set_option maxRecDepth 10000 in
def zp329 : List (List (Nat × ZI)) := [[(0, (.aload_n 0, 1, (0, 0, 0), 0, 0)), (1, (.iconst 0, 1, (0, 0, 0), 0, 0)), (2, (.putfield 3, 3, (12, 0, 0), 0, 1617)), (5, (.aload_n 0, 1, (0, 0, 0), 0, 0)), (6, (.aload_n 0, 1, (0, 0, 0), 0, 0)), (7, (.iload_n 1, 1, (0, 0, 0), 0, 0)), (8, (.invokevirtual 300, 3, (0, 229, 0), 0, 1941)), (11, (.ifCond .ne 11, 3, (22, 0, 0), 0, 0)), (14, (.aload_n 0, 1, (0, 0, 0), 0, 0)), (15, (.iload_n 2, 1, (0, 0, 0), 0, 0)), (16, (.invokevirtual 300, 3, (0, 229, 0), 0, 1941)), (19, (.ifCond .eq 7, 3, (26, 0, 0), 0, 0)), (22, (.iconst 1, 1, (0, 0, 0), 1, 0)), (23, (.goto 4, 3, (27, 0, 0), 0, 0)), (26, (.iconst 0, 1, (0, 0, 0), 0, 0)), (27, (.iconst 1, 1, (0, 0, 0), 1, 0)), (28, (.invokevirtual 272, 3, (0, 209, 0), 0, 1886)), (31, (.ifCond .ne 21, 3, (52, 0, 0), 0, 0))],
  [(34, (.aload_n 0, 1, (0, 0, 0), 0, 0)), (35, (.iload_n 1, 1, (0, 0, 0), 0, 0)), (36, (.iload_n 2, 1, (0, 0, 0), 0, 0)), (37, (.if_icmp .ne 7, 3, (44, 0, 0), 0, 0)), (40, (.iconst 1, 1, (0, 0, 0), 1, 0)), (41, (.goto 4, 3, (45, 0, 0), 0, 0)), (44, (.iconst 0, 1, (0, 0, 0), 0, 0)), (45, (.iconst 2, 1, (0, 0, 0), 2, 0)), (46, (.invokevirtual 272, 3, (0, 209, 0), 0, 1886)), (49, (.ifCond .eq 5, 3, (54, 0, 0), 0, 0)), (52, (.iconst 0, 1, (0, 0, 0), 0, 0)), (53, (.ireturn, 1, (0, 0, 0), 0, 0)), (54, (.iconst 0, 1, (0, 0, 0), 0, 0)), (55, (.istore_n 3, 1, (0, 0, 0), 0, 0)), (56, (.iload_n 3, 1, (0, 0, 0), 0, 0)), (57, (.sipush 144, 3, (0, 0, 0), 144, 0)), (60, (.if_icmp .gt 33, 3, (93, 0, 0), 0, 0)), (63, (.aload_n 0, 1, (0, 0, 0), 0, 0))],
  [(64, (.iload_n 1, 1, (0, 0, 0), 0, 0)), (65, (.iload_n 3, 1, (0, 0, 0), 0, 0)), (66, (.invokevirtual 393, 3, (0, 328, 0), 0, 2180)), (69, (.aload_n 0, 1, (0, 0, 0), 0, 0)), (70, (.iload_n 2, 1, (0, 0, 0), 0, 0)), (71, (.iload_n 3, 1, (0, 0, 0), 0, 0)), (72, (.invokevirtual 393, 3, (0, 328, 0), 0, 2180)), (75, (.if_icmp .ne 12, 3, (87, 0, 0), 0, 0)), (78, (.aload_n 0, 1, (0, 0, 0), 0, 0)), (79, (.getfield 13, 3, (12, 1, 0), 0, 1618)), (82, (.iconst 5, 1, (0, 0, 0), 5, 0)), (83, (.iaload, 1, (0, 0, 0), 0, 0)), (84, (.iload_n 3, 1, (0, 0, 0), 0, 0)), (85, (.iadd, 1, (0, 0, 0), 0, 0)), (86, (.ireturn, 1, (0, 0, 0), 0, 0)), (87, (.iinc 3 1, 3, (0, 0, 0), 1, 0)), (90, (.goto (-34), 3, (56, 0, 0), 0, 0)), (93, (.iconst (-1), 1, (0, 0, 0), (-1), 0)), (94, (.ireturn, 1, (0, 0, 0), 0, 0))]]
set_option maxRecDepth 10000 in
def zp330 : List (List (Nat × ZI)) := [[(0, (.aload_n 0, 1, (0, 0, 0), 0, 0)), (1, (.getfield 29, 3, (12, 8, 0), 0, 1625)), (4, (.iload_n 1, 1, (0, 0, 0), 0, 0)), (5, (.iconst 1, 1, (0, 0, 0), 1, 0)), (6, (.iadd, 1, (0, 0, 0), 0, 0)), (7, (.baload, 1, (0, 0, 0), 0, 0)), (8, (.sipush 255, 3, (0, 0, 0), 255, 0)), (11, (.iand, 1, (0, 0, 0), 0, 0)), (12, (.bipush 8, 2, (0, 0, 0), 8, 0)), (14, (.ishl, 1, (0, 0, 0), 0, 0)), (15, (.aload_n 0, 1, (0, 0, 0), 0, 0)), (16, (.getfield 29, 3, (12, 8, 0), 0, 1625)), (19, (.iload_n 1, 1, (0, 0, 0), 0, 0)), (20, (.iconst 2, 1, (0, 0, 0), 2, 0)), (21, (.iadd, 1, (0, 0, 0), 0, 0)), (22, (.baload, 1, (0, 0, 0), 0, 0)), (23, (.sipush 255, 3, (0, 0, 0), 255, 0)), (26, (.iand, 1, (0, 0, 0), 0, 0)), (27, (.ior, 1, (0, 0, 0), 0, 0)), (28, (.ireturn, 1, (0, 0, 0), 0, 0))]]
set_option maxRecDepth 10000 in
def zp331 : List (List (Nat × ZI)) := [[(0, (.aload_n 0, 1, (0, 0, 0), 0, 0)), (1, (.invokevirtual 261, 3, (0, 245, 0), 0, 1707)), (4, (.aload_n 0, 1, (0, 0, 0), 0, 0)), (5, (.getfield 87, 3, (12, 11, 0), 0, 1628)), (8, (.iconst 3, 1, (0, 0, 0), 3, 0)), (9, (.irem, 1, (0, 0, 0), 0, 0)), (10, (.ifCond .ne 7, 3, (17, 0, 0), 0, 0)), (13, (.iconst 1, 1, (0, 0, 0), 1, 0)), (14, (.goto 4, 3, (18, 0, 0), 0, 0)), (17, (.iconst 0, 1, (0, 0, 0), 0, 0)), (18, (.istore_n 1, 1, (0, 0, 0), 0, 0)), (19, (.iconst 0, 1, (0, 0, 0), 0, 0)), (20, (.istore_n 2, 1, (0, 0, 0), 0, 0)), (21, (.iload_n 2, 1, (0, 0, 0), 0, 0)), (22, (.iconst 2, 1, (0, 0, 0), 2, 0)), (23, (.iadd, 1, (0, 0, 0), 0, 0)), (24, (.aload_n 0, 1, (0, 0, 0), 0, 0)), (25, (.getfield 87, 3, (12, 11, 0), 0, 1628)), (28, (.if_icmp .ge 46, 3, (74, 0, 0), 0, 0)), (31, (.iload_n 1, 1, (0, 0, 0), 0, 0))],
  [(32, (.ifCond .eq 42, 3, (74, 0, 0), 0, 0)), (35, (.aload_n 0, 1, (0, 0, 0), 0, 0)), (36, (.aload_n 0, 1, (0, 0, 0), 0, 0)), (37, (.getfield 29, 3, (12, 8, 0), 0, 1625)), (40, (.iload_n 2, 1, (0, 0, 0), 0, 0)), (41, (.baload, 1, (0, 0, 0), 0, 0)), (42, (.bipush 97, 2, (0, 0, 0), 97, 0)), (44, (.isub, 1, (0, 0, 0), 0, 0)), (45, (.invokevirtual 288, 3, (0, 228, 0), 0, 1898)), (48, (.ifCond .ne 18, 3, (66, 0, 0), 0, 0)), (51, (.aload_n 0, 1, (0, 0, 0), 0, 0)), (52, (.iload_n 2, 1, (0, 0, 0), 0, 0)), (53, (.invokevirtual 396, 3, (0, 330, 0), 0, 2188)), (56, (.sipush 9999, 3, (0, 0, 0), 9999, 0)), (59, (.if_icmp .gt 7, 3, (66, 0, 0), 0, 0)), (62, (.iconst 1, 1, (0, 0, 0), 1, 0)), (63, (.goto 4, 3, (67, 0, 0), 0, 0))],
  [(66, (.iconst 0, 1, (0, 0, 0), 0, 0)), (67, (.istore_n 1, 1, (0, 0, 0), 0, 0)), (68, (.iinc 2 3, 3, (0, 0, 0), 3, 0)), (71, (.goto (-50), 3, (21, 0, 0), 0, 0)), (74, (.aload_n 0, 1, (0, 0, 0), 0, 0)), (75, (.iload_n 1, 1, (0, 0, 0), 0, 0)), (76, (.ifCond .ne 7, 3, (83, 0, 0), 0, 0)), (79, (.iconst 1, 1, (0, 0, 0), 1, 0)), (80, (.goto 4, 3, (84, 0, 0), 0, 0)), (83, (.iconst 0, 1, (0, 0, 0), 0, 0)), (84, (.iconst 1, 1, (0, 0, 0), 1, 0)), (85, (.invokevirtual 272, 3, (0, 209, 0), 0, 1886)), (88, (.ifCond .eq 5, 3, (93, 0, 0), 0, 0)), (91, (.iconst 0, 1, (0, 0, 0), 0, 0)), (92, (.ireturn, 1, (0, 0, 0), 0, 0)), (93, (.iconst 1, 1, (0, 0, 0), 1, 0)), (94, (.aload_n 0, 1, (0, 0, 0), 0, 0)), (95, (.invokevirtual 74, 3, (0, 218, 0), 0, 1780))],
  [(98, (.ishl, 1, (0, 0, 0), 0, 0)), (99, (.iconst 1, 1, (0, 0, 0), 1, 0)), (100, (.isub, 1, (0, 0, 0), 0, 0)), (101, (.istore_n 2, 1, (0, 0, 0), 0, 0)), (102, (.iconst 0, 1, (0, 0, 0), 0, 0)), (103, (.istore_n 3, 1, (0, 0, 0), 0, 0)), (104, (.iload_n 3, 1, (0, 0, 0), 0, 0)), (105, (.aload_n 0, 1, (0, 0, 0), 0, 0)), (106, (.getfield 87, 3, (12, 11, 0), 0, 1628)), (109, (.if_icmp .ge 66, 3, (175, 0, 0), 0, 0)), (112, (.iconst 0, 1, (0, 0, 0), 0, 0)), (113, (.istore 4, 2, (0, 0, 0), 0, 0)), (115, (.iload 4, 2, (0, 0, 0), 0, 0)), (117, (.aload_n 0, 1, (0, 0, 0), 0, 0)), (118, (.invokevirtual 74, 3, (0, 218, 0), 0, 1780)), (121, (.if_icmp .ge 48, 3, (169, 0, 0), 0, 0)), (124, (.aload_n 0, 1, (0, 0, 0), 0, 0)), (125, (.iload 4, 2, (0, 0, 0), 0, 0)), (127, (.aload_n 0, 1, (0, 0, 0), 0, 0))],
  [(128, (.iload_n 3, 1, (0, 0, 0), 0, 0)), (129, (.invokevirtual 396, 3, (0, 330, 0), 0, 2188)), (132, (.aload_n 0, 1, (0, 0, 0), 0, 0)), (133, (.getfield 13, 3, (12, 1, 0), 0, 1618)), (136, (.iconst 5, 1, (0, 0, 0), 5, 0)), (137, (.iaload, 1, (0, 0, 0), 0, 0)), (138, (.isub, 1, (0, 0, 0), 0, 0)), (139, (.invokevirtual 393, 3, (0, 328, 0), 0, 2180)), (142, (.aload_n 0, 1, (0, 0, 0), 0, 0)), (143, (.getfield 29, 3, (12, 8, 0), 0, 1625)), (146, (.iload_n 3, 1, (0, 0, 0), 0, 0)), (147, (.baload, 1, (0, 0, 0), 0, 0)), (148, (.bipush 97, 2, (0, 0, 0), 97, 0)), (150, (.isub, 1, (0, 0, 0), 0, 0)), (151, (.if_icmp .eq 12, 3, (163, 0, 0), 0, 0)), (154, (.iload_n 2, 1, (0, 0, 0), 0, 0)), (155, (.iconst 1, 1, (0, 0, 0), 1, 0)), (156, (.iload 4, 2, (0, 0, 0), 0, 0)), (158, (.ishl, 1, (0, 0, 0), 0, 0)), (159, (.iconst (-1), 1, (0, 0, 0), (-1), 0))],
  [(160, (.ixor, 1, (0, 0, 0), 0, 0)), (161, (.iand, 1, (0, 0, 0), 0, 0)), (162, (.istore_n 2, 1, (0, 0, 0), 0, 0)), (163, (.iinc 4 1, 3, (0, 0, 0), 1, 0)), (166, (.goto (-51), 3, (115, 0, 0), 0, 0)), (169, (.iinc 3 3, 3, (0, 0, 0), 3, 0)), (172, (.goto (-68), 3, (104, 0, 0), 0, 0)), (175, (.iload_n 2, 1, (0, 0, 0), 0, 0)), (176, (.ireturn, 1, (0, 0, 0), 0, 0))]]
set_option maxRecDepth 10000 in
def zp332 : List (List (Nat × ZI)) := [[(0, (.aload_n 0, 1, (0, 0, 0), 0, 0)), (1, (.iconst 0, 1, (0, 0, 0), 0, 0)), (2, (.putfield 3, 3, (12, 0, 0), 0, 1617)), (5, (.iconst 1, 1, (0, 0, 0), 1, 0)), (6, (.aload_n 0, 1, (0, 0, 0), 0, 0)), (7, (.invokevirtual 74, 3, (0, 218, 0), 0, 1780)), (10, (.ishl, 1, (0, 0, 0), 0, 0)), (11, (.iconst 1, 1, (0, 0, 0), 1, 0)), (12, (.isub, 1, (0, 0, 0), 0, 0)), (13, (.istore_n 2, 1, (0, 0, 0), 0, 0)), (14, (.iconst 0, 1, (0, 0, 0), 0, 0)), (15, (.istore_n 3, 1, (0, 0, 0), 0, 0)), (16, (.iload_n 3, 1, (0, 0, 0), 0, 0)), (17, (.aload_n 0, 1, (0, 0, 0), 0, 0)), (18, (.invokevirtual 66, 3, (0, 217, 0), 0, 1742)), (21, (.if_icmp .ge 95, 3, (116, 0, 0), 0, 0)), (24, (.iconst 0, 1, (0, 0, 0), 0, 0)), (25, (.istore 4, 2, (0, 0, 0), 0, 0)), (27, (.iconst 0, 1, (0, 0, 0), 0, 0)), (28, (.istore 5, 2, (0, 0, 0), 0, 0)), (30, (.iload 5, 2, (0, 0, 0), 0, 0))],
  [(32, (.aload_n 0, 1, (0, 0, 0), 0, 0)), (33, (.getfield 13, 3, (12, 1, 0), 0, 1618)), (36, (.bipush 11, 2, (0, 0, 0), 11, 0)), (38, (.iaload, 1, (0, 0, 0), 0, 0)), (39, (.if_icmp .ge 54, 3, (93, 0, 0), 0, 0)), (42, (.iload 4, 2, (0, 0, 0), 0, 0)), (44, (.aload_n 0, 1, (0, 0, 0), 0, 0)), (45, (.getfield 13, 3, (12, 1, 0), 0, 1618)), (48, (.sipush 377, 3, (0, 0, 0), 377, 0)), (51, (.iconst 5, 1, (0, 0, 0), 5, 0)), (52, (.iload 5, 2, (0, 0, 0), 0, 0)), (54, (.imul, 1, (0, 0, 0), 0, 0)), (55, (.iadd, 1, (0, 0, 0), 0, 0)), (56, (.iconst 2, 1, (0, 0, 0), 2, 0)), (57, (.iadd, 1, (0, 0, 0), 0, 0)), (58, (.iaload, 1, (0, 0, 0), 0, 0)), (59, (.iload_n 3, 1, (0, 0, 0), 0, 0)), (60, (.if_icmp .ne 23, 3, (83, 0, 0), 0, 0)), (63, (.iconst 1, 1, (0, 0, 0), 1, 0))],
  [(64, (.aload_n 0, 1, (0, 0, 0), 0, 0)), (65, (.getfield 13, 3, (12, 1, 0), 0, 1618)), (68, (.sipush 377, 3, (0, 0, 0), 377, 0)), (71, (.iconst 5, 1, (0, 0, 0), 5, 0)), (72, (.iload 5, 2, (0, 0, 0), 0, 0)), (74, (.imul, 1, (0, 0, 0), 0, 0)), (75, (.iadd, 1, (0, 0, 0), 0, 0)), (76, (.iconst 1, 1, (0, 0, 0), 1, 0)), (77, (.iadd, 1, (0, 0, 0), 0, 0)), (78, (.iaload, 1, (0, 0, 0), 0, 0)), (79, (.ishl, 1, (0, 0, 0), 0, 0)), (80, (.goto 4, 3, (84, 0, 0), 0, 0)), (83, (.iconst 0, 1, (0, 0, 0), 0, 0)), (84, (.ior, 1, (0, 0, 0), 0, 0)), (85, (.istore 4, 2, (0, 0, 0), 0, 0)), (87, (.iinc 5 1, 3, (0, 0, 0), 1, 0)), (90, (.goto (-60), 3, (30, 0, 0), 0, 0)), (93, (.iload_n 2, 1, (0, 0, 0), 0, 0)), (94, (.iload_n 1, 1, (0, 0, 0), 0, 0)), (95, (.iload_n 3, 1, (0, 0, 0), 0, 0))],
  [(96, (.invokestatic 376, 3, (0, 211, 0), 0, 2092)), (99, (.ifCond .eq 8, 3, (107, 0, 0), 0, 0)), (102, (.iload 4, 2, (0, 0, 0), 0, 0)), (104, (.goto 4, 3, (108, 0, 0), 0, 0)), (107, (.iload_n 2, 1, (0, 0, 0), 0, 0)), (108, (.iand, 1, (0, 0, 0), 0, 0)), (109, (.istore_n 2, 1, (0, 0, 0), 0, 0)), (110, (.iinc 3 1, 3, (0, 0, 0), 1, 0)), (113, (.goto (-97), 3, (16, 0, 0), 0, 0)), (116, (.iload_n 2, 1, (0, 0, 0), 0, 0)), (117, (.ireturn, 1, (0, 0, 0), 0, 0))]]
set_option maxRecDepth 10000 in
def zp333 : List (List (Nat × ZI)) := [[(0, (.aload_n 0, 1, (0, 0, 0), 0, 0)), (1, (.iconst 0, 1, (0, 0, 0), 0, 0)), (2, (.putfield 3, 3, (12, 0, 0), 0, 1617)), (5, (.aload_n 0, 1, (0, 0, 0), 0, 0)), (6, (.iload_n 2, 1, (0, 0, 0), 0, 0)), (7, (.iconst 0, 1, (0, 0, 0), 0, 0)), (8, (.iconst 4, 1, (0, 0, 0), 4, 0)), (9, (.invokestatic 70, 3, (0, 210, 0), 0, 1902)), (12, (.ifCond .ne 7, 3, (19, 0, 0), 0, 0)), (15, (.iconst 1, 1, (0, 0, 0), 1, 0)), (16, (.goto 4, 3, (20, 0, 0), 0, 0)), (19, (.iconst 0, 1, (0, 0, 0), 0, 0)), (20, (.iconst 1, 1, (0, 0, 0), 1, 0)), (21, (.invokevirtual 272, 3, (0, 209, 0), 0, 1886)), (24, (.ifCond .eq 5, 3, (29, 0, 0), 0, 0)), (27, (.iconst 0, 1, (0, 0, 0), 0, 0)), (28, (.ireturn, 1, (0, 0, 0), 0, 0)), (29, (.iload_n 1, 1, (0, 0, 0), 0, 0)), (30, (.iconst 0, 1, (0, 0, 0), 0, 0)), (31, (.aload_n 0, 1, (0, 0, 0), 0, 0))],
  [(32, (.getfield 13, 3, (12, 1, 0), 0, 1618)), (35, (.bipush 11, 2, (0, 0, 0), 11, 0)), (37, (.iaload, 1, (0, 0, 0), 0, 0)), (38, (.iconst 1, 1, (0, 0, 0), 1, 0)), (39, (.isub, 1, (0, 0, 0), 0, 0)), (40, (.invokestatic 70, 3, (0, 210, 0), 0, 1902)), (43, (.ifCond .eq 20, 3, (63, 0, 0), 0, 0)), (46, (.aload_n 0, 1, (0, 0, 0), 0, 0)), (47, (.getfield 13, 3, (12, 1, 0), 0, 1618)), (50, (.sipush 377, 3, (0, 0, 0), 377, 0)), (53, (.iconst 5, 1, (0, 0, 0), 5, 0)), (54, (.iload_n 1, 1, (0, 0, 0), 0, 0)), (55, (.imul, 1, (0, 0, 0), 0, 0)), (56, (.iadd, 1, (0, 0, 0), 0, 0)), (57, (.iload_n 2, 1, (0, 0, 0), 0, 0)), (58, (.iadd, 1, (0, 0, 0), 0, 0)), (59, (.iaload, 1, (0, 0, 0), 0, 0)), (60, (.goto 4, 3, (64, 0, 0), 0, 0)), (63, (.iconst (-1), 1, (0, 0, 0), (-1), 0))],
  [(64, (.ireturn, 1, (0, 0, 0), 0, 0))]]
set_option maxRecDepth 10000 in
def zp334 : List (List (Nat × ZI)) := [[(0, (.aload_n 0, 1, (0, 0, 0), 0, 0)), (1, (.iconst 0, 1, (0, 0, 0), 0, 0)), (2, (.putfield 3, 3, (12, 0, 0), 0, 1617)), (5, (.aload_n 0, 1, (0, 0, 0), 0, 0)), (6, (.aload_n 0, 1, (0, 0, 0), 0, 0)), (7, (.iload_n 1, 1, (0, 0, 0), 0, 0)), (8, (.invokevirtual 288, 3, (0, 228, 0), 0, 1898)), (11, (.iconst 1, 1, (0, 0, 0), 1, 0)), (12, (.invokevirtual 272, 3, (0, 209, 0), 0, 1886)), (15, (.ifCond .ne 20, 3, (35, 0, 0), 0, 0)), (18, (.aload_n 0, 1, (0, 0, 0), 0, 0)), (19, (.iload_n 2, 1, (0, 0, 0), 0, 0)), (20, (.ifCond .ge 7, 3, (27, 0, 0), 0, 0)), (23, (.iconst 1, 1, (0, 0, 0), 1, 0)), (24, (.goto 4, 3, (28, 0, 0), 0, 0)), (27, (.iconst 0, 1, (0, 0, 0), 0, 0)), (28, (.iconst 2, 1, (0, 0, 0), 2, 0)), (29, (.invokevirtual 272, 3, (0, 209, 0), 0, 1886))],
  [(32, (.ifCond .eq 5, 3, (37, 0, 0), 0, 0)), (35, (.iconst 0, 1, (0, 0, 0), 0, 0)), (36, (.ireturn, 1, (0, 0, 0), 0, 0)), (37, (.iload_n 1, 1, (0, 0, 0), 0, 0)), (38, (.istore_n 3, 1, (0, 0, 0), 0, 0)), (39, (.iconst 0, 1, (0, 0, 0), 0, 0)), (40, (.istore 4, 2, (0, 0, 0), 0, 0)), (42, (.iconst 0, 1, (0, 0, 0), 0, 0)), (43, (.istore 5, 2, (0, 0, 0), 0, 0)), (45, (.iload 5, 2, (0, 0, 0), 0, 0)), (47, (.iload_n 2, 1, (0, 0, 0), 0, 0)), (48, (.if_icmp .ge 79, 3, (127, 0, 0), 0, 0)), (51, (.iload 4, 2, (0, 0, 0), 0, 0)), (53, (.aload_n 0, 1, (0, 0, 0), 0, 0)), (54, (.getfield 13, 3, (12, 1, 0), 0, 1618)), (57, (.bipush 11, 2, (0, 0, 0), 11, 0)), (59, (.iaload, 1, (0, 0, 0), 0, 0)), (60, (.if_icmp .ge 28, 3, (88, 0, 0), 0, 0)), (63, (.aload_n 0, 1, (0, 0, 0), 0, 0))],
  [(64, (.getfield 13, 3, (12, 1, 0), 0, 1618)), (67, (.sipush 377, 3, (0, 0, 0), 377, 0)), (70, (.iconst 5, 1, (0, 0, 0), 5, 0)), (71, (.iload 4, 2, (0, 0, 0), 0, 0)), (73, (.imul, 1, (0, 0, 0), 0, 0)), (74, (.iadd, 1, (0, 0, 0), 0, 0)), (75, (.iconst 2, 1, (0, 0, 0), 2, 0)), (76, (.iadd, 1, (0, 0, 0), 0, 0)), (77, (.iaload, 1, (0, 0, 0), 0, 0)), (78, (.iload_n 3, 1, (0, 0, 0), 0, 0)), (79, (.if_icmp .eq 9, 3, (88, 0, 0), 0, 0)), (82, (.iinc 4 1, 3, (0, 0, 0), 1, 0)), (85, (.goto (-34), 3, (51, 0, 0), 0, 0)), (88, (.iload 4, 2, (0, 0, 0), 0, 0)), (90, (.aload_n 0, 1, (0, 0, 0), 0, 0)), (91, (.getfield 13, 3, (12, 1, 0), 0, 1618)), (94, (.bipush 11, 2, (0, 0, 0), 11, 0))],
  [(96, (.iaload, 1, (0, 0, 0), 0, 0)), (97, (.if_icmp .ne 5, 3, (102, 0, 0), 0, 0)), (100, (.iconst (-1), 1, (0, 0, 0), (-1), 0)), (101, (.ireturn, 1, (0, 0, 0), 0, 0)), (102, (.aload_n 0, 1, (0, 0, 0), 0, 0)), (103, (.getfield 13, 3, (12, 1, 0), 0, 1618)), (106, (.sipush 377, 3, (0, 0, 0), 377, 0)), (109, (.iconst 5, 1, (0, 0, 0), 5, 0)), (110, (.iload 4, 2, (0, 0, 0), 0, 0)), (112, (.imul, 1, (0, 0, 0), 0, 0)), (113, (.iadd, 1, (0, 0, 0), 0, 0)), (114, (.iconst 4, 1, (0, 0, 0), 4, 0)), (115, (.iadd, 1, (0, 0, 0), 0, 0)), (116, (.iaload, 1, (0, 0, 0), 0, 0)), (117, (.istore_n 3, 1, (0, 0, 0), 0, 0)), (118, (.iinc 4 1, 3, (0, 0, 0), 1, 0)), (121, (.iinc 5 1, 3, (0, 0, 0), 1, 0)), (124, (.goto (-79), 3, (45, 0, 0), 0, 0)), (127, (.iload_n 3, 1, (0, 0, 0), 0, 0))],
  [(128, (.ireturn, 1, (0, 0, 0), 0, 0))]]
set_option maxRecDepth 10000 in
def zp335 : List (List (Nat × ZI)) := [[(0, (.aload_n 0, 1, (0, 0, 0), 0, 0)), (1, (.iconst 0, 1, (0, 0, 0), 0, 0)), (2, (.putfield 3, 3, (12, 0, 0), 0, 1617)), (5, (.aload_n 0, 1, (0, 0, 0), 0, 0)), (6, (.getfield 13, 3, (12, 1, 0), 0, 1618)), (9, (.bipush 12, 2, (0, 0, 0), 12, 0)), (11, (.iaload, 1, (0, 0, 0), 0, 0)), (12, (.istore_n 2, 1, (0, 0, 0), 0, 0)), (13, (.aload_n 0, 1, (0, 0, 0), 0, 0)), (14, (.getfield 13, 3, (12, 1, 0), 0, 1618)), (17, (.bipush 12, 2, (0, 0, 0), 12, 0)), (19, (.iload_n 1, 1, (0, 0, 0), 0, 0)), (20, (.iastore, 1, (0, 0, 0), 0, 0)), (21, (.iload_n 2, 1, (0, 0, 0), 0, 0)), (22, (.ireturn, 1, (0, 0, 0), 0, 0))]]
set_option maxRecDepth 10000 in
def zp336 : List (List (Nat × ZI)) := [[(0, (.aload_n 0, 1, (0, 0, 0), 0, 0)), (1, (.iconst 0, 1, (0, 0, 0), 0, 0)), (2, (.putfield 3, 3, (12, 0, 0), 0, 1617)), (5, (.iconst 0, 1, (0, 0, 0), 0, 0)), (6, (.istore_n 2, 1, (0, 0, 0), 0, 0)), (7, (.iload_n 1, 1, (0, 0, 0), 0, 0)), (8, (.tableswitch 167 4 14 #[60, 167, 83, 109, 114, 122, 130, 138, 146, 154, 162], 60, (10, 0, 0), 0, 0))],
  [],
  [(68, (.aload_n 0, 1, (0, 0, 0), 0, 0)), (69, (.getfield 13, 3, (12, 1, 0), 0, 1618)), (72, (.iconst 4, 1, (0, 0, 0), 4, 0)), (73, (.iaload, 1, (0, 0, 0), 0, 0)), (74, (.iconst 1, 1, (0, 0, 0), 1, 0)), (75, (.if_icmp .ne 14, 3, (89, 0, 0), 0, 0)), (78, (.aload_n 0, 1, (0, 0, 0), 0, 0)), (79, (.getfield 13, 3, (12, 1, 0), 0, 1618)), (82, (.sipush 777, 3, (0, 0, 0), 777, 0)), (85, (.iaload, 1, (0, 0, 0), 0, 0)), (86, (.goto 4, 3, (90, 0, 0), 0, 0)), (89, (.iconst (-1), 1, (0, 0, 0), (-1), 0)), (90, (.ireturn, 1, (0, 0, 0), 0, 0)), (91, (.iconst 0, 1, (0, 0, 0), 0, 0)), (92, (.istore_n 3, 1, (0, 0, 0), 0, 0)), (93, (.iload_n 3, 1, (0, 0, 0), 0, 0)), (94, (.aload_n 0, 1, (0, 0, 0), 0, 0)), (95, (.invokevirtual 66, 3, (0, 217, 0), 0, 1742))],
  [(98, (.if_icmp .ge 17, 3, (115, 0, 0), 0, 0)), (101, (.iload_n 2, 1, (0, 0, 0), 0, 0)), (102, (.aload_n 0, 1, (0, 0, 0), 0, 0)), (103, (.iload_n 3, 1, (0, 0, 0), 0, 0)), (104, (.invokevirtual 275, 3, (0, 226, 0), 0, 1909)), (107, (.iadd, 1, (0, 0, 0), 0, 0)), (108, (.istore_n 2, 1, (0, 0, 0), 0, 0)), (109, (.iinc 3 1, 3, (0, 0, 0), 1, 0)), (112, (.goto (-19), 3, (93, 0, 0), 0, 0)), (115, (.iload_n 2, 1, (0, 0, 0), 0, 0)), (116, (.ireturn, 1, (0, 0, 0), 0, 0)), (117, (.aload_n 0, 1, (0, 0, 0), 0, 0)), (118, (.invokevirtual 355, 3, (0, 299, 0), 0, 2055)), (121, (.ireturn, 1, (0, 0, 0), 0, 0)), (122, (.aload_n 0, 1, (0, 0, 0), 0, 0)), (123, (.getfield 13, 3, (12, 1, 0), 0, 1618)), (126, (.bipush 6, 2, (0, 0, 0), 6, 0))],
  [(128, (.iaload, 1, (0, 0, 0), 0, 0)), (129, (.ireturn, 1, (0, 0, 0), 0, 0)), (130, (.aload_n 0, 1, (0, 0, 0), 0, 0)), (131, (.getfield 13, 3, (12, 1, 0), 0, 1618)), (134, (.bipush 7, 2, (0, 0, 0), 7, 0)), (136, (.iaload, 1, (0, 0, 0), 0, 0)), (137, (.ireturn, 1, (0, 0, 0), 0, 0)), (138, (.aload_n 0, 1, (0, 0, 0), 0, 0)), (139, (.getfield 13, 3, (12, 1, 0), 0, 1618)), (142, (.bipush 8, 2, (0, 0, 0), 8, 0)), (144, (.iaload, 1, (0, 0, 0), 0, 0)), (145, (.ireturn, 1, (0, 0, 0), 0, 0)), (146, (.aload_n 0, 1, (0, 0, 0), 0, 0)), (147, (.getfield 13, 3, (12, 1, 0), 0, 1618)), (150, (.bipush 9, 2, (0, 0, 0), 9, 0)), (152, (.iaload, 1, (0, 0, 0), 0, 0)), (153, (.ireturn, 1, (0, 0, 0), 0, 0)), (154, (.aload_n 0, 1, (0, 0, 0), 0, 0)), (155, (.getfield 13, 3, (12, 1, 0), 0, 1618)), (158, (.bipush 10, 2, (0, 0, 0), 10, 0))],
  [(160, (.iaload, 1, (0, 0, 0), 0, 0)), (161, (.ireturn, 1, (0, 0, 0), 0, 0)), (162, (.aload_n 0, 1, (0, 0, 0), 0, 0)), (163, (.getfield 13, 3, (12, 1, 0), 0, 1618)), (166, (.bipush 11, 2, (0, 0, 0), 11, 0)), (168, (.iaload, 1, (0, 0, 0), 0, 0)), (169, (.ireturn, 1, (0, 0, 0), 0, 0)), (170, (.aload_n 0, 1, (0, 0, 0), 0, 0)), (171, (.getfield 49, 3, (12, 7, 0), 0, 1624)), (174, (.ireturn, 1, (0, 0, 0), 0, 0)), (175, (.iload_n 1, 1, (0, 0, 0), 0, 0)), (176, (.iconst 0, 1, (0, 0, 0), 0, 0)), (177, (.iconst 5, 1, (0, 0, 0), 5, 0)), (178, (.invokestatic 70, 3, (0, 210, 0), 0, 1902)), (181, (.ifCond .eq 12, 3, (193, 0, 0), 0, 0)), (184, (.aload_n 0, 1, (0, 0, 0), 0, 0)), (185, (.getfield 13, 3, (12, 1, 0), 0, 1618)), (188, (.iload_n 1, 1, (0, 0, 0), 0, 0)), (189, (.iaload, 1, (0, 0, 0), 0, 0)), (190, (.goto 4, 3, (194, 0, 0), 0, 0))],
  [(193, (.iconst (-1), 1, (0, 0, 0), (-1), 0)), (194, (.ireturn, 1, (0, 0, 0), 0, 0))]]
set_option maxRecDepth 10000 in
def zp337 : List (List (Nat × ZI)) := [[(0, (.iload_n 0, 1, (0, 0, 0), 0, 0)), (1, (.iload_n 1, 1, (0, 0, 0), 0, 0)), (2, (.irem, 1, (0, 0, 0), 0, 0)), (3, (.istore_n 2, 1, (0, 0, 0), 0, 0)), (4, (.iload_n 0, 1, (0, 0, 0), 0, 0)), (5, (.iload_n 1, 1, (0, 0, 0), 0, 0)), (6, (.ixor, 1, (0, 0, 0), 0, 0)), (7, (.ifCond .ge 11, 3, (18, 0, 0), 0, 0)), (10, (.iload_n 2, 1, (0, 0, 0), 0, 0)), (11, (.ifCond .eq 7, 3, (18, 0, 0), 0, 0)), (14, (.iload_n 2, 1, (0, 0, 0), 0, 0)), (15, (.iload_n 1, 1, (0, 0, 0), 0, 0)), (16, (.iadd, 1, (0, 0, 0), 0, 0)), (17, (.ireturn, 1, (0, 0, 0), 0, 0)), (18, (.iload_n 2, 1, (0, 0, 0), 0, 0)), (19, (.ireturn, 1, (0, 0, 0), 0, 0))]]
set_option maxRecDepth 10000 in
def zp338 : List (List (Nat × ZI)) := [[(0, (.iload_n 0, 1, (0, 0, 0), 0, 0)), (1, (.iload_n 0, 1, (0, 0, 0), 0, 0)), (2, (.iconst 1, 1, (0, 0, 0), 1, 0)), (3, (.iushr, 1, (0, 0, 0), 0, 0)), (4, (.ldc_w 265, 3, (0, 0, 0), 1431655765, 1373)), (7, (.iand, 1, (0, 0, 0), 0, 0)), (8, (.isub, 1, (0, 0, 0), 0, 0)), (9, (.istore_n 0, 1, (0, 0, 0), 0, 0)), (10, (.iload_n 0, 1, (0, 0, 0), 0, 0)), (11, (.ldc_w 266, 3, (0, 0, 0), 858993459, 1374)), (14, (.iand, 1, (0, 0, 0), 0, 0)), (15, (.iload_n 0, 1, (0, 0, 0), 0, 0)), (16, (.iconst 2, 1, (0, 0, 0), 2, 0)), (17, (.iushr, 1, (0, 0, 0), 0, 0)), (18, (.ldc_w 266, 3, (0, 0, 0), 858993459, 1374)), (21, (.iand, 1, (0, 0, 0), 0, 0)), (22, (.iadd, 1, (0, 0, 0), 0, 0)), (23, (.istore_n 0, 1, (0, 0, 0), 0, 0)), (24, (.iload_n 0, 1, (0, 0, 0), 0, 0)), (25, (.iload_n 0, 1, (0, 0, 0), 0, 0)), (26, (.iconst 4, 1, (0, 0, 0), 4, 0)), (27, (.iushr, 1, (0, 0, 0), 0, 0)), (28, (.iadd, 1, (0, 0, 0), 0, 0)), (29, (.ldc_w 267, 3, (0, 0, 0), 252645135, 1375))],
  [(32, (.iand, 1, (0, 0, 0), 0, 0)), (33, (.istore_n 0, 1, (0, 0, 0), 0, 0)), (34, (.iload_n 0, 1, (0, 0, 0), 0, 0)), (35, (.iload_n 0, 1, (0, 0, 0), 0, 0)), (36, (.bipush 8, 2, (0, 0, 0), 8, 0)), (38, (.iushr, 1, (0, 0, 0), 0, 0)), (39, (.iadd, 1, (0, 0, 0), 0, 0)), (40, (.istore_n 0, 1, (0, 0, 0), 0, 0)), (41, (.iload_n 0, 1, (0, 0, 0), 0, 0)), (42, (.iload_n 0, 1, (0, 0, 0), 0, 0)), (43, (.bipush 16, 2, (0, 0, 0), 16, 0)), (45, (.iushr, 1, (0, 0, 0), 0, 0)), (46, (.iadd, 1, (0, 0, 0), 0, 0)), (47, (.istore_n 0, 1, (0, 0, 0), 0, 0)), (48, (.iload_n 0, 1, (0, 0, 0), 0, 0)), (49, (.bipush 63, 2, (0, 0, 0), 63, 0)), (51, (.iand, 1, (0, 0, 0), 0, 0)), (52, (.ireturn, 1, (0, 0, 0), 0, 0))]]
def zg0 : List (List (List (Nat × ZI))) := [zp0, zp1, zp2, zp3, zp4, zp5, zp6, zp7, zp8, zp9, zp10, zp11, zp12, zp13, zp14, zp15]
def zg1 : List (List (List (Nat × ZI))) := [zp16, zp17, zp18, zp19, zp20, zp21, zp22, zp23, zp24, zp25, zp26, zp27, zp28, zp29, zp30, zp31]
def zg2 : List (List (List (Nat × ZI))) := [zp32, zp33, zp34, zp35, zp36, zp37, zp38, zp39, zp40, zp41, zp42, zp43, zp44, zp45, zp46, zp47]
def zg3 : List (List (List (Nat × ZI))) := [zp48, zp49, zp50, zp51, zp52, zp53, zp54, zp55, zp56, zp57, zp58, zp59, zp60, zp61, zp62, zp63]
def zg4 : List (List (List (Nat × ZI))) := [zp64, zp65, zp66, zp67, zp68, zp69, zp70, zp71, zp72, zp73, zp74, zp75, zp76, zp77, zp78, zp79]
def zg5 : List (List (List (Nat × ZI))) := [zp80, zp81, zp82, zp83, zp84, zp85, zp86, zp87, zp88, zp89, zp90, zp91, zp92, zp93, zp94, zp95]
def zg6 : List (List (List (Nat × ZI))) := [zp96, zp97, zp98, zp99, zp100, zp101, zp102, zp103, zp104, zp105, zp106, zp107, zp108, zp109, zp110, zp111]
def zg7 : List (List (List (Nat × ZI))) := [zp112, zp113, zp114, zp115, zp116, zp117, zp118, zp119, zp120, zp121, zp122, zp123, zp124, zp125, zp126, zp127]
def zg8 : List (List (List (Nat × ZI))) := [zp128, zp129, zp130, zp131, zp132, zp133, zp134, zp135, zp136, zp137, zp138, zp139, zp140, zp141, zp142, zp143]
def zg9 : List (List (List (Nat × ZI))) := [zp144, zp145, zp146, zp147, zp148, zp149, zp150, zp151, zp152, zp153, zp154, zp155, zp156, zp157, zp158, zp159]
def zg10 : List (List (List (Nat × ZI))) := [zp160, zp161, zp162, zp163, zp164, zp165, zp166, zp167, zp168, zp169, zp170, zp171, zp172, zp173, zp174, zp175]
def zg11 : List (List (List (Nat × ZI))) := [zp176, zp177, zp178, zp179, zp180, zp181, zp182, zp183, zp184, zp185, zp186, zp187, zp188, zp189, zp190, zp191]
def zg12 : List (List (List (Nat × ZI))) := [zp192, zp193, zp194, zp195, zp196, zp197, zp198, zp199, zp200, zp201, zp202, zp203, zp204, zp205, zp206, zp207]
def zg13 : List (List (List (Nat × ZI))) := [zp208, zp209, zp210, zp211, zp212, zp213, zp214, zp215, zp216, zp217, zp218, zp219, zp220, zp221, zp222, zp223]
def zg14 : List (List (List (Nat × ZI))) := [zp224, zp225, zp226, zp227, zp228, zp229, zp230, zp231, zp232, zp233, zp234, zp235, zp236, zp237, zp238, zp239]
def zg15 : List (List (List (Nat × ZI))) := [zp240, zp241, zp242, zp243, zp244, zp245, zp246, zp247, zp248, zp249, zp250, zp251, zp252, zp253, zp254, zp255]
def zg16 : List (List (List (Nat × ZI))) := [zp256, zp257, zp258, zp259, zp260, zp261, zp262, zp263, zp264, zp265, zp266, zp267, zp268, zp269, zp270, zp271]
def zg17 : List (List (List (Nat × ZI))) := [zp272, zp273, zp274, zp275, zp276, zp277, zp278, zp279, zp280, zp281, zp282, zp283, zp284, zp285, zp286, zp287]
def zg18 : List (List (List (Nat × ZI))) := [zp288, zp289, zp290, zp291, zp292, zp293, zp294, zp295, zp296, zp297, zp298, zp299, zp300, zp301, zp302, zp303]
def zg19 : List (List (List (Nat × ZI))) := [zp304, zp305, zp306, zp307, zp308, zp309, zp310, zp311, zp312, zp313, zp314, zp315, zp316, zp317, zp318, zp319]
def zg20 : List (List (List (Nat × ZI))) := [zp320, zp321, zp322, zp323, zp324, zp325, zp326, zp327, zp328, zp329, zp330, zp331, zp332, zp333, zp334, zp335]
def zg21 : List (List (List (Nat × ZI))) := [zp336, zp337, zp338]
def zprog : List (List (List (List (Nat × ZI)))) := [zg0, zg1, zg2, zg3, zg4, zg5, zg6, zg7, zg8, zg9, zg10, zg11, zg12, zg13, zg14, zg15, zg16, zg17, zg18, zg19, zg20, zg21]
def zfetch (mi pc : Nat) : Option ZI := match zat zprog (mi / 16) with
  | none => none
  | some g => (match zat g (mi % 16) with
    | none => none
    | some cs => (match zat cs (pc / 32) with
      | none => none
      | some l => zlook l pc))
end
section
/-- a method: how many arguments, locals, static, its class, its answer (0 none, 1 int, 2 boolean), whether it has handlers -/
def zmi : List (Nat × Nat × Nat × Nat × Nat × Nat) := [(1, 7, 1, 99, 2, 0), (2, 3, 1, 99, 1, 1), (2, 3, 1, 99, 1, 1), (4, 5, 1, 99, 1, 1), (4, 5, 1, 99, 1, 1), (4, 5, 1, 99, 1, 1), (4, 5, 1, 99, 1, 1), (4, 5, 1, 99, 1, 1), (5, 6, 1, 99, 1, 1), (3, 4, 1, 99, 1, 1), (3, 4, 1, 99, 1, 1), (3, 4, 1, 99, 1, 1), (4, 5, 1, 99, 1, 1), (4, 5, 1, 99, 1, 1), (4, 5, 1, 99, 1, 1), (4, 5, 1, 99, 1, 1), (5, 6, 1, 99, 1, 1), (5, 6, 1, 99, 1, 1), (4, 5, 1, 99, 1, 1), (4, 5, 1, 99, 1, 1), (4, 5, 1, 99, 1, 1), (4, 5, 1, 99, 1, 1), (3, 4, 1, 99, 1, 1), (3, 4, 1, 99, 1, 1), (4, 5, 1, 99, 1, 1), (5, 6, 1, 99, 1, 1), (4, 5, 1, 99, 1, 1), (4, 5, 1, 99, 1, 1), (3, 4, 1, 99, 1, 1), (4, 5, 1, 99, 1, 1), (3, 4, 1, 99, 1, 1), (4, 5, 1, 99, 1, 1), (3, 4, 1, 99, 1, 1), (4, 5, 1, 99, 1, 1), (4, 5, 1, 99, 1, 1), (2, 3, 1, 99, 1, 1), (4, 5, 1, 99, 1, 1), (4, 5, 1, 99, 1, 1), (1, 1, 0, 11, 0, 0), (6, 6, 0, 11, 1, 0), (2, 2, 0, 11, 2, 0), (1, 1, 0, 11, 1, 0), (1, 1, 0, 11, 1, 0), (1, 1, 0, 11, 1, 0), (3, 3, 0, 11, 1, 0), (3, 3, 0, 11, 1, 0), (3, 3, 0, 11, 1, 0), (3, 3, 0, 11, 1, 0), (3, 3, 0, 11, 1, 0), (4, 4, 0, 11, 1, 0), (2, 4, 0, 11, 1, 0), (2, 2, 0, 11, 1, 0), (2, 2, 0, 11, 1, 0), (3, 4, 0, 11, 1, 0), (3, 4, 0, 11, 1, 0), (3, 4, 0, 11, 1, 0), (3, 3, 0, 11, 1, 0), (4, 4, 0, 11, 1, 0), (4, 4, 0, 11, 1, 0), (3, 3, 0, 11, 1, 0), (3, 3, 0, 11, 1, 0), (3, 4, 0, 11, 1, 0), (3, 3, 0, 11, 1, 0), (2, 2, 0, 11, 1, 0), (1, 1, 0, 11, 1, 0), (2, 2, 0, 11, 1, 0), (3, 3, 0, 11, 1, 0), (4, 4, 0, 11, 1, 0), (3, 3, 0, 11, 1, 0), (3, 3, 0, 11, 1, 0), (2, 2, 0, 11, 1, 0), (3, 4, 0, 11, 1, 0), (2, 2, 0, 11, 1, 0), (3, 5, 0, 11, 1, 0), (1, 1, 0, 11, 1, 0), (2, 2, 0, 11, 1, 0), (3, 3, 0, 11, 1, 0), (3, 3, 0, 11, 1, 0), (1, 4, 0, 11, 1, 0), (2, 4, 0, 11, 1, 0), (3, 3, 0, 11, 1, 0), (3, 3, 0, 11, 1, 0), (2, 3, 0, 11, 1, 0), (1, 1, 0, 11, 2, 0), (1, 1, 0, 11, 0, 0), (1, 1, 0, 11, 2, 0), (2, 2, 0, 11, 1, 0), (2, 2, 0, 11, 0, 0), (2, 2, 0, 11, 0, 0), (3, 3, 1, 11, 0, 0), (1, 1, 0, 0, 0, 0), (2, 2, 0, 0, 0, 0), (2, 4, 0, 0, 1, 0), (2, 4, 0, 0, 1, 0), (1, 3, 0, 0, 1, 0), (1, 3, 0, 0, 1, 0), (2, 2, 1, 0, 1, 0), (1, 1, 0, 0, 1, 0), (3, 4, 0, 0, 0, 0), (4, 4, 0, 0, 0, 0), (3, 6, 0, 0, 1, 0), (2, 2, 0, 0, 1, 0), (3, 6, 0, 0, 1, 0), (4, 7, 0, 0, 1, 0), (4, 8, 0, 0, 0, 0), (3, 6, 0, 0, 1, 0), (3, 5, 0, 0, 1, 0), (1, 1, 0, 1, 0, 0), (2, 2, 0, 1, 0, 0), (6, 7, 0, 1, 0, 0), (3, 3, 0, 1, 1, 0), (2, 4, 0, 1, 1, 0), (3, 6, 0, 1, 1, 0), (1, 1, 0, 2, 0, 0), (4, 5, 0, 2, 0, 0), (5, 5, 0, 2, 1, 0), (3, 3, 0, 2, 1, 0), (3, 5, 0, 2, 1, 0), (4, 7, 0, 2, 1, 0), (3, 3, 0, 2, 1, 0), (2, 3, 0, 2, 0, 0), (2, 4, 0, 2, 1, 0), (2, 4, 0, 2, 1, 0), (2, 7, 0, 2, 1, 0), (3, 5, 0, 2, 1, 0), (3, 3, 0, 2, 1, 0), (4, 6, 0, 2, 1, 0), (4, 6, 0, 2, 1, 0), (1, 1, 0, 3, 0, 0), (4, 5, 0, 3, 1, 0), (2, 2, 0, 3, 2, 0), (2, 2, 0, 3, 2, 0), (4, 4, 0, 3, 2, 0), (2, 2, 0, 3, 2, 0), (4, 4, 0, 3, 2, 0), (2, 3, 0, 3, 2, 0), (2, 2, 0, 3, 2, 0), (2, 6, 0, 3, 2, 0), (2, 2, 0, 3, 2, 0), (2, 3, 0, 3, 2, 0), (2, 2, 0, 3, 2, 0), (2, 2, 0, 3, 2, 0), (2, 2, 0, 3, 2, 0), (2, 2, 0, 3, 2, 0), (1, 1, 0, 4, 0, 0), (4, 4, 0, 4, 0, 0), (4, 4, 0, 4, 0, 0), (1, 1, 0, 5, 0, 0), (2, 2, 0, 5, 0, 0), (1, 1, 0, 5, 0, 0), (3, 3, 0, 5, 0, 0), (1, 1, 0, 5, 0, 0), (2, 2, 0, 5, 0, 0), (3, 5, 0, 5, 1, 0), (2, 2, 1, 5, 1, 0), (3, 10, 0, 5, 2, 0), (1, 1, 0, 6, 0, 0), (2, 3, 0, 6, 1, 0), (2, 2, 0, 6, 2, 0), (2, 3, 0, 6, 2, 0), (3, 6, 0, 6, 2, 0), (3, 5, 0, 6, 2, 0), (3, 3, 0, 6, 2, 0), (3, 3, 0, 6, 2, 0), (2, 6, 0, 6, 2, 0), (1, 1, 0, 7, 0, 0), (1, 1, 0, 7, 0, 0), (3, 3, 0, 7, 0, 0), (3, 4, 0, 7, 2, 0), (1, 1, 0, 8, 0, 0), (2, 2, 0, 8, 0, 0), (3, 3, 0, 8, 2, 0), (1, 1, 0, 8, 1, 0), (3, 3, 0, 8, 1, 0), (4, 4, 0, 8, 1, 0), (2, 4, 0, 8, 1, 0), (2, 4, 0, 8, 1, 0), (3, 7, 0, 8, 1, 0), (1, 1, 0, 9, 0, 0), (2, 3, 0, 9, 0, 0), (1, 1, 0, 9, 0, 0), (1, 2, 0, 9, 0, 0), (2, 2, 0, 9, 2, 0), (2, 2, 0, 9, 2, 0), (2, 2, 0, 9, 2, 0), (2, 6, 0, 9, 1, 0), (3, 5, 0, 9, 2, 0), (2, 2, 0, 9, 1, 0), (2, 2, 0, 9, 1, 0), (1, 1, 0, 10, 0, 0), (3, 4, 0, 10, 1, 0), (5, 6, 0, 10, 1, 0), (6, 7, 0, 10, 1, 0), (6, 11, 0, 10, 1, 0), (5, 10, 0, 10, 1, 0), (5, 8, 0, 10, 1, 0), (4, 10, 0, 10, 1, 0), (3, 5, 0, 10, 1, 0), (5, 6, 0, 10, 1, 0), (6, 8, 0, 10, 2, 0), (4, 5, 0, 10, 1, 0), (3, 4, 0, 10, 1, 0), (4, 5, 0, 10, 1, 0), (5, 9, 0, 10, 1, 0), (6, 8, 0, 10, 1, 0), (5, 10, 0, 10, 1, 0), (5, 8, 0, 10, 1, 0), (4, 9, 0, 10, 1, 0), (1, 1, 0, 12, 1, 0), (3, 3, 0, 12, 2, 0), (3, 3, 1, 12, 2, 0), (2, 2, 1, 12, 2, 0), (1, 1, 0, 12, 0, 0), (1, 2, 0, 12, 0, 0), (1, 2, 0, 12, 2, 0), (1, 2, 0, 12, 0, 0), (1, 2, 0, 12, 2, 0), (1, 1, 0, 12, 1, 0), (1, 1, 0, 12, 1, 0), (2, 2, 1, 12, 1, 0), (2, 2, 1, 12, 1, 0), (3, 3, 0, 12, 1, 0), (3, 3, 0, 12, 1, 0), (4, 4, 0, 12, 0, 0), (2, 2, 0, 12, 1, 0), (2, 4, 0, 12, 1, 0), (2, 2, 0, 12, 1, 0), (2, 2, 0, 12, 1, 0), (2, 2, 0, 12, 2, 0), (2, 2, 0, 12, 2, 0), (2, 2, 0, 12, 2, 0), (3, 7, 0, 12, 2, 0), (2, 2, 0, 12, 1, 0), (6, 7, 0, 12, 1, 0), (2, 2, 0, 12, 2, 0), (3, 3, 0, 12, 2, 0), (1, 1, 0, 12, 0, 0), (1, 1, 0, 12, 0, 0), (2, 4, 0, 12, 2, 0), (2, 2, 0, 12, 2, 0), (2, 2, 0, 12, 2, 0), (4, 5, 0, 12, 1, 0), (3, 3, 0, 12, 1, 0), (1, 1, 0, 12, 1, 0), (1, 1, 0, 12, 1, 0), (1, 1, 0, 12, 0, 0), (1, 1, 0, 12, 1, 0), (1, 1, 0, 12, 1, 0), (1, 5, 0, 12, 2, 0), (1, 4, 0, 12, 2, 0), (1, 5, 0, 12, 2, 0), (1, 4, 0, 12, 2, 0), (1, 4, 0, 12, 2, 0), (1, 3, 0, 12, 2, 0), (3, 5, 0, 12, 2, 0), (1, 1, 0, 12, 2, 0), (3, 3, 0, 12, 0, 0), (1, 2, 0, 12, 2, 0), (1, 1, 0, 12, 2, 0), (1, 3, 0, 12, 2, 0), (1, 2, 0, 12, 2, 0), (1, 1, 0, 12, 2, 0), (1, 1, 0, 12, 2, 0), (2, 3, 0, 12, 2, 0), (3, 3, 0, 12, 2, 0), (2, 3, 0, 12, 1, 0), (1, 3, 0, 12, 1, 0), (1, 3, 0, 12, 1, 0), (6, 6, 0, 12, 1, 0), (5, 12, 0, 12, 2, 0), (4, 6, 0, 12, 1, 0), (2, 4, 0, 12, 1, 0), (2, 4, 0, 12, 1, 0), (3, 3, 0, 12, 1, 0), (3, 3, 0, 12, 1, 0), (2, 4, 0, 12, 1, 0), (3, 3, 0, 12, 1, 0), (3, 3, 0, 12, 1, 0), (3, 3, 0, 12, 1, 0), (4, 4, 0, 12, 1, 0), (4, 7, 0, 12, 1, 0), (3, 5, 0, 12, 1, 0), (5, 6, 0, 12, 0, 0), (2, 9, 0, 12, 1, 0), (1, 3, 0, 12, 1, 0), (2, 4, 0, 12, 1, 0), (2, 2, 0, 12, 1, 0), (2, 2, 0, 12, 1, 0), (2, 2, 0, 12, 1, 0), (2, 2, 0, 12, 1, 0), (3, 4, 0, 12, 1, 0), (3, 3, 0, 12, 1, 0), (3, 3, 0, 12, 1, 0), (3, 3, 0, 12, 1, 0), (1, 2, 0, 12, 0, 0), (1, 2, 0, 12, 0, 0), (2, 3, 0, 12, 0, 0), (1, 3, 0, 12, 1, 0), (1, 3, 0, 12, 1, 0), (1, 3, 0, 12, 1, 0), (3, 4, 0, 12, 1, 0), (3, 4, 0, 12, 1, 0), (4, 5, 0, 12, 1, 0), (3, 3, 0, 12, 2, 0), (4, 8, 0, 12, 1, 0), (3, 8, 0, 12, 1, 0), (4, 4, 0, 12, 2, 0), (3, 6, 0, 12, 1, 0), (3, 11, 0, 12, 1, 0), (1, 2, 0, 12, 0, 0), (4, 6, 0, 12, 2, 0), (3, 4, 0, 12, 1, 0), (2, 3, 0, 12, 1, 0), (1, 2, 0, 12, 1, 0), (2, 3, 0, 12, 1, 0), (3, 7, 0, 12, 1, 0), (4, 6, 0, 12, 1, 0), (4, 4, 0, 12, 1, 0), (3, 8, 0, 12, 1, 0), (3, 6, 0, 12, 1, 0), (2, 7, 0, 12, 1, 0), (2, 5, 0, 12, 1, 0), (3, 5, 0, 12, 1, 0), (2, 2, 0, 12, 1, 0), (3, 4, 0, 12, 1, 0), (1, 6, 0, 12, 1, 0), (2, 4, 0, 12, 1, 0), (3, 7, 0, 12, 1, 0), (3, 4, 0, 12, 1, 0), (3, 4, 0, 12, 1, 0), (2, 2, 0, 12, 1, 0), (1, 5, 0, 12, 1, 0), (2, 6, 0, 12, 1, 0), (3, 3, 0, 12, 1, 0), (3, 6, 0, 12, 1, 0), (2, 3, 0, 12, 1, 0), (2, 4, 0, 12, 1, 0), (2, 3, 1, 99, 1, 0), (1, 1, 1, 99, 1, 0)]
/-- handlers: from, to, at, which exception -/
def zhs : List (List (Nat × Nat × Nat × Nat)) := [[], [(0, 8, 11, 0), (0, 8, 14, 1)], [(0, 8, 11, 0)], [(0, 10, 13, 2), (0, 10, 17, 3)], [(0, 10, 13, 2)], [(0, 10, 13, 2), (0, 10, 17, 3)], [(0, 10, 13, 2)], [(0, 10, 13, 2)], [(0, 12, 15, 2), (0, 12, 19, 3)], [(0, 9, 12, 0)], [(0, 9, 12, 2)], [(0, 9, 12, 2)], [(0, 10, 13, 2), (0, 10, 17, 0)], [(0, 10, 13, 2), (0, 10, 17, 0)], [(0, 10, 13, 2), (0, 10, 17, 0)], [(0, 10, 13, 0), (0, 10, 17, 3)], [(0, 12, 15, 2), (0, 12, 19, 0)], [(0, 12, 15, 0)], [(0, 10, 13, 0)], [(0, 10, 13, 0)], [(0, 10, 13, 0)], [(0, 10, 13, 0)], [(0, 9, 12, 0)], [(0, 9, 12, 0)], [(0, 10, 13, 2), (0, 10, 17, 0)], [(0, 12, 15, 2), (0, 12, 19, 0)], [(0, 10, 13, 2), (0, 10, 17, 0)], [(0, 10, 13, 0)], [(0, 9, 12, 0)], [(0, 10, 13, 2)], [(0, 9, 12, 2)], [(0, 10, 13, 2)], [(0, 9, 12, 0)], [(0, 10, 13, 2)], [(0, 10, 13, 2), (0, 10, 17, 0)], [(0, 8, 11, 0)], [(0, 10, 13, 3)], [(0, 10, 13, 2), (0, 10, 17, 0)]]
def zsws : List (List (Int32 × Nat) × Nat) := [([(0, 248), (1, 321), (2, 346), (3, 390), (4, 434), (5, 447), (6, 515), (7, 583), (8, 651), (9, 719), (10, 787), (11, 867), (12, 923), (13, 979), (14, 1035), (15, 1103), (16, 1171), (17, 1239), (18, 1307), (19, 1387), (20, 1483), (21, 1551), (22, 1619), (23, 1703), (24, 1771), (25, 1827), (26, 1840), (27, 1896), (28, 1964), (29, 2044), (30, 2112), (31, 2196), (32, 2252), (33, 2336), (34, 2392), (35, 2460), (36, 2473), (37, 2529), (38, 2597), (39, 2665), (40, 2709), (41, 2734), (42, 2802), (43, 2870), (44, 2895), (45, 2908), (46, 2919), (47, 2932)], 2957),
  ([(0, 48), (1, 61), (2, 74), (3, 84), (4, 93), (5, 106), (6, 119)], 132),
  ([(0, 48), (1, 69), (2, 78), (3, 88), (4, 98), (5, 111), (6, 121)], 133),
  ([(0, 76), (1, 87), (2, 98), (3, 109), (4, 120), (5, 131), (6, 139), (7, 147), (8, 155), (9, 163), (10, 171), (11, 179), (12, 187), (13, 195), (14, 203)], 211),
  ([(0, 56), (1, 62), (2, 68), (3, 74), (4, 80), (5, 86), (6, 92), (7, 98), (8, 104)], 110),
  ([(0, 28), (1, 36), (2, 39)], 41),
  ([(1021, 172), (1022, 188), (1023, 212), (1024, 236)], 252),
  ([(0, 44), (1, 47), (2, 56)], 64),
  ([(0, 48), (1, 50), (2, 53), (3, 68), (4, 75), (5, 82), (6, 90), (7, 107)], 127),
  ([(0, 84), (1, 90), (2, 96), (3, 103), (4, 110), (5, 117)], 124),
  ([(4, 68), (5, 175), (6, 91), (7, 117), (8, 122), (9, 130), (10, 138), (11, 146), (12, 154), (13, 162), (14, 170)], 175)]
/-- the fields of an object: a number, or a reference -/
def zcsh : List (List (Option (Option Nat))) := [[some none, some none, some none, some none, some none, some none, none, none, none, none, none, none, none], [some none, none, none], [some none, some none, some none], [some none, some none, none, none, none, none], [some none, some none, some none, some none, none], [none, none, some none, some none, some none, some none, some none, some none], [some none, none], [some none, some none, none, none], [none, none, none, none, some none, some none, some none, some none, some none], [some none, none, none, none, none, none], [some none, some none], [some none, some none, some none, some none, some none, some none, some none, some none, some none, none], [none, some none, some none, some none, some none, some none, none, none, some none, none, none, none, none, none, none, some none, none, some none, some none]]
/-- the bytes of the String constants -/
def zstrs : List (List Int32) := [[114, 111, 111, 109, 32, 100, 111, 111, 114, 32, 112, 101, 114, 115, 111, 110, 32, 108, 111, 97, 100, 32, 115, 97, 110, 100, 32, 116, 111, 111, 108, 32, 107, 101, 101, 112, 115, 32, 119, 101, 116, 32, 99, 108, 111, 103],
  [111, 117, 116, 32, 115, 116, 111, 110, 101, 32, 99, 97, 114, 112, 101, 116, 32, 98, 101, 100, 32, 100, 114, 97, 105, 110],
  [116, 104, 101, 32, 116, 101, 120, 116, 32, 111, 102, 32, 116, 104, 101, 32, 104, 111, 117, 115, 101, 32, 105, 115, 32, 119, 114, 111, 110, 103],
  [116, 104, 101, 114, 101, 32, 97, 114, 101, 32, 116, 119, 101, 108, 118, 101, 32, 116, 101, 120, 116, 115],
  [98, 114, 105, 110, 103, 32, 100, 114, 111, 112, 32, 112, 105, 99, 107, 32, 115, 119, 101, 101, 112],
  [105, 102],
  [110, 111, 116],
  [111, 117, 116, 32, 115, 116, 111, 110, 101, 32, 99, 97, 114, 112, 101, 116, 32, 98, 101, 100, 32, 100, 114, 97, 105, 110],
  [119, 101, 116],
  [112, 101, 114, 115, 111, 110, 32, 114, 111, 111, 109, 32, 108, 111, 97, 100, 32, 104, 101, 114, 101, 32, 114, 111, 117, 110, 100, 32, 112, 97, 114, 116],
  [97, 110, 100],
  [111, 114],
  [116, 104, 101, 32, 116, 101, 120, 116, 32, 111, 102, 32, 116, 104, 101, 32, 108, 97, 119, 32, 105, 115, 32, 119, 114, 111, 110, 103],
  [116, 104, 101, 114, 101, 32, 105, 115, 32, 110, 111, 32, 115, 117, 99, 104, 32, 114, 111, 111, 109],
  [97, 32, 114, 111, 111, 109, 32, 116, 101, 108, 108, 115, 32, 48, 32, 116, 111, 32, 54],
  [116, 104, 101, 114, 101, 32, 105, 115, 32, 110, 111, 32, 115, 117, 99, 104, 32, 112, 101, 114, 115, 111, 110],
  [97, 32, 112, 101, 114, 115, 111, 110, 32, 116, 101, 108, 108, 115, 32, 48, 32, 116, 111, 32, 54],
  [97, 32, 114, 117, 108, 101, 32, 116, 101, 108, 108, 115, 32, 48, 32, 116, 111, 32, 50],
  [116, 104, 101, 32, 110, 117, 109, 98, 101, 114, 32, 105, 115, 32, 110, 111, 110, 101],
  [97, 32, 116, 114, 105, 97, 108, 32, 116, 101, 108, 108, 115, 32, 48, 32, 116, 111, 32, 51],
  [98, 111, 116, 104, 32, 97, 114, 101, 32, 111, 110, 101],
  [116, 104, 101, 32, 116, 97, 112, 101, 32, 116, 101, 108, 108, 115, 32, 110, 111, 32, 114, 111, 111, 109, 115, 32, 97, 110, 100, 32, 114, 111, 117, 110, 100, 115],
  [97, 32, 114, 111, 119, 32, 116, 101, 108, 108, 115, 32, 48, 32, 116, 111, 32, 52],
  [114, 111, 111, 109],
  [111, 117, 116],
  [115, 116, 111, 110, 101],
  [99, 97, 114, 112, 101, 116],
  [98, 101, 100],
  [100, 114, 97, 105, 110],
  [100, 111, 111, 114],
  [112, 101, 114, 115, 111, 110],
  [108, 111, 97, 100],
  [115, 97, 110, 100],
  [116, 111, 111, 108],
  [107, 101, 101, 112, 115],
  [119, 101, 116],
  [99, 108, 111, 103],
  [98, 114, 105, 110, 103],
  [100, 114, 111, 112],
  [112, 105, 99, 107],
  [115, 119, 101, 101, 112],
  [105, 102],
  [110, 111, 116],
  [104, 101, 114, 101],
  [114, 111, 117, 110, 100],
  [112, 97, 114, 116],
  [97, 110, 100],
  [111, 114]]
def zsref : List (String × Nat × String) := [("SandHouse$HouseReader", 67, "room door person load sand tool keeps wet clog"), ("SandHouse$HouseReader", 117, "out stone carpet bed drain"), ("SandHouse", 93, "the text of the house is wrong"), ("SandHouse", 105, "there are twelve texts"), ("SandHouse$LawReader", 47, "bring drop pick sweep"), ("SandHouse$LawReader", 67, "if"), ("SandHouse$LawReader", 91, "not"), ("SandHouse$LawReader", 99, "out stone carpet bed drain"), ("SandHouse$LawReader", 101, "wet"), ("SandHouse$LawReader", 106, "person room load here round part"), ("SandHouse$LawReader", 87, "and"), ("SandHouse$LawReader", 89, "or"), ("SandHouse", 123, "the text of the law is wrong"), ("SandHouse", 397, "there is no such room"), ("SandHouse", 167, "a room tells 0 to 6"), ("SandHouse", 400, "there is no such person"), ("SandHouse", 198, "a person tells 0 to 6"), ("SandHouse", 203, "a rule tells 0 to 2"), ("SandHouse", 402, "the number is none"), ("SandHouse", 230, "a trial tells 0 to 3"), ("SandHouse", 307, "both are one"), ("SandHouse", 320, "the tape tells no rooms and rounds"), ("SandHouse", 338, "a row tells 0 to 4"), ("SandHouseModel", 157, "room"), ("SandHouseModel", 120, "out"), ("SandHouseModel", 122, "stone"), ("SandHouseModel", 124, "carpet"), ("SandHouseModel", 126, "bed"), ("SandHouseModel", 128, "drain"), ("SandHouseModel", 163, "door"), ("SandHouseModel", 168, "person"), ("SandHouseModel", 173, "load"), ("SandHouseModel", 178, "sand"), ("SandHouseModel", 183, "tool"), ("SandHouseModel", 188, "keeps"), ("SandHouseModel", 193, "wet"), ("SandHouseModel", 195, "clog"), ("SandHouseModel", 245, "bring"), ("SandHouseModel", 247, "drop"), ("SandHouseModel", 249, "pick"), ("SandHouseModel", 251, "sweep"), ("SandHouseModel", 253, "if"), ("SandHouseModel", 224, "not"), ("SandHouseModel", 205, "here"), ("SandHouseModel", 207, "round"), ("SandHouseModel", 209, "part"), ("SandHouseModel", 238, "and"), ("SandHouseModel", 243, "or")]
def zldI (k : List Value → Option zR) (ls : zLs) (i : Nat) (st : List Value) : Option zR := match zat ls i with
  | some (some (.int x)) => k (.int x :: st)
  | _ => none
def zldJ (k : List Value → Option zR) (ls : zLs) (i : Nat) (st : List Value) : Option zR := match zat ls i with
  | some (some (.long x)) => k (.long x :: st)
  | _ => none
def zldA (k : List Value → Option zR) (ls : zLs) (i : Nat) (st : List Value) : Option zR := match zat ls i with
  | some (some v) => cond (zisA v) (k (v :: st)) none
  | _ => none
def zstI (k : zLs → List Value → Option zR) (ls : zLs) (i : Nat) (st : List Value) : Option zR := match st with
  | .int x :: r => k (zstl ls i (.int x)) r
  | _ => none
def zstJ (k : zLs → List Value → Option zR) (ls : zLs) (i : Nat) (st : List Value) : Option zR := match st with
  | .long x :: r => k (zset (zstl ls i (.long x)) (i + 1) none) r
  | _ => none
def zstA (k : zLs → List Value → Option zR) (ls : zLs) (i : Nat) (st : List Value) : Option zR := match st with
  | .ref x :: r => k (zstl ls i (.ref x)) r
  | .double x :: r => k (zstl ls i (.double x)) r
  | _ => none
def zinc (k : zLs → Option zR) (ls : zLs) (i : Nat) (z : Int32) : Option zR := match zat ls i with
  | some (some (.int x)) => k (zstl ls i (.int (x + z)))
  | _ => none
def zb2 (k : List Value → Option zR) (f : Int32 → Int32 → Int32) (st : List Value) : Option zR := match st with
  | .int b :: .int a :: r => k (.int (f a b) :: r)
  | _ => none
def zl2 (k : List Value → Option zR) (f : Int64 → Int64 → Int64) (st : List Value) : Option zR := match st with
  | .long b :: .long a :: r => k (.long (f a b) :: r)
  | _ => none
def zif1 (k : Nat → List Value → Option zR) (c : ClassFile.Cond) (t p : Nat) (st : List Value) : Option zR := match st with
  | .int x :: r => (match c with
    | .eq => if x = 0 then k t r else k p r
    | .ne => if x = 0 then k p r else k t r
    | .lt => if x < 0 then k t r else k p r
    | .ge => if 0 ≤ x then k t r else k p r
    | .gt => if 0 < x then k t r else k p r
    | .le => if x ≤ 0 then k t r else k p r)
  | _ => none
def zif2 (k : Nat → List Value → Option zR) (c : ClassFile.Cond) (t p : Nat) (st : List Value) : Option zR := match st with
  | .int y :: .int x :: r => (match c with
    | .eq => if x = y then k t r else k p r
    | .ne => if x = y then k p r else k t r
    | .lt => if x < y then k t r else k p r
    | .ge => if y ≤ x then k t r else k p r
    | .gt => if y < x then k t r else k p r
    | .le => if x ≤ y then k t r else k p r)
  | _ => none
def znul (k : Nat → List Value → Option zR) (t p : Nat) (st : List Value) : Option zR := match st with
  | .null :: r => k t r
  | .ref _ :: r => k p r
  | _ => none
def zget (k : List Value → Option zR) (h : zH) (ci fk : Nat) (st : List Value) : Option zR := match st with
  | .ref a :: r => (match zat h.1 a with
    | some (.inr (.inl (c, sl))) => cond (Nat.beq c ci) (match zat sl fk with
      | some none => k (.int (h.2.1 a fk) :: r)
      | some (some o) => k (zrf o :: r)
      | none => none) none
    | _ => none)
  | _ => none
/-- z = 1: a field of type boolean -/
def zput (k : List Value → zH → Option zR) (h : zH) (ci fk : Nat) (z : Int32) (st : List Value) : Option zR := match st with
  | .int y :: .ref a :: r => (match zat h.1 a with
    | some (.inr (.inl (c, sl))) => cond (Nat.beq c ci) (match zat sl fk with
      | some none => if z = 0 then k r (zsetI h a (upd (h.2.1 a) fk y)) else zc01 y (k r (zsetI h a (upd (h.2.1 a) fk y)))
      | _ => none) none
    | _ => none)
  | .ref b :: .ref a :: r => (match zat h.1 a with
    | some (.inr (.inl (c, sl))) => cond (Nat.beq c ci) (match zat sl fk with
      | some (some _) => k r (zsetS h a (.inr (.inl (c, zset sl fk (some (some b))))))
      | _ => none) none
    | _ => none)
  | _ => none
def zald (E : zE) (k : List Value → Option zR) (h : zH) (st : List Value) : Option zR := match st with
  | .int j :: .ref a :: r => zarr h 0 a fun n => zck j n (k (.int (h.2.1 a j.toNatClampNeg) :: r))
  | .int j :: .float _ :: r => zck j E.1 (k (.int (E.2 j.toNatClampNeg) :: r))
  | _ => none
def zaldB (k : List Value → Option zR) (h : zH) (st : List Value) : Option zR := match st with
  | .int j :: .ref a :: r => zarr h 1 a fun n => zck j n (k (.int (h.2.1 a j.toNatClampNeg) :: r))
  | _ => none
def zaldJ (k : List Value → Option zR) (h : zH) (st : List Value) : Option zR := match st with
  | .int j :: .ref a :: r => zarr h 2 a fun n => zck j n (k (.long (h.2.2.1 a j.toNatClampNeg) :: r))
  | _ => none
def zaldA (k : List Value → Option zR) (h : zH) (st : List Value) : Option zR := match st with
  | .int j :: .ref a :: r => (match zat h.1 a with
    | some (.inl (t, n, rf)) => cond (Nat.ble 3 t) (zck j n (match zat rf j.toNatClampNeg with
      | some o => k (zrf o :: r)
      | none => none)) none
    | _ => none)
  | _ => none
def zast (k : List Value → zH → Option zR) (h : zH) (st : List Value) : Option zR := match st with
  | .int x :: .int j :: .ref a :: r => zarr h 0 a fun n => zck j n (k r (zsetI h a (upd (h.2.1 a) j.toNatClampNeg x)))
  | _ => none
def zastB (k : List Value → zH → Option zR) (h : zH) (st : List Value) : Option zR := match st with
  | .int x :: .int j :: .ref a :: r => zarr h 1 a fun n => zck j n (k r (zsetI h a (upd (h.2.1 a) j.toNatClampNeg x.toInt8.toInt32)))
  | _ => none
def zastJ (k : List Value → zH → Option zR) (h : zH) (st : List Value) : Option zR := match st with
  | .long x :: .int j :: .ref a :: r => zarr h 2 a fun n => zck j n (k r (zsetJ h a (vp_updL (h.2.2.1 a) j.toNatClampNeg x)))
  | _ => none
def zastA (k : List Value → zH → Option zR) (h : zH) (st : List Value) : Option zR := match st with
  | .ref b :: .int j :: .ref a :: r => (match zat h.1 a with
    | some (.inl (t, n, rf)) => cond (Nat.ble 3 t) (zck j n (match zat h.1 b with
      | some (.inr (.inl (c, _))) => cond (Nat.beq (c + 3) t) (k r (zsetS h a (.inl (t, n, zset rf j.toNatClampNeg (some b))))) none
      | _ => none)) none
    | _ => none)
  | _ => none
def zalen (E : zE) (k : List Value → Option zR) (h : zH) (st : List Value) : Option zR := match st with
  | .ref a :: r => (match zat h.1 a with
    | some (.inl (_, n, _)) => k (.int (Int32.ofNat n) :: r)
    | _ => none)
  | .float _ :: r => k (.int (Int32.ofNat E.1) :: r)
  | _ => none
def znewa (k : List Value → zH → Option zR) (h : zH) (t : Nat) (st : List Value) : Option zR := match st with
  | .int n :: r => if n < 0 then none else cond (Nat.ble n.toNatClampNeg 100000) (k (.ref h.1.length :: r) (zpush h (.inl (t, n.toNatClampNeg, cond (Nat.ble 3 t) (List.replicate n.toNatClampNeg none) [])) n.toNatClampNeg)) none
  | _ => none
def zcopy (k : List Value → zH → Option zR) (h : zH) (st : List Value) : Option zR := match st with
  | .int n :: .int dp :: .ref b :: .int sp :: .ref a :: r => zarr h 0 a fun na => zarr h 0 b fun nb =>
    if sp < 0 then none else if dp < 0 then none else if n < 0 then none else
    cond (Nat.ble (sp.toNatClampNeg + n.toNatClampNeg) na && Nat.ble (dp.toNatClampNeg + n.toNatClampNeg) nb && Nat.ble (zsum r) 8)
      (k r (zsetI h b (va_cpy (h.2.1 a) (h.2.1 b) sp.toNatClampNeg dp.toNatClampNeg n.toNatClampNeg))) none
  | _ => none
def zrecv (h : zH) (stc ci : Nat) (as : List Value) (r : Option zR) : Option zR := match stc with
  | 0 => (match as with
    | .ref k :: _ => (match zat h.1 k with
      | some (.inr (.inl (c, _))) => cond (Nat.beq c ci) r none
      | _ => none)
    | _ => none)
  | _ + 1 => r
/-- a call of method j; tx: it may throw -/
def zinv (ih : zF) (nx : zLs → List Value → zH → Option zR) (d mi pc j : Nat) (tx : Bool) (ls : zLs) (st : List Value) (h : zH) : Option zR := match zat zmi j with
  | none => none
  | some (na, mL, stc, ci, _, kd) => (match zpop na st [] with
    | none => none
    | some (as, r) => cond (Nat.ble (zsum r) 8 && as.all zc1) (zrecv h stc ci as (match d with
      | 0 => none
      | d' + 1 => zcall (ih d' j 0 (zent mL as) [] h) (fun v h1 => nx ls (v.toList ++ r) h1)
        (fun x h1 => cond (tx && Nat.beq kd 0) (match zat zhs mi with
          | some (e :: l) => (match zhand (e :: l) pc x with
            | some t => ih d mi t ls [.double 0] h1
            | none => none)
          | _ => some (.inr x, h1)) none))) none)
def zpri (nx : zLs → List Value → zH → Option zR) (kind : Nat) (ls : zLs) (st : List Value) (h : zH) : Option zR := match kind with
  | 1 => (match st with
    | .ref _ :: r => cond (Nat.ble (zsum r) 8) (nx ls r h) none
    | _ => none)
  | 2 => (match st with
    | .int y :: .int x :: r => cond (Nat.ble (zsum r) 8) (nx ls (.int (if y < x then y else x) :: r) h) none
    | _ => none)
  | 3 => (match st with
    | .int y :: .int x :: r => cond (Nat.ble (zsum r) 8) (nx ls (.int (if x < y then y else x) :: r) h) none
    | _ => none)
  | 4 => (match st with
    | .retAddr i :: r => cond (Nat.ble (zsum r) 8) (match zat zstrs i with
      | some bs => nx ls (.int (Int32.ofNat bs.length) :: r) h
      | none => none) none
    | _ => none)
  | 5 => (match st with
    | .int j :: .retAddr i :: r => cond (Nat.ble (zsum r) 8) (match zat zstrs i with
      | some bs => zck j bs.length (match zat bs j.toNatClampNeg with
        | some b => nx ls (.int b :: r) h
        | none => none)
      | none => none) none
    | _ => none)
  | 6 => zcopy (nx ls) h st
  | _ => none
def zins (E : zE) (ih : zF) (d mi pc : Nat) (ls : zLs) (st : List Value) (h : zH) (ln a1 a2 a3 : Nat) (z : Int32) (ins : Instr) : Option zR := match ins with
  | .aconst_null => ih d mi (pc + ln) ls (.null :: st) h
  | .iconst _ => ih d mi (pc + ln) ls (.int z :: st) h
  | .bipush _ => ih d mi (pc + ln) ls (.int z :: st) h
  | .sipush _ => ih d mi (pc + ln) ls (.int z :: st) h
  | .lconst _ => ih d mi (pc + ln) ls (.long z.toInt64 :: st) h
  | .ldc2_w _ => ih d mi (pc + ln) ls (.long z.toInt64 :: st) h
  | .ldc _ => (match a1 with
    | 0 => ih d mi (pc + ln) ls (.int z :: st) h
    | 1 => ih d mi (pc + ln) ls (.retAddr a2 :: st) h
    | _ => none)
  | .ldc_w _ => (match a1 with
    | 0 => ih d mi (pc + ln) ls (.int z :: st) h
    | _ => none)
  | .iload i => zldI (fun s => ih d mi (pc + ln) ls s h) ls i st
  | .iload_n i => zldI (fun s => ih d mi (pc + ln) ls s h) ls i.val st
  | .lload i => zldJ (fun s => ih d mi (pc + ln) ls s h) ls i st
  | .lload_n i => zldJ (fun s => ih d mi (pc + ln) ls s h) ls i.val st
  | .aload i => zldA (fun s => ih d mi (pc + ln) ls s h) ls i st
  | .aload_n i => zldA (fun s => ih d mi (pc + ln) ls s h) ls i.val st
  | .istore i => zstI (fun l s => ih d mi (pc + ln) l s h) ls i st
  | .istore_n i => zstI (fun l s => ih d mi (pc + ln) l s h) ls i.val st
  | .lstore i => zstJ (fun l s => ih d mi (pc + ln) l s h) ls i st
  | .lstore_n i => zstJ (fun l s => ih d mi (pc + ln) l s h) ls i.val st
  | .astore i => zstA (fun l s => ih d mi (pc + ln) l s h) ls i st
  | .astore_n i => zstA (fun l s => ih d mi (pc + ln) l s h) ls i.val st
  | .iinc i _ => zinc (fun l => ih d mi (pc + ln) l st h) ls i z
  | .iadd => zb2 (fun s => ih d mi (pc + ln) ls s h) (fun a b => a + b) st
  | .isub => zb2 (fun s => ih d mi (pc + ln) ls s h) (fun a b => a - b) st
  | .imul => zb2 (fun s => ih d mi (pc + ln) ls s h) (fun a b => a * b) st
  | .iand => zb2 (fun s => ih d mi (pc + ln) ls s h) (fun a b => a &&& b) st
  | .ior => zb2 (fun s => ih d mi (pc + ln) ls s h) (fun a b => a ||| b) st
  | .ixor => zb2 (fun s => ih d mi (pc + ln) ls s h) (fun a b => a ^^^ b) st
  | .ishl => zb2 (fun s => ih d mi (pc + ln) ls s h) (fun a b => a <<< (b &&& 31)) st
  | .ishr => zb2 (fun s => ih d mi (pc + ln) ls s h) (fun a b => a >>> (b &&& 31)) st
  | .iushr => zb2 (fun s => ih d mi (pc + ln) ls s h) (fun a b => (a.toUInt32 >>> (b.toUInt32 &&& Int32.toUInt32 31)).toInt32) st
  | .idiv => (match st with
    | .int y :: .int x :: r => znz y (ih d mi (pc + ln) ls (.int (x / y) :: r) h)
    | _ => none)
  | .irem => (match st with
    | .int y :: .int x :: r => znz y (ih d mi (pc + ln) ls (.int (x - x / y * y) :: r) h)
    | _ => none)
  | .ladd => zl2 (fun s => ih d mi (pc + ln) ls s h) (fun a b => a + b) st
  | .lsub => zl2 (fun s => ih d mi (pc + ln) ls s h) (fun a b => a - b) st
  | .lmul => zl2 (fun s => ih d mi (pc + ln) ls s h) (fun a b => a * b) st
  | .land => zl2 (fun s => ih d mi (pc + ln) ls s h) (fun a b => a &&& b) st
  | .lor => zl2 (fun s => ih d mi (pc + ln) ls s h) (fun a b => a ||| b) st
  | .ldiv => (match st with
    | .long y :: .long x :: r => znzl y (ih d mi (pc + ln) ls (.long (x / y) :: r) h)
    | _ => none)
  | .lcmp => (match st with
    | .long y :: .long x :: r => ih d mi (pc + ln) ls (.int (lg_cmp x y) :: r) h
    | _ => none)
  | .i2l => (match st with
    | .int x :: r => ih d mi (pc + ln) ls (.long x.toInt64 :: r) h
    | _ => none)
  | .l2i => (match st with
    | .long x :: r => ih d mi (pc + ln) ls (.int x.toInt32 :: r) h
    | _ => none)
  | .i2b => (match st with
    | .int x :: r => ih d mi (pc + ln) ls (.int x.toInt8.toInt32 :: r) h
    | _ => none)
  | .dup => (match st with
    | v :: r => cond (zc1 v) (ih d mi (pc + ln) ls (v :: v :: r) h) none
    | _ => none)
  | .dup2 => (match st with
    | v :: u :: r => cond (zc1 v && zc1 u) (ih d mi (pc + ln) ls (v :: u :: v :: u :: r) h) none
    | _ => none)
  | .pop => (match st with
    | v :: r => cond (zc1 v) (ih d mi (pc + ln) ls r h) none
    | _ => none)
  | .goto _ => ih d mi a1 ls st h
  | .ifCond c _ => zif1 (fun p s => ih d mi p ls s h) c a1 (pc + ln) st
  | .if_icmp c _ => zif2 (fun p s => ih d mi p ls s h) c a1 (pc + ln) st
  | .ifnull _ => znul (fun p s => ih d mi p ls s h) a1 (pc + ln) st
  | .ifnonnull _ => znul (fun p s => ih d mi p ls s h) (pc + ln) a1 st
  | .tableswitch .. => (match st with
    | .int x :: r => (match zat zsws a1 with
      | some (l, t) => zsw x l t (fun p => ih d mi p ls r h)
      | none => none)
    | _ => none)
  | .getfield _ => zget (fun s => ih d mi (pc + ln) ls s h) h a1 a2 st
  | .putfield _ => zput (fun s h' => ih d mi (pc + ln) ls s h') h a1 a2 z st
  | .iaload => zald E (fun s => ih d mi (pc + ln) ls s h) h st
  | .baload => zaldB (fun s => ih d mi (pc + ln) ls s h) h st
  | .laload => zaldJ (fun s => ih d mi (pc + ln) ls s h) h st
  | .aaload => zaldA (fun s => ih d mi (pc + ln) ls s h) h st
  | .iastore => zast (fun s h' => ih d mi (pc + ln) ls s h') h st
  | .bastore => zastB (fun s h' => ih d mi (pc + ln) ls s h') h st
  | .lastore => zastJ (fun s h' => ih d mi (pc + ln) ls s h') h st
  | .aastore => zastA (fun s h' => ih d mi (pc + ln) ls s h') h st
  | .arraylength => zalen E (fun s => ih d mi (pc + ln) ls s h) h st
  | .newarray _ => znewa (fun s h' => ih d mi (pc + ln) ls s h') h a1 st
  | .anewarray _ => znewa (fun s h' => ih d mi (pc + ln) ls s h') h a1 st
  | .new _ => (match a1 with
    | 0 => (match zat zcsh a2 with
      | some sl => ih d mi (pc + ln) ls (.ref h.1.length :: st) (zpush h (.inr (.inl (a2, sl))) sl.length)
      | none => none)
    | _ => cond (Nat.ble (zsum st) 8) (some (.inr a2, (h.1, h.2.1, h.2.2.1, h.2.2.2.1 + 1, h.2.2.2.2 + 6))) none)
  | .invokespecial _ => (match a1 with
    | 0 => zinv ih (ih d mi (pc + ln)) d mi pc a2 false ls st h
    | _ => zpri (ih d mi (pc + ln)) a1 ls st h)
  | .invokevirtual _ => (match a1 with
    | 0 => zinv ih (ih d mi (pc + ln)) d mi pc a2 (Nat.beq a3 0) ls st h
    | _ => zpri (ih d mi (pc + ln)) a1 ls st h)
  | .invokestatic _ => (match a1 with
    | 0 => zinv ih (ih d mi (pc + ln)) d mi pc a2 (Nat.beq a3 0) ls st h
    | _ => zpri (ih d mi (pc + ln)) a1 ls st h)
  | .ireturn => (match st with
    | [.int x] => (match zat zmi mi with
      | some (_, _, _, _, 1, _) => some (.inl (some (.int x)), h)
      | some (_, _, _, _, 2, _) => zc01 x (some (.inl (some (.int x)), h))
      | _ => none)
    | _ => none)
  | .return_ => (match st with
    | [] => (match zat zmi mi with
      | some (_, _, _, _, 0, _) => some (.inl none, h)
      | _ => none)
    | _ => none)
  | _ => none
def zbody (E : zE) (ih : zF) : zF := fun d mi pc ls st h => match zfetch mi pc with
  | none => none
  | some (ins, ln, (a1, a2, a3), z, _) => zins E ih d mi pc ls st h ln a1 a2 a3 z ins
noncomputable def zex (E : zE) (n : Nat) : zF := Nat.rec (motive := fun _ => zF) (fun _ _ _ _ _ _ => none) (fun _ ih => zbody E ih) n
theorem zex_succ (E : zE) (n : Nat) : zex E (n + 1) = zbody E (zex E n) := rfl
theorem zex_zero (E : zE) (d mi pc : Nat) (ls : zLs) (st : List Value) (h : zH) : zex E 0 d mi pc ls st h = none := rfl
end
section
/-- a method: its name, code, locals, what it answers, its table; the places of its words -/
def zmn : List (MethodName × ByteArray × Nat × Option FieldType × List (Nat × Nat × Nat × Nat) × Nat × Nat × Nat × Nat) := [(⟨"SandHouseLaw", "law", "([I)Z"⟩, code, 7, (some .boolean), [], 0, 183, 0, 0),
  (⟨"SandHouseLaw", "house", "(LSandHouse;[J)I"⟩, method_3_code, 3, (some .int), [(0, 8, 11, 13), (0, 8, 14, 15)], 807, 183, 806, 0),
  (⟨"SandHouseLaw", "law", "(LSandHouse;[J)I"⟩, method_4_code, 3, (some .int), [(0, 8, 11, 13)], 1046, 183, 1045, 0),
  (⟨"SandHouseLaw", "room", "(LSandHouse;II[J)I"⟩, method_5_code, 5, (some .int), [(0, 10, 13, 24), (0, 10, 17, 26)], 1121, 183, 1120, 0),
  (⟨"SandHouseLaw", "sand", "(LSandHouse;II[J)I"⟩, method_6_code, 5, (some .int), [(0, 10, 13, 24)], 1185, 183, 1184, 0),
  (⟨"SandHouseLaw", "person", "(LSandHouse;II[J)I"⟩, method_7_code, 5, (some .int), [(0, 10, 13, 24), (0, 10, 17, 26)], 1197, 183, 1196, 0),
  (⟨"SandHouseLaw", "load", "(LSandHouse;II[J)I"⟩, method_8_code, 5, (some .int), [(0, 10, 13, 24)], 1211, 183, 1210, 0),
  (⟨"SandHouseLaw", "habit", "(LSandHouse;II[J)I"⟩, method_9_code, 5, (some .int), [(0, 10, 13, 24)], 1218, 183, 1217, 0),
  (⟨"SandHouseLaw", "rule", "(LSandHouse;III[J)I"⟩, method_10_code, 6, (some .int), [(0, 12, 15, 24), (0, 12, 19, 26)], 1225, 183, 1224, 0),
  (⟨"SandHouseLaw", "rounds", "(LSandHouse;I[J)I"⟩, method_11_code, 4, (some .int), [(0, 9, 12, 13)], 1237, 183, 1236, 0),
  (⟨"SandHouseLaw", "sweep", "(LSandHouse;I[J)I"⟩, method_12_code, 4, (some .int), [(0, 9, 12, 24)], 1256, 183, 1255, 0),
  (⟨"SandHouseLaw", "beat", "(LSandHouse;I[J)I"⟩, method_13_code, 4, (some .int), [(0, 9, 12, 24)], 1268, 183, 1267, 0),
  (⟨"SandHouseLaw", "tool", "(LSandHouse;II[J)I"⟩, method_14_code, 5, (some .int), [(0, 10, 13, 24), (0, 10, 17, 13)], 1280, 183, 1279, 0),
  (⟨"SandHouseLaw", "keep", "(LSandHouse;II[J)I"⟩, method_15_code, 5, (some .int), [(0, 10, 13, 24), (0, 10, 17, 13)], 1287, 183, 1286, 0),
  (⟨"SandHouseLaw", "soak", "(LSandHouse;II[J)I"⟩, method_16_code, 5, (some .int), [(0, 10, 13, 24), (0, 10, 17, 13)], 1294, 183, 1293, 0),
  (⟨"SandHouseLaw", "trial", "(LSandHouse;II[J)I"⟩, method_17_code, 5, (some .int), [(0, 10, 13, 13), (0, 10, 17, 26)], 1301, 183, 1300, 0),
  (⟨"SandHouseLaw", "worth", "(LSandHouse;III[J)I"⟩, method_18_code, 6, (some .int), [(0, 12, 15, 24), (0, 12, 19, 13)], 1326, 183, 1325, 0),
  (⟨"SandHouseLaw", "stand", "(LSandHouse;IIZ[J)I"⟩, method_19_code, 6, (some .int), [(0, 12, 15, 13)], 1337, 183, 1336, 0),
  (⟨"SandHouseLaw", "two", "(LSandHouse;II[J)I"⟩, method_20_code, 5, (some .int), [(0, 10, 13, 13)], 1348, 183, 1347, 0),
  (⟨"SandHouseLaw", "keepers", "(LSandHouse;II[J)I"⟩, method_21_code, 5, (some .int), [(0, 10, 13, 13)], 1359, 183, 1358, 0),
  (⟨"SandHouseLaw", "chores", "(LSandHouse;IZ[J)I"⟩, method_22_code, 5, (some .int), [(0, 10, 13, 13)], 1378, 183, 1377, 0),
  (⟨"SandHouseLaw", "often", "(LSandHouse;II[J)I"⟩, method_23_code, 5, (some .int), [(0, 10, 13, 13)], 1399, 183, 1398, 0),
  (⟨"SandHouseLaw", "when", "(LSandHouse;I[J)I"⟩, method_24_code, 4, (some .int), [(0, 9, 12, 13)], 1419, 183, 1418, 0),
  (⟨"SandHouseLaw", "fades", "(LSandHouse;I[J)I"⟩, method_25_code, 4, (some .int), [(0, 9, 12, 13)], 1431, 183, 1430, 0),
  (⟨"SandHouseLaw", "later", "(LSandHouse;II[J)I"⟩, method_26_code, 5, (some .int), [(0, 10, 13, 24), (0, 10, 17, 13)], 1442, 183, 1441, 0),
  (⟨"SandHouseLaw", "towel", "(LSandHouse;III[J)I"⟩, method_27_code, 6, (some .int), [(0, 12, 15, 24), (0, 12, 19, 13)], 1454, 183, 1453, 0),
  (⟨"SandHouseLaw", "towelled", "(LSandHouse;II[J)I"⟩, method_28_code, 5, (some .int), [(0, 10, 13, 24), (0, 10, 17, 13)], 1467, 183, 1466, 0),
  (⟨"SandHouseLaw", "span", "(LSandHouse;IZ[J)I"⟩, method_29_code, 5, (some .int), [(0, 10, 13, 13)], 1480, 183, 1479, 0),
  (⟨"SandHouseLaw", "peak", "(LSandHouse;I[J)I"⟩, method_30_code, 4, (some .int), [(0, 9, 12, 13)], 1491, 183, 1490, 0),
  (⟨"SandHouseLaw", "carries", "(LSandHouse;IZ[J)I"⟩, method_31_code, 5, (some .int), [(0, 10, 13, 24)], 1502, 183, 1501, 0),
  (⟨"SandHouseLaw", "whose", "(LSandHouse;I[J)I"⟩, method_32_code, 4, (some .int), [(0, 9, 12, 24)], 1517, 183, 1516, 0),
  (⟨"SandHouseLaw", "share", "(LSandHouse;II[J)I"⟩, method_33_code, 5, (some .int), [(0, 10, 13, 24)], 1524, 183, 1523, 0),
  (⟨"SandHouseLaw", "itch", "(LSandHouse;I[J)I"⟩, method_34_code, 4, (some .int), [(0, 9, 12, 13)], 1532, 183, 1531, 0),
  (⟨"SandHouseLaw", "ways", "(LSandHouse;II[J)I"⟩, method_35_code, 5, (some .int), [(0, 10, 13, 24)], 1543, 183, 1542, 0),
  (⟨"SandHouseLaw", "cross", "(LSandHouse;II[J)I"⟩, method_36_code, 5, (some .int), [(0, 10, 13, 24), (0, 10, 17, 13)], 1554, 183, 1553, 0),
  (⟨"SandHouseLaw", "noon", "(LSandHouse;[J)I"⟩, method_37_code, 3, (some .int), [(0, 8, 11, 13)], 1566, 183, 1565, 0),
  (⟨"SandHouseLaw", "log", "(LSandHouse;II[J)I"⟩, method_38_code, 5, (some .int), [(0, 10, 13, 26)], 1589, 183, 1588, 0),
  (⟨"SandHouseLaw", "led", "(LSandHouse;II[J)I"⟩, method_39_code, 5, (some .int), [(0, 10, 13, 24), (0, 10, 17, 13)], 1598, 183, 1597, 0),
  (⟨"SandHouse", "<init>", "()V"⟩, prog_1_method_1_code, 1, none, [], 215, 184, 214, 0),
  (⟨"SandHouse", "feed", "(IIIII)I"⟩, prog_1_method_2_code, 6, (some .int), [], 609, 184, 607, 608),
  (⟨"SandHouse", "end", "(I)Z"⟩, prog_1_method_3_code, 2, (some .boolean), [], 617, 184, 615, 616),
  (⟨"SandHouse", "house", "()I"⟩, prog_1_method_4_code, 1, (some .int), [], 813, 184, 811, 812),
  (⟨"SandHouse", "law", "()I"⟩, prog_1_method_5_code, 1, (some .int), [], 1050, 184, 1048, 1049),
  (⟨"SandHouse", "fault", "()I"⟩, prog_1_method_6_code, 1, (some .int), [], 621, 184, 619, 620),
  (⟨"SandHouse", "room", "(II)I"⟩, prog_1_method_7_code, 3, (some .int), [], 1127, 184, 1125, 1126),
  (⟨"SandHouse", "sand", "(II)I"⟩, prog_1_method_8_code, 3, (some .int), [], 1189, 184, 1187, 1188),
  (⟨"SandHouse", "person", "(II)I"⟩, prog_1_method_9_code, 3, (some .int), [], 1201, 184, 1199, 1200),
  (⟨"SandHouse", "load", "(II)I"⟩, prog_1_method_10_code, 3, (some .int), [], 1215, 184, 1213, 1214),
  (⟨"SandHouse", "habit", "(II)I"⟩, prog_1_method_11_code, 3, (some .int), [], 1222, 184, 1220, 1221),
  (⟨"SandHouse", "rule", "(III)I"⟩, prog_1_method_12_code, 4, (some .int), [], 1229, 184, 1227, 1228),
  (⟨"SandHouse", "rounds", "(I)I"⟩, prog_1_method_13_code, 4, (some .int), [], 1241, 184, 1239, 1240),
  (⟨"SandHouse", "sweep", "(I)I"⟩, prog_1_method_14_code, 2, (some .int), [], 1260, 184, 1258, 1259),
  (⟨"SandHouse", "beat", "(I)I"⟩, prog_1_method_15_code, 2, (some .int), [], 1272, 184, 1270, 1271),
  (⟨"SandHouse", "tool", "(II)I"⟩, prog_1_method_16_code, 4, (some .int), [], 1284, 184, 1282, 1283),
  (⟨"SandHouse", "keep", "(II)I"⟩, prog_1_method_17_code, 4, (some .int), [], 1291, 184, 1289, 1290),
  (⟨"SandHouse", "soak", "(II)I"⟩, prog_1_method_18_code, 4, (some .int), [], 1298, 184, 1296, 1297),
  (⟨"SandHouse", "trial", "(II)I"⟩, prog_1_method_19_code, 3, (some .int), [], 1305, 184, 1303, 1304),
  (⟨"SandHouse", "worth", "(III)I"⟩, prog_1_method_20_code, 4, (some .int), [], 1330, 184, 1328, 1329),
  (⟨"SandHouse", "stand", "(IIZ)I"⟩, prog_1_method_21_code, 4, (some .int), [], 1341, 184, 1339, 1340),
  (⟨"SandHouse", "two", "(II)I"⟩, prog_1_method_22_code, 3, (some .int), [], 1352, 184, 1350, 1351),
  (⟨"SandHouse", "keepers", "(II)I"⟩, prog_1_method_23_code, 3, (some .int), [], 1363, 184, 1361, 1362),
  (⟨"SandHouse", "chores", "(IZ)I"⟩, prog_1_method_24_code, 4, (some .int), [], 1382, 184, 1380, 1381),
  (⟨"SandHouse", "often", "(II)I"⟩, prog_1_method_25_code, 3, (some .int), [], 1403, 184, 1401, 1402),
  (⟨"SandHouse", "when", "(I)I"⟩, prog_1_method_26_code, 2, (some .int), [], 1423, 184, 1421, 1422),
  (⟨"SandHouse", "clogs", "()I"⟩, prog_1_method_27_code, 1, (some .int), [], 625, 184, 623, 624),
  (⟨"SandHouse", "fades", "(I)I"⟩, prog_1_method_28_code, 2, (some .int), [], 1435, 184, 1433, 1434),
  (⟨"SandHouse", "later", "(II)I"⟩, prog_1_method_29_code, 3, (some .int), [], 1446, 184, 1444, 1445),
  (⟨"SandHouse", "towel", "(III)I"⟩, prog_1_method_30_code, 4, (some .int), [], 1458, 184, 1456, 1457),
  (⟨"SandHouse", "towelled", "(II)I"⟩, prog_1_method_31_code, 3, (some .int), [], 1471, 184, 1469, 1470),
  (⟨"SandHouse", "span", "(IZ)I"⟩, prog_1_method_32_code, 3, (some .int), [], 1484, 184, 1482, 1483),
  (⟨"SandHouse", "peak", "(I)I"⟩, prog_1_method_33_code, 2, (some .int), [], 1495, 184, 1493, 1494),
  (⟨"SandHouse", "carries", "(IZ)I"⟩, prog_1_method_34_code, 4, (some .int), [], 1506, 184, 1504, 1505),
  (⟨"SandHouse", "whose", "(I)I"⟩, prog_1_method_35_code, 2, (some .int), [], 1521, 184, 1519, 1520),
  (⟨"SandHouse", "share", "(II)I"⟩, prog_1_method_36_code, 5, (some .int), [], 1528, 184, 1526, 1527),
  (⟨"SandHouse", "blame", "()I"⟩, prog_1_method_37_code, 1, (some .int), [], 718, 184, 716, 717),
  (⟨"SandHouse", "itch", "(I)I"⟩, prog_1_method_38_code, 2, (some .int), [], 1536, 184, 1534, 1535),
  (⟨"SandHouse", "ways", "(II)I"⟩, prog_1_method_39_code, 3, (some .int), [], 1547, 184, 1545, 1546),
  (⟨"SandHouse", "cross", "(II)I"⟩, prog_1_method_40_code, 3, (some .int), [], 1558, 184, 1556, 1557),
  (⟨"SandHouse", "noon", "()I"⟩, prog_1_method_41_code, 4, (some .int), [], 1570, 184, 1568, 1569),
  (⟨"SandHouse", "heels", "(I)I"⟩, prog_1_method_42_code, 4, (some .int), [], 726, 184, 724, 725),
  (⟨"SandHouse", "log", "(II)I"⟩, prog_1_method_43_code, 3, (some .int), [], 1593, 184, 1591, 1592),
  (⟨"SandHouse", "led", "(II)I"⟩, prog_1_method_44_code, 3, (some .int), [], 1602, 184, 1600, 1601),
  (⟨"SandHouse", "seed", "(I)I"⟩, prog_1_method_45_code, 3, (some .int), [], 745, 184, 743, 744),
  (⟨"SandHouse", "undo", "()Z"⟩, prog_1_method_46_code, 1, (some .boolean), [], 749, 184, 747, 748),
  (⟨"SandHouse", "image", "()V"⟩, prog_1_method_47_code, 1, none, [], 763, 184, 761, 762),
  (⟨"SandHouse", "back", "()Z"⟩, prog_1_method_48_code, 1, (some .boolean), [], 783, 184, 781, 782),
  (⟨"SandHouse", "count", "(I)I"⟩, prog_1_method_49_code, 2, (some .int), [], 795, 184, 793, 794),
  (⟨"SandHouse", "needRoom", "(I)V"⟩, prog_1_method_50_code, 2, none, [], 1131, 184, 1130, 67),
  (⟨"SandHouse", "needPerson", "(I)V"⟩, prog_1_method_51_code, 2, none, [], 1193, 184, 1192, 72),
  (⟨"SandHouse", "needNumber", "(III)V"⟩, prog_1_method_52_code, 3, none, [], 1244, 184, 1243, 0),
  (⟨"SandHouse$Grains", "<init>", "()V"⟩, prog_2_method_1_code, 1, none, [], 367, 189, 366, 0),
  (⟨"SandHouse$Grains", "copyFrom", "(LSandHouse$Grains;)V"⟩, prog_2_method_2_code, 2, none, [], 633, 189, 632, 2),
  (⟨"SandHouse$Grains", "lyingIn", "(I)I"⟩, prog_2_method_3_code, 4, (some .int), [], 660, 189, 659, 8),
  (⟨"SandHouse$Grains", "carriedBy", "(I)I"⟩, prog_2_method_4_code, 4, (some .int), [], 656, 189, 655, 7),
  (⟨"SandHouse$Grains", "allLying", "()I"⟩, prog_2_method_5_code, 3, (some .int), [], 799, 189, 798, 29),
  (⟨"SandHouse$Grains", "allCarried", "()I"⟩, prog_2_method_6_code, 3, (some .int), [], 804, 189, 803, 30),
  (⟨"SandHouse$Grains", "hundredths", "(II)I"⟩, prog_2_method_7_code, 2, (some .int), [], 692, 189, 691, 0),
  (⟨"SandHouse$Grains", "draw", "()I"⟩, prog_2_method_8_code, 1, (some .int), [], 684, 189, 683, 12),
  (⟨"SandHouse$Grains", "comeOnto", "(II)V"⟩, prog_2_method_9_code, 4, none, [], 678, 189, 677, 11),
  (⟨"SandHouse$Grains", "comeInto", "(III)V"⟩, prog_2_method_10_code, 4, none, [], 935, 189, 934, 47),
  (⟨"SandHouse$Grains", "takeFrom", "(II)I"⟩, prog_2_method_11_code, 6, (some .int), [], 689, 189, 688, 13),
  (⟨"SandHouse$Grains", "beatOut", "(I)I"⟩, prog_2_method_12_code, 2, (some .int), [], 1276, 189, 1275, 77),
  (⟨"SandHouse$Grains", "takeOutOf", "(II)I"⟩, prog_2_method_13_code, 6, (some .int), [], 714, 189, 713, 17),
  (⟨"SandHouse$Grains", "fall", "(III)I"⟩, prog_2_method_14_code, 7, (some .int), [], 697, 189, 696, 14),
  (⟨"SandHouse$Grains", "cling", "(III)V"⟩, prog_2_method_15_code, 8, none, [], 701, 189, 700, 15),
  (⟨"SandHouse$Grains", "mostOf", "([II)I"⟩, prog_2_method_16_code, 6, (some .int), [], 1514, 189, 1513, 100),
  (⟨"SandHouse$Grains", "owners", "([II)I"⟩, prog_2_method_17_code, 5, (some .int), [], 1510, 189, 1509, 99),
  (⟨"SandHouse$Heels", "<init>", "()V"⟩, prog_3_method_1_code, 1, none, [], 445, 190, 444, 0),
  (⟨"SandHouse$Heels", "copyFrom", "(LSandHouse$Heels;)V"⟩, prog_3_method_2_code, 2, none, [], 758, 190, 757, 23),
  (⟨"SandHouse$Heels", "write", "(IIIII)V"⟩, prog_3_method_3_code, 7, none, [], 709, 190, 708, 16),
  (⟨"SandHouse$Heels", "get", "(II)I"⟩, prog_3_method_4_code, 3, (some .int), [], 738, 190, 737, 21),
  (⟨"SandHouse$Heels", "whoIn", "(I)I"⟩, prog_3_method_5_code, 4, (some .int), [], 734, 190, 733, 20),
  (⟨"SandHouse$Heels", "ledBack", "(II)I"⟩, prog_3_method_6_code, 6, (some .int), [], 1606, 190, 1605, 107),
  (⟨"SandHouse$Home", "<init>", "()V"⟩, prog_4_method_1_code, 1, none, [], 256, 186, 255, 0),
  (⟨"SandHouse$Home", "look", "(LSandHouse$Grains;II)V"⟩, prog_4_method_2_code, 5, none, [], 652, 186, 651, 6),
  (⟨"SandHouse$Home", "ruleOf", "(LSandHouse$Grains;III)I"⟩, prog_4_method_3_code, 5, (some .int), [], 1234, 186, 1233, 74),
  (⟨"SandHouse$Home", "sweepsOf", "(LSandHouse$Grains;I)I"⟩, prog_4_method_4_code, 3, (some .int), [], 1166, 186, 1165, 71),
  (⟨"SandHouse$Home", "goRound", "(LSandHouse$Grains;LSandHouse$Heels;)I"⟩, prog_4_method_5_code, 5, (some .int), [], 640, 186, 639, 3),
  (⟨"SandHouse$Home", "goOn", "(LSandHouse$Grains;ILSandHouse$Heels;)I"⟩, prog_4_method_6_code, 7, (some .int), [], 644, 186, 643, 4),
  (⟨"SandHouse$Home", "sweepOnce", "(LSandHouse$Grains;I)I"⟩, prog_4_method_7_code, 3, (some .int), [], 1264, 186, 1263, 76),
  (⟨"SandHouse$Home", "sweepInside", "(LSandHouse$Grains;)V"⟩, prog_4_method_8_code, 3, none, [], 1415, 186, 1414, 91),
  (⟨"SandHouse$Home", "inBeds", "(LSandHouse$Grains;)I"⟩, prog_4_method_9_code, 4, (some .int), [], 1318, 186, 1317, 80),
  (⟨"SandHouse$Home", "inside", "(LSandHouse$Grains;)I"⟩, prog_4_method_10_code, 4, (some .int), [], 1322, 186, 1321, 81),
  (⟨"SandHouse$Home", "mostInBeds", "(LSandHouse$Grains;)I"⟩, prog_4_method_11_code, 7, (some .int), [], 722, 186, 721, 18),
  (⟨"SandHouse$Home", "bedsAbove", "(LSandHouse$Grains;I)I"⟩, prog_4_method_12_code, 5, (some .int), [], 1540, 186, 1539, 101),
  (⟨"SandHouse$Home", "whoIsIn", "(LSandHouse$Grains;I)I"⟩, prog_4_method_13_code, 3, (some .int), [], 1152, 186, 1151, 68),
  (⟨"SandHouse$Home", "whoWasIn", "(LSandHouse$Grains;II)I"⟩, prog_4_method_14_code, 6, (some .int), [], 1156, 186, 1155, 69),
  (⟨"SandHouse$Home", "firstMeeting", "(LSandHouse$Grains;II)I"⟩, prog_4_method_15_code, 6, (some .int), [], 1563, 186, 1562, 103),
  (⟨"SandHouse$HouseReader", "<init>", "()V"⟩, prog_5_method_1_code, 1, none, [], 532, 194, 531, 0),
  (⟨"SandHouse$HouseReader", "read", "(LSandHouse$Tape;LSandHouse$Plan;LSandHouse$Grains;)I"⟩, prog_5_method_2_code, 5, (some .int), [], 817, 194, 816, 31),
  (⟨"SandHouse$HouseReader", "refuse", "(I)Z"⟩, prog_5_method_3_code, 2, (some .boolean), [], 892, 194, 891, 37),
  (⟨"SandHouse$HouseReader", "line", "(LSandHouse$Tape;)Z"⟩, prog_5_method_4_code, 2, (some .boolean), [], 831, 194, 830, 34),
  (⟨"SandHouse$HouseReader", "takeNumber", "(LSandHouse$Tape;II)Z"⟩, prog_5_method_5_code, 4, (some .boolean), [], 898, 194, 897, 38),
  (⟨"SandHouse$HouseReader", "takeRoom", "(LSandHouse$Tape;)Z"⟩, prog_5_method_6_code, 2, (some .boolean), [], 918, 194, 917, 43),
  (⟨"SandHouse$HouseReader", "takeTwo", "(LSandHouse$Tape;II)Z"⟩, prog_5_method_7_code, 4, (some .boolean), [], 910, 194, 909, 41),
  (⟨"SandHouse$HouseReader", "roomLine", "(LSandHouse$Tape;)Z"⟩, prog_5_method_8_code, 3, (some .boolean), [], 888, 194, 887, 36),
  (⟨"SandHouse$HouseReader", "doorLine", "(LSandHouse$Tape;)Z"⟩, prog_5_method_9_code, 2, (some .boolean), [], 906, 194, 905, 40),
  (⟨"SandHouse$HouseReader", "personLine", "(LSandHouse$Tape;)Z"⟩, prog_5_method_10_code, 6, (some .boolean), [], 914, 194, 913, 42),
  (⟨"SandHouse$HouseReader", "loadLine", "(LSandHouse$Tape;)Z"⟩, prog_5_method_11_code, 2, (some .boolean), [], 926, 194, 925, 45),
  (⟨"SandHouse$HouseReader", "sandLine", "(LSandHouse$Tape;)Z"⟩, prog_5_method_12_code, 3, (some .boolean), [], 931, 194, 930, 46),
  (⟨"SandHouse$HouseReader", "toolLine", "(LSandHouse$Tape;)Z"⟩, prog_5_method_13_code, 2, (some .boolean), [], 939, 194, 938, 48),
  (⟨"SandHouse$HouseReader", "keepsLine", "(LSandHouse$Tape;)Z"⟩, prog_5_method_14_code, 2, (some .boolean), [], 943, 194, 942, 49),
  (⟨"SandHouse$HouseReader", "wetLine", "(LSandHouse$Tape;)Z"⟩, prog_5_method_15_code, 2, (some .boolean), [], 947, 194, 946, 50),
  (⟨"SandHouse$HouseReader", "clogLine", "(LSandHouse$Tape;)Z"⟩, prog_5_method_16_code, 2, (some .boolean), [], 951, 194, 950, 51),
  (⟨"SandHouse$Image", "<init>", "()V"⟩, prog_6_method_1_code, 1, none, [], 486, 192, 485, 0),
  (⟨"SandHouse$Image", "take", "(LSandHouse$Home;LSandHouse$Grains;LSandHouse$Heels;)V"⟩, prog_6_method_2_code, 4, none, [], 767, 192, 766, 24),
  (⟨"SandHouse$Image", "give", "(LSandHouse$Home;LSandHouse$Grains;LSandHouse$Heels;)V"⟩, prog_6_method_3_code, 4, none, [], 787, 192, 786, 27),
  (⟨"SandHouse$Law", "<init>", "()V"⟩, prog_7_method_1_code, 1, none, [], 319, 188, 318, 0),
  (⟨"SandHouse$Law", "copyFrom", "(LSandHouse$Law;)V"⟩, prog_7_method_2_code, 2, none, [], 776, 188, 775, 26),
  (⟨"SandHouse$Law", "clear", "()V"⟩, prog_7_method_3_code, 1, none, [], 1058, 188, 1057, 55),
  (⟨"SandHouse$Law", "openLine", "(II)V"⟩, prog_7_method_4_code, 3, none, [], 1075, 188, 1074, 58),
  (⟨"SandHouse$Law", "closeLine", "()V"⟩, prog_7_method_5_code, 1, none, [], 1116, 188, 1115, 66),
  (⟨"SandHouse$Law", "write", "(I)V"⟩, prog_7_method_6_code, 2, none, [], 1099, 188, 1098, 63),
  (⟨"SandHouse$Law", "amountOf", "(I[I)I"⟩, prog_7_method_7_code, 5, (some .int), [], 664, 188, 663, 9),
  (⟨"SandHouse$Law", "unwritten", "(I[I)I"⟩, prog_7_method_8_code, 2, (some .int), [], 667, 188, 666, 0),
  (⟨"SandHouse$Law", "holds", "(I[I)Z"⟩, prog_7_method_9_code, 10, (some .boolean), [], 671, 188, 670, 10),
  (⟨"SandHouse$LawReader", "<init>", "()V"⟩, prog_8_method_1_code, 1, none, [], 563, 195, 562, 0),
  (⟨"SandHouse$LawReader", "read", "(LSandHouse$Tape;)I"⟩, prog_8_method_2_code, 3, (some .int), [], 1054, 195, 1053, 54),
  (⟨"SandHouse$LawReader", "refuse", "(I)Z"⟩, prog_8_method_3_code, 2, (some .boolean), [], 1069, 195, 1068, 57),
  (⟨"SandHouse$LawReader", "line", "(LSandHouse$Tape;)Z"⟩, prog_8_method_4_code, 3, (some .boolean), [], 1063, 195, 1062, 56),
  (⟨"SandHouse$LawReader", "condition", "(LSandHouse$Tape;I)Z"⟩, prog_8_method_5_code, 6, (some .boolean), [], 1085, 195, 1084, 60),
  (⟨"SandHouse$LawReader", "atom", "(LSandHouse$Tape;I)Z"⟩, prog_8_method_6_code, 5, (some .boolean), [], 1089, 195, 1088, 61),
  (⟨"SandHouse$LawReader", "negation", "(LSandHouse$Tape;I)Z"⟩, prog_8_method_7_code, 3, (some .boolean), [], 1095, 195, 1094, 62),
  (⟨"SandHouse$LawReader", "bracket", "(LSandHouse$Tape;I)Z"⟩, prog_8_method_8_code, 3, (some .boolean), [], 1103, 195, 1102, 64),
  (⟨"SandHouse$LawReader", "comparison", "(LSandHouse$Tape;)Z"⟩, prog_8_method_9_code, 6, (some .boolean), [], 1109, 195, 1108, 65),
  (⟨"SandHouse$Past", "<init>", "()V"⟩, prog_9_method_1_code, 1, none, [], 462, 191, 461, 0),
  (⟨"SandHouse$Past", "forget", "()V"⟩, prog_9_method_2_code, 1, none, [], 791, 191, 790, 28),
  (⟨"SandHouse$Past", "remember", "(LSandHouse$Grains;LSandHouse$Heels;)V"⟩, prog_9_method_3_code, 3, none, [], 1249, 191, 1248, 75),
  (⟨"SandHouse$Past", "recall", "(LSandHouse$Grains;LSandHouse$Heels;)Z"⟩, prog_9_method_4_code, 4, (some .boolean), [], 753, 191, 752, 22),
  (⟨"SandHouse$Plan", "<init>", "()V"⟩, prog_10_method_1_code, 1, none, [], 262, 187, 261, 0),
  (⟨"SandHouse$Plan", "copyFrom", "(LSandHouse$Plan;)V"⟩, prog_10_method_2_code, 2, none, [], 771, 187, 770, 25),
  (⟨"SandHouse$Plan", "leads", "(II)Z"⟩, prog_10_method_3_code, 3, (some .boolean), [], 922, 187, 921, 44),
  (⟨"SandHouse$Plan", "everybody", "()I"⟩, prog_10_method_4_code, 1, (some .int), [], 730, 187, 729, 19),
  (⟨"SandHouse$Plan", "step", "(II)I"⟩, prog_10_method_5_code, 3, (some .int), [], 648, 187, 647, 5),
  (⟨"SandHouse$Plan", "stepFrom", "(III)I"⟩, prog_10_method_6_code, 4, (some .int), [], 1160, 187, 1159, 70),
  (⟨"SandHouse$Plan", "roams", "(I)I"⟩, prog_10_method_7_code, 4, (some .int), [], 1207, 187, 1206, 73),
  (⟨"SandHouse$Plan", "minutesOf", "(I)I"⟩, prog_10_method_8_code, 4, (some .int), [], 1395, 187, 1394, 88),
  (⟨"SandHouse$Plan", "fewestDoors", "(II)I"⟩, prog_10_method_9_code, 7, (some .int), [], 1551, 187, 1550, 102),
  (⟨"SandHouse$Tape", "<init>", "()V"⟩, prog_11_method_1_code, 1, none, [], 223, 185, 222, 0),
  (⟨"SandHouse$Tape", "append", "(I)V"⟩, prog_11_method_2_code, 3, none, [], 613, 185, 612, 0),
  (⟨"SandHouse$Tape", "begin", "()V"⟩, prog_11_method_3_code, 1, none, [], 823, 185, 822, 32),
  (⟨"SandHouse$Tape", "advance", "()V"⟩, prog_11_method_4_code, 2, none, [], 827, 185, 826, 33),
  (⟨"SandHouse$Tape", "isNumber", "(I)Z"⟩, prog_11_method_5_code, 2, (some .boolean), [], 902, 185, 901, 39),
  (⟨"SandHouse$Tape", "isSign", "(C)Z"⟩, prog_11_method_6_code, 2, (some .boolean), [], 956, 185, 955, 52),
  (⟨"SandHouse$Tape", "isWord", "(Ljava/lang/String;)Z"⟩, prog_11_method_7_code, 2, (some .boolean), [], 1080, 185, 1079, 59),
  (⟨"SandHouse$Tape", "wordAmong", "(Ljava/lang/String;)I"⟩, prog_11_method_8_code, 6, (some .int), [], 836, 185, 835, 35),
  (⟨"SandHouse$Tape", "tellsNoons", "(II)Z"⟩, prog_11_method_9_code, 5, (some .boolean), [], 1574, 185, 1573, 104),
  (⟨"SandHouse$Tape", "noonRoom", "(I)I"⟩, prog_11_method_10_code, 2, (some .int), [], 1578, 185, 1577, 105),
  (⟨"SandHouse$Tape", "noonRound", "(I)I"⟩, prog_11_method_11_code, 2, (some .int), [], 1582, 185, 1581, 106),
  (⟨"SandHouse$Trials", "<init>", "()V"⟩, prog_12_method_1_code, 1, none, [], 517, 193, 516, 0),
  (⟨"SandHouse$Trials", "bedsBehind", "(LSandHouse$Home;I)I"⟩, prog_12_method_2_code, 4, (some .int), [], 1314, 193, 1313, 79),
  (⟨"SandHouse$Trials", "outcome", "(LSandHouse$Home;LSandHouse$Grains;II)I"⟩, prog_12_method_3_code, 6, (some .int), [], 1310, 193, 1309, 78),
  (⟨"SandHouse$Trials", "worthOf", "(LSandHouse$Home;LSandHouse$Grains;III)I"⟩, prog_12_method_4_code, 7, (some .int), [], 1334, 193, 1333, 82),
  (⟨"SandHouse$Trials", "bestRoom", "(LSandHouse$Home;LSandHouse$Grains;IIZ)I"⟩, prog_12_method_5_code, 11, (some .int), [], 1345, 193, 1344, 83),
  (⟨"SandHouse$Trials", "bestPair", "(LSandHouse$Home;LSandHouse$Grains;II)I"⟩, prog_12_method_6_code, 10, (some .int), [], 1356, 193, 1355, 84),
  (⟨"SandHouse$Trials", "fewestKeepers", "(LSandHouse$Home;LSandHouse$Grains;II)I"⟩, prog_12_method_7_code, 8, (some .int), [], 1368, 193, 1367, 85),
  (⟨"SandHouse$Trials", "quickestRooms", "(LSandHouse$Home;LSandHouse$Grains;I)I"⟩, prog_12_method_8_code, 10, (some .int), [], 1386, 193, 1385, 86),
  (⟨"SandHouse$Trials", "sweptOf", "(II)I"⟩, prog_12_method_9_code, 5, (some .int), [], 1391, 193, 1390, 87),
  (⟨"SandHouse$Trials", "seldomest", "(LSandHouse$Home;LSandHouse$Grains;II)I"⟩, prog_12_method_10_code, 6, (some .int), [], 1407, 193, 1406, 89),
  (⟨"SandHouse$Trials", "staysBelow", "(LSandHouse$Home;LSandHouse$Grains;III)Z"⟩, prog_12_method_11_code, 8, (some .boolean), [], 1411, 193, 1410, 90),
  (⟨"SandHouse$Trials", "firstInBeds", "(LSandHouse$Home;LSandHouse$Grains;I)I"⟩, prog_12_method_12_code, 5, (some .int), [], 1428, 193, 1427, 92),
  (⟨"SandHouse$Trials", "firstClogged", "(LSandHouse$Home;LSandHouse$Grains;)I"⟩, prog_12_method_13_code, 4, (some .int), [], 629, 193, 628, 1),
  (⟨"SandHouse$Trials", "sweepingsTill", "(LSandHouse$Home;LSandHouse$Grains;I)I"⟩, prog_12_method_14_code, 5, (some .int), [], 1439, 193, 1438, 93),
  (⟨"SandHouse$Trials", "bestMoment", "(LSandHouse$Home;LSandHouse$Grains;II)I"⟩, prog_12_method_15_code, 9, (some .int), [], 1450, 193, 1449, 94),
  (⟨"SandHouse$Trials", "towelWorth", "(LSandHouse$Home;LSandHouse$Grains;III)I"⟩, prog_12_method_16_code, 8, (some .int), [], 1462, 193, 1461, 95),
  (⟨"SandHouse$Trials", "bestTowel", "(LSandHouse$Home;LSandHouse$Grains;II)I"⟩, prog_12_method_17_code, 10, (some .int), [], 1475, 193, 1474, 96),
  (⟨"SandHouse$Trials", "extreme", "(LSandHouse$Home;LSandHouse$Grains;IZ)I"⟩, prog_12_method_18_code, 8, (some .int), [], 1488, 193, 1487, 97),
  (⟨"SandHouse$Trials", "steepest", "(LSandHouse$Home;LSandHouse$Grains;I)I"⟩, prog_12_method_19_code, 9, (some .int), [], 1499, 193, 1498, 98),
  (⟨"SandHouseModel", "thrown", "()I"⟩, prog_14_method_1_code, 1, (some .int), [], 1610, 196, 1608, 1609),
  (⟨"SandHouseModel", "throwsIf", "(ZI)Z"⟩, prog_14_method_2_code, 3, (some .boolean), [], 1889, 196, 1888, 145),
  (⟨"SandHouseModel", "in", "(III)Z"⟩, prog_14_method_3_code, 3, (some .boolean), [], 1904, 196, 1903, 0),
  (⟨"SandHouseModel", "has", "(II)Z"⟩, prog_14_method_4_code, 2, (some .boolean), [], 2094, 196, 2093, 0),
  (⟨"SandHouseModel", "<init>", "()V"⟩, prog_14_method_5_code, 1, none, [], 1615, 196, 1614, 0),
  (⟨"SandHouseModel", "image", "()V"⟩, prog_14_method_6_code, 2, none, [], 1678, 196, 1676, 1677),
  (⟨"SandHouseModel", "back", "()Z"⟩, prog_14_method_7_code, 2, (some .boolean), [], 1682, 196, 1680, 1681),
  (⟨"SandHouseModel", "remembers", "()V"⟩, prog_14_method_8_code, 2, none, [], 1972, 196, 1971, 157),
  (⟨"SandHouseModel", "undo", "()Z"⟩, prog_14_method_9_code, 2, (some .boolean), [], 1686, 196, 1684, 1685),
  (⟨"SandHouseModel", "rooms", "()I"⟩, prog_14_method_10_code, 1, (some .int), [], 1745, 196, 1744, 117),
  (⟨"SandHouseModel", "people", "()I"⟩, prog_14_method_11_code, 1, (some .int), [], 1783, 196, 1782, 124),
  (⟨"SandHouseModel", "roomAt", "(II)I"⟩, prog_14_method_12_code, 2, (some .int), [], 1765, 196, 1764, 0),
  (⟨"SandHouseModel", "personAt", "(II)I"⟩, prog_14_method_13_code, 2, (some .int), [], 1790, 196, 1789, 0),
  (⟨"SandHouseModel", "ofRoom", "(II)I"⟩, prog_14_method_14_code, 3, (some .int), [], 1908, 196, 1907, 147),
  (⟨"SandHouseModel", "of", "(II)I"⟩, prog_14_method_15_code, 3, (some .int), [], 1794, 196, 1793, 126),
  (⟨"SandHouseModel", "sets", "(III)V"⟩, prog_14_method_16_code, 4, none, [], 1787, 196, 1786, 125),
  (⟨"SandHouseModel", "roomOf", "(I)I"⟩, prog_14_method_17_code, 2, (some .int), [], 1920, 196, 1919, 150),
  (⟨"SandHouseModel", "grains", "(I)I"⟩, prog_14_method_18_code, 4, (some .int), [], 1815, 196, 1814, 131),
  (⟨"SandHouseModel", "here", "(I)I"⟩, prog_14_method_19_code, 2, (some .int), [], 1912, 196, 1911, 148),
  (⟨"SandHouseModel", "loadOf", "(I)I"⟩, prog_14_method_20_code, 2, (some .int), [], 1811, 196, 1810, 130),
  (⟨"SandHouseModel", "noRoom", "(I)Z"⟩, prog_14_method_21_code, 2, (some .boolean), [], 1901, 196, 1900, 146),
  (⟨"SandHouseModel", "noPerson", "(I)Z"⟩, prog_14_method_22_code, 2, (some .boolean), [], 1944, 196, 1943, 155),
  (⟨"SandHouseModel", "isIndoor", "(I)Z"⟩, prog_14_method_23_code, 2, (some .boolean), [], 2054, 196, 2053, 171),
  (⟨"SandHouseModel", "isDoor", "(II)Z"⟩, prog_14_method_24_code, 7, (some .boolean), [], 1798, 196, 1797, 127),
  (⟨"SandHouseModel", "draw", "(I)I"⟩, prog_14_method_25_code, 2, (some .int), [], 1984, 196, 1983, 160),
  (⟨"SandHouseModel", "feed", "(IIIII)I"⟩, prog_14_method_26_code, 7, (some .int), [], 1690, 196, 1688, 1689),
  (⟨"SandHouseModel", "end", "(I)Z"⟩, prog_14_method_27_code, 2, (some .boolean), [], 1694, 196, 1692, 1693),
  (⟨"SandHouseModel", "isAt", "(II)Z"⟩, prog_14_method_28_code, 3, (some .boolean), [], 1718, 196, 1717, 111),
  (⟨"SandHouseModel", "blanks", "()V"⟩, prog_14_method_29_code, 1, none, [], 1714, 196, 1713, 110),
  (⟨"SandHouseModel", "letters", "()V"⟩, prog_14_method_30_code, 1, none, [], 1726, 196, 1725, 113),
  (⟨"SandHouseModel", "isWord", "(Ljava/lang/String;)Z"⟩, prog_14_method_31_code, 4, (some .boolean), [], 1735, 196, 1734, 115),
  (⟨"SandHouseModel", "passes", "(Ljava/lang/String;)Z"⟩, prog_14_method_32_code, 2, (some .boolean), [], 1847, 196, 1846, 136),
  (⟨"SandHouseModel", "sign", "(I)Z"⟩, prog_14_method_33_code, 2, (some .boolean), [], 1863, 196, 1862, 140),
  (⟨"SandHouseModel", "figures", "(III)I"⟩, prog_14_method_34_code, 5, (some .int), [], 1762, 196, 1761, 120),
  (⟨"SandHouseModel", "number", "(II)I"⟩, prog_14_method_35_code, 3, (some .int), [], 1758, 196, 1757, 119),
  (⟨"SandHouseModel", "sortTold", "()I"⟩, prog_14_method_36_code, 1, (some .int), [], 1749, 196, 1748, 118),
  (⟨"SandHouseModel", "fault", "()I"⟩, prog_14_method_37_code, 1, (some .int), [], 1698, 196, 1696, 1697),
  (⟨"SandHouseModel", "uses", "()V"⟩, prog_14_method_38_code, 1, none, [], 1710, 196, 1709, 109),
  (⟨"SandHouseModel", "roomTold", "()I"⟩, prog_14_method_39_code, 1, (some .int), [], 1774, 196, 1773, 122),
  (⟨"SandHouseModel", "personTold", "()I"⟩, prog_14_method_40_code, 1, (some .int), [], 1807, 196, 1806, 129),
  (⟨"SandHouseModel", "readRoom", "()Z"⟩, prog_14_method_41_code, 5, (some .boolean), [], 1741, 196, 1740, 116),
  (⟨"SandHouseModel", "readDoor", "()Z"⟩, prog_14_method_42_code, 4, (some .boolean), [], 1770, 196, 1769, 121),
  (⟨"SandHouseModel", "readPerson", "()Z"⟩, prog_14_method_43_code, 5, (some .boolean), [], 1779, 196, 1778, 123),
  (⟨"SandHouseModel", "readLoad", "()Z"⟩, prog_14_method_44_code, 4, (some .boolean), [], 1803, 196, 1802, 128),
  (⟨"SandHouseModel", "readSand", "()Z"⟩, prog_14_method_45_code, 4, (some .boolean), [], 1821, 196, 1820, 132),
  (⟨"SandHouseModel", "readTool", "()Z"⟩, prog_14_method_46_code, 3, (some .boolean), [], 1826, 196, 1825, 133),
  (⟨"SandHouseModel", "readOf", "(II)Z"⟩, prog_14_method_47_code, 5, (some .boolean), [], 1831, 196, 1830, 134),
  (⟨"SandHouseModel", "readHouseLine", "()Z"⟩, prog_14_method_48_code, 1, (some .boolean), [], 1730, 196, 1729, 114),
  (⟨"SandHouseModel", "emits", "(II)V"⟩, prog_14_method_49_code, 3, none, [], 1868, 196, 1867, 141),
  (⟨"SandHouseModel", "readPart", "()Z"⟩, prog_14_method_50_code, 2, (some .boolean), [], 1880, 196, 1879, 144),
  (⟨"SandHouseModel", "readSum", "()Z"⟩, prog_14_method_51_code, 1, (some .boolean), [], 1876, 196, 1875, 143),
  (⟨"SandHouseModel", "readTag", "()Z"⟩, prog_14_method_52_code, 3, (some .boolean), [], 1872, 196, 1871, 142),
  (⟨"SandHouseModel", "readAtom", "()Z"⟩, prog_14_method_53_code, 2, (some .boolean), [], 1859, 196, 1858, 139),
  (⟨"SandHouseModel", "readAllOf", "()Z"⟩, prog_14_method_54_code, 1, (some .boolean), [], 1855, 196, 1854, 138),
  (⟨"SandHouseModel", "readCond", "()Z"⟩, prog_14_method_55_code, 1, (some .boolean), [], 1851, 196, 1850, 137),
  (⟨"SandHouseModel", "readLawLine", "(I)Z"⟩, prog_14_method_56_code, 3, (some .boolean), [], 1838, 196, 1837, 135),
  (⟨"SandHouseModel", "readLine", "(ZI)Z"⟩, prog_14_method_57_code, 3, (some .boolean), [], 1722, 196, 1721, 112),
  (⟨"SandHouseModel", "readAll", "(Z)I"⟩, prog_14_method_58_code, 3, (some .int), [], 1706, 196, 1705, 108),
  (⟨"SandHouseModel", "house", "()I"⟩, prog_14_method_59_code, 3, (some .int), [], 1702, 196, 1700, 1701),
  (⟨"SandHouseModel", "law", "()I"⟩, prog_14_method_60_code, 3, (some .int), [], 1893, 196, 1891, 1892),
  (⟨"SandHouseModel", "factOf", "(IIIIZ)I"⟩, prog_14_method_61_code, 6, (some .int), [], 1936, 196, 1935, 154),
  (⟨"SandHouseModel", "holdsLine", "(IIIZ)Z"⟩, prog_14_method_62_code, 12, (some .boolean), [], 1932, 196, 1931, 153),
  (⟨"SandHouseModel", "says", "(III)I"⟩, prog_14_method_63_code, 6, (some .int), [], 1928, 196, 1927, 152),
  (⟨"SandHouseModel", "peopleIn", "(I)I"⟩, prog_14_method_64_code, 4, (some .int), [], 1916, 196, 1915, 149),
  (⟨"SandHouseModel", "besideOf", "(I)I"⟩, prog_14_method_65_code, 4, (some .int), [], 1924, 196, 1923, 151),
  (⟨"SandHouseModel", "room", "(II)I"⟩, prog_14_method_66_code, 3, (some .int), [], 1897, 196, 1895, 1896),
  (⟨"SandHouseModel", "sand", "(II)I"⟩, prog_14_method_67_code, 3, (some .int), [], 1940, 196, 1938, 1939),
  (⟨"SandHouseModel", "roams", "(I)I"⟩, prog_14_method_68_code, 4, (some .int), [], 1952, 196, 1951, 156),
  (⟨"SandHouseModel", "person", "(II)I"⟩, prog_14_method_69_code, 3, (some .int), [], 1948, 196, 1946, 1947),
  (⟨"SandHouseModel", "load", "(II)I"⟩, prog_14_method_70_code, 3, (some .int), [], 1956, 196, 1954, 1955),
  (⟨"SandHouseModel", "habit", "(II)I"⟩, prog_14_method_71_code, 3, (some .int), [], 1960, 196, 1958, 1959),
  (⟨"SandHouseModel", "rule", "(III)I"⟩, prog_14_method_72_code, 4, (some .int), [], 1964, 196, 1962, 1963),
  (⟨"SandHouseModel", "moves", "(III)I"⟩, prog_14_method_73_code, 7, (some .int), [], 1989, 196, 1988, 161),
  (⟨"SandHouseModel", "partOf", "(II)I"⟩, prog_14_method_74_code, 5, (some .int), [], 1997, 196, 1996, 163),
  (⟨"SandHouseModel", "tells", "(IIII)V"⟩, prog_14_method_75_code, 6, none, [], 1993, 196, 1992, 162),
  (⟨"SandHouseModel", "goes", "(I)I"⟩, prog_14_method_76_code, 9, (some .int), [], 1980, 196, 1979, 159),
  (⟨"SandHouseModel", "round", "()I"⟩, prog_14_method_77_code, 3, (some .int), [], 1976, 196, 1975, 158),
  (⟨"SandHouseModel", "rounds", "(I)I"⟩, prog_14_method_78_code, 4, (some .int), [], 1968, 196, 1966, 1967),
  (⟨"SandHouseModel", "sweeps", "(I)I"⟩, prog_14_method_79_code, 2, (some .int), [], 2006, 196, 2005, 164),
  (⟨"SandHouseModel", "beats", "(I)I"⟩, prog_14_method_80_code, 2, (some .int), [], 2014, 196, 2013, 165),
  (⟨"SandHouseModel", "sweep", "(I)I"⟩, prog_14_method_81_code, 2, (some .int), [], 2002, 196, 2000, 2001),
  (⟨"SandHouseModel", "beat", "(I)I"⟩, prog_14_method_82_code, 2, (some .int), [], 2010, 196, 2008, 2009),
  (⟨"SandHouseModel", "told", "(II)I"⟩, prog_14_method_83_code, 4, (some .int), [], 2022, 196, 2021, 166),
  (⟨"SandHouseModel", "tool", "(II)I"⟩, prog_14_method_84_code, 3, (some .int), [], 2018, 196, 2016, 2017),
  (⟨"SandHouseModel", "keep", "(II)I"⟩, prog_14_method_85_code, 3, (some .int), [], 2026, 196, 2024, 2025),
  (⟨"SandHouseModel", "soak", "(II)I"⟩, prog_14_method_86_code, 3, (some .int), [], 2030, 196, 2028, 2029),
  (⟨"SandHouseModel", "keepsAll", "()V"⟩, prog_14_method_87_code, 2, none, [], 2038, 196, 2037, 167),
  (⟨"SandHouseModel", "bringsBack", "()V"⟩, prog_14_method_88_code, 2, none, [], 2062, 196, 2061, 173),
  (⟨"SandHouseModel", "runs", "(I)V"⟩, prog_14_method_89_code, 3, none, [], 2042, 196, 2041, 168),
  (⟨"SandHouseModel", "beds", "()I"⟩, prog_14_method_90_code, 3, (some .int), [], 2046, 196, 2045, 169),
  (⟨"SandHouseModel", "indoors", "()I"⟩, prog_14_method_91_code, 3, (some .int), [], 2050, 196, 2049, 170),
  (⟨"SandHouseModel", "loads", "()I"⟩, prog_14_method_92_code, 3, (some .int), [], 2058, 196, 2057, 172),
  (⟨"SandHouseModel", "trial", "(II)I"⟩, prog_14_method_93_code, 4, (some .int), [], 2034, 196, 2032, 2033),
  (⟨"SandHouseModel", "behind", "(IZ)I"⟩, prog_14_method_94_code, 4, (some .int), [], 2070, 196, 2069, 174),
  (⟨"SandHouseModel", "worth", "(III)I"⟩, prog_14_method_95_code, 5, (some .int), [], 2066, 196, 2064, 2065),
  (⟨"SandHouseModel", "noTool", "(II)Z"⟩, prog_14_method_96_code, 3, (some .boolean), [], 2078, 196, 2077, 175),
  (⟨"SandHouseModel", "stand", "(IIZ)I"⟩, prog_14_method_97_code, 8, (some .int), [], 2074, 196, 2072, 2073),
  (⟨"SandHouseModel", "two", "(II)I"⟩, prog_14_method_98_code, 8, (some .int), [], 2082, 196, 2080, 2081),
  (⟨"SandHouseModel", "noLimit", "(III)Z"⟩, prog_14_method_99_code, 4, (some .boolean), [], 2090, 196, 2089, 176),
  (⟨"SandHouseModel", "keepers", "(II)I"⟩, prog_14_method_100_code, 6, (some .int), [], 2086, 196, 2084, 2085),
  (⟨"SandHouseModel", "chores", "(IZ)I"⟩, prog_14_method_101_code, 11, (some .int), [], 2098, 196, 2096, 2097),
  (⟨"SandHouseModel", "sweepsAll", "()V"⟩, prog_14_method_102_code, 2, none, [], 2110, 196, 2109, 178),
  (⟨"SandHouseModel", "isOften", "(III)Z"⟩, prog_14_method_103_code, 6, (some .boolean), [], 2106, 196, 2105, 177),
  (⟨"SandHouseModel", "often", "(II)I"⟩, prog_14_method_104_code, 4, (some .int), [], 2102, 196, 2100, 2101),
  (⟨"SandHouseModel", "when", "(I)I"⟩, prog_14_method_105_code, 3, (some .int), [], 2114, 196, 2112, 2113),
  (⟨"SandHouseModel", "clogs", "()I"⟩, prog_14_method_106_code, 2, (some .int), [], 2118, 196, 2116, 2117),
  (⟨"SandHouseModel", "fades", "(I)I"⟩, prog_14_method_107_code, 3, (some .int), [], 2122, 196, 2120, 2121),
  (⟨"SandHouseModel", "later", "(II)I"⟩, prog_14_method_108_code, 7, (some .int), [], 2126, 196, 2124, 2125),
  (⟨"SandHouseModel", "towelOf", "(III)I"⟩, prog_14_method_109_code, 6, (some .int), [], 2134, 196, 2133, 179),
  (⟨"SandHouseModel", "towel", "(III)I"⟩, prog_14_method_110_code, 4, (some .int), [], 2130, 196, 2128, 2129),
  (⟨"SandHouseModel", "towelled", "(II)I"⟩, prog_14_method_111_code, 8, (some .int), [], 2138, 196, 2136, 2137),
  (⟨"SandHouseModel", "span", "(IZ)I"⟩, prog_14_method_112_code, 6, (some .int), [], 2142, 196, 2140, 2141),
  (⟨"SandHouseModel", "peak", "(I)I"⟩, prog_14_method_113_code, 7, (some .int), [], 2146, 196, 2144, 2145),
  (⟨"SandHouseModel", "mostOf", "(I)I"⟩, prog_14_method_114_code, 5, (some .int), [], 2154, 196, 2153, 180),
  (⟨"SandHouseModel", "carries", "(IZ)I"⟩, prog_14_method_115_code, 5, (some .int), [], 2150, 196, 2148, 2149),
  (⟨"SandHouseModel", "whose", "(I)I"⟩, prog_14_method_116_code, 2, (some .int), [], 2158, 196, 2156, 2157),
  (⟨"SandHouseModel", "share", "(II)I"⟩, prog_14_method_117_code, 4, (some .int), [], 2162, 196, 2160, 2161),
  (⟨"SandHouseModel", "blame", "()I"⟩, prog_14_method_118_code, 6, (some .int), [], 2167, 196, 2165, 2166),
  (⟨"SandHouseModel", "itch", "(I)I"⟩, prog_14_method_119_code, 4, (some .int), [], 2171, 196, 2169, 2170),
  (⟨"SandHouseModel", "ways", "(II)I"⟩, prog_14_method_120_code, 7, (some .int), [], 2175, 196, 2173, 2174),
  (⟨"SandHouseModel", "roomIn", "(II)I"⟩, prog_14_method_121_code, 4, (some .int), [], 2183, 196, 2182, 181),
  (⟨"SandHouseModel", "cross", "(II)I"⟩, prog_14_method_122_code, 4, (some .int), [], 2179, 196, 2177, 2178),
  (⟨"SandHouseModel", "roundTold", "(I)I"⟩, prog_14_method_123_code, 2, (some .int), [], 2191, 196, 2190, 182),
  (⟨"SandHouseModel", "noon", "()I"⟩, prog_14_method_124_code, 5, (some .int), [], 2187, 196, 2185, 2186),
  (⟨"SandHouseModel", "heels", "(I)I"⟩, prog_14_method_125_code, 6, (some .int), [], 2195, 196, 2193, 2194),
  (⟨"SandHouseModel", "log", "(II)I"⟩, prog_14_method_126_code, 3, (some .int), [], 2199, 196, 2197, 2198),
  (⟨"SandHouseModel", "led", "(II)I"⟩, prog_14_method_127_code, 6, (some .int), [], 2203, 196, 2201, 2202),
  (⟨"SandHouseModel", "seed", "(I)I"⟩, prog_14_method_128_code, 3, (some .int), [], 2207, 196, 2205, 2206),
  (⟨"SandHouseModel", "count", "(I)I"⟩, prog_14_method_129_code, 4, (some .int), [], 2211, 196, 2209, 2210),
  (⟨"java/lang/Math", "floorMod", "(II)I"⟩, prog_22_method_50_code, 3, (some .int), [], 741, 202, 740, 0),
  (⟨"java/lang/Integer", "bitCount", "(I)I"⟩, prog_21_method_49_code, 1, (some .int), [], 1372, 210, 1371, 0)]
def zxn : List String := ["java/lang/IllegalArgumentException", "java/lang/UnsupportedOperationException", "java/lang/IndexOutOfBoundsException", "java/util/NoSuchElementException"]
/-! WHAT THE TABLES SAY IS SO: each instruction is what the machine decodes there, each word stands in the Statement's tables -/
def zwd (w : Nat) (c : Jvm.Cond) : Bool := decide (zat lw_tbl w = some c)
def zaty (t : Nat) : FieldType := match t with
  | 0 => .int
  | 1 => .byte
  | 2 => .long
  | 3 => .object RX0
  | _ => .object RX1
def zcty (ci k : Nat) : FieldType := match ci with
  | 0 => tyX0 k
  | 1 => tyX1 k
  | 2 => tyX2 k
  | 3 => tyX3 k
  | 4 => tyX4 k
  | 5 => tyX5 k
  | 6 => tyX6 k
  | 7 => tyX7 k
  | 8 => tyX8 k
  | 9 => tyX9 k
  | 10 => tyX10 k
  | 11 => tyX11 k
  | _ => tyX12 k
def zxi (x : Nat) : Nat := match x with
  | 0 => 95
  | 1 => 107
  | 2 => 399
  | _ => 169
/-- the targets of a switch: from lo on -/
def zswchk (pc : Nat) : List Int → Int → List (Int32 × Nat) → Bool
  | [], _, [] => true
  | o :: os, lo, (x, t) :: l => decide (x.toInt = lo) && decide ((pc : Int) + o = (t : Int)) && zswchk pc os (lo + 1) l
  | _, _, _ => false
def zflchk (own : String) (i a1 a2 a3 w : Nat) : Bool := match zat vwCl a1 with
  | some (_, T, N) => Nat.blt a2 N && (match a3 with
    | 0 => zwd w (Jvm.Cond.fieldLink own i (T a2).1 (T a2).2.1 (T a2).2.2.1)
    | _ => zwd w (Jvm.Cond.fieldLinkNest own i (T a2).1 (T a2).2.1 (T a2).2.2.1 "SandHouse"))
  | none => false
def zmlchk (own : String) (i a2 a3 w : Nat) (y : MethodName) : Bool := match a3 with
  | 0 => zwd w (Jvm.Cond.methodLink own i y)
  | _ => zwd w (Jvm.Cond.methodLinkNest own i y "SandHouse")
/-- an instruction's length; a switch's is its own -/
def zlen (ln : Nat) : Instr → Nat
  | .tableswitch .. => ln
  | .iload _ => 2
  | .lload _ => 2
  | .aload _ => 2
  | .istore _ => 2
  | .lstore _ => 2
  | .astore _ => 2
  | .bipush _ => 2
  | .ldc _ => 2
  | .newarray _ => 2
  | .sipush _ => 3
  | .ldc_w _ => 3
  | .ldc2_w _ => 3
  | .iinc .. => 3
  | .goto _ => 3
  | .ifCond .. => 3
  | .if_icmp .. => 3
  | .ifnull _ => 3
  | .ifnonnull _ => 3
  | .getfield _ => 3
  | .putfield _ => 3
  | .new _ => 3
  | .anewarray _ => 3
  | .invokevirtual _ => 3
  | .invokespecial _ => 3
  | .invokestatic _ => 3
  | .getstatic _ => 3
  | _ => 1
def zich2 (own name : String) (cc : ByteArray) (mL pc a1 a2 a3 : Nat) (z : Int32) (w : Nat) (ins : Instr) : Bool := (match ins with
    | .iconst n => decide (Int32.ofInt n = z)
    | .bipush n => decide ((Int8.ofInt n).toInt32 = z)
    | .sipush n => decide ((Int16.ofInt n).toInt32 = z)
    | .lconst n => decide (Int64.ofNat (n : Nat) = z.toInt64)
    | .ldc2_w i => zwd w (Jvm.Cond.constantLong own i z.toInt64)
    | .ldc i => (match a1 with
      | 0 => zwd w (Jvm.Cond.constant own i z)
      | 1 => (match zat zsref a2 with
        | some (o, k, _) => decide (o = own) && Nat.beq k i
        | none => false)
      | _ => true)
    | .ldc_w i => (match a1 with
      | 0 => zwd w (Jvm.Cond.constant own i z)
      | _ => true)
    | .iinc i n => decide (Int32.ofInt n = z) && Nat.blt i mL
    | .istore i => Nat.blt i mL
    | .istore_n i => Nat.blt i.val mL
    | .astore i => Nat.blt i mL
    | .astore_n i => Nat.blt i.val mL
    | .lstore i => Nat.blt (i + 1) mL
    | .lstore_n i => Nat.blt (i.val + 1) mL
    | .goto off => decide ((pc : Int) + off = (a1 : Int))
    | .ifCond _ off => decide ((pc : Int) + off = (a1 : Int))
    | .if_icmp _ off => decide ((pc : Int) + off = (a1 : Int))
    | .ifnull off => decide ((pc : Int) + off = (a1 : Int))
    | .ifnonnull off => decide ((pc : Int) + off = (a1 : Int))
    | .tableswitch df lo hi offs => (match zat zsws a1 with
      | some (l, t) => decide ((pc : Int) + df = (t : Int)) && zswchk pc offs.toList lo l && decide (lo + (offs.size : Int) = hi + 1)
      | none => false)
    | .getfield i => zflchk own i a1 a2 a3 w
    | .putfield i => zflchk own i a1 a2 a3 w && (match zat vwCl a1 with
      | some (_, T, _) => ((T a2).2.2.2 == false || (Nat.beq a3 0 && decide (own = (T a2).1) && decide (name = "<init>")))
      | none => false) && decide (z = (match zcty a1 a2 with
      | .boolean => 1
      | _ => 0))
    | .new i => (match a1 with
      | 0 => (match zat vwCl a2 with
        | some (C, _, _) => zwd w (Jvm.Cond.classLink own i C)
        | none => false)
      | _ => (match zat zsref a3, zat zxn a2 with
        | some (o, k, _), some X => decide (o = own) && decide (own = "SandHouse") && zwd w (Jvm.Cond.classLink own i X) && decide (decode cc (pc + 3) = .ok (.dup, 1)) &&
          cond (decide (z = 0)) (decide (decode cc (pc + 4) = .ok (.ldc k, 2)) && decide (decode cc (pc + 6) = .ok (.invokespecial (zxi a2), 3)) && decide (decode cc (pc + 9) = .ok (.athrow, 1)))
            (decide (decode cc (pc + 4) = .ok (.ldc_w k, 3)) && decide (decode cc (pc + 7) = .ok (.invokespecial (zxi a2), 3)) && decide (decode cc (pc + 10) = .ok (.athrow, 1)))
        | _, _ => false))
    | .newarray t => Nat.blt a1 3 && decide (newarray.typeOf t = zaty a1) && zwd w (Jvm.Cond.arrayClass (zaty a1))
    | .anewarray i => (match a1 with
      | 3 => zwd w (Jvm.Cond.classLink own i RX0) && zwd a2 (Jvm.Cond.arrayOver (.object RX0))
      | 4 => zwd w (Jvm.Cond.classLink own i RX1) && zwd a2 (Jvm.Cond.arrayOver (.object RX1))
      | _ => false)
    | .invokevirtual i => (match a1 with
      | 0 => (match zat zmn a2, zat zmi a2 with
        | some (y, _), some (_, _, 0, _) => zmlchk own i a2 a3 w y && decide (y.name ≠ "<init>")
        | _, _ => false)
      | 4 => zwd w (Jvm.Cond.methodLink own i ⟨"java/lang/String", "length", "()I"⟩)
      | 5 => zwd w (Jvm.Cond.methodLink own i ⟨"java/lang/String", "charAt", "(I)C"⟩)
      | _ => false)
    | .invokespecial i => (match a1 with
      | 0 => (match zat zmn a2, zat zmi a2 with
        | some (y, _), some (_, _, 0, _) => zmlchk own i a2 a3 w y && decide (y.name = "<init>")
        | _, _ => false)
      | 1 => zwd w (Jvm.Cond.methodLink own i objectInit)
      | 9 => true
      | _ => false)
    | .invokestatic i => (match a1 with
      | 0 => (match zat zmn a2, zat zmi a2 with
        | some (y, _), some (_, _, 1, _) => zmlchk own i a2 a3 w y
        | _, _ => false)
      | 2 => zwd w (Jvm.Cond.methodLink own i Lib.Math.min.name)
      | 3 => zwd w (Jvm.Cond.methodLink own i Lib.Math.max.name)
      | 6 => zwd w (Jvm.Cond.methodLink own i arraycopyName)
      | _ => false)
    | _ => true)
def zichk (own name : String) (cc : ByteArray) (mL pc : Nat) (zi : ZI) : Bool := match zi with
  | (ins, ln, (a1, a2, a3), z, w) => decide (decode cc pc = .ok (ins, ln)) && Nat.beq ln (zlen ln ins) && zich2 own name cc mL pc a1 a2 a3 z w ins
def zmchk (own name : String) (cc : ByteArray) (mL : Nat) (rows : List (List (Nat × ZI))) : Bool := rows.all fun l => l.all fun q => zichk own name cc mL q.1 q.2
def zgchk : Nat → List (List (List (Nat × ZI))) → Bool
  | _, [] => true
  | b, rows :: l => (match zat zmn b with
    | some (y, cc, mL, _) => zmchk y.cls y.name cc mL rows
    | none => false) && zgchk (b + 1) l
/-- a method's own words; law (0) has none -/
def zmok (j : Nat) : Bool := match zat zmn j, zat zmi j with
  | some (y, cc, mL, ret, hh, wc, wi, wk, wsl), some (na, mL', stc, ci, rk, kd) =>
    Nat.beq mL mL' && Nat.ble mL 16 && Nat.ble na mL && plainName y.cls && decide (y.cls ≠ "java/lang/invoke/MethodHandle") && decide (y.cls ≠ "java/lang/invoke/VarHandle") &&
    decide ((parseMethodDescriptor y.desc).map (fun d => d.parameters.length) = some (na - (1 - stc))) &&
    (match rk with
    | 0 => decide (ret = none)
    | 1 => decide (ret = some .int)
    | 2 => decide (ret = some .boolean)
    | _ => false) &&
    (match kd with
    | 0 => decide (hh = []) && zwd wc (Jvm.Cond.code y cc mL ret)
    | _ => zwd wc (Jvm.Cond.codeWith y cc mL ret hh)) &&
    zwd wi (Jvm.Cond.initialized y.cls) &&
    (match stc with
    | 0 => Nat.ble 1 na && zwd wk (Jvm.Cond.instanceMethod y) && (decide (y.name = "<init>") || zwd wsl (Jvm.Cond.selects y.cls y y)) && (match zat vwCl ci with
      | some (C, _, _) => decide (C = y.cls)
      | none => false)
    | _ => zwd wk (Jvm.Cond.static y))
  | _, _ => false
end
section
set_option maxRecDepth 100000 in
theorem zgok1 : zgchk 16 zg1 = true := by decide +kernel
set_option maxRecDepth 100000 in
theorem zgok2 : zgchk 32 zg2 = true := by decide +kernel
set_option maxRecDepth 100000 in
theorem zgok3 : zgchk 48 zg3 = true := by decide +kernel
set_option maxRecDepth 100000 in
theorem zgok4 : zgchk 64 zg4 = true := by decide +kernel
set_option maxRecDepth 100000 in
theorem zgok5 : zgchk 80 zg5 = true := by decide +kernel
set_option maxRecDepth 100000 in
theorem zgok6 : zgchk 96 zg6 = true := by decide +kernel
set_option maxRecDepth 100000 in
theorem zgok7 : zgchk 112 zg7 = true := by decide +kernel
set_option maxRecDepth 100000 in
theorem zgok8 : zgchk 128 zg8 = true := by decide +kernel
set_option maxRecDepth 100000 in
theorem zgok9 : zgchk 144 zg9 = true := by decide +kernel
set_option maxRecDepth 100000 in
theorem zgok10 : zgchk 160 zg10 = true := by decide +kernel
set_option maxRecDepth 100000 in
theorem zgok11 : zgchk 176 zg11 = true := by decide +kernel
end
section
set_option maxRecDepth 100000 in
theorem zgok12 : zgchk 192 zg12 = true := by decide +kernel
set_option maxRecDepth 100000 in
theorem zgok13 : zgchk 208 zg13 = true := by decide +kernel
set_option maxRecDepth 100000 in
theorem zgok14 : zgchk 224 zg14 = true := by decide +kernel
set_option maxRecDepth 100000 in
theorem zgok15 : zgchk 240 zg15 = true := by decide +kernel
set_option maxRecDepth 100000 in
theorem zgok16 : zgchk 256 zg16 = true := by decide +kernel
set_option maxRecDepth 100000 in
theorem zgok17 : zgchk 272 zg17 = true := by decide +kernel
set_option maxRecDepth 100000 in
theorem zgok18 : zgchk 288 zg18 = true := by decide +kernel
set_option maxRecDepth 100000 in
theorem zgok19 : zgchk 304 zg19 = true := by decide +kernel
set_option maxRecDepth 100000 in
theorem zgok20 : zgchk 320 zg20 = true := by decide +kernel
set_option maxRecDepth 100000 in
theorem zgok21 : zgchk 336 zg21 = true := by decide +kernel
end
section
def zlf (q : Nat × ZI) : Bool := zichk "SandHouseLaw" "law" code 7 q.1 q.2
set_option maxRecDepth 100000 in
theorem zlok0 : zp0_0.all zlf = true := by decide +kernel
set_option maxRecDepth 100000 in
theorem zlok1 : zp0_1.all zlf = true := by decide +kernel
set_option maxRecDepth 100000 in
theorem zlok2 : zp0_2.all zlf = true := by decide +kernel
set_option maxRecDepth 100000 in
theorem zlok3 : zp0_3.all zlf = true := by decide +kernel
set_option maxRecDepth 100000 in
theorem zlok4 : zp0_4.all zlf = true := by decide +kernel
set_option maxRecDepth 100000 in
theorem zlok5 : zp0_5.all zlf = true := by decide +kernel
set_option maxRecDepth 100000 in
theorem zlok6 : zp0_6.all zlf = true := by decide +kernel
set_option maxRecDepth 100000 in
theorem zlok7 : zp0_7.all zlf = true := by decide +kernel
set_option maxRecDepth 100000 in
theorem zlok8 : zp0_8.all zlf = true := by decide +kernel
set_option maxRecDepth 100000 in
theorem zlok9 : zp0_9.all zlf = true := by decide +kernel
set_option maxRecDepth 100000 in
theorem zlok10 : zp0_10.all zlf = true := by decide +kernel
set_option maxRecDepth 100000 in
theorem zlok11 : zp0_11.all zlf = true := by decide +kernel
set_option maxRecDepth 100000 in
theorem zlok12 : zp0_12.all zlf = true := by decide +kernel
set_option maxRecDepth 100000 in
theorem zlok13 : zp0_13.all zlf = true := by decide +kernel
set_option maxRecDepth 100000 in
theorem zlok14 : zp0_14.all zlf = true := by decide +kernel
set_option maxRecDepth 100000 in
theorem zlok15 : zp0_15.all zlf = true := by decide +kernel
set_option maxRecDepth 100000 in
theorem zlok16 : zp0_16.all zlf = true := by decide +kernel
set_option maxRecDepth 100000 in
theorem zlok17 : zp0_17.all zlf = true := by decide +kernel
set_option maxRecDepth 100000 in
theorem zlok18 : zp0_18.all zlf = true := by decide +kernel
set_option maxRecDepth 100000 in
theorem zlok19 : zp0_19.all zlf = true := by decide +kernel
set_option maxRecDepth 100000 in
theorem zlok20 : zp0_20.all zlf = true := by decide +kernel
set_option maxRecDepth 100000 in
theorem zlok21 : zp0_21.all zlf = true := by decide +kernel
set_option maxRecDepth 100000 in
theorem zlok22 : zp0_22.all zlf = true := by decide +kernel
set_option maxRecDepth 100000 in
theorem zlok23 : zp0_23.all zlf = true := by decide +kernel
set_option maxRecDepth 100000 in
theorem zlok24 : zp0_24.all zlf = true := by decide +kernel
set_option maxRecDepth 100000 in
theorem zlok25 : zp0_25.all zlf = true := by decide +kernel
set_option maxRecDepth 100000 in
theorem zlok26 : zp0_26.all zlf = true := by decide +kernel
set_option maxRecDepth 100000 in
theorem zlok27 : zp0_27.all zlf = true := by decide +kernel
set_option maxRecDepth 100000 in
theorem zlok28 : zp0_28.all zlf = true := by decide +kernel
set_option maxRecDepth 100000 in
theorem zlok29 : zp0_29.all zlf = true := by decide +kernel
set_option maxRecDepth 100000 in
theorem zlok30 : zp0_30.all zlf = true := by decide +kernel
set_option maxRecDepth 100000 in
theorem zlok31 : zp0_31.all zlf = true := by decide +kernel
set_option maxRecDepth 100000 in
theorem zlok32 : zp0_32.all zlf = true := by decide +kernel
set_option maxRecDepth 100000 in
theorem zlok33 : zp0_33.all zlf = true := by decide +kernel
set_option maxRecDepth 100000 in
theorem zlok34 : zp0_34.all zlf = true := by decide +kernel
set_option maxRecDepth 100000 in
theorem zlok35 : zp0_35.all zlf = true := by decide +kernel
set_option maxRecDepth 100000 in
theorem zlok36 : zp0_36.all zlf = true := by decide +kernel
set_option maxRecDepth 100000 in
theorem zlok37 : zp0_37.all zlf = true := by decide +kernel
set_option maxRecDepth 100000 in
theorem zlok38 : zp0_38.all zlf = true := by decide +kernel
set_option maxRecDepth 100000 in
theorem zlok39 : zp0_39.all zlf = true := by decide +kernel
set_option maxRecDepth 100000 in
theorem zlok40 : zp0_40.all zlf = true := by decide +kernel
set_option maxRecDepth 100000 in
theorem zlok41 : zp0_41.all zlf = true := by decide +kernel
set_option maxRecDepth 100000 in
theorem zlok42 : zp0_42.all zlf = true := by decide +kernel
set_option maxRecDepth 100000 in
theorem zlok43 : zp0_43.all zlf = true := by decide +kernel
set_option maxRecDepth 100000 in
theorem zlok44 : zp0_44.all zlf = true := by decide +kernel
set_option maxRecDepth 100000 in
theorem zlok45 : zp0_45.all zlf = true := by decide +kernel
set_option maxRecDepth 100000 in
theorem zlok46 : zp0_46.all zlf = true := by decide +kernel
set_option maxRecDepth 100000 in
theorem zlok47 : zp0_47.all zlf = true := by decide +kernel
set_option maxRecDepth 100000 in
theorem zlok48 : zp0_48.all zlf = true := by decide +kernel
set_option maxRecDepth 100000 in
theorem zlok49 : zp0_49.all zlf = true := by decide +kernel
set_option maxRecDepth 100000 in
theorem zlok50 : zp0_50.all zlf = true := by decide +kernel
set_option maxRecDepth 100000 in
theorem zlok51 : zp0_51.all zlf = true := by decide +kernel
set_option maxRecDepth 100000 in
theorem zlok52 : zp0_52.all zlf = true := by decide +kernel
set_option maxRecDepth 100000 in
theorem zlok53 : zp0_53.all zlf = true := by decide +kernel
set_option maxRecDepth 100000 in
theorem zlok54 : zp0_54.all zlf = true := by decide +kernel
set_option maxRecDepth 100000 in
theorem zlok55 : zp0_55.all zlf = true := by decide +kernel
set_option maxRecDepth 100000 in
theorem zlok56 : zp0_56.all zlf = true := by decide +kernel
set_option maxRecDepth 100000 in
theorem zlok57 : zp0_57.all zlf = true := by decide +kernel
set_option maxRecDepth 100000 in
theorem zlok58 : zp0_58.all zlf = true := by decide +kernel
set_option maxRecDepth 100000 in
theorem zlok59 : zp0_59.all zlf = true := by decide +kernel
set_option maxRecDepth 100000 in
theorem zlok60 : zp0_60.all zlf = true := by decide +kernel
set_option maxRecDepth 100000 in
theorem zlok61 : zp0_61.all zlf = true := by decide +kernel
set_option maxRecDepth 100000 in
theorem zlok62 : zp0_62.all zlf = true := by decide +kernel
set_option maxRecDepth 100000 in
theorem zlok63 : zp0_63.all zlf = true := by decide +kernel
set_option maxRecDepth 100000 in
theorem zlok64 : zp0_64.all zlf = true := by decide +kernel
set_option maxRecDepth 100000 in
theorem zlok65 : zp0_65.all zlf = true := by decide +kernel
set_option maxRecDepth 100000 in
theorem zlok66 : zp0_66.all zlf = true := by decide +kernel
set_option maxRecDepth 100000 in
theorem zlok67 : zp0_67.all zlf = true := by decide +kernel
set_option maxRecDepth 100000 in
theorem zlok68 : zp0_68.all zlf = true := by decide +kernel
set_option maxRecDepth 100000 in
theorem zlok69 : zp0_69.all zlf = true := by decide +kernel
set_option maxRecDepth 100000 in
theorem zlok70 : zp0_70.all zlf = true := by decide +kernel
set_option maxRecDepth 100000 in
theorem zlok71 : zp0_71.all zlf = true := by decide +kernel
set_option maxRecDepth 100000 in
theorem zlok72 : zp0_72.all zlf = true := by decide +kernel
set_option maxRecDepth 100000 in
theorem zlok73 : zp0_73.all zlf = true := by decide +kernel
set_option maxRecDepth 100000 in
theorem zlok74 : zp0_74.all zlf = true := by decide +kernel
set_option maxRecDepth 100000 in
theorem zlok75 : zp0_75.all zlf = true := by decide +kernel
set_option maxRecDepth 100000 in
theorem zlok76 : zp0_76.all zlf = true := by decide +kernel
set_option maxRecDepth 100000 in
theorem zlok77 : zp0_77.all zlf = true := by decide +kernel
set_option maxRecDepth 100000 in
theorem zlok78 : zp0_78.all zlf = true := by decide +kernel
set_option maxRecDepth 100000 in
theorem zlok79 : zp0_79.all zlf = true := by decide +kernel
set_option maxRecDepth 100000 in
theorem zlok80 : zp0_80.all zlf = true := by decide +kernel
set_option maxRecDepth 100000 in
theorem zlok81 : zp0_81.all zlf = true := by decide +kernel
set_option maxRecDepth 100000 in
theorem zlok82 : zp0_82.all zlf = true := by decide +kernel
set_option maxRecDepth 100000 in
theorem zlok83 : zp0_83.all zlf = true := by decide +kernel
set_option maxRecDepth 100000 in
theorem zlok84 : zp0_84.all zlf = true := by decide +kernel
set_option maxRecDepth 100000 in
theorem zlok85 : zp0_85.all zlf = true := by decide +kernel
set_option maxRecDepth 100000 in
theorem zlok86 : zp0_86.all zlf = true := by decide +kernel
set_option maxRecDepth 100000 in
theorem zlok87 : zp0_87.all zlf = true := by decide +kernel
set_option maxRecDepth 100000 in
theorem zlok88 : zp0_88.all zlf = true := by decide +kernel
set_option maxRecDepth 100000 in
theorem zlok89 : zp0_89.all zlf = true := by decide +kernel
set_option maxRecDepth 100000 in
theorem zlok90 : zp0_90.all zlf = true := by decide +kernel
set_option maxRecDepth 100000 in
theorem zlok91 : zp0_91.all zlf = true := by decide +kernel
set_option maxRecDepth 100000 in
theorem zlok92 : zp0_92.all zlf = true := by decide +kernel
theorem zlokA : ∀ l ∈ zp0, l.all zlf = true := List.forall_mem_cons.mpr ⟨zlok0, List.forall_mem_cons.mpr ⟨zlok1, List.forall_mem_cons.mpr ⟨zlok2, List.forall_mem_cons.mpr ⟨zlok3, List.forall_mem_cons.mpr ⟨zlok4, List.forall_mem_cons.mpr ⟨zlok5, List.forall_mem_cons.mpr ⟨zlok6, List.forall_mem_cons.mpr ⟨zlok7, List.forall_mem_cons.mpr ⟨zlok8, List.forall_mem_cons.mpr ⟨zlok9, List.forall_mem_cons.mpr ⟨zlok10, List.forall_mem_cons.mpr ⟨zlok11, List.forall_mem_cons.mpr ⟨zlok12, List.forall_mem_cons.mpr ⟨zlok13, List.forall_mem_cons.mpr ⟨zlok14, List.forall_mem_cons.mpr ⟨zlok15, List.forall_mem_cons.mpr ⟨zlok16, List.forall_mem_cons.mpr ⟨zlok17, List.forall_mem_cons.mpr ⟨zlok18, List.forall_mem_cons.mpr ⟨zlok19, List.forall_mem_cons.mpr ⟨zlok20, List.forall_mem_cons.mpr ⟨zlok21, List.forall_mem_cons.mpr ⟨zlok22, List.forall_mem_cons.mpr ⟨zlok23, List.forall_mem_cons.mpr ⟨zlok24, List.forall_mem_cons.mpr ⟨zlok25, List.forall_mem_cons.mpr ⟨zlok26, List.forall_mem_cons.mpr ⟨zlok27, List.forall_mem_cons.mpr ⟨zlok28, List.forall_mem_cons.mpr ⟨zlok29, List.forall_mem_cons.mpr ⟨zlok30, List.forall_mem_cons.mpr ⟨zlok31, List.forall_mem_cons.mpr ⟨zlok32, List.forall_mem_cons.mpr ⟨zlok33, List.forall_mem_cons.mpr ⟨zlok34, List.forall_mem_cons.mpr ⟨zlok35, List.forall_mem_cons.mpr ⟨zlok36, List.forall_mem_cons.mpr ⟨zlok37, List.forall_mem_cons.mpr ⟨zlok38, List.forall_mem_cons.mpr ⟨zlok39, List.forall_mem_cons.mpr ⟨zlok40, List.forall_mem_cons.mpr ⟨zlok41, List.forall_mem_cons.mpr ⟨zlok42, List.forall_mem_cons.mpr ⟨zlok43, List.forall_mem_cons.mpr ⟨zlok44, List.forall_mem_cons.mpr ⟨zlok45, List.forall_mem_cons.mpr ⟨zlok46, List.forall_mem_cons.mpr ⟨zlok47, List.forall_mem_cons.mpr ⟨zlok48, List.forall_mem_cons.mpr ⟨zlok49, List.forall_mem_cons.mpr ⟨zlok50, List.forall_mem_cons.mpr ⟨zlok51, List.forall_mem_cons.mpr ⟨zlok52, List.forall_mem_cons.mpr ⟨zlok53, List.forall_mem_cons.mpr ⟨zlok54, List.forall_mem_cons.mpr ⟨zlok55, List.forall_mem_cons.mpr ⟨zlok56, List.forall_mem_cons.mpr ⟨zlok57, List.forall_mem_cons.mpr ⟨zlok58, List.forall_mem_cons.mpr ⟨zlok59, List.forall_mem_cons.mpr ⟨zlok60, List.forall_mem_cons.mpr ⟨zlok61, List.forall_mem_cons.mpr ⟨zlok62, List.forall_mem_cons.mpr ⟨zlok63, List.forall_mem_cons.mpr ⟨zlok64, List.forall_mem_cons.mpr ⟨zlok65, List.forall_mem_cons.mpr ⟨zlok66, List.forall_mem_cons.mpr ⟨zlok67, List.forall_mem_cons.mpr ⟨zlok68, List.forall_mem_cons.mpr ⟨zlok69, List.forall_mem_cons.mpr ⟨zlok70, List.forall_mem_cons.mpr ⟨zlok71, List.forall_mem_cons.mpr ⟨zlok72, List.forall_mem_cons.mpr ⟨zlok73, List.forall_mem_cons.mpr ⟨zlok74, List.forall_mem_cons.mpr ⟨zlok75, List.forall_mem_cons.mpr ⟨zlok76, List.forall_mem_cons.mpr ⟨zlok77, List.forall_mem_cons.mpr ⟨zlok78, List.forall_mem_cons.mpr ⟨zlok79, List.forall_mem_cons.mpr ⟨zlok80, List.forall_mem_cons.mpr ⟨zlok81, List.forall_mem_cons.mpr ⟨zlok82, List.forall_mem_cons.mpr ⟨zlok83, List.forall_mem_cons.mpr ⟨zlok84, List.forall_mem_cons.mpr ⟨zlok85, List.forall_mem_cons.mpr ⟨zlok86, List.forall_mem_cons.mpr ⟨zlok87, List.forall_mem_cons.mpr ⟨zlok88, List.forall_mem_cons.mpr ⟨zlok89, List.forall_mem_cons.mpr ⟨zlok90, List.forall_mem_cons.mpr ⟨zlok91, List.forall_mem_cons.mpr ⟨zlok92, fun _ h => absurd h List.not_mem_nil⟩⟩⟩⟩⟩⟩⟩⟩⟩⟩⟩⟩⟩⟩⟩⟩⟩⟩⟩⟩⟩⟩⟩⟩⟩⟩⟩⟩⟩⟩⟩⟩⟩⟩⟩⟩⟩⟩⟩⟩⟩⟩⟩⟩⟩⟩⟩⟩⟩⟩⟩⟩⟩⟩⟩⟩⟩⟩⟩⟩⟩⟩⟩⟩⟩⟩⟩⟩⟩⟩⟩⟩⟩⟩⟩⟩⟩⟩⟩⟩⟩⟩⟩⟩⟩⟩⟩⟩⟩⟩⟩⟩⟩
set_option maxRecDepth 100000 in
theorem zgok0r : zgchk 1 [zp1, zp2, zp3, zp4, zp5, zp6, zp7, zp8, zp9, zp10, zp11, zp12, zp13, zp14, zp15] = true := by decide +kernel
theorem zgok0 : zgchk 0 zg0 = true := by
  show (zmchk "SandHouseLaw" "law" code 7 zp0 && zgchk 1 [zp1, zp2, zp3, zp4, zp5, zp6, zp7, zp8, zp9, zp10, zp11, zp12, zp13, zp14, zp15]) = true
  rw [zgok0r, Bool.and_true]
  exact List.all_eq_true.mpr zlokA
end
section
/-- a method's own words; law (0) has none -/
def zmokF (j : Nat) : Bool := match zat zmn j, zat zmi j with
  | some (y, cc, mL, ret, hh, wc, wi, wk, wsl), some (na, mL', stc, ci, rk, kd) =>
    Nat.beq mL mL' && Nat.ble mL 16 && Nat.ble na mL && plainFor y && decide (y.cls ≠ "java/lang/invoke/MethodHandle") && decide (y.cls ≠ "java/lang/invoke/VarHandle") &&
    decide ((parseMethodDescriptor y.desc).map (fun d => d.parameters.length) = some (na - (1 - stc))) &&
    (match rk with
    | 0 => decide (ret = none)
    | 1 => decide (ret = some .int)
    | 2 => decide (ret = some .boolean)
    | _ => false) &&
    (match kd with
    | 0 => decide (hh = []) && zwd wc (Jvm.Cond.code y cc mL ret)
    | _ => zwd wc (Jvm.Cond.codeWith y cc mL ret hh)) &&
    zwd wi (Jvm.Cond.initialized y.cls) &&
    (match stc with
    | 0 => Nat.ble 1 na && zwd wk (Jvm.Cond.instanceMethod y) && (decide (y.name = "<init>") || zwd wsl (Jvm.Cond.selects y.cls y y)) && (match zat vwCl ci with
      | some (C, _, _) => decide (C = y.cls)
      | none => false)
    | _ => zwd wk (Jvm.Cond.static y))
  | _, _ => false
set_option maxRecDepth 100000 in
theorem zmok1 : (List.range' 1 8).all zmokF = true := by decide +kernel
set_option maxRecDepth 100000 in
theorem zmok9 : (List.range' 9 8).all zmokF = true := by decide +kernel
set_option maxRecDepth 100000 in
theorem zmok17 : (List.range' 17 8).all zmokF = true := by decide +kernel
set_option maxRecDepth 100000 in
theorem zmok25 : (List.range' 25 8).all zmokF = true := by decide +kernel
set_option maxRecDepth 100000 in
theorem zmok33 : (List.range' 33 8).all zmokF = true := by decide +kernel
set_option maxRecDepth 100000 in
theorem zmok41 : (List.range' 41 8).all zmokF = true := by decide +kernel
set_option maxRecDepth 100000 in
theorem zmok49 : (List.range' 49 8).all zmokF = true := by decide +kernel
set_option maxRecDepth 100000 in
theorem zmok57 : (List.range' 57 8).all zmokF = true := by decide +kernel
set_option maxRecDepth 100000 in
theorem zmok65 : (List.range' 65 8).all zmokF = true := by decide +kernel
set_option maxRecDepth 100000 in
theorem zmok73 : (List.range' 73 8).all zmokF = true := by decide +kernel
set_option maxRecDepth 100000 in
theorem zmok81 : (List.range' 81 8).all zmokF = true := by decide +kernel
set_option maxRecDepth 100000 in
theorem zmok89 : (List.range' 89 8).all zmokF = true := by decide +kernel
set_option maxRecDepth 100000 in
theorem zmok97 : (List.range' 97 8).all zmokF = true := by decide +kernel
set_option maxRecDepth 100000 in
theorem zmok105 : (List.range' 105 8).all zmokF = true := by decide +kernel
set_option maxRecDepth 100000 in
theorem zmok113 : (List.range' 113 8).all zmokF = true := by decide +kernel
set_option maxRecDepth 100000 in
theorem zmok121 : (List.range' 121 8).all zmokF = true := by decide +kernel
set_option maxRecDepth 100000 in
theorem zmok129 : (List.range' 129 8).all zmokF = true := by decide +kernel
set_option maxRecDepth 100000 in
theorem zmok137 : (List.range' 137 8).all zmokF = true := by decide +kernel
set_option maxRecDepth 100000 in
theorem zmok145 : (List.range' 145 8).all zmokF = true := by decide +kernel
set_option maxRecDepth 100000 in
theorem zmok153 : (List.range' 153 8).all zmokF = true := by decide +kernel
set_option maxRecDepth 100000 in
theorem zmok161 : (List.range' 161 8).all zmokF = true := by decide +kernel
set_option maxRecDepth 100000 in
theorem zmok169 : (List.range' 169 8).all zmokF = true := by decide +kernel
set_option maxRecDepth 100000 in
theorem zmok177 : (List.range' 177 8).all zmokF = true := by decide +kernel
set_option maxRecDepth 100000 in
theorem zmok185 : (List.range' 185 8).all zmokF = true := by decide +kernel
set_option maxRecDepth 100000 in
theorem zmok193 : (List.range' 193 8).all zmokF = true := by decide +kernel
set_option maxRecDepth 100000 in
theorem zmok201 : (List.range' 201 8).all zmokF = true := by decide +kernel
set_option maxRecDepth 100000 in
theorem zmok209 : (List.range' 209 8).all zmokF = true := by decide +kernel
set_option maxRecDepth 100000 in
theorem zmok217 : (List.range' 217 8).all zmokF = true := by decide +kernel
set_option maxRecDepth 100000 in
theorem zmok225 : (List.range' 225 8).all zmokF = true := by decide +kernel
set_option maxRecDepth 100000 in
theorem zmok233 : (List.range' 233 8).all zmokF = true := by decide +kernel
set_option maxRecDepth 100000 in
theorem zmok241 : (List.range' 241 8).all zmokF = true := by decide +kernel
set_option maxRecDepth 100000 in
theorem zmok249 : (List.range' 249 8).all zmokF = true := by decide +kernel
set_option maxRecDepth 100000 in
theorem zmok257 : (List.range' 257 8).all zmokF = true := by decide +kernel
set_option maxRecDepth 100000 in
theorem zmok265 : (List.range' 265 8).all zmokF = true := by decide +kernel
set_option maxRecDepth 100000 in
theorem zmok273 : (List.range' 273 8).all zmokF = true := by decide +kernel
set_option maxRecDepth 100000 in
theorem zmok281 : (List.range' 281 8).all zmokF = true := by decide +kernel
set_option maxRecDepth 100000 in
theorem zmok289 : (List.range' 289 8).all zmokF = true := by decide +kernel
set_option maxRecDepth 100000 in
theorem zmok297 : (List.range' 297 8).all zmokF = true := by decide +kernel
set_option maxRecDepth 100000 in
theorem zmok305 : (List.range' 305 8).all zmokF = true := by decide +kernel
set_option maxRecDepth 100000 in
theorem zmok313 : (List.range' 313 8).all zmokF = true := by decide +kernel
set_option maxRecDepth 100000 in
theorem zmok321 : (List.range' 321 8).all zmokF = true := by decide +kernel
set_option maxRecDepth 100000 in
theorem zmok329 : (List.range' 329 8).all zmokF = true := by decide +kernel
set_option maxRecDepth 100000 in
theorem zmok337 : (List.range' 337 2).all zmokF = true := by decide +kernel
theorem zprog_ok : ∀ (g : Nat) (rows : List (List (List (Nat × ZI)))), zat zprog g = some rows → zgchk (16 * g) rows = true
  | 0, rows, h => Eq.subst (motive := fun r => zgchk 0 r = true) (Option.some.inj (show some zg0 = some rows from h)) zgok0
  | 1, rows, h => Eq.subst (motive := fun r => zgchk 16 r = true) (Option.some.inj (show some zg1 = some rows from h)) zgok1
  | 2, rows, h => Eq.subst (motive := fun r => zgchk 32 r = true) (Option.some.inj (show some zg2 = some rows from h)) zgok2
  | 3, rows, h => Eq.subst (motive := fun r => zgchk 48 r = true) (Option.some.inj (show some zg3 = some rows from h)) zgok3
  | 4, rows, h => Eq.subst (motive := fun r => zgchk 64 r = true) (Option.some.inj (show some zg4 = some rows from h)) zgok4
  | 5, rows, h => Eq.subst (motive := fun r => zgchk 80 r = true) (Option.some.inj (show some zg5 = some rows from h)) zgok5
  | 6, rows, h => Eq.subst (motive := fun r => zgchk 96 r = true) (Option.some.inj (show some zg6 = some rows from h)) zgok6
  | 7, rows, h => Eq.subst (motive := fun r => zgchk 112 r = true) (Option.some.inj (show some zg7 = some rows from h)) zgok7
  | 8, rows, h => Eq.subst (motive := fun r => zgchk 128 r = true) (Option.some.inj (show some zg8 = some rows from h)) zgok8
  | 9, rows, h => Eq.subst (motive := fun r => zgchk 144 r = true) (Option.some.inj (show some zg9 = some rows from h)) zgok9
  | 10, rows, h => Eq.subst (motive := fun r => zgchk 160 r = true) (Option.some.inj (show some zg10 = some rows from h)) zgok10
  | 11, rows, h => Eq.subst (motive := fun r => zgchk 176 r = true) (Option.some.inj (show some zg11 = some rows from h)) zgok11
  | 12, rows, h => Eq.subst (motive := fun r => zgchk 192 r = true) (Option.some.inj (show some zg12 = some rows from h)) zgok12
  | 13, rows, h => Eq.subst (motive := fun r => zgchk 208 r = true) (Option.some.inj (show some zg13 = some rows from h)) zgok13
  | 14, rows, h => Eq.subst (motive := fun r => zgchk 224 r = true) (Option.some.inj (show some zg14 = some rows from h)) zgok14
  | 15, rows, h => Eq.subst (motive := fun r => zgchk 240 r = true) (Option.some.inj (show some zg15 = some rows from h)) zgok15
  | 16, rows, h => Eq.subst (motive := fun r => zgchk 256 r = true) (Option.some.inj (show some zg16 = some rows from h)) zgok16
  | 17, rows, h => Eq.subst (motive := fun r => zgchk 272 r = true) (Option.some.inj (show some zg17 = some rows from h)) zgok17
  | 18, rows, h => Eq.subst (motive := fun r => zgchk 288 r = true) (Option.some.inj (show some zg18 = some rows from h)) zgok18
  | 19, rows, h => Eq.subst (motive := fun r => zgchk 304 r = true) (Option.some.inj (show some zg19 = some rows from h)) zgok19
  | 20, rows, h => Eq.subst (motive := fun r => zgchk 320 r = true) (Option.some.inj (show some zg20 = some rows from h)) zgok20
  | 21, rows, h => Eq.subst (motive := fun r => zgchk 336 r = true) (Option.some.inj (show some zg21 = some rows from h)) zgok21
  | n + 22, rows, h => by simp [zprog, zat] at h
theorem zmok_all (j : Nat) (h0 : 0 < j) (hj : j < 339) : zmokF j = true := by
  by_cases h1 : j < 9
  · exact List.all_eq_true.mp zmok1 j (List.mem_range'_1.mpr (by omega))
  by_cases h9 : j < 17
  · exact List.all_eq_true.mp zmok9 j (List.mem_range'_1.mpr (by omega))
  by_cases h17 : j < 25
  · exact List.all_eq_true.mp zmok17 j (List.mem_range'_1.mpr (by omega))
  by_cases h25 : j < 33
  · exact List.all_eq_true.mp zmok25 j (List.mem_range'_1.mpr (by omega))
  by_cases h33 : j < 41
  · exact List.all_eq_true.mp zmok33 j (List.mem_range'_1.mpr (by omega))
  by_cases h41 : j < 49
  · exact List.all_eq_true.mp zmok41 j (List.mem_range'_1.mpr (by omega))
  by_cases h49 : j < 57
  · exact List.all_eq_true.mp zmok49 j (List.mem_range'_1.mpr (by omega))
  by_cases h57 : j < 65
  · exact List.all_eq_true.mp zmok57 j (List.mem_range'_1.mpr (by omega))
  by_cases h65 : j < 73
  · exact List.all_eq_true.mp zmok65 j (List.mem_range'_1.mpr (by omega))
  by_cases h73 : j < 81
  · exact List.all_eq_true.mp zmok73 j (List.mem_range'_1.mpr (by omega))
  by_cases h81 : j < 89
  · exact List.all_eq_true.mp zmok81 j (List.mem_range'_1.mpr (by omega))
  by_cases h89 : j < 97
  · exact List.all_eq_true.mp zmok89 j (List.mem_range'_1.mpr (by omega))
  by_cases h97 : j < 105
  · exact List.all_eq_true.mp zmok97 j (List.mem_range'_1.mpr (by omega))
  by_cases h105 : j < 113
  · exact List.all_eq_true.mp zmok105 j (List.mem_range'_1.mpr (by omega))
  by_cases h113 : j < 121
  · exact List.all_eq_true.mp zmok113 j (List.mem_range'_1.mpr (by omega))
  by_cases h121 : j < 129
  · exact List.all_eq_true.mp zmok121 j (List.mem_range'_1.mpr (by omega))
  by_cases h129 : j < 137
  · exact List.all_eq_true.mp zmok129 j (List.mem_range'_1.mpr (by omega))
  by_cases h137 : j < 145
  · exact List.all_eq_true.mp zmok137 j (List.mem_range'_1.mpr (by omega))
  by_cases h145 : j < 153
  · exact List.all_eq_true.mp zmok145 j (List.mem_range'_1.mpr (by omega))
  by_cases h153 : j < 161
  · exact List.all_eq_true.mp zmok153 j (List.mem_range'_1.mpr (by omega))
  by_cases h161 : j < 169
  · exact List.all_eq_true.mp zmok161 j (List.mem_range'_1.mpr (by omega))
  by_cases h169 : j < 177
  · exact List.all_eq_true.mp zmok169 j (List.mem_range'_1.mpr (by omega))
  by_cases h177 : j < 185
  · exact List.all_eq_true.mp zmok177 j (List.mem_range'_1.mpr (by omega))
  by_cases h185 : j < 193
  · exact List.all_eq_true.mp zmok185 j (List.mem_range'_1.mpr (by omega))
  by_cases h193 : j < 201
  · exact List.all_eq_true.mp zmok193 j (List.mem_range'_1.mpr (by omega))
  by_cases h201 : j < 209
  · exact List.all_eq_true.mp zmok201 j (List.mem_range'_1.mpr (by omega))
  by_cases h209 : j < 217
  · exact List.all_eq_true.mp zmok209 j (List.mem_range'_1.mpr (by omega))
  by_cases h217 : j < 225
  · exact List.all_eq_true.mp zmok217 j (List.mem_range'_1.mpr (by omega))
  by_cases h225 : j < 233
  · exact List.all_eq_true.mp zmok225 j (List.mem_range'_1.mpr (by omega))
  by_cases h233 : j < 241
  · exact List.all_eq_true.mp zmok233 j (List.mem_range'_1.mpr (by omega))
  by_cases h241 : j < 249
  · exact List.all_eq_true.mp zmok241 j (List.mem_range'_1.mpr (by omega))
  by_cases h249 : j < 257
  · exact List.all_eq_true.mp zmok249 j (List.mem_range'_1.mpr (by omega))
  by_cases h257 : j < 265
  · exact List.all_eq_true.mp zmok257 j (List.mem_range'_1.mpr (by omega))
  by_cases h265 : j < 273
  · exact List.all_eq_true.mp zmok265 j (List.mem_range'_1.mpr (by omega))
  by_cases h273 : j < 281
  · exact List.all_eq_true.mp zmok273 j (List.mem_range'_1.mpr (by omega))
  by_cases h281 : j < 289
  · exact List.all_eq_true.mp zmok281 j (List.mem_range'_1.mpr (by omega))
  by_cases h289 : j < 297
  · exact List.all_eq_true.mp zmok289 j (List.mem_range'_1.mpr (by omega))
  by_cases h297 : j < 305
  · exact List.all_eq_true.mp zmok297 j (List.mem_range'_1.mpr (by omega))
  by_cases h305 : j < 313
  · exact List.all_eq_true.mp zmok305 j (List.mem_range'_1.mpr (by omega))
  by_cases h313 : j < 321
  · exact List.all_eq_true.mp zmok313 j (List.mem_range'_1.mpr (by omega))
  by_cases h321 : j < 329
  · exact List.all_eq_true.mp zmok321 j (List.mem_range'_1.mpr (by omega))
  by_cases h329 : j < 337
  · exact List.all_eq_true.mp zmok329 j (List.mem_range'_1.mpr (by omega))
  by_cases h337 : j < 339
  · exact List.all_eq_true.mp zmok337 j (List.mem_range'_1.mpr (by omega))
  omega
end
section
/-! INVERSIONS -/
theorem zat_eq {α : Type} : ∀ (l : List α) (i : Nat), zat l i = l[i]?
  | [], i => by simp [zat]
  | a :: l, 0 => by simp [zat]
  | a :: l, i + 1 => by simp [zat, zat_eq l i]
theorem zset_eq {α : Type} : ∀ (l : List α) (i : Nat) (x : α), zset l i x = l.set i x
  | [], i, x => by simp [zset]
  | a :: l, 0, x => by simp [zset]
  | a :: l, i + 1, x => by simp [zset, zset_eq l i x]
theorem zrow_at {α : Type} (v : Nat → Nat → α) (c : Nat) (f : Nat → α) : zrow v c f c = f := by simp [zrow, Nat.beq_refl]
theorem zrow_ne {α : Type} (v : Nat → Nat → α) {c d : Nat} (f : Nat → α) (h : d ≠ c) : zrow v c f d = v d := by
  have : Nat.beq d c = false := by
    cases hb : Nat.beq d c with
    | false => rfl
    | true => exact absurd (Nat.eq_of_beq_eq_true hb) h
  simp [zrow, this]
theorem zcond {α : Type} {b : Bool} {x : Option α} {r : α} (h : cond b x none = some r) : b = true ∧ x = some r := by
  cases b with
  | true => exact ⟨rfl, h⟩
  | false => cases h
theorem zbeq {a b : Nat} (h : Nat.beq a b = true) : a = b := Nat.eq_of_beq_eq_true h
theorem zck_inv {j : Int32} {n : Nat} {r : Option zR} {q : zR} (h : zck j n r = some q) : vp_in j n ∧ r = some q := by
  unfold zck at h
  split at h
  · cases h
  · split at h
    · cases h
    · rename_i h1 h2
      exact ⟨fun z => z.elim h1 h2, h⟩
theorem zc01_inv {x : Int32} {r : Option zR} {q : zR} (h : zc01 x r = some q) : (x = 0 ∨ x = 1) ∧ r = some q := by
  unfold zc01 at h
  split at h
  · rename_i h1; exact ⟨Or.inl h1, h⟩
  · split at h
    · rename_i h1; exact ⟨Or.inr h1, h⟩
    · cases h
theorem znz_inv {x : Int32} {r : Option zR} {q : zR} (h : znz x r = some q) : ¬ x = 0 ∧ r = some q := by
  unfold znz at h
  split at h
  · cases h
  · rename_i h1; exact ⟨h1, h⟩
theorem znzl_inv {x : Int64} {r : Option zR} {q : zR} (h : znzl x r = some q) : ¬ x = 0 ∧ r = some q := by
  unfold znzl at h
  split at h
  · cases h
  · rename_i h1; exact ⟨h1, h⟩
theorem zarr_inv {h : zH} {t a : Nat} {k : Nat → Option zR} {q : zR} (e : zarr h t a k = some q) : ∃ n rf, zat h.1 a = some (.inl (t, n, rf)) ∧ k n = some q := by
  unfold zarr at e
  split at e
  · rename_i t' n rf h1
    obtain ⟨h2, h3⟩ := zcond e
    rw [zbeq h2] at h1
    exact ⟨n, rf, h1, h3⟩
  · cases e
section ZINV
variable {q : zR} {ls : zLs} {i : Nat} {st : List Value} {h : zH}
theorem zldI_inv {k : List Value → Option zR} (e : zldI k ls i st = some q) : ∃ x, zat ls i = some (some (.int x)) ∧ k (.int x :: st) = some q := by
  unfold zldI at e
  split at e
  · exact ⟨_, by assumption, e⟩
  · cases e
theorem zldJ_inv {k : List Value → Option zR} (e : zldJ k ls i st = some q) : ∃ x, zat ls i = some (some (.long x)) ∧ k (.long x :: st) = some q := by
  unfold zldJ at e
  split at e
  · exact ⟨_, by assumption, e⟩
  · cases e
theorem zldA_inv {k : List Value → Option zR} (e : zldA k ls i st = some q) : ∃ v, zat ls i = some (some v) ∧ zisA v = true ∧ k (v :: st) = some q := by
  unfold zldA at e
  split at e
  · obtain ⟨h1, h2⟩ := zcond e
    exact ⟨_, by assumption, h1, h2⟩
  · cases e
theorem zstI_inv {k : zLs → List Value → Option zR} (e : zstI k ls i st = some q) : ∃ x r, st = .int x :: r ∧ k (zstl ls i (.int x)) r = some q := by
  unfold zstI at e
  split at e
  · exact ⟨_, _, rfl, e⟩
  · cases e
theorem zstJ_inv {k : zLs → List Value → Option zR} (e : zstJ k ls i st = some q) : ∃ x r, st = .long x :: r ∧ k (zset (zstl ls i (.long x)) (i + 1) none) r = some q := by
  unfold zstJ at e
  split at e
  · exact ⟨_, _, rfl, e⟩
  · cases e
theorem zstA_inv {k : zLs → List Value → Option zR} (e : zstA k ls i st = some q) : ∃ v r, st = v :: r ∧ ((∃ x, v = .ref x) ∨ ∃ x, v = .double x) ∧ k (zstl ls i v) r = some q := by
  unfold zstA at e
  split at e
  · exact ⟨_, _, rfl, Or.inl ⟨_, rfl⟩, e⟩
  · exact ⟨_, _, rfl, Or.inr ⟨_, rfl⟩, e⟩
  · cases e
theorem zinc_inv {k : zLs → Option zR} {z : Int32} (e : zinc k ls i z = some q) : ∃ x, zat ls i = some (some (.int x)) ∧ k (zstl ls i (.int (x + z))) = some q := by
  unfold zinc at e
  split at e
  · exact ⟨_, by assumption, e⟩
  · cases e
theorem zb2_inv {k : List Value → Option zR} {f : Int32 → Int32 → Int32} (e : zb2 k f st = some q) : ∃ a b r, st = .int b :: .int a :: r ∧ k (.int (f a b) :: r) = some q := by
  unfold zb2 at e
  split at e
  · exact ⟨_, _, _, rfl, e⟩
  · cases e
theorem zl2_inv {k : List Value → Option zR} {f : Int64 → Int64 → Int64} (e : zl2 k f st = some q) : ∃ a b r, st = .long b :: .long a :: r ∧ k (.long (f a b) :: r) = some q := by
  unfold zl2 at e
  split at e
  · exact ⟨_, _, _, rfl, e⟩
  · cases e
/-- the int compare with 0 -/
def zc0 (c : ClassFile.Cond) (x : Int32) : Prop := match c with
  | .eq => x = 0
  | .ne => ¬ x = 0
  | .lt => x < 0
  | .ge => 0 ≤ x
  | .gt => 0 < x
  | .le => x ≤ 0
def zcc (c : ClassFile.Cond) (x y : Int32) : Prop := match c with
  | .eq => x = y
  | .ne => ¬ x = y
  | .lt => x < y
  | .ge => y ≤ x
  | .gt => y < x
  | .le => x ≤ y
theorem zif1_inv {k : Nat → List Value → Option zR} {c : ClassFile.Cond} {t p : Nat} (e : zif1 k c t p st = some q) : ∃ x r, st = .int x :: r ∧ (zc0 c x → k t r = some q) ∧ (¬ zc0 c x → k p r = some q) := by
  unfold zif1 at e
  split at e
  · refine ⟨_, _, rfl, ?_⟩
    cases c <;> simp only [zc0] <;> dsimp only at e <;> split at e <;> rename_i h1 <;> first | exact ⟨fun _ => e, fun z => absurd h1 z⟩ | exact ⟨fun z => absurd z h1, fun _ => e⟩ | exact ⟨fun z => absurd h1 z, fun _ => e⟩ | exact ⟨fun _ => e, fun z => absurd z h1⟩ | exact ⟨fun _ => e, fun z => absurd h1 (fun _ => z h1)⟩
  · cases e
theorem zif2_inv {k : Nat → List Value → Option zR} {c : ClassFile.Cond} {t p : Nat} (e : zif2 k c t p st = some q) : ∃ x y r, st = .int y :: .int x :: r ∧ (zcc c x y → k t r = some q) ∧ (¬ zcc c x y → k p r = some q) := by
  unfold zif2 at e
  split at e
  · refine ⟨_, _, _, rfl, ?_⟩
    cases c <;> simp only [zcc] <;> dsimp only at e <;> split at e <;> rename_i h1 <;> first | exact ⟨fun _ => e, fun z => absurd h1 z⟩ | exact ⟨fun z => absurd z h1, fun _ => e⟩ | exact ⟨fun z => absurd h1 z, fun _ => e⟩ | exact ⟨fun _ => e, fun z => absurd z h1⟩ | exact ⟨fun _ => e, fun z => absurd h1 (fun _ => z h1)⟩
  · cases e
theorem znul_inv {k : Nat → List Value → Option zR} {t p : Nat} (e : znul k t p st = some q) : (∃ r, st = .null :: r ∧ k t r = some q) ∨ ∃ a r, st = .ref a :: r ∧ k p r = some q := by
  unfold znul at e
  split at e
  · exact Or.inl ⟨_, rfl, e⟩
  · exact Or.inr ⟨_, _, rfl, e⟩
  · cases e
theorem zget_inv {k : List Value → Option zR} {ci fk : Nat} (e : zget k h ci fk st = some q) : ∃ a r sl, st = .ref a :: r ∧ zat h.1 a = some (.inr (.inl (ci, sl))) ∧ ((zat sl fk = some none ∧ k (.int (h.2.1 a fk) :: r) = some q) ∨ ∃ o, zat sl fk = some (some o) ∧ k (zrf o :: r) = some q) := by
  unfold zget at e
  split at e
  · split at e
    · rename_i c sl h1
      obtain ⟨h2, h3⟩ := zcond e
      rw [zbeq h2] at h1
      refine ⟨_, _, sl, rfl, h1, ?_⟩
      split at h3
      · exact Or.inl ⟨by assumption, h3⟩
      · exact Or.inr ⟨_, by assumption, h3⟩
      · cases h3
    · cases e
  · cases e
theorem zput_inv {k : List Value → zH → Option zR} {ci fk : Nat} {z : Int32} (e : zput k h ci fk z st = some q) :
    (∃ y a r sl, st = .int y :: .ref a :: r ∧ zat h.1 a = some (.inr (.inl (ci, sl))) ∧ zat sl fk = some none ∧ (z = 0 ∨ y = 0 ∨ y = 1) ∧ k r (zsetI h a (upd (h.2.1 a) fk y)) = some q) ∨
    ∃ b a r sl o, st = .ref b :: .ref a :: r ∧ zat h.1 a = some (.inr (.inl (ci, sl))) ∧ zat sl fk = some (some o) ∧ k r (zsetS h a (.inr (.inl (ci, zset sl fk (some (some b)))))) = some q := by
  unfold zput at e
  split at e
  · split at e
    · rename_i c sl h1
      obtain ⟨h2, h3⟩ := zcond e
      rw [zbeq h2] at h1
      split at h3
      · split at h3
        · exact Or.inl ⟨_, _, _, sl, rfl, h1, by assumption, Or.inl (by assumption), h3⟩
        · obtain ⟨h4, h5⟩ := zc01_inv h3
          exact Or.inl ⟨_, _, _, sl, rfl, h1, by assumption, Or.inr h4, h5⟩
      · cases h3
    · cases e
  · split at e
    · rename_i c sl h1
      obtain ⟨h2, h3⟩ := zcond e
      have h2 := zbeq h2
      subst h2
      split at h3
      · exact Or.inr ⟨_, _, _, sl, _, rfl, h1, by assumption, h3⟩
      · cases h3
    · cases e
  · cases e
theorem zald_inv {E : zE} {k : List Value → Option zR} (e : zald E k h st = some q) :
    (∃ j a r n rf, st = .int j :: .ref a :: r ∧ zat h.1 a = some (.inl (0, n, rf)) ∧ vp_in j n ∧ k (.int (h.2.1 a j.toNatClampNeg) :: r) = some q) ∨
    ∃ j f r, st = .int j :: .float f :: r ∧ vp_in j E.1 ∧ k (.int (E.2 j.toNatClampNeg) :: r) = some q := by
  unfold zald at e
  split at e
  · obtain ⟨n, rf, h1, h2⟩ := zarr_inv e
    obtain ⟨h3, h4⟩ := zck_inv h2
    exact Or.inl ⟨_, _, _, n, rf, rfl, h1, h3, h4⟩
  · obtain ⟨h3, h4⟩ := zck_inv e
    exact Or.inr ⟨_, _, _, rfl, h3, h4⟩
  · cases e
theorem zaldB_inv {k : List Value → Option zR} (e : zaldB k h st = some q) : ∃ j a r n rf, st = .int j :: .ref a :: r ∧ zat h.1 a = some (.inl (1, n, rf)) ∧ vp_in j n ∧ k (.int (h.2.1 a j.toNatClampNeg) :: r) = some q := by
  unfold zaldB at e
  split at e
  · obtain ⟨n, rf, h1, h2⟩ := zarr_inv e
    obtain ⟨h3, h4⟩ := zck_inv h2
    exact ⟨_, _, _, n, rf, rfl, h1, h3, h4⟩
  · cases e
theorem zaldJ_inv {k : List Value → Option zR} (e : zaldJ k h st = some q) : ∃ j a r n rf, st = .int j :: .ref a :: r ∧ zat h.1 a = some (.inl (2, n, rf)) ∧ vp_in j n ∧ k (.long (h.2.2.1 a j.toNatClampNeg) :: r) = some q := by
  unfold zaldJ at e
  split at e
  · obtain ⟨n, rf, h1, h2⟩ := zarr_inv e
    obtain ⟨h3, h4⟩ := zck_inv h2
    exact ⟨_, _, _, n, rf, rfl, h1, h3, h4⟩
  · cases e
theorem zaldA_inv {k : List Value → Option zR} (e : zaldA k h st = some q) : ∃ j a r t n rf o, st = .int j :: .ref a :: r ∧ zat h.1 a = some (.inl (t, n, rf)) ∧ 3 ≤ t ∧ vp_in j n ∧ zat rf j.toNatClampNeg = some o ∧ k (zrf o :: r) = some q := by
  unfold zaldA at e
  split at e
  · split at e
    · obtain ⟨h1, h2⟩ := zcond e
      obtain ⟨h3, h4⟩ := zck_inv h2
      split at h4
      · exact ⟨_, _, _, _, _, _, _, rfl, by assumption, Nat.le_of_ble_eq_true h1, h3, by assumption, h4⟩
      · cases h4
    · cases e
  · cases e
theorem zast_inv {k : List Value → zH → Option zR} (e : zast k h st = some q) : ∃ x j a r n rf, st = .int x :: .int j :: .ref a :: r ∧ zat h.1 a = some (.inl (0, n, rf)) ∧ vp_in j n ∧ k r (zsetI h a (upd (h.2.1 a) j.toNatClampNeg x)) = some q := by
  unfold zast at e
  split at e
  · obtain ⟨n, rf, h1, h2⟩ := zarr_inv e
    obtain ⟨h3, h4⟩ := zck_inv h2
    exact ⟨_, _, _, _, n, rf, rfl, h1, h3, h4⟩
  · cases e
theorem zastB_inv {k : List Value → zH → Option zR} (e : zastB k h st = some q) : ∃ x j a r n rf, st = .int x :: .int j :: .ref a :: r ∧ zat h.1 a = some (.inl (1, n, rf)) ∧ vp_in j n ∧ k r (zsetI h a (upd (h.2.1 a) j.toNatClampNeg x.toInt8.toInt32)) = some q := by
  unfold zastB at e
  split at e
  · obtain ⟨n, rf, h1, h2⟩ := zarr_inv e
    obtain ⟨h3, h4⟩ := zck_inv h2
    exact ⟨_, _, _, _, n, rf, rfl, h1, h3, h4⟩
  · cases e
theorem zastJ_inv {k : List Value → zH → Option zR} (e : zastJ k h st = some q) : ∃ x j a r n rf, st = .long x :: .int j :: .ref a :: r ∧ zat h.1 a = some (.inl (2, n, rf)) ∧ vp_in j n ∧ k r (zsetJ h a (vp_updL (h.2.2.1 a) j.toNatClampNeg x)) = some q := by
  unfold zastJ at e
  split at e
  · obtain ⟨n, rf, h1, h2⟩ := zarr_inv e
    obtain ⟨h3, h4⟩ := zck_inv h2
    exact ⟨_, _, _, _, n, rf, rfl, h1, h3, h4⟩
  · cases e
theorem zastA_inv {k : List Value → zH → Option zR} (e : zastA k h st = some q) : ∃ b j a r c n rf sl, st = .ref b :: .int j :: .ref a :: r ∧ zat h.1 a = some (.inl (c + 3, n, rf)) ∧ vp_in j n ∧ zat h.1 b = some (.inr (.inl (c, sl))) ∧ k r (zsetS h a (.inl (c + 3, n, zset rf j.toNatClampNeg (some b)))) = some q := by
  unfold zastA at e
  split at e
  · split at e
    · rename_i t n rf h0
      obtain ⟨h1, h2⟩ := zcond e
      obtain ⟨h3, h4⟩ := zck_inv h2
      split at h4
      · obtain ⟨h5, h6⟩ := zcond h4
        have h5 := zbeq h5
        subst h5
        exact ⟨_, _, _, _, _, _, _, _, rfl, h0, h3, by assumption, h6⟩
      · cases h4
    · cases e
  · cases e
theorem zalen_inv {E : zE} {k : List Value → Option zR} (e : zalen E k h st = some q) :
    (∃ a r t n rf, st = .ref a :: r ∧ zat h.1 a = some (.inl (t, n, rf)) ∧ k (.int (Int32.ofNat n) :: r) = some q) ∨ ∃ f r, st = .float f :: r ∧ k (.int (Int32.ofNat E.1) :: r) = some q := by
  unfold zalen at e
  split at e
  · split at e
    · exact Or.inl ⟨_, _, _, _, _, rfl, by assumption, e⟩
    · cases e
  · exact Or.inr ⟨_, _, rfl, e⟩
  · cases e
theorem znewa_inv {k : List Value → zH → Option zR} {t : Nat} (e : znewa k h t st = some q) : ∃ n r, st = .int n :: r ∧ ¬ n < 0 ∧ n.toNatClampNeg ≤ 100000 ∧ k (.ref h.1.length :: r) (zpush h (.inl (t, n.toNatClampNeg, cond (Nat.ble 3 t) (List.replicate n.toNatClampNeg none) [])) n.toNatClampNeg) = some q := by
  unfold znewa at e
  split at e
  · split at e
    · cases e
    · obtain ⟨h1, h2⟩ := zcond e
      exact ⟨_, _, rfl, by assumption, Nat.le_of_ble_eq_true h1, h2⟩
  · cases e
theorem zcopy_inv {k : List Value → zH → Option zR} (e : zcopy k h st = some q) : ∃ n dp b sp a r na ra nb rb, st = .int n :: .int dp :: .ref b :: .int sp :: .ref a :: r ∧ zat h.1 a = some (.inl (0, na, ra)) ∧ zat h.1 b = some (.inl (0, nb, rb)) ∧ ¬ sp < 0 ∧ ¬ dp < 0 ∧ ¬ n < 0 ∧
    sp.toNatClampNeg + n.toNatClampNeg ≤ na ∧ dp.toNatClampNeg + n.toNatClampNeg ≤ nb ∧ zsum r ≤ 8 ∧ k r (zsetI h b (va_cpy (h.2.1 a) (h.2.1 b) sp.toNatClampNeg dp.toNatClampNeg n.toNatClampNeg)) = some q := by
  unfold zcopy at e
  split at e
  · obtain ⟨na, ra, h1, e⟩ := zarr_inv e
    obtain ⟨nb, rb, h2, e⟩ := zarr_inv e
    split at e
    · cases e
    · split at e
      · cases e
      · split at e
        · cases e
        · obtain ⟨h3, h4⟩ := zcond e
          simp only [Bool.and_eq_true] at h3
          exact ⟨_, _, _, _, _, _, na, ra, nb, rb, rfl, h1, h2, by assumption, by assumption, by assumption, Nat.le_of_ble_eq_true h3.1.1, Nat.le_of_ble_eq_true h3.1.2, Nat.le_of_ble_eq_true h3.2, h4⟩
  · cases e
theorem zsw_inv {x : Int32} {k : Nat → Option zR} : ∀ {l : List (Int32 × Nat)} {d : Nat}, zsw x l d k = some q → (∃ t, (x, t) ∈ l ∧ k t = some q) ∨ ((∀ p ∈ l, x ≠ p.1) ∧ k d = some q)
  | [], d, e => Or.inr ⟨fun _ h => absurd h List.not_mem_nil, e⟩
  | (a, t) :: l, d, e => by
    unfold zsw at e
    split at e
    · rename_i h1
      exact Or.inl ⟨t, by rw [h1]; exact List.mem_cons_self, e⟩
    · rename_i h1
      rcases zsw_inv e with ⟨t', h2, h3⟩ | ⟨h2, h3⟩
      · exact Or.inl ⟨t', List.mem_cons_of_mem _ h2, h3⟩
      · exact Or.inr ⟨fun p hp => (List.mem_cons.mp hp).elim (fun z => by rw [z]; exact h1) (h2 p), h3⟩
theorem zpop_inv : ∀ {n : Nat} {st acc as r : List Value}, zpop n st acc = some (as, r) → as.length = acc.length + n ∧ as.reverse ++ r = acc.reverse ++ st
  | 0, st, acc, as, r, e => by
    simp only [zpop, Option.some.injEq, Prod.mk.injEq] at e
    obtain ⟨rfl, rfl⟩ := e
    exact ⟨rfl, rfl⟩
  | n + 1, [], acc, as, r, e => by cases e
  | n + 1, v :: st, acc, as, r, e => by
    obtain ⟨h1, h2⟩ := zpop_inv (show zpop n st (v :: acc) = some (as, r) from e)
    refine ⟨by rw [h1, List.length_cons]; omega, ?_⟩
    rw [h2, List.reverse_cons, List.append_assoc]
    rfl
theorem zcall_inv {r : Option zR} {kv : Option Value → zH → Option zR} {kx : Nat → zH → Option zR} (e : zcall r kv kx = some q) : (∃ v h1, r = some (.inl v, h1) ∧ kv v h1 = some q) ∨ ∃ x h1, r = some (.inr x, h1) ∧ kx x h1 = some q := by
  unfold zcall at e
  split at e
  · cases e
  · exact Or.inl ⟨_, _, rfl, e⟩
  · exact Or.inr ⟨_, _, rfl, e⟩
theorem zhand_inv {pc x t : Nat} : ∀ {l : List (Nat × Nat × Nat × Nat)}, zhand l pc x = some t → ∃ (pre suf : List (Nat × Nat × Nat × Nat)) (s e : Nat), l = pre ++ (s, e, t, x) :: suf ∧ s ≤ pc ∧ pc < e ∧ ∀ z ∈ pre, ¬ (z.1 ≤ pc ∧ pc < z.2.1 ∧ z.2.2.2 = x)
  | [], h => by cases h
  | (s, e, t', x') :: l, h => by
    unfold zhand at h
    cases hb : (Nat.ble s pc && Nat.blt pc e && Nat.beq x' x) with
    | true =>
      rw [hb] at h
      cases h
      simp only [Bool.and_eq_true] at hb
      have h3 := zbeq hb.2
      subst h3
      exact ⟨[], l, s, e, rfl, Nat.le_of_ble_eq_true hb.1.1, Nat.le_of_ble_eq_true hb.1.2, fun z hz => absurd hz List.not_mem_nil⟩
    | false =>
      rw [hb] at h
      obtain ⟨pre, suf, s', e', h1, h2, h3, h4⟩ := zhand_inv (show zhand l pc x = some t from h)
      refine ⟨(s, e, t', x') :: pre, suf, s', e', by rw [h1]; rfl, h2, h3, fun z hz => ?_⟩
      rcases List.mem_cons.mp hz with rfl | hz
      · intro ⟨k1, k2, k3⟩
        have : (Nat.ble s pc && Nat.blt pc e && Nat.beq x' x) = true := by
          simp only [Bool.and_eq_true]
          exact ⟨⟨Nat.ble_eq_true_of_le k1, Nat.ble_eq_true_of_le k2⟩, by have k4 : x' = x := k3 ; rw [k4]; exact Nat.beq_refl x⟩
        rw [hb] at this
        cases this
      · exact h4 z hz
theorem zrecv_inv {stc ci : Nat} {as : List Value} {r : Option zR} (e : zrecv h stc ci as r = some q) : r = some q ∧ (stc = 0 → ∃ k sl rest, as = .ref k :: rest ∧ zat h.1 k = some (.inr (.inl (ci, sl)))) := by
  unfold zrecv at e
  split at e
  · split at e
    · split at e
      · obtain ⟨h1, h2⟩ := zcond e
        have h1 := zbeq h1
        subst h1
        exact ⟨h2, fun _ => ⟨_, _, _, rfl, by assumption⟩⟩
      · cases e
    · cases e
  · exact ⟨e, fun z => by cases z⟩
theorem zinv_inv {ih : zF} {nx : zLs → List Value → zH → Option zR} {d mi pc j : Nat} {tx : Bool} (e : zinv ih nx d mi pc j tx ls st h = some q) :
    ∃ na mL stc ci rk kd as r d', zat zmi j = some (na, mL, stc, ci, rk, kd) ∧ as.length = na ∧ st = as.reverse ++ r ∧ zsum r ≤ 8 ∧ as.all zc1 = true ∧ (stc = 0 → ∃ k sl rest, as = .ref k :: rest ∧ zat h.1 k = some (.inr (.inl (ci, sl)))) ∧ d = d' + 1 ∧
    ((∃ v h1, ih d' j 0 (zent mL as) [] h = some (.inl v, h1) ∧ nx ls (v.toList ++ r) h1 = some q) ∨
     (tx = true ∧ kd = 0 ∧ ∃ x h1, ih d' j 0 (zent mL as) [] h = some (.inr x, h1) ∧
      ((∃ hs t, zat zhs mi = some hs ∧ zhand hs pc x = some t ∧ ih d mi t ls [.double 0] h1 = some q) ∨ ((zat zhs mi = none ∨ zat zhs mi = some []) ∧ q = (.inr x, h1))))) := by
  unfold zinv at e
  split at e
  · cases e
  · rename_i na mL stc ci rk kd h0
    split at e
    · cases e
    · rename_i as r h1
      obtain ⟨h2, e⟩ := zcond e
      simp only [Bool.and_eq_true] at h2
      obtain ⟨e, h3⟩ := zrecv_inv e
      obtain ⟨k1, k2⟩ := zpop_inv h1
      cases d with
      | zero => cases e
      | succ d' =>
        change zcall _ _ _ = some _ at e
        refine ⟨na, mL, stc, ci, rk, kd, as, r, d', h0, by simpa using k1, by simpa using k2.symm, Nat.le_of_ble_eq_true h2.1, h2.2, h3, rfl, ?_⟩
        rcases zcall_inv e with ⟨v, h4, h5, h6⟩ | ⟨x, h4, h5, h6⟩
        · exact Or.inl ⟨v, h4, h5, h6⟩
        · obtain ⟨h7, h8⟩ := zcond h6
          simp only [Bool.and_eq_true] at h7
          refine Or.inr ⟨h7.1, zbeq h7.2, x, h4, h5, ?_⟩
          split at h8
          · rename_i e1 l1 h9
            split at h8
            · exact Or.inl ⟨_, _, h9, by assumption, h8⟩
            · cases h8
          · rename_i h9
            refine Or.inr ⟨?_, (Option.some.inj h8).symm⟩
            cases hz : zat zhs mi with
            | none => exact Or.inl rfl
            | some y =>
              cases y with
              | nil => exact Or.inr rfl
              | cons a b => exact absurd hz (h9 a b)
theorem zpri_inv {nx : zLs → List Value → zH → Option zR} {kind : Nat} (e : zpri nx kind ls st h = some q) :
    (kind = 1 ∧ ∃ a r, st = .ref a :: r ∧ zsum r ≤ 8 ∧ nx ls r h = some q) ∨
    (kind = 2 ∧ ∃ x y r, st = .int y :: .int x :: r ∧ zsum r ≤ 8 ∧ nx ls (.int (if y < x then y else x) :: r) h = some q) ∨
    (kind = 3 ∧ ∃ x y r, st = .int y :: .int x :: r ∧ zsum r ≤ 8 ∧ nx ls (.int (if x < y then y else x) :: r) h = some q) ∨
    (kind = 4 ∧ ∃ i r bs, st = .retAddr i :: r ∧ zsum r ≤ 8 ∧ zat zstrs i = some bs ∧ nx ls (.int (Int32.ofNat bs.length) :: r) h = some q) ∨
    (kind = 5 ∧ ∃ j i r bs b, st = .int j :: .retAddr i :: r ∧ zsum r ≤ 8 ∧ zat zstrs i = some bs ∧ vp_in j bs.length ∧ zat bs j.toNatClampNeg = some b ∧ nx ls (.int b :: r) h = some q) ∨
    (kind = 6 ∧ zcopy (nx ls) h st = some q) := by
  unfold zpri at e
  split at e
  · split at e
    · obtain ⟨h1, h2⟩ := zcond e
      exact Or.inl ⟨rfl, _, _, rfl, Nat.le_of_ble_eq_true h1, h2⟩
    · cases e
  · split at e
    · obtain ⟨h1, h2⟩ := zcond e
      exact Or.inr (Or.inl ⟨rfl, _, _, _, rfl, Nat.le_of_ble_eq_true h1, h2⟩)
    · cases e
  · split at e
    · obtain ⟨h1, h2⟩ := zcond e
      exact Or.inr (Or.inr (Or.inl ⟨rfl, _, _, _, rfl, Nat.le_of_ble_eq_true h1, h2⟩))
    · cases e
  · split at e
    · obtain ⟨h1, h2⟩ := zcond e
      split at h2
      · exact Or.inr (Or.inr (Or.inr (Or.inl ⟨rfl, _, _, _, rfl, Nat.le_of_ble_eq_true h1, by assumption, h2⟩)))
      · cases h2
    · cases e
  · split at e
    · obtain ⟨h1, h2⟩ := zcond e
      split at h2
      · obtain ⟨h3, h4⟩ := zck_inv h2
        split at h4
        · exact Or.inr (Or.inr (Or.inr (Or.inr (Or.inl ⟨rfl, _, _, _, _, _, rfl, Nat.le_of_ble_eq_true h1, by assumption, h3, by assumption, h4⟩))))
        · cases h4
      · cases h2
    · cases e
  · exact Or.inr (Or.inr (Or.inr (Or.inr (Or.inr ⟨rfl, e⟩))))
  · cases e
end ZINV
end
section
/-! the counters of cells and slots only grow -/
def zle (h h' : zH) : Prop := h.2.2.2.1 ≤ h'.2.2.2.1 ∧ h.2.2.2.2 ≤ h'.2.2.2.2
theorem zle_refl (h : zH) : zle h h := ⟨Nat.le_refl _, Nat.le_refl _⟩
theorem zle_trans {a b c : zH} (h1 : zle a b) (h2 : zle b c) : zle a c := ⟨Nat.le_trans h1.1 h2.1, Nat.le_trans h1.2 h2.2⟩
theorem zle_push (h : zH) (s : zS) (n : Nat) : zle h (zpush h s n) := ⟨Nat.le_succ _, Nat.le_add_right _ _⟩
def zMono (f : zF) : Prop := ∀ d mi pc ls st h r h', f d mi pc ls st h = some (r, h') → zle h h'
theorem zinv_mono {ih : zF} (IH : zMono ih) {nx : zLs → List Value → zH → Option zR} (hn : ∀ l s h r h', nx l s h = some (r, h') → zle h h') {d mi pc j : Nat} {tx : Bool} {ls : zLs} {st : List Value} {h h' : zH} {r : Option Value ⊕ Nat} (e : zinv ih nx d mi pc j tx ls st h = some (r, h')) : zle h h' := by
  obtain ⟨na, mL, stc, ci, rk, kd, as, r1, d', -, -, -, -, -, -, rfl, ⟨v, h1, e1, e2⟩ | ⟨-, -, x, h1, e1, ⟨hs, t, -, -, e2⟩ | ⟨-, e2⟩⟩⟩ := zinv_inv e
  · exact zle_trans (IH _ _ _ _ _ _ _ _ e1) (hn _ _ _ _ _ e2)
  · exact zle_trans (IH _ _ _ _ _ _ _ _ e1) (IH _ _ _ _ _ _ _ _ e2)
  · cases e2
    exact IH _ _ _ _ _ _ _ _ e1
theorem zpri_mono {nx : zLs → List Value → zH → Option zR} (hn : ∀ l s h r h', nx l s h = some (r, h') → zle h h') {kind : Nat} {ls : zLs} {st : List Value} {h h' : zH} {r : Option Value ⊕ Nat} (e : zpri nx kind ls st h = some (r, h')) : zle h h' := by
  rcases zpri_inv e with ⟨-, a, r1, -, -, e⟩ | ⟨-, x, y, r1, -, -, e⟩ | ⟨-, x, y, r1, -, -, e⟩ | ⟨-, i, r1, bs, -, -, -, e⟩ | ⟨-, j, i, r1, bs, b, -, -, -, -, -, e⟩ | ⟨-, e⟩
  · exact hn _ _ _ _ _ e
  · exact hn _ _ _ _ _ e
  · exact hn _ _ _ _ _ e
  · exact hn _ _ _ _ _ e
  · exact hn _ _ _ _ _ e
  · obtain ⟨n, dp, b, sp, a, r1, na, ra, nb, rb, -, -, -, -, -, -, -, -, -, e⟩ := zcopy_inv e
    have e := hn _ _ _ _ _ e
    exact e
set_option maxHeartbeats 4000000 in
theorem zins_mono {E : zE} {ih : zF} (IH : zMono ih) {d mi pc : Nat} {ls : zLs} {st : List Value} {h h' : zH} {ln a1 a2 a3 : Nat} {z : Int32} {ins : Instr} {r : Option Value ⊕ Nat} (e : zins E ih d mi pc ls st h ln a1 a2 a3 z ins = some (r, h')) : zle h h' := by
  have hn : ∀ l s h r h', ih d mi (pc + ln) l s h = some (r, h') → zle h h' := fun _ _ _ _ _ e => IH _ _ _ _ _ _ _ _ e
  have I : ∀ {p l s h r h'}, ih d mi p l s h = some (r, h') → zle h h' := fun e => IH _ _ _ _ _ _ _ _ e
  cases ins with
  | aconst_null =>
    exact I e
  | iconst n =>
    exact I e
  | bipush n =>
    exact I e
  | sipush n =>
    exact I e
  | lconst n =>
    exact I e
  | ldc2_w n =>
    exact I e
  | goto n =>
    exact I e
  | ldc n =>
    dsimp only [zins] at e
    split at e
    all_goals first | exact I e | cases e
  | ldc_w n =>
    dsimp only [zins] at e
    split at e
    all_goals first | exact I e | cases e
  | iload i =>
    dsimp only [zins] at e
    obtain ⟨x, -, e⟩ := zldI_inv e
    have e := I e
    exact e
  | iload_n i =>
    dsimp only [zins] at e
    obtain ⟨x, -, e⟩ := zldI_inv e
    have e := I e
    exact e
  | lload i =>
    dsimp only [zins] at e
    obtain ⟨x, -, e⟩ := zldJ_inv e
    have e := I e
    exact e
  | lload_n i =>
    dsimp only [zins] at e
    obtain ⟨x, -, e⟩ := zldJ_inv e
    have e := I e
    exact e
  | aload i =>
    dsimp only [zins] at e
    obtain ⟨v, -, -, e⟩ := zldA_inv e
    exact I e
  | aload_n i =>
    dsimp only [zins] at e
    obtain ⟨v, -, -, e⟩ := zldA_inv e
    exact I e
  | istore i =>
    dsimp only [zins] at e
    obtain ⟨x, r1, -, e⟩ := zstI_inv e
    have e := I e
    exact e
  | istore_n i =>
    dsimp only [zins] at e
    obtain ⟨x, r1, -, e⟩ := zstI_inv e
    have e := I e
    exact e
  | lstore i =>
    dsimp only [zins] at e
    obtain ⟨x, r1, -, e⟩ := zstJ_inv e
    have e := I e
    exact e
  | lstore_n i =>
    dsimp only [zins] at e
    obtain ⟨x, r1, -, e⟩ := zstJ_inv e
    have e := I e
    exact e
  | astore i =>
    dsimp only [zins] at e
    obtain ⟨v, r1, -, -, e⟩ := zstA_inv e
    exact I e
  | astore_n i =>
    dsimp only [zins] at e
    obtain ⟨v, r1, -, -, e⟩ := zstA_inv e
    exact I e
  | iinc i n =>
    dsimp only [zins] at e
    obtain ⟨x, -, e⟩ := zinc_inv e
    exact I e
  | iadd =>
    dsimp only [zins] at e
    obtain ⟨a, b, r1, -, e⟩ := zb2_inv e
    exact I e
  | isub =>
    dsimp only [zins] at e
    obtain ⟨a, b, r1, -, e⟩ := zb2_inv e
    exact I e
  | imul =>
    dsimp only [zins] at e
    obtain ⟨a, b, r1, -, e⟩ := zb2_inv e
    exact I e
  | iand =>
    dsimp only [zins] at e
    obtain ⟨a, b, r1, -, e⟩ := zb2_inv e
    exact I e
  | ior =>
    dsimp only [zins] at e
    obtain ⟨a, b, r1, -, e⟩ := zb2_inv e
    exact I e
  | ixor =>
    dsimp only [zins] at e
    obtain ⟨a, b, r1, -, e⟩ := zb2_inv e
    exact I e
  | ishl =>
    dsimp only [zins] at e
    obtain ⟨a, b, r1, -, e⟩ := zb2_inv e
    exact I e
  | ishr =>
    dsimp only [zins] at e
    obtain ⟨a, b, r1, -, e⟩ := zb2_inv e
    exact I e
  | iushr =>
    dsimp only [zins] at e
    obtain ⟨a, b, r1, -, e⟩ := zb2_inv e
    exact I e
  | ladd =>
    dsimp only [zins] at e
    obtain ⟨a, b, r1, -, e⟩ := zl2_inv e
    exact I e
  | lsub =>
    dsimp only [zins] at e
    obtain ⟨a, b, r1, -, e⟩ := zl2_inv e
    exact I e
  | lmul =>
    dsimp only [zins] at e
    obtain ⟨a, b, r1, -, e⟩ := zl2_inv e
    exact I e
  | land =>
    dsimp only [zins] at e
    obtain ⟨a, b, r1, -, e⟩ := zl2_inv e
    exact I e
  | lor =>
    dsimp only [zins] at e
    obtain ⟨a, b, r1, -, e⟩ := zl2_inv e
    exact I e
  | idiv =>
    dsimp only [zins] at e
    split at e
    · exact I (znz_inv e).2
    · cases e
  | irem =>
    dsimp only [zins] at e
    split at e
    · exact I (znz_inv e).2
    · cases e
  | ldiv =>
    dsimp only [zins] at e
    split at e
    · exact I (znzl_inv e).2
    · cases e
  | lcmp =>
    dsimp only [zins] at e
    split at e
    · exact I e
    · cases e
  | i2l =>
    dsimp only [zins] at e
    split at e
    · exact I e
    · cases e
  | l2i =>
    dsimp only [zins] at e
    split at e
    · exact I e
    · cases e
  | i2b =>
    dsimp only [zins] at e
    split at e
    · exact I e
    · cases e
  | dup =>
    dsimp only [zins] at e
    split at e
    · exact I (zcond e).2
    · cases e
  | dup2 =>
    dsimp only [zins] at e
    split at e
    · exact I (zcond e).2
    · cases e
  | pop =>
    dsimp only [zins] at e
    split at e
    · exact I (zcond e).2
    · cases e
  | ifCond c o =>
    dsimp only [zins] at e
    obtain ⟨x, r1, -, h1, h2⟩ := zif1_inv e
    by_cases hc : zc0 c x
    · exact I (h1 hc)
    · exact I (h2 hc)
  | if_icmp c o =>
    dsimp only [zins] at e
    obtain ⟨x, y, r1, -, h1, h2⟩ := zif2_inv e
    by_cases hc : zcc c x y
    · exact I (h1 hc)
    · exact I (h2 hc)
  | ifnull o =>
    dsimp only [zins] at e
    rcases znul_inv e with ⟨r1, -, e⟩ | ⟨a, r1, -, e⟩
    · exact I e
    · exact I e
  | ifnonnull o =>
    dsimp only [zins] at e
    rcases znul_inv e with ⟨r1, -, e⟩ | ⟨a, r1, -, e⟩
    · exact I e
    · exact I e
  | tableswitch a b c d =>
    dsimp only [zins] at e
    split at e
    · split at e
      · rcases zsw_inv e with ⟨t, -, e⟩ | ⟨-, e⟩
        · exact I e
        · exact I e
      · cases e
    · cases e
  | getfield i =>
    dsimp only [zins] at e
    obtain ⟨a, r1, sl, -, -, ⟨-, e⟩ | ⟨o, -, e⟩⟩ := zget_inv e
    · exact I e
    · exact I e
  | putfield i =>
    dsimp only [zins] at e
    rcases zput_inv e with ⟨y, a, r1, sl, -, -, -, -, e⟩ | ⟨b, a, r1, sl, o, -, -, -, e⟩
    · have e := I e
      exact e
    · have e := I e
      exact e
  | iaload =>
    dsimp only [zins] at e
    rcases zald_inv e with ⟨j, a, r1, n, rf, -, -, -, e⟩ | ⟨j, f, r1, -, -, e⟩
    · exact I e
    · exact I e
  | baload =>
    dsimp only [zins] at e
    obtain ⟨j, a, r1, n, rf, -, -, -, e⟩ := zaldB_inv e
    exact I e
  | laload =>
    dsimp only [zins] at e
    obtain ⟨j, a, r1, n, rf, -, -, -, e⟩ := zaldJ_inv e
    exact I e
  | aaload =>
    dsimp only [zins] at e
    obtain ⟨j, a, r1, t, n, rf, o, -, -, -, -, -, e⟩ := zaldA_inv e
    exact I e
  | iastore =>
    dsimp only [zins] at e
    obtain ⟨x, j, a, r1, n, rf, -, -, -, e⟩ := zast_inv e
    have e := I e
    exact e
  | bastore =>
    dsimp only [zins] at e
    obtain ⟨x, j, a, r1, n, rf, -, -, -, e⟩ := zastB_inv e
    have e := I e
    exact e
  | lastore =>
    dsimp only [zins] at e
    obtain ⟨x, j, a, r1, n, rf, -, -, -, e⟩ := zastJ_inv e
    have e := I e
    exact e
  | aastore =>
    dsimp only [zins] at e
    obtain ⟨b, j, a, r1, c, n, rf, sl, -, -, -, -, e⟩ := zastA_inv e
    have e := I e
    exact e
  | arraylength =>
    dsimp only [zins] at e
    rcases zalen_inv e with ⟨a, r1, t, n, rf, -, -, e⟩ | ⟨f, r1, -, e⟩
    · exact I e
    · exact I e
  | newarray t =>
    dsimp only [zins] at e
    obtain ⟨n, r1, -, -, -, e⟩ := znewa_inv e
    exact zle_trans (zle_push _ _ _) (I e)
  | anewarray t =>
    dsimp only [zins] at e
    obtain ⟨n, r1, -, -, -, e⟩ := znewa_inv e
    exact zle_trans (zle_push _ _ _) (I e)
  | new i =>
    dsimp only [zins] at e
    split at e
    · split at e
      · exact zle_trans (zle_push _ _ _) (I e)
      · cases e
    · have e := (zcond e).2
      cases e
      exact ⟨Nat.le_succ _, Nat.le_add_right _ _⟩
  | invokespecial i =>
    dsimp only [zins] at e
    split at e
    · exact zinv_mono IH hn e
    · exact zpri_mono hn e
  | invokevirtual i =>
    dsimp only [zins] at e
    split at e
    · exact zinv_mono IH hn e
    · exact zpri_mono hn e
  | invokestatic i =>
    dsimp only [zins] at e
    split at e
    · exact zinv_mono IH hn e
    · exact zpri_mono hn e
  | ireturn =>
    dsimp only [zins] at e
    split at e
    · split at e
      · cases e ; exact zle_refl _
      · have e := (zc01_inv e).2; cases e ; exact zle_refl _
      · cases e
    · cases e
  | return_ =>
    dsimp only [zins] at e
    split at e
    · split at e
      · cases e ; exact zle_refl _
      · cases e
    · cases e
  | _ =>
    exact absurd (show (none : Option zR) = some (r, h') from e) (fun z => nomatch z)
theorem zex_mono (E : zE) : ∀ n, zMono (zex E n)
  | 0 => fun _ _ _ _ _ _ _ _ e => nomatch (show (none : Option zR) = _ from e)
  | n + 1 => by
    intro d mi pc ls st h r h' e
    rw [zex_succ] at e
    unfold zbody at e
    split at e
    · cases e
    · exact zins_mono (zex_mono E n) e
theorem zfetch_ok {mi pc : Nat} {zi : ZI} (h : zfetch mi pc = some zi) : ∃ y cc mL q, zat zmn mi = some (y, cc, mL, q) ∧ zichk y.cls y.name cc mL pc zi = true := by
  unfold zfetch at h
  split at h
  · cases h
  · rename_i g hg
    split at h
    · cases h
    · rename_i cs hc
      split at h
      · cases h
      · rename_i l hl
        have h1 := zprog_ok _ _ hg
        have h2 : ∀ (g : List (List (List (Nat × ZI)))) (b i : Nat) (cs : List (List (Nat × ZI))), zgchk b g = true → zat g i = some cs → ∃ y cc mL q, zat zmn (b + i) = some (y, cc, mL, q) ∧ zmchk y.cls y.name cc mL cs = true := by
          intro g
          induction g with
          | nil => intro b i cs _ h; cases i <;> cases h
          | cons a g ih =>
            intro b i cs h1 h2
            simp only [zgchk, Bool.and_eq_true] at h1
            cases i with
            | zero =>
              cases (Option.some.inj (show some a = some cs from h2))
              have h3 := h1.1
              split at h3
              · rename_i y cc mL q hq
                exact ⟨y, cc, mL, q, hq, h3⟩
              · cases h3
            | succ i =>
              obtain ⟨y, cc, mL, q, h4, h5⟩ := ih (b + 1) i cs h1.2 h2
              exact ⟨y, cc, mL, q, by rw [← h4]; congr 1; omega, h5⟩
        obtain ⟨y, cc, mL, q, h3, h4⟩ := h2 g _ _ cs h1 hc
        refine ⟨y, cc, mL, q, by rw [← h3]; congr 1; exact (Nat.div_add_mod mi 16).symm, ?_⟩
        have h5 := List.all_eq_true.mp h4 l (by rw [zat_eq] at hl; exact List.mem_of_getElem? hl)
        have h6 : ∀ (l : List (Nat × ZI)), zlook l pc = some zi → (pc, zi) ∈ l := by
          intro l
          induction l with
          | nil => intro h; cases h
          | cons a l ih =>
            intro h
            obtain ⟨k, z⟩ := a
            unfold zlook at h
            cases hb : Nat.beq k pc with
            | true =>
              rw [hb] at h
              cases (Option.some.inj (show some z = some zi from h))
              rw [zbeq hb]
              exact List.mem_cons_self
            | false =>
              rw [hb] at h
              exact List.mem_cons_of_mem _ (ih h)
        have h5 := List.all_eq_true.mp (show l.all (fun p => zichk y.cls y.name cc mL p.1 p.2) = true from h5)
        have h7 := h5 (pc, zi) (h6 l h)
        exact h7
end
section
/-! THE MACHINE'S WORLD AND THE EVALUATOR'S -/
def zad (ws : va_W) (k a : Nat) : Prop := ∃ e, ws[k]? = some (a, e)
def zExt (ws ws' : va_W) : Prop := ∀ k a, zad ws k a → zad ws' k a
theorem zExt.rf (ws : va_W) : zExt ws ws := fun _ _ h => h
theorem zExt.tr {a b c : va_W} (h1 : zExt a b) (h2 : zExt b c) : zExt a c := fun k x h => h2 k x (h1 k x h)
theorem zExt.set {ws : va_W} {c a : Nat} {e0 e : va_E} (h : ws[c]? = some (a, e0)) : zExt ws (ws.set c (a, e)) := by
  intro k x ⟨e1, h1⟩
  by_cases hk : c = k
  · subst hk
    cases h.symm.trans h1
    exact ⟨e, by rw [List.getElem?_set_self (List.getElem?_eq_some_iff.mp h).1]⟩
  · exact ⟨e1, by rw [List.getElem?_set_ne hk]; exact h1⟩
theorem zExt.app (ws : va_W) (x : Nat × va_E) : zExt ws (ws ++ [x]) := by
  intro k a ⟨e, h⟩
  exact ⟨e, by rw [List.getElem?_append_left (List.getElem?_eq_some_iff.mp h).1]; exact h⟩
def zV (adK : Nat → Nat) (b : Nat) (ws : va_W) : Value → Value → Prop
  | .ref k, rv => ∃ a, zad ws k a ∧ rv = .ref a
  | .retAddr i, rv => rv = .ref (adK i)
  | .float _, rv => rv = .ref b
  | .double _, rv => ∃ q, rv = .ref q
  | .int x, rv => rv = .int x
  | .long x, rv => rv = .long x
  | .null, rv => rv = .null
theorem zV.mono {adK : Nat → Nat} {b : Nat} {ws ws' : va_W} (h : zExt ws ws') {v rv : Value} (hv : zV adK b ws v rv) : zV adK b ws' v rv := by
  cases v with
  | ref k => obtain ⟨a, h1, h2⟩ := hv; exact ⟨a, h k a h1, h2⟩
  | _ => exact hv
def zVs (adK : Nat → Nat) (b : Nat) (ws : va_W) : List Value → List Value → Prop
  | [], rst => rst = []
  | v :: st, rst => ∃ rv rs, rst = rv :: rs ∧ zV adK b ws v rv ∧ zVs adK b ws st rs
theorem zVs.mono {adK : Nat → Nat} {b : Nat} {ws ws' : va_W} (h : zExt ws ws') : ∀ {st rst : List Value}, zVs adK b ws st rst → zVs adK b ws' st rst
  | [], _, hv => hv
  | _ :: _, _, ⟨rv, rs, h1, h2, h3⟩ => ⟨rv, rs, h1, h2.mono h, h3.mono h⟩
theorem zVs.app {adK : Nat → Nat} {b : Nat} {ws : va_W} : ∀ {a r rst : List Value}, zVs adK b ws (a ++ r) rst → ∃ ra rr, rst = ra ++ rr ∧ zVs adK b ws a ra ∧ zVs adK b ws r rr
  | [], _, rst, h => ⟨[], rst, rfl, rfl, h⟩
  | v :: a, r, rst, ⟨rv, rs, h1, h2, h3⟩ => by
    obtain ⟨ra, rr, e1, e2, e3⟩ := zVs.app h3
    exact ⟨rv :: ra, rr, by rw [h1, e1]; rfl, ⟨rv, ra, rfl, h2, e2⟩, e3⟩
theorem zVs.join {adK : Nat → Nat} {b : Nat} {ws : va_W} : ∀ {a r ra rr : List Value}, zVs adK b ws a ra → zVs adK b ws r rr → zVs adK b ws (a ++ r) (ra ++ rr)
  | [], _, _, _, h1, h2 => by cases (show _ = [] from h1); exact h2
  | v :: a, r, _, rr, ⟨rv, rs, h1, h2, h3⟩, h4 => ⟨rv, rs ++ rr, by rw [h1]; rfl, h2, zVs.join h3 h4⟩
theorem zVs.rev {adK : Nat → Nat} {b : Nat} {ws : va_W} : ∀ {a ra : List Value}, zVs adK b ws a ra → zVs adK b ws a.reverse ra.reverse
  | [], _, h => by cases (show _ = [] from h); exact rfl
  | v :: a, _, ⟨rv, rs, h1, h2, h3⟩ => by
    rw [h1, List.reverse_cons, List.reverse_cons]
    exact zVs.join (zVs.rev h3) ⟨rv, [], rfl, h2, rfl⟩
theorem zVs.len {adK : Nat → Nat} {b : Nat} {ws : va_W} : ∀ {a ra : List Value}, zVs adK b ws a ra → ra.length = a.length
  | [], _, h => by cases (show _ = [] from h); rfl
  | v :: a, _, ⟨rv, rs, h1, h2, h3⟩ => by rw [h1, List.length_cons, List.length_cons, zVs.len h3]
theorem zV.cat {adK : Nat → Nat} {b : Nat} {ws : va_W} {v rv : Value} (h : zV adK b ws v rv) : rv.category = zcw v := by
  cases v with
  | ref k => obtain ⟨a, -, rfl⟩ := h; rfl
  | double x => obtain ⟨q, rfl⟩ := h; rfl
  | _ => cases h; rfl
theorem zV.cat1 {adK : Nat → Nat} {b : Nat} {ws : va_W} {v rv : Value} (h : zV adK b ws v rv) (h1 : zc1 v = true) : rv.category = 1 := by
  rw [h.cat]
  cases v <;> first | rfl | cases h1
theorem zVs.cats {adK : Nat → Nat} {b : Nat} {ws : va_W} : ∀ {a ra : List Value}, zVs adK b ws a ra → (ra.map fun v => v.category).sum = zsum a
  | [], _, h => by cases (show _ = [] from h); rfl
  | v :: a, _, ⟨rv, rs, h1, h2, h3⟩ => by
    rw [h1, List.map_cons, List.sum_cons, h2.cat, zVs.cats h3]
    rfl
/-- the locals -/
def zLr (adK : Nat → Nat) (b : Nat) (ws : va_W) (ls : zLs) (lv : List (Nat × Value)) : Prop := ∀ i v, zat ls i = some (some v) → ∃ rv, zV adK b ws v rv ∧ (i, rv) ∈ lv
theorem zLr.mono {adK : Nat → Nat} {b : Nat} {ws ws' : va_W} (h : zExt ws ws') {ls : zLs} {lv : List (Nat × Value)} (hl : zLr adK b ws ls lv) : zLr adK b ws' ls lv := fun i v hi => by
  obtain ⟨rv, h1, h2⟩ := hl i v hi
  exact ⟨rv, h1.mono h, h2⟩
theorem zstl_at : ∀ {ls : zLs} {i j : Nat} {v u : Value}, zat (zstl ls i v) j = some (some u) → (j = i ∧ u = v) ∨ (j ≠ i ∧ zat ls j = some (some u) ∧ (j + 1 = i → ∀ x, u ≠ .long x))
  | [], _, _, _, _, h => by simp [zstl, zat] at h
  | o :: l, 0, 0, v, u, h => by
    simp only [zstl, zat, Option.some.injEq] at h
    exact Or.inl ⟨rfl, h.symm⟩
  | o :: l, 0, j + 1, v, u, h => Or.inr ⟨by omega, h, fun z => by omega⟩
  | o :: l, i + 1, 0, v, u, h => by
    simp only [zstl, zat, Option.some.injEq] at h
    refine Or.inr ⟨by omega, ?_, fun z => ?_⟩
    · cases i with
      | zero =>
        unfold zkl at h
        dsimp only at h
        split at h
        · cases h
        · simp only [zat]; rw [h]
      | succ i =>
        simp only [zkl] at h
        simp only [zat]; rw [h]
    · have : i = 0 := by omega
      subst this
      intro x hx
      subst hx
      unfold zkl at h
      dsimp only at h
      split at h
      · cases h
      · rename_i h9
        exact h9 x h
  | o :: l, i + 1, j + 1, v, u, h => by
    rcases zstl_at (show zat (zstl l i v) j = some (some u) from h) with ⟨h1, h2⟩ | ⟨h1, h2, h3⟩
    · exact Or.inl ⟨by omega, h2⟩
    · exact Or.inr ⟨by omega, h2, fun z => h3 (by omega)⟩
theorem zLr.st {adK : Nat → Nat} {b : Nat} {ws : va_W} {ls : zLs} {lv lv' : List (Nat × Value)} (hl : zLr adK b ws ls lv) {i : Nat} {v rv : Value} (hv : zV adK b ws v rv)
    (he : (i, rv) :: lv.filter (fun q => !(q.1 == i) && !(q.1 + 1 == i && q.2.category == 2)) = lv') : zLr adK b ws (zstl ls i v) lv' := by
  intro j u hj
  rcases zstl_at hj with ⟨rfl, rfl⟩ | ⟨h1, h2, h3⟩
  · exact ⟨rv, hv, by rw [← he]; exact List.mem_cons_self⟩
  · obtain ⟨ru, h4, h5⟩ := hl j u h2
    subst he
    refine ⟨ru, h4, List.mem_cons_of_mem _ (List.mem_filter.mpr ⟨h5, ?_⟩)⟩
    have e1 : (j == i) = false := by simp [h1]
    dsimp only
    rw [e1]
    by_cases h6 : j + 1 = i
    · have h7 := h3 h6
      have h8 : ru.category = 1 := h4.cat1 (by cases u <;> first | rfl | exact absurd rfl (h7 _))
      rw [h8]
      simp
    · have e2 : (j + 1 == i) = false := by simp [h6]
      rw [e2]
      rfl
theorem zLr.stJ {adK : Nat → Nat} {b : Nat} {ws : va_W} {ls : zLs} {lv lv' : List (Nat × Value)} (hl : zLr adK b ws ls lv) {i : Nat} {v rv : Value} (hv : zV adK b ws v rv)
    (he : (i, rv) :: lv.filter (fun q => !(q.1 == i) && (!(q.1 == i + 1) && !(q.1 + 1 == i && q.2.category == 2))) = lv') : zLr adK b ws (zset (zstl ls i v) (i + 1) none) lv' := by
  intro j u hj
  rw [zset_eq, zat_eq] at hj
  by_cases hji : j = i + 1
  · subst hji
    rw [List.getElem?_set] at hj
    simp only [if_true] at hj
    split at hj <;> cases hj
  · rw [List.getElem?_set_ne (fun z => hji z.symm), ← zat_eq] at hj
    rcases zstl_at hj with ⟨rfl, rfl⟩ | ⟨h1, h2, h3⟩
    · exact ⟨rv, hv, by rw [← he]; exact List.mem_cons_self⟩
    · obtain ⟨ru, h4, h5⟩ := hl j u h2
      subst he
      refine ⟨ru, h4, List.mem_cons_of_mem _ (List.mem_filter.mpr ⟨h5, ?_⟩)⟩
      have e1 : (j == i) = false := by simp [h1]
      have e3 : (j == i + 1) = false := by simp [hji]
      dsimp only
      rw [e1, e3]
      by_cases h6 : j + 1 = i
      · have h7 := h3 h6
        have h8 : ru.category = 1 := h4.cat1 (by cases u <;> first | rfl | exact absurd rfl (h7 _))
        rw [h8]
        simp
      · have e2 : (j + 1 == i) = false := by simp [h6]
        rw [e2]
        rfl
def zkind : FieldType → Option (Option Nat) → Bool
  | .int, none => true
  | .boolean, none => true
  | .object _, some _ => true
  | .array _, some _ => true
  | _, _ => false
/-- a cell -/
def zErel (tys : List (ClassId × FieldType)) (ws : va_W) (sh : zS) (vc : Nat → Int32) (wc : Nat → Int64) (e : va_E) : Prop := match sh with
  | .inl (t, n, rf) => ∃ cA, (cA, zaty t) ∈ tys ∧ (match t with
    | 0 => e = .inl (cA, n, .inl vc)
    | 1 => e = .inl (cA, n, .inl vc)
    | 2 => e = .inl (cA, n, .inr (.inl wc))
    | _ => ∃ g, t < 5 ∧ e = .inl (cA, n, .inr (.inr (.inr (.inr g)))) ∧ ∀ j o, zat rf j = some o → match o with
      | none => g j = none
      | some k => ∃ a, zad ws k a ∧ g j = some a)
  | .inr (.inl (ci, sl)) => ∃ fs, e = .inr (ci, fs) ∧ ∀ k o, zat sl k = some o → ∃ rv, fs[k]? = some rv ∧ zkind (zcty ci k) o = true ∧ match o with
    | none => rv = .int (vc k)
    | some none => rv = .null
    | some (some r) => ∃ a, zad ws r a ∧ rv = .ref a
  | .inr (.inr _) => False
theorem zErel.mono {tys tys' : List (ClassId × FieldType)} {ws ws' : va_W} (h : zExt ws ws') (ht : ∀ q ∈ tys, q ∈ tys') {sh : zS} {vc : Nat → Int32} {wc : Nat → Int64} {e : va_E} (he : zErel tys ws sh vc wc e) : zErel tys' ws' sh vc wc e := by
  match sh, he with
  | .inl (0, n, rf), ⟨cA, h1, h2⟩ => exact ⟨cA, ht _ h1, h2⟩
  | .inl (1, n, rf), ⟨cA, h1, h2⟩ => exact ⟨cA, ht _ h1, h2⟩
  | .inl (2, n, rf), ⟨cA, h1, h2⟩ => exact ⟨cA, ht _ h1, h2⟩
  | .inl (t + 3, n, rf), ⟨cA, h1, g, h0, h2, h3⟩ =>
    refine ⟨cA, ht _ h1, g, h0, h2, fun j o hj => ?_⟩
    have h4 := h3 j o hj
    cases o with
    | none => exact h4
    | some k => obtain ⟨a, h5, h6⟩ := h4; exact ⟨a, h k a h5, h6⟩
  | .inr (.inl (ci, sl)), ⟨fs, h1, h2⟩ =>
    refine ⟨fs, h1, fun k o hk => ?_⟩
    obtain ⟨rv, h3, h9, h4⟩ := h2 k o hk
    refine ⟨rv, h3, h9, ?_⟩
    match o, h4 with
    | none, h4 => exact h4
    | some none, h4 => exact h4
    | some (some r), ⟨a, h5, h6⟩ => exact ⟨a, h r a h5, h6⟩
def zRel (tys : List (ClassId × FieldType)) (ws : va_W) (h : zH) : Prop := ws.length = h.1.length ∧ ∀ c sh, zat h.1 c = some sh → ∃ a e, ws[c]? = some (a, e) ∧ zErel tys ws sh (h.2.1 c) (h.2.2.1 c) e
theorem zRel.setI {tys : List (ClassId × FieldType)} {ws : va_W} {h : zH} (hR : zRel tys ws h) {c a : Nat} {e0 e : va_E} {sh : zS} (hc : zat h.1 c = some sh) (hw : ws[c]? = some (a, e0)) {f : Nat → Int32} (he : zErel tys ws sh f (h.2.2.1 c) e) : zRel tys (ws.set c (a, e)) (zsetI h c f) := by
  refine ⟨by rw [List.length_set]; exact hR.1, fun k s' hk => ?_⟩
  have X := zExt.set (e := e) hw
  by_cases hkc : k = c
  · subst hkc
    cases hc.symm.trans (show zat h.1 k = some s' from hk)
    exact ⟨a, e, by rw [List.getElem?_set_self (List.getElem?_eq_some_iff.mp hw).1], by
      show zErel _ _ _ (zrow h.2.1 k f k) _ _
      rw [zrow_at]; exact he.mono X (fun _ z => z)⟩
  · obtain ⟨a', e', h1, h2⟩ := hR.2 k s' hk
    exact ⟨a', e', by rw [List.getElem?_set_ne (fun z => hkc z.symm)]; exact h1, by
      show zErel _ _ _ (zrow h.2.1 c f k) _ _
      rw [zrow_ne _ _ hkc]; exact h2.mono X (fun _ z => z)⟩
theorem zRel.setJ {tys : List (ClassId × FieldType)} {ws : va_W} {h : zH} (hR : zRel tys ws h) {c a : Nat} {e0 e : va_E} {sh : zS} (hc : zat h.1 c = some sh) (hw : ws[c]? = some (a, e0)) {f : Nat → Int64} (he : zErel tys ws sh (h.2.1 c) f e) : zRel tys (ws.set c (a, e)) (zsetJ h c f) := by
  refine ⟨by rw [List.length_set]; exact hR.1, fun k s' hk => ?_⟩
  have X := zExt.set (e := e) hw
  by_cases hkc : k = c
  · subst hkc
    cases hc.symm.trans (show zat h.1 k = some s' from hk)
    exact ⟨a, e, by rw [List.getElem?_set_self (List.getElem?_eq_some_iff.mp hw).1], by
      show zErel _ _ _ _ (zrow h.2.2.1 k f k) _
      rw [zrow_at]; exact he.mono X (fun _ z => z)⟩
  · obtain ⟨a', e', h1, h2⟩ := hR.2 k s' hk
    exact ⟨a', e', by rw [List.getElem?_set_ne (fun z => hkc z.symm)]; exact h1, by
      show zErel _ _ _ _ (zrow h.2.2.1 c f k) _
      rw [zrow_ne _ _ hkc]; exact h2.mono X (fun _ z => z)⟩
theorem zRel.setS {tys : List (ClassId × FieldType)} {ws : va_W} {h : zH} (hR : zRel tys ws h) {c a : Nat} {e0 e : va_E} {sh : zS} (hw : ws[c]? = some (a, e0)) (he : zErel tys ws sh (h.2.1 c) (h.2.2.1 c) e) : zRel tys (ws.set c (a, e)) (zsetS h c sh) := by
  refine ⟨by rw [List.length_set]; show _ = (zset h.1 c sh).length; rw [zset_eq, List.length_set]; exact hR.1, fun k s' hk => ?_⟩
  have X := zExt.set (e := e) hw
  have hk : zat (zset h.1 c sh) k = some s' := hk
  rw [zset_eq, zat_eq] at hk
  by_cases hkc : k = c
  · subst hkc
    have hlt : k < h.1.length := by rw [← hR.1]; exact (List.getElem?_eq_some_iff.mp hw).1
    rw [List.getElem?_set_self hlt] at hk
    cases hk
    exact ⟨a, e, by rw [List.getElem?_set_self (List.getElem?_eq_some_iff.mp hw).1], he.mono X (fun _ z => z)⟩
  · rw [List.getElem?_set_ne (fun z => hkc z.symm), ← zat_eq] at hk
    obtain ⟨a', e', h1, h2⟩ := hR.2 k s' hk
    exact ⟨a', e', by rw [List.getElem?_set_ne (fun z => hkc z.symm)]; exact h1, h2.mono X (fun _ z => z)⟩
theorem zRel.push {tys tys' : List (ClassId × FieldType)} {ws : va_W} {h : zH} (hR : zRel tys ws h) (ht : ∀ q ∈ tys, q ∈ tys') {a n : Nat} {e : va_E} {sh : zS} (he : zErel tys' (ws ++ [(a, e)]) sh (fun _ => 0) (fun _ => 0) e) : zRel tys' (ws ++ [(a, e)]) (zpush h sh n) := by
  refine ⟨by rw [List.length_append]; show _ = (h.1 ++ [sh]).length; rw [List.length_append, hR.1]; rfl, fun k s' hk => ?_⟩
  have X := zExt.app ws (a, e)
  have hk : zat (h.1 ++ [sh]) k = some s' := hk
  rw [zat_eq] at hk
  by_cases hkc : k < h.1.length
  · rw [List.getElem?_append_left hkc, ← zat_eq] at hk
    obtain ⟨a', e', h1, h2⟩ := hR.2 k s' hk
    refine ⟨a', e', by rw [List.getElem?_append_left (by rw [hR.1]; exact hkc)]; exact h1, ?_⟩
    show zErel _ _ _ (zrow h.2.1 h.1.length _ k) (zrow h.2.2.1 h.1.length _ k) _
    rw [zrow_ne _ _ (Nat.ne_of_lt hkc), zrow_ne _ _ (Nat.ne_of_lt hkc)]
    exact h2.mono X ht
  · have hk2 : k = h.1.length := by
      have := (List.getElem?_eq_some_iff.mp hk).1
      rw [List.length_append] at this
      simp at this
      omega
    subst hk2
    rw [List.getElem?_append_right (Nat.le_refl _), Nat.sub_self] at hk
    cases hk
    refine ⟨a, e, by rw [← hR.1, List.getElem?_append_right (Nat.le_refl _), Nat.sub_self]; rfl, ?_⟩
    show zErel _ _ _ (zrow h.2.1 h.1.length _ h.1.length) (zrow h.2.2.1 h.1.length _ h.1.length) _
    rw [zrow_at, zrow_at]
    exact he
end
section
/-! WHAT STANDS BELOW THE LAW'S OWN CELLS: the tables' words, the String constants, some statics, the script -/
def zA (z0 : Nat) : Nat → Prop := fun q => z0 ≤ q
def zgw : Jvm.Cond → Bool
  | .fieldLinkNest .. => true
  | .methodLinkNest .. => true
  | .castable a b => decide (a = b)
  | w => goodWord w
def zTW (U : State) : Prop := ∀ w ∈ lw_tbl, zgw w = true → ∀ a, w.before a U = true
theorem zcast_of {X : String} {U : State} {a : Array Value} {c : ClassId} (h : U.vm.findClass X = some c) : (Jvm.Cond.castable X X).before a U = true := by
  simp [Cond.before, Cond.holds, Cond.value, h, va_asg]
theorem zgw_warm {s U : State} (hW : s.WarmedH U.vm) {w : Jvm.Cond} (hg : zgw w = true) {a a' : Array Value} (h : w.before a s = true) : w.before a' U = true := by
  unfold zgw at hg
  split at hg
  · exact va_Nw.use rfl (va_Nw.warmF hW (va_Nw.of rfl h))
  · exact va_Nw.use rfl (va_Nw.warmM hW (va_Nw.of rfl h))
  · have hg := of_decide_eq_true hg
    subst hg
    obtain ⟨c3, c4, h1, h2, h3⟩ := Cond.castable_spec h
    exact zcast_of (c := c3) (by rw [hW.alike.findClass]; exact h1)
  · exact word_at hW (good_of_word hg) h
theorem zTW.of {s : State} {args : Array Value} (h : ∀ w ∈ lw_tbl, w.before args s = true) : zTW s := fun w hw hg a => zgw_warm (State.WarmedH.refl s) hg (h w hw)
theorem zTW.warm {s U : State} (hW : s.WarmedH U.vm) (h : zTW s) : zTW U := fun w hw hg a => zgw_warm hW hg (h w hw hg #[])
theorem zTW.use {s : State} (h : zTW s) {i : Nat} {w : Jvm.Cond} (hi : zwd i w = true) (hg : zgw w = true) {a : Array Value} : w.before a s = true := by
  have h1 := of_decide_eq_true hi
  rw [zat_eq] at h1
  exact h w (List.mem_of_getElem? h1) hg a
/-- a String constant: a byte row of its own, never written -/
def zStr (A : Nat → Prop) (U : State) (H : Heap) (bs : List Int32) (a : Nat) : Prop := ∃ t, va_O "java/lang/String" a A U H ∧ va_OF "java/lang/String" "coder" "B" (.int 0) a A U H ∧ va_OF "java/lang/String" "value" "[B" (.ref t) a A U H ∧ va_T .byte t bs.length (fun j => .int (bs.getD j 0)) A U H
def zxnm : List String := ["java/lang/RuntimeException", "java/lang/Exception"]
def zEW (adK : Nat → Nat) (b z0 : Nat) (E : zE) (U : State) (H : Heap) : Prop :=
  zTW U ∧ (∀ i o k tx, zat zsref i = some (o, k, tx) → vk_R o k tx (adK i) U) ∧ (∀ i bs, zat zstrs i = some bs → zStr (zA z0) U H bs (adK i)) ∧
  (vx_Zq Bundle.tN "UNASSIGNED_STACK" Bundle.steD (zA z0) U H ∧ vx_Zq Bundle.tN "SUPPRESSED_SENTINEL" Bundle.listD (zA z0) U H) ∧
  (va_Z "java/lang/String" "COMPACT_STRINGS" "Z" (.int 1) (zA z0) U H ∧ va_Zq "jdk/internal/util/Preconditions" "SIOOBE_FORMATTER" "Ljava/util/function/BiFunction;" (zA z0) U H) ∧
  va_X b E.1 E.2 U H ∧ b < z0 ∧ (∀ x y X Y, zat zxn x = some X → zat zxn y = some Y → x ≠ y → va_Nc X Y U) ∧ z0 ≤ H.size
theorem zStr.go {A : Nat → Prop} {s U : State} {H H' : Heap} {bs : List Int32} {a : Nat} (hv : s.vm.Alike U.vm) (hq : ∀ a : Nat, a < H.size → ¬ A a → H'[a]? = H[a]?) (h : zStr A s H bs a) : zStr A U H' bs a := by
  obtain ⟨t, h1, h2, h3, h4⟩ := h
  exact ⟨t, (va_O.moved hv h1).kept hq, (va_OF.moved hv h2).kept hq, (va_OF.moved hv h3).kept hq, (va_T.moved hv h4).kept hq⟩
theorem zEW.go {adK : Nat → Nat} {b z0 : Nat} {E : zE} {s U : State} {H H' : Heap} (hW : s.WarmedH U.vm) (hz : H.size ≤ H'.size) (hq : ∀ a : Nat, a < H.size → ¬ zA z0 a → H'[a]? = H[a]?) (h : zEW adK b z0 E s H) : zEW adK b z0 E U H' := by
  obtain ⟨h1, h2, h3, ⟨h4, h5⟩, ⟨h6, h7⟩, h8, h9, h10, h11⟩ := h
  have hv := hW.alike
  refine ⟨h1.warm hW, fun i o k tx hi => vk_R.warm hW (h2 i o k tx hi), fun i bs hi => (h3 i bs hi).go hv hq, ⟨(vx_Zq.moved hv h4).kept hq, (vx_Zq.moved hv h5).kept hq⟩, ⟨(va_Z.moved hv h6).kept hq, (va_Zq.moved hv h7).kept hq⟩, ?_, h9, fun x y X Y hx hy hn => (h10 x y X Y hx hy hn).moved hv, Nat.le_trans h11 hz⟩
  exact (va_X.moved hv h8).kept (hq b (Nat.lt_of_lt_of_le h9 h11) (Nat.not_le.mpr h9))
/-- the frame of a method of the table -/
def zFr (p : Program) (s : State) (m : MethodId) (meth : Method) (c : Code) (y : MethodName) (cc : ByteArray) (mL : Nat) (ret : Option FieldType) (hh : List (Nat × Nat × Nat × Nat)) : Prop :=
  p.tables.exec = Jvm.exec ∧ c.code = cc ∧ meth.sig.returnType = ret ∧ c.maxLocals = mL ∧ s.vm.findClass y.cls = some m.cls ∧ meth.locks = false ∧ meth.name = y.name ∧ c.exceptionTable.toList = tableOf hh
def zVo (adK : Nat → Nat) (b : Nat) (ws : va_W) : Option Value → Option Value → Prop
  | none, rv => rv = none
  | some v, rv => ∃ x, rv = some x ∧ zV adK b ws v x
/-- what a method answers, and the world behind it -/
def zEnd (D : va_G) (z0 : Nat) (ws0 : va_W) (tys : List (ClassId × FieldType)) (ws : va_W) (h : zH) (st t : State) : Prop :=
  zExt ws0 ws ∧ va_K D vwCl tys t ∧ va_P D vwCl ws t.heap ∧ va_D (zA z0) ws ∧ zRel tys ws h ∧ va_F (zA z0) st t
def zQc (D : va_G) (adK : Nat → Nat) (b z0 : Nat) (ws0 : va_W) (r : Option Value ⊕ Nat) (h : zH) : Array Value → State → Outcome → State → Prop := fun _ st o t =>
  ∃ v rv tys ws, r = .inl v ∧ o = .returned rv ∧ zVo adK b ws v rv ∧ zEnd D z0 ws0 tys ws h st t
def zXC (D : va_G) (z0 : Nat) (ws0 : va_W) (r : Option Value ⊕ Nat) (h : zH) : String → State → State → Prop := fun X st t =>
  ∃ x tys ws, r = .inr x ∧ zat zxn x = some X ∧ zEnd D z0 ws0 tys ws h st t
def zRm (d : Nat) (mc ms : Nat) : Room := { frames := d + 10, cells := mc, slots := ms, locals := 64 * d + 300 }
section ZWK
variable (p : Program) (l : Launch) (e : Env) (R : Room) (s : State) (m : MethodId) (args : Array Value) (below : List Frame) (meth : Method) (c : Code)
/-- from here on the machine does what the evaluator answers -/
def zGo (D : va_G) (adK : Nat → Nat) (b z0 mL : Nat) (ws0 : va_W) (mc ms : Nat) (r : Option Value ⊕ Nat) (h' : zH) (pc : Nat) (ls : zLs) (st : List Value) (h : zH) : Prop :=
  ∀ (H : Heap) (locs : List Loc) (cells slots : Nat) (tys : List (ClassId × FieldType)) (ws : va_W) (rst : List Value) (LS : Array Slot) (lv : List (Nat × Value)),
    cells + h'.2.2.2.1 ≤ mc + h.2.2.2.1 → slots + h'.2.2.2.2 ≤ ms + h.2.2.2.2 → va_K D vwCl tys s → va_P D vwCl ws H → va_D (zA z0) ws → va_S (zA z0) s.heap H locs → zRel tys ws h → zExt ws0 ws → zVs adK b ws st rst → zLr adK b ws ls lv → lv_has LS mL lv →
    W p l e R s m args below meth c H locs cells slots (vx_MQ below (zQc D adK b z0 ws0 r h') (zXC D z0 ws0 r h') args s mc ms (zA z0)) (F0 m pc LS rst)
end ZWK
/-- the whole of it: for a function that may stand for the evaluator -/
def zWk (l : Launch) (D : va_G) (adK : Nat → Nat) (b z0 : Nat) (E : zE) (f : zF) : Prop :=
  ∀ d mi pc ls st h r h', f d mi pc ls st h = some (r, h') →
  ∀ (p : Program) (e : Env) (R : Room) (s : State) (m : MethodId) (args : Array Value) (below : List Frame) (meth : Method) (c : Code) (y : MethodName) (cc : ByteArray) (mL : Nat) (ret : Option FieldType) (hh : List (Nat × Nat × Nat × Nat)) (q : Nat × Nat × Nat × Nat) (ws0 : va_W) (mc ms : Nat),
    zat zmn mi = some (y, cc, mL, ret, hh, q) → zFr p s m meth c y cc mL ret hh → zEW adK b z0 E s s.heap → d + 10 ≤ R.frames → 64 * d + 300 ≤ R.locals → mc ≤ R.cells → ms ≤ R.slots →
    zGo p l e R s m args below meth c D adK b z0 mL ws0 mc ms r h' pc ls st h
end
section
/-! String.length() and charAt() of a constant -/
def zy_pc : MethodName := ⟨"jdk/internal/util/Preconditions", "checkIndex", "(IILjava/util/function/BiFunction;)I"⟩
abbrev zb_pc : ByteArray := prog_33_method_11_code
def zy_ci : MethodName := ⟨"java/lang/String", "checkIndex", "(II)V"⟩
abbrev zb_ci : ByteArray := prog_24_method_155_code
def zy_lc : MethodName := ⟨"java/lang/StringLatin1", "charAt", "([BI)C"⟩
abbrev zb_lc : ByteArray := prog_25_method_2_code
def zy_il : MethodName := ⟨"java/lang/String", "isLatin1", "()Z"⟩
abbrev zb_il : ByteArray := prog_24_method_154_code
def zy_co : MethodName := ⟨"java/lang/String", "coder", "()B"⟩
abbrev zb_co : ByteArray := prog_24_method_152_code
def zy_le : MethodName := ⟨"java/lang/String", "length", "()I"⟩
abbrev zb_le : ByteArray := prog_24_method_54_code
def zy_ch : MethodName := ⟨"java/lang/String", "charAt", "(I)C"⟩
abbrev zb_ch : ByteArray := prog_24_method_56_code
theorem zd_pc_0 : decode zb_pc 0 = .ok (.iload_n 0, 1) := by decide +kernel
theorem zd_pc_1 : decode zb_pc 1 = .ok (.ifCond .lt 8, 3) := by decide +kernel
theorem zd_pc_4 : decode zb_pc 4 = .ok (.iload_n 0, 1) := by decide +kernel
theorem zd_pc_5 : decode zb_pc 5 = .ok (.iload_n 1, 1) := by decide +kernel
theorem zd_pc_6 : decode zb_pc 6 = .ok (.if_icmp .lt 10, 3) := by decide +kernel
theorem zd_pc_9 : decode zb_pc 9 = .ok (.aload_n 2, 1) := by decide +kernel
theorem zd_pc_10 : decode zb_pc 10 = .ok (.iload_n 0, 1) := by decide +kernel
theorem zd_pc_11 : decode zb_pc 11 = .ok (.iload_n 1, 1) := by decide +kernel
theorem zd_pc_12 : decode zb_pc 12 = .ok (.invokestatic 95, 3) := by decide +kernel
theorem zd_pc_15 : decode zb_pc 15 = .ok (.athrow, 1) := by decide +kernel
theorem zd_pc_16 : decode zb_pc 16 = .ok (.iload_n 0, 1) := by decide +kernel
theorem zd_pc_17 : decode zb_pc 17 = .ok (.ireturn, 1) := by decide +kernel
theorem zd_ci_0 : decode zb_ci 0 = .ok (.iload_n 0, 1) := by decide +kernel
theorem zd_ci_1 : decode zb_ci 1 = .ok (.iload_n 1, 1) := by decide +kernel
theorem zd_ci_2 : decode zb_ci 2 = .ok (.getstatic 1053, 3) := by decide +kernel
theorem zd_ci_5 : decode zb_ci 5 = .ok (.invokestatic 1059, 3) := by decide +kernel
theorem zd_ci_8 : decode zb_ci 8 = .ok (.pop, 1) := by decide +kernel
theorem zd_ci_9 : decode zb_ci 9 = .ok (.return_, 1) := by decide +kernel
theorem zd_lc_0 : decode zb_lc 0 = .ok (.iload_n 1, 1) := by decide +kernel
theorem zd_lc_1 : decode zb_lc 1 = .ok (.aload_n 0, 1) := by decide +kernel
theorem zd_lc_2 : decode zb_lc 2 = .ok (.arraylength, 1) := by decide +kernel
theorem zd_lc_3 : decode zb_lc 3 = .ok (.invokestatic 9, 3) := by decide +kernel
theorem zd_lc_6 : decode zb_lc 6 = .ok (.aload_n 0, 1) := by decide +kernel
theorem zd_lc_7 : decode zb_lc 7 = .ok (.iload_n 1, 1) := by decide +kernel
theorem zd_lc_8 : decode zb_lc 8 = .ok (.baload, 1) := by decide +kernel
theorem zd_lc_9 : decode zb_lc 9 = .ok (.sipush 255, 3) := by decide +kernel
theorem zd_lc_12 : decode zb_lc 12 = .ok (.iand, 1) := by decide +kernel
theorem zd_lc_13 : decode zb_lc 13 = .ok (.i2c, 1) := by decide +kernel
theorem zd_lc_14 : decode zb_lc 14 = .ok (.ireturn, 1) := by decide +kernel
theorem zd_il_0 : decode zb_il 0 = .ok (.getstatic 38, 3) := by decide +kernel
theorem zd_il_3 : decode zb_il 3 = .ok (.ifCond .eq 14, 3) := by decide +kernel
theorem zd_il_6 : decode zb_il 6 = .ok (.aload_n 0, 1) := by decide +kernel
theorem zd_il_7 : decode zb_il 7 = .ok (.getfield 15, 3) := by decide +kernel
theorem zd_il_10 : decode zb_il 10 = .ok (.ifCond .ne 7, 3) := by decide +kernel
theorem zd_il_13 : decode zb_il 13 = .ok (.iconst 1, 1) := by decide +kernel
theorem zd_il_14 : decode zb_il 14 = .ok (.goto 4, 3) := by decide +kernel
theorem zd_il_17 : decode zb_il 17 = .ok (.iconst 0, 1) := by decide +kernel
theorem zd_il_18 : decode zb_il 18 = .ok (.ireturn, 1) := by decide +kernel
theorem zd_co_0 : decode zb_co 0 = .ok (.getstatic 38, 3) := by decide +kernel
theorem zd_co_3 : decode zb_co 3 = .ok (.ifCond .eq 10, 3) := by decide +kernel
theorem zd_co_6 : decode zb_co 6 = .ok (.aload_n 0, 1) := by decide +kernel
theorem zd_co_7 : decode zb_co 7 = .ok (.getfield 15, 3) := by decide +kernel
theorem zd_co_10 : decode zb_co 10 = .ok (.goto 4, 3) := by decide +kernel
theorem zd_co_13 : decode zb_co 13 = .ok (.iconst 1, 1) := by decide +kernel
theorem zd_co_14 : decode zb_co 14 = .ok (.ireturn, 1) := by decide +kernel
theorem zd_le_0 : decode zb_le 0 = .ok (.aload_n 0, 1) := by decide +kernel
theorem zd_le_1 : decode zb_le 1 = .ok (.getfield 9, 3) := by decide +kernel
theorem zd_le_4 : decode zb_le 4 = .ok (.arraylength, 1) := by decide +kernel
theorem zd_le_5 : decode zb_le 5 = .ok (.aload_n 0, 1) := by decide +kernel
theorem zd_le_6 : decode zb_le 6 = .ok (.invokevirtual 335, 3) := by decide +kernel
theorem zd_le_9 : decode zb_le 9 = .ok (.ishr, 1) := by decide +kernel
theorem zd_le_10 : decode zb_le 10 = .ok (.ireturn, 1) := by decide +kernel
theorem zd_ch_0 : decode zb_ch 0 = .ok (.aload_n 0, 1) := by decide +kernel
theorem zd_ch_1 : decode zb_ch 1 = .ok (.invokevirtual 492, 3) := by decide +kernel
theorem zd_ch_4 : decode zb_ch 4 = .ok (.ifCond .eq 12, 3) := by decide +kernel
theorem zd_ch_7 : decode zb_ch 7 = .ok (.aload_n 0, 1) := by decide +kernel
theorem zd_ch_8 : decode zb_ch 8 = .ok (.getfield 9, 3) := by decide +kernel
theorem zd_ch_11 : decode zb_ch 11 = .ok (.iload_n 1, 1) := by decide +kernel
theorem zd_ch_12 : decode zb_ch 12 = .ok (.invokestatic 495, 3) := by decide +kernel
theorem zd_ch_15 : decode zb_ch 15 = .ok (.ireturn, 1) := by decide +kernel
theorem zd_ch_16 : decode zb_ch 16 = .ok (.aload_n 0, 1) := by decide +kernel
theorem zd_ch_17 : decode zb_ch 17 = .ok (.getfield 9, 3) := by decide +kernel
theorem zd_ch_20 : decode zb_ch 20 = .ok (.iload_n 1, 1) := by decide +kernel
theorem zd_ch_21 : decode zb_ch 21 = .ok (.invokestatic 498, 3) := by decide +kernel
theorem zd_ch_24 : decode zb_ch 24 = .ok (.ireturn, 1) := by decide +kernel
theorem zin (i : Nat) {w : Jvm.Cond} (h : lw_tbl[i]? = some w) : w ∈ lw_tbl := List.mem_of_getElem? h
def zQn : Array Value → State → Outcome → State → Prop := fun _ st o t => o = .returned none ∧ t.heap = st.heap
section ZSTR
variable {p : Program} {l : Launch} {e : Env} {R : Room} {s : State} {m : MethodId} {args : Array Value} {below : List Frame} {meth : Method} {c : Code} {H : Heap} {locs : List Loc} {cells slots : Nat} {Q : State → Prop}
theorem zcallN {g : JFrame} {rest : List Value} {a : Array Value} (hr : CallRun p l e R s m args below meth c H locs cells slots 0 0 g rest (zQn a) (fun _ => False)) (kk : W p l e R s m args below meth c H locs cells slots Q { g with pc := g.pc + 3, stack := rest }) : W p l e R s m args below meth c H locs cells slots Q g := by
  intro T hT X
  obtain ⟨v, st₀, t, T', L, h0, X', hL, e1, ⟨hv, hh⟩, st⟩ := hr T hT X
  cases hv
  obtain ⟨t2, a1, b1⟩ := kk T' (by rw [e1, hh, h0]) (Stand.forget X' (fun q h => (hL q h).elim))
  exact ⟨t2, st t2 a1, b1⟩
/-- a callee's words at a call -/
theorem zcb {own : String} {index : Nat} {y : MethodName} {bytes : ByteArray} {maxL : Nat} {ret : Option FieldType} {rm : Room} {mc ms n : Nat} (hT : zTW s) (hc : Jvm.Cond.code y bytes maxL ret ∈ lw_tbl) (hi : Jvm.Cond.initialized y.cls ∈ lw_tbl) (hl : Jvm.Cond.methodLink own index y ∈ lw_tbl)
    (hrc : rm.cells = mc) (hrs : rm.slots = ms) (hf : rm.frames + 1 ≤ R.frames) (hlo : 8 + (maxL + 11) + rm.locals ≤ R.locals) (hy : y.cls ≠ "java/lang/invoke/MethodHandle" ∧ y.cls ≠ "java/lang/invoke/VarHandle") (hn : (parseMethodDescriptor y.desc).map (fun d => d.parameters.length) = some n) :
    CallB R s args own index y bytes maxL ret [Jvm.Cond.code y bytes maxL ret] rm mc ms n := by
  refine ⟨hrc, hrs, hf, hlo, fun w hw a' U hW => ?_, List.mem_singleton_self _, hT _ hc rfl _, hT _ hi rfl _, hy, fun sig h => ?_, hT _ hl rfl _⟩
  · rw [List.mem_singleton.mp hw]
    exact (hT.warm hW) _ hc rfl _
  · rw [h] at hn
    exact (Option.some.inj hn).symm
def zPc (adK : Nat → Nat) (b z0 : Nat) (E : zE) (av : List Value) (K : State → Prop) : Array Value → State → Prop := va_Pc av (fun U => zEW adK b z0 E U U.heap ∧ K U)
theorem zPc_blind {adK : Nat → Nat} {b z0 : Nat} {E : zE} {av : List Value} {K : State → Prop} (hK : ∀ (U : State) (g : JFrame) (mk : MethodId) (a : Array Value), K U → K (U.calling g mk a)) : FrameBlind (zPc adK b z0 E av K) := by
  intro a U g mk ⟨h1, h2, h3⟩
  exact ⟨h1, zEW.go (U := U.calling g mk a) (State.WarmedH.refl U) (Nat.le_refl _) (fun _ _ _ => rfl) h2, hK U g mk a h3⟩
end ZSTR
theorem zofW {l : Launch} {y : MethodName} {ws ws' : List Jvm.Cond} {rm : Room} {Pc : Array Value → State → Prop} {Qc : Array Value → State → Outcome → State → Prop} {mc ms : Nat} {free : Addr → Prop} {cc : ByteArray} {maxL : Nat} {ret : Option FieldType}
    (hy : plainFor y = true) (hw : ws = Jvm.Cond.code y cc maxL ret :: ws')
    (body : ∀ p e s m args below meth c s₁, BodyLoose p l y (headSpec ws rm) cc maxL ret e s m args below meth c s₁ → c.maxLocals = maxL → Pc args s →
      W p l e (headSpec ws rm).room s m args below meth c s.heap [] 0 0 (MQ below Qc args s mc ms free) (entryFrame m args maxL)) : Met l y ws rm Pc Qc mc ms free := by
  refine MetFree.of_bodySF (code := cc) (maxLocals := maxL) (ret := ret) hy ?_ ?_
  · intro args s m h hn
    obtain ⟨meth, c, h1, h2, h3, h4, h5, h6, -, -⟩ := Cond.code_spec hn (atoms_spec (ws := ws) h _ (by rw [hw]; exact List.mem_cons_self))
    exact ⟨meth, c, h1, h2, h3, h4, h5, h6⟩
  · intro p e s m args below meth c s₁ B hml hP _
    have hh0 : s₁.heap = s.heap := by rw [B.state]; rfl
    obtain ⟨t, a1, o, b1, b2, b3⟩ := body p e s m args below meth c s₁ B hml hP s₁ hh0 (Stand.of_body B)
    exact ⟨t, o, a1, b1, b2, ⟨b3.1, b3.2⟩⟩
section ZSTC
variable (l : Launch) (adK : Nat → Nat) (b z0 : Nat) (E : zE)
abbrev zr0 (f n : Nat) : Room := { frames := f, cells := 0, slots := 0, locals := n }

set_option maxRecDepth 100000 in
theorem zm_pc {j n : Int32} (h0 : ¬ j < 0) (h1 : j < n) {x : Value} (hxc : x.category = 1) : Met l zy_pc [Jvm.Cond.code zy_pc zb_pc 3 (some .int)] (zr0 1 30) (zPc adK b z0 E [.int j, .int n, x] (fun _ => True)) (k2_QcV (.int j)) 0 0 (fun _ => False) := by
  refine zofW (cc := zb_pc) (maxL := 3) (ret := (some .int)) (by decide +kernel) rfl ?_
  intro p e s m args below meth c s₁ B hml hv
  obtain ⟨rfl, hE, hK⟩ := hv
  obtain ⟨hT, hRs, hSt, ⟨hU, hN⟩, ⟨hC, hSI⟩, hX, hb0, hNc, hz⟩ := id hE
  have hx := B.exec
  have hb := B.bytes
  have hr := B.returns
  have hown : s.vm.findClass zy_pc.cls = some m.cls := findClass_of_methodNamed B.named
  have hlocks := B.notSynchronized
  have hl := lv_entry ([.int j, .int n, x]) (n := 3) (by cases x <;> first | exact Nat.le_refl _ | exact absurd (show 2 = 1 from hxc) (by decide))
  rw [lg_entry_eq]
  generalize (lg_sl ([.int j, .int n, x]) ++ List.replicate (3 - (lg_sl ([.int j, .int n, x])).length) Slot.unset).toArray = ls at hl ⊢
  have hS : va_S (zA z0) s.heap s.heap [] := va_S.rf
  have hl : lv_has ls 3 [(0, .int j), (1, .int n), (2, x)] := hl
  refine lv_iload_n hx hb zd_pc_0 rfl (lv_at hl 0 rfl) ?_
  refine lv_if_lt (tgt := 9) hx hb zd_pc_1 (by decide) (fun z => absurd z h0) (fun _ => ?_)
  refine lv_iload_n hx hb zd_pc_4 rfl (lv_at hl 0 rfl) ?_
  refine lv_iload_n hx hb zd_pc_5 rfl (lv_at hl 1 rfl) ?_
  refine lv_icmp_lt (tgt := 16) hx hb zd_pc_6 (by decide) (fun _ => ?_) (fun z => absurd h1 z)
  refine lv_iload_n hx hb zd_pc_16 rfl (lv_at hl 0 rfl) ?_
  exact W.iret hx hb hr (fun t ht _ => ⟨rfl, ht⟩) (fun _ h => nomatch h) zd_pc_17
set_option maxRecDepth 100000 in
theorem zm_ci {j n : Int32} (h0 : ¬ j < 0) (h1 : j < n) : Met l zy_ci [Jvm.Cond.code zy_ci zb_ci 2 none] (zr0 3 60) (zPc adK b z0 E [.int j, .int n] (fun _ => True)) (zQn) 0 0 (fun _ => False) := by
  refine zofW (cc := zb_ci) (maxL := 2) (ret := none) (by decide +kernel) rfl ?_
  intro p e s m args below meth c s₁ B hml hv
  obtain ⟨rfl, hE, hK⟩ := hv
  obtain ⟨hT, hRs, hSt, ⟨hU, hN⟩, ⟨hC, hSI⟩, hX, hb0, hNc, hz⟩ := id hE
  have hx := B.exec
  have hb := B.bytes
  have hr := B.returns
  have hown : s.vm.findClass zy_ci.cls = some m.cls := findClass_of_methodNamed B.named
  have hlocks := B.notSynchronized
  have hl := lv_entry ([.int j, .int n]) (n := 2) (by simp [lg_sl, Value.category])
  rw [lg_entry_eq]
  generalize (lg_sl ([.int j, .int n]) ++ List.replicate (2 - (lg_sl ([.int j, .int n])).length) Slot.unset).toArray = ls at hl ⊢
  have hS : va_S (zA z0) s.heap s.heap [] := va_S.rf
  have hl : lv_has ls 2 [(0, .int j), (1, .int n)] := hl
  have G : ∀ x : Value, x.category = 1 → W p l e (zr0 3 60) s m ([.int j, .int n] : List Value).toArray below meth c s.heap [] 0 0 (MQ below zQn ([.int j, .int n] : List Value).toArray s 0 0 (fun _ => False)) (F0 m 5 ls [x, .int n, .int j]) := by
    intro x hxc
    refine W.callV (W.runS (As := [.int j, .int n, x]) (rest := []) (Ts := []) (nL := 2) ⟨hx, hb, hml, hown, fun _ h => nomatch h⟩ (zm_pc l adK b z0 E h0 h1 hxc) ⟨zcb hT (zin 865 rfl) (zin 200 rfl) (zin 863 rfl) rfl rfl (by decide) (by decide) ⟨by decide +kernel, by decide +kernel⟩ (show _ = some 3 from by decide +kernel), hT _ (zin 864 rfl) rfl _⟩
      ⟨zPc_blind (fun _ _ _ _ h => h), fun U hU hW => ⟨rfl, by rw [hU]; exact hE.go hW (Nat.le_refl _) (fun _ _ _ => rfl), trivial⟩⟩ rfl rfl hl.1 rfl (Nat.le_of_ble_eq_true rfl) zd_ci_5 ⟨Nat.le_refl _, Nat.le_refl _⟩) ?_
    refine lv_pop hx hb zd_ci_8 rfl ?_
    exact W.vret hx hb hr (fun t ht _ => ⟨rfl, ht⟩) (fun _ h => nomatch h) zd_ci_9
  refine lv_iload_n hx hb zd_ci_0 rfl (lv_at hl 0 rfl) ?_
  refine lv_iload_n hx hb zd_ci_1 rfl (lv_at hl 1 rfl) ?_
  rcases hSI with h | ⟨t, h⟩
  · exact va_gets hx hb h hS hown (hT _ (zin 861 rfl) rfl _) (fun _ h => h) zd_ci_2 (G _ rfl)
  · exact va_gets hx hb h hS hown (hT _ (zin 861 rfl) rfl _) (fun _ h => h) zd_ci_2 (G _ rfl)
set_option maxRecDepth 100000 in
theorem zm_lc {j : Int32} {t n : Nat} {f : Nat → Int32} (h0 : ¬ j < 0) (h1 : vp_in j n) (h2 : j < Int32.ofNat n) (hn : narrow .char (.int (((f j.toNatClampNeg) &&& 255).toUInt32 % 65536).toInt32) = .int (((f j.toNatClampNeg) &&& 255).toUInt32 % 65536).toInt32) : Met l zy_lc [Jvm.Cond.code zy_lc zb_lc 2 (some .char)] (zr0 5 90) (zPc adK b z0 E [.ref t, .int j] (fun U => va_T .byte t n (fun k => .int (f k)) (zA z0) U U.heap)) (k2_QcV (.int (((f j.toNatClampNeg) &&& 255).toUInt32 % 65536).toInt32)) 0 0 (fun _ => False) := by
  refine zofW (cc := zb_lc) (maxL := 2) (ret := (some .char)) (by decide +kernel) rfl ?_
  intro p e s m args below meth c s₁ B hml hv
  obtain ⟨rfl, hE, hK⟩ := hv
  obtain ⟨hT, hRs, hSt, ⟨hU, hN⟩, ⟨hC, hSI⟩, hX, hb0, hNc, hz⟩ := id hE
  have hx := B.exec
  have hb := B.bytes
  have hr := B.returns
  have hown : s.vm.findClass zy_lc.cls = some m.cls := findClass_of_methodNamed B.named
  have hlocks := B.notSynchronized
  have hl := lv_entry ([.ref t, .int j]) (n := 2) (by simp [lg_sl, Value.category])
  rw [lg_entry_eq]
  generalize (lg_sl ([.ref t, .int j]) ++ List.replicate (2 - (lg_sl ([.ref t, .int j])).length) Slot.unset).toArray = ls at hl ⊢
  have hS : va_S (zA z0) s.heap s.heap [] := va_S.rf
  have hl : lv_has ls 2 [(0, .ref t), (1, .int j)] := hl
  refine lv_iload_n hx hb zd_lc_0 rfl (lv_at hl 1 rfl) ?_
  refine lv_aload_n hx hb zd_lc_1 rfl (lv_at hl 0 rfl) ?_
  refine va_tlen hx hb hK hS rfl zd_lc_2 ?_
  refine zcallN (a := #[]) (W.runS (As := [.int j, .int (Int32.ofNat n)]) (rest := []) (Ts := []) (nL := 2) ⟨hx, hb, hml, hown, fun _ h => nomatch h⟩ (zm_ci l adK b z0 E h0 h2) ⟨zcb hT (zin 860 rfl) (zin 198 rfl) (zin 858 rfl) rfl rfl (by decide) (by decide) ⟨by decide +kernel, by decide +kernel⟩ (show _ = some 2 from by decide +kernel), hT _ (zin 859 rfl) rfl _⟩
      ⟨zPc_blind (fun _ _ _ _ h => h), fun U hU hW => ⟨rfl, by rw [hU]; exact hE.go hW (Nat.le_refl _) (fun _ _ _ => rfl), trivial⟩⟩ rfl rfl hl.1 rfl (Nat.le_of_ble_eq_true rfl) zd_lc_3 ⟨Nat.le_refl _, Nat.le_refl _⟩) ?_
  refine lv_aload_n hx hb zd_lc_6 rfl (lv_at hl 0 rfl) ?_
  refine lv_iload_n hx hb zd_lc_7 rfl (lv_at hl 1 rfl) ?_
  refine va_tb (v := .int (f j.toNatClampNeg)) hx hb hK hS h1 rfl zd_lc_8 ?_
  refine lv_sipush (v := 255) hx hb zd_lc_9 (by decide) ?_
  refine lv_iand hx hb zd_lc_12 ?_
  refine lv_i2c (v := (((f j.toNatClampNeg) &&& 255).toUInt32 % 65536).toInt32) hx hb zd_lc_13 rfl ?_
  exact W.zret hx hb hr hn (fun t ht _ => ⟨rfl, ht⟩) (fun _ h => nomatch h) zd_lc_14
set_option maxRecDepth 100000 in
theorem zm_co {a : Nat} {bs : List Int32} : Met l zy_co [Jvm.Cond.code zy_co zb_co 1 (some .byte)] (zr0 1 30) (zPc adK b z0 E [.ref a] (fun U => zStr (zA z0) U U.heap bs a)) (k2_QcV (.int 0)) 0 0 (fun _ => False) := by
  refine zofW (cc := zb_co) (maxL := 1) (ret := (some .byte)) (by decide +kernel) rfl ?_
  intro p e s m args below meth c s₁ B hml hv
  obtain ⟨rfl, hE, hK⟩ := hv
  obtain ⟨hT, hRs, hSt, ⟨hU, hN⟩, ⟨hC, hSI⟩, hX, hb0, hNc, hz⟩ := id hE
  have hx := B.exec
  have hb := B.bytes
  have hr := B.returns
  have hown : s.vm.findClass zy_co.cls = some m.cls := findClass_of_methodNamed B.named
  have hlocks := B.notSynchronized
  have hl := lv_entry ([.ref a]) (n := 1) (by simp [lg_sl, Value.category])
  rw [lg_entry_eq]
  generalize (lg_sl ([.ref a]) ++ List.replicate (1 - (lg_sl ([.ref a])).length) Slot.unset).toArray = ls at hl ⊢
  have hS : va_S (zA z0) s.heap s.heap [] := va_S.rf
  have hl : lv_has ls 1 [(0, .ref a)] := hl
  obtain ⟨t, k1, k2, k3, k4⟩ := hK
  refine va_gets hx hb hC hS hown (hT _ (zin 845 rfl) rfl _) (fun _ h => h) zd_co_0 ?_
  refine lv_if_eq (tgt := 13) hx hb zd_co_3 (by decide) (fun z => absurd z (by decide)) (fun _ => ?_)
  refine lv_aload_n hx hb zd_co_6 rfl (lv_at hl 0 rfl) ?_
  refine vk_getf hx hb k2 hS hown (hT _ (zin 2233 rfl) rfl _) (fun _ h => h) zd_co_7 ?_
  refine lv_goto (tgt := 14) hx hb zd_co_10 (by decide) ?_
  exact W.zret hx hb hr rfl (fun t ht _ => ⟨rfl, ht⟩) (fun _ h => nomatch h) zd_co_14
set_option maxRecDepth 100000 in
theorem zm_il {a : Nat} {bs : List Int32} : Met l zy_il [Jvm.Cond.code zy_il zb_il 1 (some .boolean)] (zr0 1 30) (zPc adK b z0 E [.ref a] (fun U => zStr (zA z0) U U.heap bs a)) (k2_QcV (.int 1)) 0 0 (fun _ => False) := by
  refine zofW (cc := zb_il) (maxL := 1) (ret := (some .boolean)) (by decide +kernel) rfl ?_
  intro p e s m args below meth c s₁ B hml hv
  obtain ⟨rfl, hE, hK⟩ := hv
  obtain ⟨hT, hRs, hSt, ⟨hU, hN⟩, ⟨hC, hSI⟩, hX, hb0, hNc, hz⟩ := id hE
  have hx := B.exec
  have hb := B.bytes
  have hr := B.returns
  have hown : s.vm.findClass zy_il.cls = some m.cls := findClass_of_methodNamed B.named
  have hlocks := B.notSynchronized
  have hl := lv_entry ([.ref a]) (n := 1) (by simp [lg_sl, Value.category])
  rw [lg_entry_eq]
  generalize (lg_sl ([.ref a]) ++ List.replicate (1 - (lg_sl ([.ref a])).length) Slot.unset).toArray = ls at hl ⊢
  have hS : va_S (zA z0) s.heap s.heap [] := va_S.rf
  have hl : lv_has ls 1 [(0, .ref a)] := hl
  obtain ⟨t, k1, k2, k3, k4⟩ := hK
  refine va_gets hx hb hC hS hown (hT _ (zin 845 rfl) rfl _) (fun _ h => h) zd_il_0 ?_
  refine lv_if_eq (tgt := 17) hx hb zd_il_3 (by decide) (fun z => absurd z (by decide)) (fun _ => ?_)
  refine lv_aload_n hx hb zd_il_6 rfl (lv_at hl 0 rfl) ?_
  refine vk_getf hx hb k2 hS hown (hT _ (zin 2233 rfl) rfl _) (fun _ h => h) zd_il_7 ?_
  refine lv_if_ne (tgt := 17) hx hb zd_il_10 (by decide) (fun z => absurd rfl z) (fun _ => ?_)
  refine lv_iconst (v := 1) hx hb zd_il_13 (by decide) ?_
  refine lv_goto (tgt := 18) hx hb zd_il_14 (by decide) ?_
  exact W.zret hx hb hr rfl (fun t ht _ => ⟨rfl, ht⟩) (fun _ h => nomatch h) zd_il_18
theorem zStr_calling {A : Nat → Prop} {bs : List Int32} {a : Nat} (U : State) (g : JFrame) (mk : MethodId) (ar : Array Value) (h : zStr A U U.heap bs a) : zStr A (U.calling g mk ar) (U.calling g mk ar).heap bs a := zStr.go (s := U) (U := U.calling g mk ar) (Vm.Alike.refl U.vm) (fun _ _ _ => rfl) h
theorem zStr_recv {A : Nat → Prop} {bs : List Int32} {a : Nat} {U : State} {H : Heap} (h : zStr A U H bs a) : ∃ cellB : Cell, H[a]? = some cellB ∧ cellB.vm.isStatics = false ∧ U.vm.findClass "java/lang/String" = some cellB.cls := by
  obtain ⟨t, ⟨cell, h1, h2, h3, -⟩, -⟩ := h
  exact ⟨cell, h1, h2, h3⟩
set_option maxRecDepth 100000 in
theorem zm_le {a : Nat} {bs : List Int32} (hlen : bs.length < 2147483648) : Met l zy_le [Jvm.Cond.code zy_le zb_le 1 (some .int)] (zr0 3 60) (zPc adK b z0 E [.ref a] (fun U => zStr (zA z0) U U.heap bs a)) (k2_QcV (.int (Int32.ofNat bs.length))) 0 0 (fun _ => False) := by
  refine zofW (cc := zb_le) (maxL := 1) (ret := (some .int)) (by decide +kernel) rfl ?_
  intro p e s m args below meth c s₁ B hml hv
  obtain ⟨rfl, hE, hK⟩ := hv
  obtain ⟨hT, hRs, hSt, ⟨hU, hN⟩, ⟨hC, hSI⟩, hX, hb0, hNc, hz⟩ := id hE
  have hx := B.exec
  have hb := B.bytes
  have hr := B.returns
  have hown : s.vm.findClass zy_le.cls = some m.cls := findClass_of_methodNamed B.named
  have hlocks := B.notSynchronized
  have hl := lv_entry ([.ref a]) (n := 1) (by simp [lg_sl, Value.category])
  rw [lg_entry_eq]
  generalize (lg_sl ([.ref a]) ++ List.replicate (1 - (lg_sl ([.ref a])).length) Slot.unset).toArray = ls at hl ⊢
  have hS : va_S (zA z0) s.heap s.heap [] := va_S.rf
  have hl : lv_has ls 1 [(0, .ref a)] := hl
  obtain ⟨t, k1, k2, k3, k4⟩ := id hK
  refine lv_aload_n hx hb zd_le_0 rfl (lv_at hl 0 rfl) ?_
  refine vk_getf hx hb k3 hS hown (hT _ (zin 2232 rfl) rfl _) (fun _ h => h) zd_le_1 ?_
  refine va_tlen hx hb k4 hS rfl zd_le_4 ?_
  refine lv_aload_n hx hb zd_le_5 rfl (lv_at hl 0 rfl) ?_
  refine W.callV (W.runV (C := "java/lang/String") (As := []) (rest := [.int (Int32.ofNat bs.length)]) (Ts := []) (nL := 1) ⟨hx, hb, hml, hown, fun _ h => nomatch h⟩ (zm_co l adK b z0 E (a := a) (bs := bs)) ⟨zcb hT (zin 844 rfl) (zin 198 rfl) (zin 841 rfl) rfl rfl (by decide) (by decide) ⟨by decide +kernel, by decide +kernel⟩ (show _ = some 0 from by decide +kernel), hT _ (zin 842 rfl) rfl _, hT _ (zin 843 rfl) rfl _⟩
      ⟨zPc_blind (fun U g mk ar h => zStr_calling U g mk ar h), zStr_recv hK, fun U hU hW => ⟨rfl, by rw [hU]; exact hE.go hW (Nat.le_refl _) (fun _ _ _ => rfl), by show zStr (zA z0) U U.heap bs a; rw [hU]; exact hK.go hW.alike (fun _ _ _ => rfl)⟩⟩ rfl rfl hl.1 rfl (Nat.le_of_ble_eq_true rfl) zd_le_6 ⟨Nat.le_refl _, Nat.le_refl _⟩) ?_
  refine lv_ishr hx hb zd_le_9 ?_
  refine W.iret hx hb hr (fun t ht _ => ⟨?_, ht⟩) (fun _ h => nomatch h) zd_le_10
  have : ∀ x : Int32, x >>> ((0 : Int32) &&& 31) = x := by
    intro x
    have h0 : ((0 : Int32) &&& 31) = 0 := by decide
    rw [h0]
    exact Int32.shiftRight_zero
  rw [this]
set_option maxRecDepth 100000 in
theorem zm_ch {a : Nat} {bs : List Int32} {j : Int32} {ch : Int32} (h1 : vp_in j bs.length) (h2 : j < Int32.ofNat bs.length) (hch : zat bs j.toNatClampNeg = some ch) (hn : narrow .char (.int ch) = .int ch) (he : ((ch &&& 255).toUInt32 % 65536).toInt32 = ch) : Met l zy_ch [Jvm.Cond.code zy_ch zb_ch 2 (some .char)] (zr0 7 120) (zPc adK b z0 E [.ref a, .int j] (fun U => zStr (zA z0) U U.heap bs a)) (k2_QcV (.int ch)) 0 0 (fun _ => False) := by
  refine zofW (cc := zb_ch) (maxL := 2) (ret := (some .char)) (by decide +kernel) rfl ?_
  intro p e s m args below meth c s₁ B hml hv
  obtain ⟨rfl, hE, hK⟩ := hv
  obtain ⟨hT, hRs, hSt, ⟨hU, hN⟩, ⟨hC, hSI⟩, hX, hb0, hNc, hz⟩ := id hE
  have hx := B.exec
  have hb := B.bytes
  have hr := B.returns
  have hown : s.vm.findClass zy_ch.cls = some m.cls := findClass_of_methodNamed B.named
  have hlocks := B.notSynchronized
  have hl := lv_entry ([.ref a, .int j]) (n := 2) (by simp [lg_sl, Value.category])
  rw [lg_entry_eq]
  generalize (lg_sl ([.ref a, .int j]) ++ List.replicate (2 - (lg_sl ([.ref a, .int j])).length) Slot.unset).toArray = ls at hl ⊢
  have hS : va_S (zA z0) s.heap s.heap [] := va_S.rf
  have hl : lv_has ls 2 [(0, .ref a), (1, .int j)] := hl
  obtain ⟨t, k1, k2, k3, k4⟩ := id hK
  have hg : bs.getD j.toNatClampNeg 0 = ch := by
    rw [zat_eq] at hch
    rw [List.getD_eq_getElem?_getD, hch]
    rfl
  have hn2 : narrow .char (.int (((bs.getD j.toNatClampNeg 0) &&& 255).toUInt32 % 65536).toInt32) = .int (((bs.getD j.toNatClampNeg 0) &&& 255).toUInt32 % 65536).toInt32 := by rw [hg, he]; exact hn
  refine lv_aload_n hx hb zd_ch_0 rfl (lv_at hl 0 rfl) ?_
  refine W.callV (W.runV (C := "java/lang/String") (As := []) (rest := []) (Ts := []) (nL := 2) ⟨hx, hb, hml, hown, fun _ h => nomatch h⟩ (zm_il l adK b z0 E (a := a) (bs := bs)) ⟨zcb hT (zin 854 rfl) (zin 198 rfl) (zin 851 rfl) rfl rfl (by decide) (by decide) ⟨by decide +kernel, by decide +kernel⟩ (show _ = some 0 from by decide +kernel), hT _ (zin 852 rfl) rfl _, hT _ (zin 853 rfl) rfl _⟩
      ⟨zPc_blind (fun U g mk ar h => zStr_calling U g mk ar h), zStr_recv hK, fun U hU hW => ⟨rfl, by rw [hU]; exact hE.go hW (Nat.le_refl _) (fun _ _ _ => rfl), by show zStr (zA z0) U U.heap bs a; rw [hU]; exact hK.go hW.alike (fun _ _ _ => rfl)⟩⟩ rfl rfl hl.1 rfl (Nat.le_of_ble_eq_true rfl) zd_ch_1 ⟨Nat.le_refl _, Nat.le_refl _⟩) ?_
  refine lv_if_eq (tgt := 16) hx hb zd_ch_4 rfl (fun z => absurd z (by decide)) (fun _ => ?_)
  refine lv_aload_n hx hb zd_ch_7 rfl (lv_at hl 0 rfl) ?_
  refine vk_getf hx hb k3 hS hown (hT _ (zin 2232 rfl) rfl _) (fun _ h => h) zd_ch_8 ?_
  refine lv_iload_n hx hb zd_ch_11 rfl (lv_at hl 1 rfl) ?_
  refine W.callV (W.runS (As := [.ref t, .int j]) (rest := []) (Ts := []) (nL := 2) ⟨hx, hb, hml, hown, fun _ h => nomatch h⟩ (zm_lc l adK b z0 E (t := t) (n := bs.length) (f := fun k => bs.getD k 0) (fun z => h1 (Or.inl z)) h1 h2 hn2) ⟨zcb hT (zin 857 rfl) (zin 199 rfl) (zin 855 rfl) rfl rfl (by decide) (by decide) ⟨by decide +kernel, by decide +kernel⟩ (show _ = some 2 from by decide +kernel), hT _ (zin 856 rfl) rfl _⟩
      ⟨zPc_blind (fun U g mk ar h => va_T.moved (u := U) (U := U.calling g mk ar) (Vm.Alike.refl U.vm) h), fun U hU hW => ⟨rfl, by rw [hU]; exact hE.go hW (Nat.le_refl _) (fun _ _ _ => rfl), by show va_T .byte t bs.length (fun k => .int (bs.getD k 0)) (zA z0) U U.heap; rw [hU]; exact va_T.moved hW.alike k4⟩⟩ rfl rfl hl.1 rfl (Nat.le_of_ble_eq_true rfl) zd_ch_12 ⟨Nat.le_refl _, Nat.le_refl _⟩) ?_
  exact W.zret hx hb hr hn2 (fun t ht _ => ⟨by rw [hg, he], ht⟩) (fun _ h => nomatch h) zd_ch_15
end ZSTC
end
section
/-! ONE INSTRUCTION: what the evaluator does, the machine does -/
section ZSTEP
variable {p : Program} {l : Launch} {e : Env} {R : Room} {s : State} {m : MethodId} {args : Array Value} {below : List Frame} {meth : Method} {c : Code}
variable {D : va_G} {adK : Nat → Nat} {b z0 : Nat} {E : zE} {y : MethodName} {cc : ByteArray} {mL : Nat} {ret : Option FieldType} {hh : List (Nat × Nat × Nat × Nat)} {ws0 : va_W} {mc ms : Nat} {r : Option Value ⊕ Nat} {h' : zH}
variable {pc : Nat} {ls : zLs} {st r1 : List Value} {h : zH}
theorem zld_at {ws : va_W} {ls : zLs} {lv : List (Nat × Value)} {LS : Array Slot} {nL i : Nat} {v : Value} (hl : zLr adK b ws ls lv) (hh : lv_has LS nL lv) (hi : zat ls i = some (some v)) : ∃ rv, zV adK b ws v rv ∧ LS[i]? = some (.val rv) := by
  obtain ⟨rv, h1, h2⟩ := hl i v hi
  exact ⟨rv, h1, hh.2.2 _ h2⟩

theorem zs_iconst (X : zFr p s m meth c y cc mL ret hh) {n : Int} {z : Int32} (hd : decode cc pc = .ok (.iconst n, 1)) (hz : Int32.ofInt n = z) (K : zGo p l e R s m args below meth c D adK b z0 mL ws0 mc ms r h' (pc + 1) (ls) (.int z :: st) (h)) : zGo p l e R s m args below meth c D adK b z0 mL ws0 mc ms r h' (pc) (ls) (st) (h) := by
  intro H locs cells slots tys ws rst LS lv b1 b2 hK hP hD hS hR hE hv hl hL
  obtain ⟨hx, hb, hr, hml, hown, hlocks, hname, hexc⟩ := X
  exact lv_iconst hx hb hd hz (K H locs cells slots tys ws _ LS lv b1 b2 hK hP hD hS hR hE ⟨_, _, rfl, rfl, hv⟩ hl hL)

theorem zs_bipush (X : zFr p s m meth c y cc mL ret hh) {n : Int} {z : Int32} (hd : decode cc pc = .ok (.bipush n, 2)) (hz : (Int8.ofInt n).toInt32 = z) (K : zGo p l e R s m args below meth c D adK b z0 mL ws0 mc ms r h' (pc + 2) (ls) (.int z :: st) (h)) : zGo p l e R s m args below meth c D adK b z0 mL ws0 mc ms r h' (pc) (ls) (st) (h) := by
  intro H locs cells slots tys ws rst LS lv b1 b2 hK hP hD hS hR hE hv hl hL
  obtain ⟨hx, hb, hr, hml, hown, hlocks, hname, hexc⟩ := X
  exact lv_bipush hx hb hd hz (K H locs cells slots tys ws _ LS lv b1 b2 hK hP hD hS hR hE ⟨_, _, rfl, rfl, hv⟩ hl hL)

theorem zs_sipush (X : zFr p s m meth c y cc mL ret hh) {n : Int} {z : Int32} (hd : decode cc pc = .ok (.sipush n, 3)) (hz : (Int16.ofInt n).toInt32 = z) (K : zGo p l e R s m args below meth c D adK b z0 mL ws0 mc ms r h' (pc + 3) (ls) (.int z :: st) (h)) : zGo p l e R s m args below meth c D adK b z0 mL ws0 mc ms r h' (pc) (ls) (st) (h) := by
  intro H locs cells slots tys ws rst LS lv b1 b2 hK hP hD hS hR hE hv hl hL
  obtain ⟨hx, hb, hr, hml, hown, hlocks, hname, hexc⟩ := X
  exact lv_sipush hx hb hd hz (K H locs cells slots tys ws _ LS lv b1 b2 hK hP hD hS hR hE ⟨_, _, rfl, rfl, hv⟩ hl hL)

theorem zs_lconst (X : zFr p s m meth c y cc mL ret hh) {n : Fin 2} {z : Int64} (hd : decode cc pc = .ok (.lconst n, 1)) (hz : Int64.ofNat (n : Nat) = z) (K : zGo p l e R s m args below meth c D adK b z0 mL ws0 mc ms r h' (pc + 1) (ls) (.long z :: st) (h)) : zGo p l e R s m args below meth c D adK b z0 mL ws0 mc ms r h' (pc) (ls) (st) (h) := by
  intro H locs cells slots tys ws rst LS lv b1 b2 hK hP hD hS hR hE hv hl hL
  obtain ⟨hx, hb, hr, hml, hown, hlocks, hname, hexc⟩ := X
  exact lv_lconst hx hb hd hz (K H locs cells slots tys ws _ LS lv b1 b2 hK hP hD hS hR hE ⟨_, _, rfl, rfl, hv⟩ hl hL)

theorem zs_null (X : zFr p s m meth c y cc mL ret hh) (hd : decode cc pc = .ok (.aconst_null, 1)) (K : zGo p l e R s m args below meth c D adK b z0 mL ws0 mc ms r h' (pc + 1) (ls) (.null :: st) (h)) : zGo p l e R s m args below meth c D adK b z0 mL ws0 mc ms r h' (pc) (ls) (st) (h) := by
  intro H locs cells slots tys ws rst LS lv b1 b2 hK hP hD hS hR hE hv hl hL
  obtain ⟨hx, hb, hr, hml, hown, hlocks, hname, hexc⟩ := X
  exact lv_null hx hb hd (K H locs cells slots tys ws _ LS lv b1 b2 hK hP hD hS hR hE ⟨_, _, rfl, rfl, hv⟩ hl hL)

theorem zs_ldc (X : zFr p s m meth c y cc mL ret hh) {n : Nat} {z : Int32} (hd : decode cc pc = .ok (.ldc n, 2)) (hw : (Jvm.Cond.constant y.cls n z).before args s = true) (K : zGo p l e R s m args below meth c D adK b z0 mL ws0 mc ms r h' (pc + 2) (ls) (.int z :: st) (h)) : zGo p l e R s m args below meth c D adK b z0 mL ws0 mc ms r h' (pc) (ls) (st) (h) := by
  intro H locs cells slots tys ws rst LS lv b1 b2 hK hP hD hS hR hE hv hl hL
  obtain ⟨hx, hb, hr, hml, hown, hlocks, hname, hexc⟩ := X
  exact lv_ldc hx hb hown hw hd (K H locs cells slots tys ws _ LS lv b1 b2 hK hP hD hS hR hE ⟨_, _, rfl, rfl, hv⟩ hl hL)

theorem zs_ldcw (X : zFr p s m meth c y cc mL ret hh) {n : Nat} {z : Int32} (hd : decode cc pc = .ok (.ldc_w n, 3)) (hw : (Jvm.Cond.constant y.cls n z).before args s = true) (K : zGo p l e R s m args below meth c D adK b z0 mL ws0 mc ms r h' (pc + 3) (ls) (.int z :: st) (h)) : zGo p l e R s m args below meth c D adK b z0 mL ws0 mc ms r h' (pc) (ls) (st) (h) := by
  intro H locs cells slots tys ws rst LS lv b1 b2 hK hP hD hS hR hE hv hl hL
  obtain ⟨hx, hb, hr, hml, hown, hlocks, hname, hexc⟩ := X
  exact lv_ldcw hx hb hown hw hd (K H locs cells slots tys ws _ LS lv b1 b2 hK hP hD hS hR hE ⟨_, _, rfl, rfl, hv⟩ hl hL)

theorem zs_ldcS (X : zFr p s m meth c y cc mL ret hh) {n i : Nat} {tx : String} (hd : decode cc pc = .ok (.ldc n, 2)) (hw : vk_R y.cls n tx (adK i) s) (K : zGo p l e R s m args below meth c D adK b z0 mL ws0 mc ms r h' (pc + 2) (ls) (.retAddr i :: st) (h)) : zGo p l e R s m args below meth c D adK b z0 mL ws0 mc ms r h' (pc) (ls) (st) (h) := by
  intro H locs cells slots tys ws rst LS lv b1 b2 hK hP hD hS hR hE hv hl hL
  obtain ⟨hx, hb, hr, hml, hown, hlocks, hname, hexc⟩ := X
  exact va_ldcS hx hb hown hw hd (K H locs cells slots tys ws _ LS lv b1 b2 hK hP hD hS hR hE ⟨_, _, rfl, rfl, hv⟩ hl hL)

theorem zs_ldc2 (X : zFr p s m meth c y cc mL ret hh) {n : Nat} {z : Int64} (hd : decode cc pc = .ok (.ldc2_w n, 3)) (hw : (Jvm.Cond.constantLong y.cls n z).before args s = true) (K : zGo p l e R s m args below meth c D adK b z0 mL ws0 mc ms r h' (pc + 3) (ls) (.long z :: st) (h)) : zGo p l e R s m args below meth c D adK b z0 mL ws0 mc ms r h' (pc) (ls) (st) (h) := by
  intro H locs cells slots tys ws rst LS lv b1 b2 hK hP hD hS hR hE hv hl hL
  obtain ⟨hx, hb, hr, hml, hown, hlocks, hname, hexc⟩ := X
  exact W.ldc2 hx hb hown hw (g := F0 m pc LS rst) rfl hd (K H locs cells slots tys ws _ LS lv b1 b2 hK hP hD hS hR hE ⟨_, _, rfl, rfl, hv⟩ hl hL)

theorem zs_iload (X : zFr p s m meth c y cc mL ret hh) {i : Nat} {x : Int32} (hd : decode cc pc = .ok (.iload i, 2)) (hi : zat ls i = some (some (.int x))) (K : zGo p l e R s m args below meth c D adK b z0 mL ws0 mc ms r h' (pc + 2) (ls) (.int x :: st) (h)) : zGo p l e R s m args below meth c D adK b z0 mL ws0 mc ms r h' (pc) (ls) (st) (h) := by
  intro H locs cells slots tys ws rst LS lv b1 b2 hK hP hD hS hR hE hv hl hL
  obtain ⟨hx, hb, hr, hml, hown, hlocks, hname, hexc⟩ := X
  obtain ⟨rv, h1, h2⟩ := zld_at hl hL hi
  cases (show rv = .int x from h1)
  exact lv_iload hx hb hd h2 (K H locs cells slots tys ws _ LS lv b1 b2 hK hP hD hS hR hE ⟨_, _, rfl, rfl, hv⟩ hl hL)

theorem zs_iload_n (X : zFr p s m meth c y cc mL ret hh) {i : Fin 4} {x : Int32} (hd : decode cc pc = .ok (.iload_n i, 1)) (hi : zat ls i.val = some (some (.int x))) (K : zGo p l e R s m args below meth c D adK b z0 mL ws0 mc ms r h' (pc + 1) (ls) (.int x :: st) (h)) : zGo p l e R s m args below meth c D adK b z0 mL ws0 mc ms r h' (pc) (ls) (st) (h) := by
  intro H locs cells slots tys ws rst LS lv b1 b2 hK hP hD hS hR hE hv hl hL
  obtain ⟨hx, hb, hr, hml, hown, hlocks, hname, hexc⟩ := X
  obtain ⟨rv, h1, h2⟩ := zld_at hl hL hi
  cases (show rv = .int x from h1)
  exact lv_iload_n hx hb hd rfl h2 (K H locs cells slots tys ws _ LS lv b1 b2 hK hP hD hS hR hE ⟨_, _, rfl, rfl, hv⟩ hl hL)

theorem zs_lload (X : zFr p s m meth c y cc mL ret hh) {i : Nat} {x : Int64} (hd : decode cc pc = .ok (.lload i, 2)) (hi : zat ls i = some (some (.long x))) (K : zGo p l e R s m args below meth c D adK b z0 mL ws0 mc ms r h' (pc + 2) (ls) (.long x :: st) (h)) : zGo p l e R s m args below meth c D adK b z0 mL ws0 mc ms r h' (pc) (ls) (st) (h) := by
  intro H locs cells slots tys ws rst LS lv b1 b2 hK hP hD hS hR hE hv hl hL
  obtain ⟨hx, hb, hr, hml, hown, hlocks, hname, hexc⟩ := X
  obtain ⟨rv, h1, h2⟩ := zld_at hl hL hi
  cases (show rv = .long x from h1)
  exact lv_lload hx hb hd h2 (K H locs cells slots tys ws _ LS lv b1 b2 hK hP hD hS hR hE ⟨_, _, rfl, rfl, hv⟩ hl hL)

theorem zs_lload_n (X : zFr p s m meth c y cc mL ret hh) {i : Fin 4} {x : Int64} (hd : decode cc pc = .ok (.lload_n i, 1)) (hi : zat ls i.val = some (some (.long x))) (K : zGo p l e R s m args below meth c D adK b z0 mL ws0 mc ms r h' (pc + 1) (ls) (.long x :: st) (h)) : zGo p l e R s m args below meth c D adK b z0 mL ws0 mc ms r h' (pc) (ls) (st) (h) := by
  intro H locs cells slots tys ws rst LS lv b1 b2 hK hP hD hS hR hE hv hl hL
  obtain ⟨hx, hb, hr, hml, hown, hlocks, hname, hexc⟩ := X
  obtain ⟨rv, h1, h2⟩ := zld_at hl hL hi
  cases (show rv = .long x from h1)
  exact lv_lload_n hx hb hd rfl h2 (K H locs cells slots tys ws _ LS lv b1 b2 hK hP hD hS hR hE ⟨_, _, rfl, rfl, hv⟩ hl hL)

theorem zs_aload (X : zFr p s m meth c y cc mL ret hh) {i : Nat} {v : Value} (hd : decode cc pc = .ok (.aload i, 2)) (hi : zat ls i = some (some v)) (hv1 : zisA v = true) (K : zGo p l e R s m args below meth c D adK b z0 mL ws0 mc ms r h' (pc + 2) (ls) (v :: st) (h)) : zGo p l e R s m args below meth c D adK b z0 mL ws0 mc ms r h' (pc) (ls) (st) (h) := by
  intro H locs cells slots tys ws rst LS lv b1 b2 hK hP hD hS hR hE hv hl hL
  obtain ⟨hx, hb, hr, hml, hown, hlocks, hname, hexc⟩ := X
  obtain ⟨rv, h1, h2⟩ := zld_at hl hL hi
  have K2 : ∀ rv, zV adK b ws v rv → W p l e R s m args below meth c H locs cells slots (vx_MQ below (zQc D adK b z0 ws0 r h') (zXC D z0 ws0 r h') args s mc ms (zA z0)) (F0 m (pc + 2) LS (rv :: rst)) := fun rv h1 => K H locs cells slots tys ws _ LS lv b1 b2 hK hP hD hS hR hE ⟨_, _, rfl, h1, hv⟩ hl hL
  have K1 := K2 rv h1
  cases v with
  | ref k => obtain ⟨a, -, rfl⟩ := h1; exact lv_aload hx hb hd h2 K1
  | null => cases h1; exact lv_aloadN hx hb hd h2 K1
  | retAddr k => cases h1; exact lv_aload hx hb hd h2 K1
  | float k => cases h1; exact lv_aload hx hb hd h2 K1
  | double k => obtain ⟨a, rfl⟩ := h1; exact lv_aload hx hb hd h2 K1
  | int k => cases hv1
  | long k => cases hv1

theorem zs_aload_n (X : zFr p s m meth c y cc mL ret hh) {i : Fin 4} {v : Value} (hd : decode cc pc = .ok (.aload_n i, 1)) (hi : zat ls i.val = some (some v)) (hv1 : zisA v = true) (K : zGo p l e R s m args below meth c D adK b z0 mL ws0 mc ms r h' (pc + 1) (ls) (v :: st) (h)) : zGo p l e R s m args below meth c D adK b z0 mL ws0 mc ms r h' (pc) (ls) (st) (h) := by
  intro H locs cells slots tys ws rst LS lv b1 b2 hK hP hD hS hR hE hv hl hL
  obtain ⟨hx, hb, hr, hml, hown, hlocks, hname, hexc⟩ := X
  obtain ⟨rv, h1, h2⟩ := zld_at hl hL hi
  have K2 : ∀ rv, zV adK b ws v rv → W p l e R s m args below meth c H locs cells slots (vx_MQ below (zQc D adK b z0 ws0 r h') (zXC D z0 ws0 r h') args s mc ms (zA z0)) (F0 m (pc + 1) LS (rv :: rst)) := fun rv h1 => K H locs cells slots tys ws _ LS lv b1 b2 hK hP hD hS hR hE ⟨_, _, rfl, h1, hv⟩ hl hL
  have K1 := K2 rv h1
  cases v with
  | ref k => obtain ⟨a, -, rfl⟩ := h1; exact lv_aload_n hx hb hd rfl h2 K1
  | null => cases h1; exact lv_aload_nN hx hb hd rfl h2 K1
  | retAddr k => cases h1; exact lv_aload_n hx hb hd rfl h2 K1
  | float k => cases h1; exact lv_aload_n hx hb hd rfl h2 K1
  | double k => obtain ⟨a, rfl⟩ := h1; exact lv_aload_n hx hb hd rfl h2 K1
  | int k => cases hv1
  | long k => cases hv1

theorem zs_istore (X : zFr p s m meth c y cc mL ret hh) {i : Nat} {x : Int32} (hd : decode cc pc = .ok (.istore i, 2)) (hn : i < mL) (K : zGo p l e R s m args below meth c D adK b z0 mL ws0 mc ms r h' (pc + 2) (zstl ls (i) (.int x)) (r1) (h)) : zGo p l e R s m args below meth c D adK b z0 mL ws0 mc ms r h' (pc) (ls) (.int x :: r1) (h) := by
  intro H locs cells slots tys ws rst LS lv b1 b2 hK hP hD hS hR hE hv hl hL
  obtain ⟨hx, hb, hr, hml, hown, hlocks, hname, hexc⟩ := X
  obtain ⟨_, _, rfl, rfl, hv⟩ := hv
  exact lv_istore hx hb hd hL hn rfl (fun LS2 hL2 => K H locs cells slots tys ws _ LS2 _ b1 b2 hK hP hD hS hR hE hv (zLr.st hl rfl rfl) hL2)

theorem zs_istore_n (X : zFr p s m meth c y cc mL ret hh) {i : Fin 4} {x : Int32} (hd : decode cc pc = .ok (.istore_n i, 1)) (hn : i.val < mL) (K : zGo p l e R s m args below meth c D adK b z0 mL ws0 mc ms r h' (pc + 1) (zstl ls (i.val) (.int x)) (r1) (h)) : zGo p l e R s m args below meth c D adK b z0 mL ws0 mc ms r h' (pc) (ls) (.int x :: r1) (h) := by
  intro H locs cells slots tys ws rst LS lv b1 b2 hK hP hD hS hR hE hv hl hL
  obtain ⟨hx, hb, hr, hml, hown, hlocks, hname, hexc⟩ := X
  obtain ⟨_, _, rfl, rfl, hv⟩ := hv
  exact lv_istore_n hx hb hd rfl hL hn rfl (fun LS2 hL2 => K H locs cells slots tys ws _ LS2 _ b1 b2 hK hP hD hS hR hE hv (zLr.st hl rfl rfl) hL2)

theorem zs_lstore (X : zFr p s m meth c y cc mL ret hh) {i : Nat} {x : Int64} (hd : decode cc pc = .ok (.lstore i, 2)) (hn : i + 1 < mL) (K : zGo p l e R s m args below meth c D adK b z0 mL ws0 mc ms r h' (pc + 2) (zset (zstl ls (i) (.long x)) (i + 1) none) (r1) (h)) : zGo p l e R s m args below meth c D adK b z0 mL ws0 mc ms r h' (pc) (ls) (.long x :: r1) (h) := by
  intro H locs cells slots tys ws rst LS lv b1 b2 hK hP hD hS hR hE hv hl hL
  obtain ⟨hx, hb, hr, hml, hown, hlocks, hname, hexc⟩ := X
  obtain ⟨_, _, rfl, rfl, hv⟩ := hv
  exact lv_lstore hx hb hd hL hn rfl (fun LS2 hL2 => K H locs cells slots tys ws _ LS2 _ b1 b2 hK hP hD hS hR hE hv (zLr.stJ hl rfl rfl) hL2)

theorem zs_lstore_n (X : zFr p s m meth c y cc mL ret hh) {i : Fin 4} {x : Int64} (hd : decode cc pc = .ok (.lstore_n i, 1)) (hn : i.val + 1 < mL) (K : zGo p l e R s m args below meth c D adK b z0 mL ws0 mc ms r h' (pc + 1) (zset (zstl ls (i.val) (.long x)) (i.val + 1) none) (r1) (h)) : zGo p l e R s m args below meth c D adK b z0 mL ws0 mc ms r h' (pc) (ls) (.long x :: r1) (h) := by
  intro H locs cells slots tys ws rst LS lv b1 b2 hK hP hD hS hR hE hv hl hL
  obtain ⟨hx, hb, hr, hml, hown, hlocks, hname, hexc⟩ := X
  obtain ⟨_, _, rfl, rfl, hv⟩ := hv
  exact lv_lstore_n hx hb hd rfl hL hn rfl (fun LS2 hL2 => K H locs cells slots tys ws _ LS2 _ b1 b2 hK hP hD hS hR hE hv (zLr.stJ hl rfl rfl) hL2)

theorem zs_astore (X : zFr p s m meth c y cc mL ret hh) {i : Nat} {v : Value} (hd : decode cc pc = .ok (.astore i, 2)) (hv1 : (∃ x, v = .ref x) ∨ ∃ x, v = .double x) (hn : i < mL) (K : zGo p l e R s m args below meth c D adK b z0 mL ws0 mc ms r h' (pc + 2) (zstl ls (i) v) (r1) (h)) : zGo p l e R s m args below meth c D adK b z0 mL ws0 mc ms r h' (pc) (ls) (v :: r1) (h) := by
  intro H locs cells slots tys ws rst LS lv b1 b2 hK hP hD hS hR hE hv hl hL
  obtain ⟨hx, hb, hr, hml, hown, hlocks, hname, hexc⟩ := X
  obtain ⟨rv, _, rfl, h1, hv⟩ := hv
  obtain ⟨a, rfl⟩ : ∃ a, rv = .ref a := by
    rcases hv1 with ⟨x, rfl⟩ | ⟨x, rfl⟩
    · obtain ⟨a, -, h2⟩ := h1; exact ⟨a, h2⟩
    · exact h1
  exact lv_astore hx hb hd hL hn rfl (fun LS2 hL2 => K H locs cells slots tys ws _ LS2 _ b1 b2 hK hP hD hS hR hE hv (zLr.st hl h1 rfl) hL2)

theorem zs_astore_n (X : zFr p s m meth c y cc mL ret hh) {i : Fin 4} {v : Value} (hd : decode cc pc = .ok (.astore_n i, 1)) (hv1 : (∃ x, v = .ref x) ∨ ∃ x, v = .double x) (hn : i.val < mL) (K : zGo p l e R s m args below meth c D adK b z0 mL ws0 mc ms r h' (pc + 1) (zstl ls (i.val) v) (r1) (h)) : zGo p l e R s m args below meth c D adK b z0 mL ws0 mc ms r h' (pc) (ls) (v :: r1) (h) := by
  intro H locs cells slots tys ws rst LS lv b1 b2 hK hP hD hS hR hE hv hl hL
  obtain ⟨hx, hb, hr, hml, hown, hlocks, hname, hexc⟩ := X
  obtain ⟨rv, _, rfl, h1, hv⟩ := hv
  obtain ⟨a, rfl⟩ : ∃ a, rv = .ref a := by
    rcases hv1 with ⟨x, rfl⟩ | ⟨x, rfl⟩
    · obtain ⟨a, -, h2⟩ := h1; exact ⟨a, h2⟩
    · exact h1
  exact lv_astore_n hx hb hd rfl hL hn rfl (fun LS2 hL2 => K H locs cells slots tys ws _ LS2 _ b1 b2 hK hP hD hS hR hE hv (zLr.st hl h1 rfl) hL2)

theorem zs_iinc (X : zFr p s m meth c y cc mL ret hh) {i : Nat} {n : Int} {x z : Int32} (hd : decode cc pc = .ok (.iinc i n, 3)) (hz : Int32.ofInt n = z) (hi : zat ls i = some (some (.int x))) (hn : i < mL) (K : zGo p l e R s m args below meth c D adK b z0 mL ws0 mc ms r h' (pc + 3) (zstl ls i (.int (x + z))) (st) (h)) : zGo p l e R s m args below meth c D adK b z0 mL ws0 mc ms r h' (pc) (ls) (st) (h) := by
  intro H locs cells slots tys ws rst LS lv b1 b2 hK hP hD hS hR hE hv hl hL
  obtain ⟨hx, hb, hr, hml, hown, hlocks, hname, hexc⟩ := X
  obtain ⟨rv, h1, h2⟩ := hl i _ hi
  cases (show rv = .int x from h1)
  obtain ⟨k, hk⟩ := List.getElem?_of_mem h2
  exact lv_iinc (v := x + z) hx hb hd hL hk (by rw [hz]) hn rfl (fun LS2 hL2 => K H locs cells slots tys ws _ LS2 _ b1 b2 hK hP hD hS hR hE hv (zLr.st hl rfl rfl) hL2)

theorem zs_iadd (X : zFr p s m meth c y cc mL ret hh) {x y' : Int32} (hd : decode cc pc = .ok (.iadd, 1)) (K : zGo p l e R s m args below meth c D adK b z0 mL ws0 mc ms r h' (pc + 1) (ls) (.int (x + y') :: r1) (h)) : zGo p l e R s m args below meth c D adK b z0 mL ws0 mc ms r h' (pc) (ls) (.int y' :: .int x :: r1) (h) := by
  intro H locs cells slots tys ws rst LS lv b1 b2 hK hP hD hS hR hE hv hl hL
  obtain ⟨hx, hb, hr, hml, hown, hlocks, hname, hexc⟩ := X
  obtain ⟨_, _, rfl, rfl, _, _, rfl, rfl, hv⟩ := hv
  exact lv_iadd hx hb hd (K H locs cells slots tys ws _ LS lv b1 b2 hK hP hD hS hR hE ⟨_, _, rfl, rfl, hv⟩ hl hL)

theorem zs_isub (X : zFr p s m meth c y cc mL ret hh) {x y' : Int32} (hd : decode cc pc = .ok (.isub, 1)) (K : zGo p l e R s m args below meth c D adK b z0 mL ws0 mc ms r h' (pc + 1) (ls) (.int (x - y') :: r1) (h)) : zGo p l e R s m args below meth c D adK b z0 mL ws0 mc ms r h' (pc) (ls) (.int y' :: .int x :: r1) (h) := by
  intro H locs cells slots tys ws rst LS lv b1 b2 hK hP hD hS hR hE hv hl hL
  obtain ⟨hx, hb, hr, hml, hown, hlocks, hname, hexc⟩ := X
  obtain ⟨_, _, rfl, rfl, _, _, rfl, rfl, hv⟩ := hv
  exact lv_isub hx hb hd (K H locs cells slots tys ws _ LS lv b1 b2 hK hP hD hS hR hE ⟨_, _, rfl, rfl, hv⟩ hl hL)

theorem zs_imul (X : zFr p s m meth c y cc mL ret hh) {x y' : Int32} (hd : decode cc pc = .ok (.imul, 1)) (K : zGo p l e R s m args below meth c D adK b z0 mL ws0 mc ms r h' (pc + 1) (ls) (.int (x * y') :: r1) (h)) : zGo p l e R s m args below meth c D adK b z0 mL ws0 mc ms r h' (pc) (ls) (.int y' :: .int x :: r1) (h) := by
  intro H locs cells slots tys ws rst LS lv b1 b2 hK hP hD hS hR hE hv hl hL
  obtain ⟨hx, hb, hr, hml, hown, hlocks, hname, hexc⟩ := X
  obtain ⟨_, _, rfl, rfl, _, _, rfl, rfl, hv⟩ := hv
  exact lv_imul hx hb hd (K H locs cells slots tys ws _ LS lv b1 b2 hK hP hD hS hR hE ⟨_, _, rfl, rfl, hv⟩ hl hL)

theorem zs_iand (X : zFr p s m meth c y cc mL ret hh) {x y' : Int32} (hd : decode cc pc = .ok (.iand, 1)) (K : zGo p l e R s m args below meth c D adK b z0 mL ws0 mc ms r h' (pc + 1) (ls) (.int (x &&& y') :: r1) (h)) : zGo p l e R s m args below meth c D adK b z0 mL ws0 mc ms r h' (pc) (ls) (.int y' :: .int x :: r1) (h) := by
  intro H locs cells slots tys ws rst LS lv b1 b2 hK hP hD hS hR hE hv hl hL
  obtain ⟨hx, hb, hr, hml, hown, hlocks, hname, hexc⟩ := X
  obtain ⟨_, _, rfl, rfl, _, _, rfl, rfl, hv⟩ := hv
  exact lv_iand hx hb hd (K H locs cells slots tys ws _ LS lv b1 b2 hK hP hD hS hR hE ⟨_, _, rfl, rfl, hv⟩ hl hL)

theorem zs_ior (X : zFr p s m meth c y cc mL ret hh) {x y' : Int32} (hd : decode cc pc = .ok (.ior, 1)) (K : zGo p l e R s m args below meth c D adK b z0 mL ws0 mc ms r h' (pc + 1) (ls) (.int (x ||| y') :: r1) (h)) : zGo p l e R s m args below meth c D adK b z0 mL ws0 mc ms r h' (pc) (ls) (.int y' :: .int x :: r1) (h) := by
  intro H locs cells slots tys ws rst LS lv b1 b2 hK hP hD hS hR hE hv hl hL
  obtain ⟨hx, hb, hr, hml, hown, hlocks, hname, hexc⟩ := X
  obtain ⟨_, _, rfl, rfl, _, _, rfl, rfl, hv⟩ := hv
  exact lv_ior hx hb hd (K H locs cells slots tys ws _ LS lv b1 b2 hK hP hD hS hR hE ⟨_, _, rfl, rfl, hv⟩ hl hL)

theorem zs_ixor (X : zFr p s m meth c y cc mL ret hh) {x y' : Int32} (hd : decode cc pc = .ok (.ixor, 1)) (K : zGo p l e R s m args below meth c D adK b z0 mL ws0 mc ms r h' (pc + 1) (ls) (.int (x ^^^ y') :: r1) (h)) : zGo p l e R s m args below meth c D adK b z0 mL ws0 mc ms r h' (pc) (ls) (.int y' :: .int x :: r1) (h) := by
  intro H locs cells slots tys ws rst LS lv b1 b2 hK hP hD hS hR hE hv hl hL
  obtain ⟨hx, hb, hr, hml, hown, hlocks, hname, hexc⟩ := X
  obtain ⟨_, _, rfl, rfl, _, _, rfl, rfl, hv⟩ := hv
  exact lv_ixor hx hb hd (K H locs cells slots tys ws _ LS lv b1 b2 hK hP hD hS hR hE ⟨_, _, rfl, rfl, hv⟩ hl hL)

theorem zs_ishl (X : zFr p s m meth c y cc mL ret hh) {x y' : Int32} (hd : decode cc pc = .ok (.ishl, 1)) (K : zGo p l e R s m args below meth c D adK b z0 mL ws0 mc ms r h' (pc + 1) (ls) (.int (x <<< (y' &&& 31)) :: r1) (h)) : zGo p l e R s m args below meth c D adK b z0 mL ws0 mc ms r h' (pc) (ls) (.int y' :: .int x :: r1) (h) := by
  intro H locs cells slots tys ws rst LS lv b1 b2 hK hP hD hS hR hE hv hl hL
  obtain ⟨hx, hb, hr, hml, hown, hlocks, hname, hexc⟩ := X
  obtain ⟨_, _, rfl, rfl, _, _, rfl, rfl, hv⟩ := hv
  exact lv_ishl hx hb hd (K H locs cells slots tys ws _ LS lv b1 b2 hK hP hD hS hR hE ⟨_, _, rfl, rfl, hv⟩ hl hL)

theorem zs_ishr (X : zFr p s m meth c y cc mL ret hh) {x y' : Int32} (hd : decode cc pc = .ok (.ishr, 1)) (K : zGo p l e R s m args below meth c D adK b z0 mL ws0 mc ms r h' (pc + 1) (ls) (.int (x >>> (y' &&& 31)) :: r1) (h)) : zGo p l e R s m args below meth c D adK b z0 mL ws0 mc ms r h' (pc) (ls) (.int y' :: .int x :: r1) (h) := by
  intro H locs cells slots tys ws rst LS lv b1 b2 hK hP hD hS hR hE hv hl hL
  obtain ⟨hx, hb, hr, hml, hown, hlocks, hname, hexc⟩ := X
  obtain ⟨_, _, rfl, rfl, _, _, rfl, rfl, hv⟩ := hv
  exact lv_ishr hx hb hd (K H locs cells slots tys ws _ LS lv b1 b2 hK hP hD hS hR hE ⟨_, _, rfl, rfl, hv⟩ hl hL)

theorem zs_iushr (X : zFr p s m meth c y cc mL ret hh) {x y' : Int32} (hd : decode cc pc = .ok (.iushr, 1)) (K : zGo p l e R s m args below meth c D adK b z0 mL ws0 mc ms r h' (pc + 1) (ls) (.int ((x.toUInt32 >>> (y'.toUInt32 &&& Int32.toUInt32 31)).toInt32) :: r1) (h)) : zGo p l e R s m args below meth c D adK b z0 mL ws0 mc ms r h' (pc) (ls) (.int y' :: .int x :: r1) (h) := by
  intro H locs cells slots tys ws rst LS lv b1 b2 hK hP hD hS hR hE hv hl hL
  obtain ⟨hx, hb, hr, hml, hown, hlocks, hname, hexc⟩ := X
  obtain ⟨_, _, rfl, rfl, _, _, rfl, rfl, hv⟩ := hv
  exact lv_iushr hx hb hd rfl (K H locs cells slots tys ws _ LS lv b1 b2 hK hP hD hS hR hE ⟨_, _, rfl, rfl, hv⟩ hl hL)

theorem zs_idiv (X : zFr p s m meth c y cc mL ret hh) {x y' : Int32} (hd : decode cc pc = .ok (.idiv, 1)) (hne : ¬ y' = 0) (K : zGo p l e R s m args below meth c D adK b z0 mL ws0 mc ms r h' (pc + 1) (ls) (.int (x / y') :: r1) (h)) : zGo p l e R s m args below meth c D adK b z0 mL ws0 mc ms r h' (pc) (ls) (.int y' :: .int x :: r1) (h) := by
  intro H locs cells slots tys ws rst LS lv b1 b2 hK hP hD hS hR hE hv hl hL
  obtain ⟨hx, hb, hr, hml, hown, hlocks, hname, hexc⟩ := X
  obtain ⟨_, _, rfl, rfl, _, _, rfl, rfl, hv⟩ := hv
  exact lv_idiv hx hb hd hne (K H locs cells slots tys ws _ LS lv b1 b2 hK hP hD hS hR hE ⟨_, _, rfl, rfl, hv⟩ hl hL)

theorem zs_irem (X : zFr p s m meth c y cc mL ret hh) {x y' : Int32} (hd : decode cc pc = .ok (.irem, 1)) (hne : ¬ y' = 0) (K : zGo p l e R s m args below meth c D adK b z0 mL ws0 mc ms r h' (pc + 1) (ls) (.int (x - x / y' * y') :: r1) (h)) : zGo p l e R s m args below meth c D adK b z0 mL ws0 mc ms r h' (pc) (ls) (.int y' :: .int x :: r1) (h) := by
  intro H locs cells slots tys ws rst LS lv b1 b2 hK hP hD hS hR hE hv hl hL
  obtain ⟨hx, hb, hr, hml, hown, hlocks, hname, hexc⟩ := X
  obtain ⟨_, _, rfl, rfl, _, _, rfl, rfl, hv⟩ := hv
  exact lv_irem hx hb hd hne (K H locs cells slots tys ws _ LS lv b1 b2 hK hP hD hS hR hE ⟨_, _, rfl, rfl, hv⟩ hl hL)

theorem zs_ladd (X : zFr p s m meth c y cc mL ret hh) {x y' : Int64} (hd : decode cc pc = .ok (.ladd, 1)) (K : zGo p l e R s m args below meth c D adK b z0 mL ws0 mc ms r h' (pc + 1) (ls) (.long (x + y') :: r1) (h)) : zGo p l e R s m args below meth c D adK b z0 mL ws0 mc ms r h' (pc) (ls) (.long y' :: .long x :: r1) (h) := by
  intro H locs cells slots tys ws rst LS lv b1 b2 hK hP hD hS hR hE hv hl hL
  obtain ⟨hx, hb, hr, hml, hown, hlocks, hname, hexc⟩ := X
  obtain ⟨_, _, rfl, rfl, _, _, rfl, rfl, hv⟩ := hv
  exact lv_ladd hx hb hd (K H locs cells slots tys ws _ LS lv b1 b2 hK hP hD hS hR hE ⟨_, _, rfl, rfl, hv⟩ hl hL)

theorem zs_lsub (X : zFr p s m meth c y cc mL ret hh) {x y' : Int64} (hd : decode cc pc = .ok (.lsub, 1)) (K : zGo p l e R s m args below meth c D adK b z0 mL ws0 mc ms r h' (pc + 1) (ls) (.long (x - y') :: r1) (h)) : zGo p l e R s m args below meth c D adK b z0 mL ws0 mc ms r h' (pc) (ls) (.long y' :: .long x :: r1) (h) := by
  intro H locs cells slots tys ws rst LS lv b1 b2 hK hP hD hS hR hE hv hl hL
  obtain ⟨hx, hb, hr, hml, hown, hlocks, hname, hexc⟩ := X
  obtain ⟨_, _, rfl, rfl, _, _, rfl, rfl, hv⟩ := hv
  exact lv_lsub hx hb hd (K H locs cells slots tys ws _ LS lv b1 b2 hK hP hD hS hR hE ⟨_, _, rfl, rfl, hv⟩ hl hL)

theorem zs_lmul (X : zFr p s m meth c y cc mL ret hh) {x y' : Int64} (hd : decode cc pc = .ok (.lmul, 1)) (K : zGo p l e R s m args below meth c D adK b z0 mL ws0 mc ms r h' (pc + 1) (ls) (.long (x * y') :: r1) (h)) : zGo p l e R s m args below meth c D adK b z0 mL ws0 mc ms r h' (pc) (ls) (.long y' :: .long x :: r1) (h) := by
  intro H locs cells slots tys ws rst LS lv b1 b2 hK hP hD hS hR hE hv hl hL
  obtain ⟨hx, hb, hr, hml, hown, hlocks, hname, hexc⟩ := X
  obtain ⟨_, _, rfl, rfl, _, _, rfl, rfl, hv⟩ := hv
  exact lv_lmul hx hb hd (K H locs cells slots tys ws _ LS lv b1 b2 hK hP hD hS hR hE ⟨_, _, rfl, rfl, hv⟩ hl hL)

theorem zs_land (X : zFr p s m meth c y cc mL ret hh) {x y' : Int64} (hd : decode cc pc = .ok (.land, 1)) (K : zGo p l e R s m args below meth c D adK b z0 mL ws0 mc ms r h' (pc + 1) (ls) (.long (x &&& y') :: r1) (h)) : zGo p l e R s m args below meth c D adK b z0 mL ws0 mc ms r h' (pc) (ls) (.long y' :: .long x :: r1) (h) := by
  intro H locs cells slots tys ws rst LS lv b1 b2 hK hP hD hS hR hE hv hl hL
  obtain ⟨hx, hb, hr, hml, hown, hlocks, hname, hexc⟩ := X
  obtain ⟨_, _, rfl, rfl, _, _, rfl, rfl, hv⟩ := hv
  exact lv_land hx hb hd (K H locs cells slots tys ws _ LS lv b1 b2 hK hP hD hS hR hE ⟨_, _, rfl, rfl, hv⟩ hl hL)

theorem zs_lor (X : zFr p s m meth c y cc mL ret hh) {x y' : Int64} (hd : decode cc pc = .ok (.lor, 1)) (K : zGo p l e R s m args below meth c D adK b z0 mL ws0 mc ms r h' (pc + 1) (ls) (.long (x ||| y') :: r1) (h)) : zGo p l e R s m args below meth c D adK b z0 mL ws0 mc ms r h' (pc) (ls) (.long y' :: .long x :: r1) (h) := by
  intro H locs cells slots tys ws rst LS lv b1 b2 hK hP hD hS hR hE hv hl hL
  obtain ⟨hx, hb, hr, hml, hown, hlocks, hname, hexc⟩ := X
  obtain ⟨_, _, rfl, rfl, _, _, rfl, rfl, hv⟩ := hv
  exact lv_lor hx hb hd (K H locs cells slots tys ws _ LS lv b1 b2 hK hP hD hS hR hE ⟨_, _, rfl, rfl, hv⟩ hl hL)

theorem zs_ldiv (X : zFr p s m meth c y cc mL ret hh) {x y' : Int64} (hd : decode cc pc = .ok (.ldiv, 1)) (hne : ¬ y' = 0) (K : zGo p l e R s m args below meth c D adK b z0 mL ws0 mc ms r h' (pc + 1) (ls) (.long (x / y') :: r1) (h)) : zGo p l e R s m args below meth c D adK b z0 mL ws0 mc ms r h' (pc) (ls) (.long y' :: .long x :: r1) (h) := by
  intro H locs cells slots tys ws rst LS lv b1 b2 hK hP hD hS hR hE hv hl hL
  obtain ⟨hx, hb, hr, hml, hown, hlocks, hname, hexc⟩ := X
  obtain ⟨_, _, rfl, rfl, _, _, rfl, rfl, hv⟩ := hv
  exact lv_ldiv hx hb hd hne (K H locs cells slots tys ws _ LS lv b1 b2 hK hP hD hS hR hE ⟨_, _, rfl, rfl, hv⟩ hl hL)

theorem zs_lcmp (X : zFr p s m meth c y cc mL ret hh) {x y' : Int64} (hd : decode cc pc = .ok (.lcmp, 1)) (K : zGo p l e R s m args below meth c D adK b z0 mL ws0 mc ms r h' (pc + 1) (ls) (.int (lg_cmp x y') :: r1) (h)) : zGo p l e R s m args below meth c D adK b z0 mL ws0 mc ms r h' (pc) (ls) (.long y' :: .long x :: r1) (h) := by
  intro H locs cells slots tys ws rst LS lv b1 b2 hK hP hD hS hR hE hv hl hL
  obtain ⟨hx, hb, hr, hml, hown, hlocks, hname, hexc⟩ := X
  obtain ⟨_, _, rfl, rfl, _, _, rfl, rfl, hv⟩ := hv
  exact W.lcmp hx hb hd (K H locs cells slots tys ws _ LS lv b1 b2 hK hP hD hS hR hE ⟨_, _, rfl, rfl, hv⟩ hl hL)

theorem zs_i2l (X : zFr p s m meth c y cc mL ret hh) {x : Int32} (hd : decode cc pc = .ok (.i2l, 1)) (K : zGo p l e R s m args below meth c D adK b z0 mL ws0 mc ms r h' (pc + 1) (ls) (.long (x.toInt64) :: r1) (h)) : zGo p l e R s m args below meth c D adK b z0 mL ws0 mc ms r h' (pc) (ls) (.int x :: r1) (h) := by
  intro H locs cells slots tys ws rst LS lv b1 b2 hK hP hD hS hR hE hv hl hL
  obtain ⟨hx, hb, hr, hml, hown, hlocks, hname, hexc⟩ := X
  obtain ⟨_, _, rfl, rfl, hv⟩ := hv
  exact lv_i2l hx hb hd rfl (K H locs cells slots tys ws _ LS lv b1 b2 hK hP hD hS hR hE ⟨_, _, rfl, rfl, hv⟩ hl hL)

theorem zs_l2i (X : zFr p s m meth c y cc mL ret hh) {x : Int64} (hd : decode cc pc = .ok (.l2i, 1)) (K : zGo p l e R s m args below meth c D adK b z0 mL ws0 mc ms r h' (pc + 1) (ls) (.int (x.toInt32) :: r1) (h)) : zGo p l e R s m args below meth c D adK b z0 mL ws0 mc ms r h' (pc) (ls) (.long x :: r1) (h) := by
  intro H locs cells slots tys ws rst LS lv b1 b2 hK hP hD hS hR hE hv hl hL
  obtain ⟨hx, hb, hr, hml, hown, hlocks, hname, hexc⟩ := X
  obtain ⟨_, _, rfl, rfl, hv⟩ := hv
  exact lv_l2i hx hb hd rfl (K H locs cells slots tys ws _ LS lv b1 b2 hK hP hD hS hR hE ⟨_, _, rfl, rfl, hv⟩ hl hL)

theorem zs_i2b (X : zFr p s m meth c y cc mL ret hh) {x : Int32} (hd : decode cc pc = .ok (.i2b, 1)) (K : zGo p l e R s m args below meth c D adK b z0 mL ws0 mc ms r h' (pc + 1) (ls) (.int (x.toInt8.toInt32) :: r1) (h)) : zGo p l e R s m args below meth c D adK b z0 mL ws0 mc ms r h' (pc) (ls) (.int x :: r1) (h) := by
  intro H locs cells slots tys ws rst LS lv b1 b2 hK hP hD hS hR hE hv hl hL
  obtain ⟨hx, hb, hr, hml, hown, hlocks, hname, hexc⟩ := X
  obtain ⟨_, _, rfl, rfl, hv⟩ := hv
  exact lv_i2b hx hb hd rfl (K H locs cells slots tys ws _ LS lv b1 b2 hK hP hD hS hR hE ⟨_, _, rfl, rfl, hv⟩ hl hL)

theorem zs_dup (X : zFr p s m meth c y cc mL ret hh) {v : Value} (hd : decode cc pc = .ok (.dup, 1)) (h1 : zc1 v = true) (K : zGo p l e R s m args below meth c D adK b z0 mL ws0 mc ms r h' (pc + 1) (ls) (v :: v :: r1) (h)) : zGo p l e R s m args below meth c D adK b z0 mL ws0 mc ms r h' (pc) (ls) (v :: r1) (h) := by
  intro H locs cells slots tys ws rst LS lv b1 b2 hK hP hD hS hR hE hv hl hL
  obtain ⟨hx, hb, hr, hml, hown, hlocks, hname, hexc⟩ := X
  obtain ⟨rv, _, rfl, h2, hv⟩ := hv
  exact lv_dup hx hb hd (h2.cat1 h1) (K H locs cells slots tys ws _ LS lv b1 b2 hK hP hD hS hR hE ⟨_, _, rfl, h2, _, _, rfl, h2, hv⟩ hl hL)

theorem zs_dup2 (X : zFr p s m meth c y cc mL ret hh) {v u : Value} (hd : decode cc pc = .ok (.dup2, 1)) (h1 : zc1 v = true) (h3 : zc1 u = true) (K : zGo p l e R s m args below meth c D adK b z0 mL ws0 mc ms r h' (pc + 1) (ls) (v :: u :: v :: u :: r1) (h)) : zGo p l e R s m args below meth c D adK b z0 mL ws0 mc ms r h' (pc) (ls) (v :: u :: r1) (h) := by
  intro H locs cells slots tys ws rst LS lv b1 b2 hK hP hD hS hR hE hv hl hL
  obtain ⟨hx, hb, hr, hml, hown, hlocks, hname, hexc⟩ := X
  obtain ⟨rv, _, rfl, h2, ru, _, rfl, h4, hv⟩ := hv
  exact lv_dup2_11 hx hb hd (h2.cat1 h1) (h4.cat1 h3) (K H locs cells slots tys ws _ LS lv b1 b2 hK hP hD hS hR hE ⟨_, _, rfl, h2, _, _, rfl, h4, _, _, rfl, h2, _, _, rfl, h4, hv⟩ hl hL)

theorem zs_pop (X : zFr p s m meth c y cc mL ret hh) {v : Value} (hd : decode cc pc = .ok (.pop, 1)) (h1 : zc1 v = true) (K : zGo p l e R s m args below meth c D adK b z0 mL ws0 mc ms r h' (pc + 1) (ls) (r1) (h)) : zGo p l e R s m args below meth c D adK b z0 mL ws0 mc ms r h' (pc) (ls) (v :: r1) (h) := by
  intro H locs cells slots tys ws rst LS lv b1 b2 hK hP hD hS hR hE hv hl hL
  obtain ⟨hx, hb, hr, hml, hown, hlocks, hname, hexc⟩ := X
  obtain ⟨rv, _, rfl, h2, hv⟩ := hv
  exact lv_pop hx hb hd (h2.cat1 h1) (K H locs cells slots tys ws _ LS lv b1 b2 hK hP hD hS hR hE hv hl hL)

theorem zs_goto (X : zFr p s m meth c y cc mL ret hh) {off : Int} {t : Nat} (hd : decode cc pc = .ok (.goto off, 3)) (ht : (pc : Int) + off = (t : Int)) (K : zGo p l e R s m args below meth c D adK b z0 mL ws0 mc ms r h' (t) (ls) (st) (h)) : zGo p l e R s m args below meth c D adK b z0 mL ws0 mc ms r h' (pc) (ls) (st) (h) := by
  intro H locs cells slots tys ws rst LS lv b1 b2 hK hP hD hS hR hE hv hl hL
  obtain ⟨hx, hb, hr, hml, hown, hlocks, hname, hexc⟩ := X
  exact lv_goto hx hb hd ht (K H locs cells slots tys ws _ LS lv b1 b2 hK hP hD hS hR hE hv hl hL)

theorem zs_if1 (X : zFr p s m meth c y cc mL ret hh) {k : ClassFile.Cond} {off : Int} {t : Nat} {x : Int32} (hd : decode cc pc = .ok (.ifCond k off, 3)) (ht : (pc : Int) + off = (t : Int)) (K1 : zc0 k x → zGo p l e R s m args below meth c D adK b z0 mL ws0 mc ms r h' (t) (ls) (r1) (h)) (K2 : ¬ zc0 k x → zGo p l e R s m args below meth c D adK b z0 mL ws0 mc ms r h' (pc + 3) (ls) (r1) (h)) : zGo p l e R s m args below meth c D adK b z0 mL ws0 mc ms r h' (pc) (ls) (.int x :: r1) (h) := by
  intro H locs cells slots tys ws rst LS lv b1 b2 hK hP hD hS hR hE hv hl hL
  obtain ⟨hx, hb, hr, hml, hown, hlocks, hname, hexc⟩ := X
  obtain ⟨_, _, rfl, rfl, hv⟩ := hv
  cases k with
  | eq => exact lv_if_eq hx hb hd ht (fun w => K1 w H locs cells slots tys ws _ LS lv b1 b2 hK hP hD hS hR hE hv hl hL) (fun w => K2 w H locs cells slots tys ws _ LS lv b1 b2 hK hP hD hS hR hE hv hl hL)
  | ne => exact lv_if_ne hx hb hd ht (fun w => K1 w H locs cells slots tys ws _ LS lv b1 b2 hK hP hD hS hR hE hv hl hL) (fun w => K2 (fun z => z w) H locs cells slots tys ws _ LS lv b1 b2 hK hP hD hS hR hE hv hl hL)
  | lt => exact lv_if_lt hx hb hd ht (fun w => K1 w H locs cells slots tys ws _ LS lv b1 b2 hK hP hD hS hR hE hv hl hL) (fun w => K2 w H locs cells slots tys ws _ LS lv b1 b2 hK hP hD hS hR hE hv hl hL)
  | ge => exact lv_if_ge hx hb hd ht (fun w => K1 w H locs cells slots tys ws _ LS lv b1 b2 hK hP hD hS hR hE hv hl hL) (fun w => K2 w H locs cells slots tys ws _ LS lv b1 b2 hK hP hD hS hR hE hv hl hL)
  | gt => exact lv_if_gt hx hb hd ht (fun w => K1 w H locs cells slots tys ws _ LS lv b1 b2 hK hP hD hS hR hE hv hl hL) (fun w => K2 w H locs cells slots tys ws _ LS lv b1 b2 hK hP hD hS hR hE hv hl hL)
  | le => exact lv_if_le hx hb hd ht (fun w => K1 w H locs cells slots tys ws _ LS lv b1 b2 hK hP hD hS hR hE hv hl hL) (fun w => K2 w H locs cells slots tys ws _ LS lv b1 b2 hK hP hD hS hR hE hv hl hL)

theorem zs_if2 (X : zFr p s m meth c y cc mL ret hh) {k : ClassFile.Cond} {off : Int} {t : Nat} {x y' : Int32} (hd : decode cc pc = .ok (.if_icmp k off, 3)) (ht : (pc : Int) + off = (t : Int)) (K1 : zcc k x y' → zGo p l e R s m args below meth c D adK b z0 mL ws0 mc ms r h' (t) (ls) (r1) (h)) (K2 : ¬ zcc k x y' → zGo p l e R s m args below meth c D adK b z0 mL ws0 mc ms r h' (pc + 3) (ls) (r1) (h)) : zGo p l e R s m args below meth c D adK b z0 mL ws0 mc ms r h' (pc) (ls) (.int y' :: .int x :: r1) (h) := by
  intro H locs cells slots tys ws rst LS lv b1 b2 hK hP hD hS hR hE hv hl hL
  obtain ⟨hx, hb, hr, hml, hown, hlocks, hname, hexc⟩ := X
  obtain ⟨_, _, rfl, rfl, _, _, rfl, rfl, hv⟩ := hv
  cases k with
  | eq => exact lv_icmp_eq hx hb hd ht (fun w => K1 w H locs cells slots tys ws _ LS lv b1 b2 hK hP hD hS hR hE hv hl hL) (fun w => K2 w H locs cells slots tys ws _ LS lv b1 b2 hK hP hD hS hR hE hv hl hL)
  | ne => exact lv_icmp_ne hx hb hd ht (fun w => K1 w H locs cells slots tys ws _ LS lv b1 b2 hK hP hD hS hR hE hv hl hL) (fun w => K2 (fun z => z w) H locs cells slots tys ws _ LS lv b1 b2 hK hP hD hS hR hE hv hl hL)
  | lt => exact lv_icmp_lt hx hb hd ht (fun w => K1 w H locs cells slots tys ws _ LS lv b1 b2 hK hP hD hS hR hE hv hl hL) (fun w => K2 w H locs cells slots tys ws _ LS lv b1 b2 hK hP hD hS hR hE hv hl hL)
  | ge => exact lv_icmp_ge hx hb hd ht (fun w => K1 w H locs cells slots tys ws _ LS lv b1 b2 hK hP hD hS hR hE hv hl hL) (fun w => K2 w H locs cells slots tys ws _ LS lv b1 b2 hK hP hD hS hR hE hv hl hL)
  | gt => exact lv_icmp_gt hx hb hd ht (fun w => K1 w H locs cells slots tys ws _ LS lv b1 b2 hK hP hD hS hR hE hv hl hL) (fun w => K2 w H locs cells slots tys ws _ LS lv b1 b2 hK hP hD hS hR hE hv hl hL)
  | le => exact lv_icmp_le hx hb hd ht (fun w => K1 w H locs cells slots tys ws _ LS lv b1 b2 hK hP hD hS hR hE hv hl hL) (fun w => K2 w H locs cells slots tys ws _ LS lv b1 b2 hK hP hD hS hR hE hv hl hL)

theorem zs_ifnullN (X : zFr p s m meth c y cc mL ret hh) {off : Int} {t : Nat} (hd : decode cc pc = .ok (.ifnull off, 3)) (ht : (pc : Int) + off = (t : Int)) (K : zGo p l e R s m args below meth c D adK b z0 mL ws0 mc ms r h' (t) (ls) (r1) (h)) : zGo p l e R s m args below meth c D adK b z0 mL ws0 mc ms r h' (pc) (ls) (.null :: r1) (h) := by
  intro H locs cells slots tys ws rst LS lv b1 b2 hK hP hD hS hR hE hv hl hL
  obtain ⟨hx, hb, hr, hml, hown, hlocks, hname, hexc⟩ := X
  obtain ⟨_, _, rfl, rfl, hv⟩ := hv
  exact lv_ifnullN hx hb hd ht (K H locs cells slots tys ws _ LS lv b1 b2 hK hP hD hS hR hE hv hl hL)

theorem zs_ifnullR (X : zFr p s m meth c y cc mL ret hh) {off : Int} {a : Nat} (hd : decode cc pc = .ok (.ifnull off, 3)) (K : zGo p l e R s m args below meth c D adK b z0 mL ws0 mc ms r h' (pc + 3) (ls) (r1) (h)) : zGo p l e R s m args below meth c D adK b z0 mL ws0 mc ms r h' (pc) (ls) (.ref a :: r1) (h) := by
  intro H locs cells slots tys ws rst LS lv b1 b2 hK hP hD hS hR hE hv hl hL
  obtain ⟨hx, hb, hr, hml, hown, hlocks, hname, hexc⟩ := X
  obtain ⟨_, _, rfl, ⟨_, _, rfl⟩, hv⟩ := hv
  exact lv_ifnull hx hb hd (K H locs cells slots tys ws _ LS lv b1 b2 hK hP hD hS hR hE hv hl hL)

theorem zs_ifnonN (X : zFr p s m meth c y cc mL ret hh) {off : Int} (hd : decode cc pc = .ok (.ifnonnull off, 3)) (K : zGo p l e R s m args below meth c D adK b z0 mL ws0 mc ms r h' (pc + 3) (ls) (r1) (h)) : zGo p l e R s m args below meth c D adK b z0 mL ws0 mc ms r h' (pc) (ls) (.null :: r1) (h) := by
  intro H locs cells slots tys ws rst LS lv b1 b2 hK hP hD hS hR hE hv hl hL
  obtain ⟨hx, hb, hr, hml, hown, hlocks, hname, hexc⟩ := X
  obtain ⟨_, _, rfl, rfl, hv⟩ := hv
  exact lv_ifnonnullN hx hb hd (K H locs cells slots tys ws _ LS lv b1 b2 hK hP hD hS hR hE hv hl hL)

theorem zs_ifnonR (X : zFr p s m meth c y cc mL ret hh) {off : Int} {t a : Nat} (hd : decode cc pc = .ok (.ifnonnull off, 3)) (ht : (pc : Int) + off = (t : Int)) (K : zGo p l e R s m args below meth c D adK b z0 mL ws0 mc ms r h' (t) (ls) (r1) (h)) : zGo p l e R s m args below meth c D adK b z0 mL ws0 mc ms r h' (pc) (ls) (.ref a :: r1) (h) := by
  intro H locs cells slots tys ws rst LS lv b1 b2 hK hP hD hS hR hE hv hl hL
  obtain ⟨hx, hb, hr, hml, hown, hlocks, hname, hexc⟩ := X
  obtain ⟨_, _, rfl, ⟨_, _, rfl⟩, hv⟩ := hv
  exact lv_ifnonnull hx hb hd ht (K H locs cells slots tys ws _ LS lv b1 b2 hK hP hD hS hR hE hv hl hL)

theorem zswchk_spec {pc : Nat} : ∀ {offs : List Int} {lo : Int} {l : List (Int32 × Nat)}, zswchk pc offs lo l = true → offs.length = l.length ∧ ∀ (k : Nat) (x : Int32) (t : Nat), l[k]? = some (x, t) → x.toInt = lo + (k : Int) ∧ ∃ o, offs[k]? = some o ∧ (pc : Int) + o = (t : Int)
  | [], _, [], _ => ⟨rfl, fun k x t h => by simp at h⟩
  | o :: os, lo, (x, t) :: l, h => by
    simp only [zswchk, Bool.and_eq_true, decide_eq_true_eq] at h
    obtain ⟨h1, h2⟩ := zswchk_spec h.2
    refine ⟨by rw [List.length_cons, List.length_cons, h1], fun k x' t' hk => ?_⟩
    cases k with
    | zero =>
      cases (Option.some.inj (show some (x, t) = some (x', t') from hk))
      exact ⟨by rw [h.1.1]; simp, o, rfl, h.1.2⟩
    | succ k =>
      obtain ⟨h3, o', h4, h5⟩ := h2 k x' t' hk
      exact ⟨by rw [h3]; omega, o', h4, h5⟩
  | [], _, _ :: _, h => by simp [zswchk] at h
  | _ :: _, _, [], h => by simp [zswchk] at h
theorem zs_swIn (X : zFr p s m meth c y cc mL ret hh) {df lo hi : Int} {offs : Array Int} {ln : Nat} {L : List (Int32 × Nat)} {x : Int32} {t : Nat} (hd : decode cc pc = .ok (.tableswitch df lo hi offs, ln)) (hs : zswchk pc offs.toList lo L = true) (hz : lo + (offs.size : Int) = hi + 1) (hm : (x, t) ∈ L) (K : zGo p l e R s m args below meth c D adK b z0 mL ws0 mc ms r h' (t) (ls) (r1) (h)) : zGo p l e R s m args below meth c D adK b z0 mL ws0 mc ms r h' (pc) (ls) (.int x :: r1) (h) := by
  intro H locs cells slots tys ws rst LS lv b1 b2 hK hP hD hS hR hE hv hl hL
  obtain ⟨hx, hb, hr, hml, hown, hlocks, hname, hexc⟩ := X
  obtain ⟨_, _, rfl, rfl, hv⟩ := hv
  obtain ⟨h1, h2⟩ := zswchk_spec hs
  obtain ⟨k, hk⟩ := List.getElem?_of_mem hm
  obtain ⟨h3, o, h4, h5⟩ := h2 k x t hk
  have h6 := (List.getElem?_eq_some_iff.mp h4).1
  rw [Array.length_toList] at h6
  refine lv_tableIn hx hb hd (by omega) (by omega) (off := o) ?_ h5 (K H locs cells slots tys ws _ LS lv b1 b2 hK hP hD hS hR hE hv hl hL)
  have : (x.toInt - lo).toNat = k := by omega
  rw [this, ← Array.getElem?_toList]
  exact h4

theorem zs_swOut (X : zFr p s m meth c y cc mL ret hh) {df lo hi : Int} {offs : Array Int} {ln : Nat} {L : List (Int32 × Nat)} {x : Int32} {t : Nat} (hd : decode cc pc = .ok (.tableswitch df lo hi offs, ln)) (hs : zswchk pc offs.toList lo L = true) (hz : lo + (offs.size : Int) = hi + 1) (ht : (pc : Int) + df = (t : Int)) (hm : ∀ q ∈ L, x ≠ q.1) (K : zGo p l e R s m args below meth c D adK b z0 mL ws0 mc ms r h' (t) (ls) (r1) (h)) : zGo p l e R s m args below meth c D adK b z0 mL ws0 mc ms r h' (pc) (ls) (.int x :: r1) (h) := by
  intro H locs cells slots tys ws rst LS lv b1 b2 hK hP hD hS hR hE hv hl hL
  obtain ⟨hx, hb, hr, hml, hown, hlocks, hname, hexc⟩ := X
  obtain ⟨_, _, rfl, rfl, hv⟩ := hv
  obtain ⟨h1, h2⟩ := zswchk_spec hs
  refine lv_tableOut hx hb hd ?_ ht (K H locs cells slots tys ws _ LS lv b1 b2 hK hP hD hS hR hE hv hl hL)
  by_cases h3 : x.toInt < lo
  · exact Or.inl h3
  · by_cases h4 : hi < x.toInt
    · exact Or.inr h4
    · rw [Array.length_toList] at h1
      have h5 : (x.toInt - lo).toNat < L.length := by omega
      obtain ⟨h6, -⟩ := h2 (x.toInt - lo).toNat L[(x.toInt - lo).toNat].1 L[(x.toInt - lo).toNat].2 (List.getElem?_eq_getElem h5)
      refine absurd ?_ (hm _ (List.getElem_mem h5))
      exact Int32.toInt_inj.mp (by rw [h6]; omega)

end ZSTEP
end
