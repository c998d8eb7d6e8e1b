section
-- ===== PART A: goes FIRST, ahead of the names: the tables' words, and 'selects' of the private methods out of them =====
/-- a private method of a class that the tables say can be made, by its rows of tables_1 -/
def lw_okq (q : MethodName × Nat) : Prop := (q.1.cls ≠ "java/lang/invoke/MethodHandle" ∧ q.1.cls ≠ "java/lang/invoke/VarHandle") ∧ Cond.instantiable q.1.cls q.2 ∈ tables_1 ∧ Cond.privateMethod q.1 ∈ tables_1 ∧ Cond.instanceMethod q.1 ∈ tables_1
theorem lw_p0 : lw_okq (⟨"SandHouse$Tape", "append", "(I)V"⟩, 6) := ⟨⟨by decide +kernel, by decide +kernel⟩, List.mem_of_getElem? (i := 37) (by decide +kernel), List.mem_of_getElem? (i := 428) (by decide +kernel), List.mem_of_getElem? (i := 429) (by decide +kernel)⟩
theorem lw_p1 : lw_okq (⟨"SandHouse$Trials", "firstClogged", "(LSandHouse$Home;LSandHouse$Grains;)I"⟩, 2) := ⟨⟨by decide +kernel, by decide +kernel⟩, List.mem_of_getElem? (i := 331) (by decide +kernel), List.mem_of_getElem? (i := 444) (by decide +kernel), List.mem_of_getElem? (i := 445) (by decide +kernel)⟩
theorem lw_p2 : lw_okq (⟨"SandHouse$Grains", "copyFrom", "(LSandHouse$Grains;)V"⟩, 13) := ⟨⟨by decide +kernel, by decide +kernel⟩, List.mem_of_getElem? (i := 181) (by decide +kernel), List.mem_of_getElem? (i := 448) (by decide +kernel), List.mem_of_getElem? (i := 449) (by decide +kernel)⟩
theorem lw_p3 : lw_okq (⟨"SandHouse$Home", "goRound", "(LSandHouse$Grains;LSandHouse$Heels;)I"⟩, 3) := ⟨⟨by decide +kernel, by decide +kernel⟩, List.mem_of_getElem? (i := 70) (by decide +kernel), List.mem_of_getElem? (i := 455) (by decide +kernel), List.mem_of_getElem? (i := 456) (by decide +kernel)⟩
theorem lw_p4 : lw_okq (⟨"SandHouse$Home", "goOn", "(LSandHouse$Grains;ILSandHouse$Heels;)I"⟩, 3) := ⟨⟨by decide +kernel, by decide +kernel⟩, List.mem_of_getElem? (i := 70) (by decide +kernel), List.mem_of_getElem? (i := 459) (by decide +kernel), List.mem_of_getElem? (i := 460) (by decide +kernel)⟩
theorem lw_p5 : lw_okq (⟨"SandHouse$Plan", "step", "(II)I"⟩, 9) := ⟨⟨by decide +kernel, by decide +kernel⟩, List.mem_of_getElem? (i := 76) (by decide +kernel), List.mem_of_getElem? (i := 463) (by decide +kernel), List.mem_of_getElem? (i := 464) (by decide +kernel)⟩
theorem lw_p6 : lw_okq (⟨"SandHouse$Home", "look", "(LSandHouse$Grains;II)V"⟩, 3) := ⟨⟨by decide +kernel, by decide +kernel⟩, List.mem_of_getElem? (i := 70) (by decide +kernel), List.mem_of_getElem? (i := 467) (by decide +kernel), List.mem_of_getElem? (i := 468) (by decide +kernel)⟩
theorem lw_p7 : lw_okq (⟨"SandHouse$Grains", "carriedBy", "(I)I"⟩, 13) := ⟨⟨by decide +kernel, by decide +kernel⟩, List.mem_of_getElem? (i := 181) (by decide +kernel), List.mem_of_getElem? (i := 471) (by decide +kernel), List.mem_of_getElem? (i := 472) (by decide +kernel)⟩
theorem lw_p8 : lw_okq (⟨"SandHouse$Grains", "lyingIn", "(I)I"⟩, 13) := ⟨⟨by decide +kernel, by decide +kernel⟩, List.mem_of_getElem? (i := 181) (by decide +kernel), List.mem_of_getElem? (i := 475) (by decide +kernel), List.mem_of_getElem? (i := 476) (by decide +kernel)⟩
theorem lw_p9 : lw_okq (⟨"SandHouse$Law", "amountOf", "(I[I)I"⟩, 8) := ⟨⟨by decide +kernel, by decide +kernel⟩, List.mem_of_getElem? (i := 133) (by decide +kernel), List.mem_of_getElem? (i := 479) (by decide +kernel), List.mem_of_getElem? (i := 480) (by decide +kernel)⟩
theorem lw_p10 : lw_okq (⟨"SandHouse$Law", "holds", "(I[I)Z"⟩, 8) := ⟨⟨by decide +kernel, by decide +kernel⟩, List.mem_of_getElem? (i := 133) (by decide +kernel), List.mem_of_getElem? (i := 486) (by decide +kernel), List.mem_of_getElem? (i := 487) (by decide +kernel)⟩
theorem lw_p11 : lw_okq (⟨"SandHouse$Grains", "comeOnto", "(II)V"⟩, 13) := ⟨⟨by decide +kernel, by decide +kernel⟩, List.mem_of_getElem? (i := 181) (by decide +kernel), List.mem_of_getElem? (i := 493) (by decide +kernel), List.mem_of_getElem? (i := 494) (by decide +kernel)⟩
theorem lw_p12 : lw_okq (⟨"SandHouse$Grains", "draw", "()I"⟩, 13) := ⟨⟨by decide +kernel, by decide +kernel⟩, List.mem_of_getElem? (i := 181) (by decide +kernel), List.mem_of_getElem? (i := 499) (by decide +kernel), List.mem_of_getElem? (i := 500) (by decide +kernel)⟩
theorem lw_p13 : lw_okq (⟨"SandHouse$Grains", "takeFrom", "(II)I"⟩, 13) := ⟨⟨by decide +kernel, by decide +kernel⟩, List.mem_of_getElem? (i := 181) (by decide +kernel), List.mem_of_getElem? (i := 504) (by decide +kernel), List.mem_of_getElem? (i := 505) (by decide +kernel)⟩
theorem lw_p14 : lw_okq (⟨"SandHouse$Grains", "fall", "(III)I"⟩, 13) := ⟨⟨by decide +kernel, by decide +kernel⟩, List.mem_of_getElem? (i := 181) (by decide +kernel), List.mem_of_getElem? (i := 512) (by decide +kernel), List.mem_of_getElem? (i := 513) (by decide +kernel)⟩
theorem lw_p15 : lw_okq (⟨"SandHouse$Grains", "cling", "(III)V"⟩, 13) := ⟨⟨by decide +kernel, by decide +kernel⟩, List.mem_of_getElem? (i := 181) (by decide +kernel), List.mem_of_getElem? (i := 516) (by decide +kernel), List.mem_of_getElem? (i := 517) (by decide +kernel)⟩
def lw_privs_1 : List (MethodName × Nat) := [(⟨"SandHouse$Tape", "append", "(I)V"⟩, 6), (⟨"SandHouse$Trials", "firstClogged", "(LSandHouse$Home;LSandHouse$Grains;)I"⟩, 2), (⟨"SandHouse$Grains", "copyFrom", "(LSandHouse$Grains;)V"⟩, 13), (⟨"SandHouse$Home", "goRound", "(LSandHouse$Grains;LSandHouse$Heels;)I"⟩, 3), (⟨"SandHouse$Home", "goOn", "(LSandHouse$Grains;ILSandHouse$Heels;)I"⟩, 3), (⟨"SandHouse$Plan", "step", "(II)I"⟩, 9), (⟨"SandHouse$Home", "look", "(LSandHouse$Grains;II)V"⟩, 3), (⟨"SandHouse$Grains", "carriedBy", "(I)I"⟩, 13), (⟨"SandHouse$Grains", "lyingIn", "(I)I"⟩, 13), (⟨"SandHouse$Law", "amountOf", "(I[I)I"⟩, 8), (⟨"SandHouse$Law", "holds", "(I[I)Z"⟩, 8), (⟨"SandHouse$Grains", "comeOnto", "(II)V"⟩, 13), (⟨"SandHouse$Grains", "draw", "()I"⟩, 13), (⟨"SandHouse$Grains", "takeFrom", "(II)I"⟩, 13), (⟨"SandHouse$Grains", "fall", "(III)I"⟩, 13), (⟨"SandHouse$Grains", "cling", "(III)V"⟩, 13)]
theorem lw_r1 : ∀ q ∈ lw_privs_1, lw_okq q := List.forall_mem_cons.mpr ⟨lw_p0, List.forall_mem_cons.mpr ⟨lw_p1, List.forall_mem_cons.mpr ⟨lw_p2, List.forall_mem_cons.mpr ⟨lw_p3, List.forall_mem_cons.mpr ⟨lw_p4, List.forall_mem_cons.mpr ⟨lw_p5, List.forall_mem_cons.mpr ⟨lw_p6, List.forall_mem_cons.mpr ⟨lw_p7, List.forall_mem_cons.mpr ⟨lw_p8, List.forall_mem_cons.mpr ⟨lw_p9, List.forall_mem_cons.mpr ⟨lw_p10, List.forall_mem_cons.mpr ⟨lw_p11, List.forall_mem_cons.mpr ⟨lw_p12, List.forall_mem_cons.mpr ⟨lw_p13, List.forall_mem_cons.mpr ⟨lw_p14, List.forall_mem_cons.mpr ⟨lw_p15, fun _ h => absurd h List.not_mem_nil⟩⟩⟩⟩⟩⟩⟩⟩⟩⟩⟩⟩⟩⟩⟩⟩
theorem lw_p16 : lw_okq (⟨"SandHouse$Heels", "write", "(IIIII)V"⟩, 3) := ⟨⟨by decide +kernel, by decide +kernel⟩, List.mem_of_getElem? (i := 259) (by decide +kernel), List.mem_of_getElem? (i := 524) (by decide +kernel), List.mem_of_getElem? (i := 525) (by decide +kernel)⟩
theorem lw_p17 : lw_okq (⟨"SandHouse$Grains", "takeOutOf", "(II)I"⟩, 13) := ⟨⟨by decide +kernel, by decide +kernel⟩, List.mem_of_getElem? (i := 181) (by decide +kernel), List.mem_of_getElem? (i := 529) (by decide +kernel), List.mem_of_getElem? (i := 530) (by decide +kernel)⟩
theorem lw_p18 : lw_okq (⟨"SandHouse$Home", "mostInBeds", "(LSandHouse$Grains;)I"⟩, 3) := ⟨⟨by decide +kernel, by decide +kernel⟩, List.mem_of_getElem? (i := 70) (by decide +kernel), List.mem_of_getElem? (i := 537) (by decide +kernel), List.mem_of_getElem? (i := 538) (by decide +kernel)⟩
theorem lw_p19 : lw_okq (⟨"SandHouse$Plan", "everybody", "()I"⟩, 9) := ⟨⟨by decide +kernel, by decide +kernel⟩, List.mem_of_getElem? (i := 76) (by decide +kernel), List.mem_of_getElem? (i := 545) (by decide +kernel), List.mem_of_getElem? (i := 546) (by decide +kernel)⟩
theorem lw_p20 : lw_okq (⟨"SandHouse$Heels", "whoIn", "(I)I"⟩, 3) := ⟨⟨by decide +kernel, by decide +kernel⟩, List.mem_of_getElem? (i := 259) (by decide +kernel), List.mem_of_getElem? (i := 549) (by decide +kernel), List.mem_of_getElem? (i := 550) (by decide +kernel)⟩
theorem lw_p21 : lw_okq (⟨"SandHouse$Heels", "get", "(II)I"⟩, 3) := ⟨⟨by decide +kernel, by decide +kernel⟩, List.mem_of_getElem? (i := 259) (by decide +kernel), List.mem_of_getElem? (i := 553) (by decide +kernel), List.mem_of_getElem? (i := 554) (by decide +kernel)⟩
theorem lw_p22 : lw_okq (⟨"SandHouse$Past", "recall", "(LSandHouse$Grains;LSandHouse$Heels;)Z"⟩, 4) := ⟨⟨by decide +kernel, by decide +kernel⟩, List.mem_of_getElem? (i := 276) (by decide +kernel), List.mem_of_getElem? (i := 568) (by decide +kernel), List.mem_of_getElem? (i := 569) (by decide +kernel)⟩
theorem lw_p23 : lw_okq (⟨"SandHouse$Heels", "copyFrom", "(LSandHouse$Heels;)V"⟩, 3) := ⟨⟨by decide +kernel, by decide +kernel⟩, List.mem_of_getElem? (i := 259) (by decide +kernel), List.mem_of_getElem? (i := 573) (by decide +kernel), List.mem_of_getElem? (i := 574) (by decide +kernel)⟩
theorem lw_p24 : lw_okq (⟨"SandHouse$Image", "take", "(LSandHouse$Home;LSandHouse$Grains;LSandHouse$Heels;)V"⟩, 5) := ⟨⟨by decide +kernel, by decide +kernel⟩, List.mem_of_getElem? (i := 300) (by decide +kernel), List.mem_of_getElem? (i := 582) (by decide +kernel), List.mem_of_getElem? (i := 583) (by decide +kernel)⟩
theorem lw_p25 : lw_okq (⟨"SandHouse$Plan", "copyFrom", "(LSandHouse$Plan;)V"⟩, 9) := ⟨⟨by decide +kernel, by decide +kernel⟩, List.mem_of_getElem? (i := 76) (by decide +kernel), List.mem_of_getElem? (i := 586) (by decide +kernel), List.mem_of_getElem? (i := 587) (by decide +kernel)⟩
theorem lw_p26 : lw_okq (⟨"SandHouse$Law", "copyFrom", "(LSandHouse$Law;)V"⟩, 8) := ⟨⟨by decide +kernel, by decide +kernel⟩, List.mem_of_getElem? (i := 133) (by decide +kernel), List.mem_of_getElem? (i := 591) (by decide +kernel), List.mem_of_getElem? (i := 592) (by decide +kernel)⟩
theorem lw_p27 : lw_okq (⟨"SandHouse$Image", "give", "(LSandHouse$Home;LSandHouse$Grains;LSandHouse$Heels;)V"⟩, 5) := ⟨⟨by decide +kernel, by decide +kernel⟩, List.mem_of_getElem? (i := 300) (by decide +kernel), List.mem_of_getElem? (i := 602) (by decide +kernel), List.mem_of_getElem? (i := 603) (by decide +kernel)⟩
theorem lw_p28 : lw_okq (⟨"SandHouse$Past", "forget", "()V"⟩, 4) := ⟨⟨by decide +kernel, by decide +kernel⟩, List.mem_of_getElem? (i := 276) (by decide +kernel), List.mem_of_getElem? (i := 606) (by decide +kernel), List.mem_of_getElem? (i := 607) (by decide +kernel)⟩
theorem lw_p29 : lw_okq (⟨"SandHouse$Grains", "allLying", "()I"⟩, 13) := ⟨⟨by decide +kernel, by decide +kernel⟩, List.mem_of_getElem? (i := 181) (by decide +kernel), List.mem_of_getElem? (i := 614) (by decide +kernel), List.mem_of_getElem? (i := 615) (by decide +kernel)⟩
theorem lw_p30 : lw_okq (⟨"SandHouse$Grains", "allCarried", "()I"⟩, 13) := ⟨⟨by decide +kernel, by decide +kernel⟩, List.mem_of_getElem? (i := 181) (by decide +kernel), List.mem_of_getElem? (i := 619) (by decide +kernel), List.mem_of_getElem? (i := 620) (by decide +kernel)⟩
theorem lw_p31 : lw_okq (⟨"SandHouse$HouseReader", "read", "(LSandHouse$Tape;LSandHouse$Plan;LSandHouse$Grains;)I"⟩, 6) := ⟨⟨by decide +kernel, by decide +kernel⟩, List.mem_of_getElem? (i := 346) (by decide +kernel), List.mem_of_getElem? (i := 632) (by decide +kernel), List.mem_of_getElem? (i := 633) (by decide +kernel)⟩
def lw_privs_2 : List (MethodName × Nat) := [(⟨"SandHouse$Heels", "write", "(IIIII)V"⟩, 3), (⟨"SandHouse$Grains", "takeOutOf", "(II)I"⟩, 13), (⟨"SandHouse$Home", "mostInBeds", "(LSandHouse$Grains;)I"⟩, 3), (⟨"SandHouse$Plan", "everybody", "()I"⟩, 9), (⟨"SandHouse$Heels", "whoIn", "(I)I"⟩, 3), (⟨"SandHouse$Heels", "get", "(II)I"⟩, 3), (⟨"SandHouse$Past", "recall", "(LSandHouse$Grains;LSandHouse$Heels;)Z"⟩, 4), (⟨"SandHouse$Heels", "copyFrom", "(LSandHouse$Heels;)V"⟩, 3), (⟨"SandHouse$Image", "take", "(LSandHouse$Home;LSandHouse$Grains;LSandHouse$Heels;)V"⟩, 5), (⟨"SandHouse$Plan", "copyFrom", "(LSandHouse$Plan;)V"⟩, 9), (⟨"SandHouse$Law", "copyFrom", "(LSandHouse$Law;)V"⟩, 8), (⟨"SandHouse$Image", "give", "(LSandHouse$Home;LSandHouse$Grains;LSandHouse$Heels;)V"⟩, 5), (⟨"SandHouse$Past", "forget", "()V"⟩, 4), (⟨"SandHouse$Grains", "allLying", "()I"⟩, 13), (⟨"SandHouse$Grains", "allCarried", "()I"⟩, 13), (⟨"SandHouse$HouseReader", "read", "(LSandHouse$Tape;LSandHouse$Plan;LSandHouse$Grains;)I"⟩, 6)]
theorem lw_r2 : ∀ q ∈ lw_privs_2, lw_okq q := List.forall_mem_cons.mpr ⟨lw_p16, List.forall_mem_cons.mpr ⟨lw_p17, List.forall_mem_cons.mpr ⟨lw_p18, List.forall_mem_cons.mpr ⟨lw_p19, List.forall_mem_cons.mpr ⟨lw_p20, List.forall_mem_cons.mpr ⟨lw_p21, List.forall_mem_cons.mpr ⟨lw_p22, List.forall_mem_cons.mpr ⟨lw_p23, List.forall_mem_cons.mpr ⟨lw_p24, List.forall_mem_cons.mpr ⟨lw_p25, List.forall_mem_cons.mpr ⟨lw_p26, List.forall_mem_cons.mpr ⟨lw_p27, List.forall_mem_cons.mpr ⟨lw_p28, List.forall_mem_cons.mpr ⟨lw_p29, List.forall_mem_cons.mpr ⟨lw_p30, List.forall_mem_cons.mpr ⟨lw_p31, fun _ h => absurd h List.not_mem_nil⟩⟩⟩⟩⟩⟩⟩⟩⟩⟩⟩⟩⟩⟩⟩⟩
theorem lw_p32 : lw_okq (⟨"SandHouse$Tape", "begin", "()V"⟩, 6) := ⟨⟨by decide +kernel, by decide +kernel⟩, List.mem_of_getElem? (i := 37) (by decide +kernel), List.mem_of_getElem? (i := 638) (by decide +kernel), List.mem_of_getElem? (i := 639) (by decide +kernel)⟩
theorem lw_p33 : lw_okq (⟨"SandHouse$Tape", "advance", "()V"⟩, 6) := ⟨⟨by decide +kernel, by decide +kernel⟩, List.mem_of_getElem? (i := 37) (by decide +kernel), List.mem_of_getElem? (i := 642) (by decide +kernel), List.mem_of_getElem? (i := 643) (by decide +kernel)⟩
theorem lw_p34 : lw_okq (⟨"SandHouse$HouseReader", "line", "(LSandHouse$Tape;)Z"⟩, 6) := ⟨⟨by decide +kernel, by decide +kernel⟩, List.mem_of_getElem? (i := 346) (by decide +kernel), List.mem_of_getElem? (i := 646) (by decide +kernel), List.mem_of_getElem? (i := 647) (by decide +kernel)⟩
theorem lw_p35 : lw_okq (⟨"SandHouse$Tape", "wordAmong", "(Ljava/lang/String;)I"⟩, 6) := ⟨⟨by decide +kernel, by decide +kernel⟩, List.mem_of_getElem? (i := 37) (by decide +kernel), List.mem_of_getElem? (i := 651) (by decide +kernel), List.mem_of_getElem? (i := 652) (by decide +kernel)⟩
theorem lw_p36 : lw_okq (⟨"SandHouse$HouseReader", "roomLine", "(LSandHouse$Tape;)Z"⟩, 6) := ⟨⟨by decide +kernel, by decide +kernel⟩, List.mem_of_getElem? (i := 346) (by decide +kernel), List.mem_of_getElem? (i := 703) (by decide +kernel), List.mem_of_getElem? (i := 704) (by decide +kernel)⟩
theorem lw_p37 : lw_okq (⟨"SandHouse$HouseReader", "refuse", "(I)Z"⟩, 6) := ⟨⟨by decide +kernel, by decide +kernel⟩, List.mem_of_getElem? (i := 346) (by decide +kernel), List.mem_of_getElem? (i := 707) (by decide +kernel), List.mem_of_getElem? (i := 708) (by decide +kernel)⟩
theorem lw_p38 : lw_okq (⟨"SandHouse$HouseReader", "takeNumber", "(LSandHouse$Tape;II)Z"⟩, 6) := ⟨⟨by decide +kernel, by decide +kernel⟩, List.mem_of_getElem? (i := 346) (by decide +kernel), List.mem_of_getElem? (i := 713) (by decide +kernel), List.mem_of_getElem? (i := 714) (by decide +kernel)⟩
theorem lw_p39 : lw_okq (⟨"SandHouse$Tape", "isNumber", "(I)Z"⟩, 6) := ⟨⟨by decide +kernel, by decide +kernel⟩, List.mem_of_getElem? (i := 37) (by decide +kernel), List.mem_of_getElem? (i := 717) (by decide +kernel), List.mem_of_getElem? (i := 718) (by decide +kernel)⟩
theorem lw_p40 : lw_okq (⟨"SandHouse$HouseReader", "doorLine", "(LSandHouse$Tape;)Z"⟩, 6) := ⟨⟨by decide +kernel, by decide +kernel⟩, List.mem_of_getElem? (i := 346) (by decide +kernel), List.mem_of_getElem? (i := 721) (by decide +kernel), List.mem_of_getElem? (i := 722) (by decide +kernel)⟩
theorem lw_p41 : lw_okq (⟨"SandHouse$HouseReader", "takeTwo", "(LSandHouse$Tape;II)Z"⟩, 6) := ⟨⟨by decide +kernel, by decide +kernel⟩, List.mem_of_getElem? (i := 346) (by decide +kernel), List.mem_of_getElem? (i := 725) (by decide +kernel), List.mem_of_getElem? (i := 726) (by decide +kernel)⟩
theorem lw_p42 : lw_okq (⟨"SandHouse$HouseReader", "personLine", "(LSandHouse$Tape;)Z"⟩, 6) := ⟨⟨by decide +kernel, by decide +kernel⟩, List.mem_of_getElem? (i := 346) (by decide +kernel), List.mem_of_getElem? (i := 729) (by decide +kernel), List.mem_of_getElem? (i := 730) (by decide +kernel)⟩
theorem lw_p43 : lw_okq (⟨"SandHouse$HouseReader", "takeRoom", "(LSandHouse$Tape;)Z"⟩, 6) := ⟨⟨by decide +kernel, by decide +kernel⟩, List.mem_of_getElem? (i := 346) (by decide +kernel), List.mem_of_getElem? (i := 733) (by decide +kernel), List.mem_of_getElem? (i := 734) (by decide +kernel)⟩
theorem lw_p44 : lw_okq (⟨"SandHouse$Plan", "leads", "(II)Z"⟩, 9) := ⟨⟨by decide +kernel, by decide +kernel⟩, List.mem_of_getElem? (i := 76) (by decide +kernel), List.mem_of_getElem? (i := 737) (by decide +kernel), List.mem_of_getElem? (i := 738) (by decide +kernel)⟩
theorem lw_p45 : lw_okq (⟨"SandHouse$HouseReader", "loadLine", "(LSandHouse$Tape;)Z"⟩, 6) := ⟨⟨by decide +kernel, by decide +kernel⟩, List.mem_of_getElem? (i := 346) (by decide +kernel), List.mem_of_getElem? (i := 741) (by decide +kernel), List.mem_of_getElem? (i := 742) (by decide +kernel)⟩
theorem lw_p46 : lw_okq (⟨"SandHouse$HouseReader", "sandLine", "(LSandHouse$Tape;)Z"⟩, 6) := ⟨⟨by decide +kernel, by decide +kernel⟩, List.mem_of_getElem? (i := 346) (by decide +kernel), List.mem_of_getElem? (i := 746) (by decide +kernel), List.mem_of_getElem? (i := 747) (by decide +kernel)⟩
theorem lw_p47 : lw_okq (⟨"SandHouse$Grains", "comeInto", "(III)V"⟩, 13) := ⟨⟨by decide +kernel, by decide +kernel⟩, List.mem_of_getElem? (i := 181) (by decide +kernel), List.mem_of_getElem? (i := 750) (by decide +kernel), List.mem_of_getElem? (i := 751) (by decide +kernel)⟩
def lw_privs_3 : List (MethodName × Nat) := [(⟨"SandHouse$Tape", "begin", "()V"⟩, 6), (⟨"SandHouse$Tape", "advance", "()V"⟩, 6), (⟨"SandHouse$HouseReader", "line", "(LSandHouse$Tape;)Z"⟩, 6), (⟨"SandHouse$Tape", "wordAmong", "(Ljava/lang/String;)I"⟩, 6), (⟨"SandHouse$HouseReader", "roomLine", "(LSandHouse$Tape;)Z"⟩, 6), (⟨"SandHouse$HouseReader", "refuse", "(I)Z"⟩, 6), (⟨"SandHouse$HouseReader", "takeNumber", "(LSandHouse$Tape;II)Z"⟩, 6), (⟨"SandHouse$Tape", "isNumber", "(I)Z"⟩, 6), (⟨"SandHouse$HouseReader", "doorLine", "(LSandHouse$Tape;)Z"⟩, 6), (⟨"SandHouse$HouseReader", "takeTwo", "(LSandHouse$Tape;II)Z"⟩, 6), (⟨"SandHouse$HouseReader", "personLine", "(LSandHouse$Tape;)Z"⟩, 6), (⟨"SandHouse$HouseReader", "takeRoom", "(LSandHouse$Tape;)Z"⟩, 6), (⟨"SandHouse$Plan", "leads", "(II)Z"⟩, 9), (⟨"SandHouse$HouseReader", "loadLine", "(LSandHouse$Tape;)Z"⟩, 6), (⟨"SandHouse$HouseReader", "sandLine", "(LSandHouse$Tape;)Z"⟩, 6), (⟨"SandHouse$Grains", "comeInto", "(III)V"⟩, 13)]
theorem lw_r3 : ∀ q ∈ lw_privs_3, lw_okq q := List.forall_mem_cons.mpr ⟨lw_p32, List.forall_mem_cons.mpr ⟨lw_p33, List.forall_mem_cons.mpr ⟨lw_p34, List.forall_mem_cons.mpr ⟨lw_p35, List.forall_mem_cons.mpr ⟨lw_p36, List.forall_mem_cons.mpr ⟨lw_p37, List.forall_mem_cons.mpr ⟨lw_p38, List.forall_mem_cons.mpr ⟨lw_p39, List.forall_mem_cons.mpr ⟨lw_p40, List.forall_mem_cons.mpr ⟨lw_p41, List.forall_mem_cons.mpr ⟨lw_p42, List.forall_mem_cons.mpr ⟨lw_p43, List.forall_mem_cons.mpr ⟨lw_p44, List.forall_mem_cons.mpr ⟨lw_p45, List.forall_mem_cons.mpr ⟨lw_p46, List.forall_mem_cons.mpr ⟨lw_p47, fun _ h => absurd h List.not_mem_nil⟩⟩⟩⟩⟩⟩⟩⟩⟩⟩⟩⟩⟩⟩⟩⟩
theorem lw_p48 : lw_okq (⟨"SandHouse$HouseReader", "toolLine", "(LSandHouse$Tape;)Z"⟩, 6) := ⟨⟨by decide +kernel, by decide +kernel⟩, List.mem_of_getElem? (i := 346) (by decide +kernel), List.mem_of_getElem? (i := 754) (by decide +kernel), List.mem_of_getElem? (i := 755) (by decide +kernel)⟩
theorem lw_p49 : lw_okq (⟨"SandHouse$HouseReader", "keepsLine", "(LSandHouse$Tape;)Z"⟩, 6) := ⟨⟨by decide +kernel, by decide +kernel⟩, List.mem_of_getElem? (i := 346) (by decide +kernel), List.mem_of_getElem? (i := 758) (by decide +kernel), List.mem_of_getElem? (i := 759) (by decide +kernel)⟩
theorem lw_p50 : lw_okq (⟨"SandHouse$HouseReader", "wetLine", "(LSandHouse$Tape;)Z"⟩, 6) := ⟨⟨by decide +kernel, by decide +kernel⟩, List.mem_of_getElem? (i := 346) (by decide +kernel), List.mem_of_getElem? (i := 762) (by decide +kernel), List.mem_of_getElem? (i := 763) (by decide +kernel)⟩
theorem lw_p51 : lw_okq (⟨"SandHouse$HouseReader", "clogLine", "(LSandHouse$Tape;)Z"⟩, 6) := ⟨⟨by decide +kernel, by decide +kernel⟩, List.mem_of_getElem? (i := 346) (by decide +kernel), List.mem_of_getElem? (i := 766) (by decide +kernel), List.mem_of_getElem? (i := 767) (by decide +kernel)⟩
theorem lw_p52 : lw_okq (⟨"SandHouse$Tape", "isSign", "(C)Z"⟩, 6) := ⟨⟨by decide +kernel, by decide +kernel⟩, List.mem_of_getElem? (i := 37) (by decide +kernel), List.mem_of_getElem? (i := 771) (by decide +kernel), List.mem_of_getElem? (i := 772) (by decide +kernel)⟩
theorem lw_p53 : lw_okq (⟨"java/lang/Throwable", "fillInStackTrace", "(I)Ljava/lang/Throwable;"⟩, 6) := ⟨⟨by decide +kernel, by decide +kernel⟩, List.mem_of_getElem? (i := 814) (by decide +kernel), List.mem_of_getElem? (i := 812) (by decide +kernel), List.mem_of_getElem? (i := 813) (by decide +kernel)⟩
theorem lw_p54 : lw_okq (⟨"SandHouse$LawReader", "read", "(LSandHouse$Tape;)I"⟩, 2) := ⟨⟨by decide +kernel, by decide +kernel⟩, List.mem_of_getElem? (i := 377) (by decide +kernel), List.mem_of_getElem? (i := 869) (by decide +kernel), List.mem_of_getElem? (i := 870) (by decide +kernel)⟩
theorem lw_p55 : lw_okq (⟨"SandHouse$Law", "clear", "()V"⟩, 8) := ⟨⟨by decide +kernel, by decide +kernel⟩, List.mem_of_getElem? (i := 133) (by decide +kernel), List.mem_of_getElem? (i := 873) (by decide +kernel), List.mem_of_getElem? (i := 874) (by decide +kernel)⟩
theorem lw_p56 : lw_okq (⟨"SandHouse$LawReader", "line", "(LSandHouse$Tape;)Z"⟩, 2) := ⟨⟨by decide +kernel, by decide +kernel⟩, List.mem_of_getElem? (i := 377) (by decide +kernel), List.mem_of_getElem? (i := 878) (by decide +kernel), List.mem_of_getElem? (i := 879) (by decide +kernel)⟩
theorem lw_p57 : lw_okq (⟨"SandHouse$LawReader", "refuse", "(I)Z"⟩, 2) := ⟨⟨by decide +kernel, by decide +kernel⟩, List.mem_of_getElem? (i := 377) (by decide +kernel), List.mem_of_getElem? (i := 884) (by decide +kernel), List.mem_of_getElem? (i := 885) (by decide +kernel)⟩
theorem lw_p58 : lw_okq (⟨"SandHouse$Law", "openLine", "(II)V"⟩, 8) := ⟨⟨by decide +kernel, by decide +kernel⟩, List.mem_of_getElem? (i := 133) (by decide +kernel), List.mem_of_getElem? (i := 890) (by decide +kernel), List.mem_of_getElem? (i := 891) (by decide +kernel)⟩
theorem lw_p59 : lw_okq (⟨"SandHouse$Tape", "isWord", "(Ljava/lang/String;)Z"⟩, 6) := ⟨⟨by decide +kernel, by decide +kernel⟩, List.mem_of_getElem? (i := 37) (by decide +kernel), List.mem_of_getElem? (i := 895) (by decide +kernel), List.mem_of_getElem? (i := 896) (by decide +kernel)⟩
theorem lw_p60 : lw_okq (⟨"SandHouse$LawReader", "condition", "(LSandHouse$Tape;I)Z"⟩, 2) := ⟨⟨by decide +kernel, by decide +kernel⟩, List.mem_of_getElem? (i := 377) (by decide +kernel), List.mem_of_getElem? (i := 900) (by decide +kernel), List.mem_of_getElem? (i := 901) (by decide +kernel)⟩
theorem lw_p61 : lw_okq (⟨"SandHouse$LawReader", "atom", "(LSandHouse$Tape;I)Z"⟩, 2) := ⟨⟨by decide +kernel, by decide +kernel⟩, List.mem_of_getElem? (i := 377) (by decide +kernel), List.mem_of_getElem? (i := 904) (by decide +kernel), List.mem_of_getElem? (i := 905) (by decide +kernel)⟩
theorem lw_p62 : lw_okq (⟨"SandHouse$LawReader", "negation", "(LSandHouse$Tape;I)Z"⟩, 2) := ⟨⟨by decide +kernel, by decide +kernel⟩, List.mem_of_getElem? (i := 377) (by decide +kernel), List.mem_of_getElem? (i := 910) (by decide +kernel), List.mem_of_getElem? (i := 911) (by decide +kernel)⟩
theorem lw_p63 : lw_okq (⟨"SandHouse$Law", "write", "(I)V"⟩, 8) := ⟨⟨by decide +kernel, by decide +kernel⟩, List.mem_of_getElem? (i := 133) (by decide +kernel), List.mem_of_getElem? (i := 914) (by decide +kernel), List.mem_of_getElem? (i := 915) (by decide +kernel)⟩
def lw_privs_4 : List (MethodName × Nat) := [(⟨"SandHouse$HouseReader", "toolLine", "(LSandHouse$Tape;)Z"⟩, 6), (⟨"SandHouse$HouseReader", "keepsLine", "(LSandHouse$Tape;)Z"⟩, 6), (⟨"SandHouse$HouseReader", "wetLine", "(LSandHouse$Tape;)Z"⟩, 6), (⟨"SandHouse$HouseReader", "clogLine", "(LSandHouse$Tape;)Z"⟩, 6), (⟨"SandHouse$Tape", "isSign", "(C)Z"⟩, 6), (⟨"java/lang/Throwable", "fillInStackTrace", "(I)Ljava/lang/Throwable;"⟩, 6), (⟨"SandHouse$LawReader", "read", "(LSandHouse$Tape;)I"⟩, 2), (⟨"SandHouse$Law", "clear", "()V"⟩, 8), (⟨"SandHouse$LawReader", "line", "(LSandHouse$Tape;)Z"⟩, 2), (⟨"SandHouse$LawReader", "refuse", "(I)Z"⟩, 2), (⟨"SandHouse$Law", "openLine", "(II)V"⟩, 8), (⟨"SandHouse$Tape", "isWord", "(Ljava/lang/String;)Z"⟩, 6), (⟨"SandHouse$LawReader", "condition", "(LSandHouse$Tape;I)Z"⟩, 2), (⟨"SandHouse$LawReader", "atom", "(LSandHouse$Tape;I)Z"⟩, 2), (⟨"SandHouse$LawReader", "negation", "(LSandHouse$Tape;I)Z"⟩, 2), (⟨"SandHouse$Law", "write", "(I)V"⟩, 8)]
theorem lw_r4 : ∀ q ∈ lw_privs_4, lw_okq q := List.forall_mem_cons.mpr ⟨lw_p48, List.forall_mem_cons.mpr ⟨lw_p49, List.forall_mem_cons.mpr ⟨lw_p50, List.forall_mem_cons.mpr ⟨lw_p51, List.forall_mem_cons.mpr ⟨lw_p52, List.forall_mem_cons.mpr ⟨lw_p53, List.forall_mem_cons.mpr ⟨lw_p54, List.forall_mem_cons.mpr ⟨lw_p55, List.forall_mem_cons.mpr ⟨lw_p56, List.forall_mem_cons.mpr ⟨lw_p57, List.forall_mem_cons.mpr ⟨lw_p58, List.forall_mem_cons.mpr ⟨lw_p59, List.forall_mem_cons.mpr ⟨lw_p60, List.forall_mem_cons.mpr ⟨lw_p61, List.forall_mem_cons.mpr ⟨lw_p62, List.forall_mem_cons.mpr ⟨lw_p63, fun _ h => absurd h List.not_mem_nil⟩⟩⟩⟩⟩⟩⟩⟩⟩⟩⟩⟩⟩⟩⟩⟩
theorem lw_p64 : lw_okq (⟨"SandHouse$LawReader", "bracket", "(LSandHouse$Tape;I)Z"⟩, 2) := ⟨⟨by decide +kernel, by decide +kernel⟩, List.mem_of_getElem? (i := 377) (by decide +kernel), List.mem_of_getElem? (i := 918) (by decide +kernel), List.mem_of_getElem? (i := 919) (by decide +kernel)⟩
theorem lw_p65 : lw_okq (⟨"SandHouse$LawReader", "comparison", "(LSandHouse$Tape;)Z"⟩, 2) := ⟨⟨by decide +kernel, by decide +kernel⟩, List.mem_of_getElem? (i := 377) (by decide +kernel), List.mem_of_getElem? (i := 924) (by decide +kernel), List.mem_of_getElem? (i := 925) (by decide +kernel)⟩
theorem lw_p66 : lw_okq (⟨"SandHouse$Law", "closeLine", "()V"⟩, 8) := ⟨⟨by decide +kernel, by decide +kernel⟩, List.mem_of_getElem? (i := 133) (by decide +kernel), List.mem_of_getElem? (i := 931) (by decide +kernel), List.mem_of_getElem? (i := 932) (by decide +kernel)⟩
theorem lw_p67 : lw_okq (⟨"SandHouse", "needRoom", "(I)V"⟩, 10) := ⟨⟨by decide +kernel, by decide +kernel⟩, List.mem_of_getElem? (i := 29) (by decide +kernel), List.mem_of_getElem? (i := 946) (by decide +kernel), List.mem_of_getElem? (i := 947) (by decide +kernel)⟩
theorem lw_p68 : lw_okq (⟨"SandHouse$Home", "whoIsIn", "(LSandHouse$Grains;I)I"⟩, 3) := ⟨⟨by decide +kernel, by decide +kernel⟩, List.mem_of_getElem? (i := 70) (by decide +kernel), List.mem_of_getElem? (i := 967) (by decide +kernel), List.mem_of_getElem? (i := 968) (by decide +kernel)⟩
theorem lw_p69 : lw_okq (⟨"SandHouse$Home", "whoWasIn", "(LSandHouse$Grains;II)I"⟩, 3) := ⟨⟨by decide +kernel, by decide +kernel⟩, List.mem_of_getElem? (i := 70) (by decide +kernel), List.mem_of_getElem? (i := 971) (by decide +kernel), List.mem_of_getElem? (i := 972) (by decide +kernel)⟩
theorem lw_p70 : lw_okq (⟨"SandHouse$Plan", "stepFrom", "(III)I"⟩, 9) := ⟨⟨by decide +kernel, by decide +kernel⟩, List.mem_of_getElem? (i := 76) (by decide +kernel), List.mem_of_getElem? (i := 975) (by decide +kernel), List.mem_of_getElem? (i := 976) (by decide +kernel)⟩
theorem lw_p71 : lw_okq (⟨"SandHouse$Home", "sweepsOf", "(LSandHouse$Grains;I)I"⟩, 3) := ⟨⟨by decide +kernel, by decide +kernel⟩, List.mem_of_getElem? (i := 70) (by decide +kernel), List.mem_of_getElem? (i := 981) (by decide +kernel), List.mem_of_getElem? (i := 982) (by decide +kernel)⟩
theorem lw_p72 : lw_okq (⟨"SandHouse", "needPerson", "(I)V"⟩, 10) := ⟨⟨by decide +kernel, by decide +kernel⟩, List.mem_of_getElem? (i := 29) (by decide +kernel), List.mem_of_getElem? (i := 1008) (by decide +kernel), List.mem_of_getElem? (i := 1009) (by decide +kernel)⟩
theorem lw_p73 : lw_okq (⟨"SandHouse$Plan", "roams", "(I)I"⟩, 9) := ⟨⟨by decide +kernel, by decide +kernel⟩, List.mem_of_getElem? (i := 76) (by decide +kernel), List.mem_of_getElem? (i := 1022) (by decide +kernel), List.mem_of_getElem? (i := 1023) (by decide +kernel)⟩
theorem lw_p74 : lw_okq (⟨"SandHouse$Home", "ruleOf", "(LSandHouse$Grains;III)I"⟩, 3) := ⟨⟨by decide +kernel, by decide +kernel⟩, List.mem_of_getElem? (i := 70) (by decide +kernel), List.mem_of_getElem? (i := 1049) (by decide +kernel), List.mem_of_getElem? (i := 1050) (by decide +kernel)⟩
theorem lw_p75 : lw_okq (⟨"SandHouse$Past", "remember", "(LSandHouse$Grains;LSandHouse$Heels;)V"⟩, 4) := ⟨⟨by decide +kernel, by decide +kernel⟩, List.mem_of_getElem? (i := 276) (by decide +kernel), List.mem_of_getElem? (i := 1064) (by decide +kernel), List.mem_of_getElem? (i := 1065) (by decide +kernel)⟩
theorem lw_p76 : lw_okq (⟨"SandHouse$Home", "sweepOnce", "(LSandHouse$Grains;I)I"⟩, 3) := ⟨⟨by decide +kernel, by decide +kernel⟩, List.mem_of_getElem? (i := 70) (by decide +kernel), List.mem_of_getElem? (i := 1079) (by decide +kernel), List.mem_of_getElem? (i := 1080) (by decide +kernel)⟩
theorem lw_p77 : lw_okq (⟨"SandHouse$Grains", "beatOut", "(I)I"⟩, 13) := ⟨⟨by decide +kernel, by decide +kernel⟩, List.mem_of_getElem? (i := 181) (by decide +kernel), List.mem_of_getElem? (i := 1091) (by decide +kernel), List.mem_of_getElem? (i := 1092) (by decide +kernel)⟩
theorem lw_p78 : lw_okq (⟨"SandHouse$Trials", "outcome", "(LSandHouse$Home;LSandHouse$Grains;II)I"⟩, 2) := ⟨⟨by decide +kernel, by decide +kernel⟩, List.mem_of_getElem? (i := 331) (by decide +kernel), List.mem_of_getElem? (i := 1125) (by decide +kernel), List.mem_of_getElem? (i := 1126) (by decide +kernel)⟩
theorem lw_p79 : lw_okq (⟨"SandHouse$Trials", "bedsBehind", "(LSandHouse$Home;I)I"⟩, 2) := ⟨⟨by decide +kernel, by decide +kernel⟩, List.mem_of_getElem? (i := 331) (by decide +kernel), List.mem_of_getElem? (i := 1129) (by decide +kernel), List.mem_of_getElem? (i := 1130) (by decide +kernel)⟩
def lw_privs_5 : List (MethodName × Nat) := [(⟨"SandHouse$LawReader", "bracket", "(LSandHouse$Tape;I)Z"⟩, 2), (⟨"SandHouse$LawReader", "comparison", "(LSandHouse$Tape;)Z"⟩, 2), (⟨"SandHouse$Law", "closeLine", "()V"⟩, 8), (⟨"SandHouse", "needRoom", "(I)V"⟩, 10), (⟨"SandHouse$Home", "whoIsIn", "(LSandHouse$Grains;I)I"⟩, 3), (⟨"SandHouse$Home", "whoWasIn", "(LSandHouse$Grains;II)I"⟩, 3), (⟨"SandHouse$Plan", "stepFrom", "(III)I"⟩, 9), (⟨"SandHouse$Home", "sweepsOf", "(LSandHouse$Grains;I)I"⟩, 3), (⟨"SandHouse", "needPerson", "(I)V"⟩, 10), (⟨"SandHouse$Plan", "roams", "(I)I"⟩, 9), (⟨"SandHouse$Home", "ruleOf", "(LSandHouse$Grains;III)I"⟩, 3), (⟨"SandHouse$Past", "remember", "(LSandHouse$Grains;LSandHouse$Heels;)V"⟩, 4), (⟨"SandHouse$Home", "sweepOnce", "(LSandHouse$Grains;I)I"⟩, 3), (⟨"SandHouse$Grains", "beatOut", "(I)I"⟩, 13), (⟨"SandHouse$Trials", "outcome", "(LSandHouse$Home;LSandHouse$Grains;II)I"⟩, 2), (⟨"SandHouse$Trials", "bedsBehind", "(LSandHouse$Home;I)I"⟩, 2)]
theorem lw_r5 : ∀ q ∈ lw_privs_5, lw_okq q := List.forall_mem_cons.mpr ⟨lw_p64, List.forall_mem_cons.mpr ⟨lw_p65, List.forall_mem_cons.mpr ⟨lw_p66, List.forall_mem_cons.mpr ⟨lw_p67, List.forall_mem_cons.mpr ⟨lw_p68, List.forall_mem_cons.mpr ⟨lw_p69, List.forall_mem_cons.mpr ⟨lw_p70, List.forall_mem_cons.mpr ⟨lw_p71, List.forall_mem_cons.mpr ⟨lw_p72, List.forall_mem_cons.mpr ⟨lw_p73, List.forall_mem_cons.mpr ⟨lw_p74, List.forall_mem_cons.mpr ⟨lw_p75, List.forall_mem_cons.mpr ⟨lw_p76, List.forall_mem_cons.mpr ⟨lw_p77, List.forall_mem_cons.mpr ⟨lw_p78, List.forall_mem_cons.mpr ⟨lw_p79, fun _ h => absurd h List.not_mem_nil⟩⟩⟩⟩⟩⟩⟩⟩⟩⟩⟩⟩⟩⟩⟩⟩
theorem lw_p80 : lw_okq (⟨"SandHouse$Home", "inBeds", "(LSandHouse$Grains;)I"⟩, 3) := ⟨⟨by decide +kernel, by decide +kernel⟩, List.mem_of_getElem? (i := 70) (by decide +kernel), List.mem_of_getElem? (i := 1133) (by decide +kernel), List.mem_of_getElem? (i := 1134) (by decide +kernel)⟩
theorem lw_p81 : lw_okq (⟨"SandHouse$Home", "inside", "(LSandHouse$Grains;)I"⟩, 3) := ⟨⟨by decide +kernel, by decide +kernel⟩, List.mem_of_getElem? (i := 70) (by decide +kernel), List.mem_of_getElem? (i := 1137) (by decide +kernel), List.mem_of_getElem? (i := 1138) (by decide +kernel)⟩
theorem lw_p82 : lw_okq (⟨"SandHouse$Trials", "worthOf", "(LSandHouse$Home;LSandHouse$Grains;III)I"⟩, 2) := ⟨⟨by decide +kernel, by decide +kernel⟩, List.mem_of_getElem? (i := 331) (by decide +kernel), List.mem_of_getElem? (i := 1149) (by decide +kernel), List.mem_of_getElem? (i := 1150) (by decide +kernel)⟩
theorem lw_p83 : lw_okq (⟨"SandHouse$Trials", "bestRoom", "(LSandHouse$Home;LSandHouse$Grains;IIZ)I"⟩, 2) := ⟨⟨by decide +kernel, by decide +kernel⟩, List.mem_of_getElem? (i := 331) (by decide +kernel), List.mem_of_getElem? (i := 1160) (by decide +kernel), List.mem_of_getElem? (i := 1161) (by decide +kernel)⟩
theorem lw_p84 : lw_okq (⟨"SandHouse$Trials", "bestPair", "(LSandHouse$Home;LSandHouse$Grains;II)I"⟩, 2) := ⟨⟨by decide +kernel, by decide +kernel⟩, List.mem_of_getElem? (i := 331) (by decide +kernel), List.mem_of_getElem? (i := 1171) (by decide +kernel), List.mem_of_getElem? (i := 1172) (by decide +kernel)⟩
theorem lw_p85 : lw_okq (⟨"SandHouse$Trials", "fewestKeepers", "(LSandHouse$Home;LSandHouse$Grains;II)I"⟩, 2) := ⟨⟨by decide +kernel, by decide +kernel⟩, List.mem_of_getElem? (i := 331) (by decide +kernel), List.mem_of_getElem? (i := 1183) (by decide +kernel), List.mem_of_getElem? (i := 1184) (by decide +kernel)⟩
theorem lw_p86 : lw_okq (⟨"SandHouse$Trials", "quickestRooms", "(LSandHouse$Home;LSandHouse$Grains;I)I"⟩, 2) := ⟨⟨by decide +kernel, by decide +kernel⟩, List.mem_of_getElem? (i := 331) (by decide +kernel), List.mem_of_getElem? (i := 1201) (by decide +kernel), List.mem_of_getElem? (i := 1202) (by decide +kernel)⟩
theorem lw_p87 : lw_okq (⟨"SandHouse$Trials", "sweptOf", "(II)I"⟩, 2) := ⟨⟨by decide +kernel, by decide +kernel⟩, List.mem_of_getElem? (i := 331) (by decide +kernel), List.mem_of_getElem? (i := 1206) (by decide +kernel), List.mem_of_getElem? (i := 1207) (by decide +kernel)⟩
theorem lw_p88 : lw_okq (⟨"SandHouse$Plan", "minutesOf", "(I)I"⟩, 9) := ⟨⟨by decide +kernel, by decide +kernel⟩, List.mem_of_getElem? (i := 76) (by decide +kernel), List.mem_of_getElem? (i := 1210) (by decide +kernel), List.mem_of_getElem? (i := 1211) (by decide +kernel)⟩
theorem lw_p89 : lw_okq (⟨"SandHouse$Trials", "seldomest", "(LSandHouse$Home;LSandHouse$Grains;II)I"⟩, 2) := ⟨⟨by decide +kernel, by decide +kernel⟩, List.mem_of_getElem? (i := 331) (by decide +kernel), List.mem_of_getElem? (i := 1222) (by decide +kernel), List.mem_of_getElem? (i := 1223) (by decide +kernel)⟩
theorem lw_p90 : lw_okq (⟨"SandHouse$Trials", "staysBelow", "(LSandHouse$Home;LSandHouse$Grains;III)Z"⟩, 2) := ⟨⟨by decide +kernel, by decide +kernel⟩, List.mem_of_getElem? (i := 331) (by decide +kernel), List.mem_of_getElem? (i := 1226) (by decide +kernel), List.mem_of_getElem? (i := 1227) (by decide +kernel)⟩
theorem lw_p91 : lw_okq (⟨"SandHouse$Home", "sweepInside", "(LSandHouse$Grains;)V"⟩, 3) := ⟨⟨by decide +kernel, by decide +kernel⟩, List.mem_of_getElem? (i := 70) (by decide +kernel), List.mem_of_getElem? (i := 1230) (by decide +kernel), List.mem_of_getElem? (i := 1231) (by decide +kernel)⟩
theorem lw_p92 : lw_okq (⟨"SandHouse$Trials", "firstInBeds", "(LSandHouse$Home;LSandHouse$Grains;I)I"⟩, 2) := ⟨⟨by decide +kernel, by decide +kernel⟩, List.mem_of_getElem? (i := 331) (by decide +kernel), List.mem_of_getElem? (i := 1243) (by decide +kernel), List.mem_of_getElem? (i := 1244) (by decide +kernel)⟩
theorem lw_p93 : lw_okq (⟨"SandHouse$Trials", "sweepingsTill", "(LSandHouse$Home;LSandHouse$Grains;I)I"⟩, 2) := ⟨⟨by decide +kernel, by decide +kernel⟩, List.mem_of_getElem? (i := 331) (by decide +kernel), List.mem_of_getElem? (i := 1254) (by decide +kernel), List.mem_of_getElem? (i := 1255) (by decide +kernel)⟩
theorem lw_p94 : lw_okq (⟨"SandHouse$Trials", "bestMoment", "(LSandHouse$Home;LSandHouse$Grains;II)I"⟩, 2) := ⟨⟨by decide +kernel, by decide +kernel⟩, List.mem_of_getElem? (i := 331) (by decide +kernel), List.mem_of_getElem? (i := 1265) (by decide +kernel), List.mem_of_getElem? (i := 1266) (by decide +kernel)⟩
theorem lw_p95 : lw_okq (⟨"SandHouse$Trials", "towelWorth", "(LSandHouse$Home;LSandHouse$Grains;III)I"⟩, 2) := ⟨⟨by decide +kernel, by decide +kernel⟩, List.mem_of_getElem? (i := 331) (by decide +kernel), List.mem_of_getElem? (i := 1277) (by decide +kernel), List.mem_of_getElem? (i := 1278) (by decide +kernel)⟩
def lw_privs_6 : List (MethodName × Nat) := [(⟨"SandHouse$Home", "inBeds", "(LSandHouse$Grains;)I"⟩, 3), (⟨"SandHouse$Home", "inside", "(LSandHouse$Grains;)I"⟩, 3), (⟨"SandHouse$Trials", "worthOf", "(LSandHouse$Home;LSandHouse$Grains;III)I"⟩, 2), (⟨"SandHouse$Trials", "bestRoom", "(LSandHouse$Home;LSandHouse$Grains;IIZ)I"⟩, 2), (⟨"SandHouse$Trials", "bestPair", "(LSandHouse$Home;LSandHouse$Grains;II)I"⟩, 2), (⟨"SandHouse$Trials", "fewestKeepers", "(LSandHouse$Home;LSandHouse$Grains;II)I"⟩, 2), (⟨"SandHouse$Trials", "quickestRooms", "(LSandHouse$Home;LSandHouse$Grains;I)I"⟩, 2), (⟨"SandHouse$Trials", "sweptOf", "(II)I"⟩, 2), (⟨"SandHouse$Plan", "minutesOf", "(I)I"⟩, 9), (⟨"SandHouse$Trials", "seldomest", "(LSandHouse$Home;LSandHouse$Grains;II)I"⟩, 2), (⟨"SandHouse$Trials", "staysBelow", "(LSandHouse$Home;LSandHouse$Grains;III)Z"⟩, 2), (⟨"SandHouse$Home", "sweepInside", "(LSandHouse$Grains;)V"⟩, 3), (⟨"SandHouse$Trials", "firstInBeds", "(LSandHouse$Home;LSandHouse$Grains;I)I"⟩, 2), (⟨"SandHouse$Trials", "sweepingsTill", "(LSandHouse$Home;LSandHouse$Grains;I)I"⟩, 2), (⟨"SandHouse$Trials", "bestMoment", "(LSandHouse$Home;LSandHouse$Grains;II)I"⟩, 2), (⟨"SandHouse$Trials", "towelWorth", "(LSandHouse$Home;LSandHouse$Grains;III)I"⟩, 2)]
theorem lw_r6 : ∀ q ∈ lw_privs_6, lw_okq q := List.forall_mem_cons.mpr ⟨lw_p80, List.forall_mem_cons.mpr ⟨lw_p81, List.forall_mem_cons.mpr ⟨lw_p82, List.forall_mem_cons.mpr ⟨lw_p83, List.forall_mem_cons.mpr ⟨lw_p84, List.forall_mem_cons.mpr ⟨lw_p85, List.forall_mem_cons.mpr ⟨lw_p86, List.forall_mem_cons.mpr ⟨lw_p87, List.forall_mem_cons.mpr ⟨lw_p88, List.forall_mem_cons.mpr ⟨lw_p89, List.forall_mem_cons.mpr ⟨lw_p90, List.forall_mem_cons.mpr ⟨lw_p91, List.forall_mem_cons.mpr ⟨lw_p92, List.forall_mem_cons.mpr ⟨lw_p93, List.forall_mem_cons.mpr ⟨lw_p94, List.forall_mem_cons.mpr ⟨lw_p95, fun _ h => absurd h List.not_mem_nil⟩⟩⟩⟩⟩⟩⟩⟩⟩⟩⟩⟩⟩⟩⟩⟩
theorem lw_p96 : lw_okq (⟨"SandHouse$Trials", "bestTowel", "(LSandHouse$Home;LSandHouse$Grains;II)I"⟩, 2) := ⟨⟨by decide +kernel, by decide +kernel⟩, List.mem_of_getElem? (i := 331) (by decide +kernel), List.mem_of_getElem? (i := 1290) (by decide +kernel), List.mem_of_getElem? (i := 1291) (by decide +kernel)⟩
theorem lw_p97 : lw_okq (⟨"SandHouse$Trials", "extreme", "(LSandHouse$Home;LSandHouse$Grains;IZ)I"⟩, 2) := ⟨⟨by decide +kernel, by decide +kernel⟩, List.mem_of_getElem? (i := 331) (by decide +kernel), List.mem_of_getElem? (i := 1303) (by decide +kernel), List.mem_of_getElem? (i := 1304) (by decide +kernel)⟩
theorem lw_p98 : lw_okq (⟨"SandHouse$Trials", "steepest", "(LSandHouse$Home;LSandHouse$Grains;I)I"⟩, 2) := ⟨⟨by decide +kernel, by decide +kernel⟩, List.mem_of_getElem? (i := 331) (by decide +kernel), List.mem_of_getElem? (i := 1314) (by decide +kernel), List.mem_of_getElem? (i := 1315) (by decide +kernel)⟩
theorem lw_p99 : lw_okq (⟨"SandHouse$Grains", "owners", "([II)I"⟩, 13) := ⟨⟨by decide +kernel, by decide +kernel⟩, List.mem_of_getElem? (i := 181) (by decide +kernel), List.mem_of_getElem? (i := 1325) (by decide +kernel), List.mem_of_getElem? (i := 1326) (by decide +kernel)⟩
theorem lw_p100 : lw_okq (⟨"SandHouse$Grains", "mostOf", "([II)I"⟩, 13) := ⟨⟨by decide +kernel, by decide +kernel⟩, List.mem_of_getElem? (i := 181) (by decide +kernel), List.mem_of_getElem? (i := 1329) (by decide +kernel), List.mem_of_getElem? (i := 1330) (by decide +kernel)⟩
theorem lw_p101 : lw_okq (⟨"SandHouse$Home", "bedsAbove", "(LSandHouse$Grains;I)I"⟩, 3) := ⟨⟨by decide +kernel, by decide +kernel⟩, List.mem_of_getElem? (i := 70) (by decide +kernel), List.mem_of_getElem? (i := 1355) (by decide +kernel), List.mem_of_getElem? (i := 1356) (by decide +kernel)⟩
theorem lw_p102 : lw_okq (⟨"SandHouse$Plan", "fewestDoors", "(II)I"⟩, 9) := ⟨⟨by decide +kernel, by decide +kernel⟩, List.mem_of_getElem? (i := 76) (by decide +kernel), List.mem_of_getElem? (i := 1366) (by decide +kernel), List.mem_of_getElem? (i := 1367) (by decide +kernel)⟩
theorem lw_p103 : lw_okq (⟨"SandHouse$Home", "firstMeeting", "(LSandHouse$Grains;II)I"⟩, 3) := ⟨⟨by decide +kernel, by decide +kernel⟩, List.mem_of_getElem? (i := 70) (by decide +kernel), List.mem_of_getElem? (i := 1378) (by decide +kernel), List.mem_of_getElem? (i := 1379) (by decide +kernel)⟩
theorem lw_p104 : lw_okq (⟨"SandHouse$Tape", "tellsNoons", "(II)Z"⟩, 6) := ⟨⟨by decide +kernel, by decide +kernel⟩, List.mem_of_getElem? (i := 37) (by decide +kernel), List.mem_of_getElem? (i := 1389) (by decide +kernel), List.mem_of_getElem? (i := 1390) (by decide +kernel)⟩
theorem lw_p105 : lw_okq (⟨"SandHouse$Tape", "noonRoom", "(I)I"⟩, 6) := ⟨⟨by decide +kernel, by decide +kernel⟩, List.mem_of_getElem? (i := 37) (by decide +kernel), List.mem_of_getElem? (i := 1393) (by decide +kernel), List.mem_of_getElem? (i := 1394) (by decide +kernel)⟩
theorem lw_p106 : lw_okq (⟨"SandHouse$Tape", "noonRound", "(I)I"⟩, 6) := ⟨⟨by decide +kernel, by decide +kernel⟩, List.mem_of_getElem? (i := 37) (by decide +kernel), List.mem_of_getElem? (i := 1397) (by decide +kernel), List.mem_of_getElem? (i := 1398) (by decide +kernel)⟩
theorem lw_p107 : lw_okq (⟨"SandHouse$Heels", "ledBack", "(II)I"⟩, 3) := ⟨⟨by decide +kernel, by decide +kernel⟩, List.mem_of_getElem? (i := 259) (by decide +kernel), List.mem_of_getElem? (i := 1421) (by decide +kernel), List.mem_of_getElem? (i := 1422) (by decide +kernel)⟩
theorem lw_p108 : lw_okq (⟨"SandHouseModel", "readAll", "(Z)I"⟩, 19) := ⟨⟨by decide +kernel, by decide +kernel⟩, List.mem_of_getElem? (i := 1425) (by decide +kernel), List.mem_of_getElem? (i := 1517) (by decide +kernel), List.mem_of_getElem? (i := 1518) (by decide +kernel)⟩
theorem lw_p109 : lw_okq (⟨"SandHouseModel", "uses", "()V"⟩, 19) := ⟨⟨by decide +kernel, by decide +kernel⟩, List.mem_of_getElem? (i := 1425) (by decide +kernel), List.mem_of_getElem? (i := 1521) (by decide +kernel), List.mem_of_getElem? (i := 1522) (by decide +kernel)⟩
theorem lw_p110 : lw_okq (⟨"SandHouseModel", "blanks", "()V"⟩, 19) := ⟨⟨by decide +kernel, by decide +kernel⟩, List.mem_of_getElem? (i := 1425) (by decide +kernel), List.mem_of_getElem? (i := 1525) (by decide +kernel), List.mem_of_getElem? (i := 1526) (by decide +kernel)⟩
theorem lw_p111 : lw_okq (⟨"SandHouseModel", "isAt", "(II)Z"⟩, 19) := ⟨⟨by decide +kernel, by decide +kernel⟩, List.mem_of_getElem? (i := 1425) (by decide +kernel), List.mem_of_getElem? (i := 1529) (by decide +kernel), List.mem_of_getElem? (i := 1530) (by decide +kernel)⟩
def lw_privs_7 : List (MethodName × Nat) := [(⟨"SandHouse$Trials", "bestTowel", "(LSandHouse$Home;LSandHouse$Grains;II)I"⟩, 2), (⟨"SandHouse$Trials", "extreme", "(LSandHouse$Home;LSandHouse$Grains;IZ)I"⟩, 2), (⟨"SandHouse$Trials", "steepest", "(LSandHouse$Home;LSandHouse$Grains;I)I"⟩, 2), (⟨"SandHouse$Grains", "owners", "([II)I"⟩, 13), (⟨"SandHouse$Grains", "mostOf", "([II)I"⟩, 13), (⟨"SandHouse$Home", "bedsAbove", "(LSandHouse$Grains;I)I"⟩, 3), (⟨"SandHouse$Plan", "fewestDoors", "(II)I"⟩, 9), (⟨"SandHouse$Home", "firstMeeting", "(LSandHouse$Grains;II)I"⟩, 3), (⟨"SandHouse$Tape", "tellsNoons", "(II)Z"⟩, 6), (⟨"SandHouse$Tape", "noonRoom", "(I)I"⟩, 6), (⟨"SandHouse$Tape", "noonRound", "(I)I"⟩, 6), (⟨"SandHouse$Heels", "ledBack", "(II)I"⟩, 3), (⟨"SandHouseModel", "readAll", "(Z)I"⟩, 19), (⟨"SandHouseModel", "uses", "()V"⟩, 19), (⟨"SandHouseModel", "blanks", "()V"⟩, 19), (⟨"SandHouseModel", "isAt", "(II)Z"⟩, 19)]
theorem lw_r7 : ∀ q ∈ lw_privs_7, lw_okq q := List.forall_mem_cons.mpr ⟨lw_p96, List.forall_mem_cons.mpr ⟨lw_p97, List.forall_mem_cons.mpr ⟨lw_p98, List.forall_mem_cons.mpr ⟨lw_p99, List.forall_mem_cons.mpr ⟨lw_p100, List.forall_mem_cons.mpr ⟨lw_p101, List.forall_mem_cons.mpr ⟨lw_p102, List.forall_mem_cons.mpr ⟨lw_p103, List.forall_mem_cons.mpr ⟨lw_p104, List.forall_mem_cons.mpr ⟨lw_p105, List.forall_mem_cons.mpr ⟨lw_p106, List.forall_mem_cons.mpr ⟨lw_p107, List.forall_mem_cons.mpr ⟨lw_p108, List.forall_mem_cons.mpr ⟨lw_p109, List.forall_mem_cons.mpr ⟨lw_p110, List.forall_mem_cons.mpr ⟨lw_p111, fun _ h => absurd h List.not_mem_nil⟩⟩⟩⟩⟩⟩⟩⟩⟩⟩⟩⟩⟩⟩⟩⟩
theorem lw_p112 : lw_okq (⟨"SandHouseModel", "readLine", "(ZI)Z"⟩, 19) := ⟨⟨by decide +kernel, by decide +kernel⟩, List.mem_of_getElem? (i := 1425) (by decide +kernel), List.mem_of_getElem? (i := 1533) (by decide +kernel), List.mem_of_getElem? (i := 1534) (by decide +kernel)⟩
theorem lw_p113 : lw_okq (⟨"SandHouseModel", "letters", "()V"⟩, 19) := ⟨⟨by decide +kernel, by decide +kernel⟩, List.mem_of_getElem? (i := 1425) (by decide +kernel), List.mem_of_getElem? (i := 1537) (by decide +kernel), List.mem_of_getElem? (i := 1538) (by decide +kernel)⟩
theorem lw_p114 : lw_okq (⟨"SandHouseModel", "readHouseLine", "()Z"⟩, 19) := ⟨⟨by decide +kernel, by decide +kernel⟩, List.mem_of_getElem? (i := 1425) (by decide +kernel), List.mem_of_getElem? (i := 1541) (by decide +kernel), List.mem_of_getElem? (i := 1542) (by decide +kernel)⟩
theorem lw_p115 : lw_okq (⟨"SandHouseModel", "isWord", "(Ljava/lang/String;)Z"⟩, 19) := ⟨⟨by decide +kernel, by decide +kernel⟩, List.mem_of_getElem? (i := 1425) (by decide +kernel), List.mem_of_getElem? (i := 1546) (by decide +kernel), List.mem_of_getElem? (i := 1547) (by decide +kernel)⟩
theorem lw_p116 : lw_okq (⟨"SandHouseModel", "readRoom", "()Z"⟩, 19) := ⟨⟨by decide +kernel, by decide +kernel⟩, List.mem_of_getElem? (i := 1425) (by decide +kernel), List.mem_of_getElem? (i := 1552) (by decide +kernel), List.mem_of_getElem? (i := 1553) (by decide +kernel)⟩
theorem lw_p117 : lw_okq (⟨"SandHouseModel", "rooms", "()I"⟩, 19) := ⟨⟨by decide +kernel, by decide +kernel⟩, List.mem_of_getElem? (i := 1425) (by decide +kernel), List.mem_of_getElem? (i := 1556) (by decide +kernel), List.mem_of_getElem? (i := 1557) (by decide +kernel)⟩
theorem lw_p118 : lw_okq (⟨"SandHouseModel", "sortTold", "()I"⟩, 19) := ⟨⟨by decide +kernel, by decide +kernel⟩, List.mem_of_getElem? (i := 1425) (by decide +kernel), List.mem_of_getElem? (i := 1560) (by decide +kernel), List.mem_of_getElem? (i := 1561) (by decide +kernel)⟩
theorem lw_p119 : lw_okq (⟨"SandHouseModel", "number", "(II)I"⟩, 19) := ⟨⟨by decide +kernel, by decide +kernel⟩, List.mem_of_getElem? (i := 1425) (by decide +kernel), List.mem_of_getElem? (i := 1569) (by decide +kernel), List.mem_of_getElem? (i := 1570) (by decide +kernel)⟩
theorem lw_p120 : lw_okq (⟨"SandHouseModel", "figures", "(III)I"⟩, 19) := ⟨⟨by decide +kernel, by decide +kernel⟩, List.mem_of_getElem? (i := 1425) (by decide +kernel), List.mem_of_getElem? (i := 1573) (by decide +kernel), List.mem_of_getElem? (i := 1574) (by decide +kernel)⟩
theorem lw_p121 : lw_okq (⟨"SandHouseModel", "readDoor", "()Z"⟩, 19) := ⟨⟨by decide +kernel, by decide +kernel⟩, List.mem_of_getElem? (i := 1425) (by decide +kernel), List.mem_of_getElem? (i := 1581) (by decide +kernel), List.mem_of_getElem? (i := 1582) (by decide +kernel)⟩
theorem lw_p122 : lw_okq (⟨"SandHouseModel", "roomTold", "()I"⟩, 19) := ⟨⟨by decide +kernel, by decide +kernel⟩, List.mem_of_getElem? (i := 1425) (by decide +kernel), List.mem_of_getElem? (i := 1585) (by decide +kernel), List.mem_of_getElem? (i := 1586) (by decide +kernel)⟩
theorem lw_p123 : lw_okq (⟨"SandHouseModel", "readPerson", "()Z"⟩, 19) := ⟨⟨by decide +kernel, by decide +kernel⟩, List.mem_of_getElem? (i := 1425) (by decide +kernel), List.mem_of_getElem? (i := 1590) (by decide +kernel), List.mem_of_getElem? (i := 1591) (by decide +kernel)⟩
theorem lw_p124 : lw_okq (⟨"SandHouseModel", "people", "()I"⟩, 19) := ⟨⟨by decide +kernel, by decide +kernel⟩, List.mem_of_getElem? (i := 1425) (by decide +kernel), List.mem_of_getElem? (i := 1594) (by decide +kernel), List.mem_of_getElem? (i := 1595) (by decide +kernel)⟩
theorem lw_p125 : lw_okq (⟨"SandHouseModel", "sets", "(III)V"⟩, 19) := ⟨⟨by decide +kernel, by decide +kernel⟩, List.mem_of_getElem? (i := 1425) (by decide +kernel), List.mem_of_getElem? (i := 1598) (by decide +kernel), List.mem_of_getElem? (i := 1599) (by decide +kernel)⟩
theorem lw_p126 : lw_okq (⟨"SandHouseModel", "of", "(II)I"⟩, 19) := ⟨⟨by decide +kernel, by decide +kernel⟩, List.mem_of_getElem? (i := 1425) (by decide +kernel), List.mem_of_getElem? (i := 1605) (by decide +kernel), List.mem_of_getElem? (i := 1606) (by decide +kernel)⟩
theorem lw_p127 : lw_okq (⟨"SandHouseModel", "isDoor", "(II)Z"⟩, 19) := ⟨⟨by decide +kernel, by decide +kernel⟩, List.mem_of_getElem? (i := 1425) (by decide +kernel), List.mem_of_getElem? (i := 1609) (by decide +kernel), List.mem_of_getElem? (i := 1610) (by decide +kernel)⟩
def lw_privs_8 : List (MethodName × Nat) := [(⟨"SandHouseModel", "readLine", "(ZI)Z"⟩, 19), (⟨"SandHouseModel", "letters", "()V"⟩, 19), (⟨"SandHouseModel", "readHouseLine", "()Z"⟩, 19), (⟨"SandHouseModel", "isWord", "(Ljava/lang/String;)Z"⟩, 19), (⟨"SandHouseModel", "readRoom", "()Z"⟩, 19), (⟨"SandHouseModel", "rooms", "()I"⟩, 19), (⟨"SandHouseModel", "sortTold", "()I"⟩, 19), (⟨"SandHouseModel", "number", "(II)I"⟩, 19), (⟨"SandHouseModel", "figures", "(III)I"⟩, 19), (⟨"SandHouseModel", "readDoor", "()Z"⟩, 19), (⟨"SandHouseModel", "roomTold", "()I"⟩, 19), (⟨"SandHouseModel", "readPerson", "()Z"⟩, 19), (⟨"SandHouseModel", "people", "()I"⟩, 19), (⟨"SandHouseModel", "sets", "(III)V"⟩, 19), (⟨"SandHouseModel", "of", "(II)I"⟩, 19), (⟨"SandHouseModel", "isDoor", "(II)Z"⟩, 19)]
theorem lw_r8 : ∀ q ∈ lw_privs_8, lw_okq q := List.forall_mem_cons.mpr ⟨lw_p112, List.forall_mem_cons.mpr ⟨lw_p113, List.forall_mem_cons.mpr ⟨lw_p114, List.forall_mem_cons.mpr ⟨lw_p115, List.forall_mem_cons.mpr ⟨lw_p116, List.forall_mem_cons.mpr ⟨lw_p117, List.forall_mem_cons.mpr ⟨lw_p118, List.forall_mem_cons.mpr ⟨lw_p119, List.forall_mem_cons.mpr ⟨lw_p120, List.forall_mem_cons.mpr ⟨lw_p121, List.forall_mem_cons.mpr ⟨lw_p122, List.forall_mem_cons.mpr ⟨lw_p123, List.forall_mem_cons.mpr ⟨lw_p124, List.forall_mem_cons.mpr ⟨lw_p125, List.forall_mem_cons.mpr ⟨lw_p126, List.forall_mem_cons.mpr ⟨lw_p127, fun _ h => absurd h List.not_mem_nil⟩⟩⟩⟩⟩⟩⟩⟩⟩⟩⟩⟩⟩⟩⟩⟩
theorem lw_p128 : lw_okq (⟨"SandHouseModel", "readLoad", "()Z"⟩, 19) := ⟨⟨by decide +kernel, by decide +kernel⟩, List.mem_of_getElem? (i := 1425) (by decide +kernel), List.mem_of_getElem? (i := 1614) (by decide +kernel), List.mem_of_getElem? (i := 1615) (by decide +kernel)⟩
theorem lw_p129 : lw_okq (⟨"SandHouseModel", "personTold", "()I"⟩, 19) := ⟨⟨by decide +kernel, by decide +kernel⟩, List.mem_of_getElem? (i := 1425) (by decide +kernel), List.mem_of_getElem? (i := 1618) (by decide +kernel), List.mem_of_getElem? (i := 1619) (by decide +kernel)⟩
theorem lw_p130 : lw_okq (⟨"SandHouseModel", "loadOf", "(I)I"⟩, 19) := ⟨⟨by decide +kernel, by decide +kernel⟩, List.mem_of_getElem? (i := 1425) (by decide +kernel), List.mem_of_getElem? (i := 1622) (by decide +kernel), List.mem_of_getElem? (i := 1623) (by decide +kernel)⟩
theorem lw_p131 : lw_okq (⟨"SandHouseModel", "grains", "(I)I"⟩, 19) := ⟨⟨by decide +kernel, by decide +kernel⟩, List.mem_of_getElem? (i := 1425) (by decide +kernel), List.mem_of_getElem? (i := 1626) (by decide +kernel), List.mem_of_getElem? (i := 1627) (by decide +kernel)⟩
theorem lw_p132 : lw_okq (⟨"SandHouseModel", "readSand", "()Z"⟩, 19) := ⟨⟨by decide +kernel, by decide +kernel⟩, List.mem_of_getElem? (i := 1425) (by decide +kernel), List.mem_of_getElem? (i := 1632) (by decide +kernel), List.mem_of_getElem? (i := 1633) (by decide +kernel)⟩
theorem lw_p133 : lw_okq (⟨"SandHouseModel", "readTool", "()Z"⟩, 19) := ⟨⟨by decide +kernel, by decide +kernel⟩, List.mem_of_getElem? (i := 1425) (by decide +kernel), List.mem_of_getElem? (i := 1637) (by decide +kernel), List.mem_of_getElem? (i := 1638) (by decide +kernel)⟩
theorem lw_p134 : lw_okq (⟨"SandHouseModel", "readOf", "(II)Z"⟩, 19) := ⟨⟨by decide +kernel, by decide +kernel⟩, List.mem_of_getElem? (i := 1425) (by decide +kernel), List.mem_of_getElem? (i := 1642) (by decide +kernel), List.mem_of_getElem? (i := 1643) (by decide +kernel)⟩
theorem lw_p135 : lw_okq (⟨"SandHouseModel", "readLawLine", "(I)Z"⟩, 19) := ⟨⟨by decide +kernel, by decide +kernel⟩, List.mem_of_getElem? (i := 1425) (by decide +kernel), List.mem_of_getElem? (i := 1649) (by decide +kernel), List.mem_of_getElem? (i := 1650) (by decide +kernel)⟩
theorem lw_p136 : lw_okq (⟨"SandHouseModel", "passes", "(Ljava/lang/String;)Z"⟩, 19) := ⟨⟨by decide +kernel, by decide +kernel⟩, List.mem_of_getElem? (i := 1425) (by decide +kernel), List.mem_of_getElem? (i := 1658) (by decide +kernel), List.mem_of_getElem? (i := 1659) (by decide +kernel)⟩
theorem lw_p137 : lw_okq (⟨"SandHouseModel", "readCond", "()Z"⟩, 19) := ⟨⟨by decide +kernel, by decide +kernel⟩, List.mem_of_getElem? (i := 1425) (by decide +kernel), List.mem_of_getElem? (i := 1662) (by decide +kernel), List.mem_of_getElem? (i := 1663) (by decide +kernel)⟩
theorem lw_p138 : lw_okq (⟨"SandHouseModel", "readAllOf", "()Z"⟩, 19) := ⟨⟨by decide +kernel, by decide +kernel⟩, List.mem_of_getElem? (i := 1425) (by decide +kernel), List.mem_of_getElem? (i := 1666) (by decide +kernel), List.mem_of_getElem? (i := 1667) (by decide +kernel)⟩
theorem lw_p139 : lw_okq (⟨"SandHouseModel", "readAtom", "()Z"⟩, 19) := ⟨⟨by decide +kernel, by decide +kernel⟩, List.mem_of_getElem? (i := 1425) (by decide +kernel), List.mem_of_getElem? (i := 1670) (by decide +kernel), List.mem_of_getElem? (i := 1671) (by decide +kernel)⟩
theorem lw_p140 : lw_okq (⟨"SandHouseModel", "sign", "(I)Z"⟩, 19) := ⟨⟨by decide +kernel, by decide +kernel⟩, List.mem_of_getElem? (i := 1425) (by decide +kernel), List.mem_of_getElem? (i := 1674) (by decide +kernel), List.mem_of_getElem? (i := 1675) (by decide +kernel)⟩
theorem lw_p141 : lw_okq (⟨"SandHouseModel", "emits", "(II)V"⟩, 19) := ⟨⟨by decide +kernel, by decide +kernel⟩, List.mem_of_getElem? (i := 1425) (by decide +kernel), List.mem_of_getElem? (i := 1679) (by decide +kernel), List.mem_of_getElem? (i := 1680) (by decide +kernel)⟩
theorem lw_p142 : lw_okq (⟨"SandHouseModel", "readTag", "()Z"⟩, 19) := ⟨⟨by decide +kernel, by decide +kernel⟩, List.mem_of_getElem? (i := 1425) (by decide +kernel), List.mem_of_getElem? (i := 1683) (by decide +kernel), List.mem_of_getElem? (i := 1684) (by decide +kernel)⟩
theorem lw_p143 : lw_okq (⟨"SandHouseModel", "readSum", "()Z"⟩, 19) := ⟨⟨by decide +kernel, by decide +kernel⟩, List.mem_of_getElem? (i := 1425) (by decide +kernel), List.mem_of_getElem? (i := 1687) (by decide +kernel), List.mem_of_getElem? (i := 1688) (by decide +kernel)⟩
def lw_privs_9 : List (MethodName × Nat) := [(⟨"SandHouseModel", "readLoad", "()Z"⟩, 19), (⟨"SandHouseModel", "personTold", "()I"⟩, 19), (⟨"SandHouseModel", "loadOf", "(I)I"⟩, 19), (⟨"SandHouseModel", "grains", "(I)I"⟩, 19), (⟨"SandHouseModel", "readSand", "()Z"⟩, 19), (⟨"SandHouseModel", "readTool", "()Z"⟩, 19), (⟨"SandHouseModel", "readOf", "(II)Z"⟩, 19), (⟨"SandHouseModel", "readLawLine", "(I)Z"⟩, 19), (⟨"SandHouseModel", "passes", "(Ljava/lang/String;)Z"⟩, 19), (⟨"SandHouseModel", "readCond", "()Z"⟩, 19), (⟨"SandHouseModel", "readAllOf", "()Z"⟩, 19), (⟨"SandHouseModel", "readAtom", "()Z"⟩, 19), (⟨"SandHouseModel", "sign", "(I)Z"⟩, 19), (⟨"SandHouseModel", "emits", "(II)V"⟩, 19), (⟨"SandHouseModel", "readTag", "()Z"⟩, 19), (⟨"SandHouseModel", "readSum", "()Z"⟩, 19)]
theorem lw_r9 : ∀ q ∈ lw_privs_9, lw_okq q := List.forall_mem_cons.mpr ⟨lw_p128, List.forall_mem_cons.mpr ⟨lw_p129, List.forall_mem_cons.mpr ⟨lw_p130, List.forall_mem_cons.mpr ⟨lw_p131, List.forall_mem_cons.mpr ⟨lw_p132, List.forall_mem_cons.mpr ⟨lw_p133, List.forall_mem_cons.mpr ⟨lw_p134, List.forall_mem_cons.mpr ⟨lw_p135, List.forall_mem_cons.mpr ⟨lw_p136, List.forall_mem_cons.mpr ⟨lw_p137, List.forall_mem_cons.mpr ⟨lw_p138, List.forall_mem_cons.mpr ⟨lw_p139, List.forall_mem_cons.mpr ⟨lw_p140, List.forall_mem_cons.mpr ⟨lw_p141, List.forall_mem_cons.mpr ⟨lw_p142, List.forall_mem_cons.mpr ⟨lw_p143, fun _ h => absurd h List.not_mem_nil⟩⟩⟩⟩⟩⟩⟩⟩⟩⟩⟩⟩⟩⟩⟩⟩
theorem lw_p144 : lw_okq (⟨"SandHouseModel", "readPart", "()Z"⟩, 19) := ⟨⟨by decide +kernel, by decide +kernel⟩, List.mem_of_getElem? (i := 1425) (by decide +kernel), List.mem_of_getElem? (i := 1691) (by decide +kernel), List.mem_of_getElem? (i := 1692) (by decide +kernel)⟩
theorem lw_p145 : lw_okq (⟨"SandHouseModel", "throwsIf", "(ZI)Z"⟩, 19) := ⟨⟨by decide +kernel, by decide +kernel⟩, List.mem_of_getElem? (i := 1425) (by decide +kernel), List.mem_of_getElem? (i := 1700) (by decide +kernel), List.mem_of_getElem? (i := 1701) (by decide +kernel)⟩
theorem lw_p146 : lw_okq (⟨"SandHouseModel", "noRoom", "(I)Z"⟩, 19) := ⟨⟨by decide +kernel, by decide +kernel⟩, List.mem_of_getElem? (i := 1425) (by decide +kernel), List.mem_of_getElem? (i := 1712) (by decide +kernel), List.mem_of_getElem? (i := 1713) (by decide +kernel)⟩
theorem lw_p147 : lw_okq (⟨"SandHouseModel", "ofRoom", "(II)I"⟩, 19) := ⟨⟨by decide +kernel, by decide +kernel⟩, List.mem_of_getElem? (i := 1425) (by decide +kernel), List.mem_of_getElem? (i := 1719) (by decide +kernel), List.mem_of_getElem? (i := 1720) (by decide +kernel)⟩
theorem lw_p148 : lw_okq (⟨"SandHouseModel", "here", "(I)I"⟩, 19) := ⟨⟨by decide +kernel, by decide +kernel⟩, List.mem_of_getElem? (i := 1425) (by decide +kernel), List.mem_of_getElem? (i := 1723) (by decide +kernel), List.mem_of_getElem? (i := 1724) (by decide +kernel)⟩
theorem lw_p149 : lw_okq (⟨"SandHouseModel", "peopleIn", "(I)I"⟩, 19) := ⟨⟨by decide +kernel, by decide +kernel⟩, List.mem_of_getElem? (i := 1425) (by decide +kernel), List.mem_of_getElem? (i := 1727) (by decide +kernel), List.mem_of_getElem? (i := 1728) (by decide +kernel)⟩
theorem lw_p150 : lw_okq (⟨"SandHouseModel", "roomOf", "(I)I"⟩, 19) := ⟨⟨by decide +kernel, by decide +kernel⟩, List.mem_of_getElem? (i := 1425) (by decide +kernel), List.mem_of_getElem? (i := 1731) (by decide +kernel), List.mem_of_getElem? (i := 1732) (by decide +kernel)⟩
theorem lw_p151 : lw_okq (⟨"SandHouseModel", "besideOf", "(I)I"⟩, 19) := ⟨⟨by decide +kernel, by decide +kernel⟩, List.mem_of_getElem? (i := 1425) (by decide +kernel), List.mem_of_getElem? (i := 1735) (by decide +kernel), List.mem_of_getElem? (i := 1736) (by decide +kernel)⟩
theorem lw_p152 : lw_okq (⟨"SandHouseModel", "says", "(III)I"⟩, 19) := ⟨⟨by decide +kernel, by decide +kernel⟩, List.mem_of_getElem? (i := 1425) (by decide +kernel), List.mem_of_getElem? (i := 1739) (by decide +kernel), List.mem_of_getElem? (i := 1740) (by decide +kernel)⟩
theorem lw_p153 : lw_okq (⟨"SandHouseModel", "holdsLine", "(IIIZ)Z"⟩, 19) := ⟨⟨by decide +kernel, by decide +kernel⟩, List.mem_of_getElem? (i := 1425) (by decide +kernel), List.mem_of_getElem? (i := 1743) (by decide +kernel), List.mem_of_getElem? (i := 1744) (by decide +kernel)⟩
theorem lw_p154 : lw_okq (⟨"SandHouseModel", "factOf", "(IIIIZ)I"⟩, 19) := ⟨⟨by decide +kernel, by decide +kernel⟩, List.mem_of_getElem? (i := 1425) (by decide +kernel), List.mem_of_getElem? (i := 1747) (by decide +kernel), List.mem_of_getElem? (i := 1748) (by decide +kernel)⟩
theorem lw_p155 : lw_okq (⟨"SandHouseModel", "noPerson", "(I)Z"⟩, 19) := ⟨⟨by decide +kernel, by decide +kernel⟩, List.mem_of_getElem? (i := 1425) (by decide +kernel), List.mem_of_getElem? (i := 1755) (by decide +kernel), List.mem_of_getElem? (i := 1756) (by decide +kernel)⟩
theorem lw_p156 : lw_okq (⟨"SandHouseModel", "roams", "(I)I"⟩, 19) := ⟨⟨by decide +kernel, by decide +kernel⟩, List.mem_of_getElem? (i := 1425) (by decide +kernel), List.mem_of_getElem? (i := 1763) (by decide +kernel), List.mem_of_getElem? (i := 1764) (by decide +kernel)⟩
theorem lw_p157 : lw_okq (⟨"SandHouseModel", "remembers", "()V"⟩, 19) := ⟨⟨by decide +kernel, by decide +kernel⟩, List.mem_of_getElem? (i := 1425) (by decide +kernel), List.mem_of_getElem? (i := 1783) (by decide +kernel), List.mem_of_getElem? (i := 1784) (by decide +kernel)⟩
theorem lw_p158 : lw_okq (⟨"SandHouseModel", "round", "()I"⟩, 19) := ⟨⟨by decide +kernel, by decide +kernel⟩, List.mem_of_getElem? (i := 1425) (by decide +kernel), List.mem_of_getElem? (i := 1787) (by decide +kernel), List.mem_of_getElem? (i := 1788) (by decide +kernel)⟩
theorem lw_p159 : lw_okq (⟨"SandHouseModel", "goes", "(I)I"⟩, 19) := ⟨⟨by decide +kernel, by decide +kernel⟩, List.mem_of_getElem? (i := 1425) (by decide +kernel), List.mem_of_getElem? (i := 1791) (by decide +kernel), List.mem_of_getElem? (i := 1792) (by decide +kernel)⟩
def lw_privs_10 : List (MethodName × Nat) := [(⟨"SandHouseModel", "readPart", "()Z"⟩, 19), (⟨"SandHouseModel", "throwsIf", "(ZI)Z"⟩, 19), (⟨"SandHouseModel", "noRoom", "(I)Z"⟩, 19), (⟨"SandHouseModel", "ofRoom", "(II)I"⟩, 19), (⟨"SandHouseModel", "here", "(I)I"⟩, 19), (⟨"SandHouseModel", "peopleIn", "(I)I"⟩, 19), (⟨"SandHouseModel", "roomOf", "(I)I"⟩, 19), (⟨"SandHouseModel", "besideOf", "(I)I"⟩, 19), (⟨"SandHouseModel", "says", "(III)I"⟩, 19), (⟨"SandHouseModel", "holdsLine", "(IIIZ)Z"⟩, 19), (⟨"SandHouseModel", "factOf", "(IIIIZ)I"⟩, 19), (⟨"SandHouseModel", "noPerson", "(I)Z"⟩, 19), (⟨"SandHouseModel", "roams", "(I)I"⟩, 19), (⟨"SandHouseModel", "remembers", "()V"⟩, 19), (⟨"SandHouseModel", "round", "()I"⟩, 19), (⟨"SandHouseModel", "goes", "(I)I"⟩, 19)]
theorem lw_r10 : ∀ q ∈ lw_privs_10, lw_okq q := List.forall_mem_cons.mpr ⟨lw_p144, List.forall_mem_cons.mpr ⟨lw_p145, List.forall_mem_cons.mpr ⟨lw_p146, List.forall_mem_cons.mpr ⟨lw_p147, List.forall_mem_cons.mpr ⟨lw_p148, List.forall_mem_cons.mpr ⟨lw_p149, List.forall_mem_cons.mpr ⟨lw_p150, List.forall_mem_cons.mpr ⟨lw_p151, List.forall_mem_cons.mpr ⟨lw_p152, List.forall_mem_cons.mpr ⟨lw_p153, List.forall_mem_cons.mpr ⟨lw_p154, List.forall_mem_cons.mpr ⟨lw_p155, List.forall_mem_cons.mpr ⟨lw_p156, List.forall_mem_cons.mpr ⟨lw_p157, List.forall_mem_cons.mpr ⟨lw_p158, List.forall_mem_cons.mpr ⟨lw_p159, fun _ h => absurd h List.not_mem_nil⟩⟩⟩⟩⟩⟩⟩⟩⟩⟩⟩⟩⟩⟩⟩⟩
theorem lw_p160 : lw_okq (⟨"SandHouseModel", "draw", "(I)I"⟩, 19) := ⟨⟨by decide +kernel, by decide +kernel⟩, List.mem_of_getElem? (i := 1425) (by decide +kernel), List.mem_of_getElem? (i := 1795) (by decide +kernel), List.mem_of_getElem? (i := 1796) (by decide +kernel)⟩
theorem lw_p161 : lw_okq (⟨"SandHouseModel", "moves", "(III)I"⟩, 19) := ⟨⟨by decide +kernel, by decide +kernel⟩, List.mem_of_getElem? (i := 1425) (by decide +kernel), List.mem_of_getElem? (i := 1800) (by decide +kernel), List.mem_of_getElem? (i := 1801) (by decide +kernel)⟩
theorem lw_p162 : lw_okq (⟨"SandHouseModel", "tells", "(IIII)V"⟩, 19) := ⟨⟨by decide +kernel, by decide +kernel⟩, List.mem_of_getElem? (i := 1425) (by decide +kernel), List.mem_of_getElem? (i := 1804) (by decide +kernel), List.mem_of_getElem? (i := 1805) (by decide +kernel)⟩
theorem lw_p163 : lw_okq (⟨"SandHouseModel", "partOf", "(II)I"⟩, 19) := ⟨⟨by decide +kernel, by decide +kernel⟩, List.mem_of_getElem? (i := 1425) (by decide +kernel), List.mem_of_getElem? (i := 1808) (by decide +kernel), List.mem_of_getElem? (i := 1809) (by decide +kernel)⟩
theorem lw_p164 : lw_okq (⟨"SandHouseModel", "sweeps", "(I)I"⟩, 19) := ⟨⟨by decide +kernel, by decide +kernel⟩, List.mem_of_getElem? (i := 1425) (by decide +kernel), List.mem_of_getElem? (i := 1817) (by decide +kernel), List.mem_of_getElem? (i := 1818) (by decide +kernel)⟩
theorem lw_p165 : lw_okq (⟨"SandHouseModel", "beats", "(I)I"⟩, 19) := ⟨⟨by decide +kernel, by decide +kernel⟩, List.mem_of_getElem? (i := 1425) (by decide +kernel), List.mem_of_getElem? (i := 1825) (by decide +kernel), List.mem_of_getElem? (i := 1826) (by decide +kernel)⟩
theorem lw_p166 : lw_okq (⟨"SandHouseModel", "told", "(II)I"⟩, 19) := ⟨⟨by decide +kernel, by decide +kernel⟩, List.mem_of_getElem? (i := 1425) (by decide +kernel), List.mem_of_getElem? (i := 1833) (by decide +kernel), List.mem_of_getElem? (i := 1834) (by decide +kernel)⟩
theorem lw_p167 : lw_okq (⟨"SandHouseModel", "keepsAll", "()V"⟩, 19) := ⟨⟨by decide +kernel, by decide +kernel⟩, List.mem_of_getElem? (i := 1425) (by decide +kernel), List.mem_of_getElem? (i := 1849) (by decide +kernel), List.mem_of_getElem? (i := 1850) (by decide +kernel)⟩
theorem lw_p168 : lw_okq (⟨"SandHouseModel", "runs", "(I)V"⟩, 19) := ⟨⟨by decide +kernel, by decide +kernel⟩, List.mem_of_getElem? (i := 1425) (by decide +kernel), List.mem_of_getElem? (i := 1853) (by decide +kernel), List.mem_of_getElem? (i := 1854) (by decide +kernel)⟩
theorem lw_p169 : lw_okq (⟨"SandHouseModel", "beds", "()I"⟩, 19) := ⟨⟨by decide +kernel, by decide +kernel⟩, List.mem_of_getElem? (i := 1425) (by decide +kernel), List.mem_of_getElem? (i := 1857) (by decide +kernel), List.mem_of_getElem? (i := 1858) (by decide +kernel)⟩
theorem lw_p170 : lw_okq (⟨"SandHouseModel", "indoors", "()I"⟩, 19) := ⟨⟨by decide +kernel, by decide +kernel⟩, List.mem_of_getElem? (i := 1425) (by decide +kernel), List.mem_of_getElem? (i := 1861) (by decide +kernel), List.mem_of_getElem? (i := 1862) (by decide +kernel)⟩
theorem lw_p171 : lw_okq (⟨"SandHouseModel", "isIndoor", "(I)Z"⟩, 19) := ⟨⟨by decide +kernel, by decide +kernel⟩, List.mem_of_getElem? (i := 1425) (by decide +kernel), List.mem_of_getElem? (i := 1865) (by decide +kernel), List.mem_of_getElem? (i := 1866) (by decide +kernel)⟩
theorem lw_p172 : lw_okq (⟨"SandHouseModel", "loads", "()I"⟩, 19) := ⟨⟨by decide +kernel, by decide +kernel⟩, List.mem_of_getElem? (i := 1425) (by decide +kernel), List.mem_of_getElem? (i := 1869) (by decide +kernel), List.mem_of_getElem? (i := 1870) (by decide +kernel)⟩
theorem lw_p173 : lw_okq (⟨"SandHouseModel", "bringsBack", "()V"⟩, 19) := ⟨⟨by decide +kernel, by decide +kernel⟩, List.mem_of_getElem? (i := 1425) (by decide +kernel), List.mem_of_getElem? (i := 1873) (by decide +kernel), List.mem_of_getElem? (i := 1874) (by decide +kernel)⟩
theorem lw_p174 : lw_okq (⟨"SandHouseModel", "behind", "(IZ)I"⟩, 19) := ⟨⟨by decide +kernel, by decide +kernel⟩, List.mem_of_getElem? (i := 1425) (by decide +kernel), List.mem_of_getElem? (i := 1881) (by decide +kernel), List.mem_of_getElem? (i := 1882) (by decide +kernel)⟩
theorem lw_p175 : lw_okq (⟨"SandHouseModel", "noTool", "(II)Z"⟩, 19) := ⟨⟨by decide +kernel, by decide +kernel⟩, List.mem_of_getElem? (i := 1425) (by decide +kernel), List.mem_of_getElem? (i := 1889) (by decide +kernel), List.mem_of_getElem? (i := 1890) (by decide +kernel)⟩
def lw_privs_11 : List (MethodName × Nat) := [(⟨"SandHouseModel", "draw", "(I)I"⟩, 19), (⟨"SandHouseModel", "moves", "(III)I"⟩, 19), (⟨"SandHouseModel", "tells", "(IIII)V"⟩, 19), (⟨"SandHouseModel", "partOf", "(II)I"⟩, 19), (⟨"SandHouseModel", "sweeps", "(I)I"⟩, 19), (⟨"SandHouseModel", "beats", "(I)I"⟩, 19), (⟨"SandHouseModel", "told", "(II)I"⟩, 19), (⟨"SandHouseModel", "keepsAll", "()V"⟩, 19), (⟨"SandHouseModel", "runs", "(I)V"⟩, 19), (⟨"SandHouseModel", "beds", "()I"⟩, 19), (⟨"SandHouseModel", "indoors", "()I"⟩, 19), (⟨"SandHouseModel", "isIndoor", "(I)Z"⟩, 19), (⟨"SandHouseModel", "loads", "()I"⟩, 19), (⟨"SandHouseModel", "bringsBack", "()V"⟩, 19), (⟨"SandHouseModel", "behind", "(IZ)I"⟩, 19), (⟨"SandHouseModel", "noTool", "(II)Z"⟩, 19)]
theorem lw_r11 : ∀ q ∈ lw_privs_11, lw_okq q := List.forall_mem_cons.mpr ⟨lw_p160, List.forall_mem_cons.mpr ⟨lw_p161, List.forall_mem_cons.mpr ⟨lw_p162, List.forall_mem_cons.mpr ⟨lw_p163, List.forall_mem_cons.mpr ⟨lw_p164, List.forall_mem_cons.mpr ⟨lw_p165, List.forall_mem_cons.mpr ⟨lw_p166, List.forall_mem_cons.mpr ⟨lw_p167, List.forall_mem_cons.mpr ⟨lw_p168, List.forall_mem_cons.mpr ⟨lw_p169, List.forall_mem_cons.mpr ⟨lw_p170, List.forall_mem_cons.mpr ⟨lw_p171, List.forall_mem_cons.mpr ⟨lw_p172, List.forall_mem_cons.mpr ⟨lw_p173, List.forall_mem_cons.mpr ⟨lw_p174, List.forall_mem_cons.mpr ⟨lw_p175, fun _ h => absurd h List.not_mem_nil⟩⟩⟩⟩⟩⟩⟩⟩⟩⟩⟩⟩⟩⟩⟩⟩
theorem lw_p176 : lw_okq (⟨"SandHouseModel", "noLimit", "(III)Z"⟩, 19) := ⟨⟨by decide +kernel, by decide +kernel⟩, List.mem_of_getElem? (i := 1425) (by decide +kernel), List.mem_of_getElem? (i := 1901) (by decide +kernel), List.mem_of_getElem? (i := 1902) (by decide +kernel)⟩
theorem lw_p177 : lw_okq (⟨"SandHouseModel", "isOften", "(III)Z"⟩, 19) := ⟨⟨by decide +kernel, by decide +kernel⟩, List.mem_of_getElem? (i := 1425) (by decide +kernel), List.mem_of_getElem? (i := 1917) (by decide +kernel), List.mem_of_getElem? (i := 1918) (by decide +kernel)⟩
theorem lw_p178 : lw_okq (⟨"SandHouseModel", "sweepsAll", "()V"⟩, 19) := ⟨⟨by decide +kernel, by decide +kernel⟩, List.mem_of_getElem? (i := 1425) (by decide +kernel), List.mem_of_getElem? (i := 1921) (by decide +kernel), List.mem_of_getElem? (i := 1922) (by decide +kernel)⟩
theorem lw_p179 : lw_okq (⟨"SandHouseModel", "towelOf", "(III)I"⟩, 19) := ⟨⟨by decide +kernel, by decide +kernel⟩, List.mem_of_getElem? (i := 1425) (by decide +kernel), List.mem_of_getElem? (i := 1945) (by decide +kernel), List.mem_of_getElem? (i := 1946) (by decide +kernel)⟩
theorem lw_p180 : lw_okq (⟨"SandHouseModel", "mostOf", "(I)I"⟩, 19) := ⟨⟨by decide +kernel, by decide +kernel⟩, List.mem_of_getElem? (i := 1425) (by decide +kernel), List.mem_of_getElem? (i := 1965) (by decide +kernel), List.mem_of_getElem? (i := 1966) (by decide +kernel)⟩
theorem lw_p181 : lw_okq (⟨"SandHouseModel", "roomIn", "(II)I"⟩, 19) := ⟨⟨by decide +kernel, by decide +kernel⟩, List.mem_of_getElem? (i := 1425) (by decide +kernel), List.mem_of_getElem? (i := 1994) (by decide +kernel), List.mem_of_getElem? (i := 1995) (by decide +kernel)⟩
theorem lw_p182 : lw_okq (⟨"SandHouseModel", "roundTold", "(I)I"⟩, 19) := ⟨⟨by decide +kernel, by decide +kernel⟩, List.mem_of_getElem? (i := 1425) (by decide +kernel), List.mem_of_getElem? (i := 2002) (by decide +kernel), List.mem_of_getElem? (i := 2003) (by decide +kernel)⟩
def lw_privs_12 : List (MethodName × Nat) := [(⟨"SandHouseModel", "noLimit", "(III)Z"⟩, 19), (⟨"SandHouseModel", "isOften", "(III)Z"⟩, 19), (⟨"SandHouseModel", "sweepsAll", "()V"⟩, 19), (⟨"SandHouseModel", "towelOf", "(III)I"⟩, 19), (⟨"SandHouseModel", "mostOf", "(I)I"⟩, 19), (⟨"SandHouseModel", "roomIn", "(II)I"⟩, 19), (⟨"SandHouseModel", "roundTold", "(I)I"⟩, 19)]
theorem lw_r12 : ∀ q ∈ lw_privs_12, lw_okq q := List.forall_mem_cons.mpr ⟨lw_p176, List.forall_mem_cons.mpr ⟨lw_p177, List.forall_mem_cons.mpr ⟨lw_p178, List.forall_mem_cons.mpr ⟨lw_p179, List.forall_mem_cons.mpr ⟨lw_p180, List.forall_mem_cons.mpr ⟨lw_p181, List.forall_mem_cons.mpr ⟨lw_p182, fun _ h => absurd h List.not_mem_nil⟩⟩⟩⟩⟩⟩⟩
def lw_privs : List (MethodName × Nat) := lw_privs_1 ++ (lw_privs_2 ++ (lw_privs_3 ++ (lw_privs_4 ++ (lw_privs_5 ++ (lw_privs_6 ++ (lw_privs_7 ++ (lw_privs_8 ++ (lw_privs_9 ++ (lw_privs_10 ++ (lw_privs_11 ++ (lw_privs_12)))))))))))
def lw_tbl : List Cond := k2_sels lw_privs ++ tables_1
theorem lw_privs_ok : ∀ q ∈ lw_privs, lw_okq q := by
  show ∀ q ∈ lw_privs_1 ++ (lw_privs_2 ++ (lw_privs_3 ++ (lw_privs_4 ++ (lw_privs_5 ++ (lw_privs_6 ++ (lw_privs_7 ++ (lw_privs_8 ++ (lw_privs_9 ++ (lw_privs_10 ++ (lw_privs_11 ++ (lw_privs_12))))))))))), lw_okq q
  exact List.forall_mem_append.mpr ⟨lw_r1, List.forall_mem_append.mpr ⟨lw_r2, List.forall_mem_append.mpr ⟨lw_r3, List.forall_mem_append.mpr ⟨lw_r4, List.forall_mem_append.mpr ⟨lw_r5, List.forall_mem_append.mpr ⟨lw_r6, List.forall_mem_append.mpr ⟨lw_r7, List.forall_mem_append.mpr ⟨lw_r8, List.forall_mem_append.mpr ⟨lw_r9, List.forall_mem_append.mpr ⟨lw_r10, List.forall_mem_append.mpr ⟨lw_r11, lw_r12⟩⟩⟩⟩⟩⟩⟩⟩⟩⟩⟩
end
section
/-! ===== BEGIN words of one list among another's, by their places ===== -/
theorem goodIn_r {big : List Cond} (ws : List Cond) (ps : List Nat) (hp : ws = ps.filterMap (fun i => big[i]?)) (h : ws.all goodWord = true) : GoodIn big ws := by
  intro w hw
  have h1 := List.all_eq_true.mp h w hw
  rw [hp] at hw
  obtain ⟨i, -, hi⟩ := List.mem_filterMap.mp hw
  have hm : w ∈ big := by first | exact List.mem_of_getElem? hi | exact List.getElem?_mem hi
  exact ⟨hm, good_of_word h1⟩
theorem goodIn_app {big a b : List Cond} (ha : GoodIn big a) (hb : GoodIn big b) : GoodIn big (a ++ b) := fun w h => (List.mem_append.mp h).elim (ha w) (hb w)
theorem goodIn_ca {big a b : List Cond} {c : Cond} (ha : GoodIn big (c :: a)) (hb : GoodIn big b) : GoodIn big (c :: (a ++ b)) := fun w h => (List.mem_cons.mp h).elim (fun e => ha w (List.mem_cons.mpr (Or.inl e))) (fun h => (List.mem_append.mp h).elim (fun h => ha w (List.mem_cons.mpr (Or.inr h))) (hb w))
theorem goodIn_sub {big ws : List Cond} (hm : ∀ w ∈ ws, w ∈ big) (h : ws.all goodWord = true) : GoodIn big ws := fun w hw => ⟨hm w hw, good_of_word (List.all_eq_true.mp h w hw)⟩
/-! ===== END ===== -/

/-! ===== BEGIN exceptions that leave a method, and their catching by the caller (launches without stack traces) ===== -/
section VXA
/-! The laws vx_back, vx_callV, vx_callS, vx_callSW, vx_throw0, vx_throwS follow proofs of the library, with one case more: JvmDerived/Free/Laws.lean (Back.of_free), Shelf42/LK1.lean (callV, callS), Shelf/KitTraced.lean (throwNew0V, throwNewS). -/
/-- where a method has thrown q: the class by its name, the cell, what was written, the world -/
def vx_T (XC : String → State → State → Prop) (st : State) (q : Addr) (t : State) (mc ms : Nat) (free : Addr → Prop) : Prop :=
  ∃ (E : String) (ce : Cell) (L : List Loc), XC E st t ∧ t.heap[q]? = some ce ∧ ce.vm = .none ∧ st.vm.findClass E = some ce.cls ∧ st.WarmedH t.vm ∧ st.sameButNew ({ t with vm := st.vm } : State) L mc ms ∧ ∀ z ∈ L, free z.base
def vx_Q (Qc : Array Value → State → Outcome → State → Prop) (XC : String → State → State → Prop) (mc ms : Nat) (free : Addr → Prop) : Array Value → State → Outcome → State → Prop := fun a st o t =>
  (Qc a st o t ∧ ∃ L, FrameEnd st o t L mc ms ∧ ∀ q ∈ L, free q.base) ∨ ∃ q, o = .threw q ∧ vx_T XC st q t mc ms free
/-- a callee that returns or throws -/
def vx_Met (l : Launch) (y : MethodName) (ws : List Cond) (rm : Room) (Pc : Array Value → State → Prop) (Qc : Array Value → State → Outcome → State → Prop) (XC : String → State → State → Prop) (mc ms : Nat) (free : Addr → Prop) : Prop :=
  MetFree l y (headSpec ws rm) Pc (fun _ _ _ _ _ => True) (vx_Q Qc XC mc ms free)
def vx_Post (XC : String → State → State → Prop) (mc ms : Nat) (free : Addr → Prop) : Pt → Array Value → Addr → Pt → Prop := fun A a q B =>
  ∃ (g : JFrame) (mk : MethodId) (t : State) (L : List Loc) (E : String) (ce : Cell), B.U.heap = t.heap ∧ B.U.vm = t.vm ∧ XC E (A.U.calling g mk a) t ∧ t.heap[q]? = some ce ∧ ce.vm = .none ∧ A.U.vm.findClass E = some ce.cls ∧ B.locs = A.locs ++ L ∧ (∀ z ∈ L, free z.base) ∧ B.cells = A.cells + mc ∧ B.slots = A.slots + ms
def vx_Back (l : Launch) (R : Room) (p : Program) (e : Env) (below : List Frame) (s : State) (sargs : Array Value) (y : MethodName) (len W9 : Nat)
    (Pre : Pt → Array Value → Prop) (Post : Pt → Array Value → Option Value → Pt → Prop) (PostX : Pt → Array Value → Addr → Pt → Prop) : Prop :=
  ∀ (m : MethodId) (meth : Method) (c : Code) (A : Pt) (g : JFrame) (ig : Instr) (mk : MethodId) (a : Array Value),
    Stand p l e R s m sargs below meth c A.U A.locs A.cells A.slots → g.method = m → g.locals.size = c.maxLocals → decode c.code g.pc = .ok (ig, len) →
    2 * g.monitorRoom + (g.stack.map fun v => v.category).sum ≤ W9 → A.U.methodNamed? y = some mk → Pre A a →
    (∃ (v : Option Value) (B : Pt), Stand p l e R s m sargs below meth c B.U B.locs B.cells B.slots ∧ Post A a v B ∧
      Steps p.tables e below (doInvoke e (A.U.setTop g) [] mk a).1 (B.U.setTop { g with pc := g.pc + len, stack := v.toList ++ g.stack })) ∨
    (∃ (q : Addr) (B : Pt), Stand p l e R s m sargs below meth c B.U B.locs B.cells B.slots ∧ PostX A a q B ∧
      Steps p.tables e below (doInvoke e (A.U.setTop g) [] mk a).1 ((B.U.setTop g).pushFrame (.throwing q)))
section Payer
variable {l : Launch} {R : Room} {p : Program} {e : Env} {below : List Frame} {s : State} {sargs : Array Value} {y : MethodName} {len W9 : Nat}
theorem vx_back {ws : List Cond} {rm : Room} {Pc : Array Value → State → Prop} {Qc : Array Value → State → Outcome → State → Prop} {XC : String → State → State → Prop} {mc ms : Nat} {free : Addr → Prop} {bytes : ByteArray} {maxL : Nat} {ret : Option FieldType}
    (hM : vx_Met l y ws rm Pc Qc XC mc ms free) (hblind : FrameBlind Pc) (hrc : rm.cells = mc) (hrs : rm.slots = ms)
    (hframes : rm.frames + 1 ≤ R.frames) (hlocals : W9 + (maxL + 11) + rm.locals ≤ R.locals)
    (hws : ∀ w ∈ ws, ∀ a' U, s.WarmedH U.vm → w.before a' U = true) (hcode : Cond.code y bytes maxL ret ∈ ws) (hinit : ∀ a' U, s.WarmedH U.vm → (Cond.initialized y.cls).before a' U = true) :
    vx_Back l R p e below s sargs y len W9 (PreOf R mc ms Pc) (PostOf Qc mc ms free) (vx_Post XC mc ms free) := by
  intro m meth c A g ig mk a X hg hsize hdg hW hn hp
  have h1 : (headSpec ws rm).pre.before a A.U = true := atoms_intro fun w hw => hws w hw _ _ X.warmed
  have h2 : (Cond.code y bytes maxL ret).before a A.U = true := hws _ hcode _ _ X.warmed
  have h3 : (Cond.initialized y.cls).before a A.U = true := hinit _ _ X.warmed
  have h4 : A.cells + (headSpec ws rm).room.cells ≤ R.cells := by rw [show (headSpec ws rm).room.cells = mc from hrc]; exact hp.1
  have h5 : A.slots + (headSpec ws rm).room.slots ≤ R.slots := by rw [show (headSpec ws rm).room.slots = ms from hrs]; exact hp.2.1
  have hPc : Pc a (A.U.calling g mk a) := hblind _ _ _ _ hp.2.2
  obtain ⟨U, Ls, c0, s0⟩ := A
  dsimp only [Pt.U, Pt.locs, Pt.cells, Pt.slots] at h1 h2 h3 h4 h5 X hn hPc ⊢
  obtain ⟨methY, cY, hmY, hcY, -, hlY, -, -, -, -⟩ := Cond.code_spec hn h2
  obtain ⟨kY, hkY, -⟩ := className_of_methodNamed hn
  have hinitY : kY.init = .initialized := Cond.initialized_spec (findClass_of_methodNamed hn) hkY h3
  have h : At U g.method c below := by rw [hg]; exact X.here
  have hlocals9 : W9 + (maxL + 11) + (headSpec ws rm).room.locals ≤ R.locals := hlocals
  have happ : (headSpec ws rm).appliesLoose y e.platform (U.calling g mk a) = true :=
    Spec.appliesLoose_calling (g := g) h hdg hn hkY hinitY
      (X.room_calling (g := g) (R' := (headSpec ws rm).room) hsize hmY hcY hframes (by rw [hlY]; omega) h4 h5) h1
  obtain ⟨mid, hmid⟩ := h.above
  have hfr : (U.setTop g).frames = (.java g :: mid) ++ below := by rw [State.frames_setTop' g h.top, hmid]; rfl
  obtain ⟨o, s₂, hsteps, -, hend, hq⟩ := Steps.callFree hM p X.admits X.cas X.clock (acts := []) hfr happ hPc trivial
  have hq' : vx_Q Qc XC mc ms free a (U.calling g mk a) o s₂ := hq
  rw [State.frames_setTop' g h.top] at hend
  obtain ⟨g₀, hg0⟩ := Option.isSome_iff_exists.mp h.top
  obtain ⟨r, hr⟩ := State.topJava?_eq_some.mp hg0
  have hr' : (({ U with heap := s₂.heap, slotsUsed := s₂.slotsUsed } : State).setVm s₂.vm).frames = .java g₀ :: r := hr
  rcases hq' with ⟨hqc, L, hfe, hL⟩ | ⟨q, rfl, E, ce, L, hx, hce, hcv, hcl, hW₂, hsm, hL⟩
  · obtain ⟨⟨v, rfl⟩, hW₂, e2, q2, q3, q4, q5, q6⟩ := id hfe
    have e3 : s₂ = ({ (U.calling g mk a).setFrames s₂.frames with heap := s₂.heap, slotsUsed := s₂.slotsUsed } : State).setVm s₂.vm := by
      have : s₂ = ({ s₂ with vm := (U.calling g mk a).vm } : State).setVm s₂.vm := rfl
      rw [e2] at this
      exact this
    obtain ⟨c₂, i₂, len₂, hc₂, hd₂, hf₂⟩ := hend
    have hW' : U.WarmedH s₂.vm := hW₂
    have hcc : c₂ = c := by
      have h1 : s₂.code? g.method = U.code? g.method := by
        rw [State.code?_eq, State.code?_eq, hW'.alike.method?]
      exact Option.some.inj (hc₂.symm.trans (h1.trans h.code))
    subst hcc
    have hlen : len₂ = len := by rw [hdg] at hd₂; cases hd₂; rfl
    subst hlen
    have hs₂ : s₂ = (({ U with heap := s₂.heap, slotsUsed := s₂.slotsUsed } : State).setVm s₂.vm).setTop { g with pc := g.pc + len₂, stack := v.toList ++ g.stack } := by
      refine e3.trans ?_
      rw [hf₂, State.calling_eq h.top, State.setFrames_setFrames, State.setTop_of_frames _ hr', hr]
      rfl
    have hsame : U.sameButNew ({ U with heap := s₂.heap, slotsUsed := s₂.slotsUsed } : State) L mc ms := by
      refine ⟨?_, q2, q3, q4, q5, q6⟩
      obtain ⟨t, ht, -⟩ := State.frames_cons hr
      show ({ U with heap := s₂.heap, slotsUsed := s₂.slotsUsed } : State) = { U.setFrames U.frames with heap := s₂.heap, slotsUsed := s₂.slotsUsed }
      rw [State.setFrames_self ht]
    subst hg
    refine Or.inl ⟨v, ⟨(({ U with heap := s₂.heap, slotsUsed := s₂.slotsUsed } : State).setVm s₂.vm), Ls ++ L, c0 + mc, s0 + ms⟩,
      ⟨X.admits, X.cas, X.clock, X.frames, X.room, X.hears, X.method, X.code, (X.here.setHeapUsed s₂.heap s₂.slotsUsed).setVm hW'.alike, X.tail, State.WarmedH.trans X.warmed hW', X.limits, X.bytes, X.same.trans (hsame.setVm s.vm)⟩,
      ⟨g, mk, s₂, L, rfl, rfl, hqc, rfl, hL, rfl, rfl⟩, ?_⟩
    show Steps p.tables e below _ ((({ U with heap := s₂.heap, slotsUsed := s₂.slotsUsed } : State).setVm s₂.vm).setTop { g with pc := g.pc + len₂, stack := v.toList ++ g.stack })
    rw [← hs₂]
    exact hsteps
  · obtain ⟨e2, q2, q3, q4, q5, q6⟩ := id hsm
    have e3 : s₂ = ({ (U.calling g mk a).setFrames s₂.frames with heap := s₂.heap, slotsUsed := s₂.slotsUsed } : State).setVm s₂.vm := by
      have : s₂ = ({ s₂ with vm := (U.calling g mk a).vm } : State).setVm s₂.vm := rfl
      rw [e2] at this
      exact this
    have hf₂ : s₂.frames = .throwing q :: .java g :: U.frames.tail := hend
    have hW' : U.WarmedH s₂.vm := hW₂
    have hs₂ : s₂ = ((({ U with heap := s₂.heap, slotsUsed := s₂.slotsUsed } : State).setVm s₂.vm).setTop g).pushFrame (.throwing q) := by
      refine e3.trans ?_
      rw [hf₂, State.calling_eq h.top, State.setFrames_setFrames, State.pushFrame, State.frames_setTop _ hr', State.setTop_of_frames _ hr', State.setFrames_setFrames, hr]
      rfl
    have hsame : U.sameButNew ({ U with heap := s₂.heap, slotsUsed := s₂.slotsUsed } : State) L mc ms := by
      refine ⟨?_, q2, q3, q4, q5, q6⟩
      obtain ⟨t, ht, -⟩ := State.frames_cons hr
      show ({ U with heap := s₂.heap, slotsUsed := s₂.slotsUsed } : State) = { U.setFrames U.frames with heap := s₂.heap, slotsUsed := s₂.slotsUsed }
      rw [State.setFrames_self ht]
    subst hg
    refine Or.inr ⟨q, ⟨(({ U with heap := s₂.heap, slotsUsed := s₂.slotsUsed } : State).setVm s₂.vm), Ls ++ L, c0 + mc, s0 + ms⟩,
      ⟨X.admits, X.cas, X.clock, X.frames, X.room, X.hears, X.method, X.code, (X.here.setHeapUsed s₂.heap s₂.slotsUsed).setVm hW'.alike, X.tail, State.WarmedH.trans X.warmed hW', X.limits, X.bytes, X.same.trans (hsame.setVm s.vm)⟩,
      ⟨g, mk, s₂, L, E, ce, rfl, rfl, hx, hce, hcv, hcl, rfl, hL, rfl, rfl⟩, ?_⟩
    show Steps p.tables e below _ (((({ U with heap := s₂.heap, slotsUsed := s₂.slotsUsed } : State).setVm s₂.vm).setTop g).pushFrame (.throwing q))
    rw [← hs₂]
    exact hsteps
end Payer
section Calls
variable {p : Program} {l : Launch} {e : Env} {R : Room} {s : State} {m : MethodId} {args : Array Value} {below : List Frame} {meth : Method} {c : Code} {T : State} {locs : List Loc} {cells slots : Nat}
theorem vx_callV (X : Stand p l e R s m args below meth c T locs cells slots) (hexec : p.tables.exec = Jvm.exec) {own C : String} {index : Nat} {y : MethodName} {bytes : ByteArray} {maxL : Nat} {ret : Option FieldType}
    (hown : s.vm.findClass own = some m.cls) (hlink : (Cond.methodLink own index y).before args s = true) (hinst : (Cond.instanceMethod y).before args s = true) (hsel : (Cond.selects C y y).before args s = true)
    (hcode : (Cond.code y bytes maxL ret).before args s = true) (hy : y.cls ≠ "java/lang/invoke/MethodHandle" ∧ y.cls ≠ "java/lang/invoke/VarHandle")
    {W9 : Nat} {Pre : Pt → Array Value → Prop} {Post : Pt → Array Value → Option Value → Pt → Prop} {PostX : Pt → Array Value → Addr → Pt → Prop} (hK : vx_Back l R p e below s args y 3 W9 Pre Post PostX)
    {b : Addr} {cellB : Cell} (hcell : T.heap[b]? = some cellB) (hobj : cellB.vm.isStatics = false) (hcls : s.vm.findClass C = some cellB.cls)
    {g : JFrame} (hg : g.method = m) (hsize : g.locals.size = c.maxLocals) {argsL rest : List Value} (hlen : ∀ sig, parseMethodDescriptor y.desc = some sig → argsL.length = sig.parameters.length)
    (hstack : g.stack = argsL.reverse ++ .ref b :: rest) (hW : 2 * g.monitorRoom + (rest.map fun v => v.category).sum ≤ W9) (hdg : decode c.code g.pc = .ok (.invokevirtual index, 3))
    (hpre : ∀ vm₁, s.WarmedH vm₁ → Pre ⟨T.setVm vm₁, locs, cells, slots⟩ (Value.ref b :: argsL).toArray) :
    (∃ (v : Option Value) (vm₁ : Vm) (B : Pt), s.WarmedH vm₁ ∧ Stand p l e R s m args below meth c B.U B.locs B.cells B.slots ∧ Post ⟨T.setVm vm₁, locs, cells, slots⟩ (Value.ref b :: argsL).toArray v B ∧
      ∀ target, Steps p.tables e below (B.U.setTop { g with pc := g.pc + 3, stack := v.toList ++ rest }) target → Steps p.tables e below (T.setTop g) target) ∨
    (∃ (q : Addr) (vm₁ : Vm) (B : Pt), s.WarmedH vm₁ ∧ Stand p l e R s m args below meth c B.U B.locs B.cells B.slots ∧ PostX ⟨T.setVm vm₁, locs, cells, slots⟩ (Value.ref b :: argsL).toArray q B ∧
      Steps p.tables e below (T.setTop g) ((B.U.setTop { g with stack := rest }).pushFrame (.throwing q))) := by
  obtain ⟨mk, methM, hnamed, hmethM, hstM, habM⟩ := Cond.instanceMethod_spec hinst
  obtain ⟨methM', cM, hmethM', -, -, -, -, -, -, hsigM⟩ := Cond.code_spec hnamed hcode
  cases hmethM.symm.trans hmethM'
  obtain ⟨c2, r2, m2, q1, q2, q3, q4, kP, hkP, hkPi⟩ := Cond.selects_spec hsel
  cases hcls.symm.trans q1
  cases (State.methodFound?_of_named hnamed hy).symm.trans q2
  cases hnamed.symm.trans q3
  have hselP : selectMethod e.platform s.vm cellB.cls mk = .method mk := by rw [Launch.admits_selectMethod X.admits]; exact q4
  obtain ⟨vm₁, X₁, hstep₁⟩ := X.invokevirtual hexec hown hlink hnamed hmethM hstM hkP hkPi hy (a := b) (cell := cellB) hcell
    (fun z h => by rw [h] at hobj; cases hobj) hselP hmethM habM hkP hkPi (g := g) hg (argsL := argsL) (rest := rest) (hlen _ hsigM) hstack hdg
  rcases hK m meth c ⟨T.setVm vm₁, locs, cells, slots⟩ { g with stack := rest } (.invokevirtual index) mk (Value.ref b :: argsL).toArray X₁ hg hsize hdg hW (X₁.named hnamed) (hpre vm₁ X₁.warmed) with ⟨v, B, X', hpost, hsteps⟩ | ⟨q, B, X', hpost, hsteps⟩
  · exact Or.inl ⟨v, vm₁, B, X₁.warmed, X', hpost, fun target h => hstep₁ _ fun acts => by rw [doInvoke_state]; exact hsteps.trans h⟩
  · exact Or.inr ⟨q, vm₁, B, X₁.warmed, X', hpost, hstep₁ _ fun acts => by rw [doInvoke_state]; exact hsteps⟩
theorem vx_callS (X : Stand p l e R s m args below meth c T locs cells slots) (hexec : p.tables.exec = Jvm.exec) {own : String} {index : Nat} {y : MethodName} {bytes : ByteArray} {maxL : Nat} {ret : Option FieldType}
    (hown : s.vm.findClass own = some m.cls) (hlink : (Cond.methodLink own index y).before args s = true) (hstat : (Cond.static y).before args s = true) (hinit : (Cond.initialized y.cls).before args s = true)
    (hcode : (Cond.code y bytes maxL ret).before args s = true) (hy : y.cls ≠ "java/lang/invoke/MethodHandle" ∧ y.cls ≠ "java/lang/invoke/VarHandle")
    {W9 : Nat} {Pre : Pt → Array Value → Prop} {Post : Pt → Array Value → Option Value → Pt → Prop} {PostX : Pt → Array Value → Addr → Pt → Prop} (hK : vx_Back l R p e below s args y 3 W9 Pre Post PostX)
    {g : JFrame} (hg : g.method = m) (hsize : g.locals.size = c.maxLocals) {argsL rest : List Value} (hlen : ∀ sig, parseMethodDescriptor y.desc = some sig → argsL.length = sig.parameters.length)
    (hstack : g.stack = argsL.reverse ++ rest) (hW : 2 * g.monitorRoom + (rest.map fun v => v.category).sum ≤ W9) (hdg : decode c.code g.pc = .ok (.invokestatic index, 3))
    (hpre : ∀ vm₁, s.WarmedH vm₁ → Pre ⟨T.setVm vm₁, locs, cells, slots⟩ argsL.toArray) :
    (∃ (v : Option Value) (vm₁ : Vm) (B : Pt), s.WarmedH vm₁ ∧ Stand p l e R s m args below meth c B.U B.locs B.cells B.slots ∧ Post ⟨T.setVm vm₁, locs, cells, slots⟩ argsL.toArray v B ∧
      ∀ target, Steps p.tables e below (B.U.setTop { g with pc := g.pc + 3, stack := v.toList ++ rest }) target → Steps p.tables e below (T.setTop g) target) ∨
    (∃ (q : Addr) (vm₁ : Vm) (B : Pt), s.WarmedH vm₁ ∧ Stand p l e R s m args below meth c B.U B.locs B.cells B.slots ∧ PostX ⟨T.setVm vm₁, locs, cells, slots⟩ argsL.toArray q B ∧
      Steps p.tables e below (T.setTop g) ((B.U.setTop { g with stack := rest }).pushFrame (.throwing q))) := by
  obtain ⟨mk, hnamed⟩ := Cond.code_named hcode
  obtain ⟨methM, cM, hmethM, -, -, -, -, -, -, hsigM⟩ := Cond.code_spec hnamed hcode
  have hstatic : methM.isStatic = true := Cond.static_spec hnamed hmethM hstat
  obtain ⟨kP, hkP, -⟩ := className_of_methodNamed hnamed
  have hinitP : kP.init = .initialized := Cond.initialized_spec (findClass_of_methodNamed hnamed) hkP hinit
  obtain ⟨vm₁, X₁, hstep₁⟩ := X.invokestatic hexec hown hlink hnamed hmethM hstatic hkP hinitP hy (g := g) hg (argsL := argsL) (rest := rest) (hlen _ hsigM) hstack hdg
  rcases hK m meth c ⟨T.setVm vm₁, locs, cells, slots⟩ { g with stack := rest } (.invokestatic index) mk argsL.toArray X₁ hg hsize hdg hW (X₁.named hnamed) (hpre vm₁ X₁.warmed) with ⟨v, B, X', hpost, hsteps⟩ | ⟨q, B, X', hpost, hsteps⟩
  · exact Or.inl ⟨v, vm₁, B, X₁.warmed, X', hpost, fun target h => hstep₁ _ fun acts => by rw [doInvoke_state]; exact hsteps.trans h⟩
  · exact Or.inr ⟨q, vm₁, B, X₁.warmed, X', hpost, hstep₁ _ fun acts => by rw [doInvoke_state]; exact hsteps⟩
end Calls
theorem vx_cls {s : State} {T : State} {vm₁ : Vm} {E : String} {k : ClassId} (hW : s.WarmedH vm₁) (h : (T.setVm vm₁).vm.findClass E = some k) : s.vm.findClass E = some k := by
  have h1 : vm₁.findClass E = some k := h
  rw [hW.alike.findClass] at h1
  exact h1
/-- the method's frame g, with q thrown over it -/
def vx_W (p : Program) (l : Launch) (e : Env) (R : Room) (s : State) (m : MethodId) (args : Array Value) (below : List Frame) (meth : Method) (c : Code) (H : Heap) (locs : List Loc) (cells slots : Nat) (Q : State → Prop) (g : JFrame) (q : Addr) : Prop :=
  ∀ T : State, T.heap = H → Stand p l e R s m args below meth c T locs cells slots → ∃ t, Steps p.tables e below ((T.setTop g).pushFrame (.throwing q)) t ∧ Q t
def vx_Run (p : Program) (l : Launch) (e : Env) (R : Room) (s : State) (m : MethodId) (args : Array Value) (below : List Frame) (meth : Method) (c : Code) (H : Heap) (locs : List Loc) (cells slots mc ms : Nat) (g : JFrame) (rest : List Value) (Qa : State → Outcome → State → Prop) (XC : String → State → State → Prop) (free : Addr → Prop) : Prop :=
  ∀ T : State, T.heap = H → Stand p l e R s m args below meth c T locs cells slots →
    (∃ (v : Option Value) (st₀ t T' : State) (L : List Loc), st₀.heap = H ∧ Stand p l e R s m args below meth c T' (locs ++ L) (cells + mc) (slots + ms) ∧ (∀ q ∈ L, free q.base) ∧ T'.heap = t.heap ∧ T'.vm = t.vm ∧ Qa st₀ (.returned v) t ∧
      Goes p e below T g T' { g with pc := g.pc + 3, stack := v.toList ++ rest }) ∨
    (∃ (q : Addr) (st₀ t T' : State) (L : List Loc) (E : String) (ce : Cell), st₀.heap = H ∧ Stand p l e R s m args below meth c T' (locs ++ L) (cells + mc) (slots + ms) ∧ (∀ z ∈ L, free z.base) ∧ T'.heap = t.heap ∧ T'.vm = t.vm ∧ XC E st₀ t ∧ t.heap[q]? = some ce ∧ ce.vm = .none ∧ s.vm.findClass E = some ce.cls ∧
      Steps p.tables e below (T.setTop g) ((T'.setTop { g with stack := rest }).pushFrame (.throwing q)))
def vx_X {S : Type} (px : S → Prop) (B : String → S → State → Prop) (A : Nat → Prop) : String → State → State → Prop := fun E st t => ∃ u : S, px u ∧ B E u t ∧ va_F A st t
section Runs
variable {p : Program} {l : Launch} {e : Env} {R : Room} {s : State} {m : MethodId} {args : Array Value} {below : List Frame} {meth : Method} {c : Code} {H : Heap} {locs : List Loc} {cells slots : Nat}
variable {y : MethodName} {bytes cc : ByteArray} {maxL nL mc ms n index : Nat} {ret : Option FieldType} {ws : List Cond} {rm : Room} {Pc : Array Value → State → Prop} {Qc : Array Value → State → Outcome → State → Prop} {XC : String → State → State → Prop} {free : Addr → Prop} {Ts : List Cond} {own C : String} {b : Addr} {As rest : List Value} {g : JFrame}
theorem vx_callBack (cb : CallB R s args own index y bytes maxL ret ws rm mc ms n) (hM : vx_Met l y ws rm Pc Qc XC mc ms free) (hbl : FrameBlind Pc) : vx_Back l R p e below s args y 3 8 (PreOf R mc ms Pc) (PostOf Qc mc ms free) (vx_Post XC mc ms free) := by
  obtain ⟨hrc, hrs, hfr, hlo, hws, hcw, -, hini, -⟩ := cb
  exact vx_back (bytes := bytes) (maxL := maxL) (ret := ret) hM hbl hrc hrs hfr hlo hws hcw (fun a' U hW => word_at hW (Or.inl (by first | rfl | simp [Cond.onTables, Cond.keeps, Cond.steady])) hini)
theorem vx_runV (S : CallFix p m c cc nL s args Ts own) (hM : vx_Met l y ws rm Pc Qc XC mc ms free) (cw : CallW R s args own C index y bytes maxL ret ws rm mc ms n) (hp : PreV s H C b Pc As)
    (hg : g.method = m) (hn : As.length = n) (hsize : g.locals.size = nL) (hstack : g.stack = As.reverse ++ .ref b :: rest) (hW : 2 * g.monitorRoom + (rest.map fun v => v.category).sum ≤ 8) (hdg : decode cc g.pc = .ok (.invokevirtual index, 3)) (hf : cells + mc ≤ R.cells ∧ slots + ms ≤ R.slots) :
    vx_Run p l e R s m args below meth c H locs cells slots mc ms g rest (Qc (Value.ref b :: As).toArray) XC free := by
  have hK : vx_Back l R p e below s args y 3 8 (PreOf R mc ms Pc) (PostOf Qc mc ms free) (vx_Post XC mc ms free) := vx_callBack cw.1 hM hp.1
  obtain ⟨⟨-, -, -, -, -, -, hcode, -, hy, hlen, hl⟩, hin, hse⟩ := cw
  obtain ⟨hx, hb, hml, ho, -⟩ := S
  obtain ⟨-, ⟨cellB, hcB, hoB, hclB⟩, hPc⟩ := hp
  intro T hT X
  rcases vx_callV X hx (C := C) (bytes := bytes) (maxL := maxL) (ret := ret) ho hl hin hse hcode hy hK (by rw [hT]; exact hcB) hoB hclB hg (hsize.trans hml.symm) (argsL := As) (rest := rest) (fun sig h => hn.trans (hlen sig h)) hstack hW (by rw [hb]; exact hdg)
    (fun vm₁ hW₁ => ⟨hf.1, hf.2, hPc (T.setVm vm₁) hT hW₁⟩) with ⟨v, vm₁, ⟨U', l2, c2, s2⟩, hW₁, X', ⟨g', mk, t, L, e1, e2, hq, h1, hL, h2, h3⟩, st⟩ | ⟨q, vm₁, ⟨U', l2, c2, s2⟩, hW₁, X', ⟨g', mk, t, L, E, ce, e1, e2, hq, hce, hcv, hcl, h1, hL, h2, h3⟩, st⟩
  · dsimp only [Pt.U, Pt.locs, Pt.cells, Pt.slots] at X' e1 e2 h1 h2 h3 st
    subst h1; subst h2; subst h3
    exact Or.inl ⟨v, (T.setVm vm₁).calling g' mk (Value.ref b :: As).toArray, t, U', L, hT, X', hL, e1, e2, hq, st⟩
  · dsimp only [Pt.U, Pt.locs, Pt.cells, Pt.slots] at X' e1 e2 h1 h2 h3 st hcl
    subst h1; subst h2; subst h3
    exact Or.inr ⟨q, (T.setVm vm₁).calling g' mk (Value.ref b :: As).toArray, t, U', L, E, ce, hT, X', hL, e1, e2, hq, hce, hcv, vx_cls hW₁ hcl, st⟩
theorem vx_runS (S : CallFix p m c cc nL s args Ts own) (hM : vx_Met l y ws rm Pc Qc XC mc ms free) (cw : CallB R s args own index y bytes maxL ret ws rm mc ms n ∧ (Cond.static y).before args s = true) (hp : PreS s H Pc As)
    (hg : g.method = m) (hn : As.length = n) (hsize : g.locals.size = nL) (hstack : g.stack = As.reverse ++ rest) (hW : 2 * g.monitorRoom + (rest.map fun v => v.category).sum ≤ 8) (hdg : decode cc g.pc = .ok (.invokestatic index, 3)) (hf : cells + mc ≤ R.cells ∧ slots + ms ≤ R.slots) :
    vx_Run p l e R s m args below meth c H locs cells slots mc ms g rest (Qc As.toArray) XC free := by
  have hK : vx_Back l R p e below s args y 3 8 (PreOf R mc ms Pc) (PostOf Qc mc ms free) (vx_Post XC mc ms free) := vx_callBack cw.1 hM hp.1
  obtain ⟨⟨-, -, -, -, -, -, hcode, hini, hy, hlen, hl⟩, hstt⟩ := cw
  obtain ⟨hx, hb, hml, ho, -⟩ := S
  intro T hT X
  rcases vx_callS X hx (bytes := bytes) (maxL := maxL) (ret := ret) ho hl hstt hini hcode hy hK hg (hsize.trans hml.symm) (argsL := As) (rest := rest) (fun sig h => hn.trans (hlen sig h)) hstack hW (by rw [hb]; exact hdg)
    (fun vm₁ hW₁ => ⟨hf.1, hf.2, hp.2 (T.setVm vm₁) hT hW₁⟩) with ⟨v, vm₁, ⟨U', l2, c2, s2⟩, hW₁, X', ⟨g', mk, t, L, e1, e2, hq, h1, hL, h2, h3⟩, st⟩ | ⟨q, vm₁, ⟨U', l2, c2, s2⟩, hW₁, X', ⟨g', mk, t, L, E, ce, e1, e2, hq, hce, hcv, hcl, h1, hL, h2, h3⟩, st⟩
  · dsimp only [Pt.U, Pt.locs, Pt.cells, Pt.slots] at X' e1 e2 h1 h2 h3 st
    subst h1; subst h2; subst h3
    exact Or.inl ⟨v, (T.setVm vm₁).calling g' mk As.toArray, t, U', L, hT, X', hL, e1, e2, hq, st⟩
  · dsimp only [Pt.U, Pt.locs, Pt.cells, Pt.slots] at X' e1 e2 h1 h2 h3 st hcl
    subst h1; subst h2; subst h3
    exact Or.inr ⟨q, (T.setVm vm₁).calling g' mk As.toArray, t, U', L, E, ce, hT, X', hL, e1, e2, hq, hce, hcv, vx_cls hW₁ hcl, st⟩
end Runs
section Rows
variable {p : Program} {l : Launch} {e : Env} {R : Room} {s : State} {m : MethodId} {args : Array Value} {below : List Frame} {meth : Method} {c : Code} {H : Heap} {locs : List Loc} {cells slots : Nat} {Q : State → Prop}
variable {mc ms : Nat} {free : Addr → Prop} {A0 A1 : Nat → Prop} {H0 : Heap} {a : Array Value} {pc : Nat} {ls : Array Slot} {st0 rest : List Value}
theorem vx_keep {st₀ t T' : State} {L : List Loc} (h0 : st₀.heap = H) (e1 : T'.heap = t.heap) (hS : va_S A0 H0 H locs) (hA : ∀ q, q < H.size → A1 q → A0 q) (hf : ∀ q, free q → A0 q) (hL : ∀ q ∈ L, free q.base) (hF : va_F A1 st₀ t) :
    H.size ≤ T'.heap.size ∧ (∀ q : Nat, q < H.size → ¬ A1 q → T'.heap[q]? = H[q]?) ∧ va_S A0 H0 T'.heap (locs ++ L) := by
  obtain ⟨hz, hk⟩ := hF
  rw [h0] at hz hk
  exact ⟨by rw [e1]; exact hz, fun q h1 h2 => by rw [e1]; exact hk q h1 h2,
    ⟨Nat.le_trans hS.1 (by rw [e1]; exact hz), fun q h1 h2 => by rw [e1, hk q (Nat.lt_of_lt_of_le h1 hS.1) (fun z => h2 (hA q (Nat.lt_of_lt_of_le h1 hS.1) z))]; exact hS.2.1 q h1 h2, fun q hq => by
      rcases List.mem_append.mp hq with h | h
      · exact hS.2.2 q h
      · exact hf _ (hL q h)⟩⟩
theorem vx_calli {S SX : Type} {post : Int32 → S → Prop} {px : SX → Prop} {B : S → State → Prop} {BX : String → SX → State → Prop} {AX : Nat → Prop} (hr : vx_Run p l e R s m args below meth c H locs cells slots mc ms (F0 m pc ls st0) rest (va_Qi post B A1 a) (vx_X px BX AX) free) (hS : va_S A0 H0 H locs) (hA : ∀ q, q < H.size → A1 q → A0 q) (hf : ∀ q, free q → A0 q) (hAX : ∀ q, q < H.size → AX q → A0 q)
    (kx : ∀ (E : String) (ce : Cell) (q9 : Addr) (u : SX) (t : State) (H1 : Heap) (locs1 : List Loc), t.heap = H1 → s.vm.Alike t.vm → px u → BX E u t → H.size ≤ H1.size → (∀ q : Nat, q < H.size → ¬ AX q → H1[q]? = H[q]?) → va_S A0 H0 H1 locs1 → H1[q9]? = some ce → ce.vm = .none → s.vm.findClass E = some ce.cls → vx_W p l e R s m args below meth c H1 locs1 (cells + mc) (slots + ms) Q (F0 m pc ls rest) q9)
    (kk : ∀ (r : Int32) (u : S) (t : State) (H1 : Heap) (locs1 : List Loc), t.heap = H1 → s.vm.Alike t.vm → post r u → B u t → H.size ≤ H1.size → (∀ q : Nat, q < H.size → ¬ A1 q → H1[q]? = H[q]?) → va_S A0 H0 H1 locs1 → W p l e R s m args below meth c H1 locs1 (cells + mc) (slots + ms) Q (F0 m (pc + 3) ls (.int r :: rest))) : W p l e R s m args below meth c H locs cells slots Q (F0 m pc ls st0) := by
  intro T hT X
  rcases hr T hT X with ⟨v, st₀, t, T', L, h0, X', hL, e1, e2, ⟨⟨r, u, hv, hp, hb⟩, hF⟩, st⟩ | ⟨q, st₀, t, T', L, E, ce, h0, X', hL, e1, e2, ⟨u, hp, hb, hF⟩, hce, hcv, hcl, st⟩
  · cases hv
    obtain ⟨k1, k2, k3⟩ := vx_keep h0 e1 hS hA hf hL hF
    obtain ⟨t2, a1, b1⟩ := kk r u t T'.heap (locs ++ L) e1.symm (by rw [← e2]; exact X'.warmed.alike) hp hb k1 k2 k3 T' rfl X'
    exact ⟨t2, st t2 a1, b1⟩
  · obtain ⟨k1, k2, k3⟩ := vx_keep h0 e1 hS hAX hf hL hF
    obtain ⟨t2, a1, b1⟩ := kx E ce q u t T'.heap (locs ++ L) e1.symm (by rw [← e2]; exact X'.warmed.alike) hp hb k1 k2 k3 (by rw [e1]; exact hce) hcv hcl T' rfl X'
    exact ⟨t2, st.trans a1, b1⟩
theorem vx_calll {S SX : Type} {post : Int64 → S → Prop} {px : SX → Prop} {B : S → State → Prop} {BX : String → SX → State → Prop} {AX : Nat → Prop} (hr : vx_Run p l e R s m args below meth c H locs cells slots mc ms (F0 m pc ls st0) rest (va_Ql post B A1 a) (vx_X px BX AX) free) (hS : va_S A0 H0 H locs) (hA : ∀ q, q < H.size → A1 q → A0 q) (hf : ∀ q, free q → A0 q) (hAX : ∀ q, q < H.size → AX q → A0 q)
    (kx : ∀ (E : String) (ce : Cell) (q9 : Addr) (u : SX) (t : State) (H1 : Heap) (locs1 : List Loc), t.heap = H1 → s.vm.Alike t.vm → px u → BX E u t → H.size ≤ H1.size → (∀ q : Nat, q < H.size → ¬ AX q → H1[q]? = H[q]?) → va_S A0 H0 H1 locs1 → H1[q9]? = some ce → ce.vm = .none → s.vm.findClass E = some ce.cls → vx_W p l e R s m args below meth c H1 locs1 (cells + mc) (slots + ms) Q (F0 m pc ls rest) q9)
    (kk : ∀ (r : Int64) (u : S) (t : State) (H1 : Heap) (locs1 : List Loc), t.heap = H1 → s.vm.Alike t.vm → post r u → B u t → H.size ≤ H1.size → (∀ q : Nat, q < H.size → ¬ A1 q → H1[q]? = H[q]?) → va_S A0 H0 H1 locs1 → W p l e R s m args below meth c H1 locs1 (cells + mc) (slots + ms) Q (F0 m (pc + 3) ls (.long r :: rest))) : W p l e R s m args below meth c H locs cells slots Q (F0 m pc ls st0) := by
  intro T hT X
  rcases hr T hT X with ⟨v, st₀, t, T', L, h0, X', hL, e1, e2, ⟨⟨r, u, hv, hp, hb⟩, hF⟩, st⟩ | ⟨q, st₀, t, T', L, E, ce, h0, X', hL, e1, e2, ⟨u, hp, hb, hF⟩, hce, hcv, hcl, st⟩
  · cases hv
    obtain ⟨k1, k2, k3⟩ := vx_keep h0 e1 hS hA hf hL hF
    obtain ⟨t2, a1, b1⟩ := kk r u t T'.heap (locs ++ L) e1.symm (by rw [← e2]; exact X'.warmed.alike) hp hb k1 k2 k3 T' rfl X'
    exact ⟨t2, st t2 a1, b1⟩
  · obtain ⟨k1, k2, k3⟩ := vx_keep h0 e1 hS hAX hf hL hF
    obtain ⟨t2, a1, b1⟩ := kx E ce q u t T'.heap (locs ++ L) e1.symm (by rw [← e2]; exact X'.warmed.alike) hp hb k1 k2 k3 (by rw [e1]; exact hce) hcv hcl T' rfl X'
    exact ⟨t2, st.trans a1, b1⟩
theorem vx_callf {S SX : Type} {post : UInt32 → S → Prop} {px : SX → Prop} {B : S → State → Prop} {BX : String → SX → State → Prop} {AX : Nat → Prop} (hr : vx_Run p l e R s m args below meth c H locs cells slots mc ms (F0 m pc ls st0) rest (va_Qf post B A1 a) (vx_X px BX AX) free) (hS : va_S A0 H0 H locs) (hA : ∀ q, q < H.size → A1 q → A0 q) (hf : ∀ q, free q → A0 q) (hAX : ∀ q, q < H.size → AX q → A0 q)
    (kx : ∀ (E : String) (ce : Cell) (q9 : Addr) (u : SX) (t : State) (H1 : Heap) (locs1 : List Loc), t.heap = H1 → s.vm.Alike t.vm → px u → BX E u t → H.size ≤ H1.size → (∀ q : Nat, q < H.size → ¬ AX q → H1[q]? = H[q]?) → va_S A0 H0 H1 locs1 → H1[q9]? = some ce → ce.vm = .none → s.vm.findClass E = some ce.cls → vx_W p l e R s m args below meth c H1 locs1 (cells + mc) (slots + ms) Q (F0 m pc ls rest) q9)
    (kk : ∀ (r : UInt32) (u : S) (t : State) (H1 : Heap) (locs1 : List Loc), t.heap = H1 → s.vm.Alike t.vm → post r u → B u t → H.size ≤ H1.size → (∀ q : Nat, q < H.size → ¬ A1 q → H1[q]? = H[q]?) → va_S A0 H0 H1 locs1 → W p l e R s m args below meth c H1 locs1 (cells + mc) (slots + ms) Q (F0 m (pc + 3) ls (.float r :: rest))) : W p l e R s m args below meth c H locs cells slots Q (F0 m pc ls st0) := by
  intro T hT X
  rcases hr T hT X with ⟨v, st₀, t, T', L, h0, X', hL, e1, e2, ⟨⟨r, u, hv, hp, hb⟩, hF⟩, st⟩ | ⟨q, st₀, t, T', L, E, ce, h0, X', hL, e1, e2, ⟨u, hp, hb, hF⟩, hce, hcv, hcl, st⟩
  · cases hv
    obtain ⟨k1, k2, k3⟩ := vx_keep h0 e1 hS hA hf hL hF
    obtain ⟨t2, a1, b1⟩ := kk r u t T'.heap (locs ++ L) e1.symm (by rw [← e2]; exact X'.warmed.alike) hp hb k1 k2 k3 T' rfl X'
    exact ⟨t2, st t2 a1, b1⟩
  · obtain ⟨k1, k2, k3⟩ := vx_keep h0 e1 hS hAX hf hL hF
    obtain ⟨t2, a1, b1⟩ := kx E ce q u t T'.heap (locs ++ L) e1.symm (by rw [← e2]; exact X'.warmed.alike) hp hb k1 k2 k3 (by rw [e1]; exact hce) hcv hcl T' rfl X'
    exact ⟨t2, st.trans a1, b1⟩
theorem vx_calld {S SX : Type} {post : UInt64 → S → Prop} {px : SX → Prop} {B : S → State → Prop} {BX : String → SX → State → Prop} {AX : Nat → Prop} (hr : vx_Run p l e R s m args below meth c H locs cells slots mc ms (F0 m pc ls st0) rest (va_Qd post B A1 a) (vx_X px BX AX) free) (hS : va_S A0 H0 H locs) (hA : ∀ q, q < H.size → A1 q → A0 q) (hf : ∀ q, free q → A0 q) (hAX : ∀ q, q < H.size → AX q → A0 q)
    (kx : ∀ (E : String) (ce : Cell) (q9 : Addr) (u : SX) (t : State) (H1 : Heap) (locs1 : List Loc), t.heap = H1 → s.vm.Alike t.vm → px u → BX E u t → H.size ≤ H1.size → (∀ q : Nat, q < H.size → ¬ AX q → H1[q]? = H[q]?) → va_S A0 H0 H1 locs1 → H1[q9]? = some ce → ce.vm = .none → s.vm.findClass E = some ce.cls → vx_W p l e R s m args below meth c H1 locs1 (cells + mc) (slots + ms) Q (F0 m pc ls rest) q9)
    (kk : ∀ (r : UInt64) (u : S) (t : State) (H1 : Heap) (locs1 : List Loc), t.heap = H1 → s.vm.Alike t.vm → post r u → B u t → H.size ≤ H1.size → (∀ q : Nat, q < H.size → ¬ A1 q → H1[q]? = H[q]?) → va_S A0 H0 H1 locs1 → W p l e R s m args below meth c H1 locs1 (cells + mc) (slots + ms) Q (F0 m (pc + 3) ls (.double r :: rest))) : W p l e R s m args below meth c H locs cells slots Q (F0 m pc ls st0) := by
  intro T hT X
  rcases hr T hT X with ⟨v, st₀, t, T', L, h0, X', hL, e1, e2, ⟨⟨r, u, hv, hp, hb⟩, hF⟩, st⟩ | ⟨q, st₀, t, T', L, E, ce, h0, X', hL, e1, e2, ⟨u, hp, hb, hF⟩, hce, hcv, hcl, st⟩
  · cases hv
    obtain ⟨k1, k2, k3⟩ := vx_keep h0 e1 hS hA hf hL hF
    obtain ⟨t2, a1, b1⟩ := kk r u t T'.heap (locs ++ L) e1.symm (by rw [← e2]; exact X'.warmed.alike) hp hb k1 k2 k3 T' rfl X'
    exact ⟨t2, st t2 a1, b1⟩
  · obtain ⟨k1, k2, k3⟩ := vx_keep h0 e1 hS hAX hf hL hF
    obtain ⟨t2, a1, b1⟩ := kx E ce q u t T'.heap (locs ++ L) e1.symm (by rw [← e2]; exact X'.warmed.alike) hp hb k1 k2 k3 (by rw [e1]; exact hce) hcv hcl T' rfl X'
    exact ⟨t2, st.trans a1, b1⟩
theorem vx_callv {S SX : Type} {post : S → Prop} {px : SX → Prop} {B : S → State → Prop} {BX : String → SX → State → Prop} {AX : Nat → Prop} (hr : vx_Run p l e R s m args below meth c H locs cells slots mc ms (F0 m pc ls st0) rest (va_Qv post B A1 a) (vx_X px BX AX) free) (hS : va_S A0 H0 H locs) (hA : ∀ q, q < H.size → A1 q → A0 q) (hf : ∀ q, free q → A0 q) (hAX : ∀ q, q < H.size → AX q → A0 q)
    (kx : ∀ (E : String) (ce : Cell) (q9 : Addr) (u : SX) (t : State) (H1 : Heap) (locs1 : List Loc), t.heap = H1 → s.vm.Alike t.vm → px u → BX E u t → H.size ≤ H1.size → (∀ q : Nat, q < H.size → ¬ AX q → H1[q]? = H[q]?) → va_S A0 H0 H1 locs1 → H1[q9]? = some ce → ce.vm = .none → s.vm.findClass E = some ce.cls → vx_W p l e R s m args below meth c H1 locs1 (cells + mc) (slots + ms) Q (F0 m pc ls rest) q9)
    (kk : ∀ (u : S) (t : State) (H1 : Heap) (locs1 : List Loc), t.heap = H1 → s.vm.Alike t.vm → post u → B u t → H.size ≤ H1.size → (∀ q : Nat, q < H.size → ¬ A1 q → H1[q]? = H[q]?) → va_S A0 H0 H1 locs1 → W p l e R s m args below meth c H1 locs1 (cells + mc) (slots + ms) Q (F0 m (pc + 3) ls (rest))) : W p l e R s m args below meth c H locs cells slots Q (F0 m pc ls st0) := by
  intro T hT X
  rcases hr T hT X with ⟨v, st₀, t, T', L, h0, X', hL, e1, e2, ⟨⟨u, hv, hp, hb⟩, hF⟩, st⟩ | ⟨q, st₀, t, T', L, E, ce, h0, X', hL, e1, e2, ⟨u, hp, hb, hF⟩, hce, hcv, hcl, st⟩
  · cases hv
    obtain ⟨k1, k2, k3⟩ := vx_keep h0 e1 hS hA hf hL hF
    obtain ⟨t2, a1, b1⟩ := kk u t T'.heap (locs ++ L) e1.symm (by rw [← e2]; exact X'.warmed.alike) hp hb k1 k2 k3 T' rfl X'
    exact ⟨t2, st t2 a1, b1⟩
  · obtain ⟨k1, k2, k3⟩ := vx_keep h0 e1 hS hAX hf hL hF
    obtain ⟨t2, a1, b1⟩ := kx E ce q u t T'.heap (locs ++ L) e1.symm (by rw [← e2]; exact X'.warmed.alike) hp hb k1 k2 k3 (by rw [e1]; exact hce) hcv hcl T' rfl X'
    exact ⟨t2, st.trans a1, b1⟩
/-- caught by the row x of this method's table; the rows ahead don't take it -/
theorem vx_catch {own name : String} {E : String} {ce : Cell} {q : Addr} (hown : s.vm.findClass own = some m.cls) (pre : List ExceptionTableEntry) (x : ExceptionTableEntry) (suf : List ExceptionTableEntry) (hsplit : c.exceptionTable.toList = pre ++ x :: suf)
    (hpass : ∀ z ∈ pre, covers z pc = false ∨ (z.catchType ≠ 0 ∧ ∃ nm : String, (Cond.classLink own z.catchType nm).before args s = true ∧ va_Nc E nm s)) (hx : covers x pc = true) (h0 : x.catchType ≠ 0)
    (hlink : (Cond.classLink own x.catchType name).before args s = true) (hcast : (Cond.castable E name).before args s = true) (hcell : H[q]? = some ce) (hv : ce.vm = .none) (hcl : s.vm.findClass E = some ce.cls)
    (kk : W p l e R s m args below meth c H locs cells slots Q (F0 m x.handlerPc ls [.ref q])) : vx_W p l e R s m args below meth c H locs cells slots Q (F0 m pc ls rest) q := by
  intro T hT X
  have hpl : e.platform.magicAccessors = ({} : Platform).magicAccessors := by rw [X.admits.platform]
  obtain ⟨c3, c4, hc3, hc4, hasg⟩ := Cond.castable_spec hcast
  cases Option.some.inj (hc3.symm.trans hcl)
  obtain ⟨c5, hc5, hcl5⟩ := Cond.classLink_spec hown hlink e.platform hpl
  cases Option.some.inj (hc4.symm.trans hc5)
  obtain ⟨vm', X', st⟩ := X.thenCaughtThrough q (g := F0 m pc ls rest) rfl (Steps.refl _) (by rw [hT]; exact hcell) (by rw [hv]; rfl) (by obtain ⟨k9, h9, -⟩ := Vm.findClass_spec hcl; exact ⟨k9, h9⟩) pre x suf hsplit
    (fun z hz => by
      rcases hpass z hz with h | ⟨hz0, nm, hl1, hn1⟩
      · exact Or.inl h
      · obtain ⟨c6, hc6, hcl6⟩ := Cond.classLink_spec hown hl1 e.platform hpl
        obtain ⟨a8, b8, h1, h2, h3⟩ := hn1
        cases Option.some.inj (h1.symm.trans hcl)
        cases Option.some.inj (h2.symm.trans hc6)
        exact Or.inr ⟨hz0, _, hcl6, h3⟩) hx (Or.inr ⟨h0, c4, hcl5, hasg⟩)
  obtain ⟨t, a1, b1⟩ := kk (T.setVm vm') hT X'
  exact ⟨t, st.trans a1, b1⟩
end Rows
section Ends
variable {p : Program} {l : Launch} {e : Env} {R : Room} {s : State} {m : MethodId} {args : Array Value} {below : List Frame} {meth : Method} {c : Code} {H : Heap} {locs : List Loc} {cells slots : Nat} {Q : State → Prop}
variable {mc ms : Nat} {free : Addr → Prop} {A0 A1 : Nat → Prop} {H0 : Heap} {a : Array Value} {ls : Array Slot} {st0 rest : List Value}
variable {Qc : Array Value → State → Outcome → State → Prop} {XC : String → State → State → Prop}
/-- what a body that may throw owes at its end -/
def vx_MQ (below : List Frame) (Qc : Array Value → State → Outcome → State → Prop) (XC : String → State → State → Prop) (a : Array Value) (s : State) (mc ms : Nat) (free : Addr → Prop) : State → Prop := fun t =>
  ∃ o, t.status = .running ∧ Ended t below o ∧ vx_Q Qc XC mc ms free a s o t
theorem vx_ret {g : JFrame} {mc ms : Nat} (k : W p l e R s m args below meth c H locs cells slots (MQ below Qc args s mc ms free) g) : W p l e R s m args below meth c H locs cells slots (vx_MQ below Qc XC args s mc ms free) g := by
  intro T hT X
  obtain ⟨t, a1, o, b1, b2, b3, b4⟩ := k T hT X
  exact ⟨t, a1, o, b1, b2, Or.inl ⟨b3, b4⟩⟩
/-- not caught here: it goes on to the caller -/
theorem vx_widen {g : JFrame} {q : Addr} {k n : Nat} (h1 : cells ≤ k) (h2 : slots ≤ n) (kk : vx_W p l e R s m args below meth c H locs k n Q g q) : vx_W p l e R s m args below meth c H locs cells slots Q g q := fun T hT X => kk T hT (stand_widen X h1 h2)
theorem vx_out {pc : Nat} {E : String} {ce : Cell} {q : Addr} {mc ms : Nat} (hout : ∀ x ∈ c.exceptionTable.toList, covers x pc = false) (hlocks : meth.locks = false) (hcell : H[q]? = some ce) (hv : ce.vm = .none) (hcl : s.vm.findClass E = some ce.cls)
    (hx : ∀ t : State, t.heap = H → s.vm.Alike t.vm → XC E s t) (hf : ∀ z ∈ locs, free z.base) (hc : cells ≤ mc) (hs : slots ≤ ms) :
    vx_W p l e R s m args below meth c H locs cells slots (vx_MQ below Qc XC args s mc ms free) (F0 m pc ls rest) q := by
  intro T hT X
  obtain ⟨st1, hrun, hend, hW, hsm⟩ := X.leaveThrown q (g := F0 m pc ls rest) rfl rfl rfl hout hlocks
  have hcell9 : (T.setFrames (.throwing q :: below)).heap[q]? = some ce := by
    show T.heap[q]? = some ce
    rw [hT]; exact hcell
  exact ⟨_, st1, .threw q, hrun, hend, Or.inr ⟨q, rfl, E, ce, locs, hx _ hT hW.alike, hcell9, hv, hcl, hW, hsm.mono hc hs, hf⟩⟩
theorem vx_frame {U : State} {k n : Nat} (h : s.sameButNew ({ U with vm := s.vm } : State) locs k n) : s.heap.size ≤ U.heap.size ∧ ∀ q : Nat, q < s.heap.size → (∀ z ∈ locs, z.base ≠ q) → U.heap[q]? = s.heap[q]? := by
  obtain ⟨-, h2, -, -, -, h6⟩ := h
  refine ⟨h2, fun q hq hz => ?_⟩
  obtain ⟨c9, e1, e2, e3, e4⟩ := h6 q _ (Array.getElem?_eq_getElem hq)
  have hs : c9.slots = (s.heap[q]).slots := Array.ext_getElem? fun i => e4 i fun hm => hz _ hm rfl
  have h9 : c9 = s.heap[q] := by
    rw [hs] at e2
    exact e2
  have e5 : U.heap[q]? = some c9 := e1
  rw [e5, h9, Array.getElem?_eq_getElem hq]
/-- the words of a throw but the four that speak of the heap -/
def vx_no (w : Cond) : Bool := decide (w ≠ .isRef (.static Bundle.tN "UNASSIGNED_STACK" Bundle.steD)) && decide (w ≠ .isRef (.static Bundle.tN "SUPPRESSED_SENTINEL" Bundle.listD)) && decide (w ≠ .laysStatic Bundle.tN "UNASSIGNED_STACK" Bundle.steD) && decide (w ≠ .laysStatic Bundle.tN "SUPPRESSED_SENTINEL" Bundle.listD)
def vx_at0 (own : String) (ic : Nat) (X : String) (names : List String) : List Cond := (Bundle.ownAtoms0 own ic X names).filter vx_no
def vx_atS (own : String) (ic : Nat) (X : String) (names : List String) : List Cond := (Bundle.ownAtoms own ic X names).filter vx_no
/-- a word that the tables alone decide, or a good one -/
def vx_ot (w : Cond) : Bool := w.onTables || goodWord w
theorem vx_ot_at {args a' : Array Value} {s U : State} {w : Cond} (hW : s.WarmedH U.vm) (hvm : s.vm = U.vm) (hg : vx_ot w = true) (h : w.before args s = true) : w.before a' U = true := by
  simp only [vx_ot, Bool.or_eq_true] at hg
  rcases hg with hg | hg
  · exact va_tabs hg hvm h
  · exact word_at hW (good_of_word hg) h
/-- a list's words: the good ones out of the method's own list, the others by premises of their own -/
theorem vx_hat {args : Array Value} {s : State} {L B : List Cond} (h1 : ∀ w ∈ L.filter goodWord, w.before args s = true) (h2 : ∀ w ∈ L.filter (fun w => !goodWord w), w ∈ B) (h3 : ∀ w ∈ B, w.before args s = true) : ∀ w ∈ L, w.before args s = true := by
  intro w hw
  by_cases g : goodWord w = true
  · exact h1 w (List.mem_filter.mpr ⟨hw, g⟩)
  · refine h3 w (h2 w (List.mem_filter.mpr ⟨hw, ?_⟩))
    show (!goodWord w) = true
    cases hgw : goodWord w
    · rfl
    · exact absurd hgw g
theorem vx_c {args : Array Value} {s : State} {w : Cond} {B : List Cond} (h : w.before args s = true) (t : ∀ w ∈ B, w.before args s = true) : ∀ w' ∈ w :: B, w'.before args s = true := fun w' h' => (List.mem_cons.mp h').elim (fun e => by rw [e]; exact h) (t w')
theorem vx_n {args : Array Value} {s : State} : ∀ w ∈ ([] : List Cond), w.before args s = true := fun _ h => nomatch h
theorem vx_own {args : Array Value} {s : State} {L : List Cond} (h1 : ∀ w ∈ L.filter vx_no, w.before args s = true)
    (hU : (Cond.isRef (.static Bundle.tN "UNASSIGNED_STACK" Bundle.steD)).before args s = true) (hN : (Cond.isRef (.static Bundle.tN "SUPPRESSED_SENTINEL" Bundle.listD)).before args s = true)
    (lU : (Cond.laysStatic Bundle.tN "UNASSIGNED_STACK" Bundle.steD).before args s = true) (lN : (Cond.laysStatic Bundle.tN "SUPPRESSED_SENTINEL" Bundle.listD).before args s = true) : ∀ w ∈ L, w.before args s = true := by
  intro w hw
  by_cases e1 : w = .isRef (.static Bundle.tN "UNASSIGNED_STACK" Bundle.steD)
  · rw [e1]; exact hU
  · by_cases e2 : w = .isRef (.static Bundle.tN "SUPPRESSED_SENTINEL" Bundle.listD)
    · rw [e2]; exact hN
    · by_cases e3 : w = .laysStatic Bundle.tN "UNASSIGNED_STACK" Bundle.steD
      · rw [e3]; exact lU
      · by_cases e4 : w = .laysStatic Bundle.tN "SUPPRESSED_SENTINEL" Bundle.listD
        · rw [e4]; exact lN
        · exact h1 w (List.mem_filter.mpr ⟨hw, by unfold vx_no; rw [decide_eq_true e1, decide_eq_true e2, decide_eq_true e3, decide_eq_true e4]; rfl⟩)
/-- where a static field lies, its class's statics cell in H -/
def vx_L (C n d : String) (A : Nat → Prop) (U : State) (H : Heap) : Prop := ∃ (c : ClassId) (k : Class) (i : Nat) (f : Field) (a : Nat) (cell : Cell), U.vm.findClass C = some c ∧ U.fieldFound? C n d = some (c, k, i, f) ∧ f.isStatic = true ∧ k.statics = some a ∧ H[a]? = some cell ∧ cell.vm.isStatics = true ∧ cell.cls = c ∧ f.slot < cell.slots.size ∧ k.staticTypes[f.slot]? = some f.type ∧ ¬ A a
theorem vx_L.moved {C n d : String} {A : Nat → Prop} {u U : State} {H : Heap} (hvm : u.vm.Alike U.vm) (h : vx_L C n d A u H) : vx_L C n d A U H := by
  obtain ⟨c, k, i, f, a, cell, h1, h2, h3, h4, h5, h6, h7, h8, h9, h10⟩ := h
  obtain ⟨k', hi', he⟩ := State.fieldFound?_setVm hvm h2
  exact ⟨c, k', i, f, a, cell, by rw [hvm.findClass]; exact h1, hi', h3, by rw [he]; exact h4, h5, h6, h7, h8, by rw [he]; exact h9, h10⟩
theorem vx_L.kept {C n d : String} {A : Nat → Prop} {U : State} {H H1 : Heap} (h : vx_L C n d A U H) (hq : ∀ a : Nat, a < H.size → ¬ A a → H1[a]? = H[a]?) : vx_L C n d A U H1 := by
  obtain ⟨c, k, i, f, a, cell, h1, h2, h3, h4, h5, h6, h7, h8, h9, h10⟩ := h
  exact ⟨c, k, i, f, a, cell, h1, h2, h3, h4, by rw [hq a (Array.getElem?_eq_some_iff.mp h5).1 h10]; exact h5, h6, h7, h8, h9, h10⟩
theorem vx_L.narrow {C n d : String} {A B : Nat → Prop} {U : State} {H : Heap} (h : vx_L C n d A U H) (hAB : ∀ q, B q → A q) : vx_L C n d B U H := by
  obtain ⟨c, k, i, f, a, cell, h1, h2, h3, h4, h5, h6, h7, h8, h9, h10⟩ := h
  exact ⟨c, k, i, f, a, cell, h1, h2, h3, h4, h5, h6, h7, h8, h9, fun z => h10 (hAB _ z)⟩
theorem vx_L.word {C n d : String} {A : Nat → Prop} {s : State} {args : Array Value} (h : vx_L C n d A s s.heap) : (Cond.laysStatic C n d).before args s = true := by
  obtain ⟨c, k, i, f, a, cell, h1, h2, h3, h4, h5, h6, h7, h8, h9, -⟩ := h
  show (Cond.laysStatic C n d).holds args s none s [] = true
  exact Cond.laysStatic_of h1 h2 h3 h4 h5 h6 h7 h8 h9
/-- .. and what it holds: null or some reference -/
def vx_Zq (C n d : String) (A : Nat → Prop) (U : State) (H : Heap) : Prop := va_Zq C n d A U H ∧ vx_L C n d A U H
theorem vx_Zq.moved {C n d : String} {A : Nat → Prop} {u U : State} {H : Heap} (hvm : u.vm.Alike U.vm) (h : vx_Zq C n d A u H) : vx_Zq C n d A U H := ⟨va_Zq.moved hvm h.1, vx_L.moved hvm h.2⟩
theorem vx_Zq.kept {C n d : String} {A : Nat → Prop} {U : State} {H H1 : Heap} (h : vx_Zq C n d A U H) (hq : ∀ a : Nat, a < H.size → ¬ A a → H1[a]? = H[a]?) : vx_Zq C n d A U H1 := ⟨va_Zq.kept h.1 hq, vx_L.kept h.2 hq⟩
theorem vx_Zq.narrow {C n d : String} {A B : Nat → Prop} {U : State} {H : Heap} (h : vx_Zq C n d A U H) (hAB : ∀ q, B q → A q) : vx_Zq C n d B U H := ⟨va_Zq.narrow h.1 hAB, vx_L.narrow h.2 hAB⟩
theorem vx_Zqof {args : Array Value} {s : State} {C n d : String} {A : Nat → Prop} (hl : (Cond.laysStatic C n d).before args s = true) (hini : (Cond.initialized C).before args s = true) (h : (Cond.isRef (.static C n d)).before args s = true) (hA : ∀ a : Nat, a < s.heap.size → ¬ A a) : vx_Zq C n d A s s.heap := by
  refine ⟨va_Zqof hl hini h hA, ?_⟩
  obtain ⟨c, k, i, f, a, cell, h1, h2, h3, h4, h5, h6, h7, h8, h9⟩ := Cond.laysStatic_spec hl
  exact ⟨c, k, i, f, a, cell, h1, h2, h3, h4, h5, h6, h7, h8, h9, hA a (Array.getElem?_eq_some_iff.mp h5).1⟩
theorem vx_isRef {C n d : String} {v : Value} {A : Nat → Prop} {s : State} {args : Array Value} (h : va_Z C n d v A s s.heap) (hv : v.isRef = true) : (Cond.isRef (.static C n d)).before args s = true := by
  obtain ⟨cf, kf, fi, f, a, cell, h1, h2, h3, h4, h5, h6, h7, -⟩ := h
  have he : (Term.static C n d).eval args s none [] s = some v := by
    simp [Term.eval, State.fieldNamed?, h1, h2, h4, h5, h6, h7]
  simp only [Cond.before, Cond.holds, Cond.value, he]
  cases v <;> simp_all [Value.isRef]
theorem vx_isRefq {C n d : String} {A : Nat → Prop} {s : State} {args : Array Value} (h : va_Zq C n d A s s.heap) : (Cond.isRef (.static C n d)).before args s = true := by
  rcases h with h | ⟨t, h⟩
  · exact vx_isRef h rfl
  · exact vx_isRef h rfl
/-- the same frame, seen from here: as if the method were called anew in this heap -/
theorem vx_rebase {T : State} (X : Stand p l e R s m args below meth c T locs cells slots) {R' : Room} (hf : R'.frames ≤ R.frames) (hl : R'.locals ≤ R.locals) (hc : cells + R'.cells ≤ R.cells) (hs : slots + R'.slots ≤ R.slots) :
    Stand p l e R' ((T.setVm s.vm).setFrames (.invoking m args :: below)) m args below meth c T [] 0 0 := by
  have htop : (T.setVm s.vm).topJava?.isSome := X.here.top
  have hF : ((T.setVm s.vm).setFrames (.invoking m args :: below)).frames = .invoking m args :: below := State.frames_setFrames _ (State.cur_lt_of_top htop)
  obtain ⟨g₀, hg0⟩ := Option.isSome_iff_exists.mp htop
  obtain ⟨r, hr⟩ := State.topJava?_eq_some.mp hg0
  have hl9 : e.platform.stackLimits (T.setVm s.vm).me = e.platform.stackLimits s.me := X.limits
  have hb9 : (T.setVm s.vm).me.stackBytes = s.me.stackBytes := X.bytes
  refine ⟨X.admits, X.cas, X.clock, hF, ?_, X.hears, X.method, X.code, X.here, X.tail, X.warmed, ?_, ?_, ?_⟩
  · have h := X.room
    have hU : ((T.setVm s.vm).setFrames (.invoking m args :: below)).localsInUse = s.localsInUse := by
      rw [State.localsInUse_invoking hF (meth := meth) (c := c) X.method X.code, State.localsInUse_invoking X.frames X.method X.code]
    simp only [State.hasRoom, Bool.and_eq_true, decide_eq_true_eq] at h ⊢
    obtain ⟨⟨⟨⟨h1, h2, h3, h4, h5, h6⟩, h7⟩, h8⟩, h9⟩ := h
    rw [X.frames, List.length_cons] at h2 h3
    have q1 := X.heapSize
    have q2 := X.used
    simp only [hF, hU, List.length_cons, State.stackLimits_setFrames, State.stackBytes_setFrames, hl9, hb9]
    refine ⟨⟨⟨⟨by omega, by omega, by omega, by omega, by omega, h6⟩, ?_⟩, ?_⟩, X.book⟩
    · show T.heap.size + R'.cells ≤ e.platform.maxCells
      omega
    · show T.slotsUsed + R'.slots ≤ e.platform.maxSlots
      omega
  · rw [State.stackLimits_setFrames]; rfl
  · rw [State.stackBytes_setFrames]; rfl
  · refine ⟨?_, Nat.le_refl _, Nat.le_refl _, ?_, ?_, fun a c9 h9 => ⟨c9, h9, rfl, rfl, fun _ _ => rfl⟩⟩
    · obtain ⟨t, ht, -⟩ := State.frames_cons hr
      show T.setVm s.vm = { ((T.setVm s.vm).setFrames (.invoking m args :: below)).setFrames (T.setVm s.vm).frames with heap := T.heap, slotsUsed := T.slotsUsed }
      rw [State.setFrames_setFrames, State.setFrames_self ht]
      rfl
    · show T.slotsUsed = T.slotsUsed + ((T.heap.toList.drop T.heap.size).map (·.slots.size)).sum
      rw [List.drop_eq_nil_of_le (Nat.le_of_eq Array.length_toList)]
      rfl
    · show ((T.heap.toList.drop T.heap.size).map (·.slots.size)).sum ≤ 0
      rw [List.drop_eq_nil_of_le (Nat.le_of_eq Array.length_toList)]
      exact Nat.le_refl _
/-- 'throw new E()': new; dup; invokespecial; athrow -/
theorem vx_throw0 {cc : ByteArray} {pc : Nat} (hexec : p.tables.exec = Jvm.exec) (hb : c.code = cc) (hl : l.stackTraces = false) {own cls : String} {names : List String} {ik ic mc ms : Nat} {A : Nat → Prop}
    (hown : s.vm.findClass own = some m.cls) (hcls : Bundle.fit cls = true) (hnames : ∀ n ∈ names, Bundle.fit n = true)
    (hk : (Cond.classLink own ik cls).before args s = true) (hini : (Cond.initialized cls).before args s = true) (hat : ∀ w ∈ vx_at0 own ic cls names, w.before args s = true)
    (hgood : ∀ w ∈ Cond.classLink own ik cls :: Cond.initialized cls :: vx_at0 own ic cls names, vx_ot w = true)
    (hU : vx_Zq Bundle.tN "UNASSIGNED_STACK" Bundle.steD A s s.heap) (hN : vx_Zq Bundle.tN "SUPPRESSED_SENTINEL" Bundle.listD A s s.heap) (hS : va_S A s.heap H locs) (hsize : ls.size = c.maxLocals)
    (d0 : decode cc pc = .ok (.new ik, 3)) (d3 : decode cc (pc + 3) = .ok (.dup, 1)) (d4 : decode cc (pc + 4) = .ok (.invokespecial ic, 3)) (d7 : decode cc (pc + 7) = .ok (.athrow, 1))
    (hout : ∀ x ∈ c.exceptionTable.toList, covers x (pc + 7) = false)
    (hRframes : names.length + 3 < R.frames) (hRlocals : (rest.map fun v => v.category).sum + (13 * (names.length + 1) + 42) ≤ R.locals) (hRcells : cells + 1 ≤ R.cells) (hRslots : slots + 6 ≤ R.slots) (hlocks : meth.locks = false)
    (hx : ∀ t : State, s.vm.Alike t.vm → H.size ≤ t.heap.size → (∀ q : Nat, q < H.size → t.heap[q]? = H[q]?) → XC cls s t)
    (hf : ∀ z ∈ locs, free z.base) (hc : cells + 1 ≤ mc) (hs : slots + 6 ≤ ms) :
    W p l e R s m args below meth c H locs cells slots (vx_MQ below Qc XC args s mc ms free) (F0 m pc ls rest) := by
  intro T hT X
  have htr : e.platform.stackTraces = false := (show e.platform.stackTraces = l.stackTraces by rw [X.admits.platform]).trans hl
  have Y := vx_rebase X (R' := { frames := R.frames, locals := R.locals, cells := 1, slots := 6 }) (Nat.le_refl _) (Nat.le_refl _) hRcells hRslots
  obtain ⟨s', hA⟩ : ∃ z, z = (T.setVm s.vm).setFrames (.invoking m args :: below) := ⟨_, rfl⟩
  rw [← hA] at Y
  have hvm : s'.vm = s.vm := by rw [hA]; rfl
  have hhp : s'.heap = H := by rw [hA]; exact hT
  have hW0 : s.WarmedH s'.vm := by rw [hvm]; exact State.WarmedH.refl s
  have hat' : ∀ w ∈ vx_at0 own ic cls names, w.before args s' = true := fun w hw => vx_ot_at hW0 hvm.symm (hgood w (List.mem_cons_of_mem _ (List.mem_cons_of_mem _ hw))) (hat w hw)
  have hk' : (Cond.classLink own ik cls).before args s' = true := vx_ot_at hW0 hvm.symm (hgood _ List.mem_cons_self) hk
  have hini' : (Cond.initialized cls).before args s' = true := vx_ot_at hW0 hvm.symm (hgood _ (List.mem_cons_of_mem _ List.mem_cons_self)) hini
  have hU' : vx_Zq Bundle.tN "UNASSIGNED_STACK" Bundle.steD A s' s'.heap := by rw [hhp]; exact vx_Zq.moved hW0.alike (hU.kept hS.2.1)
  have hN' : vx_Zq Bundle.tN "SUPPRESSED_SENTINEL" Bundle.listD A s' s'.heap := by rw [hhp]; exact vx_Zq.moved hW0.alike (hN.kept hS.2.1)
  have h : ∀ w ∈ Bundle.ownAtoms0 own ic cls names, w.before args s' = true := vx_own hat' (vx_isRefq hU'.1) (vx_isRefq hN'.1) hU'.2.word hN'.2.word
  have hown' : s'.vm.findClass own = some m.cls := by rw [hvm]; exact hown
  have hins : (Cond.instantiable cls 6).before args s' = true := h _ (by simp [Bundle.ownAtoms0])
  obtain ⟨vm₁, cX, kX, hfX, hkX, -, -, X₁, st1⟩ := Y.newCold hexec (own := own) (C := cls) (index := ik) (n := 6) hown' hk' hins hini'
    (g := F0 m pc ls rest) rfl (by rw [hb]; exact d0) (Nat.le_refl _) (Nat.le_refl _)
  generalize hT1 : (T.setVm vm₁).pushCell { cls := cX, slots := kX.instanceTypes.map defaultValue, vm := .none } = T1 at X₁ st1
  have hcat : (Value.ref T.heap.size).category = 1 := rfl
  have hcellA : T1.heap[T.heap.size]? = some (freshCell cX kX) := by rw [← hT1]; exact State.heap_pushCell_size _ _
  have d3' : decode c.code (pc + 3) = .ok (.dup, 1) := by rw [hb]; exact d3
  obtain ⟨U, hsteps, hrun, hend, hW, hsame, ce, hce, hO⟩ := X₁.ctorThrow0 hexec htr (own := own) (cls := cls) (names := names) (ic := ic) hown' hcls hnames h (fun x hx => nomatch hx) hfX hkX hcellA (by rw [hhp, hT]; exact Nat.le_refl _)
    (g := { method := m, pc := pc + 4, locals := ls, stack := .ref T.heap.size :: .ref T.heap.size :: rest, locked := none }) rfl hsize rfl rfl (rest := rest) rfl
    (by rw [hb]; exact d4) (by rw [hb]; exact d7) hout hRframes (by simp only [List.map_cons, List.sum_cons, hcat]; omega) hlocks
  obtain ⟨f1, f2⟩ := vx_frame hsame
  rw [hhp] at f1 f2
  have hWs : s.WarmedH U.vm := State.WarmedH.trans hW0 hW
  have hcl : s.vm.findClass cls = some ce.cls := by
    have h9 := hO.cls
    rw [hvm] at h9
    exact h9
  have hall : s.sameButNew ({ U with vm := s.vm } : State) locs mc ms := by
    subst hA
    obtain ⟨e1, e2⟩ := hsame
    rw [State.setFrames_setFrames] at e1
    have h2 : (T.setVm s.vm).sameButNew ({ U with vm := s.vm } : State) [] (0 + 1) (0 + 6) := ⟨e1, e2⟩
    have h3 := X.same.trans h2
    rw [List.append_nil] at h3
    exact h3.mono hc hs
  refine ⟨U, ?_, .threw T.heap.size, hrun, hend, Or.inr ⟨T.heap.size, rfl, cls, ce, locs, hx U hWs.alike f1 (fun q hq => f2 q hq (fun z hz => nomatch hz)), hce, hO.vm, hcl, hWs, hall, hf⟩⟩
  refine st1 _ ?_
  show Steps p.tables e below (T1.setTop { method := m, pc := pc + 3, locals := ls, stack := .ref T.heap.size :: rest, locked := none }) _
  jvm_step X₁.here [X₁.here.top, hexec, d3', Value.category]
  exact hsteps
/-- 'throw new E("text")': new; dup; ldc; invokespecial; athrow -/
theorem vx_throwS {cc : ByteArray} {pc : Nat} (hexec : p.tables.exec = Jvm.exec) (hb : c.code = cc) (hl : l.stackTraces = false) {own cls text : String} {names : List String} {ik is ic mc ms sa : Nat} {A : Nat → Prop}
    (hown : s.vm.findClass own = some m.cls) (hcls : Bundle.fit cls = true) (hnames : ∀ n ∈ names, Bundle.fit n = true)
    (hk : (Cond.classLink own ik cls).before args s = true) (hini : (Cond.initialized cls).before args s = true) (hstr : vk_R own is text sa s) (hat : ∀ w ∈ vx_atS own ic cls names, w.before args s = true)
    (hgood : ∀ w ∈ Cond.classLink own ik cls :: Cond.initialized cls :: vx_atS own ic cls names, vx_ot w = true)
    (hU : vx_Zq Bundle.tN "UNASSIGNED_STACK" Bundle.steD A s s.heap) (hN : vx_Zq Bundle.tN "SUPPRESSED_SENTINEL" Bundle.listD A s s.heap) (hS : va_S A s.heap H locs) (hsize : ls.size = c.maxLocals)
    (d0 : decode cc pc = .ok (.new ik, 3)) (d3 : decode cc (pc + 3) = .ok (.dup, 1)) (d4 : decode cc (pc + 4) = .ok (.ldc is, 2)) (d6 : decode cc (pc + 6) = .ok (.invokespecial ic, 3)) (d9 : decode cc (pc + 9) = .ok (.athrow, 1))
    (hout : ∀ x ∈ c.exceptionTable.toList, covers x (pc + 9) = false)
    (hRframes : names.length + 3 < R.frames) (hRlocals : (rest.map fun v => v.category).sum + (13 * (names.length + 1) + 43) ≤ R.locals) (hRcells : cells + 1 ≤ R.cells) (hRslots : slots + 6 ≤ R.slots) (hlocks : meth.locks = false)
    (hx : ∀ t : State, s.vm.Alike t.vm → H.size ≤ t.heap.size → (∀ q : Nat, q < H.size → t.heap[q]? = H[q]?) → XC cls s t)
    (hf : ∀ z ∈ locs, free z.base) (hc : cells + 1 ≤ mc) (hs : slots + 6 ≤ ms) :
    W p l e R s m args below meth c H locs cells slots (vx_MQ below Qc XC args s mc ms free) (F0 m pc ls rest) := by
  intro T hT X
  have htr : e.platform.stackTraces = false := (show e.platform.stackTraces = l.stackTraces by rw [X.admits.platform]).trans hl
  have Y := vx_rebase X (R' := { frames := R.frames, locals := R.locals, cells := 1, slots := 6 }) (Nat.le_refl _) (Nat.le_refl _) hRcells hRslots
  obtain ⟨s', hA⟩ : ∃ z, z = (T.setVm s.vm).setFrames (.invoking m args :: below) := ⟨_, rfl⟩
  rw [← hA] at Y
  have hvm : s'.vm = s.vm := by rw [hA]; rfl
  have hhp : s'.heap = H := by rw [hA]; exact hT
  have hW0 : s.WarmedH s'.vm := by rw [hvm]; exact State.WarmedH.refl s
  have hat' : ∀ w ∈ vx_atS own ic cls names, w.before args s' = true := fun w hw => vx_ot_at hW0 hvm.symm (hgood w (List.mem_cons_of_mem _ (List.mem_cons_of_mem _ hw))) (hat w hw)
  have hk' : (Cond.classLink own ik cls).before args s' = true := vx_ot_at hW0 hvm.symm (hgood _ List.mem_cons_self) hk
  have hini' : (Cond.initialized cls).before args s' = true := vx_ot_at hW0 hvm.symm (hgood _ (List.mem_cons_of_mem _ List.mem_cons_self)) hini
  have hU' : vx_Zq Bundle.tN "UNASSIGNED_STACK" Bundle.steD A s' s'.heap := by rw [hhp]; exact vx_Zq.moved hW0.alike (hU.kept hS.2.1)
  have hN' : vx_Zq Bundle.tN "SUPPRESSED_SENTINEL" Bundle.listD A s' s'.heap := by rw [hhp]; exact vx_Zq.moved hW0.alike (hN.kept hS.2.1)
  have h : ∀ w ∈ Bundle.ownAtoms own ic cls names, w.before args s' = true := vx_own hat' (vx_isRefq hU'.1) (vx_isRefq hN'.1) hU'.2.word hN'.2.word
  have hown' : s'.vm.findClass own = some m.cls := by rw [hvm]; exact hown
  have hins : (Cond.instantiable cls 6).before args s' = true := h _ (by simp [Bundle.ownAtoms])
  obtain ⟨vm₁, cX, kX, hfX, hkX, -, -, X₁, st1⟩ := Y.newCold hexec (own := own) (C := cls) (index := ik) (n := 6) hown' hk' hins hini'
    (g := F0 m pc ls rest) rfl (by rw [hb]; exact d0) (Nat.le_refl _) (Nat.le_refl _)
  generalize hT1 : (T.setVm vm₁).pushCell { cls := cX, slots := kX.instanceTypes.map defaultValue, vm := .none } = T1 at X₁ st1
  have hcat : (Value.ref T.heap.size).category = 1 := rfl
  have hcellA : T1.heap[T.heap.size]? = some (freshCell cX kX) := by rw [← hT1]; exact State.heap_pushCell_size _ _
  have d3' : decode c.code (pc + 3) = .ok (.dup, 1) := by rw [hb]; exact d3
  have d4' : decode c.code (pc + 4) = .ok (.ldc is, 2) := by rw [hb]; exact d4
  have hstr' : vk_R own is text sa s' := vk_R.warm hW0 hstr
  obtain ⟨U, hsteps, hrun, hend, hW, hsame, ce, hce, hO⟩ := X₁.ctorThrowS hexec htr (own := own) (cls := cls) (names := names) (ic := ic) hown' hcls hnames h (fun x hx => nomatch hx) hfX hkX hcellA (by rw [hhp, hT]; exact Nat.le_refl _) (msg := .ref sa) rfl
    (g := { method := m, pc := pc + 6, locals := ls, stack := .ref sa :: .ref T.heap.size :: .ref T.heap.size :: rest, locked := none }) rfl hsize rfl rfl (rest := rest) rfl
    (by rw [hb]; exact d6) (by rw [hb]; exact d9) hout hRframes (by simp only [List.map_cons, List.sum_cons, hcat]; omega) hlocks
  obtain ⟨f1, f2⟩ := vx_frame hsame
  rw [hhp] at f1 f2
  have hWs : s.WarmedH U.vm := State.WarmedH.trans hW0 hW
  have hcl : s.vm.findClass cls = some ce.cls := by
    have h9 := hO.cls
    rw [hvm] at h9
    exact h9
  have hall : s.sameButNew ({ U with vm := s.vm } : State) locs mc ms := by
    subst hA
    obtain ⟨e1, e2⟩ := hsame
    rw [State.setFrames_setFrames] at e1
    have h2 : (T.setVm s.vm).sameButNew ({ U with vm := s.vm } : State) [] (0 + 1) (0 + 6) := ⟨e1, e2⟩
    have h3 := X.same.trans h2
    rw [List.append_nil] at h3
    exact h3.mono hc hs
  refine ⟨U, ?_, .threw T.heap.size, hrun, hend, Or.inr ⟨T.heap.size, rfl, cls, ce, locs, hx U hWs.alike f1 (fun q hq => f2 q hq (fun z hz => nomatch hz)), hce, hO.vm, hcl, hWs, hall, hf⟩⟩
  refine st1 _ ?_
  show Steps p.tables e below (T1.setTop { method := m, pc := pc + 3, locals := ls, stack := .ref T.heap.size :: rest, locked := none }) _
  jvm_step X₁.here [X₁.here.top, hexec, d3', Value.category]
  exact X₁.ldcString hexec (own := own) (text := text) (index := is) (a := sa) hown' hstr'.1 hstr'.2
    (g := { method := m, pc := pc + 4, locals := ls, stack := .ref T.heap.size :: .ref T.heap.size :: rest, locked := none }) rfl d4' _ hsteps
/-- 'throw new E("text")', the text by a wide index -/
theorem vx_throwSW {cc : ByteArray} {pc : Nat} (hexec : p.tables.exec = Jvm.exec) (hb : c.code = cc) (hl : l.stackTraces = false) {own cls text : String} {names : List String} {ik is ic mc ms sa : Nat} {A : Nat → Prop}
    (hown : s.vm.findClass own = some m.cls) (hcls : Bundle.fit cls = true) (hnames : ∀ n ∈ names, Bundle.fit n = true)
    (hk : (Cond.classLink own ik cls).before args s = true) (hini : (Cond.initialized cls).before args s = true) (hstr : vk_R own is text sa s) (hat : ∀ w ∈ vx_atS own ic cls names, w.before args s = true)
    (hgood : ∀ w ∈ Cond.classLink own ik cls :: Cond.initialized cls :: vx_atS own ic cls names, vx_ot w = true)
    (hU : vx_Zq Bundle.tN "UNASSIGNED_STACK" Bundle.steD A s s.heap) (hN : vx_Zq Bundle.tN "SUPPRESSED_SENTINEL" Bundle.listD A s s.heap) (hS : va_S A s.heap H locs) (hsize : ls.size = c.maxLocals)
    (d0 : decode cc pc = .ok (.new ik, 3)) (d3 : decode cc (pc + 3) = .ok (.dup, 1)) (d4 : decode cc (pc + 4) = .ok (.ldc_w is, 3)) (d7 : decode cc (pc + 7) = .ok (.invokespecial ic, 3)) (d10 : decode cc (pc + 10) = .ok (.athrow, 1))
    (hout : ∀ x ∈ c.exceptionTable.toList, covers x (pc + 10) = false)
    (hRframes : names.length + 3 < R.frames) (hRlocals : (rest.map fun v => v.category).sum + (13 * (names.length + 1) + 43) ≤ R.locals) (hRcells : cells + 1 ≤ R.cells) (hRslots : slots + 6 ≤ R.slots) (hlocks : meth.locks = false)
    (hx : ∀ t : State, s.vm.Alike t.vm → H.size ≤ t.heap.size → (∀ q : Nat, q < H.size → t.heap[q]? = H[q]?) → XC cls s t)
    (hf : ∀ z ∈ locs, free z.base) (hc : cells + 1 ≤ mc) (hs : slots + 6 ≤ ms) :
    W p l e R s m args below meth c H locs cells slots (vx_MQ below Qc XC args s mc ms free) (F0 m pc ls rest) := by
  intro T hT X
  have htr : e.platform.stackTraces = false := (show e.platform.stackTraces = l.stackTraces by rw [X.admits.platform]).trans hl
  have Y := vx_rebase X (R' := { frames := R.frames, locals := R.locals, cells := 1, slots := 6 }) (Nat.le_refl _) (Nat.le_refl _) hRcells hRslots
  obtain ⟨s', hA⟩ : ∃ z, z = (T.setVm s.vm).setFrames (.invoking m args :: below) := ⟨_, rfl⟩
  rw [← hA] at Y
  have hvm : s'.vm = s.vm := by rw [hA]; rfl
  have hhp : s'.heap = H := by rw [hA]; exact hT
  have hW0 : s.WarmedH s'.vm := by rw [hvm]; exact State.WarmedH.refl s
  have hat' : ∀ w ∈ vx_atS own ic cls names, w.before args s' = true := fun w hw => vx_ot_at hW0 hvm.symm (hgood w (List.mem_cons_of_mem _ (List.mem_cons_of_mem _ hw))) (hat w hw)
  have hk' : (Cond.classLink own ik cls).before args s' = true := vx_ot_at hW0 hvm.symm (hgood _ List.mem_cons_self) hk
  have hini' : (Cond.initialized cls).before args s' = true := vx_ot_at hW0 hvm.symm (hgood _ (List.mem_cons_of_mem _ List.mem_cons_self)) hini
  have hU' : vx_Zq Bundle.tN "UNASSIGNED_STACK" Bundle.steD A s' s'.heap := by rw [hhp]; exact vx_Zq.moved hW0.alike (hU.kept hS.2.1)
  have hN' : vx_Zq Bundle.tN "SUPPRESSED_SENTINEL" Bundle.listD A s' s'.heap := by rw [hhp]; exact vx_Zq.moved hW0.alike (hN.kept hS.2.1)
  have h : ∀ w ∈ Bundle.ownAtoms own ic cls names, w.before args s' = true := vx_own hat' (vx_isRefq hU'.1) (vx_isRefq hN'.1) hU'.2.word hN'.2.word
  have hown' : s'.vm.findClass own = some m.cls := by rw [hvm]; exact hown
  have hins : (Cond.instantiable cls 6).before args s' = true := h _ (by simp [Bundle.ownAtoms])
  obtain ⟨vm₁, cX, kX, hfX, hkX, -, -, X₁, st1⟩ := Y.newCold hexec (own := own) (C := cls) (index := ik) (n := 6) hown' hk' hins hini'
    (g := F0 m pc ls rest) rfl (by rw [hb]; exact d0) (Nat.le_refl _) (Nat.le_refl _)
  generalize hT1 : (T.setVm vm₁).pushCell { cls := cX, slots := kX.instanceTypes.map defaultValue, vm := .none } = T1 at X₁ st1
  have hcat : (Value.ref T.heap.size).category = 1 := rfl
  have hcellA : T1.heap[T.heap.size]? = some (freshCell cX kX) := by rw [← hT1]; exact State.heap_pushCell_size _ _
  have d3' : decode c.code (pc + 3) = .ok (.dup, 1) := by rw [hb]; exact d3
  have d4' : decode c.code (pc + 4) = .ok (.ldc_w is, 3) := by rw [hb]; exact d4
  have hstr' : vk_R own is text sa s' := vk_R.warm hW0 hstr
  obtain ⟨U, hsteps, hrun, hend, hW, hsame, ce, hce, hO⟩ := X₁.ctorThrowS hexec htr (own := own) (cls := cls) (names := names) (ic := ic) hown' hcls hnames h (fun x hx => nomatch hx) hfX hkX hcellA (by rw [hhp, hT]; exact Nat.le_refl _) (msg := .ref sa) rfl
    (g := { method := m, pc := pc + 7, locals := ls, stack := .ref sa :: .ref T.heap.size :: .ref T.heap.size :: rest, locked := none }) rfl hsize rfl rfl (rest := rest) rfl
    (by rw [hb]; exact d7) (by rw [hb]; exact d10) hout hRframes (by simp only [List.map_cons, List.sum_cons, hcat]; omega) hlocks
  obtain ⟨f1, f2⟩ := vx_frame hsame
  rw [hhp] at f1 f2
  have hWs : s.WarmedH U.vm := State.WarmedH.trans hW0 hW
  have hcl : s.vm.findClass cls = some ce.cls := by
    have h9 := hO.cls
    rw [hvm] at h9
    exact h9
  have hall : s.sameButNew ({ U with vm := s.vm } : State) locs mc ms := by
    subst hA
    obtain ⟨e1, e2⟩ := hsame
    rw [State.setFrames_setFrames] at e1
    have h2 : (T.setVm s.vm).sameButNew ({ U with vm := s.vm } : State) [] (0 + 1) (0 + 6) := ⟨e1, e2⟩
    have h3 := X.same.trans h2
    rw [List.append_nil] at h3
    exact h3.mono hc hs
  refine ⟨U, ?_, .threw T.heap.size, hrun, hend, Or.inr ⟨T.heap.size, rfl, cls, ce, locs, hx U hWs.alike f1 (fun q hq => f2 q hq (fun z hz => nomatch hz)), hce, hO.vm, hcl, hWs, hall, hf⟩⟩
  refine st1 _ ?_
  show Steps p.tables e below (T1.setTop { method := m, pc := pc + 3, locals := ls, stack := .ref T.heap.size :: rest, locked := none }) _
  jvm_step X₁.here [X₁.here.top, hexec, d3', Value.category]
  exact X₁.ldcStringW hexec (own := own) (text := text) (index := is) (a := sa) hown' hstr'.1 hstr'.2
    (g := { method := m, pc := pc + 4, locals := ls, stack := .ref T.heap.size :: .ref T.heap.size :: rest, locked := none }) rfl d4' _ hsteps
end Ends
section Bodies
variable {l : Launch}
theorem vx_ofW {y : MethodName} {ws ws' : List Cond} {rm : Room} {Pc : Array Value → State → Prop} {Qc : Array Value → State → Outcome → State → Prop} {XC : String → State → State → Prop} {mc ms : Nat} {free : Addr → Prop} {cc : ByteArray} {maxL : Nat} {ret : Option FieldType}
    (hy : plainName y.cls = true) (hw : ws = Cond.code y cc maxL ret :: ws')
    (body : ∀ p e s m args below meth c s₁, BodyLoose p l y (headSpec ws rm) cc maxL ret e s m args below meth c s₁ → c.maxLocals = maxL → (∀ x ∈ c.exceptionTable.toList, False) → Pc args s →
      W p l e (headSpec ws rm).room s m args below meth c s.heap [] 0 0 (vx_MQ below Qc XC args s mc ms free) (entryFrame m args maxL)) : vx_Met l y ws rm Pc Qc XC mc ms free := by
  refine MetFree.of_bodyS (code := cc) (maxLocals := maxL) (ret := ret) hy ?_ ?_
  · intro args s m h hn
    obtain ⟨meth, c, h1, h2, h3, h4, h5, h6, -, -⟩ := Cond.code_spec hn (atoms_spec (ws := ws) h _ (by rw [hw]; exact List.mem_cons_self))
    exact ⟨meth, c, h1, h2, h3, h4, h5, h6⟩
  · intro p e s m args below meth c s₁ B hml hP _
    have hh0 : s₁.heap = s.heap := by rw [B.state]; rfl
    have ht : ∀ x ∈ c.exceptionTable.toList, False := by
      obtain ⟨meth9, c9, h1, h2, -, -, -, -, h7, -⟩ := Cond.code_spec B.named (atoms_spec (ws := ws) B.pre _ (by rw [hw]; exact List.mem_cons_self))
      cases Option.some.inj (h1.symm.trans B.method)
      cases Option.some.inj (h2.symm.trans (Stand.of_body B).code)
      intro x hx
      rw [Array.isEmpty_iff.mp h7] at hx
      cases hx
    obtain ⟨t, a1, o, b1, b2, b3⟩ := body p e s m args below meth c s₁ B hml ht hP s₁ hh0 (Stand.of_body B)
    exact ⟨t, o, a1, b1, b2, b3⟩
/-- the table of a body with handlers -/
theorem vx_table {p : Program} {x y : MethodName} {S : Spec} {cc bytes : ByteArray} {maxL maxL' : Nat} {ret ret' : Option FieldType} {e : Env} {s s₁ : State} {m : MethodId} {args : Array Value} {below : List Frame} {meth : Method} {c : Code} {hh : List (Nat × Nat × Nat × Nat)}
    (B : BodyLoose p l y S cc maxL ret e s m args below meth c s₁) (h : (Cond.codeWith y bytes maxL' ret' hh).before args s = true) : c.exceptionTable.toList = tableOf hh := by
  obtain ⟨m9, meth9, c9, hn9, h1, h2, -, -, h6, -⟩ := Cond.codeWith_spec h
  cases Option.some.inj (hn9.symm.trans B.named)
  cases Option.some.inj (h1.symm.trans B.method)
  cases Option.some.inj (h2.symm.trans (Stand.of_body B).code)
  rw [← h6, table_eq]
end Bodies
end VXA
/-! ===== END ===== -/
/-! ===== BEGIN a static call of a method with an exception table ===== -/
section VXS
variable {p : Program} {l : Launch} {e : Env} {R : Room} {s : State} {m : MethodId} {args : Array Value} {below : List Frame} {meth : Method} {c : Code} {T : State} {H : Heap} {locs : List Loc} {cells slots : Nat}
abbrev vx_CSW (R : Room) (s : State) (args : Array Value) (own : String) (index : Nat) (y : MethodName) (bytes : ByteArray) (maxL : Nat) (ret : Option FieldType) (hh : List (Nat × Nat × Nat × Nat)) (ws : List Cond) (rm : Room) (mc ms n : Nat) : Prop :=
  (rm.cells = mc ∧ rm.slots = ms ∧ rm.frames + 1 ≤ R.frames ∧ 8 + (maxL + 11) + rm.locals ≤ R.locals ∧ (∀ w ∈ ws, ∀ (a' : Array Value) (U : State), s.WarmedH U.vm → w.before a' U = true) ∧ Cond.codeWith y bytes maxL ret hh ∈ ws) ∧
  (Cond.codeWith y bytes maxL ret hh).before args s = true ∧ (Cond.initialized y.cls).before args s = true ∧ (y.cls ≠ "java/lang/invoke/MethodHandle" ∧ y.cls ≠ "java/lang/invoke/VarHandle") ∧
  (∀ sig, parseMethodDescriptor y.desc = some sig → n = sig.parameters.length) ∧ (Cond.methodLink own index y).before args s = true ∧ (Cond.static y).before args s = true
theorem vx_cwSW {own : String} {index maxL mc ms : Nat} {y : MethodName} {bytes : ByteArray} {ret : Option FieldType} {hh : List (Nat × Nat × Nat × Nat)} {Ts ws ws' : List Cond} {rm : Room} (n : Nat) (ht : ∀ w ∈ Ts, w.before args s = true) (hT : GoodIn Ts (va_wsS own index y ws)) (hw : ws = Cond.codeWith y bytes maxL ret hh :: ws') (hrc : rm.cells = mc) (hrs : rm.slots = ms)
    (hd : y.cls ≠ "java/lang/invoke/MethodHandle" ∧ y.cls ≠ "java/lang/invoke/VarHandle" ∧ (parseMethodDescriptor y.desc).map (fun d => d.parameters.length) = some n) (hR : rm.frames + 1 ≤ R.frames ∧ 8 + (maxL + 11) + rm.locals ≤ R.locals) :
    vx_CSW R s args own index y bytes maxL ret hh ws rm mc ms n := by
  have ok : ∀ w ∈ va_wsS own index y ws, w.before args s = true := fun w h => ht w (hT w h).1
  have hG : GoodIn Ts ws := fun w h => hT w (by unfold va_wsS; exact List.mem_append_right _ h)
  have hc : Cond.codeWith y bytes maxL ret hh ∈ ws := by rw [hw]; exact List.mem_cons_self
  refine ⟨⟨hrc, hrs, hR.1, hR.2, pay_in ht hG, hc⟩, ht _ (hG _ hc).1, ok _ (by simp [va_wsS]), ⟨hd.1, hd.2.1⟩, fun sig h => ?_, ok _ (by simp [va_wsS]), ok _ (by simp [va_wsS])⟩
  have h2 := hd.2.2
  rw [h] at h2
  exact (Option.some.inj h2).symm
theorem vx_callSW (X : Stand p l e R s m args below meth c T locs cells slots) (hexec : p.tables.exec = Jvm.exec) {own : String} {index : Nat} {y : MethodName} {bytes : ByteArray} {maxL : Nat} {ret : Option FieldType} {hh : List (Nat × Nat × Nat × Nat)}
    (hown : s.vm.findClass own = some m.cls) (hlink : (Cond.methodLink own index y).before args s = true) (hstat : (Cond.static y).before args s = true) (hinit : (Cond.initialized y.cls).before args s = true)
    (hcode : (Cond.codeWith y bytes maxL ret hh).before args s = true) (hy : y.cls ≠ "java/lang/invoke/MethodHandle" ∧ y.cls ≠ "java/lang/invoke/VarHandle")
    {W9 : Nat} {Pre : Pt → Array Value → Prop} {Post : Pt → Array Value → Option Value → Pt → Prop} (hK : Back l R p e below s args y 3 W9 Pre Post)
    {g : JFrame} (hg : g.method = m) (hsize : g.locals.size = c.maxLocals) {argsL rest : List Value} (hlen : ∀ sig, parseMethodDescriptor y.desc = some sig → argsL.length = sig.parameters.length)
    (hstack : g.stack = argsL.reverse ++ rest) (hW : 2 * g.monitorRoom + (rest.map fun v => v.category).sum ≤ W9) (hdg : decode c.code g.pc = .ok (.invokestatic index, 3))
    (hpre : ∀ vm₁, s.WarmedH vm₁ → Pre ⟨T.setVm vm₁, locs, cells, slots⟩ argsL.toArray) :
    ∃ (v : Option Value) (vm₁ : Vm) (B : Pt), s.WarmedH vm₁ ∧ Stand p l e R s m args below meth c B.U B.locs B.cells B.slots ∧ Post ⟨T.setVm vm₁, locs, cells, slots⟩ argsL.toArray v B ∧
      ∀ target, Steps p.tables e below (B.U.setTop { g with pc := g.pc + 3, stack := v.toList ++ rest }) target → Steps p.tables e below (T.setTop g) target := by
  obtain ⟨mk, methM, cM, hnamed, hmethM, -, -, -, -, -, -, hsigM⟩ := Cond.codeWith_spec hcode
  have hstatic : methM.isStatic = true := Cond.static_spec hnamed hmethM hstat
  obtain ⟨kP, hkP, -⟩ := className_of_methodNamed hnamed
  have hinitP : kP.init = .initialized := Cond.initialized_spec (findClass_of_methodNamed hnamed) hkP hinit
  obtain ⟨vm₁, X₁, hstep₁⟩ := X.invokestatic hexec hown hlink hnamed hmethM hstatic hkP hinitP hy (g := g) hg (argsL := argsL) (rest := rest) (hlen _ hsigM) hstack hdg
  obtain ⟨v, B, X', hpost, hsteps⟩ := hK m meth c ⟨T.setVm vm₁, locs, cells, slots⟩ { g with stack := rest } (.invokestatic index) mk argsL.toArray X₁ hg hsize hdg hW (X₁.named hnamed) (hpre vm₁ X₁.warmed)
  exact ⟨v, vm₁, B, X₁.warmed, X', hpost, fun target h => hstep₁ _ fun acts => by rw [doInvoke_state]; exact hsteps.trans h⟩
theorem vx_runSW {y : MethodName} {bytes cc : ByteArray} {maxL nL mc ms n index : Nat} {ret : Option FieldType} {hh : List (Nat × Nat × Nat × Nat)} {ws : List Cond} {rm : Room} {Pc : Array Value → State → Prop} {Qc : Array Value → State → Outcome → State → Prop} {free : Addr → Prop} {Ts : List Cond} {own : String} {As rest : List Value} {g : JFrame}
    (S : CallFix p m c cc nL s args Ts own) (hM : Met l y ws rm Pc Qc mc ms free) (cw : vx_CSW R s args own index y bytes maxL ret hh ws rm mc ms n) (hp : PreS s H Pc As)
    (hg : g.method = m) (hn : As.length = n) (hsize : g.locals.size = nL) (hstack : g.stack = As.reverse ++ rest) (hW : 2 * g.monitorRoom + (rest.map fun v => v.category).sum ≤ 8) (hdg : decode cc g.pc = .ok (.invokestatic index, 3)) (hf : cells + mc ≤ R.cells ∧ slots + ms ≤ R.slots) :
    va_Run p l e R s m args below meth c H locs cells slots mc ms g rest (Qc As.toArray) (free) := by
  obtain ⟨⟨hrc, hrs, hfr, hlo, hws, hcw⟩, hcode, hini, hy, hlen, hl, hstt⟩ := cw
  have hK : Back l R p e below s args y 3 8 (PreOf R mc ms Pc) (PostOf Qc mc ms free) := va_backW (hh := hh) (bytes := bytes) (maxL := maxL) (ret := ret) hM hp.1 hrc hrs hfr hlo hws hcw (fun a' U hW => word_at hW (Or.inl (by first | rfl | simp [Cond.onTables, Cond.keeps, Cond.steady])) hini)
  obtain ⟨hx, hb, hml, ho, -⟩ := S
  intro T hT X
  obtain ⟨v, vm₁, ⟨U', l2, c2, s2⟩, hW₁, X', ⟨g', mk, t, L, e1, e2, hq, h1, hL, h2, h3⟩, st⟩ := vx_callSW X hx (hh := hh) (bytes := bytes) (maxL := maxL) (ret := ret) ho hl hstt hini hcode hy hK hg (hsize.trans hml.symm) (argsL := As) (rest := rest) (fun sig h => hn.trans (hlen sig h)) hstack hW (by rw [hb]; exact hdg)
    (fun vm₁ hW₁ => ⟨hf.1, hf.2, hp.2 (T.setVm vm₁) hT hW₁⟩)
  dsimp only [Pt.U, Pt.locs, Pt.cells, Pt.slots] at X' e1 e2 h1 h2 h3 st
  subst h1; subst h2; subst h3
  exact ⟨v, (T.setVm vm₁).calling g' mk As.toArray, t, U', L, hT, X', hL, e1, e2, hq, st⟩
/-- not caught here, past rows that name other classes: it goes on to the caller -/
theorem vx_outP {p : Program} {l : Launch} {e : Env} {R : Room} {s : State} {m : MethodId} {args : Array Value} {below : List Frame} {meth : Method} {c : Code} {H : Heap} {locs : List Loc} {cells slots : Nat} {free : Addr → Prop} {ls : Array Slot} {rest : List Value} {Qc : Array Value → State → Outcome → State → Prop} {XC : String → State → State → Prop}
    {pc : Nat} {own E : String} {ce : Cell} {q : Addr} {mc ms : Nat} (hown : s.vm.findClass own = some m.cls) (hlocks : meth.locks = false)
    (hpass : ∀ z ∈ c.exceptionTable.toList, covers z pc = false ∨ (z.catchType ≠ 0 ∧ ∃ nm : String, (Cond.classLink own z.catchType nm).before args s = true ∧ va_Nc E nm s)) (hcell : H[q]? = some ce) (hv : ce.vm = .none) (hcl : s.vm.findClass E = some ce.cls)
    (hx : ∀ t : State, t.heap = H → s.vm.Alike t.vm → XC E s t) (hf : ∀ z ∈ locs, free z.base) (hc : cells ≤ mc) (hs : slots ≤ ms) :
    vx_W p l e R s m args below meth c H locs cells slots (vx_MQ below Qc XC args s mc ms free) (F0 m pc ls rest) q := by
  intro T hT X
  have hpl : e.platform.magicAccessors = ({} : Platform).magicAccessors := by rw [X.admits.platform]
  obtain ⟨vm', hW', X', st⟩ := X.outThrough hlocks q (g := F0 m pc ls rest) rfl rfl rfl (cell := ce) (by rw [hT]; exact hcell) (by rw [hv]; rfl)
    (by obtain ⟨k9, h9, -⟩ := Vm.findClass_spec hcl; exact ⟨k9, h9⟩) (fun z hz => by
      rcases hpass z hz with h | ⟨hz0, nm, hl1, hn1⟩
      · exact Or.inl h
      · obtain ⟨c6, hc6, hcl6⟩ := Cond.classLink_spec hown hl1 e.platform hpl
        obtain ⟨a8, b8, h1, h2, h3⟩ := hn1
        cases Option.some.inj (h1.symm.trans hcl)
        cases Option.some.inj (h2.symm.trans hc6)
        exact Or.inr ⟨hz0, _, hcl6, h3⟩)
  obtain ⟨g₀, hfr⟩ := X'.frames_eq
  have hcell9 : ((T.setVm vm').setFrames (.throwing q :: below)).heap[q]? = some ce := by
    show T.heap[q]? = some ce
    rw [hT]; exact hcell
  have hend : Ended ((T.setVm vm').setFrames (.throwing q :: below)) below (.threw q) := State.frames_setFrames _ (State.cur_lt_of_frames hfr)
  refine ⟨(T.setVm vm').setFrames (.throwing q :: below), ?_, .threw q, X'.here.running, hend, Or.inr ⟨q, rfl, E, ce, locs, hx _ hT (X'.ends _).1.alike, hcell9, hv, hcl, (X'.ends _).1, (X'.ends _).2.mono hc hs, hf⟩⟩
  rw [X.pushThrowing_eq]
  exact st
/-- a thing of a world lies in the heap -/
theorem vx_lt {D : va_G} {cl : List vw_C} {ws : va_W} {H1 : Heap} (h : va_P D cl ws H1) {k : Nat} {q : Nat × va_E} (hk : ws[k]? = some q) : q.1 < H1.size := (h k q hk).lt
end VXS
/-! ===== END ===== -/
/-! ===== BEGIN methods with a table of their own: called by a name, returning or throwing ===== -/
section VXH
/-! vx_backW, vx_callVX, vx_callSX, vx_callVW, vx_runVW, vx_runVX, vx_runSX, vx_ofWH follow the same proofs as their sisters above (Free/Laws.lean, Shelf42/LK1.lean); vx_outP calls Shelf42/NT130.lean (outThrough). -/
section
variable {l : Launch} {R : Room} {p : Program} {e : Env} {below : List Frame} {s : State} {sargs : Array Value} {y : MethodName} {len W9 : Nat}
theorem vx_backW {ws : List Cond} {rm : Room} {Pc : Array Value → State → Prop} {Qc : Array Value → State → Outcome → State → Prop} {XC : String → State → State → Prop} {mc ms : Nat} {free : Addr → Prop} {bytes : ByteArray} {maxL : Nat} {ret : Option FieldType} {hh : List (Nat × Nat × Nat × Nat)}
    (hM : vx_Met l y ws rm Pc Qc XC mc ms free) (hblind : FrameBlind Pc) (hrc : rm.cells = mc) (hrs : rm.slots = ms)
    (hframes : rm.frames + 1 ≤ R.frames) (hlocals : W9 + (maxL + 11) + rm.locals ≤ R.locals)
    (hws : ∀ w ∈ ws, ∀ a' U, s.WarmedH U.vm → w.before a' U = true) (hcode : Cond.codeWith y bytes maxL ret hh ∈ ws) (hinit : ∀ a' U, s.WarmedH U.vm → (Cond.initialized y.cls).before a' U = true) :
    vx_Back l R p e below s sargs y len W9 (PreOf R mc ms Pc) (PostOf Qc mc ms free) (vx_Post XC mc ms free) := by
  intro m meth c A g ig mk a X hg hsize hdg hW hn hp
  have h1 : (headSpec ws rm).pre.before a A.U = true := atoms_intro fun w hw => hws w hw _ _ X.warmed
  have h2 : (Cond.codeWith y bytes maxL ret hh).before a A.U = true := hws _ hcode _ _ X.warmed
  have h3 : (Cond.initialized y.cls).before a A.U = true := hinit _ _ X.warmed
  have h4 : A.cells + (headSpec ws rm).room.cells ≤ R.cells := by rw [show (headSpec ws rm).room.cells = mc from hrc]; exact hp.1
  have h5 : A.slots + (headSpec ws rm).room.slots ≤ R.slots := by rw [show (headSpec ws rm).room.slots = ms from hrs]; exact hp.2.1
  have hPc : Pc a (A.U.calling g mk a) := hblind _ _ _ _ hp.2.2
  obtain ⟨U, Ls, c0, s0⟩ := A
  dsimp only [Pt.U, Pt.locs, Pt.cells, Pt.slots] at h1 h2 h3 h4 h5 X hn hPc ⊢
  obtain ⟨m9, methY, cY, hn9, hmY, hcY, -, hlY, -⟩ := Cond.codeWith_spec h2
  cases Option.some.inj (hn9.symm.trans hn)
  obtain ⟨kY, hkY, -⟩ := className_of_methodNamed hn
  have hinitY : kY.init = .initialized := Cond.initialized_spec (findClass_of_methodNamed hn) hkY h3
  have h : At U g.method c below := by rw [hg]; exact X.here
  have hlocals9 : W9 + (maxL + 11) + (headSpec ws rm).room.locals ≤ R.locals := hlocals
  have happ : (headSpec ws rm).appliesLoose y e.platform (U.calling g mk a) = true :=
    Spec.appliesLoose_calling (g := g) h hdg hn hkY hinitY
      (X.room_calling (g := g) (R' := (headSpec ws rm).room) hsize hmY hcY hframes (by rw [hlY]; omega) h4 h5) h1
  obtain ⟨mid, hmid⟩ := h.above
  have hfr : (U.setTop g).frames = (.java g :: mid) ++ below := by rw [State.frames_setTop' g h.top, hmid]; rfl
  obtain ⟨o, s₂, hsteps, -, hend, hq⟩ := Steps.callFree hM p X.admits X.cas X.clock (acts := []) hfr happ hPc trivial
  have hq' : vx_Q Qc XC mc ms free a (U.calling g mk a) o s₂ := hq
  rw [State.frames_setTop' g h.top] at hend
  obtain ⟨g₀, hg0⟩ := Option.isSome_iff_exists.mp h.top
  obtain ⟨r, hr⟩ := State.topJava?_eq_some.mp hg0
  have hr' : (({ U with heap := s₂.heap, slotsUsed := s₂.slotsUsed } : State).setVm s₂.vm).frames = .java g₀ :: r := hr
  rcases hq' with ⟨hqc, L, hfe, hL⟩ | ⟨q, rfl, E, ce, L, hx, hce, hcv, hcl, hW₂, hsm, hL⟩
  · obtain ⟨⟨v, rfl⟩, hW₂, e2, q2, q3, q4, q5, q6⟩ := id hfe
    have e3 : s₂ = ({ (U.calling g mk a).setFrames s₂.frames with heap := s₂.heap, slotsUsed := s₂.slotsUsed } : State).setVm s₂.vm := by
      have : s₂ = ({ s₂ with vm := (U.calling g mk a).vm } : State).setVm s₂.vm := rfl
      rw [e2] at this
      exact this
    obtain ⟨c₂, i₂, len₂, hc₂, hd₂, hf₂⟩ := hend
    have hW' : U.WarmedH s₂.vm := hW₂
    have hcc : c₂ = c := by
      have h1 : s₂.code? g.method = U.code? g.method := by
        rw [State.code?_eq, State.code?_eq, hW'.alike.method?]
      exact Option.some.inj (hc₂.symm.trans (h1.trans h.code))
    subst hcc
    have hlen : len₂ = len := by rw [hdg] at hd₂; cases hd₂; rfl
    subst hlen
    have hs₂ : s₂ = (({ U with heap := s₂.heap, slotsUsed := s₂.slotsUsed } : State).setVm s₂.vm).setTop { g with pc := g.pc + len₂, stack := v.toList ++ g.stack } := by
      refine e3.trans ?_
      rw [hf₂, State.calling_eq h.top, State.setFrames_setFrames, State.setTop_of_frames _ hr', hr]
      rfl
    have hsame : U.sameButNew ({ U with heap := s₂.heap, slotsUsed := s₂.slotsUsed } : State) L mc ms := by
      refine ⟨?_, q2, q3, q4, q5, q6⟩
      obtain ⟨t, ht, -⟩ := State.frames_cons hr
      show ({ U with heap := s₂.heap, slotsUsed := s₂.slotsUsed } : State) = { U.setFrames U.frames with heap := s₂.heap, slotsUsed := s₂.slotsUsed }
      rw [State.setFrames_self ht]
    subst hg
    refine Or.inl ⟨v, ⟨(({ U with heap := s₂.heap, slotsUsed := s₂.slotsUsed } : State).setVm s₂.vm), Ls ++ L, c0 + mc, s0 + ms⟩,
      ⟨X.admits, X.cas, X.clock, X.frames, X.room, X.hears, X.method, X.code, (X.here.setHeapUsed s₂.heap s₂.slotsUsed).setVm hW'.alike, X.tail, State.WarmedH.trans X.warmed hW', X.limits, X.bytes, X.same.trans (hsame.setVm s.vm)⟩,
      ⟨g, mk, s₂, L, rfl, rfl, hqc, rfl, hL, rfl, rfl⟩, ?_⟩
    show Steps p.tables e below _ ((({ U with heap := s₂.heap, slotsUsed := s₂.slotsUsed } : State).setVm s₂.vm).setTop { g with pc := g.pc + len₂, stack := v.toList ++ g.stack })
    rw [← hs₂]
    exact hsteps
  · obtain ⟨e2, q2, q3, q4, q5, q6⟩ := id hsm
    have e3 : s₂ = ({ (U.calling g mk a).setFrames s₂.frames with heap := s₂.heap, slotsUsed := s₂.slotsUsed } : State).setVm s₂.vm := by
      have : s₂ = ({ s₂ with vm := (U.calling g mk a).vm } : State).setVm s₂.vm := rfl
      rw [e2] at this
      exact this
    have hf₂ : s₂.frames = .throwing q :: .java g :: U.frames.tail := hend
    have hW' : U.WarmedH s₂.vm := hW₂
    have hs₂ : s₂ = ((({ U with heap := s₂.heap, slotsUsed := s₂.slotsUsed } : State).setVm s₂.vm).setTop g).pushFrame (.throwing q) := by
      refine e3.trans ?_
      rw [hf₂, State.calling_eq h.top, State.setFrames_setFrames, State.pushFrame, State.frames_setTop _ hr', State.setTop_of_frames _ hr', State.setFrames_setFrames, hr]
      rfl
    have hsame : U.sameButNew ({ U with heap := s₂.heap, slotsUsed := s₂.slotsUsed } : State) L mc ms := by
      refine ⟨?_, q2, q3, q4, q5, q6⟩
      obtain ⟨t, ht, -⟩ := State.frames_cons hr
      show ({ U with heap := s₂.heap, slotsUsed := s₂.slotsUsed } : State) = { U.setFrames U.frames with heap := s₂.heap, slotsUsed := s₂.slotsUsed }
      rw [State.setFrames_self ht]
    subst hg
    refine Or.inr ⟨q, ⟨(({ U with heap := s₂.heap, slotsUsed := s₂.slotsUsed } : State).setVm s₂.vm), Ls ++ L, c0 + mc, s0 + ms⟩,
      ⟨X.admits, X.cas, X.clock, X.frames, X.room, X.hears, X.method, X.code, (X.here.setHeapUsed s₂.heap s₂.slotsUsed).setVm hW'.alike, X.tail, State.WarmedH.trans X.warmed hW', X.limits, X.bytes, X.same.trans (hsame.setVm s.vm)⟩,
      ⟨g, mk, s₂, L, E, ce, rfl, rfl, hx, hce, hcv, hcl, rfl, hL, rfl, rfl⟩, ?_⟩
    show Steps p.tables e below _ (((({ U with heap := s₂.heap, slotsUsed := s₂.slotsUsed } : State).setVm s₂.vm).setTop g).pushFrame (.throwing q))
    rw [← hs₂]
    exact hsteps
end
variable {p : Program} {l : Launch} {e : Env} {R : Room} {s : State} {m : MethodId} {args : Array Value} {below : List Frame} {meth : Method} {c : Code} {T : State} {H : Heap} {locs : List Loc} {cells slots : Nat}
theorem vx_callVX (X : Stand p l e R s m args below meth c T locs cells slots) (hexec : p.tables.exec = Jvm.exec) {own C : String} {index : Nat} {y : MethodName} {bytes : ByteArray} {maxL : Nat} {ret : Option FieldType} {hh : List (Nat × Nat × Nat × Nat)}
    (hown : s.vm.findClass own = some m.cls) (hlink : (Cond.methodLink own index y).before args s = true) (hinst : (Cond.instanceMethod y).before args s = true) (hsel : (Cond.selects C y y).before args s = true)
    (hcode : (Cond.codeWith y bytes maxL ret hh).before args s = true) (hy : y.cls ≠ "java/lang/invoke/MethodHandle" ∧ y.cls ≠ "java/lang/invoke/VarHandle")
    {W9 : Nat} {Pre : Pt → Array Value → Prop} {Post : Pt → Array Value → Option Value → Pt → Prop} {PostX : Pt → Array Value → Addr → Pt → Prop} (hK : vx_Back l R p e below s args y 3 W9 Pre Post PostX)
    {b : Addr} {cellB : Cell} (hcell : T.heap[b]? = some cellB) (hobj : cellB.vm.isStatics = false) (hcls : s.vm.findClass C = some cellB.cls)
    {g : JFrame} (hg : g.method = m) (hsize : g.locals.size = c.maxLocals) {argsL rest : List Value} (hlen : ∀ sig, parseMethodDescriptor y.desc = some sig → argsL.length = sig.parameters.length)
    (hstack : g.stack = argsL.reverse ++ .ref b :: rest) (hW : 2 * g.monitorRoom + (rest.map fun v => v.category).sum ≤ W9) (hdg : decode c.code g.pc = .ok (.invokevirtual index, 3))
    (hpre : ∀ vm₁, s.WarmedH vm₁ → Pre ⟨T.setVm vm₁, locs, cells, slots⟩ (Value.ref b :: argsL).toArray) :
    (∃ (v : Option Value) (vm₁ : Vm) (B : Pt), s.WarmedH vm₁ ∧ Stand p l e R s m args below meth c B.U B.locs B.cells B.slots ∧ Post ⟨T.setVm vm₁, locs, cells, slots⟩ (Value.ref b :: argsL).toArray v B ∧
      ∀ target, Steps p.tables e below (B.U.setTop { g with pc := g.pc + 3, stack := v.toList ++ rest }) target → Steps p.tables e below (T.setTop g) target) ∨
    (∃ (q : Addr) (vm₁ : Vm) (B : Pt), s.WarmedH vm₁ ∧ Stand p l e R s m args below meth c B.U B.locs B.cells B.slots ∧ PostX ⟨T.setVm vm₁, locs, cells, slots⟩ (Value.ref b :: argsL).toArray q B ∧
      Steps p.tables e below (T.setTop g) ((B.U.setTop { g with stack := rest }).pushFrame (.throwing q))) := by
  obtain ⟨mk, methM, hnamed, hmethM, hstM, habM⟩ := Cond.instanceMethod_spec hinst
  obtain ⟨m8, methM', cM, hn8, hmethM', -, -, -, -, -, -, hsigM⟩ := Cond.codeWith_spec hcode
  cases Option.some.inj (hn8.symm.trans hnamed)
  cases hmethM.symm.trans hmethM'
  obtain ⟨c2, r2, m2, q1, q2, q3, q4, kP, hkP, hkPi⟩ := Cond.selects_spec hsel
  cases hcls.symm.trans q1
  cases (State.methodFound?_of_named hnamed hy).symm.trans q2
  cases hnamed.symm.trans q3
  have hselP : selectMethod e.platform s.vm cellB.cls mk = .method mk := by rw [Launch.admits_selectMethod X.admits]; exact q4
  obtain ⟨vm₁, X₁, hstep₁⟩ := X.invokevirtual hexec hown hlink hnamed hmethM hstM hkP hkPi hy (a := b) (cell := cellB) hcell
    (fun z h => by rw [h] at hobj; cases hobj) hselP hmethM habM hkP hkPi (g := g) hg (argsL := argsL) (rest := rest) (hlen _ hsigM) hstack hdg
  rcases hK m meth c ⟨T.setVm vm₁, locs, cells, slots⟩ { g with stack := rest } (.invokevirtual index) mk (Value.ref b :: argsL).toArray X₁ hg hsize hdg hW (X₁.named hnamed) (hpre vm₁ X₁.warmed) with ⟨v, B, X', hpost, hsteps⟩ | ⟨q, B, X', hpost, hsteps⟩
  · exact Or.inl ⟨v, vm₁, B, X₁.warmed, X', hpost, fun target h => hstep₁ _ fun acts => by rw [doInvoke_state]; exact hsteps.trans h⟩
  · exact Or.inr ⟨q, vm₁, B, X₁.warmed, X', hpost, hstep₁ _ fun acts => by rw [doInvoke_state]; exact hsteps⟩
theorem vx_callSX (X : Stand p l e R s m args below meth c T locs cells slots) (hexec : p.tables.exec = Jvm.exec) {own : String} {index : Nat} {y : MethodName} {bytes : ByteArray} {maxL : Nat} {ret : Option FieldType} {hh : List (Nat × Nat × Nat × Nat)}
    (hown : s.vm.findClass own = some m.cls) (hlink : (Cond.methodLink own index y).before args s = true) (hstat : (Cond.static y).before args s = true) (hinit : (Cond.initialized y.cls).before args s = true)
    (hcode : (Cond.codeWith y bytes maxL ret hh).before args s = true) (hy : y.cls ≠ "java/lang/invoke/MethodHandle" ∧ y.cls ≠ "java/lang/invoke/VarHandle")
    {W9 : Nat} {Pre : Pt → Array Value → Prop} {Post : Pt → Array Value → Option Value → Pt → Prop} {PostX : Pt → Array Value → Addr → Pt → Prop} (hK : vx_Back l R p e below s args y 3 W9 Pre Post PostX)
    {g : JFrame} (hg : g.method = m) (hsize : g.locals.size = c.maxLocals) {argsL rest : List Value} (hlen : ∀ sig, parseMethodDescriptor y.desc = some sig → argsL.length = sig.parameters.length)
    (hstack : g.stack = argsL.reverse ++ rest) (hW : 2 * g.monitorRoom + (rest.map fun v => v.category).sum ≤ W9) (hdg : decode c.code g.pc = .ok (.invokestatic index, 3))
    (hpre : ∀ vm₁, s.WarmedH vm₁ → Pre ⟨T.setVm vm₁, locs, cells, slots⟩ argsL.toArray) :
    (∃ (v : Option Value) (vm₁ : Vm) (B : Pt), s.WarmedH vm₁ ∧ Stand p l e R s m args below meth c B.U B.locs B.cells B.slots ∧ Post ⟨T.setVm vm₁, locs, cells, slots⟩ argsL.toArray v B ∧
      ∀ target, Steps p.tables e below (B.U.setTop { g with pc := g.pc + 3, stack := v.toList ++ rest }) target → Steps p.tables e below (T.setTop g) target) ∨
    (∃ (q : Addr) (vm₁ : Vm) (B : Pt), s.WarmedH vm₁ ∧ Stand p l e R s m args below meth c B.U B.locs B.cells B.slots ∧ PostX ⟨T.setVm vm₁, locs, cells, slots⟩ argsL.toArray q B ∧
      Steps p.tables e below (T.setTop g) ((B.U.setTop { g with stack := rest }).pushFrame (.throwing q))) := by
  obtain ⟨mk, methM, cM, hnamed, hmethM, -, -, -, -, -, -, hsigM⟩ := Cond.codeWith_spec hcode
  have hstatic : methM.isStatic = true := Cond.static_spec hnamed hmethM hstat
  obtain ⟨kP, hkP, -⟩ := className_of_methodNamed hnamed
  have hinitP : kP.init = .initialized := Cond.initialized_spec (findClass_of_methodNamed hnamed) hkP hinit
  obtain ⟨vm₁, X₁, hstep₁⟩ := X.invokestatic hexec hown hlink hnamed hmethM hstatic hkP hinitP hy (g := g) hg (argsL := argsL) (rest := rest) (hlen _ hsigM) hstack hdg
  rcases hK m meth c ⟨T.setVm vm₁, locs, cells, slots⟩ { g with stack := rest } (.invokestatic index) mk argsL.toArray X₁ hg hsize hdg hW (X₁.named hnamed) (hpre vm₁ X₁.warmed) with ⟨v, B, X', hpost, hsteps⟩ | ⟨q, B, X', hpost, hsteps⟩
  · exact Or.inl ⟨v, vm₁, B, X₁.warmed, X', hpost, fun target h => hstep₁ _ fun acts => by rw [doInvoke_state]; exact hsteps.trans h⟩
  · exact Or.inr ⟨q, vm₁, B, X₁.warmed, X', hpost, hstep₁ _ fun acts => by rw [doInvoke_state]; exact hsteps⟩
theorem vx_callVW (X : Stand p l e R s m args below meth c T locs cells slots) (hexec : p.tables.exec = Jvm.exec) {own C : String} {index : Nat} {y : MethodName} {bytes : ByteArray} {maxL : Nat} {ret : Option FieldType} {hh : List (Nat × Nat × Nat × Nat)}
    (hown : s.vm.findClass own = some m.cls) (hlink : (Cond.methodLink own index y).before args s = true) (hinst : (Cond.instanceMethod y).before args s = true) (hsel : (Cond.selects C y y).before args s = true)
    (hcode : (Cond.codeWith y bytes maxL ret hh).before args s = true) (hy : y.cls ≠ "java/lang/invoke/MethodHandle" ∧ y.cls ≠ "java/lang/invoke/VarHandle")
    {W9 : Nat} {Pre : Pt → Array Value → Prop} {Post : Pt → Array Value → Option Value → Pt → Prop} (hK : Back l R p e below s args y 3 W9 Pre Post)
    {b : Addr} {cellB : Cell} (hcell : T.heap[b]? = some cellB) (hobj : cellB.vm.isStatics = false) (hcls : s.vm.findClass C = some cellB.cls)
    {g : JFrame} (hg : g.method = m) (hsize : g.locals.size = c.maxLocals) {argsL rest : List Value} (hlen : ∀ sig, parseMethodDescriptor y.desc = some sig → argsL.length = sig.parameters.length)
    (hstack : g.stack = argsL.reverse ++ .ref b :: rest) (hW : 2 * g.monitorRoom + (rest.map fun v => v.category).sum ≤ W9) (hdg : decode c.code g.pc = .ok (.invokevirtual index, 3))
    (hpre : ∀ vm₁, s.WarmedH vm₁ → Pre ⟨T.setVm vm₁, locs, cells, slots⟩ (Value.ref b :: argsL).toArray) :
    ∃ (v : Option Value) (vm₁ : Vm) (B : Pt), s.WarmedH vm₁ ∧ Stand p l e R s m args below meth c B.U B.locs B.cells B.slots ∧ Post ⟨T.setVm vm₁, locs, cells, slots⟩ (Value.ref b :: argsL).toArray v B ∧
      ∀ target, Steps p.tables e below (B.U.setTop { g with pc := g.pc + 3, stack := v.toList ++ rest }) target → Steps p.tables e below (T.setTop g) target := by
  obtain ⟨mk, methM, hnamed, hmethM, hstM, habM⟩ := Cond.instanceMethod_spec hinst
  obtain ⟨m8, methM', cM, hn8, hmethM', -, -, -, -, -, -, hsigM⟩ := Cond.codeWith_spec hcode
  cases Option.some.inj (hn8.symm.trans hnamed)
  cases hmethM.symm.trans hmethM'
  obtain ⟨c2, r2, m2, q1, q2, q3, q4, kP, hkP, hkPi⟩ := Cond.selects_spec hsel
  cases hcls.symm.trans q1
  cases (State.methodFound?_of_named hnamed hy).symm.trans q2
  cases hnamed.symm.trans q3
  have hselP : selectMethod e.platform s.vm cellB.cls mk = .method mk := by rw [Launch.admits_selectMethod X.admits]; exact q4
  obtain ⟨vm₁, X₁, hstep₁⟩ := X.invokevirtual hexec hown hlink hnamed hmethM hstM hkP hkPi hy (a := b) (cell := cellB) hcell
    (fun z h => by rw [h] at hobj; cases hobj) hselP hmethM habM hkP hkPi (g := g) hg (argsL := argsL) (rest := rest) (hlen _ hsigM) hstack hdg
  obtain ⟨v, B, X', hpost, hsteps⟩ := hK m meth c ⟨T.setVm vm₁, locs, cells, slots⟩ { g with stack := rest } (.invokevirtual index) mk (Value.ref b :: argsL).toArray X₁ hg hsize hdg hW (X₁.named hnamed) (hpre vm₁ X₁.warmed)
  exact ⟨v, vm₁, B, X₁.warmed, X', hpost, fun target h => hstep₁ _ fun acts => by rw [doInvoke_state]; exact hsteps.trans h⟩
abbrev vx_CVW (R : Room) (s : State) (args : Array Value) (own C : String) (index : Nat) (y : MethodName) (bytes : ByteArray) (maxL : Nat) (ret : Option FieldType) (hh : List (Nat × Nat × Nat × Nat)) (ws : List Cond) (rm : Room) (mc ms n : Nat) : Prop :=
  (rm.cells = mc ∧ rm.slots = ms ∧ rm.frames + 1 ≤ R.frames ∧ 8 + (maxL + 11) + rm.locals ≤ R.locals ∧ (∀ w ∈ ws, ∀ (a' : Array Value) (U : State), s.WarmedH U.vm → w.before a' U = true) ∧ Cond.codeWith y bytes maxL ret hh ∈ ws) ∧
  (Cond.codeWith y bytes maxL ret hh).before args s = true ∧ (Cond.initialized y.cls).before args s = true ∧ (y.cls ≠ "java/lang/invoke/MethodHandle" ∧ y.cls ≠ "java/lang/invoke/VarHandle") ∧
  (∀ sig, parseMethodDescriptor y.desc = some sig → n = sig.parameters.length) ∧ (Cond.methodLink own index y).before args s = true ∧ (Cond.instanceMethod y).before args s = true ∧ (Cond.selects C y y).before args s = true
theorem vx_cwVW {own C : String} {index maxL mc ms : Nat} {y : MethodName} {bytes : ByteArray} {ret : Option FieldType} {hh : List (Nat × Nat × Nat × Nat)} {Ts ws ws' : List Cond} {rm : Room} (n : Nat) (ht : ∀ w ∈ Ts, w.before args s = true) (hT : GoodIn Ts (wsV own index C y ws)) (hw : ws = Cond.codeWith y bytes maxL ret hh :: ws') (hrc : rm.cells = mc) (hrs : rm.slots = ms)
    (hd : y.cls = C ∧ y.cls ≠ "java/lang/invoke/MethodHandle" ∧ y.cls ≠ "java/lang/invoke/VarHandle" ∧ (parseMethodDescriptor y.desc).map (fun d => d.parameters.length) = some n) (hR : rm.frames + 1 ≤ R.frames ∧ 8 + (maxL + 11) + rm.locals ≤ R.locals) :
    vx_CVW R s args own C index y bytes maxL ret hh ws rm mc ms n := by
  obtain ⟨hC, hd⟩ := hd
  subst hC
  have ok : ∀ w ∈ wsV own index y.cls y ws, w.before args s = true := fun w h => ht w (hT w h).1
  have hG : GoodIn Ts ws := fun w h => hT w (by unfold wsV; exact List.mem_append_right _ h)
  have hc : Cond.codeWith y bytes maxL ret hh ∈ ws := by rw [hw]; exact List.mem_cons_self
  refine ⟨⟨hrc, hrs, hR.1, hR.2, pay_in ht hG, hc⟩, ht _ (hG _ hc).1, ok _ (by simp [wsV]), ⟨hd.1, hd.2.1⟩, fun sig h => ?_, ok _ (by simp [wsV]), ok _ (by simp [wsV]), ok _ (by simp [wsV])⟩
  have h2 := hd.2.2
  rw [h] at h2
  exact (Option.some.inj h2).symm
theorem vx_runVW {y : MethodName} {bytes cc : ByteArray} {maxL nL mc ms n index : Nat} {ret : Option FieldType} {hh : List (Nat × Nat × Nat × Nat)} {ws : List Cond} {rm : Room} {Pc : Array Value → State → Prop} {Qc : Array Value → State → Outcome → State → Prop} {free : Addr → Prop} {Ts : List Cond} {own C : String} {b : Addr} {As rest : List Value} {g : JFrame}
    (S : CallFix p m c cc nL s args Ts own) (hM : Met l y ws rm Pc Qc mc ms free) (cw : vx_CVW R s args own C index y bytes maxL ret hh ws rm mc ms n) (hp : PreV s H C b Pc As)
    (hg : g.method = m) (hn : As.length = n) (hsize : g.locals.size = nL) (hstack : g.stack = As.reverse ++ .ref b :: rest) (hW : 2 * g.monitorRoom + (rest.map fun v => v.category).sum ≤ 8) (hdg : decode cc g.pc = .ok (.invokevirtual index, 3)) (hf : cells + mc ≤ R.cells ∧ slots + ms ≤ R.slots) :
    va_Run p l e R s m args below meth c H locs cells slots mc ms g rest (Qc (Value.ref b :: As).toArray) free := by
  obtain ⟨⟨hrc, hrs, hfr, hlo, hws, hcw⟩, hcode, hini, hy, hlen, hl, hin, hse⟩ := cw
  have hK : Back l R p e below s args y 3 8 (PreOf R mc ms Pc) (PostOf Qc mc ms free) := va_backW (hh := hh) (bytes := bytes) (maxL := maxL) (ret := ret) hM hp.1 hrc hrs hfr hlo hws hcw (fun a' U hW => word_at hW (Or.inl (by first | rfl | simp [Cond.onTables, Cond.keeps, Cond.steady])) hini)
  obtain ⟨hx, hb, hml, ho, -⟩ := S
  obtain ⟨-, ⟨cellB, hcB, hoB, hclB⟩, hPc⟩ := hp
  intro T hT X
  obtain ⟨v, vm₁, ⟨U', l2, c2, s2⟩, hW₁, X', ⟨g', mk, t, L, e1, e2, hq, h1, hL, h2, h3⟩, st⟩ := vx_callVW X hx (C := C) (hh := hh) (bytes := bytes) (maxL := maxL) (ret := ret) ho hl hin hse hcode hy hK (by rw [hT]; exact hcB) hoB hclB hg (hsize.trans hml.symm) (argsL := As) (rest := rest) (fun sig h => hn.trans (hlen sig h)) hstack hW (by rw [hb]; exact hdg)
    (fun vm₁ hW₁ => ⟨hf.1, hf.2, hPc (T.setVm vm₁) hT hW₁⟩)
  dsimp only [Pt.U, Pt.locs, Pt.cells, Pt.slots] at X' e1 e2 h1 h2 h3 st
  subst h1; subst h2; subst h3
  exact ⟨v, (T.setVm vm₁).calling g' mk (Value.ref b :: As).toArray, t, U', L, hT, X', hL, e1, e2, hq, st⟩
section
variable {y : MethodName} {bytes cc : ByteArray} {maxL nL mc ms n index : Nat} {ret : Option FieldType} {ws : List Cond} {rm : Room} {Pc : Array Value → State → Prop} {Qc : Array Value → State → Outcome → State → Prop} {XC : String → State → State → Prop} {free : Addr → Prop} {Ts : List Cond} {own C : String} {b : Addr} {As rest : List Value} {g : JFrame}
theorem vx_runVX {hh : List (Nat × Nat × Nat × Nat)} (S : CallFix p m c cc nL s args Ts own) (hM : vx_Met l y ws rm Pc Qc XC mc ms free) (cw : vx_CVW R s args own C index y bytes maxL ret hh ws rm mc ms n) (hp : PreV s H C b Pc As)
    (hg : g.method = m) (hn : As.length = n) (hsize : g.locals.size = nL) (hstack : g.stack = As.reverse ++ .ref b :: rest) (hW : 2 * g.monitorRoom + (rest.map fun v => v.category).sum ≤ 8) (hdg : decode cc g.pc = .ok (.invokevirtual index, 3)) (hf : cells + mc ≤ R.cells ∧ slots + ms ≤ R.slots) :
    vx_Run p l e R s m args below meth c H locs cells slots mc ms g rest (Qc (Value.ref b :: As).toArray) XC free := by
  obtain ⟨⟨hrc, hrs, hfr, hlo, hws, hcw⟩, hcode, hini, hy, hlen, hl, hin, hse⟩ := cw
  have hK : vx_Back l R p e below s args y 3 8 (PreOf R mc ms Pc) (PostOf Qc mc ms free) (vx_Post XC mc ms free) := vx_backW (hh := hh) (bytes := bytes) (maxL := maxL) (ret := ret) hM hp.1 hrc hrs hfr hlo hws hcw (fun a' U hW => word_at hW (Or.inl (by first | rfl | simp [Cond.onTables, Cond.keeps, Cond.steady])) hini)
  obtain ⟨hx, hb, hml, ho, -⟩ := S
  obtain ⟨-, ⟨cellB, hcB, hoB, hclB⟩, hPc⟩ := hp
  intro T hT X
  rcases vx_callVX X hx (C := C) (hh := hh) (bytes := bytes) (maxL := maxL) (ret := ret) ho hl hin hse hcode hy hK (by rw [hT]; exact hcB) hoB hclB hg (hsize.trans hml.symm) (argsL := As) (rest := rest) (fun sig h => hn.trans (hlen sig h)) hstack hW (by rw [hb]; exact hdg)
    (fun vm₁ hW₁ => ⟨hf.1, hf.2, hPc (T.setVm vm₁) hT hW₁⟩) with ⟨v, vm₁, ⟨U', l2, c2, s2⟩, hW₁, X', ⟨g', mk, t, L, e1, e2, hq, h1, hL, h2, h3⟩, st⟩ | ⟨q, vm₁, ⟨U', l2, c2, s2⟩, hW₁, X', ⟨g', mk, t, L, E, ce, e1, e2, hq, hce, hcv, hcl, h1, hL, h2, h3⟩, st⟩
  · dsimp only [Pt.U, Pt.locs, Pt.cells, Pt.slots] at X' e1 e2 h1 h2 h3 st
    subst h1; subst h2; subst h3
    exact Or.inl ⟨v, (T.setVm vm₁).calling g' mk (Value.ref b :: As).toArray, t, U', L, hT, X', hL, e1, e2, hq, st⟩
  · dsimp only [Pt.U, Pt.locs, Pt.cells, Pt.slots] at X' e1 e2 h1 h2 h3 st hcl
    subst h1; subst h2; subst h3
    exact Or.inr ⟨q, (T.setVm vm₁).calling g' mk (Value.ref b :: As).toArray, t, U', L, E, ce, hT, X', hL, e1, e2, hq, hce, hcv, vx_cls hW₁ hcl, st⟩
theorem vx_runSX {hh : List (Nat × Nat × Nat × Nat)} (S : CallFix p m c cc nL s args Ts own) (hM : vx_Met l y ws rm Pc Qc XC mc ms free) (cw : vx_CSW R s args own index y bytes maxL ret hh ws rm mc ms n) (hp : PreS s H Pc As)
    (hg : g.method = m) (hn : As.length = n) (hsize : g.locals.size = nL) (hstack : g.stack = As.reverse ++ rest) (hW : 2 * g.monitorRoom + (rest.map fun v => v.category).sum ≤ 8) (hdg : decode cc g.pc = .ok (.invokestatic index, 3)) (hf : cells + mc ≤ R.cells ∧ slots + ms ≤ R.slots) :
    vx_Run p l e R s m args below meth c H locs cells slots mc ms g rest (Qc As.toArray) XC free := by
  obtain ⟨⟨hrc, hrs, hfr, hlo, hws, hcw⟩, hcode, hini, hy, hlen, hl, hstt⟩ := cw
  have hK : vx_Back l R p e below s args y 3 8 (PreOf R mc ms Pc) (PostOf Qc mc ms free) (vx_Post XC mc ms free) := vx_backW (hh := hh) (bytes := bytes) (maxL := maxL) (ret := ret) hM hp.1 hrc hrs hfr hlo hws hcw (fun a' U hW => word_at hW (Or.inl (by first | rfl | simp [Cond.onTables, Cond.keeps, Cond.steady])) hini)
  obtain ⟨hx, hb, hml, ho, -⟩ := S
  intro T hT X
  rcases vx_callSX X hx (hh := hh) (bytes := bytes) (maxL := maxL) (ret := ret) ho hl hstt hini hcode hy hK hg (hsize.trans hml.symm) (argsL := As) (rest := rest) (fun sig h => hn.trans (hlen sig h)) hstack hW (by rw [hb]; exact hdg)
    (fun vm₁ hW₁ => ⟨hf.1, hf.2, hp.2 (T.setVm vm₁) hT hW₁⟩) with ⟨v, vm₁, ⟨U', l2, c2, s2⟩, hW₁, X', ⟨g', mk, t, L, e1, e2, hq, h1, hL, h2, h3⟩, st⟩ | ⟨q, vm₁, ⟨U', l2, c2, s2⟩, hW₁, X', ⟨g', mk, t, L, E, ce, e1, e2, hq, hce, hcv, hcl, h1, hL, h2, h3⟩, st⟩
  · dsimp only [Pt.U, Pt.locs, Pt.cells, Pt.slots] at X' e1 e2 h1 h2 h3 st
    subst h1; subst h2; subst h3
    exact Or.inl ⟨v, (T.setVm vm₁).calling g' mk As.toArray, t, U', L, hT, X', hL, e1, e2, hq, st⟩
  · dsimp only [Pt.U, Pt.locs, Pt.cells, Pt.slots] at X' e1 e2 h1 h2 h3 st hcl
    subst h1; subst h2; subst h3
    exact Or.inr ⟨q, (T.setVm vm₁).calling g' mk As.toArray, t, U', L, E, ce, hT, X', hL, e1, e2, hq, hce, hcv, vx_cls hW₁ hcl, st⟩
end
end VXH
theorem vx_ofWH {l : Launch} {y : MethodName} {ws ws' : List Cond} {rm : Room} {Pc : Array Value → State → Prop} {Qc : Array Value → State → Outcome → State → Prop} {XC : String → State → State → Prop} {mc ms : Nat} {free : Addr → Prop} {cc : ByteArray} {maxL : Nat} {ret : Option FieldType} {hh : List (Nat × Nat × Nat × Nat)}
    (hy : plainName y.cls = true) (hw : ws = Cond.codeWith y cc maxL ret hh :: ws')
    (body : ∀ p e s m args below meth c s₁, BodyLoose p l y (headSpec ws rm) cc maxL ret e s m args below meth c s₁ → c.maxLocals = maxL → Pc args s →
      W p l e (headSpec ws rm).room s m args below meth c s.heap [] 0 0 (vx_MQ below Qc XC args s mc ms free) (entryFrame m args maxL)) : vx_Met l y ws rm Pc Qc XC mc ms free := by
  refine MetFree.of_bodyS (code := cc) (maxLocals := maxL) (ret := ret) hy ?_ ?_
  · intro args s m h hn
    obtain ⟨m9, meth, c, hn9, h1, h2, h3, h4, -, h5, h6, -⟩ := Cond.codeWith_spec (atoms_spec (ws := ws) h _ (by rw [hw]; exact List.mem_cons_self))
    cases hn.symm.trans hn9
    exact ⟨meth, c, h1, h2, h3, h4, h5, h6⟩
  · intro p e s m args below meth c s₁ B hml hP _
    have hh0 : s₁.heap = s.heap := by rw [B.state]; rfl
    obtain ⟨t, a1, o, b1, b2, b3⟩ := body p e s m args below meth c s₁ B hml hP s₁ hh0 (Stand.of_body B)
    exact ⟨t, o, a1, b1, b2, b3⟩
/-! ===== END ===== -/
end
section
/-! names of the classes, printed by program out of NAMES -/
def RX0 : String := "SandHouse$Grains"
def TX0 : u_T := fun k => match k with
  | 0 => ("SandHouse$Grains", "part", "[I", true)
  | 1 => ("SandHouse$Grains", "place", "[I", true)
  | 2 => ("SandHouse$Grains", "keeps", "[I", true)
  | 3 => ("SandHouse$Grains", "wet", "[I", true)
  | 4 => ("SandHouse$Grains", "lying", "[I", true)
  | 5 => ("SandHouse$Grains", "carried", "[I", true)
  | 6 => ("SandHouse$Grains", "gone", "I", false)
  | 7 => ("SandHouse$Grains", "told", "I", false)
  | 8 => ("SandHouse$Grains", "drained", "I", false)
  | 9 => ("SandHouse$Grains", "clog", "I", false)
  | 10 => ("SandHouse$Grains", "round", "I", false)
  | 11 => ("SandHouse$Grains", "spent", "I", false)
  | _ => ("SandHouse$Grains", "seed", "I", false)
def tyX0 : Nat → FieldType := fun k => match k with
  | 0 => .array .int
  | 1 => .array .int
  | 2 => .array .int
  | 3 => .array .int
  | 4 => .array .int
  | 5 => .array .int
  | 6 => .int
  | 7 => .int
  | 8 => .int
  | 9 => .int
  | 10 => .int
  | 11 => .int
  | _ => .int
theorem nmX0 : ∀ a, a < 13 → ∀ b, b < 13 → a ≠ b → (TX0 a).2.1 ≠ (TX0 b).2.1 := by decide +kernel
theorem tyX0_ok : ∀ k, k < 13 → parseFieldDescriptor (TX0 k).2.2.1 = some (tyX0 k) := by decide +kernel
theorem inX0 : ∀ w ∈ u_ws RX0 TX0 13, w ∈ lw_tbl := by decide +kernel
def RX1 : String := "SandHouse$Heels"
def TX1 : u_T := fun k => match k with
  | 0 => ("SandHouse$Heels", "cells", "[I", true)
  | 1 => ("SandHouse$Heels", "size", "I", false)
  | _ => ("SandHouse$Heels", "next", "I", false)
def tyX1 : Nat → FieldType := fun k => match k with
  | 0 => .array .int
  | 1 => .int
  | _ => .int
theorem nmX1 : ∀ a, a < 3 → ∀ b, b < 3 → a ≠ b → (TX1 a).2.1 ≠ (TX1 b).2.1 := by decide +kernel
theorem tyX1_ok : ∀ k, k < 3 → parseFieldDescriptor (TX1 k).2.2.1 = some (tyX1 k) := by decide +kernel
theorem inX1 : ∀ w ∈ u_ws RX1 TX1 3, w ∈ lw_tbl := by decide +kernel
def RX2 : String := "SandHouse$Home"
def TX2 : u_T := fun k => match k with
  | 0 => ("SandHouse$Home", "plan", "LSandHouse$Plan;", true)
  | 1 => ("SandHouse$Home", "law", "LSandHouse$Law;", true)
  | _ => ("SandHouse$Home", "facts", "[I", true)
def tyX2 : Nat → FieldType := fun k => match k with
  | 0 => .object "SandHouse$Plan"
  | 1 => .object "SandHouse$Law"
  | _ => .array .int
theorem nmX2 : ∀ a, a < 3 → ∀ b, b < 3 → a ≠ b → (TX2 a).2.1 ≠ (TX2 b).2.1 := by decide +kernel
theorem tyX2_ok : ∀ k, k < 3 → parseFieldDescriptor (TX2 k).2.2.1 = some (tyX2 k) := by decide +kernel
theorem inX2 : ∀ w ∈ u_ws RX2 TX2 3, w ∈ lw_tbl := by decide +kernel
def RX3 : String := "SandHouse$HouseReader"
def TX3 : u_T := fun k => match k with
  | 0 => ("SandHouse$HouseReader", "plan", "LSandHouse$Plan;", true)
  | 1 => ("SandHouse$HouseReader", "grains", "LSandHouse$Grains;", true)
  | 2 => ("SandHouse$HouseReader", "wrong", "I", false)
  | 3 => ("SandHouse$HouseReader", "chosen", "I", false)
  | 4 => ("SandHouse$HouseReader", "number", "I", false)
  | _ => ("SandHouse$HouseReader", "numberStart", "I", false)
def tyX3 : Nat → FieldType := fun k => match k with
  | 0 => .object "SandHouse$Plan"
  | 1 => .object "SandHouse$Grains"
  | 2 => .int
  | 3 => .int
  | 4 => .int
  | _ => .int
theorem nmX3 : ∀ a, a < 6 → ∀ b, b < 6 → a ≠ b → (TX3 a).2.1 ≠ (TX3 b).2.1 := by decide +kernel
theorem tyX3_ok : ∀ k, k < 6 → parseFieldDescriptor (TX3 k).2.2.1 = some (tyX3 k) := by decide +kernel
theorem inX3 : ∀ w ∈ u_ws RX3 TX3 6, w ∈ lw_tbl := by decide +kernel
def RX4 : String := "SandHouse$Image"
def TX4 : u_T := fun k => match k with
  | 0 => ("SandHouse$Image", "plan", "LSandHouse$Plan;", true)
  | 1 => ("SandHouse$Image", "law", "LSandHouse$Law;", true)
  | 2 => ("SandHouse$Image", "grains", "LSandHouse$Grains;", true)
  | 3 => ("SandHouse$Image", "heels", "LSandHouse$Heels;", true)
  | _ => ("SandHouse$Image", "taken", "Z", false)
def tyX4 : Nat → FieldType := fun k => match k with
  | 0 => .object "SandHouse$Plan"
  | 1 => .object "SandHouse$Law"
  | 2 => .object "SandHouse$Grains"
  | 3 => .object "SandHouse$Heels"
  | _ => .boolean
theorem nmX4 : ∀ a, a < 5 → ∀ b, b < 5 → a ≠ b → (TX4 a).2.1 ≠ (TX4 b).2.1 := by decide +kernel
theorem tyX4_ok : ∀ k, k < 5 → parseFieldDescriptor (TX4 k).2.2.1 = some (tyX4 k) := by decide +kernel
theorem inX4 : ∀ w ∈ u_ws RX4 TX4 5, w ∈ lw_tbl := by decide +kernel
def RX5 : String := "SandHouse$Law"
def TX5 : u_T := fun k => match k with
  | 0 => ("SandHouse$Law", "lines", "I", false)
  | 1 => ("SandHouse$Law", "length", "I", false)
  | 2 => ("SandHouse$Law", "kind", "[I", true)
  | 3 => ("SandHouse$Law", "amount", "[I", true)
  | 4 => ("SandHouse$Law", "from", "[I", true)
  | 5 => ("SandHouse$Law", "to", "[I", true)
  | 6 => ("SandHouse$Law", "code", "[I", true)
  | _ => ("SandHouse$Law", "stack", "[J", true)
def tyX5 : Nat → FieldType := fun k => match k with
  | 0 => .int
  | 1 => .int
  | 2 => .array .int
  | 3 => .array .int
  | 4 => .array .int
  | 5 => .array .int
  | 6 => .array .int
  | _ => .array .long
theorem nmX5 : ∀ a, a < 8 → ∀ b, b < 8 → a ≠ b → (TX5 a).2.1 ≠ (TX5 b).2.1 := by decide +kernel
theorem tyX5_ok : ∀ k, k < 8 → parseFieldDescriptor (TX5 k).2.2.1 = some (tyX5 k) := by decide +kernel
theorem inX5 : ∀ w ∈ u_ws RX5 TX5 8, w ∈ lw_tbl := by decide +kernel
def RX6 : String := "SandHouse$LawReader"
def TX6 : u_T := fun k => match k with
  | 0 => ("SandHouse$LawReader", "law", "LSandHouse$Law;", true)
  | _ => ("SandHouse$LawReader", "wrong", "I", false)
def tyX6 : Nat → FieldType := fun k => match k with
  | 0 => .object "SandHouse$Law"
  | _ => .int
theorem nmX6 : ∀ a, a < 2 → ∀ b, b < 2 → a ≠ b → (TX6 a).2.1 ≠ (TX6 b).2.1 := by decide +kernel
theorem tyX6_ok : ∀ k, k < 2 → parseFieldDescriptor (TX6 k).2.2.1 = some (tyX6 k) := by decide +kernel
theorem inX6 : ∀ w ∈ u_ws RX6 TX6 2, w ∈ lw_tbl := by decide +kernel
def RX7 : String := "SandHouse$Past"
def TX7 : u_T := fun k => match k with
  | 0 => ("SandHouse$Past", "grains", "[LSandHouse$Grains;", true)
  | 1 => ("SandHouse$Past", "heels", "[LSandHouse$Heels;", true)
  | 2 => ("SandHouse$Past", "size", "I", false)
  | _ => ("SandHouse$Past", "next", "I", false)
def tyX7 : Nat → FieldType := fun k => match k with
  | 0 => .array (.object "SandHouse$Grains")
  | 1 => .array (.object "SandHouse$Heels")
  | 2 => .int
  | _ => .int
theorem nmX7 : ∀ a, a < 4 → ∀ b, b < 4 → a ≠ b → (TX7 a).2.1 ≠ (TX7 b).2.1 := by decide +kernel
theorem tyX7_ok : ∀ k, k < 4 → parseFieldDescriptor (TX7 k).2.2.1 = some (tyX7 k) := by decide +kernel
theorem inX7 : ∀ w ∈ u_ws RX7 TX7 4, w ∈ lw_tbl := by decide +kernel
def RX8 : String := "SandHouse$Plan"
def TX8 : u_T := fun k => match k with
  | 0 => ("SandHouse$Plan", "rooms", "I", false)
  | 1 => ("SandHouse$Plan", "doors", "I", false)
  | 2 => ("SandHouse$Plan", "people", "I", false)
  | 3 => ("SandHouse$Plan", "texts", "I", false)
  | 4 => ("SandHouse$Plan", "sort", "[I", true)
  | 5 => ("SandHouse$Plan", "minutes", "[I", true)
  | 6 => ("SandHouse$Plan", "near", "[I", true)
  | 7 => ("SandHouse$Plan", "steps", "[I", true)
  | _ => ("SandHouse$Plan", "walk", "[I", true)
def tyX8 : Nat → FieldType := fun k => match k with
  | 0 => .int
  | 1 => .int
  | 2 => .int
  | 3 => .int
  | 4 => .array .int
  | 5 => .array .int
  | 6 => .array .int
  | 7 => .array .int
  | _ => .array .int
theorem nmX8 : ∀ a, a < 9 → ∀ b, b < 9 → a ≠ b → (TX8 a).2.1 ≠ (TX8 b).2.1 := by decide +kernel
theorem tyX8_ok : ∀ k, k < 9 → parseFieldDescriptor (TX8 k).2.2.1 = some (tyX8 k) := by decide +kernel
theorem inX8 : ∀ w ∈ u_ws RX8 TX8 9, w ∈ lw_tbl := by decide +kernel
def RX9 : String := "SandHouse$Tape"
def TX9 : u_T := fun k => match k with
  | 0 => ("SandHouse$Tape", "bytes", "[I", true)
  | 1 => ("SandHouse$Tape", "length", "I", false)
  | 2 => ("SandHouse$Tape", "kind", "I", false)
  | 3 => ("SandHouse$Tape", "start", "I", false)
  | 4 => ("SandHouse$Tape", "behind", "I", false)
  | _ => ("SandHouse$Tape", "value", "I", false)
def tyX9 : Nat → FieldType := fun k => match k with
  | 0 => .array .int
  | 1 => .int
  | 2 => .int
  | 3 => .int
  | 4 => .int
  | _ => .int
theorem nmX9 : ∀ a, a < 6 → ∀ b, b < 6 → a ≠ b → (TX9 a).2.1 ≠ (TX9 b).2.1 := by decide +kernel
theorem tyX9_ok : ∀ k, k < 6 → parseFieldDescriptor (TX9 k).2.2.1 = some (tyX9 k) := by decide +kernel
theorem inX9 : ∀ w ∈ u_ws RX9 TX9 6, w ∈ lw_tbl := by decide +kernel
def RX10 : String := "SandHouse$Trials"
def TX10 : u_T := fun k => match k with
  | 0 => ("SandHouse$Trials", "trial", "LSandHouse$Grains;", true)
  | _ => ("SandHouse$Trials", "swept", "[I", true)
def tyX10 : Nat → FieldType := fun k => match k with
  | 0 => .object "SandHouse$Grains"
  | _ => .array .int
theorem nmX10 : ∀ a, a < 2 → ∀ b, b < 2 → a ≠ b → (TX10 a).2.1 ≠ (TX10 b).2.1 := by decide +kernel
theorem tyX10_ok : ∀ k, k < 2 → parseFieldDescriptor (TX10 k).2.2.1 = some (tyX10 k) := by decide +kernel
theorem inX10 : ∀ w ∈ u_ws RX10 TX10 2, w ∈ lw_tbl := by decide +kernel
def RX11 : String := "SandHouse"
def TX11 : u_T := fun k => match k with
  | 0 => ("SandHouse", "tape", "LSandHouse$Tape;", true)
  | 1 => ("SandHouse", "home", "LSandHouse$Home;", true)
  | 2 => ("SandHouse", "grains", "LSandHouse$Grains;", true)
  | 3 => ("SandHouse", "rows", "LSandHouse$Heels;", true)
  | 4 => ("SandHouse", "past", "LSandHouse$Past;", true)
  | 5 => ("SandHouse", "kept", "LSandHouse$Image;", true)
  | 6 => ("SandHouse", "trials", "LSandHouse$Trials;", true)
  | 7 => ("SandHouse", "houseReader", "LSandHouse$HouseReader;", true)
  | 8 => ("SandHouse", "lawReader", "LSandHouse$LawReader;", true)
  | _ => ("SandHouse", "wrongByte", "I", false)
def tyX11 : Nat → FieldType := fun k => match k with
  | 0 => .object "SandHouse$Tape"
  | 1 => .object "SandHouse$Home"
  | 2 => .object "SandHouse$Grains"
  | 3 => .object "SandHouse$Heels"
  | 4 => .object "SandHouse$Past"
  | 5 => .object "SandHouse$Image"
  | 6 => .object "SandHouse$Trials"
  | 7 => .object "SandHouse$HouseReader"
  | 8 => .object "SandHouse$LawReader"
  | _ => .int
theorem nmX11 : ∀ a, a < 10 → ∀ b, b < 10 → a ≠ b → (TX11 a).2.1 ≠ (TX11 b).2.1 := by decide +kernel
theorem tyX11_ok : ∀ k, k < 10 → parseFieldDescriptor (TX11 k).2.2.1 = some (tyX11 k) := by decide +kernel
theorem inX11 : ∀ w ∈ u_ws RX11 TX11 10, w ∈ lw_tbl := by decide +kernel
def RX12 : String := "SandHouseModel"
def TX12 : u_T := fun k => match k with
  | 0 => ("SandHouseModel", "thrown", "I", false)
  | 1 => ("SandHouseModel", "world", "[I", true)
  | 2 => ("SandHouseModel", "image", "[I", true)
  | 3 => ("SandHouseModel", "before", "[I", true)
  | 4 => ("SandHouseModel", "trial", "[I", true)
  | 5 => ("SandHouseModel", "acts", "[I", true)
  | 6 => ("SandHouseModel", "hasImage", "Z", false)
  | 7 => ("SandHouseModel", "remembered", "I", false)
  | 8 => ("SandHouseModel", "tape", "[B", true)
  | 9 => ("SandHouseModel", "taped", "I", false)
  | 10 => ("SandHouseModel", "point", "I", false)
  | 11 => ("SandHouseModel", "end", "I", false)
  | 12 => ("SandHouseModel", "begin", "I", false)
  | 13 => ("SandHouseModel", "deep", "I", false)
  | 14 => ("SandHouseModel", "faultAt", "I", false)
  | 15 => ("SandHouseModel", "five", "[I", true)
  | 16 => ("SandHouseModel", "steps", "I", false)
  | 17 => ("SandHouseModel", "value", "[I", true)
  | _ => ("SandHouseModel", "taken", "[I", true)
def tyX12 : Nat → FieldType := fun k => match k with
  | 0 => .int
  | 1 => .array .int
  | 2 => .array .int
  | 3 => .array .int
  | 4 => .array .int
  | 5 => .array .int
  | 6 => .boolean
  | 7 => .int
  | 8 => .array .byte
  | 9 => .int
  | 10 => .int
  | 11 => .int
  | 12 => .int
  | 13 => .int
  | 14 => .int
  | 15 => .array .int
  | 16 => .int
  | 17 => .array .int
  | _ => .array .int
theorem nmX12 : ∀ a, a < 19 → ∀ b, b < 19 → a ≠ b → (TX12 a).2.1 ≠ (TX12 b).2.1 := by decide +kernel
theorem tyX12_ok : ∀ k, k < 19 → parseFieldDescriptor (TX12 k).2.2.1 = some (tyX12 k) := by decide +kernel
theorem inX12 : ∀ w ∈ u_ws RX12 TX12 19, w ∈ lw_tbl := by decide +kernel
abbrev vwCl : List vw_C := [(RX0, TX0, 13), (RX1, TX1, 3), (RX2, TX2, 3), (RX3, TX3, 6), (RX4, TX4, 5), (RX5, TX5, 8), (RX6, TX6, 2), (RX7, TX7, 4), (RX8, TX8, 9), (RX9, TX9, 6), (RX10, TX10, 2), (RX11, TX11, 10), (RX12, TX12, 19)]
end
section
/-! AN EVALUATOR over an abstract heap, written out as a function of fuel; behind it: whatever it answers, the machine does (part 'sound').
Values: .ref k is the k-th cell made; .retAddr i the i-th String constant; .float _ the script; .double _ some caught exception. -/
abbrev zS : Type := (Nat × Nat × List (Option Nat)) ⊕ ((Nat × List (Option (Option Nat))) ⊕ Unit)
abbrev zH : Type := List zS × (Nat → Nat → Int32) × (Nat → Nat → Int64) × Nat × Nat
abbrev zE : Type := Nat × (Nat → Int32)
abbrev zLs : Type := List (Option Value)
abbrev zR : Type := (Option Value ⊕ Nat) × zH
abbrev zF : Type := Nat → Nat → Nat → zLs → List Value → zH → Option zR
abbrev ZI : Type := Instr × Nat × (Nat × Nat × Nat) × Int32 × Nat
def zat {α : Type} : List α → Nat → Option α
  | [], _ => none
  | a :: _, 0 => some a
  | _ :: l, n + 1 => zat l n
def zset {α : Type} : List α → Nat → α → List α
  | [], _, _ => []
  | _ :: l, 0, x => x :: l
  | a :: l, n + 1, x => a :: zset l n x
/-- a long is stored no more where its second place is written -/
def zkl (n : Nat) (o : Option Value) : Option Value := match n with
  | 0 => (match o with
    | some (.long _) => none
    | o => o)
  | _ + 1 => o
def zstl : zLs → Nat → Value → zLs
  | [], _, _ => []
  | _ :: l, 0, v => some v :: l
  | o :: l, n + 1, v => zkl n o :: zstl l n v
def zrow {α : Type} (v : Nat → Nat → α) (c : Nat) (f : Nat → α) : Nat → Nat → α := fun c' => cond (Nat.beq c' c) f (v c')
def zpush (h : zH) (s : zS) (n : Nat) : zH := (h.1 ++ [s], zrow h.2.1 h.1.length (fun _ => 0), zrow h.2.2.1 h.1.length (fun _ => 0), h.2.2.2.1 + 1, h.2.2.2.2 + n)
def zsetI (h : zH) (c : Nat) (f : Nat → Int32) : zH := (h.1, zrow h.2.1 c f, h.2.2)
def zsetJ (h : zH) (c : Nat) (f : Nat → Int64) : zH := (h.1, h.2.1, zrow h.2.2.1 c f, h.2.2.2)
def zsetS (h : zH) (c : Nat) (s : zS) : zH := (zset h.1 c s, h.2)
def zrf : Option Nat → Value
  | none => .null
  | some k => .ref k
/-- an index of a row of n -/
def zck (j : Int32) (n : Nat) (r : Option zR) : Option zR := if j < 0 then none else if n ≤ j.toNatClampNeg then none else r
/-- 0 or 1 -/
def zc01 (x : Int32) (r : Option zR) : Option zR := if x = 0 then r else if x = 1 then r else none
def znz (x : Int32) (r : Option zR) : Option zR := if x = 0 then none else r
def znzl (x : Int64) (r : Option zR) : Option zR := if x = 0 then none else r
def zc1 : Value → Bool
  | .long _ => false
  | .double _ => true
  | .float _ => true
  | .int _ => true
  | .null => true
  | .ref _ => true
  | .retAddr _ => true
def zisA : Value → Bool
  | .long _ => false
  | .int _ => false
  | _ => true
def zcw : Value → Nat
  | .long _ => 2
  | _ => 1
def zsum : List Value → Nat
  | [] => 0
  | v :: l => zcw v + zsum l
/-- n values off the stack, the deepest first -/
def zpop : Nat → List Value → List Value → Option (List Value × List Value)
  | 0, st, acc => some (acc, st)
  | _ + 1, [], _ => none
  | n + 1, v :: st, acc => zpop n st (v :: acc)
def zent (n : Nat) (as : List Value) : zLs := as.map some ++ List.replicate (n - as.length) none
def zcall (r : Option zR) (kv : Option Value → zH → Option zR) (kx : Nat → zH → Option zR) : Option zR := match r with
  | none => none
  | some (.inl v, h) => kv v h
  | some (.inr x, h) => kx x h
def zsw (x : Int32) : List (Int32 × Nat) → Nat → (Nat → Option zR) → Option zR
  | [], d, k => k d
  | (a, t) :: l, d, k => if x = a then k t else zsw x l d k
def zlook : List (Nat × ZI) → Nat → Option ZI
  | [], _ => none
  | (k, z) :: l, pc => cond (Nat.beq k pc) (some z) (zlook l pc)
/-- a row of its cells, if it is one of that type -/
def zarr (h : zH) (t a : Nat) (k : Nat → Option zR) : Option zR := match zat h.1 a with
  | some (.inl (t', n, _)) => cond (Nat.beq t' t) (k n) none
  | _ => none
/-- which handler of a table takes x at pc -/
def zhand : List (Nat × Nat × Nat × Nat) → Nat → Nat → Option Nat
  | [], _, _ => none
  | (s, e, t, x') :: l, pc, x => cond (Nat.ble s pc && Nat.blt pc e && Nat.beq x' x) (some t) (zhand l pc x)
end
section
/-! the class, the reference and the law as resolved instructions: (pc, instruction, its length, (what it means), a number, the place of its word) -/
def zp0_0 : List (Nat × ZI) := [(0, (.new 8, 3, (0, 11, 0), 0, 211)), (3, (.dup, 1, (0, 0, 0), 0, 0)), (4, (.invokespecial 134, 3, (0, 38, 0), 0, 213)), (7, (.astore_n 1, 1, (0, 0, 0), 0, 0)), (8, (.new 135, 3, (0, 12, 0), 0, 1607)), (11, (.dup, 1, (0, 0, 0), 0, 0)), (12, (.invokespecial 137, 3, (0, 211, 0), 0, 1609)), (15, (.astore_n 2, 1, (0, 0, 0), 0, 0)), (16, (.iconst 1, 1, (0, 0, 0), 1, 0)), (17, (.newarray .long, 2, (2, 0, 0), 0, 347)), (19, (.astore_n 3, 1, (0, 0, 0), 0, 0)), (20, (.iconst 0, 1, (0, 0, 0), 0, 0)), (21, (.istore 4, 2, (0, 0, 0), 0, 0)), (23, (.iload 4, 2, (0, 0, 0), 0, 0)), (25, (.aload_n 0, 1, (0, 0, 0), 0, 0)), (26, (.arraylength, 1, (0, 0, 0), 0, 0)), (27, (.bipush 6, 2, (0, 0, 0), 6, 0)), (29, (.isub, 1, (0, 0, 0), 0, 0)), (30, (.if_icmp .gt 1897, 3, (1927, 0, 0), 0, 0))]
def zp0_1 : List (Nat × ZI) := [(33, (.aload_n 0, 1, (0, 0, 0), 0, 0)), (34, (.iload 4, 2, (0, 0, 0), 0, 0)), (36, (.iaload, 1, (0, 0, 0), 0, 0)), (37, (.bipush 63, 2, (0, 0, 0), 63, 0)), (39, (.iand, 1, (0, 0, 0), 0, 0)), (40, (.tableswitch 1881 0 47 #[208, 281, 306, 322, 338, 351, 391, 431, 471, 511, 551, 603, 631, 659, 687, 727, 767, 807, 847, 899, 967, 1007, 1047, 1103, 1143, 1171, 1184, 1212, 1252, 1304, 1344, 1400, 1428, 1484, 1512, 1552, 1565, 1593, 1633, 1673, 1689, 1714, 1754, 1794, 1819, 1832, 1843, 1856], 208, (0, 0, 0), 0, 0))]
def zp0_2 : List (Nat × ZI) := []
def zp0_3 : List (Nat × ZI) := []
def zp0_4 : List (Nat × ZI) := []
def zp0_5 : List (Nat × ZI) := []
def zp0_6 : List (Nat × ZI) := []
def zp0_7 : List (Nat × ZI) := [(248, (.aload_n 1, 1, (0, 0, 0), 0, 0)), (249, (.aload_n 0, 1, (0, 0, 0), 0, 0)), (250, (.iload 4, 2, (0, 0, 0), 0, 0)), (252, (.iconst 1, 1, (0, 0, 0), 1, 0)), (253, (.iadd, 1, (0, 0, 0), 0, 0)), (254, (.iaload, 1, (0, 0, 0), 0, 0)), (255, (.aload_n 0, 1, (0, 0, 0), 0, 0))]
def zp0_8 : List (Nat × ZI) := [(256, (.iload 4, 2, (0, 0, 0), 0, 0)), (258, (.iconst 2, 1, (0, 0, 0), 2, 0)), (259, (.iadd, 1, (0, 0, 0), 0, 0)), (260, (.iaload, 1, (0, 0, 0), 0, 0)), (261, (.aload_n 0, 1, (0, 0, 0), 0, 0)), (262, (.iload 4, 2, (0, 0, 0), 0, 0)), (264, (.iconst 3, 1, (0, 0, 0), 3, 0)), (265, (.iadd, 1, (0, 0, 0), 0, 0)), (266, (.iaload, 1, (0, 0, 0), 0, 0)), (267, (.aload_n 0, 1, (0, 0, 0), 0, 0)), (268, (.iload 4, 2, (0, 0, 0), 0, 0)), (270, (.iconst 4, 1, (0, 0, 0), 4, 0)), (271, (.iadd, 1, (0, 0, 0), 0, 0)), (272, (.iaload, 1, (0, 0, 0), 0, 0)), (273, (.aload_n 0, 1, (0, 0, 0), 0, 0)), (274, (.iload 4, 2, (0, 0, 0), 0, 0)), (276, (.iconst 5, 1, (0, 0, 0), 5, 0)), (277, (.iadd, 1, (0, 0, 0), 0, 0)), (278, (.iaload, 1, (0, 0, 0), 0, 0)), (279, (.invokevirtual 138, 3, (0, 39, 0), 0, 606)), (282, (.aload_n 2, 1, (0, 0, 0), 0, 0)), (283, (.aload_n 0, 1, (0, 0, 0), 0, 0)), (284, (.iload 4, 2, (0, 0, 0), 0, 0)), (286, (.iconst 1, 1, (0, 0, 0), 1, 0)), (287, (.iadd, 1, (0, 0, 0), 0, 0))]
def zp0_9 : List (Nat × ZI) := [(288, (.iaload, 1, (0, 0, 0), 0, 0)), (289, (.aload_n 0, 1, (0, 0, 0), 0, 0)), (290, (.iload 4, 2, (0, 0, 0), 0, 0)), (292, (.iconst 2, 1, (0, 0, 0), 2, 0)), (293, (.iadd, 1, (0, 0, 0), 0, 0)), (294, (.iaload, 1, (0, 0, 0), 0, 0)), (295, (.aload_n 0, 1, (0, 0, 0), 0, 0)), (296, (.iload 4, 2, (0, 0, 0), 0, 0)), (298, (.iconst 3, 1, (0, 0, 0), 3, 0)), (299, (.iadd, 1, (0, 0, 0), 0, 0)), (300, (.iaload, 1, (0, 0, 0), 0, 0)), (301, (.aload_n 0, 1, (0, 0, 0), 0, 0)), (302, (.iload 4, 2, (0, 0, 0), 0, 0)), (304, (.iconst 4, 1, (0, 0, 0), 4, 0)), (305, (.iadd, 1, (0, 0, 0), 0, 0)), (306, (.iaload, 1, (0, 0, 0), 0, 0)), (307, (.aload_n 0, 1, (0, 0, 0), 0, 0)), (308, (.iload 4, 2, (0, 0, 0), 0, 0)), (310, (.iconst 5, 1, (0, 0, 0), 5, 0)), (311, (.iadd, 1, (0, 0, 0), 0, 0)), (312, (.iaload, 1, (0, 0, 0), 0, 0)), (313, (.invokevirtual 142, 3, (0, 232, 0), 0, 1683)), (316, (.if_icmp .eq 1605, 3, (1921, 0, 0), 0, 0)), (319, (.iconst 0, 1, (0, 0, 0), 0, 0))]
def zp0_10 : List (Nat × ZI) := [(320, (.ireturn, 1, (0, 0, 0), 0, 0)), (321, (.aload_n 1, 1, (0, 0, 0), 0, 0)), (322, (.aload_n 0, 1, (0, 0, 0), 0, 0)), (323, (.iload 4, 2, (0, 0, 0), 0, 0)), (325, (.iconst 1, 1, (0, 0, 0), 1, 0)), (326, (.iadd, 1, (0, 0, 0), 0, 0)), (327, (.iaload, 1, (0, 0, 0), 0, 0)), (328, (.invokevirtual 143, 3, (0, 40, 0), 0, 614)), (331, (.pop, 1, (0, 0, 0), 0, 0)), (332, (.aload_n 2, 1, (0, 0, 0), 0, 0)), (333, (.aload_n 0, 1, (0, 0, 0), 0, 0)), (334, (.iload 4, 2, (0, 0, 0), 0, 0)), (336, (.iconst 1, 1, (0, 0, 0), 1, 0)), (337, (.iadd, 1, (0, 0, 0), 0, 0)), (338, (.iaload, 1, (0, 0, 0), 0, 0)), (339, (.invokevirtual 147, 3, (0, 233, 0), 0, 1687)), (342, (.pop, 1, (0, 0, 0), 0, 0)), (343, (.goto 1578, 3, (1921, 0, 0), 0, 0)), (346, (.aload_n 1, 1, (0, 0, 0), 0, 0)), (347, (.aload_n 3, 1, (0, 0, 0), 0, 0)), (348, (.invokestatic 148, 3, (0, 1, 0), 0, 805)), (351, (.istore 5, 2, (0, 0, 0), 0, 0))]
def zp0_11 : List (Nat × ZI) := [(353, (.aload_n 2, 1, (0, 0, 0), 0, 0)), (354, (.invokevirtual 153, 3, (0, 265, 0), 0, 1695)), (357, (.istore 6, 2, (0, 0, 0), 0, 0)), (359, (.goto 1562, 3, (1921, 0, 0), 0, 0)), (362, (.aload_n 1, 1, (0, 0, 0), 0, 0)), (363, (.aload_n 3, 1, (0, 0, 0), 0, 0)), (364, (.invokestatic 154, 3, (0, 2, 0), 0, 1044)), (367, (.istore 5, 2, (0, 0, 0), 0, 0)), (369, (.aload_n 2, 1, (0, 0, 0), 0, 0)), (370, (.invokevirtual 156, 3, (0, 266, 0), 0, 1886)), (373, (.istore 6, 2, (0, 0, 0), 0, 0)), (375, (.goto 1546, 3, (1921, 0, 0), 0, 0)), (378, (.aload_n 1, 1, (0, 0, 0), 0, 0)), (379, (.invokevirtual 157, 3, (0, 43, 0), 0, 618)), (382, (.pop, 1, (0, 0, 0), 0, 0)), (383, (.aload_n 2, 1, (0, 0, 0), 0, 0))]
def zp0_12 : List (Nat × ZI) := [(384, (.invokevirtual 160, 3, (0, 243, 0), 0, 1691)), (387, (.pop, 1, (0, 0, 0), 0, 0)), (388, (.goto 1533, 3, (1921, 0, 0), 0, 0)), (391, (.aload_n 1, 1, (0, 0, 0), 0, 0)), (392, (.aload_n 0, 1, (0, 0, 0), 0, 0)), (393, (.iload 4, 2, (0, 0, 0), 0, 0)), (395, (.iconst 1, 1, (0, 0, 0), 1, 0)), (396, (.iadd, 1, (0, 0, 0), 0, 0)), (397, (.iaload, 1, (0, 0, 0), 0, 0)), (398, (.aload_n 0, 1, (0, 0, 0), 0, 0)), (399, (.iload 4, 2, (0, 0, 0), 0, 0)), (401, (.iconst 2, 1, (0, 0, 0), 2, 0)), (402, (.iadd, 1, (0, 0, 0), 0, 0)), (403, (.iaload, 1, (0, 0, 0), 0, 0)), (404, (.aload_n 3, 1, (0, 0, 0), 0, 0)), (405, (.invokestatic 161, 3, (0, 3, 0), 0, 1119)), (408, (.istore 5, 2, (0, 0, 0), 0, 0)), (410, (.aload_n 2, 1, (0, 0, 0), 0, 0)), (411, (.aload_n 0, 1, (0, 0, 0), 0, 0)), (412, (.iload 4, 2, (0, 0, 0), 0, 0)), (414, (.iconst 1, 1, (0, 0, 0), 1, 0)), (415, (.iadd, 1, (0, 0, 0), 0, 0))]
def zp0_13 : List (Nat × ZI) := [(416, (.iaload, 1, (0, 0, 0), 0, 0)), (417, (.aload_n 0, 1, (0, 0, 0), 0, 0)), (418, (.iload 4, 2, (0, 0, 0), 0, 0)), (420, (.iconst 2, 1, (0, 0, 0), 2, 0)), (421, (.iadd, 1, (0, 0, 0), 0, 0)), (422, (.iaload, 1, (0, 0, 0), 0, 0)), (423, (.invokevirtual 164, 3, (0, 272, 0), 0, 1890)), (426, (.istore 6, 2, (0, 0, 0), 0, 0)), (428, (.goto 1493, 3, (1921, 0, 0), 0, 0)), (431, (.aload_n 1, 1, (0, 0, 0), 0, 0)), (432, (.aload_n 0, 1, (0, 0, 0), 0, 0)), (433, (.iload 4, 2, (0, 0, 0), 0, 0)), (435, (.iconst 1, 1, (0, 0, 0), 1, 0)), (436, (.iadd, 1, (0, 0, 0), 0, 0)), (437, (.iaload, 1, (0, 0, 0), 0, 0)), (438, (.aload_n 0, 1, (0, 0, 0), 0, 0)), (439, (.iload 4, 2, (0, 0, 0), 0, 0)), (441, (.iconst 2, 1, (0, 0, 0), 2, 0)), (442, (.iadd, 1, (0, 0, 0), 0, 0)), (443, (.iaload, 1, (0, 0, 0), 0, 0)), (444, (.aload_n 3, 1, (0, 0, 0), 0, 0)), (445, (.invokestatic 165, 3, (0, 4, 0), 0, 1183))]
def zp0_14 : List (Nat × ZI) := [(448, (.istore 5, 2, (0, 0, 0), 0, 0)), (450, (.aload_n 2, 1, (0, 0, 0), 0, 0)), (451, (.aload_n 0, 1, (0, 0, 0), 0, 0)), (452, (.iload 4, 2, (0, 0, 0), 0, 0)), (454, (.iconst 1, 1, (0, 0, 0), 1, 0)), (455, (.iadd, 1, (0, 0, 0), 0, 0)), (456, (.iaload, 1, (0, 0, 0), 0, 0)), (457, (.aload_n 0, 1, (0, 0, 0), 0, 0)), (458, (.iload 4, 2, (0, 0, 0), 0, 0)), (460, (.iconst 2, 1, (0, 0, 0), 2, 0)), (461, (.iadd, 1, (0, 0, 0), 0, 0)), (462, (.iaload, 1, (0, 0, 0), 0, 0)), (463, (.invokevirtual 167, 3, (0, 273, 0), 0, 1933)), (466, (.istore 6, 2, (0, 0, 0), 0, 0)), (468, (.goto 1453, 3, (1921, 0, 0), 0, 0)), (471, (.aload_n 1, 1, (0, 0, 0), 0, 0)), (472, (.aload_n 0, 1, (0, 0, 0), 0, 0)), (473, (.iload 4, 2, (0, 0, 0), 0, 0)), (475, (.iconst 1, 1, (0, 0, 0), 1, 0)), (476, (.iadd, 1, (0, 0, 0), 0, 0)), (477, (.iaload, 1, (0, 0, 0), 0, 0)), (478, (.aload_n 0, 1, (0, 0, 0), 0, 0)), (479, (.iload 4, 2, (0, 0, 0), 0, 0))]
def zp0_15 : List (Nat × ZI) := [(481, (.iconst 2, 1, (0, 0, 0), 2, 0)), (482, (.iadd, 1, (0, 0, 0), 0, 0)), (483, (.iaload, 1, (0, 0, 0), 0, 0)), (484, (.aload_n 3, 1, (0, 0, 0), 0, 0)), (485, (.invokestatic 168, 3, (0, 5, 0), 0, 1195)), (488, (.istore 5, 2, (0, 0, 0), 0, 0)), (490, (.aload_n 2, 1, (0, 0, 0), 0, 0)), (491, (.aload_n 0, 1, (0, 0, 0), 0, 0)), (492, (.iload 4, 2, (0, 0, 0), 0, 0)), (494, (.iconst 1, 1, (0, 0, 0), 1, 0)), (495, (.iadd, 1, (0, 0, 0), 0, 0)), (496, (.iaload, 1, (0, 0, 0), 0, 0)), (497, (.aload_n 0, 1, (0, 0, 0), 0, 0)), (498, (.iload 4, 2, (0, 0, 0), 0, 0)), (500, (.iconst 2, 1, (0, 0, 0), 2, 0)), (501, (.iadd, 1, (0, 0, 0), 0, 0)), (502, (.iaload, 1, (0, 0, 0), 0, 0)), (503, (.invokevirtual 170, 3, (0, 275, 0), 0, 1941)), (506, (.istore 6, 2, (0, 0, 0), 0, 0)), (508, (.goto 1413, 3, (1921, 0, 0), 0, 0)), (511, (.aload_n 1, 1, (0, 0, 0), 0, 0))]
def zp0_16 : List (Nat × ZI) := [(512, (.aload_n 0, 1, (0, 0, 0), 0, 0)), (513, (.iload 4, 2, (0, 0, 0), 0, 0)), (515, (.iconst 1, 1, (0, 0, 0), 1, 0)), (516, (.iadd, 1, (0, 0, 0), 0, 0)), (517, (.iaload, 1, (0, 0, 0), 0, 0)), (518, (.aload_n 0, 1, (0, 0, 0), 0, 0)), (519, (.iload 4, 2, (0, 0, 0), 0, 0)), (521, (.iconst 2, 1, (0, 0, 0), 2, 0)), (522, (.iadd, 1, (0, 0, 0), 0, 0)), (523, (.iaload, 1, (0, 0, 0), 0, 0)), (524, (.aload_n 3, 1, (0, 0, 0), 0, 0)), (525, (.invokestatic 171, 3, (0, 6, 0), 0, 1209)), (528, (.istore 5, 2, (0, 0, 0), 0, 0)), (530, (.aload_n 2, 1, (0, 0, 0), 0, 0)), (531, (.aload_n 0, 1, (0, 0, 0), 0, 0)), (532, (.iload 4, 2, (0, 0, 0), 0, 0)), (534, (.iconst 1, 1, (0, 0, 0), 1, 0)), (535, (.iadd, 1, (0, 0, 0), 0, 0)), (536, (.iaload, 1, (0, 0, 0), 0, 0)), (537, (.aload_n 0, 1, (0, 0, 0), 0, 0)), (538, (.iload 4, 2, (0, 0, 0), 0, 0)), (540, (.iconst 2, 1, (0, 0, 0), 2, 0)), (541, (.iadd, 1, (0, 0, 0), 0, 0)), (542, (.iaload, 1, (0, 0, 0), 0, 0)), (543, (.invokevirtual 173, 3, (0, 276, 0), 0, 1949))]
def zp0_17 : List (Nat × ZI) := [(546, (.istore 6, 2, (0, 0, 0), 0, 0)), (548, (.goto 1373, 3, (1921, 0, 0), 0, 0)), (551, (.aload_n 1, 1, (0, 0, 0), 0, 0)), (552, (.aload_n 0, 1, (0, 0, 0), 0, 0)), (553, (.iload 4, 2, (0, 0, 0), 0, 0)), (555, (.iconst 1, 1, (0, 0, 0), 1, 0)), (556, (.iadd, 1, (0, 0, 0), 0, 0)), (557, (.iaload, 1, (0, 0, 0), 0, 0)), (558, (.aload_n 0, 1, (0, 0, 0), 0, 0)), (559, (.iload 4, 2, (0, 0, 0), 0, 0)), (561, (.iconst 2, 1, (0, 0, 0), 2, 0)), (562, (.iadd, 1, (0, 0, 0), 0, 0)), (563, (.iaload, 1, (0, 0, 0), 0, 0)), (564, (.aload_n 3, 1, (0, 0, 0), 0, 0)), (565, (.invokestatic 174, 3, (0, 7, 0), 0, 1216)), (568, (.istore 5, 2, (0, 0, 0), 0, 0)), (570, (.aload_n 2, 1, (0, 0, 0), 0, 0)), (571, (.aload_n 0, 1, (0, 0, 0), 0, 0)), (572, (.iload 4, 2, (0, 0, 0), 0, 0)), (574, (.iconst 1, 1, (0, 0, 0), 1, 0)), (575, (.iadd, 1, (0, 0, 0), 0, 0))]
def zp0_18 : List (Nat × ZI) := [(576, (.iaload, 1, (0, 0, 0), 0, 0)), (577, (.aload_n 0, 1, (0, 0, 0), 0, 0)), (578, (.iload 4, 2, (0, 0, 0), 0, 0)), (580, (.iconst 2, 1, (0, 0, 0), 2, 0)), (581, (.iadd, 1, (0, 0, 0), 0, 0)), (582, (.iaload, 1, (0, 0, 0), 0, 0)), (583, (.invokevirtual 176, 3, (0, 277, 0), 0, 1953)), (586, (.istore 6, 2, (0, 0, 0), 0, 0)), (588, (.goto 1333, 3, (1921, 0, 0), 0, 0)), (591, (.aload_n 1, 1, (0, 0, 0), 0, 0)), (592, (.aload_n 0, 1, (0, 0, 0), 0, 0)), (593, (.iload 4, 2, (0, 0, 0), 0, 0)), (595, (.iconst 1, 1, (0, 0, 0), 1, 0)), (596, (.iadd, 1, (0, 0, 0), 0, 0)), (597, (.iaload, 1, (0, 0, 0), 0, 0)), (598, (.aload_n 0, 1, (0, 0, 0), 0, 0)), (599, (.iload 4, 2, (0, 0, 0), 0, 0)), (601, (.iconst 2, 1, (0, 0, 0), 2, 0)), (602, (.iadd, 1, (0, 0, 0), 0, 0)), (603, (.iaload, 1, (0, 0, 0), 0, 0)), (604, (.aload_n 0, 1, (0, 0, 0), 0, 0)), (605, (.iload 4, 2, (0, 0, 0), 0, 0)), (607, (.iconst 3, 1, (0, 0, 0), 3, 0))]
def zp0_19 : List (Nat × ZI) := [(608, (.iadd, 1, (0, 0, 0), 0, 0)), (609, (.iaload, 1, (0, 0, 0), 0, 0)), (610, (.aload_n 3, 1, (0, 0, 0), 0, 0)), (611, (.invokestatic 177, 3, (0, 8, 0), 0, 1223)), (614, (.istore 5, 2, (0, 0, 0), 0, 0)), (616, (.aload_n 2, 1, (0, 0, 0), 0, 0)), (617, (.aload_n 0, 1, (0, 0, 0), 0, 0)), (618, (.iload 4, 2, (0, 0, 0), 0, 0)), (620, (.iconst 1, 1, (0, 0, 0), 1, 0)), (621, (.iadd, 1, (0, 0, 0), 0, 0)), (622, (.iaload, 1, (0, 0, 0), 0, 0)), (623, (.aload_n 0, 1, (0, 0, 0), 0, 0)), (624, (.iload 4, 2, (0, 0, 0), 0, 0)), (626, (.iconst 2, 1, (0, 0, 0), 2, 0)), (627, (.iadd, 1, (0, 0, 0), 0, 0)), (628, (.iaload, 1, (0, 0, 0), 0, 0)), (629, (.aload_n 0, 1, (0, 0, 0), 0, 0)), (630, (.iload 4, 2, (0, 0, 0), 0, 0)), (632, (.iconst 3, 1, (0, 0, 0), 3, 0)), (633, (.iadd, 1, (0, 0, 0), 0, 0)), (634, (.iaload, 1, (0, 0, 0), 0, 0)), (635, (.invokevirtual 180, 3, (0, 278, 0), 0, 1957)), (638, (.istore 6, 2, (0, 0, 0), 0, 0))]
def zp0_20 : List (Nat × ZI) := [(640, (.goto 1281, 3, (1921, 0, 0), 0, 0)), (643, (.aload_n 1, 1, (0, 0, 0), 0, 0)), (644, (.aload_n 0, 1, (0, 0, 0), 0, 0)), (645, (.iload 4, 2, (0, 0, 0), 0, 0)), (647, (.iconst 1, 1, (0, 0, 0), 1, 0)), (648, (.iadd, 1, (0, 0, 0), 0, 0)), (649, (.iaload, 1, (0, 0, 0), 0, 0)), (650, (.aload_n 3, 1, (0, 0, 0), 0, 0)), (651, (.invokestatic 181, 3, (0, 9, 0), 0, 1235)), (654, (.istore 5, 2, (0, 0, 0), 0, 0)), (656, (.aload_n 2, 1, (0, 0, 0), 0, 0)), (657, (.aload_n 0, 1, (0, 0, 0), 0, 0)), (658, (.iload 4, 2, (0, 0, 0), 0, 0)), (660, (.iconst 1, 1, (0, 0, 0), 1, 0)), (661, (.iadd, 1, (0, 0, 0), 0, 0)), (662, (.iaload, 1, (0, 0, 0), 0, 0)), (663, (.invokevirtual 184, 3, (0, 284, 0), 0, 1961)), (666, (.istore 6, 2, (0, 0, 0), 0, 0)), (668, (.goto 1253, 3, (1921, 0, 0), 0, 0)), (671, (.aload_n 1, 1, (0, 0, 0), 0, 0))]
def zp0_21 : List (Nat × ZI) := [(672, (.aload_n 0, 1, (0, 0, 0), 0, 0)), (673, (.iload 4, 2, (0, 0, 0), 0, 0)), (675, (.iconst 1, 1, (0, 0, 0), 1, 0)), (676, (.iadd, 1, (0, 0, 0), 0, 0)), (677, (.iaload, 1, (0, 0, 0), 0, 0)), (678, (.aload_n 3, 1, (0, 0, 0), 0, 0)), (679, (.invokestatic 185, 3, (0, 10, 0), 0, 1254)), (682, (.istore 5, 2, (0, 0, 0), 0, 0)), (684, (.aload_n 2, 1, (0, 0, 0), 0, 0)), (685, (.aload_n 0, 1, (0, 0, 0), 0, 0)), (686, (.iload 4, 2, (0, 0, 0), 0, 0)), (688, (.iconst 1, 1, (0, 0, 0), 1, 0)), (689, (.iadd, 1, (0, 0, 0), 0, 0)), (690, (.iaload, 1, (0, 0, 0), 0, 0)), (691, (.invokevirtual 187, 3, (0, 287, 0), 0, 1995)), (694, (.istore 6, 2, (0, 0, 0), 0, 0)), (696, (.goto 1225, 3, (1921, 0, 0), 0, 0)), (699, (.aload_n 1, 1, (0, 0, 0), 0, 0)), (700, (.aload_n 0, 1, (0, 0, 0), 0, 0)), (701, (.iload 4, 2, (0, 0, 0), 0, 0)), (703, (.iconst 1, 1, (0, 0, 0), 1, 0))]
def zp0_22 : List (Nat × ZI) := [(704, (.iadd, 1, (0, 0, 0), 0, 0)), (705, (.iaload, 1, (0, 0, 0), 0, 0)), (706, (.aload_n 3, 1, (0, 0, 0), 0, 0)), (707, (.invokestatic 188, 3, (0, 11, 0), 0, 1266)), (710, (.istore 5, 2, (0, 0, 0), 0, 0)), (712, (.aload_n 2, 1, (0, 0, 0), 0, 0)), (713, (.aload_n 0, 1, (0, 0, 0), 0, 0)), (714, (.iload 4, 2, (0, 0, 0), 0, 0)), (716, (.iconst 1, 1, (0, 0, 0), 1, 0)), (717, (.iadd, 1, (0, 0, 0), 0, 0)), (718, (.iaload, 1, (0, 0, 0), 0, 0)), (719, (.invokevirtual 190, 3, (0, 288, 0), 0, 2003)), (722, (.istore 6, 2, (0, 0, 0), 0, 0)), (724, (.goto 1197, 3, (1921, 0, 0), 0, 0)), (727, (.aload_n 1, 1, (0, 0, 0), 0, 0)), (728, (.aload_n 0, 1, (0, 0, 0), 0, 0)), (729, (.iload 4, 2, (0, 0, 0), 0, 0)), (731, (.iconst 1, 1, (0, 0, 0), 1, 0)), (732, (.iadd, 1, (0, 0, 0), 0, 0)), (733, (.iaload, 1, (0, 0, 0), 0, 0)), (734, (.aload_n 0, 1, (0, 0, 0), 0, 0)), (735, (.iload 4, 2, (0, 0, 0), 0, 0))]
def zp0_23 : List (Nat × ZI) := [(737, (.iconst 2, 1, (0, 0, 0), 2, 0)), (738, (.iadd, 1, (0, 0, 0), 0, 0)), (739, (.iaload, 1, (0, 0, 0), 0, 0)), (740, (.aload_n 3, 1, (0, 0, 0), 0, 0)), (741, (.invokestatic 191, 3, (0, 12, 0), 0, 1278)), (744, (.istore 5, 2, (0, 0, 0), 0, 0)), (746, (.aload_n 2, 1, (0, 0, 0), 0, 0)), (747, (.aload_n 0, 1, (0, 0, 0), 0, 0)), (748, (.iload 4, 2, (0, 0, 0), 0, 0)), (750, (.iconst 1, 1, (0, 0, 0), 1, 0)), (751, (.iadd, 1, (0, 0, 0), 0, 0)), (752, (.iaload, 1, (0, 0, 0), 0, 0)), (753, (.aload_n 0, 1, (0, 0, 0), 0, 0)), (754, (.iload 4, 2, (0, 0, 0), 0, 0)), (756, (.iconst 2, 1, (0, 0, 0), 2, 0)), (757, (.iadd, 1, (0, 0, 0), 0, 0)), (758, (.iaload, 1, (0, 0, 0), 0, 0)), (759, (.invokevirtual 193, 3, (0, 290, 0), 0, 2011)), (762, (.istore 6, 2, (0, 0, 0), 0, 0)), (764, (.goto 1157, 3, (1921, 0, 0), 0, 0)), (767, (.aload_n 1, 1, (0, 0, 0), 0, 0))]
def zp0_24 : List (Nat × ZI) := [(768, (.aload_n 0, 1, (0, 0, 0), 0, 0)), (769, (.iload 4, 2, (0, 0, 0), 0, 0)), (771, (.iconst 1, 1, (0, 0, 0), 1, 0)), (772, (.iadd, 1, (0, 0, 0), 0, 0)), (773, (.iaload, 1, (0, 0, 0), 0, 0)), (774, (.aload_n 0, 1, (0, 0, 0), 0, 0)), (775, (.iload 4, 2, (0, 0, 0), 0, 0)), (777, (.iconst 2, 1, (0, 0, 0), 2, 0)), (778, (.iadd, 1, (0, 0, 0), 0, 0)), (779, (.iaload, 1, (0, 0, 0), 0, 0)), (780, (.aload_n 3, 1, (0, 0, 0), 0, 0)), (781, (.invokestatic 194, 3, (0, 13, 0), 0, 1285)), (784, (.istore 5, 2, (0, 0, 0), 0, 0)), (786, (.aload_n 2, 1, (0, 0, 0), 0, 0)), (787, (.aload_n 0, 1, (0, 0, 0), 0, 0)), (788, (.iload 4, 2, (0, 0, 0), 0, 0)), (790, (.iconst 1, 1, (0, 0, 0), 1, 0)), (791, (.iadd, 1, (0, 0, 0), 0, 0)), (792, (.iaload, 1, (0, 0, 0), 0, 0)), (793, (.aload_n 0, 1, (0, 0, 0), 0, 0)), (794, (.iload 4, 2, (0, 0, 0), 0, 0)), (796, (.iconst 2, 1, (0, 0, 0), 2, 0)), (797, (.iadd, 1, (0, 0, 0), 0, 0)), (798, (.iaload, 1, (0, 0, 0), 0, 0)), (799, (.invokevirtual 196, 3, (0, 291, 0), 0, 2019))]
def zp0_25 : List (Nat × ZI) := [(802, (.istore 6, 2, (0, 0, 0), 0, 0)), (804, (.goto 1117, 3, (1921, 0, 0), 0, 0)), (807, (.aload_n 1, 1, (0, 0, 0), 0, 0)), (808, (.aload_n 0, 1, (0, 0, 0), 0, 0)), (809, (.iload 4, 2, (0, 0, 0), 0, 0)), (811, (.iconst 1, 1, (0, 0, 0), 1, 0)), (812, (.iadd, 1, (0, 0, 0), 0, 0)), (813, (.iaload, 1, (0, 0, 0), 0, 0)), (814, (.aload_n 0, 1, (0, 0, 0), 0, 0)), (815, (.iload 4, 2, (0, 0, 0), 0, 0)), (817, (.iconst 2, 1, (0, 0, 0), 2, 0)), (818, (.iadd, 1, (0, 0, 0), 0, 0)), (819, (.iaload, 1, (0, 0, 0), 0, 0)), (820, (.aload_n 3, 1, (0, 0, 0), 0, 0)), (821, (.invokestatic 197, 3, (0, 14, 0), 0, 1292)), (824, (.istore 5, 2, (0, 0, 0), 0, 0)), (826, (.aload_n 2, 1, (0, 0, 0), 0, 0)), (827, (.aload_n 0, 1, (0, 0, 0), 0, 0)), (828, (.iload 4, 2, (0, 0, 0), 0, 0)), (830, (.iconst 1, 1, (0, 0, 0), 1, 0)), (831, (.iadd, 1, (0, 0, 0), 0, 0))]
def zp0_26 : List (Nat × ZI) := [(832, (.iaload, 1, (0, 0, 0), 0, 0)), (833, (.aload_n 0, 1, (0, 0, 0), 0, 0)), (834, (.iload 4, 2, (0, 0, 0), 0, 0)), (836, (.iconst 2, 1, (0, 0, 0), 2, 0)), (837, (.iadd, 1, (0, 0, 0), 0, 0)), (838, (.iaload, 1, (0, 0, 0), 0, 0)), (839, (.invokevirtual 199, 3, (0, 292, 0), 0, 2023)), (842, (.istore 6, 2, (0, 0, 0), 0, 0)), (844, (.goto 1077, 3, (1921, 0, 0), 0, 0)), (847, (.aload_n 1, 1, (0, 0, 0), 0, 0)), (848, (.aload_n 0, 1, (0, 0, 0), 0, 0)), (849, (.iload 4, 2, (0, 0, 0), 0, 0)), (851, (.iconst 1, 1, (0, 0, 0), 1, 0)), (852, (.iadd, 1, (0, 0, 0), 0, 0)), (853, (.iaload, 1, (0, 0, 0), 0, 0)), (854, (.aload_n 0, 1, (0, 0, 0), 0, 0)), (855, (.iload 4, 2, (0, 0, 0), 0, 0)), (857, (.iconst 2, 1, (0, 0, 0), 2, 0)), (858, (.iadd, 1, (0, 0, 0), 0, 0)), (859, (.iaload, 1, (0, 0, 0), 0, 0)), (860, (.aload_n 3, 1, (0, 0, 0), 0, 0)), (861, (.invokestatic 200, 3, (0, 15, 0), 0, 1299))]
def zp0_27 : List (Nat × ZI) := [(864, (.istore 5, 2, (0, 0, 0), 0, 0)), (866, (.aload_n 2, 1, (0, 0, 0), 0, 0)), (867, (.aload_n 0, 1, (0, 0, 0), 0, 0)), (868, (.iload 4, 2, (0, 0, 0), 0, 0)), (870, (.iconst 1, 1, (0, 0, 0), 1, 0)), (871, (.iadd, 1, (0, 0, 0), 0, 0)), (872, (.iaload, 1, (0, 0, 0), 0, 0)), (873, (.aload_n 0, 1, (0, 0, 0), 0, 0)), (874, (.iload 4, 2, (0, 0, 0), 0, 0)), (876, (.iconst 2, 1, (0, 0, 0), 2, 0)), (877, (.iadd, 1, (0, 0, 0), 0, 0)), (878, (.iaload, 1, (0, 0, 0), 0, 0)), (879, (.invokevirtual 202, 3, (0, 299, 0), 0, 2027)), (882, (.istore 6, 2, (0, 0, 0), 0, 0)), (884, (.goto 1037, 3, (1921, 0, 0), 0, 0)), (887, (.aload_n 1, 1, (0, 0, 0), 0, 0)), (888, (.aload_n 0, 1, (0, 0, 0), 0, 0)), (889, (.iload 4, 2, (0, 0, 0), 0, 0)), (891, (.iconst 1, 1, (0, 0, 0), 1, 0)), (892, (.iadd, 1, (0, 0, 0), 0, 0)), (893, (.iaload, 1, (0, 0, 0), 0, 0)), (894, (.aload_n 0, 1, (0, 0, 0), 0, 0)), (895, (.iload 4, 2, (0, 0, 0), 0, 0))]
def zp0_28 : List (Nat × ZI) := [(897, (.iconst 2, 1, (0, 0, 0), 2, 0)), (898, (.iadd, 1, (0, 0, 0), 0, 0)), (899, (.iaload, 1, (0, 0, 0), 0, 0)), (900, (.aload_n 0, 1, (0, 0, 0), 0, 0)), (901, (.iload 4, 2, (0, 0, 0), 0, 0)), (903, (.iconst 3, 1, (0, 0, 0), 3, 0)), (904, (.iadd, 1, (0, 0, 0), 0, 0)), (905, (.iaload, 1, (0, 0, 0), 0, 0)), (906, (.aload_n 3, 1, (0, 0, 0), 0, 0)), (907, (.invokestatic 203, 3, (0, 16, 0), 0, 1324)), (910, (.istore 5, 2, (0, 0, 0), 0, 0)), (912, (.aload_n 2, 1, (0, 0, 0), 0, 0)), (913, (.aload_n 0, 1, (0, 0, 0), 0, 0)), (914, (.iload 4, 2, (0, 0, 0), 0, 0)), (916, (.iconst 1, 1, (0, 0, 0), 1, 0)), (917, (.iadd, 1, (0, 0, 0), 0, 0)), (918, (.iaload, 1, (0, 0, 0), 0, 0)), (919, (.aload_n 0, 1, (0, 0, 0), 0, 0)), (920, (.iload 4, 2, (0, 0, 0), 0, 0)), (922, (.iconst 2, 1, (0, 0, 0), 2, 0)), (923, (.iadd, 1, (0, 0, 0), 0, 0)), (924, (.iaload, 1, (0, 0, 0), 0, 0)), (925, (.aload_n 0, 1, (0, 0, 0), 0, 0)), (926, (.iload 4, 2, (0, 0, 0), 0, 0))]
def zp0_29 : List (Nat × ZI) := [(928, (.iconst 3, 1, (0, 0, 0), 3, 0)), (929, (.iadd, 1, (0, 0, 0), 0, 0)), (930, (.iaload, 1, (0, 0, 0), 0, 0)), (931, (.invokevirtual 205, 3, (0, 301, 0), 0, 2059)), (934, (.istore 6, 2, (0, 0, 0), 0, 0)), (936, (.goto 985, 3, (1921, 0, 0), 0, 0)), (939, (.aload_n 1, 1, (0, 0, 0), 0, 0)), (940, (.aload_n 0, 1, (0, 0, 0), 0, 0)), (941, (.iload 4, 2, (0, 0, 0), 0, 0)), (943, (.iconst 1, 1, (0, 0, 0), 1, 0)), (944, (.iadd, 1, (0, 0, 0), 0, 0)), (945, (.iaload, 1, (0, 0, 0), 0, 0)), (946, (.aload_n 0, 1, (0, 0, 0), 0, 0)), (947, (.iload 4, 2, (0, 0, 0), 0, 0)), (949, (.iconst 2, 1, (0, 0, 0), 2, 0)), (950, (.iadd, 1, (0, 0, 0), 0, 0)), (951, (.iaload, 1, (0, 0, 0), 0, 0)), (952, (.aload_n 0, 1, (0, 0, 0), 0, 0)), (953, (.iload 4, 2, (0, 0, 0), 0, 0)), (955, (.iconst 3, 1, (0, 0, 0), 3, 0)), (956, (.iadd, 1, (0, 0, 0), 0, 0)), (957, (.iaload, 1, (0, 0, 0), 0, 0)), (958, (.ifCond .eq 7, 3, (965, 0, 0), 0, 0))]
def zp0_30 : List (Nat × ZI) := [(961, (.iconst 1, 1, (0, 0, 0), 1, 0)), (962, (.goto 4, 3, (966, 0, 0), 0, 0)), (965, (.iconst 0, 1, (0, 0, 0), 0, 0)), (966, (.aload_n 3, 1, (0, 0, 0), 0, 0)), (967, (.invokestatic 206, 3, (0, 17, 0), 0, 1335)), (970, (.istore 5, 2, (0, 0, 0), 0, 0)), (972, (.aload_n 2, 1, (0, 0, 0), 0, 0)), (973, (.aload_n 0, 1, (0, 0, 0), 0, 0)), (974, (.iload 4, 2, (0, 0, 0), 0, 0)), (976, (.iconst 1, 1, (0, 0, 0), 1, 0)), (977, (.iadd, 1, (0, 0, 0), 0, 0)), (978, (.iaload, 1, (0, 0, 0), 0, 0)), (979, (.aload_n 0, 1, (0, 0, 0), 0, 0)), (980, (.iload 4, 2, (0, 0, 0), 0, 0)), (982, (.iconst 2, 1, (0, 0, 0), 2, 0)), (983, (.iadd, 1, (0, 0, 0), 0, 0)), (984, (.iaload, 1, (0, 0, 0), 0, 0)), (985, (.aload_n 0, 1, (0, 0, 0), 0, 0)), (986, (.iload 4, 2, (0, 0, 0), 0, 0)), (988, (.iconst 3, 1, (0, 0, 0), 3, 0)), (989, (.iadd, 1, (0, 0, 0), 0, 0)), (990, (.iaload, 1, (0, 0, 0), 0, 0)), (991, (.ifCond .eq 7, 3, (998, 0, 0), 0, 0))]
def zp0_31 : List (Nat × ZI) := [(994, (.iconst 1, 1, (0, 0, 0), 1, 0)), (995, (.goto 4, 3, (999, 0, 0), 0, 0)), (998, (.iconst 0, 1, (0, 0, 0), 0, 0)), (999, (.invokevirtual 209, 3, (0, 303, 0), 0, 2067)), (1002, (.istore 6, 2, (0, 0, 0), 0, 0)), (1004, (.goto 917, 3, (1921, 0, 0), 0, 0)), (1007, (.aload_n 1, 1, (0, 0, 0), 0, 0)), (1008, (.aload_n 0, 1, (0, 0, 0), 0, 0)), (1009, (.iload 4, 2, (0, 0, 0), 0, 0)), (1011, (.iconst 1, 1, (0, 0, 0), 1, 0)), (1012, (.iadd, 1, (0, 0, 0), 0, 0)), (1013, (.iaload, 1, (0, 0, 0), 0, 0)), (1014, (.aload_n 0, 1, (0, 0, 0), 0, 0)), (1015, (.iload 4, 2, (0, 0, 0), 0, 0)), (1017, (.iconst 2, 1, (0, 0, 0), 2, 0)), (1018, (.iadd, 1, (0, 0, 0), 0, 0)), (1019, (.iaload, 1, (0, 0, 0), 0, 0)), (1020, (.aload_n 3, 1, (0, 0, 0), 0, 0)), (1021, (.invokestatic 210, 3, (0, 18, 0), 0, 1346))]
def zp0_32 : List (Nat × ZI) := [(1024, (.istore 5, 2, (0, 0, 0), 0, 0)), (1026, (.aload_n 2, 1, (0, 0, 0), 0, 0)), (1027, (.aload_n 0, 1, (0, 0, 0), 0, 0)), (1028, (.iload 4, 2, (0, 0, 0), 0, 0)), (1030, (.iconst 1, 1, (0, 0, 0), 1, 0)), (1031, (.iadd, 1, (0, 0, 0), 0, 0)), (1032, (.iaload, 1, (0, 0, 0), 0, 0)), (1033, (.aload_n 0, 1, (0, 0, 0), 0, 0)), (1034, (.iload 4, 2, (0, 0, 0), 0, 0)), (1036, (.iconst 2, 1, (0, 0, 0), 2, 0)), (1037, (.iadd, 1, (0, 0, 0), 0, 0)), (1038, (.iaload, 1, (0, 0, 0), 0, 0)), (1039, (.invokevirtual 212, 3, (0, 304, 0), 0, 2075)), (1042, (.istore 6, 2, (0, 0, 0), 0, 0)), (1044, (.goto 877, 3, (1921, 0, 0), 0, 0)), (1047, (.aload_n 1, 1, (0, 0, 0), 0, 0)), (1048, (.aload_n 0, 1, (0, 0, 0), 0, 0)), (1049, (.iload 4, 2, (0, 0, 0), 0, 0)), (1051, (.iconst 1, 1, (0, 0, 0), 1, 0)), (1052, (.iadd, 1, (0, 0, 0), 0, 0)), (1053, (.iaload, 1, (0, 0, 0), 0, 0)), (1054, (.aload_n 0, 1, (0, 0, 0), 0, 0)), (1055, (.iload 4, 2, (0, 0, 0), 0, 0))]
def zp0_33 : List (Nat × ZI) := [(1057, (.iconst 2, 1, (0, 0, 0), 2, 0)), (1058, (.iadd, 1, (0, 0, 0), 0, 0)), (1059, (.iaload, 1, (0, 0, 0), 0, 0)), (1060, (.aload_n 3, 1, (0, 0, 0), 0, 0)), (1061, (.invokestatic 213, 3, (0, 19, 0), 0, 1357)), (1064, (.istore 5, 2, (0, 0, 0), 0, 0)), (1066, (.aload_n 2, 1, (0, 0, 0), 0, 0)), (1067, (.aload_n 0, 1, (0, 0, 0), 0, 0)), (1068, (.iload 4, 2, (0, 0, 0), 0, 0)), (1070, (.iconst 1, 1, (0, 0, 0), 1, 0)), (1071, (.iadd, 1, (0, 0, 0), 0, 0)), (1072, (.iaload, 1, (0, 0, 0), 0, 0)), (1073, (.aload_n 0, 1, (0, 0, 0), 0, 0)), (1074, (.iload 4, 2, (0, 0, 0), 0, 0)), (1076, (.iconst 2, 1, (0, 0, 0), 2, 0)), (1077, (.iadd, 1, (0, 0, 0), 0, 0)), (1078, (.iaload, 1, (0, 0, 0), 0, 0)), (1079, (.invokevirtual 215, 3, (0, 306, 0), 0, 2079)), (1082, (.istore 6, 2, (0, 0, 0), 0, 0)), (1084, (.goto 837, 3, (1921, 0, 0), 0, 0)), (1087, (.aload_n 1, 1, (0, 0, 0), 0, 0))]
def zp0_34 : List (Nat × ZI) := [(1088, (.aload_n 0, 1, (0, 0, 0), 0, 0)), (1089, (.iload 4, 2, (0, 0, 0), 0, 0)), (1091, (.iconst 1, 1, (0, 0, 0), 1, 0)), (1092, (.iadd, 1, (0, 0, 0), 0, 0)), (1093, (.iaload, 1, (0, 0, 0), 0, 0)), (1094, (.aload_n 0, 1, (0, 0, 0), 0, 0)), (1095, (.iload 4, 2, (0, 0, 0), 0, 0)), (1097, (.iconst 2, 1, (0, 0, 0), 2, 0)), (1098, (.iadd, 1, (0, 0, 0), 0, 0)), (1099, (.iaload, 1, (0, 0, 0), 0, 0)), (1100, (.ifCond .eq 7, 3, (1107, 0, 0), 0, 0)), (1103, (.iconst 1, 1, (0, 0, 0), 1, 0)), (1104, (.goto 4, 3, (1108, 0, 0), 0, 0)), (1107, (.iconst 0, 1, (0, 0, 0), 0, 0)), (1108, (.aload_n 3, 1, (0, 0, 0), 0, 0)), (1109, (.invokestatic 216, 3, (0, 20, 0), 0, 1376)), (1112, (.istore 5, 2, (0, 0, 0), 0, 0)), (1114, (.aload_n 2, 1, (0, 0, 0), 0, 0)), (1115, (.aload_n 0, 1, (0, 0, 0), 0, 0)), (1116, (.iload 4, 2, (0, 0, 0), 0, 0)), (1118, (.iconst 1, 1, (0, 0, 0), 1, 0)), (1119, (.iadd, 1, (0, 0, 0), 0, 0))]
def zp0_35 : List (Nat × ZI) := [(1120, (.iaload, 1, (0, 0, 0), 0, 0)), (1121, (.aload_n 0, 1, (0, 0, 0), 0, 0)), (1122, (.iload 4, 2, (0, 0, 0), 0, 0)), (1124, (.iconst 2, 1, (0, 0, 0), 2, 0)), (1125, (.iadd, 1, (0, 0, 0), 0, 0)), (1126, (.iaload, 1, (0, 0, 0), 0, 0)), (1127, (.ifCond .eq 7, 3, (1134, 0, 0), 0, 0)), (1130, (.iconst 1, 1, (0, 0, 0), 1, 0)), (1131, (.goto 4, 3, (1135, 0, 0), 0, 0)), (1134, (.iconst 0, 1, (0, 0, 0), 0, 0)), (1135, (.invokevirtual 219, 3, (0, 307, 0), 0, 2091)), (1138, (.istore 6, 2, (0, 0, 0), 0, 0)), (1140, (.goto 781, 3, (1921, 0, 0), 0, 0)), (1143, (.aload_n 1, 1, (0, 0, 0), 0, 0)), (1144, (.aload_n 0, 1, (0, 0, 0), 0, 0)), (1145, (.iload 4, 2, (0, 0, 0), 0, 0)), (1147, (.iconst 1, 1, (0, 0, 0), 1, 0)), (1148, (.iadd, 1, (0, 0, 0), 0, 0)), (1149, (.iaload, 1, (0, 0, 0), 0, 0)), (1150, (.aload_n 0, 1, (0, 0, 0), 0, 0)), (1151, (.iload 4, 2, (0, 0, 0), 0, 0))]
def zp0_36 : List (Nat × ZI) := [(1153, (.iconst 2, 1, (0, 0, 0), 2, 0)), (1154, (.iadd, 1, (0, 0, 0), 0, 0)), (1155, (.iaload, 1, (0, 0, 0), 0, 0)), (1156, (.aload_n 3, 1, (0, 0, 0), 0, 0)), (1157, (.invokestatic 220, 3, (0, 21, 0), 0, 1397)), (1160, (.istore 5, 2, (0, 0, 0), 0, 0)), (1162, (.aload_n 2, 1, (0, 0, 0), 0, 0)), (1163, (.aload_n 0, 1, (0, 0, 0), 0, 0)), (1164, (.iload 4, 2, (0, 0, 0), 0, 0)), (1166, (.iconst 1, 1, (0, 0, 0), 1, 0)), (1167, (.iadd, 1, (0, 0, 0), 0, 0)), (1168, (.iaload, 1, (0, 0, 0), 0, 0)), (1169, (.aload_n 0, 1, (0, 0, 0), 0, 0)), (1170, (.iload 4, 2, (0, 0, 0), 0, 0)), (1172, (.iconst 2, 1, (0, 0, 0), 2, 0)), (1173, (.iadd, 1, (0, 0, 0), 0, 0)), (1174, (.iaload, 1, (0, 0, 0), 0, 0)), (1175, (.invokevirtual 222, 3, (0, 310, 0), 0, 2095)), (1178, (.istore 6, 2, (0, 0, 0), 0, 0)), (1180, (.goto 741, 3, (1921, 0, 0), 0, 0)), (1183, (.aload_n 1, 1, (0, 0, 0), 0, 0))]
def zp0_37 : List (Nat × ZI) := [(1184, (.aload_n 0, 1, (0, 0, 0), 0, 0)), (1185, (.iload 4, 2, (0, 0, 0), 0, 0)), (1187, (.iconst 1, 1, (0, 0, 0), 1, 0)), (1188, (.iadd, 1, (0, 0, 0), 0, 0)), (1189, (.iaload, 1, (0, 0, 0), 0, 0)), (1190, (.aload_n 3, 1, (0, 0, 0), 0, 0)), (1191, (.invokestatic 223, 3, (0, 22, 0), 0, 1417)), (1194, (.istore 5, 2, (0, 0, 0), 0, 0)), (1196, (.aload_n 2, 1, (0, 0, 0), 0, 0)), (1197, (.aload_n 0, 1, (0, 0, 0), 0, 0)), (1198, (.iload 4, 2, (0, 0, 0), 0, 0)), (1200, (.iconst 1, 1, (0, 0, 0), 1, 0)), (1201, (.iadd, 1, (0, 0, 0), 0, 0)), (1202, (.iaload, 1, (0, 0, 0), 0, 0)), (1203, (.invokevirtual 225, 3, (0, 311, 0), 0, 2107)), (1206, (.istore 6, 2, (0, 0, 0), 0, 0)), (1208, (.goto 713, 3, (1921, 0, 0), 0, 0)), (1211, (.aload_n 1, 1, (0, 0, 0), 0, 0)), (1212, (.invokevirtual 226, 3, (0, 64, 0), 0, 622)), (1215, (.pop, 1, (0, 0, 0), 0, 0))]
def zp0_38 : List (Nat × ZI) := [(1216, (.aload_n 2, 1, (0, 0, 0), 0, 0)), (1217, (.invokevirtual 229, 3, (0, 312, 0), 0, 2111)), (1220, (.pop, 1, (0, 0, 0), 0, 0)), (1221, (.goto 700, 3, (1921, 0, 0), 0, 0)), (1224, (.aload_n 1, 1, (0, 0, 0), 0, 0)), (1225, (.aload_n 0, 1, (0, 0, 0), 0, 0)), (1226, (.iload 4, 2, (0, 0, 0), 0, 0)), (1228, (.iconst 1, 1, (0, 0, 0), 1, 0)), (1229, (.iadd, 1, (0, 0, 0), 0, 0)), (1230, (.iaload, 1, (0, 0, 0), 0, 0)), (1231, (.aload_n 3, 1, (0, 0, 0), 0, 0)), (1232, (.invokestatic 230, 3, (0, 23, 0), 0, 1429)), (1235, (.istore 5, 2, (0, 0, 0), 0, 0)), (1237, (.aload_n 2, 1, (0, 0, 0), 0, 0)), (1238, (.aload_n 0, 1, (0, 0, 0), 0, 0)), (1239, (.iload 4, 2, (0, 0, 0), 0, 0)), (1241, (.iconst 1, 1, (0, 0, 0), 1, 0)), (1242, (.iadd, 1, (0, 0, 0), 0, 0)), (1243, (.iaload, 1, (0, 0, 0), 0, 0)), (1244, (.invokevirtual 232, 3, (0, 313, 0), 0, 2115)), (1247, (.istore 6, 2, (0, 0, 0), 0, 0))]
def zp0_39 : List (Nat × ZI) := [(1249, (.goto 672, 3, (1921, 0, 0), 0, 0)), (1252, (.aload_n 1, 1, (0, 0, 0), 0, 0)), (1253, (.aload_n 0, 1, (0, 0, 0), 0, 0)), (1254, (.iload 4, 2, (0, 0, 0), 0, 0)), (1256, (.iconst 1, 1, (0, 0, 0), 1, 0)), (1257, (.iadd, 1, (0, 0, 0), 0, 0)), (1258, (.iaload, 1, (0, 0, 0), 0, 0)), (1259, (.aload_n 0, 1, (0, 0, 0), 0, 0)), (1260, (.iload 4, 2, (0, 0, 0), 0, 0)), (1262, (.iconst 2, 1, (0, 0, 0), 2, 0)), (1263, (.iadd, 1, (0, 0, 0), 0, 0)), (1264, (.iaload, 1, (0, 0, 0), 0, 0)), (1265, (.aload_n 3, 1, (0, 0, 0), 0, 0)), (1266, (.invokestatic 233, 3, (0, 24, 0), 0, 1440)), (1269, (.istore 5, 2, (0, 0, 0), 0, 0)), (1271, (.aload_n 2, 1, (0, 0, 0), 0, 0)), (1272, (.aload_n 0, 1, (0, 0, 0), 0, 0)), (1273, (.iload 4, 2, (0, 0, 0), 0, 0)), (1275, (.iconst 1, 1, (0, 0, 0), 1, 0)), (1276, (.iadd, 1, (0, 0, 0), 0, 0)), (1277, (.iaload, 1, (0, 0, 0), 0, 0)), (1278, (.aload_n 0, 1, (0, 0, 0), 0, 0)), (1279, (.iload 4, 2, (0, 0, 0), 0, 0))]
def zp0_40 : List (Nat × ZI) := [(1281, (.iconst 2, 1, (0, 0, 0), 2, 0)), (1282, (.iadd, 1, (0, 0, 0), 0, 0)), (1283, (.iaload, 1, (0, 0, 0), 0, 0)), (1284, (.invokevirtual 235, 3, (0, 314, 0), 0, 2119)), (1287, (.istore 6, 2, (0, 0, 0), 0, 0)), (1289, (.goto 632, 3, (1921, 0, 0), 0, 0)), (1292, (.aload_n 1, 1, (0, 0, 0), 0, 0)), (1293, (.aload_n 0, 1, (0, 0, 0), 0, 0)), (1294, (.iload 4, 2, (0, 0, 0), 0, 0)), (1296, (.iconst 1, 1, (0, 0, 0), 1, 0)), (1297, (.iadd, 1, (0, 0, 0), 0, 0)), (1298, (.iaload, 1, (0, 0, 0), 0, 0)), (1299, (.aload_n 0, 1, (0, 0, 0), 0, 0)), (1300, (.iload 4, 2, (0, 0, 0), 0, 0)), (1302, (.iconst 2, 1, (0, 0, 0), 2, 0)), (1303, (.iadd, 1, (0, 0, 0), 0, 0)), (1304, (.iaload, 1, (0, 0, 0), 0, 0)), (1305, (.aload_n 0, 1, (0, 0, 0), 0, 0)), (1306, (.iload 4, 2, (0, 0, 0), 0, 0)), (1308, (.iconst 3, 1, (0, 0, 0), 3, 0)), (1309, (.iadd, 1, (0, 0, 0), 0, 0)), (1310, (.iaload, 1, (0, 0, 0), 0, 0)), (1311, (.aload_n 3, 1, (0, 0, 0), 0, 0))]
def zp0_41 : List (Nat × ZI) := [(1312, (.invokestatic 236, 3, (0, 25, 0), 0, 1452)), (1315, (.istore 5, 2, (0, 0, 0), 0, 0)), (1317, (.aload_n 2, 1, (0, 0, 0), 0, 0)), (1318, (.aload_n 0, 1, (0, 0, 0), 0, 0)), (1319, (.iload 4, 2, (0, 0, 0), 0, 0)), (1321, (.iconst 1, 1, (0, 0, 0), 1, 0)), (1322, (.iadd, 1, (0, 0, 0), 0, 0)), (1323, (.iaload, 1, (0, 0, 0), 0, 0)), (1324, (.aload_n 0, 1, (0, 0, 0), 0, 0)), (1325, (.iload 4, 2, (0, 0, 0), 0, 0)), (1327, (.iconst 2, 1, (0, 0, 0), 2, 0)), (1328, (.iadd, 1, (0, 0, 0), 0, 0)), (1329, (.iaload, 1, (0, 0, 0), 0, 0)), (1330, (.aload_n 0, 1, (0, 0, 0), 0, 0)), (1331, (.iload 4, 2, (0, 0, 0), 0, 0)), (1333, (.iconst 3, 1, (0, 0, 0), 3, 0)), (1334, (.iadd, 1, (0, 0, 0), 0, 0)), (1335, (.iaload, 1, (0, 0, 0), 0, 0)), (1336, (.invokevirtual 238, 3, (0, 316, 0), 0, 2123)), (1339, (.istore 6, 2, (0, 0, 0), 0, 0)), (1341, (.goto 580, 3, (1921, 0, 0), 0, 0))]
def zp0_42 : List (Nat × ZI) := [(1344, (.aload_n 1, 1, (0, 0, 0), 0, 0)), (1345, (.aload_n 0, 1, (0, 0, 0), 0, 0)), (1346, (.iload 4, 2, (0, 0, 0), 0, 0)), (1348, (.iconst 1, 1, (0, 0, 0), 1, 0)), (1349, (.iadd, 1, (0, 0, 0), 0, 0)), (1350, (.iaload, 1, (0, 0, 0), 0, 0)), (1351, (.aload_n 0, 1, (0, 0, 0), 0, 0)), (1352, (.iload 4, 2, (0, 0, 0), 0, 0)), (1354, (.iconst 2, 1, (0, 0, 0), 2, 0)), (1355, (.iadd, 1, (0, 0, 0), 0, 0)), (1356, (.iaload, 1, (0, 0, 0), 0, 0)), (1357, (.aload_n 3, 1, (0, 0, 0), 0, 0)), (1358, (.invokestatic 239, 3, (0, 26, 0), 0, 1465)), (1361, (.istore 5, 2, (0, 0, 0), 0, 0)), (1363, (.aload_n 2, 1, (0, 0, 0), 0, 0)), (1364, (.aload_n 0, 1, (0, 0, 0), 0, 0)), (1365, (.iload 4, 2, (0, 0, 0), 0, 0)), (1367, (.iconst 1, 1, (0, 0, 0), 1, 0)), (1368, (.iadd, 1, (0, 0, 0), 0, 0)), (1369, (.iaload, 1, (0, 0, 0), 0, 0)), (1370, (.aload_n 0, 1, (0, 0, 0), 0, 0)), (1371, (.iload 4, 2, (0, 0, 0), 0, 0)), (1373, (.iconst 2, 1, (0, 0, 0), 2, 0)), (1374, (.iadd, 1, (0, 0, 0), 0, 0)), (1375, (.iaload, 1, (0, 0, 0), 0, 0))]
def zp0_43 : List (Nat × ZI) := [(1376, (.invokevirtual 241, 3, (0, 317, 0), 0, 2131)), (1379, (.istore 6, 2, (0, 0, 0), 0, 0)), (1381, (.goto 540, 3, (1921, 0, 0), 0, 0)), (1384, (.aload_n 1, 1, (0, 0, 0), 0, 0)), (1385, (.aload_n 0, 1, (0, 0, 0), 0, 0)), (1386, (.iload 4, 2, (0, 0, 0), 0, 0)), (1388, (.iconst 1, 1, (0, 0, 0), 1, 0)), (1389, (.iadd, 1, (0, 0, 0), 0, 0)), (1390, (.iaload, 1, (0, 0, 0), 0, 0)), (1391, (.aload_n 0, 1, (0, 0, 0), 0, 0)), (1392, (.iload 4, 2, (0, 0, 0), 0, 0)), (1394, (.iconst 2, 1, (0, 0, 0), 2, 0)), (1395, (.iadd, 1, (0, 0, 0), 0, 0)), (1396, (.iaload, 1, (0, 0, 0), 0, 0)), (1397, (.ifCond .eq 7, 3, (1404, 0, 0), 0, 0)), (1400, (.iconst 1, 1, (0, 0, 0), 1, 0)), (1401, (.goto 4, 3, (1405, 0, 0), 0, 0)), (1404, (.iconst 0, 1, (0, 0, 0), 0, 0)), (1405, (.aload_n 3, 1, (0, 0, 0), 0, 0)), (1406, (.invokestatic 242, 3, (0, 27, 0), 0, 1478))]
def zp0_44 : List (Nat × ZI) := [(1409, (.istore 5, 2, (0, 0, 0), 0, 0)), (1411, (.aload_n 2, 1, (0, 0, 0), 0, 0)), (1412, (.aload_n 0, 1, (0, 0, 0), 0, 0)), (1413, (.iload 4, 2, (0, 0, 0), 0, 0)), (1415, (.iconst 1, 1, (0, 0, 0), 1, 0)), (1416, (.iadd, 1, (0, 0, 0), 0, 0)), (1417, (.iaload, 1, (0, 0, 0), 0, 0)), (1418, (.aload_n 0, 1, (0, 0, 0), 0, 0)), (1419, (.iload 4, 2, (0, 0, 0), 0, 0)), (1421, (.iconst 2, 1, (0, 0, 0), 2, 0)), (1422, (.iadd, 1, (0, 0, 0), 0, 0)), (1423, (.iaload, 1, (0, 0, 0), 0, 0)), (1424, (.ifCond .eq 7, 3, (1431, 0, 0), 0, 0)), (1427, (.iconst 1, 1, (0, 0, 0), 1, 0)), (1428, (.goto 4, 3, (1432, 0, 0), 0, 0)), (1431, (.iconst 0, 1, (0, 0, 0), 0, 0)), (1432, (.invokevirtual 244, 3, (0, 318, 0), 0, 2135)), (1435, (.istore 6, 2, (0, 0, 0), 0, 0)), (1437, (.goto 484, 3, (1921, 0, 0), 0, 0))]
def zp0_45 : List (Nat × ZI) := [(1440, (.aload_n 1, 1, (0, 0, 0), 0, 0)), (1441, (.aload_n 0, 1, (0, 0, 0), 0, 0)), (1442, (.iload 4, 2, (0, 0, 0), 0, 0)), (1444, (.iconst 1, 1, (0, 0, 0), 1, 0)), (1445, (.iadd, 1, (0, 0, 0), 0, 0)), (1446, (.iaload, 1, (0, 0, 0), 0, 0)), (1447, (.aload_n 3, 1, (0, 0, 0), 0, 0)), (1448, (.invokestatic 245, 3, (0, 28, 0), 0, 1489)), (1451, (.istore 5, 2, (0, 0, 0), 0, 0)), (1453, (.aload_n 2, 1, (0, 0, 0), 0, 0)), (1454, (.aload_n 0, 1, (0, 0, 0), 0, 0)), (1455, (.iload 4, 2, (0, 0, 0), 0, 0)), (1457, (.iconst 1, 1, (0, 0, 0), 1, 0)), (1458, (.iadd, 1, (0, 0, 0), 0, 0)), (1459, (.iaload, 1, (0, 0, 0), 0, 0)), (1460, (.invokevirtual 247, 3, (0, 319, 0), 0, 2139)), (1463, (.istore 6, 2, (0, 0, 0), 0, 0)), (1465, (.goto 456, 3, (1921, 0, 0), 0, 0)), (1468, (.aload_n 1, 1, (0, 0, 0), 0, 0)), (1469, (.aload_n 0, 1, (0, 0, 0), 0, 0)), (1470, (.iload 4, 2, (0, 0, 0), 0, 0))]
def zp0_46 : List (Nat × ZI) := [(1472, (.iconst 1, 1, (0, 0, 0), 1, 0)), (1473, (.iadd, 1, (0, 0, 0), 0, 0)), (1474, (.iaload, 1, (0, 0, 0), 0, 0)), (1475, (.aload_n 0, 1, (0, 0, 0), 0, 0)), (1476, (.iload 4, 2, (0, 0, 0), 0, 0)), (1478, (.iconst 2, 1, (0, 0, 0), 2, 0)), (1479, (.iadd, 1, (0, 0, 0), 0, 0)), (1480, (.iaload, 1, (0, 0, 0), 0, 0)), (1481, (.ifCond .eq 7, 3, (1488, 0, 0), 0, 0)), (1484, (.iconst 1, 1, (0, 0, 0), 1, 0)), (1485, (.goto 4, 3, (1489, 0, 0), 0, 0)), (1488, (.iconst 0, 1, (0, 0, 0), 0, 0)), (1489, (.aload_n 3, 1, (0, 0, 0), 0, 0)), (1490, (.invokestatic 248, 3, (0, 29, 0), 0, 1500)), (1493, (.istore 5, 2, (0, 0, 0), 0, 0)), (1495, (.aload_n 2, 1, (0, 0, 0), 0, 0)), (1496, (.aload_n 0, 1, (0, 0, 0), 0, 0)), (1497, (.iload 4, 2, (0, 0, 0), 0, 0)), (1499, (.iconst 1, 1, (0, 0, 0), 1, 0)), (1500, (.iadd, 1, (0, 0, 0), 0, 0)), (1501, (.iaload, 1, (0, 0, 0), 0, 0)), (1502, (.aload_n 0, 1, (0, 0, 0), 0, 0)), (1503, (.iload 4, 2, (0, 0, 0), 0, 0))]
def zp0_47 : List (Nat × ZI) := [(1505, (.iconst 2, 1, (0, 0, 0), 2, 0)), (1506, (.iadd, 1, (0, 0, 0), 0, 0)), (1507, (.iaload, 1, (0, 0, 0), 0, 0)), (1508, (.ifCond .eq 7, 3, (1515, 0, 0), 0, 0)), (1511, (.iconst 1, 1, (0, 0, 0), 1, 0)), (1512, (.goto 4, 3, (1516, 0, 0), 0, 0)), (1515, (.iconst 0, 1, (0, 0, 0), 0, 0)), (1516, (.invokevirtual 250, 3, (0, 321, 0), 0, 2143)), (1519, (.istore 6, 2, (0, 0, 0), 0, 0)), (1521, (.goto 400, 3, (1921, 0, 0), 0, 0)), (1524, (.aload_n 1, 1, (0, 0, 0), 0, 0)), (1525, (.aload_n 0, 1, (0, 0, 0), 0, 0)), (1526, (.iload 4, 2, (0, 0, 0), 0, 0)), (1528, (.iconst 1, 1, (0, 0, 0), 1, 0)), (1529, (.iadd, 1, (0, 0, 0), 0, 0)), (1530, (.iaload, 1, (0, 0, 0), 0, 0)), (1531, (.aload_n 3, 1, (0, 0, 0), 0, 0)), (1532, (.invokestatic 251, 3, (0, 30, 0), 0, 1515)), (1535, (.istore 5, 2, (0, 0, 0), 0, 0))]
def zp0_48 : List (Nat × ZI) := [(1537, (.aload_n 2, 1, (0, 0, 0), 0, 0)), (1538, (.aload_n 0, 1, (0, 0, 0), 0, 0)), (1539, (.iload 4, 2, (0, 0, 0), 0, 0)), (1541, (.iconst 1, 1, (0, 0, 0), 1, 0)), (1542, (.iadd, 1, (0, 0, 0), 0, 0)), (1543, (.iaload, 1, (0, 0, 0), 0, 0)), (1544, (.invokevirtual 253, 3, (0, 322, 0), 0, 2151)), (1547, (.istore 6, 2, (0, 0, 0), 0, 0)), (1549, (.goto 372, 3, (1921, 0, 0), 0, 0)), (1552, (.aload_n 1, 1, (0, 0, 0), 0, 0)), (1553, (.aload_n 0, 1, (0, 0, 0), 0, 0)), (1554, (.iload 4, 2, (0, 0, 0), 0, 0)), (1556, (.iconst 1, 1, (0, 0, 0), 1, 0)), (1557, (.iadd, 1, (0, 0, 0), 0, 0)), (1558, (.iaload, 1, (0, 0, 0), 0, 0)), (1559, (.aload_n 0, 1, (0, 0, 0), 0, 0)), (1560, (.iload 4, 2, (0, 0, 0), 0, 0)), (1562, (.iconst 2, 1, (0, 0, 0), 2, 0)), (1563, (.iadd, 1, (0, 0, 0), 0, 0)), (1564, (.iaload, 1, (0, 0, 0), 0, 0)), (1565, (.aload_n 3, 1, (0, 0, 0), 0, 0)), (1566, (.invokestatic 254, 3, (0, 31, 0), 0, 1522))]
def zp0_49 : List (Nat × ZI) := [(1569, (.istore 5, 2, (0, 0, 0), 0, 0)), (1571, (.aload_n 2, 1, (0, 0, 0), 0, 0)), (1572, (.aload_n 0, 1, (0, 0, 0), 0, 0)), (1573, (.iload 4, 2, (0, 0, 0), 0, 0)), (1575, (.iconst 1, 1, (0, 0, 0), 1, 0)), (1576, (.iadd, 1, (0, 0, 0), 0, 0)), (1577, (.iaload, 1, (0, 0, 0), 0, 0)), (1578, (.aload_n 0, 1, (0, 0, 0), 0, 0)), (1579, (.iload 4, 2, (0, 0, 0), 0, 0)), (1581, (.iconst 2, 1, (0, 0, 0), 2, 0)), (1582, (.iadd, 1, (0, 0, 0), 0, 0)), (1583, (.iaload, 1, (0, 0, 0), 0, 0)), (1584, (.invokevirtual 256, 3, (0, 323, 0), 0, 2155)), (1587, (.istore 6, 2, (0, 0, 0), 0, 0)), (1589, (.goto 332, 3, (1921, 0, 0), 0, 0)), (1592, (.aload_n 1, 1, (0, 0, 0), 0, 0)), (1593, (.invokevirtual 257, 3, (0, 74, 0), 0, 715)), (1596, (.pop, 1, (0, 0, 0), 0, 0)), (1597, (.aload_n 2, 1, (0, 0, 0), 0, 0)), (1598, (.invokevirtual 260, 3, (0, 324, 0), 0, 2160))]
def zp0_50 : List (Nat × ZI) := [(1601, (.pop, 1, (0, 0, 0), 0, 0)), (1602, (.goto 319, 3, (1921, 0, 0), 0, 0)), (1605, (.aload_n 1, 1, (0, 0, 0), 0, 0)), (1606, (.aload_n 0, 1, (0, 0, 0), 0, 0)), (1607, (.iload 4, 2, (0, 0, 0), 0, 0)), (1609, (.iconst 1, 1, (0, 0, 0), 1, 0)), (1610, (.iadd, 1, (0, 0, 0), 0, 0)), (1611, (.iaload, 1, (0, 0, 0), 0, 0)), (1612, (.aload_n 3, 1, (0, 0, 0), 0, 0)), (1613, (.invokestatic 261, 3, (0, 32, 0), 0, 1530)), (1616, (.istore 5, 2, (0, 0, 0), 0, 0)), (1618, (.aload_n 2, 1, (0, 0, 0), 0, 0)), (1619, (.aload_n 0, 1, (0, 0, 0), 0, 0)), (1620, (.iload 4, 2, (0, 0, 0), 0, 0)), (1622, (.iconst 1, 1, (0, 0, 0), 1, 0)), (1623, (.iadd, 1, (0, 0, 0), 0, 0)), (1624, (.iaload, 1, (0, 0, 0), 0, 0)), (1625, (.invokevirtual 263, 3, (0, 325, 0), 0, 2164)), (1628, (.istore 6, 2, (0, 0, 0), 0, 0)), (1630, (.goto 291, 3, (1921, 0, 0), 0, 0))]
def zp0_51 : List (Nat × ZI) := [(1633, (.aload_n 1, 1, (0, 0, 0), 0, 0)), (1634, (.aload_n 0, 1, (0, 0, 0), 0, 0)), (1635, (.iload 4, 2, (0, 0, 0), 0, 0)), (1637, (.iconst 1, 1, (0, 0, 0), 1, 0)), (1638, (.iadd, 1, (0, 0, 0), 0, 0)), (1639, (.iaload, 1, (0, 0, 0), 0, 0)), (1640, (.aload_n 0, 1, (0, 0, 0), 0, 0)), (1641, (.iload 4, 2, (0, 0, 0), 0, 0)), (1643, (.iconst 2, 1, (0, 0, 0), 2, 0)), (1644, (.iadd, 1, (0, 0, 0), 0, 0)), (1645, (.iaload, 1, (0, 0, 0), 0, 0)), (1646, (.aload_n 3, 1, (0, 0, 0), 0, 0)), (1647, (.invokestatic 264, 3, (0, 33, 0), 0, 1541)), (1650, (.istore 5, 2, (0, 0, 0), 0, 0)), (1652, (.aload_n 2, 1, (0, 0, 0), 0, 0)), (1653, (.aload_n 0, 1, (0, 0, 0), 0, 0)), (1654, (.iload 4, 2, (0, 0, 0), 0, 0)), (1656, (.iconst 1, 1, (0, 0, 0), 1, 0)), (1657, (.iadd, 1, (0, 0, 0), 0, 0)), (1658, (.iaload, 1, (0, 0, 0), 0, 0)), (1659, (.aload_n 0, 1, (0, 0, 0), 0, 0)), (1660, (.iload 4, 2, (0, 0, 0), 0, 0)), (1662, (.iconst 2, 1, (0, 0, 0), 2, 0)), (1663, (.iadd, 1, (0, 0, 0), 0, 0))]
def zp0_52 : List (Nat × ZI) := [(1664, (.iaload, 1, (0, 0, 0), 0, 0)), (1665, (.invokevirtual 266, 3, (0, 326, 0), 0, 2168)), (1668, (.istore 6, 2, (0, 0, 0), 0, 0)), (1670, (.goto 251, 3, (1921, 0, 0), 0, 0)), (1673, (.aload_n 1, 1, (0, 0, 0), 0, 0)), (1674, (.aload_n 0, 1, (0, 0, 0), 0, 0)), (1675, (.iload 4, 2, (0, 0, 0), 0, 0)), (1677, (.iconst 1, 1, (0, 0, 0), 1, 0)), (1678, (.iadd, 1, (0, 0, 0), 0, 0)), (1679, (.iaload, 1, (0, 0, 0), 0, 0)), (1680, (.aload_n 0, 1, (0, 0, 0), 0, 0)), (1681, (.iload 4, 2, (0, 0, 0), 0, 0)), (1683, (.iconst 2, 1, (0, 0, 0), 2, 0)), (1684, (.iadd, 1, (0, 0, 0), 0, 0)), (1685, (.iaload, 1, (0, 0, 0), 0, 0)), (1686, (.aload_n 3, 1, (0, 0, 0), 0, 0)), (1687, (.invokestatic 267, 3, (0, 34, 0), 0, 1552)), (1690, (.istore 5, 2, (0, 0, 0), 0, 0)), (1692, (.aload_n 2, 1, (0, 0, 0), 0, 0)), (1693, (.aload_n 0, 1, (0, 0, 0), 0, 0)), (1694, (.iload 4, 2, (0, 0, 0), 0, 0))]
def zp0_53 : List (Nat × ZI) := [(1696, (.iconst 1, 1, (0, 0, 0), 1, 0)), (1697, (.iadd, 1, (0, 0, 0), 0, 0)), (1698, (.iaload, 1, (0, 0, 0), 0, 0)), (1699, (.aload_n 0, 1, (0, 0, 0), 0, 0)), (1700, (.iload 4, 2, (0, 0, 0), 0, 0)), (1702, (.iconst 2, 1, (0, 0, 0), 2, 0)), (1703, (.iadd, 1, (0, 0, 0), 0, 0)), (1704, (.iaload, 1, (0, 0, 0), 0, 0)), (1705, (.invokevirtual 269, 3, (0, 328, 0), 0, 2172)), (1708, (.istore 6, 2, (0, 0, 0), 0, 0)), (1710, (.goto 211, 3, (1921, 0, 0), 0, 0)), (1713, (.aload_n 1, 1, (0, 0, 0), 0, 0)), (1714, (.aload_n 3, 1, (0, 0, 0), 0, 0)), (1715, (.invokestatic 270, 3, (0, 35, 0), 0, 1564)), (1718, (.istore 5, 2, (0, 0, 0), 0, 0)), (1720, (.aload_n 2, 1, (0, 0, 0), 0, 0)), (1721, (.invokevirtual 272, 3, (0, 330, 0), 0, 2180)), (1724, (.istore 6, 2, (0, 0, 0), 0, 0)), (1726, (.goto 195, 3, (1921, 0, 0), 0, 0))]
def zp0_54 : List (Nat × ZI) := [(1729, (.aload_n 1, 1, (0, 0, 0), 0, 0)), (1730, (.aload_n 0, 1, (0, 0, 0), 0, 0)), (1731, (.iload 4, 2, (0, 0, 0), 0, 0)), (1733, (.iconst 1, 1, (0, 0, 0), 1, 0)), (1734, (.iadd, 1, (0, 0, 0), 0, 0)), (1735, (.iaload, 1, (0, 0, 0), 0, 0)), (1736, (.invokevirtual 273, 3, (0, 79, 0), 0, 723)), (1739, (.pop, 1, (0, 0, 0), 0, 0)), (1740, (.aload_n 2, 1, (0, 0, 0), 0, 0)), (1741, (.aload_n 0, 1, (0, 0, 0), 0, 0)), (1742, (.iload 4, 2, (0, 0, 0), 0, 0)), (1744, (.iconst 1, 1, (0, 0, 0), 1, 0)), (1745, (.iadd, 1, (0, 0, 0), 0, 0)), (1746, (.iaload, 1, (0, 0, 0), 0, 0)), (1747, (.invokevirtual 276, 3, (0, 331, 0), 0, 2188)), (1750, (.pop, 1, (0, 0, 0), 0, 0)), (1751, (.goto 170, 3, (1921, 0, 0), 0, 0)), (1754, (.aload_n 1, 1, (0, 0, 0), 0, 0)), (1755, (.aload_n 0, 1, (0, 0, 0), 0, 0)), (1756, (.iload 4, 2, (0, 0, 0), 0, 0)), (1758, (.iconst 1, 1, (0, 0, 0), 1, 0)), (1759, (.iadd, 1, (0, 0, 0), 0, 0))]
def zp0_55 : List (Nat × ZI) := [(1760, (.iaload, 1, (0, 0, 0), 0, 0)), (1761, (.aload_n 0, 1, (0, 0, 0), 0, 0)), (1762, (.iload 4, 2, (0, 0, 0), 0, 0)), (1764, (.iconst 2, 1, (0, 0, 0), 2, 0)), (1765, (.iadd, 1, (0, 0, 0), 0, 0)), (1766, (.iaload, 1, (0, 0, 0), 0, 0)), (1767, (.aload_n 3, 1, (0, 0, 0), 0, 0)), (1768, (.invokestatic 277, 3, (0, 36, 0), 0, 1587)), (1771, (.istore 5, 2, (0, 0, 0), 0, 0)), (1773, (.aload_n 2, 1, (0, 0, 0), 0, 0)), (1774, (.aload_n 0, 1, (0, 0, 0), 0, 0)), (1775, (.iload 4, 2, (0, 0, 0), 0, 0)), (1777, (.iconst 1, 1, (0, 0, 0), 1, 0)), (1778, (.iadd, 1, (0, 0, 0), 0, 0)), (1779, (.iaload, 1, (0, 0, 0), 0, 0)), (1780, (.aload_n 0, 1, (0, 0, 0), 0, 0)), (1781, (.iload 4, 2, (0, 0, 0), 0, 0)), (1783, (.iconst 2, 1, (0, 0, 0), 2, 0)), (1784, (.iadd, 1, (0, 0, 0), 0, 0)), (1785, (.iaload, 1, (0, 0, 0), 0, 0)), (1786, (.invokevirtual 279, 3, (0, 332, 0), 0, 2192)), (1789, (.istore 6, 2, (0, 0, 0), 0, 0)), (1791, (.goto 130, 3, (1921, 0, 0), 0, 0))]
def zp0_56 : List (Nat × ZI) := [(1794, (.aload_n 1, 1, (0, 0, 0), 0, 0)), (1795, (.aload_n 0, 1, (0, 0, 0), 0, 0)), (1796, (.iload 4, 2, (0, 0, 0), 0, 0)), (1798, (.iconst 1, 1, (0, 0, 0), 1, 0)), (1799, (.iadd, 1, (0, 0, 0), 0, 0)), (1800, (.iaload, 1, (0, 0, 0), 0, 0)), (1801, (.aload_n 0, 1, (0, 0, 0), 0, 0)), (1802, (.iload 4, 2, (0, 0, 0), 0, 0)), (1804, (.iconst 2, 1, (0, 0, 0), 2, 0)), (1805, (.iadd, 1, (0, 0, 0), 0, 0)), (1806, (.iaload, 1, (0, 0, 0), 0, 0)), (1807, (.aload_n 3, 1, (0, 0, 0), 0, 0)), (1808, (.invokestatic 280, 3, (0, 37, 0), 0, 1596)), (1811, (.istore 5, 2, (0, 0, 0), 0, 0)), (1813, (.aload_n 2, 1, (0, 0, 0), 0, 0)), (1814, (.aload_n 0, 1, (0, 0, 0), 0, 0)), (1815, (.iload 4, 2, (0, 0, 0), 0, 0)), (1817, (.iconst 1, 1, (0, 0, 0), 1, 0)), (1818, (.iadd, 1, (0, 0, 0), 0, 0)), (1819, (.iaload, 1, (0, 0, 0), 0, 0)), (1820, (.aload_n 0, 1, (0, 0, 0), 0, 0)), (1821, (.iload 4, 2, (0, 0, 0), 0, 0)), (1823, (.iconst 2, 1, (0, 0, 0), 2, 0))]
def zp0_57 : List (Nat × ZI) := [(1824, (.iadd, 1, (0, 0, 0), 0, 0)), (1825, (.iaload, 1, (0, 0, 0), 0, 0)), (1826, (.invokevirtual 282, 3, (0, 333, 0), 0, 2196)), (1829, (.istore 6, 2, (0, 0, 0), 0, 0)), (1831, (.goto 90, 3, (1921, 0, 0), 0, 0)), (1834, (.aload_n 1, 1, (0, 0, 0), 0, 0)), (1835, (.aload_n 0, 1, (0, 0, 0), 0, 0)), (1836, (.iload 4, 2, (0, 0, 0), 0, 0)), (1838, (.iconst 1, 1, (0, 0, 0), 1, 0)), (1839, (.iadd, 1, (0, 0, 0), 0, 0)), (1840, (.iaload, 1, (0, 0, 0), 0, 0)), (1841, (.invokevirtual 283, 3, (0, 82, 0), 0, 742)), (1844, (.pop, 1, (0, 0, 0), 0, 0)), (1845, (.aload_n 2, 1, (0, 0, 0), 0, 0)), (1846, (.aload_n 0, 1, (0, 0, 0), 0, 0)), (1847, (.iload 4, 2, (0, 0, 0), 0, 0)), (1849, (.iconst 1, 1, (0, 0, 0), 1, 0)), (1850, (.iadd, 1, (0, 0, 0), 0, 0)), (1851, (.iaload, 1, (0, 0, 0), 0, 0)), (1852, (.invokevirtual 286, 3, (0, 334, 0), 0, 2200)), (1855, (.pop, 1, (0, 0, 0), 0, 0))]
def zp0_58 : List (Nat × ZI) := [(1856, (.goto 65, 3, (1921, 0, 0), 0, 0)), (1859, (.aload_n 1, 1, (0, 0, 0), 0, 0)), (1860, (.invokevirtual 287, 3, (0, 83, 0), 0, 746)), (1863, (.pop, 1, (0, 0, 0), 0, 0)), (1864, (.aload_n 2, 1, (0, 0, 0), 0, 0)), (1865, (.invokevirtual 291, 3, (0, 215, 0), 0, 1679)), (1868, (.pop, 1, (0, 0, 0), 0, 0)), (1869, (.goto 52, 3, (1921, 0, 0), 0, 0)), (1872, (.aload_n 1, 1, (0, 0, 0), 0, 0)), (1873, (.invokevirtual 292, 3, (0, 84, 0), 0, 760)), (1876, (.aload_n 2, 1, (0, 0, 0), 0, 0)), (1877, (.invokevirtual 295, 3, (0, 212, 0), 0, 1671)), (1880, (.goto 41, 3, (1921, 0, 0), 0, 0)), (1883, (.aload_n 1, 1, (0, 0, 0), 0, 0)), (1884, (.invokevirtual 296, 3, (0, 85, 0), 0, 780)), (1887, (.pop, 1, (0, 0, 0), 0, 0))]
def zp0_59 : List (Nat × ZI) := [(1888, (.aload_n 2, 1, (0, 0, 0), 0, 0)), (1889, (.invokevirtual 299, 3, (0, 213, 0), 0, 1675)), (1892, (.pop, 1, (0, 0, 0), 0, 0)), (1893, (.goto 28, 3, (1921, 0, 0), 0, 0)), (1896, (.aload_n 1, 1, (0, 0, 0), 0, 0)), (1897, (.aload_n 0, 1, (0, 0, 0), 0, 0)), (1898, (.iload 4, 2, (0, 0, 0), 0, 0)), (1900, (.iconst 1, 1, (0, 0, 0), 1, 0)), (1901, (.iadd, 1, (0, 0, 0), 0, 0)), (1902, (.iaload, 1, (0, 0, 0), 0, 0)), (1903, (.invokevirtual 300, 3, (0, 86, 0), 0, 792)), (1906, (.pop, 1, (0, 0, 0), 0, 0)), (1907, (.aload_n 2, 1, (0, 0, 0), 0, 0)), (1908, (.aload_n 0, 1, (0, 0, 0), 0, 0)), (1909, (.iload 4, 2, (0, 0, 0), 0, 0)), (1911, (.iconst 1, 1, (0, 0, 0), 1, 0)), (1912, (.iadd, 1, (0, 0, 0), 0, 0)), (1913, (.iaload, 1, (0, 0, 0), 0, 0)), (1914, (.invokevirtual 303, 3, (0, 335, 0), 0, 2204)), (1917, (.pop, 1, (0, 0, 0), 0, 0)), (1918, (.goto 3, 3, (1921, 0, 0), 0, 0))]
def zp0_60 : List (Nat × ZI) := [(1921, (.iinc 4 6, 3, (0, 0, 0), 6, 0)), (1924, (.goto (-1901), 3, (23, 0, 0), 0, 0)), (1927, (.iconst 1, 1, (0, 0, 0), 1, 0)), (1928, (.ireturn, 1, (0, 0, 0), 0, 0))]
set_option maxRecDepth 10000 in
def zp0 : List (List (Nat × ZI)) := [zp0_0, zp0_1, zp0_2, zp0_3, zp0_4, zp0_5, zp0_6, zp0_7, zp0_8, zp0_9, zp0_10, zp0_11, zp0_12, zp0_13, zp0_14, zp0_15, zp0_16, zp0_17, zp0_18, zp0_19, zp0_20, zp0_21, zp0_22, zp0_23, zp0_24, zp0_25, zp0_26, zp0_27, zp0_28, zp0_29, zp0_30, zp0_31, zp0_32, zp0_33, zp0_34, zp0_35, zp0_36, zp0_37, zp0_38, zp0_39, zp0_40, zp0_41, zp0_42, zp0_43, zp0_44, zp0_45, zp0_46, zp0_47, zp0_48, zp0_49, zp0_50, zp0_51, zp0_52, zp0_53, zp0_54, zp0_55, zp0_56, zp0_57, zp0_58, zp0_59, zp0_60]
set_option maxRecDepth 10000 in
def zp1 : List (List (Nat × ZI)) := [[(0, (.aload_n 1, 1, (0, 0, 0), 0, 0)), (1, (.iconst 0, 1, (0, 0, 0), 0, 0)), (2, (.aload_n 0, 1, (0, 0, 0), 0, 0)), (3, (.invokevirtual 7, 3, (0, 41, 0), 0, 810)), (6, (.i2l, 1, (0, 0, 0), 0, 0)), (7, (.lastore, 1, (0, 0, 0), 0, 0)), (8, (.goto 9, 3, (17, 0, 0), 0, 0)), (11, (.astore_n 2, 1, (0, 0, 0), 0, 0)), (12, (.iconst 1, 1, (0, 0, 0), 1, 0)), (13, (.ireturn, 1, (0, 0, 0), 0, 0)), (14, (.astore_n 2, 1, (0, 0, 0), 0, 0)), (15, (.iconst 2, 1, (0, 0, 0), 2, 0)), (16, (.ireturn, 1, (0, 0, 0), 0, 0)), (17, (.iconst 0, 1, (0, 0, 0), 0, 0)), (18, (.ireturn, 1, (0, 0, 0), 0, 0))]]
set_option maxRecDepth 10000 in
def zp2 : List (List (Nat × ZI)) := [[(0, (.aload_n 1, 1, (0, 0, 0), 0, 0)), (1, (.iconst 0, 1, (0, 0, 0), 0, 0)), (2, (.aload_n 0, 1, (0, 0, 0), 0, 0)), (3, (.invokevirtual 17, 3, (0, 42, 0), 0, 1047)), (6, (.i2l, 1, (0, 0, 0), 0, 0)), (7, (.lastore, 1, (0, 0, 0), 0, 0)), (8, (.goto 6, 3, (14, 0, 0), 0, 0)), (11, (.astore_n 2, 1, (0, 0, 0), 0, 0)), (12, (.iconst 1, 1, (0, 0, 0), 1, 0)), (13, (.ireturn, 1, (0, 0, 0), 0, 0)), (14, (.iconst 0, 1, (0, 0, 0), 0, 0)), (15, (.ireturn, 1, (0, 0, 0), 0, 0))]]
set_option maxRecDepth 10000 in
def zp3 : List (List (Nat × ZI)) := [[(0, (.aload_n 3, 1, (0, 0, 0), 0, 0)), (1, (.iconst 0, 1, (0, 0, 0), 0, 0)), (2, (.aload_n 0, 1, (0, 0, 0), 0, 0)), (3, (.iload_n 1, 1, (0, 0, 0), 0, 0)), (4, (.iload_n 2, 1, (0, 0, 0), 0, 0)), (5, (.invokevirtual 20, 3, (0, 44, 0), 0, 1124)), (8, (.i2l, 1, (0, 0, 0), 0, 0)), (9, (.lastore, 1, (0, 0, 0), 0, 0)), (10, (.goto 11, 3, (21, 0, 0), 0, 0)), (13, (.astore 4, 2, (0, 0, 0), 0, 0)), (15, (.iconst 1, 1, (0, 0, 0), 1, 0)), (16, (.ireturn, 1, (0, 0, 0), 0, 0)), (17, (.astore 4, 2, (0, 0, 0), 0, 0)), (19, (.iconst 2, 1, (0, 0, 0), 2, 0)), (20, (.ireturn, 1, (0, 0, 0), 0, 0)), (21, (.iconst 0, 1, (0, 0, 0), 0, 0)), (22, (.ireturn, 1, (0, 0, 0), 0, 0))]]
set_option maxRecDepth 10000 in
def zp4 : List (List (Nat × ZI)) := [[(0, (.aload_n 3, 1, (0, 0, 0), 0, 0)), (1, (.iconst 0, 1, (0, 0, 0), 0, 0)), (2, (.aload_n 0, 1, (0, 0, 0), 0, 0)), (3, (.iload_n 1, 1, (0, 0, 0), 0, 0)), (4, (.iload_n 2, 1, (0, 0, 0), 0, 0)), (5, (.invokevirtual 28, 3, (0, 45, 0), 0, 1186)), (8, (.i2l, 1, (0, 0, 0), 0, 0)), (9, (.lastore, 1, (0, 0, 0), 0, 0)), (10, (.goto 7, 3, (17, 0, 0), 0, 0)), (13, (.astore 4, 2, (0, 0, 0), 0, 0)), (15, (.iconst 1, 1, (0, 0, 0), 1, 0)), (16, (.ireturn, 1, (0, 0, 0), 0, 0)), (17, (.iconst 0, 1, (0, 0, 0), 0, 0)), (18, (.ireturn, 1, (0, 0, 0), 0, 0))]]
set_option maxRecDepth 10000 in
def zp5 : List (List (Nat × ZI)) := [[(0, (.aload_n 3, 1, (0, 0, 0), 0, 0)), (1, (.iconst 0, 1, (0, 0, 0), 0, 0)), (2, (.aload_n 0, 1, (0, 0, 0), 0, 0)), (3, (.iload_n 1, 1, (0, 0, 0), 0, 0)), (4, (.iload_n 2, 1, (0, 0, 0), 0, 0)), (5, (.invokevirtual 31, 3, (0, 46, 0), 0, 1198)), (8, (.i2l, 1, (0, 0, 0), 0, 0)), (9, (.lastore, 1, (0, 0, 0), 0, 0)), (10, (.goto 11, 3, (21, 0, 0), 0, 0)), (13, (.astore 4, 2, (0, 0, 0), 0, 0)), (15, (.iconst 1, 1, (0, 0, 0), 1, 0)), (16, (.ireturn, 1, (0, 0, 0), 0, 0)), (17, (.astore 4, 2, (0, 0, 0), 0, 0)), (19, (.iconst 2, 1, (0, 0, 0), 2, 0)), (20, (.ireturn, 1, (0, 0, 0), 0, 0)), (21, (.iconst 0, 1, (0, 0, 0), 0, 0)), (22, (.ireturn, 1, (0, 0, 0), 0, 0))]]
set_option maxRecDepth 10000 in
def zp6 : List (List (Nat × ZI)) := [[(0, (.aload_n 3, 1, (0, 0, 0), 0, 0)), (1, (.iconst 0, 1, (0, 0, 0), 0, 0)), (2, (.aload_n 0, 1, (0, 0, 0), 0, 0)), (3, (.iload_n 1, 1, (0, 0, 0), 0, 0)), (4, (.iload_n 2, 1, (0, 0, 0), 0, 0)), (5, (.invokevirtual 34, 3, (0, 47, 0), 0, 1212)), (8, (.i2l, 1, (0, 0, 0), 0, 0)), (9, (.lastore, 1, (0, 0, 0), 0, 0)), (10, (.goto 7, 3, (17, 0, 0), 0, 0)), (13, (.astore 4, 2, (0, 0, 0), 0, 0)), (15, (.iconst 1, 1, (0, 0, 0), 1, 0)), (16, (.ireturn, 1, (0, 0, 0), 0, 0)), (17, (.iconst 0, 1, (0, 0, 0), 0, 0)), (18, (.ireturn, 1, (0, 0, 0), 0, 0))]]
set_option maxRecDepth 10000 in
def zp7 : List (List (Nat × ZI)) := [[(0, (.aload_n 3, 1, (0, 0, 0), 0, 0)), (1, (.iconst 0, 1, (0, 0, 0), 0, 0)), (2, (.aload_n 0, 1, (0, 0, 0), 0, 0)), (3, (.iload_n 1, 1, (0, 0, 0), 0, 0)), (4, (.iload_n 2, 1, (0, 0, 0), 0, 0)), (5, (.invokevirtual 37, 3, (0, 48, 0), 0, 1219)), (8, (.i2l, 1, (0, 0, 0), 0, 0)), (9, (.lastore, 1, (0, 0, 0), 0, 0)), (10, (.goto 7, 3, (17, 0, 0), 0, 0)), (13, (.astore 4, 2, (0, 0, 0), 0, 0)), (15, (.iconst 1, 1, (0, 0, 0), 1, 0)), (16, (.ireturn, 1, (0, 0, 0), 0, 0)), (17, (.iconst 0, 1, (0, 0, 0), 0, 0)), (18, (.ireturn, 1, (0, 0, 0), 0, 0))]]
set_option maxRecDepth 10000 in
def zp8 : List (List (Nat × ZI)) := [[(0, (.aload 4, 2, (0, 0, 0), 0, 0)), (2, (.iconst 0, 1, (0, 0, 0), 0, 0)), (3, (.aload_n 0, 1, (0, 0, 0), 0, 0)), (4, (.iload_n 1, 1, (0, 0, 0), 0, 0)), (5, (.iload_n 2, 1, (0, 0, 0), 0, 0)), (6, (.iload_n 3, 1, (0, 0, 0), 0, 0)), (7, (.invokevirtual 40, 3, (0, 49, 0), 0, 1226)), (10, (.i2l, 1, (0, 0, 0), 0, 0)), (11, (.lastore, 1, (0, 0, 0), 0, 0)), (12, (.goto 11, 3, (23, 0, 0), 0, 0)), (15, (.astore 5, 2, (0, 0, 0), 0, 0)), (17, (.iconst 1, 1, (0, 0, 0), 1, 0)), (18, (.ireturn, 1, (0, 0, 0), 0, 0)), (19, (.astore 5, 2, (0, 0, 0), 0, 0)), (21, (.iconst 2, 1, (0, 0, 0), 2, 0)), (22, (.ireturn, 1, (0, 0, 0), 0, 0)), (23, (.iconst 0, 1, (0, 0, 0), 0, 0)), (24, (.ireturn, 1, (0, 0, 0), 0, 0))]]
set_option maxRecDepth 10000 in
def zp9 : List (List (Nat × ZI)) := [[(0, (.aload_n 2, 1, (0, 0, 0), 0, 0)), (1, (.iconst 0, 1, (0, 0, 0), 0, 0)), (2, (.aload_n 0, 1, (0, 0, 0), 0, 0)), (3, (.iload_n 1, 1, (0, 0, 0), 0, 0)), (4, (.invokevirtual 44, 3, (0, 50, 0), 0, 1238)), (7, (.i2l, 1, (0, 0, 0), 0, 0)), (8, (.lastore, 1, (0, 0, 0), 0, 0)), (9, (.goto 6, 3, (15, 0, 0), 0, 0)), (12, (.astore_n 3, 1, (0, 0, 0), 0, 0)), (13, (.iconst 1, 1, (0, 0, 0), 1, 0)), (14, (.ireturn, 1, (0, 0, 0), 0, 0)), (15, (.iconst 0, 1, (0, 0, 0), 0, 0)), (16, (.ireturn, 1, (0, 0, 0), 0, 0))]]
set_option maxRecDepth 10000 in
def zp10 : List (List (Nat × ZI)) := [[(0, (.aload_n 2, 1, (0, 0, 0), 0, 0)), (1, (.iconst 0, 1, (0, 0, 0), 0, 0)), (2, (.aload_n 0, 1, (0, 0, 0), 0, 0)), (3, (.iload_n 1, 1, (0, 0, 0), 0, 0)), (4, (.invokevirtual 48, 3, (0, 51, 0), 0, 1257)), (7, (.i2l, 1, (0, 0, 0), 0, 0)), (8, (.lastore, 1, (0, 0, 0), 0, 0)), (9, (.goto 6, 3, (15, 0, 0), 0, 0)), (12, (.astore_n 3, 1, (0, 0, 0), 0, 0)), (13, (.iconst 1, 1, (0, 0, 0), 1, 0)), (14, (.ireturn, 1, (0, 0, 0), 0, 0)), (15, (.iconst 0, 1, (0, 0, 0), 0, 0)), (16, (.ireturn, 1, (0, 0, 0), 0, 0))]]
set_option maxRecDepth 10000 in
def zp11 : List (List (Nat × ZI)) := [[(0, (.aload_n 2, 1, (0, 0, 0), 0, 0)), (1, (.iconst 0, 1, (0, 0, 0), 0, 0)), (2, (.aload_n 0, 1, (0, 0, 0), 0, 0)), (3, (.iload_n 1, 1, (0, 0, 0), 0, 0)), (4, (.invokevirtual 51, 3, (0, 52, 0), 0, 1269)), (7, (.i2l, 1, (0, 0, 0), 0, 0)), (8, (.lastore, 1, (0, 0, 0), 0, 0)), (9, (.goto 6, 3, (15, 0, 0), 0, 0)), (12, (.astore_n 3, 1, (0, 0, 0), 0, 0)), (13, (.iconst 1, 1, (0, 0, 0), 1, 0)), (14, (.ireturn, 1, (0, 0, 0), 0, 0)), (15, (.iconst 0, 1, (0, 0, 0), 0, 0)), (16, (.ireturn, 1, (0, 0, 0), 0, 0))]]
set_option maxRecDepth 10000 in
def zp12 : List (List (Nat × ZI)) := [[(0, (.aload_n 3, 1, (0, 0, 0), 0, 0)), (1, (.iconst 0, 1, (0, 0, 0), 0, 0)), (2, (.aload_n 0, 1, (0, 0, 0), 0, 0)), (3, (.iload_n 1, 1, (0, 0, 0), 0, 0)), (4, (.iload_n 2, 1, (0, 0, 0), 0, 0)), (5, (.invokevirtual 54, 3, (0, 53, 0), 0, 1281)), (8, (.i2l, 1, (0, 0, 0), 0, 0)), (9, (.lastore, 1, (0, 0, 0), 0, 0)), (10, (.goto 11, 3, (21, 0, 0), 0, 0)), (13, (.astore 4, 2, (0, 0, 0), 0, 0)), (15, (.iconst 1, 1, (0, 0, 0), 1, 0)), (16, (.ireturn, 1, (0, 0, 0), 0, 0)), (17, (.astore 4, 2, (0, 0, 0), 0, 0)), (19, (.iconst 2, 1, (0, 0, 0), 2, 0)), (20, (.ireturn, 1, (0, 0, 0), 0, 0)), (21, (.iconst 0, 1, (0, 0, 0), 0, 0)), (22, (.ireturn, 1, (0, 0, 0), 0, 0))]]
set_option maxRecDepth 10000 in
def zp13 : List (List (Nat × ZI)) := [[(0, (.aload_n 3, 1, (0, 0, 0), 0, 0)), (1, (.iconst 0, 1, (0, 0, 0), 0, 0)), (2, (.aload_n 0, 1, (0, 0, 0), 0, 0)), (3, (.iload_n 1, 1, (0, 0, 0), 0, 0)), (4, (.iload_n 2, 1, (0, 0, 0), 0, 0)), (5, (.invokevirtual 57, 3, (0, 54, 0), 0, 1288)), (8, (.i2l, 1, (0, 0, 0), 0, 0)), (9, (.lastore, 1, (0, 0, 0), 0, 0)), (10, (.goto 11, 3, (21, 0, 0), 0, 0)), (13, (.astore 4, 2, (0, 0, 0), 0, 0)), (15, (.iconst 1, 1, (0, 0, 0), 1, 0)), (16, (.ireturn, 1, (0, 0, 0), 0, 0)), (17, (.astore 4, 2, (0, 0, 0), 0, 0)), (19, (.iconst 2, 1, (0, 0, 0), 2, 0)), (20, (.ireturn, 1, (0, 0, 0), 0, 0)), (21, (.iconst 0, 1, (0, 0, 0), 0, 0)), (22, (.ireturn, 1, (0, 0, 0), 0, 0))]]
set_option maxRecDepth 10000 in
def zp14 : List (List (Nat × ZI)) := [[(0, (.aload_n 3, 1, (0, 0, 0), 0, 0)), (1, (.iconst 0, 1, (0, 0, 0), 0, 0)), (2, (.aload_n 0, 1, (0, 0, 0), 0, 0)), (3, (.iload_n 1, 1, (0, 0, 0), 0, 0)), (4, (.iload_n 2, 1, (0, 0, 0), 0, 0)), (5, (.invokevirtual 60, 3, (0, 55, 0), 0, 1295)), (8, (.i2l, 1, (0, 0, 0), 0, 0)), (9, (.lastore, 1, (0, 0, 0), 0, 0)), (10, (.goto 11, 3, (21, 0, 0), 0, 0)), (13, (.astore 4, 2, (0, 0, 0), 0, 0)), (15, (.iconst 1, 1, (0, 0, 0), 1, 0)), (16, (.ireturn, 1, (0, 0, 0), 0, 0)), (17, (.astore 4, 2, (0, 0, 0), 0, 0)), (19, (.iconst 2, 1, (0, 0, 0), 2, 0)), (20, (.ireturn, 1, (0, 0, 0), 0, 0)), (21, (.iconst 0, 1, (0, 0, 0), 0, 0)), (22, (.ireturn, 1, (0, 0, 0), 0, 0))]]
set_option maxRecDepth 10000 in
def zp15 : List (List (Nat × ZI)) := [[(0, (.aload_n 3, 1, (0, 0, 0), 0, 0)), (1, (.iconst 0, 1, (0, 0, 0), 0, 0)), (2, (.aload_n 0, 1, (0, 0, 0), 0, 0)), (3, (.iload_n 1, 1, (0, 0, 0), 0, 0)), (4, (.iload_n 2, 1, (0, 0, 0), 0, 0)), (5, (.invokevirtual 63, 3, (0, 56, 0), 0, 1302)), (8, (.i2l, 1, (0, 0, 0), 0, 0)), (9, (.lastore, 1, (0, 0, 0), 0, 0)), (10, (.goto 11, 3, (21, 0, 0), 0, 0)), (13, (.astore 4, 2, (0, 0, 0), 0, 0)), (15, (.iconst 1, 1, (0, 0, 0), 1, 0)), (16, (.ireturn, 1, (0, 0, 0), 0, 0)), (17, (.astore 4, 2, (0, 0, 0), 0, 0)), (19, (.iconst 2, 1, (0, 0, 0), 2, 0)), (20, (.ireturn, 1, (0, 0, 0), 0, 0)), (21, (.iconst 0, 1, (0, 0, 0), 0, 0)), (22, (.ireturn, 1, (0, 0, 0), 0, 0))]]
set_option maxRecDepth 10000 in
def zp16 : List (List (Nat × ZI)) := [[(0, (.aload 4, 2, (0, 0, 0), 0, 0)), (2, (.iconst 0, 1, (0, 0, 0), 0, 0)), (3, (.aload_n 0, 1, (0, 0, 0), 0, 0)), (4, (.iload_n 1, 1, (0, 0, 0), 0, 0)), (5, (.iload_n 2, 1, (0, 0, 0), 0, 0)), (6, (.iload_n 3, 1, (0, 0, 0), 0, 0)), (7, (.invokevirtual 66, 3, (0, 57, 0), 0, 1327)), (10, (.i2l, 1, (0, 0, 0), 0, 0)), (11, (.lastore, 1, (0, 0, 0), 0, 0)), (12, (.goto 11, 3, (23, 0, 0), 0, 0)), (15, (.astore 5, 2, (0, 0, 0), 0, 0)), (17, (.iconst 1, 1, (0, 0, 0), 1, 0)), (18, (.ireturn, 1, (0, 0, 0), 0, 0)), (19, (.astore 5, 2, (0, 0, 0), 0, 0)), (21, (.iconst 2, 1, (0, 0, 0), 2, 0)), (22, (.ireturn, 1, (0, 0, 0), 0, 0)), (23, (.iconst 0, 1, (0, 0, 0), 0, 0)), (24, (.ireturn, 1, (0, 0, 0), 0, 0))]]
set_option maxRecDepth 10000 in
def zp17 : List (List (Nat × ZI)) := [[(0, (.aload 4, 2, (0, 0, 0), 0, 0)), (2, (.iconst 0, 1, (0, 0, 0), 0, 0)), (3, (.aload_n 0, 1, (0, 0, 0), 0, 0)), (4, (.iload_n 1, 1, (0, 0, 0), 0, 0)), (5, (.iload_n 2, 1, (0, 0, 0), 0, 0)), (6, (.iload_n 3, 1, (0, 0, 0), 0, 0)), (7, (.invokevirtual 69, 3, (0, 58, 0), 0, 1338)), (10, (.i2l, 1, (0, 0, 0), 0, 0)), (11, (.lastore, 1, (0, 0, 0), 0, 0)), (12, (.goto 7, 3, (19, 0, 0), 0, 0)), (15, (.astore 5, 2, (0, 0, 0), 0, 0)), (17, (.iconst 1, 1, (0, 0, 0), 1, 0)), (18, (.ireturn, 1, (0, 0, 0), 0, 0)), (19, (.iconst 0, 1, (0, 0, 0), 0, 0)), (20, (.ireturn, 1, (0, 0, 0), 0, 0))]]
set_option maxRecDepth 10000 in
def zp18 : List (List (Nat × ZI)) := [[(0, (.aload_n 3, 1, (0, 0, 0), 0, 0)), (1, (.iconst 0, 1, (0, 0, 0), 0, 0)), (2, (.aload_n 0, 1, (0, 0, 0), 0, 0)), (3, (.iload_n 1, 1, (0, 0, 0), 0, 0)), (4, (.iload_n 2, 1, (0, 0, 0), 0, 0)), (5, (.invokevirtual 73, 3, (0, 59, 0), 0, 1349)), (8, (.i2l, 1, (0, 0, 0), 0, 0)), (9, (.lastore, 1, (0, 0, 0), 0, 0)), (10, (.goto 7, 3, (17, 0, 0), 0, 0)), (13, (.astore 4, 2, (0, 0, 0), 0, 0)), (15, (.iconst 1, 1, (0, 0, 0), 1, 0)), (16, (.ireturn, 1, (0, 0, 0), 0, 0)), (17, (.iconst 0, 1, (0, 0, 0), 0, 0)), (18, (.ireturn, 1, (0, 0, 0), 0, 0))]]
set_option maxRecDepth 10000 in
def zp19 : List (List (Nat × ZI)) := [[(0, (.aload_n 3, 1, (0, 0, 0), 0, 0)), (1, (.iconst 0, 1, (0, 0, 0), 0, 0)), (2, (.aload_n 0, 1, (0, 0, 0), 0, 0)), (3, (.iload_n 1, 1, (0, 0, 0), 0, 0)), (4, (.iload_n 2, 1, (0, 0, 0), 0, 0)), (5, (.invokevirtual 76, 3, (0, 60, 0), 0, 1360)), (8, (.i2l, 1, (0, 0, 0), 0, 0)), (9, (.lastore, 1, (0, 0, 0), 0, 0)), (10, (.goto 7, 3, (17, 0, 0), 0, 0)), (13, (.astore 4, 2, (0, 0, 0), 0, 0)), (15, (.iconst 1, 1, (0, 0, 0), 1, 0)), (16, (.ireturn, 1, (0, 0, 0), 0, 0)), (17, (.iconst 0, 1, (0, 0, 0), 0, 0)), (18, (.ireturn, 1, (0, 0, 0), 0, 0))]]
set_option maxRecDepth 10000 in
def zp20 : List (List (Nat × ZI)) := [[(0, (.aload_n 3, 1, (0, 0, 0), 0, 0)), (1, (.iconst 0, 1, (0, 0, 0), 0, 0)), (2, (.aload_n 0, 1, (0, 0, 0), 0, 0)), (3, (.iload_n 1, 1, (0, 0, 0), 0, 0)), (4, (.iload_n 2, 1, (0, 0, 0), 0, 0)), (5, (.invokevirtual 79, 3, (0, 61, 0), 0, 1379)), (8, (.i2l, 1, (0, 0, 0), 0, 0)), (9, (.lastore, 1, (0, 0, 0), 0, 0)), (10, (.goto 7, 3, (17, 0, 0), 0, 0)), (13, (.astore 4, 2, (0, 0, 0), 0, 0)), (15, (.iconst 1, 1, (0, 0, 0), 1, 0)), (16, (.ireturn, 1, (0, 0, 0), 0, 0)), (17, (.iconst 0, 1, (0, 0, 0), 0, 0)), (18, (.ireturn, 1, (0, 0, 0), 0, 0))]]
set_option maxRecDepth 10000 in
def zp21 : List (List (Nat × ZI)) := [[(0, (.aload_n 3, 1, (0, 0, 0), 0, 0)), (1, (.iconst 0, 1, (0, 0, 0), 0, 0)), (2, (.aload_n 0, 1, (0, 0, 0), 0, 0)), (3, (.iload_n 1, 1, (0, 0, 0), 0, 0)), (4, (.iload_n 2, 1, (0, 0, 0), 0, 0)), (5, (.invokevirtual 83, 3, (0, 62, 0), 0, 1400)), (8, (.i2l, 1, (0, 0, 0), 0, 0)), (9, (.lastore, 1, (0, 0, 0), 0, 0)), (10, (.goto 7, 3, (17, 0, 0), 0, 0)), (13, (.astore 4, 2, (0, 0, 0), 0, 0)), (15, (.iconst 1, 1, (0, 0, 0), 1, 0)), (16, (.ireturn, 1, (0, 0, 0), 0, 0)), (17, (.iconst 0, 1, (0, 0, 0), 0, 0)), (18, (.ireturn, 1, (0, 0, 0), 0, 0))]]
set_option maxRecDepth 10000 in
def zp22 : List (List (Nat × ZI)) := [[(0, (.aload_n 2, 1, (0, 0, 0), 0, 0)), (1, (.iconst 0, 1, (0, 0, 0), 0, 0)), (2, (.aload_n 0, 1, (0, 0, 0), 0, 0)), (3, (.iload_n 1, 1, (0, 0, 0), 0, 0)), (4, (.invokevirtual 86, 3, (0, 63, 0), 0, 1420)), (7, (.i2l, 1, (0, 0, 0), 0, 0)), (8, (.lastore, 1, (0, 0, 0), 0, 0)), (9, (.goto 6, 3, (15, 0, 0), 0, 0)), (12, (.astore_n 3, 1, (0, 0, 0), 0, 0)), (13, (.iconst 1, 1, (0, 0, 0), 1, 0)), (14, (.ireturn, 1, (0, 0, 0), 0, 0)), (15, (.iconst 0, 1, (0, 0, 0), 0, 0)), (16, (.ireturn, 1, (0, 0, 0), 0, 0))]]
set_option maxRecDepth 10000 in
def zp23 : List (List (Nat × ZI)) := [[(0, (.aload_n 2, 1, (0, 0, 0), 0, 0)), (1, (.iconst 0, 1, (0, 0, 0), 0, 0)), (2, (.aload_n 0, 1, (0, 0, 0), 0, 0)), (3, (.iload_n 1, 1, (0, 0, 0), 0, 0)), (4, (.invokevirtual 89, 3, (0, 65, 0), 0, 1432)), (7, (.i2l, 1, (0, 0, 0), 0, 0)), (8, (.lastore, 1, (0, 0, 0), 0, 0)), (9, (.goto 6, 3, (15, 0, 0), 0, 0)), (12, (.astore_n 3, 1, (0, 0, 0), 0, 0)), (13, (.iconst 1, 1, (0, 0, 0), 1, 0)), (14, (.ireturn, 1, (0, 0, 0), 0, 0)), (15, (.iconst 0, 1, (0, 0, 0), 0, 0)), (16, (.ireturn, 1, (0, 0, 0), 0, 0))]]
set_option maxRecDepth 10000 in
def zp24 : List (List (Nat × ZI)) := [[(0, (.aload_n 3, 1, (0, 0, 0), 0, 0)), (1, (.iconst 0, 1, (0, 0, 0), 0, 0)), (2, (.aload_n 0, 1, (0, 0, 0), 0, 0)), (3, (.iload_n 1, 1, (0, 0, 0), 0, 0)), (4, (.iload_n 2, 1, (0, 0, 0), 0, 0)), (5, (.invokevirtual 92, 3, (0, 66, 0), 0, 1443)), (8, (.i2l, 1, (0, 0, 0), 0, 0)), (9, (.lastore, 1, (0, 0, 0), 0, 0)), (10, (.goto 11, 3, (21, 0, 0), 0, 0)), (13, (.astore 4, 2, (0, 0, 0), 0, 0)), (15, (.iconst 1, 1, (0, 0, 0), 1, 0)), (16, (.ireturn, 1, (0, 0, 0), 0, 0)), (17, (.astore 4, 2, (0, 0, 0), 0, 0)), (19, (.iconst 2, 1, (0, 0, 0), 2, 0)), (20, (.ireturn, 1, (0, 0, 0), 0, 0)), (21, (.iconst 0, 1, (0, 0, 0), 0, 0)), (22, (.ireturn, 1, (0, 0, 0), 0, 0))]]
set_option maxRecDepth 10000 in
def zp25 : List (List (Nat × ZI)) := [[(0, (.aload 4, 2, (0, 0, 0), 0, 0)), (2, (.iconst 0, 1, (0, 0, 0), 0, 0)), (3, (.aload_n 0, 1, (0, 0, 0), 0, 0)), (4, (.iload_n 1, 1, (0, 0, 0), 0, 0)), (5, (.iload_n 2, 1, (0, 0, 0), 0, 0)), (6, (.iload_n 3, 1, (0, 0, 0), 0, 0)), (7, (.invokevirtual 95, 3, (0, 67, 0), 0, 1455)), (10, (.i2l, 1, (0, 0, 0), 0, 0)), (11, (.lastore, 1, (0, 0, 0), 0, 0)), (12, (.goto 11, 3, (23, 0, 0), 0, 0)), (15, (.astore 5, 2, (0, 0, 0), 0, 0)), (17, (.iconst 1, 1, (0, 0, 0), 1, 0)), (18, (.ireturn, 1, (0, 0, 0), 0, 0)), (19, (.astore 5, 2, (0, 0, 0), 0, 0)), (21, (.iconst 2, 1, (0, 0, 0), 2, 0)), (22, (.ireturn, 1, (0, 0, 0), 0, 0)), (23, (.iconst 0, 1, (0, 0, 0), 0, 0)), (24, (.ireturn, 1, (0, 0, 0), 0, 0))]]
set_option maxRecDepth 10000 in
def zp26 : List (List (Nat × ZI)) := [[(0, (.aload_n 3, 1, (0, 0, 0), 0, 0)), (1, (.iconst 0, 1, (0, 0, 0), 0, 0)), (2, (.aload_n 0, 1, (0, 0, 0), 0, 0)), (3, (.iload_n 1, 1, (0, 0, 0), 0, 0)), (4, (.iload_n 2, 1, (0, 0, 0), 0, 0)), (5, (.invokevirtual 98, 3, (0, 68, 0), 0, 1468)), (8, (.i2l, 1, (0, 0, 0), 0, 0)), (9, (.lastore, 1, (0, 0, 0), 0, 0)), (10, (.goto 11, 3, (21, 0, 0), 0, 0)), (13, (.astore 4, 2, (0, 0, 0), 0, 0)), (15, (.iconst 1, 1, (0, 0, 0), 1, 0)), (16, (.ireturn, 1, (0, 0, 0), 0, 0)), (17, (.astore 4, 2, (0, 0, 0), 0, 0)), (19, (.iconst 2, 1, (0, 0, 0), 2, 0)), (20, (.ireturn, 1, (0, 0, 0), 0, 0)), (21, (.iconst 0, 1, (0, 0, 0), 0, 0)), (22, (.ireturn, 1, (0, 0, 0), 0, 0))]]
set_option maxRecDepth 10000 in
def zp27 : List (List (Nat × ZI)) := [[(0, (.aload_n 3, 1, (0, 0, 0), 0, 0)), (1, (.iconst 0, 1, (0, 0, 0), 0, 0)), (2, (.aload_n 0, 1, (0, 0, 0), 0, 0)), (3, (.iload_n 1, 1, (0, 0, 0), 0, 0)), (4, (.iload_n 2, 1, (0, 0, 0), 0, 0)), (5, (.invokevirtual 101, 3, (0, 69, 0), 0, 1481)), (8, (.i2l, 1, (0, 0, 0), 0, 0)), (9, (.lastore, 1, (0, 0, 0), 0, 0)), (10, (.goto 7, 3, (17, 0, 0), 0, 0)), (13, (.astore 4, 2, (0, 0, 0), 0, 0)), (15, (.iconst 1, 1, (0, 0, 0), 1, 0)), (16, (.ireturn, 1, (0, 0, 0), 0, 0)), (17, (.iconst 0, 1, (0, 0, 0), 0, 0)), (18, (.ireturn, 1, (0, 0, 0), 0, 0))]]
set_option maxRecDepth 10000 in
def zp28 : List (List (Nat × ZI)) := [[(0, (.aload_n 2, 1, (0, 0, 0), 0, 0)), (1, (.iconst 0, 1, (0, 0, 0), 0, 0)), (2, (.aload_n 0, 1, (0, 0, 0), 0, 0)), (3, (.iload_n 1, 1, (0, 0, 0), 0, 0)), (4, (.invokevirtual 104, 3, (0, 70, 0), 0, 1492)), (7, (.i2l, 1, (0, 0, 0), 0, 0)), (8, (.lastore, 1, (0, 0, 0), 0, 0)), (9, (.goto 6, 3, (15, 0, 0), 0, 0)), (12, (.astore_n 3, 1, (0, 0, 0), 0, 0)), (13, (.iconst 1, 1, (0, 0, 0), 1, 0)), (14, (.ireturn, 1, (0, 0, 0), 0, 0)), (15, (.iconst 0, 1, (0, 0, 0), 0, 0)), (16, (.ireturn, 1, (0, 0, 0), 0, 0))]]
set_option maxRecDepth 10000 in
def zp29 : List (List (Nat × ZI)) := [[(0, (.aload_n 3, 1, (0, 0, 0), 0, 0)), (1, (.iconst 0, 1, (0, 0, 0), 0, 0)), (2, (.aload_n 0, 1, (0, 0, 0), 0, 0)), (3, (.iload_n 1, 1, (0, 0, 0), 0, 0)), (4, (.iload_n 2, 1, (0, 0, 0), 0, 0)), (5, (.invokevirtual 107, 3, (0, 71, 0), 0, 1503)), (8, (.i2l, 1, (0, 0, 0), 0, 0)), (9, (.lastore, 1, (0, 0, 0), 0, 0)), (10, (.goto 7, 3, (17, 0, 0), 0, 0)), (13, (.astore 4, 2, (0, 0, 0), 0, 0)), (15, (.iconst 1, 1, (0, 0, 0), 1, 0)), (16, (.ireturn, 1, (0, 0, 0), 0, 0)), (17, (.iconst 0, 1, (0, 0, 0), 0, 0)), (18, (.ireturn, 1, (0, 0, 0), 0, 0))]]
set_option maxRecDepth 10000 in
def zp30 : List (List (Nat × ZI)) := [[(0, (.aload_n 2, 1, (0, 0, 0), 0, 0)), (1, (.iconst 0, 1, (0, 0, 0), 0, 0)), (2, (.aload_n 0, 1, (0, 0, 0), 0, 0)), (3, (.iload_n 1, 1, (0, 0, 0), 0, 0)), (4, (.invokevirtual 110, 3, (0, 72, 0), 0, 1518)), (7, (.i2l, 1, (0, 0, 0), 0, 0)), (8, (.lastore, 1, (0, 0, 0), 0, 0)), (9, (.goto 6, 3, (15, 0, 0), 0, 0)), (12, (.astore_n 3, 1, (0, 0, 0), 0, 0)), (13, (.iconst 1, 1, (0, 0, 0), 1, 0)), (14, (.ireturn, 1, (0, 0, 0), 0, 0)), (15, (.iconst 0, 1, (0, 0, 0), 0, 0)), (16, (.ireturn, 1, (0, 0, 0), 0, 0))]]
set_option maxRecDepth 10000 in
def zp31 : List (List (Nat × ZI)) := [[(0, (.aload_n 3, 1, (0, 0, 0), 0, 0)), (1, (.iconst 0, 1, (0, 0, 0), 0, 0)), (2, (.aload_n 0, 1, (0, 0, 0), 0, 0)), (3, (.iload_n 1, 1, (0, 0, 0), 0, 0)), (4, (.iload_n 2, 1, (0, 0, 0), 0, 0)), (5, (.invokevirtual 113, 3, (0, 73, 0), 0, 1525)), (8, (.i2l, 1, (0, 0, 0), 0, 0)), (9, (.lastore, 1, (0, 0, 0), 0, 0)), (10, (.goto 7, 3, (17, 0, 0), 0, 0)), (13, (.astore 4, 2, (0, 0, 0), 0, 0)), (15, (.iconst 1, 1, (0, 0, 0), 1, 0)), (16, (.ireturn, 1, (0, 0, 0), 0, 0)), (17, (.iconst 0, 1, (0, 0, 0), 0, 0)), (18, (.ireturn, 1, (0, 0, 0), 0, 0))]]
set_option maxRecDepth 10000 in
def zp32 : List (List (Nat × ZI)) := [[(0, (.aload_n 2, 1, (0, 0, 0), 0, 0)), (1, (.iconst 0, 1, (0, 0, 0), 0, 0)), (2, (.aload_n 0, 1, (0, 0, 0), 0, 0)), (3, (.iload_n 1, 1, (0, 0, 0), 0, 0)), (4, (.invokevirtual 116, 3, (0, 75, 0), 0, 1533)), (7, (.i2l, 1, (0, 0, 0), 0, 0)), (8, (.lastore, 1, (0, 0, 0), 0, 0)), (9, (.goto 6, 3, (15, 0, 0), 0, 0)), (12, (.astore_n 3, 1, (0, 0, 0), 0, 0)), (13, (.iconst 1, 1, (0, 0, 0), 1, 0)), (14, (.ireturn, 1, (0, 0, 0), 0, 0)), (15, (.iconst 0, 1, (0, 0, 0), 0, 0)), (16, (.ireturn, 1, (0, 0, 0), 0, 0))]]
set_option maxRecDepth 10000 in
def zp33 : List (List (Nat × ZI)) := [[(0, (.aload_n 3, 1, (0, 0, 0), 0, 0)), (1, (.iconst 0, 1, (0, 0, 0), 0, 0)), (2, (.aload_n 0, 1, (0, 0, 0), 0, 0)), (3, (.iload_n 1, 1, (0, 0, 0), 0, 0)), (4, (.iload_n 2, 1, (0, 0, 0), 0, 0)), (5, (.invokevirtual 119, 3, (0, 76, 0), 0, 1544)), (8, (.i2l, 1, (0, 0, 0), 0, 0)), (9, (.lastore, 1, (0, 0, 0), 0, 0)), (10, (.goto 7, 3, (17, 0, 0), 0, 0)), (13, (.astore 4, 2, (0, 0, 0), 0, 0)), (15, (.iconst 1, 1, (0, 0, 0), 1, 0)), (16, (.ireturn, 1, (0, 0, 0), 0, 0)), (17, (.iconst 0, 1, (0, 0, 0), 0, 0)), (18, (.ireturn, 1, (0, 0, 0), 0, 0))]]
set_option maxRecDepth 10000 in
def zp34 : List (List (Nat × ZI)) := [[(0, (.aload_n 3, 1, (0, 0, 0), 0, 0)), (1, (.iconst 0, 1, (0, 0, 0), 0, 0)), (2, (.aload_n 0, 1, (0, 0, 0), 0, 0)), (3, (.iload_n 1, 1, (0, 0, 0), 0, 0)), (4, (.iload_n 2, 1, (0, 0, 0), 0, 0)), (5, (.invokevirtual 122, 3, (0, 77, 0), 0, 1555)), (8, (.i2l, 1, (0, 0, 0), 0, 0)), (9, (.lastore, 1, (0, 0, 0), 0, 0)), (10, (.goto 11, 3, (21, 0, 0), 0, 0)), (13, (.astore 4, 2, (0, 0, 0), 0, 0)), (15, (.iconst 1, 1, (0, 0, 0), 1, 0)), (16, (.ireturn, 1, (0, 0, 0), 0, 0)), (17, (.astore 4, 2, (0, 0, 0), 0, 0)), (19, (.iconst 2, 1, (0, 0, 0), 2, 0)), (20, (.ireturn, 1, (0, 0, 0), 0, 0)), (21, (.iconst 0, 1, (0, 0, 0), 0, 0)), (22, (.ireturn, 1, (0, 0, 0), 0, 0))]]
set_option maxRecDepth 10000 in
def zp35 : List (List (Nat × ZI)) := [[(0, (.aload_n 1, 1, (0, 0, 0), 0, 0)), (1, (.iconst 0, 1, (0, 0, 0), 0, 0)), (2, (.aload_n 0, 1, (0, 0, 0), 0, 0)), (3, (.invokevirtual 125, 3, (0, 78, 0), 0, 1567)), (6, (.i2l, 1, (0, 0, 0), 0, 0)), (7, (.lastore, 1, (0, 0, 0), 0, 0)), (8, (.goto 6, 3, (14, 0, 0), 0, 0)), (11, (.astore_n 2, 1, (0, 0, 0), 0, 0)), (12, (.iconst 1, 1, (0, 0, 0), 1, 0)), (13, (.ireturn, 1, (0, 0, 0), 0, 0)), (14, (.iconst 0, 1, (0, 0, 0), 0, 0)), (15, (.ireturn, 1, (0, 0, 0), 0, 0))]]
set_option maxRecDepth 10000 in
def zp36 : List (List (Nat × ZI)) := [[(0, (.aload_n 3, 1, (0, 0, 0), 0, 0)), (1, (.iconst 0, 1, (0, 0, 0), 0, 0)), (2, (.aload_n 0, 1, (0, 0, 0), 0, 0)), (3, (.iload_n 1, 1, (0, 0, 0), 0, 0)), (4, (.iload_n 2, 1, (0, 0, 0), 0, 0)), (5, (.invokevirtual 128, 3, (0, 80, 0), 0, 1590)), (8, (.i2l, 1, (0, 0, 0), 0, 0)), (9, (.lastore, 1, (0, 0, 0), 0, 0)), (10, (.goto 7, 3, (17, 0, 0), 0, 0)), (13, (.astore 4, 2, (0, 0, 0), 0, 0)), (15, (.iconst 1, 1, (0, 0, 0), 1, 0)), (16, (.ireturn, 1, (0, 0, 0), 0, 0)), (17, (.iconst 0, 1, (0, 0, 0), 0, 0)), (18, (.ireturn, 1, (0, 0, 0), 0, 0))]]
set_option maxRecDepth 10000 in
def zp37 : List (List (Nat × ZI)) := [[(0, (.aload_n 3, 1, (0, 0, 0), 0, 0)), (1, (.iconst 0, 1, (0, 0, 0), 0, 0)), (2, (.aload_n 0, 1, (0, 0, 0), 0, 0)), (3, (.iload_n 1, 1, (0, 0, 0), 0, 0)), (4, (.iload_n 2, 1, (0, 0, 0), 0, 0)), (5, (.invokevirtual 131, 3, (0, 81, 0), 0, 1599)), (8, (.i2l, 1, (0, 0, 0), 0, 0)), (9, (.lastore, 1, (0, 0, 0), 0, 0)), (10, (.goto 11, 3, (21, 0, 0), 0, 0)), (13, (.astore 4, 2, (0, 0, 0), 0, 0)), (15, (.iconst 1, 1, (0, 0, 0), 1, 0)), (16, (.ireturn, 1, (0, 0, 0), 0, 0)), (17, (.astore 4, 2, (0, 0, 0), 0, 0)), (19, (.iconst 2, 1, (0, 0, 0), 2, 0)), (20, (.ireturn, 1, (0, 0, 0), 0, 0)), (21, (.iconst 0, 1, (0, 0, 0), 0, 0)), (22, (.ireturn, 1, (0, 0, 0), 0, 0))]]
set_option maxRecDepth 10000 in
def zp38 : List (List (Nat × ZI)) := [[(0, (.aload_n 0, 1, (0, 0, 0), 0, 0)), (1, (.invokespecial 1, 3, (1, 0, 0), 0, 216)), (4, (.aload_n 0, 1, (0, 0, 0), 0, 0)), (5, (.new 7, 3, (0, 9, 0), 0, 219)), (8, (.dup, 1, (0, 0, 0), 0, 0)), (9, (.invokespecial 9, 3, (0, 178, 1), 0, 221)), (12, (.putfield 10, 3, (11, 0, 0), 0, 575)), (15, (.aload_n 0, 1, (0, 0, 0), 0, 0)), (16, (.new 16, 3, (0, 2, 0), 0, 252)), (19, (.dup, 1, (0, 0, 0), 0, 0)), (20, (.invokespecial 18, 3, (0, 113, 1), 0, 254)), (23, (.putfield 19, 3, (11, 1, 0), 0, 576)), (26, (.aload_n 0, 1, (0, 0, 0), 0, 0)), (27, (.new 23, 3, (0, 0, 0), 0, 363)), (30, (.dup, 1, (0, 0, 0), 0, 0)), (31, (.invokespecial 25, 3, (0, 90, 1), 0, 365))],
  [(34, (.putfield 26, 3, (11, 2, 0), 0, 577)), (37, (.aload_n 0, 1, (0, 0, 0), 0, 0)), (38, (.new 30, 3, (0, 1, 0), 0, 441)), (41, (.dup, 1, (0, 0, 0), 0, 0)), (42, (.invokespecial 32, 3, (0, 107, 1), 0, 443)), (45, (.putfield 33, 3, (11, 3, 0), 0, 578)), (48, (.aload_n 0, 1, (0, 0, 0), 0, 0)), (49, (.new 37, 3, (0, 7, 0), 0, 458)), (52, (.dup, 1, (0, 0, 0), 0, 0)), (53, (.invokespecial 39, 3, (0, 165, 1), 0, 460)), (56, (.putfield 40, 3, (11, 4, 0), 0, 579)), (59, (.aload_n 0, 1, (0, 0, 0), 0, 0)), (60, (.new 44, 3, (0, 4, 0), 0, 482)), (63, (.dup, 1, (0, 0, 0), 0, 0))],
  [(64, (.invokespecial 46, 3, (0, 144, 1), 0, 484)), (67, (.putfield 47, 3, (11, 5, 0), 0, 580)), (70, (.aload_n 0, 1, (0, 0, 0), 0, 0)), (71, (.new 51, 3, (0, 10, 0), 0, 513)), (74, (.dup, 1, (0, 0, 0), 0, 0)), (75, (.invokespecial 53, 3, (0, 189, 1), 0, 515)), (78, (.putfield 54, 3, (11, 6, 0), 0, 581)), (81, (.aload_n 0, 1, (0, 0, 0), 0, 0)), (82, (.new 58, 3, (0, 3, 0), 0, 528)), (85, (.dup, 1, (0, 0, 0), 0, 0)), (86, (.invokespecial 60, 3, (0, 128, 1), 0, 530)), (89, (.putfield 61, 3, (11, 7, 0), 0, 582)), (92, (.aload_n 0, 1, (0, 0, 0), 0, 0)), (93, (.new 65, 3, (0, 6, 0), 0, 559))],
  [(96, (.dup, 1, (0, 0, 0), 0, 0)), (97, (.invokespecial 67, 3, (0, 156, 1), 0, 561)), (100, (.putfield 68, 3, (11, 8, 0), 0, 583)), (103, (.aload_n 0, 1, (0, 0, 0), 0, 0)), (104, (.iconst (-1), 1, (0, 0, 0), (-1), 0)), (105, (.putfield 72, 3, (11, 9, 0), 0, 584)), (108, (.return_, 1, (0, 0, 0), 0, 0))]]
set_option maxRecDepth 10000 in
def zp39 : List (List (Nat × ZI)) := [[(0, (.aload_n 0, 1, (0, 0, 0), 0, 0)), (1, (.getfield 10, 3, (11, 0, 0), 0, 575)), (4, (.getfield 76, 3, (9, 1, 1), 0, 227)), (7, (.bipush 20, 2, (0, 0, 0), 20, 0)), (9, (.iadd, 1, (0, 0, 0), 0, 0)), (10, (.sipush 400, 3, (0, 0, 0), 400, 0)), (13, (.if_icmp .le 5, 3, (18, 0, 0), 0, 0)), (16, (.iconst (-1), 1, (0, 0, 0), (-1), 0)), (17, (.ireturn, 1, (0, 0, 0), 0, 0)), (18, (.aload_n 0, 1, (0, 0, 0), 0, 0)), (19, (.getfield 10, 3, (11, 0, 0), 0, 575)), (22, (.iload_n 1, 1, (0, 0, 0), 0, 0)), (23, (.invokevirtual 79, 3, (0, 179, 1), 0, 610)), (26, (.aload_n 0, 1, (0, 0, 0), 0, 0)), (27, (.getfield 10, 3, (11, 0, 0), 0, 575)), (30, (.iload_n 2, 1, (0, 0, 0), 0, 0)), (31, (.invokevirtual 79, 3, (0, 179, 1), 0, 610))],
  [(34, (.aload_n 0, 1, (0, 0, 0), 0, 0)), (35, (.getfield 10, 3, (11, 0, 0), 0, 575)), (38, (.iload_n 3, 1, (0, 0, 0), 0, 0)), (39, (.invokevirtual 79, 3, (0, 179, 1), 0, 610)), (42, (.aload_n 0, 1, (0, 0, 0), 0, 0)), (43, (.getfield 10, 3, (11, 0, 0), 0, 575)), (46, (.iload 4, 2, (0, 0, 0), 0, 0)), (48, (.invokevirtual 79, 3, (0, 179, 1), 0, 610)), (51, (.aload_n 0, 1, (0, 0, 0), 0, 0)), (52, (.getfield 10, 3, (11, 0, 0), 0, 575)), (55, (.iload 5, 2, (0, 0, 0), 0, 0)), (57, (.invokevirtual 79, 3, (0, 179, 1), 0, 610)), (60, (.aload_n 0, 1, (0, 0, 0), 0, 0)), (61, (.getfield 10, 3, (11, 0, 0), 0, 575))],
  [(64, (.getfield 76, 3, (9, 1, 1), 0, 227)), (67, (.ireturn, 1, (0, 0, 0), 0, 0))]]
set_option maxRecDepth 10000 in
def zp40 : List (List (Nat × ZI)) := [[(0, (.iload_n 1, 1, (0, 0, 0), 0, 0)), (1, (.ifCond .lt 14, 3, (15, 0, 0), 0, 0)), (4, (.iload_n 1, 1, (0, 0, 0), 0, 0)), (5, (.aload_n 0, 1, (0, 0, 0), 0, 0)), (6, (.getfield 10, 3, (11, 0, 0), 0, 575)), (9, (.getfield 76, 3, (9, 1, 1), 0, 227)), (12, (.if_icmp .le 5, 3, (17, 0, 0), 0, 0)), (15, (.iconst 0, 1, (0, 0, 0), 0, 0)), (16, (.ireturn, 1, (0, 0, 0), 0, 0)), (17, (.aload_n 0, 1, (0, 0, 0), 0, 0)), (18, (.getfield 10, 3, (11, 0, 0), 0, 575)), (21, (.iload_n 1, 1, (0, 0, 0), 0, 0)), (22, (.putfield 76, 3, (9, 1, 1), 0, 227)), (25, (.iconst 1, 1, (0, 0, 0), 1, 0)), (26, (.ireturn, 1, (0, 0, 0), 0, 0))]]
set_option maxRecDepth 10000 in
def zp41 : List (List (Nat × ZI)) := [[(0, (.aload_n 0, 1, (0, 0, 0), 0, 0)), (1, (.aload_n 0, 1, (0, 0, 0), 0, 0)), (2, (.getfield 61, 3, (11, 7, 0), 0, 582)), (5, (.aload_n 0, 1, (0, 0, 0), 0, 0)), (6, (.getfield 10, 3, (11, 0, 0), 0, 575)), (9, (.aload_n 0, 1, (0, 0, 0), 0, 0)), (10, (.getfield 19, 3, (11, 1, 0), 0, 576)), (13, (.getfield 83, 3, (2, 0, 1), 0, 350)), (16, (.aload_n 0, 1, (0, 0, 0), 0, 0)), (17, (.getfield 26, 3, (11, 2, 0), 0, 577)), (20, (.invokevirtual 87, 3, (0, 129, 1), 0, 814)), (23, (.putfield 72, 3, (11, 9, 0), 0, 584)), (26, (.aload_n 0, 1, (0, 0, 0), 0, 0)), (27, (.getfield 10, 3, (11, 0, 0), 0, 575)), (30, (.iconst 0, 1, (0, 0, 0), 0, 0)), (31, (.putfield 76, 3, (9, 1, 1), 0, 227))],
  [(34, (.aload_n 0, 1, (0, 0, 0), 0, 0)), (35, (.getfield 72, 3, (11, 9, 0), 0, 584)), (38, (.iconst (-1), 1, (0, 0, 0), (-1), 0)), (39, (.if_icmp .eq 13, 3, (52, 0, 0), 0, 0)), (42, (.new 91, 3, (1, 0, 2), 0, 957)), (45, (.dup, 1, (0, 0, 0), 0, 0)), (46, (.ldc 93, 2, (2, 0, 0), 0, 999)), (48, (.invokespecial 95, 3, (9, 0, 0), 0, 1000)), (51, (.athrow, 1, (0, 0, 0), 0, 0)), (52, (.aload_n 0, 1, (0, 0, 0), 0, 0)), (53, (.getfield 19, 3, (11, 1, 0), 0, 576)), (56, (.getfield 83, 3, (2, 0, 1), 0, 350)), (59, (.getfield 98, 3, (8, 3, 1), 0, 278)), (62, (.bipush 12, 2, (0, 0, 0), 12, 0))],
  [(64, (.if_icmp .lt 13, 3, (77, 0, 0), 0, 0)), (67, (.new 103, 3, (1, 1, 3), 0, 1026)), (70, (.dup, 1, (0, 0, 0), 0, 0)), (71, (.ldc 105, 2, (2, 0, 0), 0, 1035)), (73, (.invokespecial 107, 3, (9, 0, 0), 0, 1036)), (76, (.athrow, 1, (0, 0, 0), 0, 0)), (77, (.aload_n 0, 1, (0, 0, 0), 0, 0)), (78, (.getfield 19, 3, (11, 1, 0), 0, 576)), (81, (.getfield 83, 3, (2, 0, 1), 0, 350)), (84, (.aload_n 0, 1, (0, 0, 0), 0, 0)), (85, (.getfield 61, 3, (11, 7, 0), 0, 582)), (88, (.getfield 108, 3, (3, 0, 1), 0, 539)), (91, (.invokevirtual 109, 3, (0, 170, 1), 0, 1042)), (94, (.aload_n 0, 1, (0, 0, 0), 0, 0)), (95, (.getfield 26, 3, (11, 2, 0), 0, 577))],
  [(98, (.aload_n 0, 1, (0, 0, 0), 0, 0)), (99, (.getfield 61, 3, (11, 7, 0), 0, 582)), (102, (.getfield 113, 3, (3, 1, 1), 0, 541)), (105, (.invokevirtual 114, 3, (0, 91, 1), 0, 1043)), (108, (.aload_n 0, 1, (0, 0, 0), 0, 0)), (109, (.getfield 19, 3, (11, 1, 0), 0, 576)), (112, (.getfield 83, 3, (2, 0, 1), 0, 350)), (115, (.dup, 1, (0, 0, 0), 0, 0)), (116, (.getfield 98, 3, (8, 3, 1), 0, 278)), (119, (.iconst 1, 1, (0, 0, 0), 1, 0)), (120, (.iadd, 1, (0, 0, 0), 0, 0)), (121, (.putfield 98, 3, (8, 3, 1), 0, 278)), (124, (.aload_n 0, 1, (0, 0, 0), 0, 0)), (125, (.getfield 40, 3, (11, 4, 0), 0, 579))],
  [(128, (.invokevirtual 117, 3, (0, 166, 1), 0, 788)), (131, (.aload_n 0, 1, (0, 0, 0), 0, 0)), (132, (.getfield 19, 3, (11, 1, 0), 0, 576)), (135, (.getfield 83, 3, (2, 0, 1), 0, 350)), (138, (.getfield 98, 3, (8, 3, 1), 0, 278)), (141, (.ireturn, 1, (0, 0, 0), 0, 0))]]
set_option maxRecDepth 10000 in
def zp42 : List (List (Nat × ZI)) := [[(0, (.aload_n 0, 1, (0, 0, 0), 0, 0)), (1, (.aload_n 0, 1, (0, 0, 0), 0, 0)), (2, (.getfield 68, 3, (11, 8, 0), 0, 583)), (5, (.aload_n 0, 1, (0, 0, 0), 0, 0)), (6, (.getfield 10, 3, (11, 0, 0), 0, 575)), (9, (.invokevirtual 120, 3, (0, 157, 1), 0, 1051)), (12, (.putfield 72, 3, (11, 9, 0), 0, 584)), (15, (.aload_n 0, 1, (0, 0, 0), 0, 0)), (16, (.getfield 10, 3, (11, 0, 0), 0, 575)), (19, (.iconst 0, 1, (0, 0, 0), 0, 0)), (20, (.putfield 76, 3, (9, 1, 1), 0, 227)), (23, (.aload_n 0, 1, (0, 0, 0), 0, 0)), (24, (.getfield 72, 3, (11, 9, 0), 0, 584)), (27, (.iconst (-1), 1, (0, 0, 0), (-1), 0)), (28, (.if_icmp .eq 13, 3, (41, 0, 0), 0, 0)), (31, (.new 91, 3, (1, 0, 12), 0, 957))],
  [(34, (.dup, 1, (0, 0, 0), 0, 0)), (35, (.ldc 123, 2, (2, 0, 0), 0, 1117)), (37, (.invokespecial 95, 3, (9, 0, 0), 0, 1000)), (40, (.athrow, 1, (0, 0, 0), 0, 0)), (41, (.aload_n 0, 1, (0, 0, 0), 0, 0)), (42, (.getfield 19, 3, (11, 1, 0), 0, 576)), (45, (.getfield 125, 3, (2, 1, 1), 0, 354)), (48, (.aload_n 0, 1, (0, 0, 0), 0, 0)), (49, (.getfield 68, 3, (11, 8, 0), 0, 583)), (52, (.getfield 129, 3, (6, 0, 1), 0, 568)), (55, (.invokevirtual 130, 3, (0, 148, 1), 0, 1118)), (58, (.aload_n 0, 1, (0, 0, 0), 0, 0)), (59, (.getfield 40, 3, (11, 4, 0), 0, 579)), (62, (.invokevirtual 117, 3, (0, 166, 1), 0, 788))],
  [(65, (.aload_n 0, 1, (0, 0, 0), 0, 0)), (66, (.getfield 19, 3, (11, 1, 0), 0, 576)), (69, (.getfield 125, 3, (2, 1, 1), 0, 354)), (72, (.getfield 135, 3, (5, 0, 1), 0, 322)), (75, (.ireturn, 1, (0, 0, 0), 0, 0))]]
set_option maxRecDepth 10000 in
def zp43 : List (List (Nat × ZI)) := [[(0, (.aload_n 0, 1, (0, 0, 0), 0, 0)), (1, (.getfield 72, 3, (11, 9, 0), 0, 584)), (4, (.ireturn, 1, (0, 0, 0), 0, 0))]]
set_option maxRecDepth 10000 in
def zp44 : List (List (Nat × ZI)) := [[(0, (.aload_n 0, 1, (0, 0, 0), 0, 0)), (1, (.iload_n 1, 1, (0, 0, 0), 0, 0)), (2, (.invokevirtual 138, 3, (0, 87, 0), 0, 1128)), (5, (.iload_n 2, 1, (0, 0, 0), 0, 0)), (6, (.tableswitch 126 0 6 #[42, 55, 68, 78, 87, 100, 113], 42, (1, 0, 0), 0, 0))],
  [(48, (.aload_n 0, 1, (0, 0, 0), 0, 0)), (49, (.getfield 19, 3, (11, 1, 0), 0, 576)), (52, (.getfield 83, 3, (2, 0, 1), 0, 350)), (55, (.getfield 141, 3, (8, 4, 1), 0, 281)), (58, (.iload_n 1, 1, (0, 0, 0), 0, 0)), (59, (.iaload, 1, (0, 0, 0), 0, 0)), (60, (.ireturn, 1, (0, 0, 0), 0, 0)), (61, (.aload_n 0, 1, (0, 0, 0), 0, 0)), (62, (.getfield 19, 3, (11, 1, 0), 0, 576))],
  [(65, (.getfield 83, 3, (2, 0, 1), 0, 350)), (68, (.getfield 145, 3, (8, 5, 1), 0, 285)), (71, (.iload_n 1, 1, (0, 0, 0), 0, 0)), (72, (.iaload, 1, (0, 0, 0), 0, 0)), (73, (.ireturn, 1, (0, 0, 0), 0, 0)), (74, (.aload_n 0, 1, (0, 0, 0), 0, 0)), (75, (.getfield 26, 3, (11, 2, 0), 0, 577)), (78, (.getfield 148, 3, (0, 0, 1), 0, 372)), (81, (.iload_n 1, 1, (0, 0, 0), 0, 0)), (82, (.iaload, 1, (0, 0, 0), 0, 0)), (83, (.ireturn, 1, (0, 0, 0), 0, 0)), (84, (.aload_n 0, 1, (0, 0, 0), 0, 0)), (85, (.getfield 26, 3, (11, 2, 0), 0, 577)), (88, (.iload_n 1, 1, (0, 0, 0), 0, 0)), (89, (.invokevirtual 151, 3, (0, 92, 1), 0, 1148)), (92, (.ireturn, 1, (0, 0, 0), 0, 0)), (93, (.aload_n 0, 1, (0, 0, 0), 0, 0)), (94, (.getfield 19, 3, (11, 1, 0), 0, 576))],
  [(97, (.aload_n 0, 1, (0, 0, 0), 0, 0)), (98, (.getfield 26, 3, (11, 2, 0), 0, 577)), (101, (.iload_n 1, 1, (0, 0, 0), 0, 0)), (102, (.invokevirtual 155, 3, (0, 125, 1), 0, 1149)), (105, (.ireturn, 1, (0, 0, 0), 0, 0)), (106, (.aload_n 0, 1, (0, 0, 0), 0, 0)), (107, (.getfield 19, 3, (11, 1, 0), 0, 576)), (110, (.getfield 83, 3, (2, 0, 1), 0, 350)), (113, (.getfield 159, 3, (8, 6, 1), 0, 288)), (116, (.iload_n 1, 1, (0, 0, 0), 0, 0)), (117, (.iaload, 1, (0, 0, 0), 0, 0)), (118, (.ireturn, 1, (0, 0, 0), 0, 0)), (119, (.aload_n 0, 1, (0, 0, 0), 0, 0)), (120, (.getfield 19, 3, (11, 1, 0), 0, 576)), (123, (.aload_n 0, 1, (0, 0, 0), 0, 0)), (124, (.getfield 26, 3, (11, 2, 0), 0, 577)), (127, (.iload_n 1, 1, (0, 0, 0), 0, 0))],
  [(128, (.invokevirtual 162, 3, (0, 116, 1), 0, 1163)), (131, (.ireturn, 1, (0, 0, 0), 0, 0)), (132, (.new 165, 3, (1, 3, 14), 0, 1167)), (135, (.dup, 1, (0, 0, 0), 0, 0)), (136, (.ldc 167, 2, (2, 0, 0), 0, 1176)), (138, (.invokespecial 169, 3, (9, 0, 0), 0, 1177)), (141, (.athrow, 1, (0, 0, 0), 0, 0))]]
set_option maxRecDepth 10000 in
def zp45 : List (List (Nat × ZI)) := [[(0, (.aload_n 0, 1, (0, 0, 0), 0, 0)), (1, (.iload_n 1, 1, (0, 0, 0), 0, 0)), (2, (.invokevirtual 138, 3, (0, 87, 0), 0, 1128)), (5, (.aload_n 0, 1, (0, 0, 0), 0, 0)), (6, (.iload_n 2, 1, (0, 0, 0), 0, 0)), (7, (.invokevirtual 170, 3, (0, 88, 0), 0, 1190)), (10, (.aload_n 0, 1, (0, 0, 0), 0, 0)), (11, (.getfield 26, 3, (11, 2, 0), 0, 577)), (14, (.getfield 173, 3, (0, 4, 1), 0, 388)), (17, (.iload_n 1, 1, (0, 0, 0), 0, 0)), (18, (.bipush 8, 2, (0, 0, 0), 8, 0)), (20, (.imul, 1, (0, 0, 0), 0, 0)), (21, (.iload_n 2, 1, (0, 0, 0), 0, 0)), (22, (.iadd, 1, (0, 0, 0), 0, 0)), (23, (.iaload, 1, (0, 0, 0), 0, 0)), (24, (.ireturn, 1, (0, 0, 0), 0, 0))]]
set_option maxRecDepth 10000 in
def zp46 : List (List (Nat × ZI)) := [[(0, (.aload_n 0, 1, (0, 0, 0), 0, 0)), (1, (.iload_n 1, 1, (0, 0, 0), 0, 0)), (2, (.invokevirtual 170, 3, (0, 88, 0), 0, 1190)), (5, (.iload_n 2, 1, (0, 0, 0), 0, 0)), (6, (.tableswitch 127 0 6 #[42, 63, 72, 82, 92, 105, 115], 42, (2, 0, 0), 0, 0))],
  [(48, (.aload_n 0, 1, (0, 0, 0), 0, 0)), (49, (.getfield 19, 3, (11, 1, 0), 0, 576)), (52, (.getfield 83, 3, (2, 0, 1), 0, 350)), (55, (.iload_n 1, 1, (0, 0, 0), 0, 0)), (56, (.aload_n 0, 1, (0, 0, 0), 0, 0)), (57, (.getfield 26, 3, (11, 2, 0), 0, 577)), (60, (.getfield 176, 3, (0, 1, 1), 0, 376)), (63, (.iload_n 1, 1, (0, 0, 0), 0, 0))],
  [(64, (.iaload, 1, (0, 0, 0), 0, 0)), (65, (.invokevirtual 179, 3, (0, 173, 1), 0, 1202)), (68, (.ireturn, 1, (0, 0, 0), 0, 0)), (69, (.aload_n 0, 1, (0, 0, 0), 0, 0)), (70, (.getfield 26, 3, (11, 2, 0), 0, 577)), (73, (.iload_n 1, 1, (0, 0, 0), 0, 0)), (74, (.invokevirtual 183, 3, (0, 93, 1), 0, 1203)), (77, (.ireturn, 1, (0, 0, 0), 0, 0)), (78, (.aload_n 0, 1, (0, 0, 0), 0, 0)), (79, (.getfield 26, 3, (11, 2, 0), 0, 577)), (82, (.getfield 186, 3, (0, 2, 1), 0, 381)), (85, (.iload_n 1, 1, (0, 0, 0), 0, 0)), (86, (.iaload, 1, (0, 0, 0), 0, 0)), (87, (.ireturn, 1, (0, 0, 0), 0, 0)), (88, (.aload_n 0, 1, (0, 0, 0), 0, 0)), (89, (.getfield 26, 3, (11, 2, 0), 0, 577)), (92, (.getfield 189, 3, (0, 3, 1), 0, 385)), (95, (.iload_n 1, 1, (0, 0, 0), 0, 0))],
  [(96, (.iaload, 1, (0, 0, 0), 0, 0)), (97, (.ireturn, 1, (0, 0, 0), 0, 0)), (98, (.aload_n 0, 1, (0, 0, 0), 0, 0)), (99, (.getfield 19, 3, (11, 1, 0), 0, 576)), (102, (.getfield 83, 3, (2, 0, 1), 0, 350)), (105, (.getfield 192, 3, (8, 7, 1), 0, 292)), (108, (.iload_n 1, 1, (0, 0, 0), 0, 0)), (109, (.iaload, 1, (0, 0, 0), 0, 0)), (110, (.ireturn, 1, (0, 0, 0), 0, 0)), (111, (.aload_n 0, 1, (0, 0, 0), 0, 0)), (112, (.getfield 26, 3, (11, 2, 0), 0, 577)), (115, (.getfield 176, 3, (0, 1, 1), 0, 376)), (118, (.iload_n 1, 1, (0, 0, 0), 0, 0)), (119, (.iaload, 1, (0, 0, 0), 0, 0)), (120, (.ireturn, 1, (0, 0, 0), 0, 0)), (121, (.aload_n 0, 1, (0, 0, 0), 0, 0)), (122, (.getfield 19, 3, (11, 1, 0), 0, 576)), (125, (.getfield 83, 3, (2, 0, 1), 0, 350))],
  [(128, (.iload_n 1, 1, (0, 0, 0), 0, 0)), (129, (.invokevirtual 195, 3, (0, 175, 1), 0, 1204)), (132, (.ireturn, 1, (0, 0, 0), 0, 0)), (133, (.new 165, 3, (1, 3, 16), 0, 1167)), (136, (.dup, 1, (0, 0, 0), 0, 0)), (137, (.ldc 198, 2, (2, 0, 0), 0, 1208)), (139, (.invokespecial 169, 3, (9, 0, 0), 0, 1177)), (142, (.athrow, 1, (0, 0, 0), 0, 0))]]
set_option maxRecDepth 10000 in
def zp47 : List (List (Nat × ZI)) := [[(0, (.aload_n 0, 1, (0, 0, 0), 0, 0)), (1, (.iload_n 1, 1, (0, 0, 0), 0, 0)), (2, (.invokevirtual 170, 3, (0, 88, 0), 0, 1190)), (5, (.aload_n 0, 1, (0, 0, 0), 0, 0)), (6, (.iload_n 2, 1, (0, 0, 0), 0, 0)), (7, (.invokevirtual 170, 3, (0, 88, 0), 0, 1190)), (10, (.aload_n 0, 1, (0, 0, 0), 0, 0)), (11, (.getfield 26, 3, (11, 2, 0), 0, 577)), (14, (.getfield 200, 3, (0, 5, 1), 0, 391)), (17, (.iload_n 1, 1, (0, 0, 0), 0, 0)), (18, (.bipush 8, 2, (0, 0, 0), 8, 0)), (20, (.imul, 1, (0, 0, 0), 0, 0)), (21, (.iload_n 2, 1, (0, 0, 0), 0, 0)), (22, (.iadd, 1, (0, 0, 0), 0, 0)), (23, (.iaload, 1, (0, 0, 0), 0, 0)), (24, (.ireturn, 1, (0, 0, 0), 0, 0))]]
set_option maxRecDepth 10000 in
def zp48 : List (List (Nat × ZI)) := [[(0, (.aload_n 0, 1, (0, 0, 0), 0, 0)), (1, (.iload_n 1, 1, (0, 0, 0), 0, 0)), (2, (.invokevirtual 170, 3, (0, 88, 0), 0, 1190)), (5, (.aload_n 0, 1, (0, 0, 0), 0, 0)), (6, (.getfield 19, 3, (11, 1, 0), 0, 576)), (9, (.getfield 83, 3, (2, 0, 1), 0, 350)), (12, (.iload_n 1, 1, (0, 0, 0), 0, 0)), (13, (.iload_n 2, 1, (0, 0, 0), 0, 0)), (14, (.invokevirtual 179, 3, (0, 173, 1), 0, 1202)), (17, (.ireturn, 1, (0, 0, 0), 0, 0))]]
set_option maxRecDepth 10000 in
def zp49 : List (List (Nat × ZI)) := [[(0, (.aload_n 0, 1, (0, 0, 0), 0, 0)), (1, (.iload_n 1, 1, (0, 0, 0), 0, 0)), (2, (.invokevirtual 170, 3, (0, 88, 0), 0, 1190)), (5, (.aload_n 0, 1, (0, 0, 0), 0, 0)), (6, (.iload_n 2, 1, (0, 0, 0), 0, 0)), (7, (.invokevirtual 138, 3, (0, 87, 0), 0, 1128)), (10, (.iload_n 3, 1, (0, 0, 0), 0, 0)), (11, (.ifCond .lt 8, 3, (19, 0, 0), 0, 0)), (14, (.iload_n 3, 1, (0, 0, 0), 0, 0)), (15, (.iconst 2, 1, (0, 0, 0), 2, 0)), (16, (.if_icmp .le 13, 3, (29, 0, 0), 0, 0)), (19, (.new 165, 3, (1, 3, 17), 0, 1167)), (22, (.dup, 1, (0, 0, 0), 0, 0)), (23, (.ldc 203, 2, (2, 0, 0), 0, 1230)), (25, (.invokespecial 169, 3, (9, 0, 0), 0, 1177)), (28, (.athrow, 1, (0, 0, 0), 0, 0)), (29, (.aload_n 0, 1, (0, 0, 0), 0, 0)), (30, (.getfield 19, 3, (11, 1, 0), 0, 576))],
  [(33, (.aload_n 0, 1, (0, 0, 0), 0, 0)), (34, (.getfield 26, 3, (11, 2, 0), 0, 577)), (37, (.iload_n 1, 1, (0, 0, 0), 0, 0)), (38, (.iload_n 2, 1, (0, 0, 0), 0, 0)), (39, (.iload_n 3, 1, (0, 0, 0), 0, 0)), (40, (.invokevirtual 205, 3, (0, 115, 1), 0, 1231)), (43, (.ireturn, 1, (0, 0, 0), 0, 0))]]
set_option maxRecDepth 10000 in
def zp50 : List (List (Nat × ZI)) := [[(0, (.iload_n 1, 1, (0, 0, 0), 0, 0)), (1, (.iconst 1, 1, (0, 0, 0), 1, 0)), (2, (.bipush 100, 2, (0, 0, 0), 100, 0)), (4, (.invokestatic 209, 3, (0, 89, 0), 0, 1242)), (7, (.aload_n 0, 1, (0, 0, 0), 0, 0)), (8, (.getfield 40, 3, (11, 4, 0), 0, 579)), (11, (.aload_n 0, 1, (0, 0, 0), 0, 0)), (12, (.getfield 26, 3, (11, 2, 0), 0, 577)), (15, (.aload_n 0, 1, (0, 0, 0), 0, 0)), (16, (.getfield 33, 3, (11, 3, 0), 0, 578)), (19, (.invokevirtual 213, 3, (0, 167, 1), 0, 1246)), (22, (.iconst 0, 1, (0, 0, 0), 0, 0)), (23, (.istore_n 2, 1, (0, 0, 0), 0, 0)), (24, (.iconst 0, 1, (0, 0, 0), 0, 0)), (25, (.istore_n 3, 1, (0, 0, 0), 0, 0)), (26, (.iload_n 3, 1, (0, 0, 0), 0, 0)), (27, (.iload_n 1, 1, (0, 0, 0), 0, 0)), (28, (.if_icmp .ge 27, 3, (55, 0, 0), 0, 0)), (31, (.iload_n 2, 1, (0, 0, 0), 0, 0))],
  [(32, (.aload_n 0, 1, (0, 0, 0), 0, 0)), (33, (.getfield 19, 3, (11, 1, 0), 0, 576)), (36, (.aload_n 0, 1, (0, 0, 0), 0, 0)), (37, (.getfield 26, 3, (11, 2, 0), 0, 577)), (40, (.aload_n 0, 1, (0, 0, 0), 0, 0)), (41, (.getfield 33, 3, (11, 3, 0), 0, 578)), (44, (.invokevirtual 217, 3, (0, 117, 1), 0, 1253)), (47, (.iadd, 1, (0, 0, 0), 0, 0)), (48, (.istore_n 2, 1, (0, 0, 0), 0, 0)), (49, (.iinc 3 1, 3, (0, 0, 0), 1, 0)), (52, (.goto (-26), 3, (26, 0, 0), 0, 0)), (55, (.iload_n 2, 1, (0, 0, 0), 0, 0)), (56, (.ireturn, 1, (0, 0, 0), 0, 0))]]
set_option maxRecDepth 10000 in
def zp51 : List (List (Nat × ZI)) := [[(0, (.aload_n 0, 1, (0, 0, 0), 0, 0)), (1, (.iload_n 1, 1, (0, 0, 0), 0, 0)), (2, (.invokevirtual 138, 3, (0, 87, 0), 0, 1128)), (5, (.aload_n 0, 1, (0, 0, 0), 0, 0)), (6, (.getfield 40, 3, (11, 4, 0), 0, 579)), (9, (.aload_n 0, 1, (0, 0, 0), 0, 0)), (10, (.getfield 26, 3, (11, 2, 0), 0, 577)), (13, (.aload_n 0, 1, (0, 0, 0), 0, 0)), (14, (.getfield 33, 3, (11, 3, 0), 0, 578)), (17, (.invokevirtual 213, 3, (0, 167, 1), 0, 1246)), (20, (.aload_n 0, 1, (0, 0, 0), 0, 0)), (21, (.getfield 26, 3, (11, 2, 0), 0, 577)), (24, (.dup, 1, (0, 0, 0), 0, 0)), (25, (.getfield 221, 3, (0, 11, 1), 0, 410)), (28, (.aload_n 0, 1, (0, 0, 0), 0, 0)), (29, (.getfield 19, 3, (11, 1, 0), 0, 576))],
  [(32, (.getfield 83, 3, (2, 0, 1), 0, 350)), (35, (.getfield 145, 3, (8, 5, 1), 0, 285)), (38, (.iload_n 1, 1, (0, 0, 0), 0, 0)), (39, (.iaload, 1, (0, 0, 0), 0, 0)), (40, (.iadd, 1, (0, 0, 0), 0, 0)), (41, (.putfield 221, 3, (0, 11, 1), 0, 410)), (44, (.aload_n 0, 1, (0, 0, 0), 0, 0)), (45, (.getfield 19, 3, (11, 1, 0), 0, 576)), (48, (.aload_n 0, 1, (0, 0, 0), 0, 0)), (49, (.getfield 26, 3, (11, 2, 0), 0, 577)), (52, (.iload_n 1, 1, (0, 0, 0), 0, 0)), (53, (.invokevirtual 224, 3, (0, 119, 1), 0, 1261)), (56, (.ireturn, 1, (0, 0, 0), 0, 0))]]
set_option maxRecDepth 10000 in
def zp52 : List (List (Nat × ZI)) := [[(0, (.aload_n 0, 1, (0, 0, 0), 0, 0)), (1, (.iload_n 1, 1, (0, 0, 0), 0, 0)), (2, (.invokevirtual 170, 3, (0, 88, 0), 0, 1190)), (5, (.aload_n 0, 1, (0, 0, 0), 0, 0)), (6, (.getfield 40, 3, (11, 4, 0), 0, 579)), (9, (.aload_n 0, 1, (0, 0, 0), 0, 0)), (10, (.getfield 26, 3, (11, 2, 0), 0, 577)), (13, (.aload_n 0, 1, (0, 0, 0), 0, 0)), (14, (.getfield 33, 3, (11, 3, 0), 0, 578)), (17, (.invokevirtual 213, 3, (0, 167, 1), 0, 1246)), (20, (.aload_n 0, 1, (0, 0, 0), 0, 0)), (21, (.getfield 26, 3, (11, 2, 0), 0, 577)), (24, (.iload_n 1, 1, (0, 0, 0), 0, 0)), (25, (.invokevirtual 227, 3, (0, 101, 1), 0, 1273)), (28, (.ireturn, 1, (0, 0, 0), 0, 0))]]
set_option maxRecDepth 10000 in
def zp53 : List (List (Nat × ZI)) := [[(0, (.aload_n 0, 1, (0, 0, 0), 0, 0)), (1, (.iload_n 1, 1, (0, 0, 0), 0, 0)), (2, (.invokevirtual 138, 3, (0, 87, 0), 0, 1128)), (5, (.iload_n 2, 1, (0, 0, 0), 0, 0)), (6, (.iconst 0, 1, (0, 0, 0), 0, 0)), (7, (.bipush 100, 2, (0, 0, 0), 100, 0)), (9, (.invokestatic 209, 3, (0, 89, 0), 0, 1242)), (12, (.aload_n 0, 1, (0, 0, 0), 0, 0)), (13, (.getfield 40, 3, (11, 4, 0), 0, 579)), (16, (.aload_n 0, 1, (0, 0, 0), 0, 0)), (17, (.getfield 26, 3, (11, 2, 0), 0, 577)), (20, (.aload_n 0, 1, (0, 0, 0), 0, 0)), (21, (.getfield 33, 3, (11, 3, 0), 0, 578)), (24, (.invokevirtual 213, 3, (0, 167, 1), 0, 1246)), (27, (.aload_n 0, 1, (0, 0, 0), 0, 0)), (28, (.getfield 26, 3, (11, 2, 0), 0, 577)), (31, (.getfield 148, 3, (0, 0, 1), 0, 372))],
  [(34, (.iload_n 1, 1, (0, 0, 0), 0, 0)), (35, (.iaload, 1, (0, 0, 0), 0, 0)), (36, (.istore_n 3, 1, (0, 0, 0), 0, 0)), (37, (.aload_n 0, 1, (0, 0, 0), 0, 0)), (38, (.getfield 26, 3, (11, 2, 0), 0, 577)), (41, (.getfield 148, 3, (0, 0, 1), 0, 372)), (44, (.iload_n 1, 1, (0, 0, 0), 0, 0)), (45, (.iload_n 2, 1, (0, 0, 0), 0, 0)), (46, (.iastore, 1, (0, 0, 0), 0, 0)), (47, (.iload_n 3, 1, (0, 0, 0), 0, 0)), (48, (.ireturn, 1, (0, 0, 0), 0, 0))]]
set_option maxRecDepth 10000 in
def zp54 : List (List (Nat × ZI)) := [[(0, (.aload_n 0, 1, (0, 0, 0), 0, 0)), (1, (.iload_n 1, 1, (0, 0, 0), 0, 0)), (2, (.invokevirtual 170, 3, (0, 88, 0), 0, 1190)), (5, (.iload_n 2, 1, (0, 0, 0), 0, 0)), (6, (.iconst 0, 1, (0, 0, 0), 0, 0)), (7, (.bipush 100, 2, (0, 0, 0), 100, 0)), (9, (.invokestatic 209, 3, (0, 89, 0), 0, 1242)), (12, (.aload_n 0, 1, (0, 0, 0), 0, 0)), (13, (.getfield 40, 3, (11, 4, 0), 0, 579)), (16, (.aload_n 0, 1, (0, 0, 0), 0, 0)), (17, (.getfield 26, 3, (11, 2, 0), 0, 577)), (20, (.aload_n 0, 1, (0, 0, 0), 0, 0)), (21, (.getfield 33, 3, (11, 3, 0), 0, 578)), (24, (.invokevirtual 213, 3, (0, 167, 1), 0, 1246)), (27, (.aload_n 0, 1, (0, 0, 0), 0, 0)), (28, (.getfield 26, 3, (11, 2, 0), 0, 577)), (31, (.getfield 186, 3, (0, 2, 1), 0, 381))],
  [(34, (.iload_n 1, 1, (0, 0, 0), 0, 0)), (35, (.iaload, 1, (0, 0, 0), 0, 0)), (36, (.istore_n 3, 1, (0, 0, 0), 0, 0)), (37, (.aload_n 0, 1, (0, 0, 0), 0, 0)), (38, (.getfield 26, 3, (11, 2, 0), 0, 577)), (41, (.getfield 186, 3, (0, 2, 1), 0, 381)), (44, (.iload_n 1, 1, (0, 0, 0), 0, 0)), (45, (.iload_n 2, 1, (0, 0, 0), 0, 0)), (46, (.iastore, 1, (0, 0, 0), 0, 0)), (47, (.iload_n 3, 1, (0, 0, 0), 0, 0)), (48, (.ireturn, 1, (0, 0, 0), 0, 0))]]
set_option maxRecDepth 10000 in
def zp55 : List (List (Nat × ZI)) := [[(0, (.aload_n 0, 1, (0, 0, 0), 0, 0)), (1, (.iload_n 1, 1, (0, 0, 0), 0, 0)), (2, (.invokevirtual 170, 3, (0, 88, 0), 0, 1190)), (5, (.iload_n 2, 1, (0, 0, 0), 0, 0)), (6, (.iconst 0, 1, (0, 0, 0), 0, 0)), (7, (.bipush 99, 2, (0, 0, 0), 99, 0)), (9, (.invokestatic 209, 3, (0, 89, 0), 0, 1242)), (12, (.aload_n 0, 1, (0, 0, 0), 0, 0)), (13, (.getfield 40, 3, (11, 4, 0), 0, 579)), (16, (.aload_n 0, 1, (0, 0, 0), 0, 0)), (17, (.getfield 26, 3, (11, 2, 0), 0, 577)), (20, (.aload_n 0, 1, (0, 0, 0), 0, 0)), (21, (.getfield 33, 3, (11, 3, 0), 0, 578)), (24, (.invokevirtual 213, 3, (0, 167, 1), 0, 1246)), (27, (.aload_n 0, 1, (0, 0, 0), 0, 0)), (28, (.getfield 26, 3, (11, 2, 0), 0, 577)), (31, (.getfield 189, 3, (0, 3, 1), 0, 385))],
  [(34, (.iload_n 1, 1, (0, 0, 0), 0, 0)), (35, (.iaload, 1, (0, 0, 0), 0, 0)), (36, (.istore_n 3, 1, (0, 0, 0), 0, 0)), (37, (.aload_n 0, 1, (0, 0, 0), 0, 0)), (38, (.getfield 26, 3, (11, 2, 0), 0, 577)), (41, (.getfield 189, 3, (0, 3, 1), 0, 385)), (44, (.iload_n 1, 1, (0, 0, 0), 0, 0)), (45, (.iload_n 2, 1, (0, 0, 0), 0, 0)), (46, (.iastore, 1, (0, 0, 0), 0, 0)), (47, (.iload_n 3, 1, (0, 0, 0), 0, 0)), (48, (.ireturn, 1, (0, 0, 0), 0, 0))]]
set_option maxRecDepth 10000 in
def zp56 : List (List (Nat × ZI)) := [[(0, (.iload_n 1, 1, (0, 0, 0), 0, 0)), (1, (.iconst 0, 1, (0, 0, 0), 0, 0)), (2, (.bipush 100, 2, (0, 0, 0), 100, 0)), (4, (.invokestatic 209, 3, (0, 89, 0), 0, 1242)), (7, (.iload_n 2, 1, (0, 0, 0), 0, 0)), (8, (.ifCond .lt 8, 3, (16, 0, 0), 0, 0)), (11, (.iload_n 2, 1, (0, 0, 0), 0, 0)), (12, (.iconst 3, 1, (0, 0, 0), 3, 0)), (13, (.if_icmp .le 13, 3, (26, 0, 0), 0, 0)), (16, (.new 165, 3, (1, 3, 19), 0, 1167)), (19, (.dup, 1, (0, 0, 0), 0, 0)), (20, (.ldc 230, 2, (2, 0, 0), 0, 1306)), (22, (.invokespecial 169, 3, (9, 0, 0), 0, 1177)), (25, (.athrow, 1, (0, 0, 0), 0, 0)), (26, (.aload_n 0, 1, (0, 0, 0), 0, 0)), (27, (.getfield 54, 3, (11, 6, 0), 0, 581)), (30, (.aload_n 0, 1, (0, 0, 0), 0, 0)), (31, (.getfield 19, 3, (11, 1, 0), 0, 576))],
  [(34, (.aload_n 0, 1, (0, 0, 0), 0, 0)), (35, (.getfield 26, 3, (11, 2, 0), 0, 577)), (38, (.iload_n 1, 1, (0, 0, 0), 0, 0)), (39, (.iload_n 2, 1, (0, 0, 0), 0, 0)), (40, (.invokevirtual 232, 3, (0, 191, 1), 0, 1307)), (43, (.ireturn, 1, (0, 0, 0), 0, 0))]]
set_option maxRecDepth 10000 in
def zp57 : List (List (Nat × ZI)) := [[(0, (.aload_n 0, 1, (0, 0, 0), 0, 0)), (1, (.iload_n 1, 1, (0, 0, 0), 0, 0)), (2, (.invokevirtual 138, 3, (0, 87, 0), 0, 1128)), (5, (.iload_n 2, 1, (0, 0, 0), 0, 0)), (6, (.iconst 1, 1, (0, 0, 0), 1, 0)), (7, (.bipush 100, 2, (0, 0, 0), 100, 0)), (9, (.invokestatic 209, 3, (0, 89, 0), 0, 1242)), (12, (.iload_n 3, 1, (0, 0, 0), 0, 0)), (13, (.iconst 0, 1, (0, 0, 0), 0, 0)), (14, (.bipush 100, 2, (0, 0, 0), 100, 0)), (16, (.invokestatic 209, 3, (0, 89, 0), 0, 1242)), (19, (.aload_n 0, 1, (0, 0, 0), 0, 0)), (20, (.getfield 54, 3, (11, 6, 0), 0, 581)), (23, (.aload_n 0, 1, (0, 0, 0), 0, 0)), (24, (.getfield 19, 3, (11, 1, 0), 0, 576)), (27, (.aload_n 0, 1, (0, 0, 0), 0, 0)), (28, (.getfield 26, 3, (11, 2, 0), 0, 577)), (31, (.iload_n 1, 1, (0, 0, 0), 0, 0))],
  [(32, (.iload_n 2, 1, (0, 0, 0), 0, 0)), (33, (.iload_n 3, 1, (0, 0, 0), 0, 0)), (34, (.invokevirtual 236, 3, (0, 192, 1), 0, 1331)), (37, (.ireturn, 1, (0, 0, 0), 0, 0))]]
set_option maxRecDepth 10000 in
def zp58 : List (List (Nat × ZI)) := [[(0, (.iload_n 1, 1, (0, 0, 0), 0, 0)), (1, (.iconst 1, 1, (0, 0, 0), 1, 0)), (2, (.bipush 100, 2, (0, 0, 0), 100, 0)), (4, (.invokestatic 209, 3, (0, 89, 0), 0, 1242)), (7, (.iload_n 2, 1, (0, 0, 0), 0, 0)), (8, (.iconst 0, 1, (0, 0, 0), 0, 0)), (9, (.bipush 24, 2, (0, 0, 0), 24, 0)), (11, (.invokestatic 209, 3, (0, 89, 0), 0, 1242)), (14, (.aload_n 0, 1, (0, 0, 0), 0, 0)), (15, (.getfield 54, 3, (11, 6, 0), 0, 581)), (18, (.aload_n 0, 1, (0, 0, 0), 0, 0)), (19, (.getfield 19, 3, (11, 1, 0), 0, 576)), (22, (.aload_n 0, 1, (0, 0, 0), 0, 0)), (23, (.getfield 26, 3, (11, 2, 0), 0, 577)), (26, (.iload_n 1, 1, (0, 0, 0), 0, 0)), (27, (.iload_n 2, 1, (0, 0, 0), 0, 0)), (28, (.iload_n 3, 1, (0, 0, 0), 0, 0)), (29, (.invokevirtual 240, 3, (0, 193, 1), 0, 1342))],
  [(32, (.ireturn, 1, (0, 0, 0), 0, 0))]]
set_option maxRecDepth 10000 in
def zp59 : List (List (Nat × ZI)) := [[(0, (.iload_n 1, 1, (0, 0, 0), 0, 0)), (1, (.iconst 1, 1, (0, 0, 0), 1, 0)), (2, (.bipush 100, 2, (0, 0, 0), 100, 0)), (4, (.invokestatic 209, 3, (0, 89, 0), 0, 1242)), (7, (.iload_n 2, 1, (0, 0, 0), 0, 0)), (8, (.iconst 0, 1, (0, 0, 0), 0, 0)), (9, (.bipush 24, 2, (0, 0, 0), 24, 0)), (11, (.invokestatic 209, 3, (0, 89, 0), 0, 1242)), (14, (.aload_n 0, 1, (0, 0, 0), 0, 0)), (15, (.getfield 54, 3, (11, 6, 0), 0, 581)), (18, (.aload_n 0, 1, (0, 0, 0), 0, 0)), (19, (.getfield 19, 3, (11, 1, 0), 0, 576)), (22, (.aload_n 0, 1, (0, 0, 0), 0, 0)), (23, (.getfield 26, 3, (11, 2, 0), 0, 577)), (26, (.iload_n 1, 1, (0, 0, 0), 0, 0)), (27, (.iload_n 2, 1, (0, 0, 0), 0, 0)), (28, (.invokevirtual 244, 3, (0, 194, 1), 0, 1353)), (31, (.ireturn, 1, (0, 0, 0), 0, 0))]]
set_option maxRecDepth 10000 in
def zp60 : List (List (Nat × ZI)) := [[(0, (.iload_n 1, 1, (0, 0, 0), 0, 0)), (1, (.iconst 0, 1, (0, 0, 0), 0, 0)), (2, (.ldc 247, 2, (0, 0, 0), 2147483647, 1364)), (4, (.invokestatic 209, 3, (0, 89, 0), 0, 1242)), (7, (.iload_n 2, 1, (0, 0, 0), 0, 0)), (8, (.iconst 0, 1, (0, 0, 0), 0, 0)), (9, (.bipush 24, 2, (0, 0, 0), 24, 0)), (11, (.invokestatic 209, 3, (0, 89, 0), 0, 1242)), (14, (.aload_n 0, 1, (0, 0, 0), 0, 0)), (15, (.getfield 54, 3, (11, 6, 0), 0, 581)), (18, (.aload_n 0, 1, (0, 0, 0), 0, 0)), (19, (.getfield 19, 3, (11, 1, 0), 0, 576)), (22, (.aload_n 0, 1, (0, 0, 0), 0, 0)), (23, (.getfield 26, 3, (11, 2, 0), 0, 577)), (26, (.iload_n 1, 1, (0, 0, 0), 0, 0)), (27, (.iload_n 2, 1, (0, 0, 0), 0, 0)), (28, (.invokevirtual 248, 3, (0, 195, 1), 0, 1365)), (31, (.ireturn, 1, (0, 0, 0), 0, 0))]]
set_option maxRecDepth 10000 in
def zp61 : List (List (Nat × ZI)) := [[(0, (.iload_n 1, 1, (0, 0, 0), 0, 0)), (1, (.iconst 0, 1, (0, 0, 0), 0, 0)), (2, (.ldc 247, 2, (0, 0, 0), 2147483647, 1364)), (4, (.invokestatic 209, 3, (0, 89, 0), 0, 1242)), (7, (.aload_n 0, 1, (0, 0, 0), 0, 0)), (8, (.getfield 54, 3, (11, 6, 0), 0, 581)), (11, (.aload_n 0, 1, (0, 0, 0), 0, 0)), (12, (.getfield 19, 3, (11, 1, 0), 0, 576)), (15, (.aload_n 0, 1, (0, 0, 0), 0, 0)), (16, (.getfield 26, 3, (11, 2, 0), 0, 577)), (19, (.iload_n 1, 1, (0, 0, 0), 0, 0)), (20, (.invokevirtual 251, 3, (0, 196, 1), 0, 1383)), (23, (.istore_n 3, 1, (0, 0, 0), 0, 0)), (24, (.iload_n 3, 1, (0, 0, 0), 0, 0)), (25, (.iconst (-1), 1, (0, 0, 0), (-1), 0)), (26, (.if_icmp .eq 7, 3, (33, 0, 0), 0, 0)), (29, (.iload_n 2, 1, (0, 0, 0), 0, 0)), (30, (.ifCond .eq 5, 3, (35, 0, 0), 0, 0))],
  [(33, (.iload_n 3, 1, (0, 0, 0), 0, 0)), (34, (.ireturn, 1, (0, 0, 0), 0, 0)), (35, (.aload_n 0, 1, (0, 0, 0), 0, 0)), (36, (.getfield 19, 3, (11, 1, 0), 0, 576)), (39, (.getfield 83, 3, (2, 0, 1), 0, 350)), (42, (.iload_n 3, 1, (0, 0, 0), 0, 0)), (43, (.invokevirtual 255, 3, (0, 176, 1), 0, 1396)), (46, (.ireturn, 1, (0, 0, 0), 0, 0))]]
set_option maxRecDepth 10000 in
def zp62 : List (List (Nat × ZI)) := [[(0, (.iload_n 1, 1, (0, 0, 0), 0, 0)), (1, (.iconst 0, 1, (0, 0, 0), 0, 0)), (2, (.ldc 247, 2, (0, 0, 0), 2147483647, 1364)), (4, (.invokestatic 209, 3, (0, 89, 0), 0, 1242)), (7, (.iload_n 2, 1, (0, 0, 0), 0, 0)), (8, (.iconst 1, 1, (0, 0, 0), 1, 0)), (9, (.bipush 24, 2, (0, 0, 0), 24, 0)), (11, (.invokestatic 209, 3, (0, 89, 0), 0, 1242)), (14, (.aload_n 0, 1, (0, 0, 0), 0, 0)), (15, (.getfield 54, 3, (11, 6, 0), 0, 581)), (18, (.aload_n 0, 1, (0, 0, 0), 0, 0)), (19, (.getfield 19, 3, (11, 1, 0), 0, 576)), (22, (.aload_n 0, 1, (0, 0, 0), 0, 0)), (23, (.getfield 26, 3, (11, 2, 0), 0, 577)), (26, (.iload_n 1, 1, (0, 0, 0), 0, 0)), (27, (.iload_n 2, 1, (0, 0, 0), 0, 0)), (28, (.invokevirtual 258, 3, (0, 198, 1), 0, 1404)), (31, (.ireturn, 1, (0, 0, 0), 0, 0))]]
set_option maxRecDepth 10000 in
def zp63 : List (List (Nat × ZI)) := [[(0, (.iload_n 1, 1, (0, 0, 0), 0, 0)), (1, (.iconst 1, 1, (0, 0, 0), 1, 0)), (2, (.ldc_w 261, 3, (0, 0, 0), 99999, 1424)), (5, (.invokestatic 209, 3, (0, 89, 0), 0, 1242)), (8, (.aload_n 0, 1, (0, 0, 0), 0, 0)), (9, (.getfield 54, 3, (11, 6, 0), 0, 581)), (12, (.aload_n 0, 1, (0, 0, 0), 0, 0)), (13, (.getfield 19, 3, (11, 1, 0), 0, 576)), (16, (.aload_n 0, 1, (0, 0, 0), 0, 0)), (17, (.getfield 26, 3, (11, 2, 0), 0, 577)), (20, (.iload_n 1, 1, (0, 0, 0), 0, 0)), (21, (.invokevirtual 262, 3, (0, 200, 1), 0, 1425)), (24, (.ireturn, 1, (0, 0, 0), 0, 0))]]
set_option maxRecDepth 10000 in
def zp64 : List (List (Nat × ZI)) := [[(0, (.aload_n 0, 1, (0, 0, 0), 0, 0)), (1, (.getfield 54, 3, (11, 6, 0), 0, 581)), (4, (.aload_n 0, 1, (0, 0, 0), 0, 0)), (5, (.getfield 19, 3, (11, 1, 0), 0, 576)), (8, (.aload_n 0, 1, (0, 0, 0), 0, 0)), (9, (.getfield 26, 3, (11, 2, 0), 0, 577)), (12, (.invokevirtual 265, 3, (0, 201, 1), 0, 626)), (15, (.ireturn, 1, (0, 0, 0), 0, 0))]]
set_option maxRecDepth 10000 in
def zp65 : List (List (Nat × ZI)) := [[(0, (.iload_n 1, 1, (0, 0, 0), 0, 0)), (1, (.iconst 0, 1, (0, 0, 0), 0, 0)), (2, (.ldc 247, 2, (0, 0, 0), 2147483647, 1364)), (4, (.invokestatic 209, 3, (0, 89, 0), 0, 1242)), (7, (.aload_n 0, 1, (0, 0, 0), 0, 0)), (8, (.getfield 54, 3, (11, 6, 0), 0, 581)), (11, (.aload_n 0, 1, (0, 0, 0), 0, 0)), (12, (.getfield 19, 3, (11, 1, 0), 0, 576)), (15, (.aload_n 0, 1, (0, 0, 0), 0, 0)), (16, (.getfield 26, 3, (11, 2, 0), 0, 577)), (19, (.iload_n 1, 1, (0, 0, 0), 0, 0)), (20, (.invokevirtual 269, 3, (0, 202, 1), 0, 1436)), (23, (.ireturn, 1, (0, 0, 0), 0, 0))]]
set_option maxRecDepth 10000 in
def zp66 : List (List (Nat × ZI)) := [[(0, (.aload_n 0, 1, (0, 0, 0), 0, 0)), (1, (.iload_n 1, 1, (0, 0, 0), 0, 0)), (2, (.invokevirtual 138, 3, (0, 87, 0), 0, 1128)), (5, (.iload_n 2, 1, (0, 0, 0), 0, 0)), (6, (.iconst 0, 1, (0, 0, 0), 0, 0)), (7, (.bipush 24, 2, (0, 0, 0), 24, 0)), (9, (.invokestatic 209, 3, (0, 89, 0), 0, 1242)), (12, (.aload_n 0, 1, (0, 0, 0), 0, 0)), (13, (.getfield 54, 3, (11, 6, 0), 0, 581)), (16, (.aload_n 0, 1, (0, 0, 0), 0, 0)), (17, (.getfield 19, 3, (11, 1, 0), 0, 576)), (20, (.aload_n 0, 1, (0, 0, 0), 0, 0)), (21, (.getfield 26, 3, (11, 2, 0), 0, 577)), (24, (.iload_n 1, 1, (0, 0, 0), 0, 0)), (25, (.iload_n 2, 1, (0, 0, 0), 0, 0)), (26, (.invokevirtual 272, 3, (0, 203, 1), 0, 1447)), (29, (.ireturn, 1, (0, 0, 0), 0, 0))]]
set_option maxRecDepth 10000 in
def zp67 : List (List (Nat × ZI)) := [[(0, (.aload_n 0, 1, (0, 0, 0), 0, 0)), (1, (.iload_n 1, 1, (0, 0, 0), 0, 0)), (2, (.invokevirtual 170, 3, (0, 88, 0), 0, 1190)), (5, (.aload_n 0, 1, (0, 0, 0), 0, 0)), (6, (.iload_n 2, 1, (0, 0, 0), 0, 0)), (7, (.invokevirtual 138, 3, (0, 87, 0), 0, 1128)), (10, (.iload_n 3, 1, (0, 0, 0), 0, 0)), (11, (.iconst 0, 1, (0, 0, 0), 0, 0)), (12, (.bipush 24, 2, (0, 0, 0), 24, 0)), (14, (.invokestatic 209, 3, (0, 89, 0), 0, 1242)), (17, (.aload_n 0, 1, (0, 0, 0), 0, 0)), (18, (.getfield 54, 3, (11, 6, 0), 0, 581)), (21, (.aload_n 0, 1, (0, 0, 0), 0, 0)), (22, (.getfield 19, 3, (11, 1, 0), 0, 576)), (25, (.aload_n 0, 1, (0, 0, 0), 0, 0)), (26, (.getfield 26, 3, (11, 2, 0), 0, 577)), (29, (.iload_n 1, 1, (0, 0, 0), 0, 0)), (30, (.iload_n 2, 1, (0, 0, 0), 0, 0)), (31, (.iload_n 3, 1, (0, 0, 0), 0, 0))],
  [(32, (.invokevirtual 275, 3, (0, 204, 1), 0, 1459)), (35, (.ireturn, 1, (0, 0, 0), 0, 0))]]
set_option maxRecDepth 10000 in
def zp68 : List (List (Nat × ZI)) := [[(0, (.aload_n 0, 1, (0, 0, 0), 0, 0)), (1, (.iload_n 1, 1, (0, 0, 0), 0, 0)), (2, (.invokevirtual 170, 3, (0, 88, 0), 0, 1190)), (5, (.iload_n 2, 1, (0, 0, 0), 0, 0)), (6, (.iconst 0, 1, (0, 0, 0), 0, 0)), (7, (.bipush 24, 2, (0, 0, 0), 24, 0)), (9, (.invokestatic 209, 3, (0, 89, 0), 0, 1242)), (12, (.aload_n 0, 1, (0, 0, 0), 0, 0)), (13, (.getfield 54, 3, (11, 6, 0), 0, 581)), (16, (.aload_n 0, 1, (0, 0, 0), 0, 0)), (17, (.getfield 19, 3, (11, 1, 0), 0, 576)), (20, (.aload_n 0, 1, (0, 0, 0), 0, 0)), (21, (.getfield 26, 3, (11, 2, 0), 0, 577)), (24, (.iload_n 1, 1, (0, 0, 0), 0, 0)), (25, (.iload_n 2, 1, (0, 0, 0), 0, 0)), (26, (.invokevirtual 278, 3, (0, 205, 1), 0, 1472)), (29, (.ireturn, 1, (0, 0, 0), 0, 0))]]
set_option maxRecDepth 10000 in
def zp69 : List (List (Nat × ZI)) := [[(0, (.iload_n 1, 1, (0, 0, 0), 0, 0)), (1, (.iconst 0, 1, (0, 0, 0), 0, 0)), (2, (.bipush 24, 2, (0, 0, 0), 24, 0)), (4, (.invokestatic 209, 3, (0, 89, 0), 0, 1242)), (7, (.aload_n 0, 1, (0, 0, 0), 0, 0)), (8, (.getfield 54, 3, (11, 6, 0), 0, 581)), (11, (.aload_n 0, 1, (0, 0, 0), 0, 0)), (12, (.getfield 19, 3, (11, 1, 0), 0, 576)), (15, (.aload_n 0, 1, (0, 0, 0), 0, 0)), (16, (.getfield 26, 3, (11, 2, 0), 0, 577)), (19, (.iload_n 1, 1, (0, 0, 0), 0, 0)), (20, (.iload_n 2, 1, (0, 0, 0), 0, 0)), (21, (.invokevirtual 281, 3, (0, 206, 1), 0, 1485)), (24, (.ireturn, 1, (0, 0, 0), 0, 0))]]
set_option maxRecDepth 10000 in
def zp70 : List (List (Nat × ZI)) := [[(0, (.iload_n 1, 1, (0, 0, 0), 0, 0)), (1, (.iconst 1, 1, (0, 0, 0), 1, 0)), (2, (.bipush 100, 2, (0, 0, 0), 100, 0)), (4, (.invokestatic 209, 3, (0, 89, 0), 0, 1242)), (7, (.aload_n 0, 1, (0, 0, 0), 0, 0)), (8, (.getfield 54, 3, (11, 6, 0), 0, 581)), (11, (.aload_n 0, 1, (0, 0, 0), 0, 0)), (12, (.getfield 19, 3, (11, 1, 0), 0, 576)), (15, (.aload_n 0, 1, (0, 0, 0), 0, 0)), (16, (.getfield 26, 3, (11, 2, 0), 0, 577)), (19, (.iload_n 1, 1, (0, 0, 0), 0, 0)), (20, (.invokevirtual 285, 3, (0, 207, 1), 0, 1496)), (23, (.ireturn, 1, (0, 0, 0), 0, 0))]]
set_option maxRecDepth 10000 in
def zp71 : List (List (Nat × ZI)) := [[(0, (.aload_n 0, 1, (0, 0, 0), 0, 0)), (1, (.iload_n 1, 1, (0, 0, 0), 0, 0)), (2, (.invokevirtual 170, 3, (0, 88, 0), 0, 1190)), (5, (.iload_n 1, 1, (0, 0, 0), 0, 0)), (6, (.bipush 8, 2, (0, 0, 0), 8, 0)), (8, (.imul, 1, (0, 0, 0), 0, 0)), (9, (.istore_n 3, 1, (0, 0, 0), 0, 0)), (10, (.iload_n 2, 1, (0, 0, 0), 0, 0)), (11, (.ifCond .eq 21, 3, (32, 0, 0), 0, 0)), (14, (.aload_n 0, 1, (0, 0, 0), 0, 0)), (15, (.getfield 26, 3, (11, 2, 0), 0, 577)), (18, (.aload_n 0, 1, (0, 0, 0), 0, 0)), (19, (.getfield 26, 3, (11, 2, 0), 0, 577)), (22, (.getfield 200, 3, (0, 5, 1), 0, 391)), (25, (.iload_n 3, 1, (0, 0, 0), 0, 0)), (26, (.invokevirtual 288, 3, (0, 106, 1), 0, 1507)), (29, (.goto 18, 3, (47, 0, 0), 0, 0))],
  [(32, (.aload_n 0, 1, (0, 0, 0), 0, 0)), (33, (.getfield 26, 3, (11, 2, 0), 0, 577)), (36, (.aload_n 0, 1, (0, 0, 0), 0, 0)), (37, (.getfield 26, 3, (11, 2, 0), 0, 577)), (40, (.getfield 200, 3, (0, 5, 1), 0, 391)), (43, (.iload_n 3, 1, (0, 0, 0), 0, 0)), (44, (.invokevirtual 292, 3, (0, 105, 1), 0, 1511)), (47, (.ireturn, 1, (0, 0, 0), 0, 0))]]
set_option maxRecDepth 10000 in
def zp72 : List (List (Nat × ZI)) := [[(0, (.aload_n 0, 1, (0, 0, 0), 0, 0)), (1, (.iload_n 1, 1, (0, 0, 0), 0, 0)), (2, (.invokevirtual 138, 3, (0, 87, 0), 0, 1128)), (5, (.aload_n 0, 1, (0, 0, 0), 0, 0)), (6, (.getfield 26, 3, (11, 2, 0), 0, 577)), (9, (.aload_n 0, 1, (0, 0, 0), 0, 0)), (10, (.getfield 26, 3, (11, 2, 0), 0, 577)), (13, (.getfield 173, 3, (0, 4, 1), 0, 388)), (16, (.iload_n 1, 1, (0, 0, 0), 0, 0)), (17, (.bipush 8, 2, (0, 0, 0), 8, 0)), (19, (.imul, 1, (0, 0, 0), 0, 0)), (20, (.invokevirtual 292, 3, (0, 105, 1), 0, 1511)), (23, (.ireturn, 1, (0, 0, 0), 0, 0))]]
set_option maxRecDepth 10000 in
def zp73 : List (List (Nat × ZI)) := [[(0, (.aload_n 0, 1, (0, 0, 0), 0, 0)), (1, (.iload_n 1, 1, (0, 0, 0), 0, 0)), (2, (.invokevirtual 138, 3, (0, 87, 0), 0, 1128)), (5, (.aload_n 0, 1, (0, 0, 0), 0, 0)), (6, (.iload_n 2, 1, (0, 0, 0), 0, 0)), (7, (.invokevirtual 170, 3, (0, 88, 0), 0, 1190)), (10, (.aload_n 0, 1, (0, 0, 0), 0, 0)), (11, (.getfield 26, 3, (11, 2, 0), 0, 577)), (14, (.iload_n 1, 1, (0, 0, 0), 0, 0)), (15, (.invokevirtual 151, 3, (0, 92, 1), 0, 1148)), (18, (.i2l, 1, (0, 0, 0), 0, 0)), (19, (.lstore_n 3, 1, (0, 0, 0), 0, 0)), (20, (.lload_n 3, 1, (0, 0, 0), 0, 0)), (21, (.lconst 0, 1, (0, 0, 0), 0, 0)), (22, (.lcmp, 1, (0, 0, 0), 0, 0)), (23, (.ifCond .gt 5, 3, (28, 0, 0), 0, 0)), (26, (.iconst 0, 1, (0, 0, 0), 0, 0)), (27, (.ireturn, 1, (0, 0, 0), 0, 0)), (28, (.ldc2_w 295, 3, (0, 0, 0), 10000, 1529)), (31, (.aload_n 0, 1, (0, 0, 0), 0, 0))],
  [(32, (.getfield 26, 3, (11, 2, 0), 0, 577)), (35, (.getfield 173, 3, (0, 4, 1), 0, 388)), (38, (.iload_n 1, 1, (0, 0, 0), 0, 0)), (39, (.bipush 8, 2, (0, 0, 0), 8, 0)), (41, (.imul, 1, (0, 0, 0), 0, 0)), (42, (.iload_n 2, 1, (0, 0, 0), 0, 0)), (43, (.iadd, 1, (0, 0, 0), 0, 0)), (44, (.iaload, 1, (0, 0, 0), 0, 0)), (45, (.i2l, 1, (0, 0, 0), 0, 0)), (46, (.lmul, 1, (0, 0, 0), 0, 0)), (47, (.lload_n 3, 1, (0, 0, 0), 0, 0)), (48, (.ldiv, 1, (0, 0, 0), 0, 0)), (49, (.l2i, 1, (0, 0, 0), 0, 0)), (50, (.ireturn, 1, (0, 0, 0), 0, 0))]]
set_option maxRecDepth 10000 in
def zp74 : List (List (Nat × ZI)) := [[(0, (.aload_n 0, 1, (0, 0, 0), 0, 0)), (1, (.getfield 19, 3, (11, 1, 0), 0, 576)), (4, (.aload_n 0, 1, (0, 0, 0), 0, 0)), (5, (.getfield 26, 3, (11, 2, 0), 0, 577)), (8, (.invokevirtual 297, 3, (0, 123, 1), 0, 719)), (11, (.ireturn, 1, (0, 0, 0), 0, 0))]]
set_option maxRecDepth 10000 in
def zp75 : List (List (Nat × ZI)) := [[(0, (.iload_n 1, 1, (0, 0, 0), 0, 0)), (1, (.iconst 0, 1, (0, 0, 0), 0, 0)), (2, (.ldc 247, 2, (0, 0, 0), 2147483647, 1364)), (4, (.invokestatic 209, 3, (0, 89, 0), 0, 1242)), (7, (.aload_n 0, 1, (0, 0, 0), 0, 0)), (8, (.getfield 19, 3, (11, 1, 0), 0, 576)), (11, (.aload_n 0, 1, (0, 0, 0), 0, 0)), (12, (.getfield 26, 3, (11, 2, 0), 0, 577)), (15, (.iload_n 1, 1, (0, 0, 0), 0, 0)), (16, (.invokevirtual 301, 3, (0, 124, 1), 0, 1537)), (19, (.ireturn, 1, (0, 0, 0), 0, 0))]]
set_option maxRecDepth 10000 in
def zp76 : List (List (Nat × ZI)) := [[(0, (.aload_n 0, 1, (0, 0, 0), 0, 0)), (1, (.iload_n 1, 1, (0, 0, 0), 0, 0)), (2, (.invokevirtual 138, 3, (0, 87, 0), 0, 1128)), (5, (.aload_n 0, 1, (0, 0, 0), 0, 0)), (6, (.iload_n 2, 1, (0, 0, 0), 0, 0)), (7, (.invokevirtual 138, 3, (0, 87, 0), 0, 1128)), (10, (.aload_n 0, 1, (0, 0, 0), 0, 0)), (11, (.getfield 19, 3, (11, 1, 0), 0, 576)), (14, (.getfield 83, 3, (2, 0, 1), 0, 350)), (17, (.iload_n 1, 1, (0, 0, 0), 0, 0)), (18, (.iload_n 2, 1, (0, 0, 0), 0, 0)), (19, (.invokevirtual 304, 3, (0, 177, 1), 0, 1548)), (22, (.ireturn, 1, (0, 0, 0), 0, 0))]]
set_option maxRecDepth 10000 in
def zp77 : List (List (Nat × ZI)) := [[(0, (.aload_n 0, 1, (0, 0, 0), 0, 0)), (1, (.iload_n 1, 1, (0, 0, 0), 0, 0)), (2, (.invokevirtual 170, 3, (0, 88, 0), 0, 1190)), (5, (.aload_n 0, 1, (0, 0, 0), 0, 0)), (6, (.iload_n 2, 1, (0, 0, 0), 0, 0)), (7, (.invokevirtual 170, 3, (0, 88, 0), 0, 1190)), (10, (.iload_n 1, 1, (0, 0, 0), 0, 0)), (11, (.iload_n 2, 1, (0, 0, 0), 0, 0)), (12, (.if_icmp .ne 14, 3, (26, 0, 0), 0, 0)), (15, (.new 91, 3, (1, 0, 20), 1, 957)), (18, (.dup, 1, (0, 0, 0), 0, 0)), (19, (.ldc_w 307, 3, (2, 0, 0), 0, 1559)), (22, (.invokespecial 95, 3, (9, 0, 0), 0, 1000)), (25, (.athrow, 1, (0, 0, 0), 0, 0)), (26, (.aload_n 0, 1, (0, 0, 0), 0, 0)), (27, (.getfield 19, 3, (11, 1, 0), 0, 576)), (30, (.aload_n 0, 1, (0, 0, 0), 0, 0)), (31, (.getfield 26, 3, (11, 2, 0), 0, 577))],
  [(34, (.iload_n 1, 1, (0, 0, 0), 0, 0)), (35, (.iload_n 2, 1, (0, 0, 0), 0, 0)), (36, (.invokevirtual 309, 3, (0, 127, 1), 0, 1560)), (39, (.ireturn, 1, (0, 0, 0), 0, 0))]]
set_option maxRecDepth 10000 in
def zp78 : List (List (Nat × ZI)) := [[(0, (.aload_n 0, 1, (0, 0, 0), 0, 0)), (1, (.getfield 10, 3, (11, 0, 0), 0, 575)), (4, (.getfield 76, 3, (9, 1, 1), 0, 227)), (7, (.istore_n 1, 1, (0, 0, 0), 0, 0)), (8, (.aload_n 0, 1, (0, 0, 0), 0, 0)), (9, (.getfield 10, 3, (11, 0, 0), 0, 575)), (12, (.iconst 0, 1, (0, 0, 0), 0, 0)), (13, (.putfield 76, 3, (9, 1, 1), 0, 227)), (16, (.aload_n 0, 1, (0, 0, 0), 0, 0)), (17, (.getfield 10, 3, (11, 0, 0), 0, 575)), (20, (.iload_n 1, 1, (0, 0, 0), 0, 0)), (21, (.aload_n 0, 1, (0, 0, 0), 0, 0)), (22, (.getfield 19, 3, (11, 1, 0), 0, 576)), (25, (.getfield 83, 3, (2, 0, 1), 0, 350)), (28, (.getfield 313, 3, (8, 0, 1), 0, 268)), (31, (.invokevirtual 316, 3, (0, 186, 1), 0, 1571))],
  [(34, (.ifCond .ne 14, 3, (48, 0, 0), 0, 0)), (37, (.new 91, 3, (1, 0, 21), 1, 957)), (40, (.dup, 1, (0, 0, 0), 0, 0)), (41, (.ldc_w 320, 3, (2, 0, 0), 0, 1583)), (44, (.invokespecial 95, 3, (9, 0, 0), 0, 1000)), (47, (.athrow, 1, (0, 0, 0), 0, 0)), (48, (.aload_n 0, 1, (0, 0, 0), 0, 0)), (49, (.getfield 19, 3, (11, 1, 0), 0, 576)), (52, (.getfield 83, 3, (2, 0, 1), 0, 350)), (55, (.invokevirtual 322, 3, (0, 172, 1), 0, 727)), (58, (.istore_n 2, 1, (0, 0, 0), 0, 0)), (59, (.iconst 0, 1, (0, 0, 0), 0, 0)), (60, (.istore_n 3, 1, (0, 0, 0), 0, 0)), (61, (.iload_n 3, 1, (0, 0, 0), 0, 0)), (62, (.iconst 2, 1, (0, 0, 0), 2, 0)), (63, (.iadd, 1, (0, 0, 0), 0, 0))],
  [(64, (.iload_n 1, 1, (0, 0, 0), 0, 0)), (65, (.if_icmp .ge 39, 3, (104, 0, 0), 0, 0)), (68, (.iload_n 2, 1, (0, 0, 0), 0, 0)), (69, (.aload_n 0, 1, (0, 0, 0), 0, 0)), (70, (.getfield 19, 3, (11, 1, 0), 0, 576)), (73, (.aload_n 0, 1, (0, 0, 0), 0, 0)), (74, (.getfield 26, 3, (11, 2, 0), 0, 577)), (77, (.aload_n 0, 1, (0, 0, 0), 0, 0)), (78, (.getfield 10, 3, (11, 0, 0), 0, 575)), (81, (.iload_n 3, 1, (0, 0, 0), 0, 0)), (82, (.invokevirtual 326, 3, (0, 187, 1), 0, 1584)), (85, (.aload_n 0, 1, (0, 0, 0), 0, 0)), (86, (.getfield 10, 3, (11, 0, 0), 0, 575)), (89, (.iload_n 3, 1, (0, 0, 0), 0, 0)), (90, (.invokevirtual 329, 3, (0, 188, 1), 0, 1585)), (93, (.invokevirtual 332, 3, (0, 126, 1), 0, 1586))],
  [(96, (.iand, 1, (0, 0, 0), 0, 0)), (97, (.istore_n 2, 1, (0, 0, 0), 0, 0)), (98, (.iinc 3 3, 3, (0, 0, 0), 3, 0)), (101, (.goto (-40), 3, (61, 0, 0), 0, 0)), (104, (.iload_n 2, 1, (0, 0, 0), 0, 0)), (105, (.ireturn, 1, (0, 0, 0), 0, 0))]]
set_option maxRecDepth 10000 in
def zp79 : List (List (Nat × ZI)) := [[(0, (.aload_n 0, 1, (0, 0, 0), 0, 0)), (1, (.getfield 19, 3, (11, 1, 0), 0, 576)), (4, (.getfield 83, 3, (2, 0, 1), 0, 350)), (7, (.invokevirtual 322, 3, (0, 172, 1), 0, 727)), (10, (.istore_n 2, 1, (0, 0, 0), 0, 0)), (11, (.iconst 0, 1, (0, 0, 0), 0, 0)), (12, (.istore_n 3, 1, (0, 0, 0), 0, 0)), (13, (.iload_n 3, 1, (0, 0, 0), 0, 0)), (14, (.aload_n 0, 1, (0, 0, 0), 0, 0)), (15, (.getfield 19, 3, (11, 1, 0), 0, 576)), (18, (.getfield 83, 3, (2, 0, 1), 0, 350)), (21, (.getfield 313, 3, (8, 0, 1), 0, 268)), (24, (.if_icmp .ge 28, 3, (52, 0, 0), 0, 0)), (27, (.iload_n 1, 1, (0, 0, 0), 0, 0)), (28, (.iload_n 3, 1, (0, 0, 0), 0, 0)), (29, (.ishr, 1, (0, 0, 0), 0, 0)), (30, (.iconst 1, 1, (0, 0, 0), 1, 0)), (31, (.iand, 1, (0, 0, 0), 0, 0))],
  [(32, (.ifCond .eq 14, 3, (46, 0, 0), 0, 0)), (35, (.iload_n 2, 1, (0, 0, 0), 0, 0)), (36, (.aload_n 0, 1, (0, 0, 0), 0, 0)), (37, (.getfield 33, 3, (11, 3, 0), 0, 578)), (40, (.iload_n 3, 1, (0, 0, 0), 0, 0)), (41, (.invokevirtual 335, 3, (0, 111, 1), 0, 731)), (44, (.iand, 1, (0, 0, 0), 0, 0)), (45, (.istore_n 2, 1, (0, 0, 0), 0, 0)), (46, (.iinc 3 1, 3, (0, 0, 0), 1, 0)), (49, (.goto (-36), 3, (13, 0, 0), 0, 0)), (52, (.iload_n 2, 1, (0, 0, 0), 0, 0)), (53, (.ireturn, 1, (0, 0, 0), 0, 0))]]
set_option maxRecDepth 10000 in
def zp80 : List (List (Nat × ZI)) := [[(0, (.iload_n 2, 1, (0, 0, 0), 0, 0)), (1, (.ifCond .lt 8, 3, (9, 0, 0), 0, 0)), (4, (.iload_n 2, 1, (0, 0, 0), 0, 0)), (5, (.iconst 5, 1, (0, 0, 0), 5, 0)), (6, (.if_icmp .lt 14, 3, (20, 0, 0), 0, 0)), (9, (.new 165, 3, (1, 3, 22), 1, 1167)), (12, (.dup, 1, (0, 0, 0), 0, 0)), (13, (.ldc_w 338, 3, (2, 0, 0), 0, 1594)), (16, (.invokespecial 169, 3, (9, 0, 0), 0, 1177)), (19, (.athrow, 1, (0, 0, 0), 0, 0)), (20, (.aload_n 0, 1, (0, 0, 0), 0, 0)), (21, (.getfield 33, 3, (11, 3, 0), 0, 578)), (24, (.iload_n 1, 1, (0, 0, 0), 0, 0)), (25, (.iload_n 2, 1, (0, 0, 0), 0, 0)), (26, (.invokevirtual 340, 3, (0, 110, 1), 0, 1595)), (29, (.ireturn, 1, (0, 0, 0), 0, 0))]]
set_option maxRecDepth 10000 in
def zp81 : List (List (Nat × ZI)) := [[(0, (.aload_n 0, 1, (0, 0, 0), 0, 0)), (1, (.iload_n 1, 1, (0, 0, 0), 0, 0)), (2, (.invokevirtual 138, 3, (0, 87, 0), 0, 1128)), (5, (.iload_n 2, 1, (0, 0, 0), 0, 0)), (6, (.iconst 0, 1, (0, 0, 0), 0, 0)), (7, (.ldc 247, 2, (0, 0, 0), 2147483647, 1364)), (9, (.invokestatic 209, 3, (0, 89, 0), 0, 1242)), (12, (.aload_n 0, 1, (0, 0, 0), 0, 0)), (13, (.getfield 33, 3, (11, 3, 0), 0, 578)), (16, (.iload_n 1, 1, (0, 0, 0), 0, 0)), (17, (.iload_n 2, 1, (0, 0, 0), 0, 0)), (18, (.invokevirtual 343, 3, (0, 112, 1), 0, 1603)), (21, (.ireturn, 1, (0, 0, 0), 0, 0))]]
set_option maxRecDepth 10000 in
def zp82 : List (List (Nat × ZI)) := [[(0, (.aload_n 0, 1, (0, 0, 0), 0, 0)), (1, (.getfield 26, 3, (11, 2, 0), 0, 577)), (4, (.getfield 346, 3, (0, 12, 1), 0, 413)), (7, (.istore_n 2, 1, (0, 0, 0), 0, 0)), (8, (.aload_n 0, 1, (0, 0, 0), 0, 0)), (9, (.getfield 26, 3, (11, 2, 0), 0, 577)), (12, (.iload_n 1, 1, (0, 0, 0), 0, 0)), (13, (.putfield 346, 3, (0, 12, 1), 0, 413)), (16, (.iload_n 2, 1, (0, 0, 0), 0, 0)), (17, (.ireturn, 1, (0, 0, 0), 0, 0))]]
set_option maxRecDepth 10000 in
def zp83 : List (List (Nat × ZI)) := [[(0, (.aload_n 0, 1, (0, 0, 0), 0, 0)), (1, (.getfield 40, 3, (11, 4, 0), 0, 579)), (4, (.aload_n 0, 1, (0, 0, 0), 0, 0)), (5, (.getfield 26, 3, (11, 2, 0), 0, 577)), (8, (.aload_n 0, 1, (0, 0, 0), 0, 0)), (9, (.getfield 33, 3, (11, 3, 0), 0, 578)), (12, (.invokevirtual 349, 3, (0, 168, 1), 0, 750)), (15, (.ireturn, 1, (0, 0, 0), 0, 0))]]
set_option maxRecDepth 10000 in
def zp84 : List (List (Nat × ZI)) := [[(0, (.aload_n 0, 1, (0, 0, 0), 0, 0)), (1, (.getfield 47, 3, (11, 5, 0), 0, 580)), (4, (.aload_n 0, 1, (0, 0, 0), 0, 0)), (5, (.getfield 19, 3, (11, 1, 0), 0, 576)), (8, (.aload_n 0, 1, (0, 0, 0), 0, 0)), (9, (.getfield 26, 3, (11, 2, 0), 0, 577)), (12, (.aload_n 0, 1, (0, 0, 0), 0, 0)), (13, (.getfield 33, 3, (11, 3, 0), 0, 578)), (16, (.invokevirtual 353, 3, (0, 145, 1), 0, 764)), (19, (.return_, 1, (0, 0, 0), 0, 0))]]
set_option maxRecDepth 10000 in
def zp85 : List (List (Nat × ZI)) := [[(0, (.aload_n 0, 1, (0, 0, 0), 0, 0)), (1, (.getfield 47, 3, (11, 5, 0), 0, 580)), (4, (.getfield 357, 3, (4, 4, 1), 1, 501)), (7, (.ifCond .ne 5, 3, (12, 0, 0), 0, 0)), (10, (.iconst 0, 1, (0, 0, 0), 0, 0)), (11, (.ireturn, 1, (0, 0, 0), 0, 0)), (12, (.aload_n 0, 1, (0, 0, 0), 0, 0)), (13, (.getfield 47, 3, (11, 5, 0), 0, 580)), (16, (.aload_n 0, 1, (0, 0, 0), 0, 0)), (17, (.getfield 19, 3, (11, 1, 0), 0, 576)), (20, (.aload_n 0, 1, (0, 0, 0), 0, 0)), (21, (.getfield 26, 3, (11, 2, 0), 0, 577)), (24, (.aload_n 0, 1, (0, 0, 0), 0, 0)), (25, (.getfield 33, 3, (11, 3, 0), 0, 578)), (28, (.invokevirtual 361, 3, (0, 146, 1), 0, 784)), (31, (.aload_n 0, 1, (0, 0, 0), 0, 0))],
  [(32, (.getfield 40, 3, (11, 4, 0), 0, 579)), (35, (.invokevirtual 117, 3, (0, 166, 1), 0, 788)), (38, (.iconst 1, 1, (0, 0, 0), 1, 0)), (39, (.ireturn, 1, (0, 0, 0), 0, 0))]]
set_option maxRecDepth 10000 in
def zp86 : List (List (Nat × ZI)) := [[(0, (.iload_n 1, 1, (0, 0, 0), 0, 0)), (1, (.tableswitch 210 0 14 #[75, 86, 97, 108, 119, 130, 138, 146, 154, 162, 170, 178, 186, 194, 202], 75, (3, 0, 0), 0, 0))],
  [],
  [(76, (.aload_n 0, 1, (0, 0, 0), 0, 0)), (77, (.getfield 19, 3, (11, 1, 0), 0, 576)), (80, (.getfield 83, 3, (2, 0, 1), 0, 350)), (83, (.getfield 313, 3, (8, 0, 1), 0, 268)), (86, (.ireturn, 1, (0, 0, 0), 0, 0)), (87, (.aload_n 0, 1, (0, 0, 0), 0, 0)), (88, (.getfield 19, 3, (11, 1, 0), 0, 576)), (91, (.getfield 83, 3, (2, 0, 1), 0, 350)), (94, (.getfield 364, 3, (8, 1, 1), 0, 271))],
  [(97, (.ireturn, 1, (0, 0, 0), 0, 0)), (98, (.aload_n 0, 1, (0, 0, 0), 0, 0)), (99, (.getfield 19, 3, (11, 1, 0), 0, 576)), (102, (.getfield 83, 3, (2, 0, 1), 0, 350)), (105, (.getfield 367, 3, (8, 2, 1), 0, 276)), (108, (.ireturn, 1, (0, 0, 0), 0, 0)), (109, (.aload_n 0, 1, (0, 0, 0), 0, 0)), (110, (.getfield 19, 3, (11, 1, 0), 0, 576)), (113, (.getfield 83, 3, (2, 0, 1), 0, 350)), (116, (.getfield 98, 3, (8, 3, 1), 0, 278)), (119, (.ireturn, 1, (0, 0, 0), 0, 0)), (120, (.aload_n 0, 1, (0, 0, 0), 0, 0)), (121, (.getfield 19, 3, (11, 1, 0), 0, 576)), (124, (.getfield 125, 3, (2, 1, 1), 0, 354)), (127, (.getfield 135, 3, (5, 0, 1), 0, 322))],
  [(130, (.ireturn, 1, (0, 0, 0), 0, 0)), (131, (.aload_n 0, 1, (0, 0, 0), 0, 0)), (132, (.getfield 26, 3, (11, 2, 0), 0, 577)), (135, (.getfield 370, 3, (0, 10, 1), 0, 408)), (138, (.ireturn, 1, (0, 0, 0), 0, 0)), (139, (.aload_n 0, 1, (0, 0, 0), 0, 0)), (140, (.getfield 26, 3, (11, 2, 0), 0, 577)), (143, (.invokevirtual 373, 3, (0, 94, 1), 0, 796)), (146, (.ireturn, 1, (0, 0, 0), 0, 0)), (147, (.aload_n 0, 1, (0, 0, 0), 0, 0)), (148, (.getfield 26, 3, (11, 2, 0), 0, 577)), (151, (.invokevirtual 376, 3, (0, 95, 1), 0, 801)), (154, (.ireturn, 1, (0, 0, 0), 0, 0)), (155, (.aload_n 0, 1, (0, 0, 0), 0, 0)), (156, (.getfield 26, 3, (11, 2, 0), 0, 577)), (159, (.getfield 379, 3, (0, 6, 1), 0, 394))],
  [(162, (.ireturn, 1, (0, 0, 0), 0, 0)), (163, (.aload_n 0, 1, (0, 0, 0), 0, 0)), (164, (.getfield 26, 3, (11, 2, 0), 0, 577)), (167, (.getfield 382, 3, (0, 7, 1), 0, 396)), (170, (.ireturn, 1, (0, 0, 0), 0, 0)), (171, (.aload_n 0, 1, (0, 0, 0), 0, 0)), (172, (.getfield 26, 3, (11, 2, 0), 0, 577)), (175, (.getfield 385, 3, (0, 8, 1), 0, 400)), (178, (.ireturn, 1, (0, 0, 0), 0, 0)), (179, (.aload_n 0, 1, (0, 0, 0), 0, 0)), (180, (.getfield 26, 3, (11, 2, 0), 0, 577)), (183, (.getfield 388, 3, (0, 9, 1), 0, 405)), (186, (.ireturn, 1, (0, 0, 0), 0, 0)), (187, (.aload_n 0, 1, (0, 0, 0), 0, 0)), (188, (.getfield 26, 3, (11, 2, 0), 0, 577)), (191, (.getfield 221, 3, (0, 11, 1), 0, 410))],
  [(194, (.ireturn, 1, (0, 0, 0), 0, 0)), (195, (.aload_n 0, 1, (0, 0, 0), 0, 0)), (196, (.getfield 33, 3, (11, 3, 0), 0, 578)), (199, (.getfield 391, 3, (1, 1, 1), 0, 449)), (202, (.ireturn, 1, (0, 0, 0), 0, 0)), (203, (.aload_n 0, 1, (0, 0, 0), 0, 0)), (204, (.getfield 40, 3, (11, 4, 0), 0, 579)), (207, (.getfield 394, 3, (7, 2, 1), 0, 471)), (210, (.ireturn, 1, (0, 0, 0), 0, 0)), (211, (.iconst (-1), 1, (0, 0, 0), (-1), 0)), (212, (.ireturn, 1, (0, 0, 0), 0, 0))]]
set_option maxRecDepth 10000 in
def zp87 : List (List (Nat × ZI)) := [[(0, (.iload_n 1, 1, (0, 0, 0), 0, 0)), (1, (.ifCond .lt 17, 3, (18, 0, 0), 0, 0)), (4, (.iload_n 1, 1, (0, 0, 0), 0, 0)), (5, (.aload_n 0, 1, (0, 0, 0), 0, 0)), (6, (.getfield 19, 3, (11, 1, 0), 0, 576)), (9, (.getfield 83, 3, (2, 0, 1), 0, 350)), (12, (.getfield 313, 3, (8, 0, 1), 0, 268)), (15, (.if_icmp .lt 14, 3, (29, 0, 0), 0, 0)), (18, (.new 395, 3, (1, 2, 13), 1, 1132)), (21, (.dup, 1, (0, 0, 0), 0, 0)), (22, (.ldc_w 397, 3, (2, 0, 0), 0, 1141)), (25, (.invokespecial 399, 3, (9, 0, 0), 0, 1142)), (28, (.athrow, 1, (0, 0, 0), 0, 0)), (29, (.return_, 1, (0, 0, 0), 0, 0))]]
set_option maxRecDepth 10000 in
def zp88 : List (List (Nat × ZI)) := [[(0, (.iload_n 1, 1, (0, 0, 0), 0, 0)), (1, (.ifCond .lt 17, 3, (18, 0, 0), 0, 0)), (4, (.iload_n 1, 1, (0, 0, 0), 0, 0)), (5, (.aload_n 0, 1, (0, 0, 0), 0, 0)), (6, (.getfield 19, 3, (11, 1, 0), 0, 576)), (9, (.getfield 83, 3, (2, 0, 1), 0, 350)), (12, (.getfield 367, 3, (8, 2, 1), 0, 276)), (15, (.if_icmp .lt 14, 3, (29, 0, 0), 0, 0)), (18, (.new 395, 3, (1, 2, 15), 1, 1132)), (21, (.dup, 1, (0, 0, 0), 0, 0)), (22, (.ldc_w 400, 3, (2, 0, 0), 0, 1194)), (25, (.invokespecial 399, 3, (9, 0, 0), 0, 1142)), (28, (.athrow, 1, (0, 0, 0), 0, 0)), (29, (.return_, 1, (0, 0, 0), 0, 0))]]
set_option maxRecDepth 10000 in
def zp89 : List (List (Nat × ZI)) := [[(0, (.iload_n 0, 1, (0, 0, 0), 0, 0)), (1, (.iload_n 1, 1, (0, 0, 0), 0, 0)), (2, (.if_icmp .lt 8, 3, (10, 0, 0), 0, 0)), (5, (.iload_n 0, 1, (0, 0, 0), 0, 0)), (6, (.iload_n 2, 1, (0, 0, 0), 0, 0)), (7, (.if_icmp .le 14, 3, (21, 0, 0), 0, 0)), (10, (.new 91, 3, (1, 0, 18), 1, 957)), (13, (.dup, 1, (0, 0, 0), 0, 0)), (14, (.ldc_w 402, 3, (2, 0, 0), 0, 1245)), (17, (.invokespecial 95, 3, (9, 0, 0), 0, 1000)), (20, (.athrow, 1, (0, 0, 0), 0, 0)), (21, (.return_, 1, (0, 0, 0), 0, 0))]]
set_option maxRecDepth 10000 in
def zp90 : List (List (Nat × ZI)) := [[(0, (.aload_n 0, 1, (0, 0, 0), 0, 0)), (1, (.invokespecial 3, 3, (1, 0, 0), 0, 368)), (4, (.aload_n 0, 1, (0, 0, 0), 0, 0)), (5, (.bipush 12, 2, (0, 0, 0), 12, 0)), (7, (.newarray .int, 2, (0, 0, 0), 0, 251)), (9, (.putfield 9, 3, (0, 0, 0), 0, 369)), (12, (.aload_n 0, 1, (0, 0, 0), 0, 0)), (13, (.bipush 8, 2, (0, 0, 0), 8, 0)), (15, (.newarray .int, 2, (0, 0, 0), 0, 251)), (17, (.putfield 15, 3, (0, 1, 0), 0, 374)), (20, (.aload_n 0, 1, (0, 0, 0), 0, 0)), (21, (.bipush 8, 2, (0, 0, 0), 8, 0)), (23, (.newarray .int, 2, (0, 0, 0), 0, 251)), (25, (.putfield 18, 3, (0, 2, 0), 0, 378)), (28, (.aload_n 0, 1, (0, 0, 0), 0, 0)), (29, (.bipush 8, 2, (0, 0, 0), 8, 0)), (31, (.newarray .int, 2, (0, 0, 0), 0, 251))],
  [(33, (.putfield 21, 3, (0, 3, 0), 0, 383)), (36, (.aload_n 0, 1, (0, 0, 0), 0, 0)), (37, (.bipush 96, 2, (0, 0, 0), 96, 0)), (39, (.newarray .int, 2, (0, 0, 0), 0, 251)), (41, (.putfield 24, 3, (0, 4, 0), 0, 387)), (44, (.aload_n 0, 1, (0, 0, 0), 0, 0)), (45, (.bipush 64, 2, (0, 0, 0), 64, 0)), (47, (.newarray .int, 2, (0, 0, 0), 0, 251)), (49, (.putfield 27, 3, (0, 5, 0), 0, 390)), (52, (.aload_n 0, 1, (0, 0, 0), 0, 0)), (53, (.iconst 0, 1, (0, 0, 0), 0, 0)), (54, (.putfield 30, 3, (0, 6, 0), 0, 392)), (57, (.aload_n 0, 1, (0, 0, 0), 0, 0)), (58, (.iconst 0, 1, (0, 0, 0), 0, 0)), (59, (.putfield 34, 3, (0, 7, 0), 0, 395)), (62, (.aload_n 0, 1, (0, 0, 0), 0, 0)), (63, (.iconst 0, 1, (0, 0, 0), 0, 0))],
  [(64, (.putfield 37, 3, (0, 8, 0), 0, 397)), (67, (.aload_n 0, 1, (0, 0, 0), 0, 0)), (68, (.sipush 1000, 3, (0, 0, 0), 1000, 0)), (71, (.putfield 40, 3, (0, 9, 0), 0, 401)), (74, (.aload_n 0, 1, (0, 0, 0), 0, 0)), (75, (.iconst 0, 1, (0, 0, 0), 0, 0)), (76, (.putfield 43, 3, (0, 10, 0), 0, 406)), (79, (.aload_n 0, 1, (0, 0, 0), 0, 0)), (80, (.iconst 0, 1, (0, 0, 0), 0, 0)), (81, (.putfield 46, 3, (0, 11, 0), 0, 409)), (84, (.aload_n 0, 1, (0, 0, 0), 0, 0)), (85, (.iconst 1, 1, (0, 0, 0), 1, 0)), (86, (.putfield 49, 3, (0, 12, 0), 0, 411)), (89, (.return_, 1, (0, 0, 0), 0, 0))]]
set_option maxRecDepth 10000 in
def zp91 : List (List (Nat × ZI)) := [[(0, (.aload_n 1, 1, (0, 0, 0), 0, 0)), (1, (.getfield 9, 3, (0, 0, 0), 0, 369)), (4, (.iconst 0, 1, (0, 0, 0), 0, 0)), (5, (.aload_n 0, 1, (0, 0, 0), 0, 0)), (6, (.getfield 9, 3, (0, 0, 0), 0, 369)), (9, (.iconst 0, 1, (0, 0, 0), 0, 0)), (10, (.bipush 12, 2, (0, 0, 0), 12, 0)), (12, (.invokestatic 52, 3, (6, 0, 0), 0, 634)), (15, (.aload_n 1, 1, (0, 0, 0), 0, 0)), (16, (.getfield 15, 3, (0, 1, 0), 0, 374)), (19, (.iconst 0, 1, (0, 0, 0), 0, 0)), (20, (.aload_n 0, 1, (0, 0, 0), 0, 0)), (21, (.getfield 15, 3, (0, 1, 0), 0, 374)), (24, (.iconst 0, 1, (0, 0, 0), 0, 0)), (25, (.bipush 8, 2, (0, 0, 0), 8, 0)), (27, (.invokestatic 52, 3, (6, 0, 0), 0, 634)), (30, (.aload_n 1, 1, (0, 0, 0), 0, 0)), (31, (.getfield 18, 3, (0, 2, 0), 0, 378))],
  [(34, (.iconst 0, 1, (0, 0, 0), 0, 0)), (35, (.aload_n 0, 1, (0, 0, 0), 0, 0)), (36, (.getfield 18, 3, (0, 2, 0), 0, 378)), (39, (.iconst 0, 1, (0, 0, 0), 0, 0)), (40, (.bipush 8, 2, (0, 0, 0), 8, 0)), (42, (.invokestatic 52, 3, (6, 0, 0), 0, 634)), (45, (.aload_n 1, 1, (0, 0, 0), 0, 0)), (46, (.getfield 21, 3, (0, 3, 0), 0, 383)), (49, (.iconst 0, 1, (0, 0, 0), 0, 0)), (50, (.aload_n 0, 1, (0, 0, 0), 0, 0)), (51, (.getfield 21, 3, (0, 3, 0), 0, 383)), (54, (.iconst 0, 1, (0, 0, 0), 0, 0)), (55, (.bipush 8, 2, (0, 0, 0), 8, 0)), (57, (.invokestatic 52, 3, (6, 0, 0), 0, 634)), (60, (.aload_n 1, 1, (0, 0, 0), 0, 0)), (61, (.getfield 24, 3, (0, 4, 0), 0, 387))],
  [(64, (.iconst 0, 1, (0, 0, 0), 0, 0)), (65, (.aload_n 0, 1, (0, 0, 0), 0, 0)), (66, (.getfield 24, 3, (0, 4, 0), 0, 387)), (69, (.iconst 0, 1, (0, 0, 0), 0, 0)), (70, (.bipush 96, 2, (0, 0, 0), 96, 0)), (72, (.invokestatic 52, 3, (6, 0, 0), 0, 634)), (75, (.aload_n 1, 1, (0, 0, 0), 0, 0)), (76, (.getfield 27, 3, (0, 5, 0), 0, 390)), (79, (.iconst 0, 1, (0, 0, 0), 0, 0)), (80, (.aload_n 0, 1, (0, 0, 0), 0, 0)), (81, (.getfield 27, 3, (0, 5, 0), 0, 390)), (84, (.iconst 0, 1, (0, 0, 0), 0, 0)), (85, (.bipush 64, 2, (0, 0, 0), 64, 0)), (87, (.invokestatic 52, 3, (6, 0, 0), 0, 634)), (90, (.aload_n 0, 1, (0, 0, 0), 0, 0)), (91, (.aload_n 1, 1, (0, 0, 0), 0, 0)), (92, (.getfield 30, 3, (0, 6, 0), 0, 392)), (95, (.putfield 30, 3, (0, 6, 0), 0, 392))],
  [(98, (.aload_n 0, 1, (0, 0, 0), 0, 0)), (99, (.aload_n 1, 1, (0, 0, 0), 0, 0)), (100, (.getfield 34, 3, (0, 7, 0), 0, 395)), (103, (.putfield 34, 3, (0, 7, 0), 0, 395)), (106, (.aload_n 0, 1, (0, 0, 0), 0, 0)), (107, (.aload_n 1, 1, (0, 0, 0), 0, 0)), (108, (.getfield 37, 3, (0, 8, 0), 0, 397)), (111, (.putfield 37, 3, (0, 8, 0), 0, 397)), (114, (.aload_n 0, 1, (0, 0, 0), 0, 0)), (115, (.aload_n 1, 1, (0, 0, 0), 0, 0)), (116, (.getfield 40, 3, (0, 9, 0), 0, 401)), (119, (.putfield 40, 3, (0, 9, 0), 0, 401)), (122, (.aload_n 0, 1, (0, 0, 0), 0, 0)), (123, (.aload_n 1, 1, (0, 0, 0), 0, 0)), (124, (.getfield 43, 3, (0, 10, 0), 0, 406)), (127, (.putfield 43, 3, (0, 10, 0), 0, 406))],
  [(130, (.aload_n 0, 1, (0, 0, 0), 0, 0)), (131, (.aload_n 1, 1, (0, 0, 0), 0, 0)), (132, (.getfield 46, 3, (0, 11, 0), 0, 409)), (135, (.putfield 46, 3, (0, 11, 0), 0, 409)), (138, (.aload_n 0, 1, (0, 0, 0), 0, 0)), (139, (.aload_n 1, 1, (0, 0, 0), 0, 0)), (140, (.getfield 49, 3, (0, 12, 0), 0, 411)), (143, (.putfield 49, 3, (0, 12, 0), 0, 411)), (146, (.return_, 1, (0, 0, 0), 0, 0))]]
set_option maxRecDepth 10000 in
def zp92 : List (List (Nat × ZI)) := [[(0, (.iconst 0, 1, (0, 0, 0), 0, 0)), (1, (.istore_n 2, 1, (0, 0, 0), 0, 0)), (2, (.iload_n 1, 1, (0, 0, 0), 0, 0)), (3, (.bipush 8, 2, (0, 0, 0), 8, 0)), (5, (.imul, 1, (0, 0, 0), 0, 0)), (6, (.istore_n 3, 1, (0, 0, 0), 0, 0)), (7, (.iload_n 3, 1, (0, 0, 0), 0, 0)), (8, (.iload_n 1, 1, (0, 0, 0), 0, 0)), (9, (.bipush 8, 2, (0, 0, 0), 8, 0)), (11, (.imul, 1, (0, 0, 0), 0, 0)), (12, (.bipush 8, 2, (0, 0, 0), 8, 0)), (14, (.iadd, 1, (0, 0, 0), 0, 0)), (15, (.if_icmp .ge 18, 3, (33, 0, 0), 0, 0)), (18, (.iload_n 2, 1, (0, 0, 0), 0, 0)), (19, (.aload_n 0, 1, (0, 0, 0), 0, 0)), (20, (.getfield 24, 3, (0, 4, 0), 0, 387)), (23, (.iload_n 3, 1, (0, 0, 0), 0, 0)), (24, (.iaload, 1, (0, 0, 0), 0, 0)), (25, (.iadd, 1, (0, 0, 0), 0, 0)), (26, (.istore_n 2, 1, (0, 0, 0), 0, 0)), (27, (.iinc 3 1, 3, (0, 0, 0), 1, 0)), (30, (.goto (-23), 3, (7, 0, 0), 0, 0))],
  [(33, (.iload_n 2, 1, (0, 0, 0), 0, 0)), (34, (.ireturn, 1, (0, 0, 0), 0, 0))]]
set_option maxRecDepth 10000 in
def zp93 : List (List (Nat × ZI)) := [[(0, (.iconst 0, 1, (0, 0, 0), 0, 0)), (1, (.istore_n 2, 1, (0, 0, 0), 0, 0)), (2, (.iload_n 1, 1, (0, 0, 0), 0, 0)), (3, (.bipush 8, 2, (0, 0, 0), 8, 0)), (5, (.imul, 1, (0, 0, 0), 0, 0)), (6, (.istore_n 3, 1, (0, 0, 0), 0, 0)), (7, (.iload_n 3, 1, (0, 0, 0), 0, 0)), (8, (.iload_n 1, 1, (0, 0, 0), 0, 0)), (9, (.bipush 8, 2, (0, 0, 0), 8, 0)), (11, (.imul, 1, (0, 0, 0), 0, 0)), (12, (.bipush 8, 2, (0, 0, 0), 8, 0)), (14, (.iadd, 1, (0, 0, 0), 0, 0)), (15, (.if_icmp .ge 18, 3, (33, 0, 0), 0, 0)), (18, (.iload_n 2, 1, (0, 0, 0), 0, 0)), (19, (.aload_n 0, 1, (0, 0, 0), 0, 0)), (20, (.getfield 27, 3, (0, 5, 0), 0, 390)), (23, (.iload_n 3, 1, (0, 0, 0), 0, 0)), (24, (.iaload, 1, (0, 0, 0), 0, 0)), (25, (.iadd, 1, (0, 0, 0), 0, 0)), (26, (.istore_n 2, 1, (0, 0, 0), 0, 0)), (27, (.iinc 3 1, 3, (0, 0, 0), 1, 0)), (30, (.goto (-23), 3, (7, 0, 0), 0, 0))],
  [(33, (.iload_n 2, 1, (0, 0, 0), 0, 0)), (34, (.ireturn, 1, (0, 0, 0), 0, 0))]]
set_option maxRecDepth 10000 in
def zp94 : List (List (Nat × ZI)) := [[(0, (.iconst 0, 1, (0, 0, 0), 0, 0)), (1, (.istore_n 1, 1, (0, 0, 0), 0, 0)), (2, (.iconst 0, 1, (0, 0, 0), 0, 0)), (3, (.istore_n 2, 1, (0, 0, 0), 0, 0)), (4, (.iload_n 2, 1, (0, 0, 0), 0, 0)), (5, (.bipush 12, 2, (0, 0, 0), 12, 0)), (7, (.if_icmp .ge 17, 3, (24, 0, 0), 0, 0)), (10, (.iload_n 1, 1, (0, 0, 0), 0, 0)), (11, (.aload_n 0, 1, (0, 0, 0), 0, 0)), (12, (.iload_n 2, 1, (0, 0, 0), 0, 0)), (13, (.invokevirtual 58, 3, (0, 92, 0), 0, 800)), (16, (.iadd, 1, (0, 0, 0), 0, 0)), (17, (.istore_n 1, 1, (0, 0, 0), 0, 0)), (18, (.iinc 2 1, 3, (0, 0, 0), 1, 0)), (21, (.goto (-17), 3, (4, 0, 0), 0, 0)), (24, (.iload_n 1, 1, (0, 0, 0), 0, 0)), (25, (.ireturn, 1, (0, 0, 0), 0, 0))]]
set_option maxRecDepth 10000 in
def zp95 : List (List (Nat × ZI)) := [[(0, (.iconst 0, 1, (0, 0, 0), 0, 0)), (1, (.istore_n 1, 1, (0, 0, 0), 0, 0)), (2, (.iconst 0, 1, (0, 0, 0), 0, 0)), (3, (.istore_n 2, 1, (0, 0, 0), 0, 0)), (4, (.iload_n 2, 1, (0, 0, 0), 0, 0)), (5, (.bipush 8, 2, (0, 0, 0), 8, 0)), (7, (.if_icmp .ge 17, 3, (24, 0, 0), 0, 0)), (10, (.iload_n 1, 1, (0, 0, 0), 0, 0)), (11, (.aload_n 0, 1, (0, 0, 0), 0, 0)), (12, (.iload_n 2, 1, (0, 0, 0), 0, 0)), (13, (.invokevirtual 62, 3, (0, 93, 0), 0, 679)), (16, (.iadd, 1, (0, 0, 0), 0, 0)), (17, (.istore_n 1, 1, (0, 0, 0), 0, 0)), (18, (.iinc 2 1, 3, (0, 0, 0), 1, 0)), (21, (.goto (-17), 3, (4, 0, 0), 0, 0)), (24, (.iload_n 1, 1, (0, 0, 0), 0, 0)), (25, (.ireturn, 1, (0, 0, 0), 0, 0))]]
set_option maxRecDepth 10000 in
def zp96 : List (List (Nat × ZI)) := [[(0, (.iload_n 0, 1, (0, 0, 0), 0, 0)), (1, (.i2l, 1, (0, 0, 0), 0, 0)), (2, (.iload_n 1, 1, (0, 0, 0), 0, 0)), (3, (.i2l, 1, (0, 0, 0), 0, 0)), (4, (.lmul, 1, (0, 0, 0), 0, 0)), (5, (.ldc2_w 65, 3, (0, 0, 0), 100, 693)), (8, (.ldiv, 1, (0, 0, 0), 0, 0)), (9, (.l2i, 1, (0, 0, 0), 0, 0)), (10, (.ireturn, 1, (0, 0, 0), 0, 0))]]
set_option maxRecDepth 10000 in
def zp97 : List (List (Nat × ZI)) := [[(0, (.aload_n 0, 1, (0, 0, 0), 0, 0)), (1, (.ldc 67, 2, (0, 0, 0), 1103515245, 685)), (3, (.aload_n 0, 1, (0, 0, 0), 0, 0)), (4, (.getfield 49, 3, (0, 12, 0), 0, 411)), (7, (.imul, 1, (0, 0, 0), 0, 0)), (8, (.sipush 12345, 3, (0, 0, 0), 12345, 0)), (11, (.iadd, 1, (0, 0, 0), 0, 0)), (12, (.putfield 49, 3, (0, 12, 0), 0, 411)), (15, (.aload_n 0, 1, (0, 0, 0), 0, 0)), (16, (.getfield 49, 3, (0, 12, 0), 0, 411)), (19, (.bipush 16, 2, (0, 0, 0), 16, 0)), (21, (.iushr, 1, (0, 0, 0), 0, 0)), (22, (.sipush 32767, 3, (0, 0, 0), 32767, 0)), (25, (.iand, 1, (0, 0, 0), 0, 0)), (26, (.ireturn, 1, (0, 0, 0), 0, 0))]]
set_option maxRecDepth 10000 in
def zp98 : List (List (Nat × ZI)) := [[(0, (.iload_n 2, 1, (0, 0, 0), 0, 0)), (1, (.sipush 9999, 3, (0, 0, 0), 9999, 0)), (4, (.aload_n 0, 1, (0, 0, 0), 0, 0)), (5, (.iload_n 1, 1, (0, 0, 0), 0, 0)), (6, (.invokevirtual 62, 3, (0, 93, 0), 0, 679)), (9, (.isub, 1, (0, 0, 0), 0, 0)), (10, (.invokestatic 68, 3, (2, 0, 0), 0, 680)), (13, (.istore_n 3, 1, (0, 0, 0), 0, 0)), (14, (.aload_n 0, 1, (0, 0, 0), 0, 0)), (15, (.getfield 27, 3, (0, 5, 0), 0, 390)), (18, (.iload_n 1, 1, (0, 0, 0), 0, 0)), (19, (.bipush 8, 2, (0, 0, 0), 8, 0)), (21, (.imul, 1, (0, 0, 0), 0, 0)), (22, (.iload_n 1, 1, (0, 0, 0), 0, 0)), (23, (.iadd, 1, (0, 0, 0), 0, 0)), (24, (.dup2, 1, (0, 0, 0), 0, 0)), (25, (.iaload, 1, (0, 0, 0), 0, 0)), (26, (.iload_n 3, 1, (0, 0, 0), 0, 0)), (27, (.iadd, 1, (0, 0, 0), 0, 0)), (28, (.iastore, 1, (0, 0, 0), 0, 0)), (29, (.aload_n 0, 1, (0, 0, 0), 0, 0)), (30, (.dup, 1, (0, 0, 0), 0, 0)), (31, (.getfield 34, 3, (0, 7, 0), 0, 395))],
  [(34, (.iload_n 3, 1, (0, 0, 0), 0, 0)), (35, (.iadd, 1, (0, 0, 0), 0, 0)), (36, (.putfield 34, 3, (0, 7, 0), 0, 395)), (39, (.return_, 1, (0, 0, 0), 0, 0))]]
set_option maxRecDepth 10000 in
def zp99 : List (List (Nat × ZI)) := [[(0, (.aload_n 0, 1, (0, 0, 0), 0, 0)), (1, (.getfield 24, 3, (0, 4, 0), 0, 387)), (4, (.iload_n 1, 1, (0, 0, 0), 0, 0)), (5, (.bipush 8, 2, (0, 0, 0), 8, 0)), (7, (.imul, 1, (0, 0, 0), 0, 0)), (8, (.iload_n 2, 1, (0, 0, 0), 0, 0)), (9, (.iadd, 1, (0, 0, 0), 0, 0)), (10, (.dup2, 1, (0, 0, 0), 0, 0)), (11, (.iaload, 1, (0, 0, 0), 0, 0)), (12, (.iload_n 3, 1, (0, 0, 0), 0, 0)), (13, (.iadd, 1, (0, 0, 0), 0, 0)), (14, (.iastore, 1, (0, 0, 0), 0, 0)), (15, (.aload_n 0, 1, (0, 0, 0), 0, 0)), (16, (.dup, 1, (0, 0, 0), 0, 0)), (17, (.getfield 34, 3, (0, 7, 0), 0, 395)), (20, (.iload_n 3, 1, (0, 0, 0), 0, 0)), (21, (.iadd, 1, (0, 0, 0), 0, 0)), (22, (.putfield 34, 3, (0, 7, 0), 0, 395)), (25, (.return_, 1, (0, 0, 0), 0, 0))]]
set_option maxRecDepth 10000 in
def zp100 : List (List (Nat × ZI)) := [[(0, (.iconst 0, 1, (0, 0, 0), 0, 0)), (1, (.istore_n 3, 1, (0, 0, 0), 0, 0)), (2, (.iconst 0, 1, (0, 0, 0), 0, 0)), (3, (.istore 4, 2, (0, 0, 0), 0, 0)), (5, (.iload 4, 2, (0, 0, 0), 0, 0)), (7, (.bipush 8, 2, (0, 0, 0), 8, 0)), (9, (.if_icmp .ge 49, 3, (58, 0, 0), 0, 0)), (12, (.aload_n 0, 1, (0, 0, 0), 0, 0)), (13, (.getfield 27, 3, (0, 5, 0), 0, 390)), (16, (.iload_n 1, 1, (0, 0, 0), 0, 0)), (17, (.bipush 8, 2, (0, 0, 0), 8, 0)), (19, (.imul, 1, (0, 0, 0), 0, 0)), (20, (.iload 4, 2, (0, 0, 0), 0, 0)), (22, (.iadd, 1, (0, 0, 0), 0, 0)), (23, (.iaload, 1, (0, 0, 0), 0, 0)), (24, (.iload_n 2, 1, (0, 0, 0), 0, 0)), (25, (.invokestatic 74, 3, (0, 96, 0), 0, 690)), (28, (.istore 5, 2, (0, 0, 0), 0, 0)), (30, (.aload_n 0, 1, (0, 0, 0), 0, 0)), (31, (.getfield 27, 3, (0, 5, 0), 0, 390))],
  [(34, (.iload_n 1, 1, (0, 0, 0), 0, 0)), (35, (.bipush 8, 2, (0, 0, 0), 8, 0)), (37, (.imul, 1, (0, 0, 0), 0, 0)), (38, (.iload 4, 2, (0, 0, 0), 0, 0)), (40, (.iadd, 1, (0, 0, 0), 0, 0)), (41, (.dup2, 1, (0, 0, 0), 0, 0)), (42, (.iaload, 1, (0, 0, 0), 0, 0)), (43, (.iload 5, 2, (0, 0, 0), 0, 0)), (45, (.isub, 1, (0, 0, 0), 0, 0)), (46, (.iastore, 1, (0, 0, 0), 0, 0)), (47, (.iload_n 3, 1, (0, 0, 0), 0, 0)), (48, (.iload 5, 2, (0, 0, 0), 0, 0)), (50, (.iadd, 1, (0, 0, 0), 0, 0)), (51, (.istore_n 3, 1, (0, 0, 0), 0, 0)), (52, (.iinc 4 1, 3, (0, 0, 0), 1, 0)), (55, (.goto (-50), 3, (5, 0, 0), 0, 0)), (58, (.aload_n 0, 1, (0, 0, 0), 0, 0)), (59, (.dup, 1, (0, 0, 0), 0, 0)), (60, (.getfield 30, 3, (0, 6, 0), 0, 392)), (63, (.iload_n 3, 1, (0, 0, 0), 0, 0))],
  [(64, (.iadd, 1, (0, 0, 0), 0, 0)), (65, (.putfield 30, 3, (0, 6, 0), 0, 392)), (68, (.iload_n 3, 1, (0, 0, 0), 0, 0)), (69, (.ireturn, 1, (0, 0, 0), 0, 0))]]
set_option maxRecDepth 10000 in
def zp101 : List (List (Nat × ZI)) := [[(0, (.aload_n 0, 1, (0, 0, 0), 0, 0)), (1, (.iload_n 1, 1, (0, 0, 0), 0, 0)), (2, (.bipush 50, 2, (0, 0, 0), 50, 0)), (4, (.invokevirtual 77, 3, (0, 100, 0), 0, 1277)), (7, (.ireturn, 1, (0, 0, 0), 0, 0))]]
set_option maxRecDepth 10000 in
def zp102 : List (List (Nat × ZI)) := [[(0, (.iconst 0, 1, (0, 0, 0), 0, 0)), (1, (.istore_n 3, 1, (0, 0, 0), 0, 0)), (2, (.iconst 0, 1, (0, 0, 0), 0, 0)), (3, (.istore 4, 2, (0, 0, 0), 0, 0)), (5, (.iload 4, 2, (0, 0, 0), 0, 0)), (7, (.bipush 8, 2, (0, 0, 0), 8, 0)), (9, (.if_icmp .ge 49, 3, (58, 0, 0), 0, 0)), (12, (.aload_n 0, 1, (0, 0, 0), 0, 0)), (13, (.getfield 24, 3, (0, 4, 0), 0, 387)), (16, (.iload_n 1, 1, (0, 0, 0), 0, 0)), (17, (.bipush 8, 2, (0, 0, 0), 8, 0)), (19, (.imul, 1, (0, 0, 0), 0, 0)), (20, (.iload 4, 2, (0, 0, 0), 0, 0)), (22, (.iadd, 1, (0, 0, 0), 0, 0)), (23, (.iaload, 1, (0, 0, 0), 0, 0)), (24, (.iload_n 2, 1, (0, 0, 0), 0, 0)), (25, (.invokestatic 74, 3, (0, 96, 0), 0, 690)), (28, (.istore 5, 2, (0, 0, 0), 0, 0)), (30, (.aload_n 0, 1, (0, 0, 0), 0, 0)), (31, (.getfield 24, 3, (0, 4, 0), 0, 387))],
  [(34, (.iload_n 1, 1, (0, 0, 0), 0, 0)), (35, (.bipush 8, 2, (0, 0, 0), 8, 0)), (37, (.imul, 1, (0, 0, 0), 0, 0)), (38, (.iload 4, 2, (0, 0, 0), 0, 0)), (40, (.iadd, 1, (0, 0, 0), 0, 0)), (41, (.dup2, 1, (0, 0, 0), 0, 0)), (42, (.iaload, 1, (0, 0, 0), 0, 0)), (43, (.iload 5, 2, (0, 0, 0), 0, 0)), (45, (.isub, 1, (0, 0, 0), 0, 0)), (46, (.iastore, 1, (0, 0, 0), 0, 0)), (47, (.iload_n 3, 1, (0, 0, 0), 0, 0)), (48, (.iload 5, 2, (0, 0, 0), 0, 0)), (50, (.iadd, 1, (0, 0, 0), 0, 0)), (51, (.istore_n 3, 1, (0, 0, 0), 0, 0)), (52, (.iinc 4 1, 3, (0, 0, 0), 1, 0)), (55, (.goto (-50), 3, (5, 0, 0), 0, 0)), (58, (.aload_n 0, 1, (0, 0, 0), 0, 0)), (59, (.dup, 1, (0, 0, 0), 0, 0)), (60, (.getfield 30, 3, (0, 6, 0), 0, 392)), (63, (.iload_n 3, 1, (0, 0, 0), 0, 0))],
  [(64, (.iadd, 1, (0, 0, 0), 0, 0)), (65, (.putfield 30, 3, (0, 6, 0), 0, 392)), (68, (.iload_n 3, 1, (0, 0, 0), 0, 0)), (69, (.ireturn, 1, (0, 0, 0), 0, 0))]]
set_option maxRecDepth 10000 in
def zp103 : List (List (Nat × ZI)) := [[(0, (.iconst 0, 1, (0, 0, 0), 0, 0)), (1, (.istore 4, 2, (0, 0, 0), 0, 0)), (3, (.iconst 0, 1, (0, 0, 0), 0, 0)), (4, (.istore 5, 2, (0, 0, 0), 0, 0)), (6, (.iload 5, 2, (0, 0, 0), 0, 0)), (8, (.bipush 8, 2, (0, 0, 0), 8, 0)), (10, (.if_icmp .ge 68, 3, (78, 0, 0), 0, 0)), (13, (.aload_n 0, 1, (0, 0, 0), 0, 0)), (14, (.getfield 27, 3, (0, 5, 0), 0, 390)), (17, (.iload_n 1, 1, (0, 0, 0), 0, 0)), (18, (.bipush 8, 2, (0, 0, 0), 8, 0)), (20, (.imul, 1, (0, 0, 0), 0, 0)), (21, (.iload 5, 2, (0, 0, 0), 0, 0)), (23, (.iadd, 1, (0, 0, 0), 0, 0)), (24, (.iaload, 1, (0, 0, 0), 0, 0)), (25, (.iload_n 3, 1, (0, 0, 0), 0, 0)), (26, (.invokestatic 74, 3, (0, 96, 0), 0, 690)), (29, (.istore 6, 2, (0, 0, 0), 0, 0)), (31, (.aload_n 0, 1, (0, 0, 0), 0, 0))],
  [(32, (.getfield 27, 3, (0, 5, 0), 0, 390)), (35, (.iload_n 1, 1, (0, 0, 0), 0, 0)), (36, (.bipush 8, 2, (0, 0, 0), 8, 0)), (38, (.imul, 1, (0, 0, 0), 0, 0)), (39, (.iload 5, 2, (0, 0, 0), 0, 0)), (41, (.iadd, 1, (0, 0, 0), 0, 0)), (42, (.dup2, 1, (0, 0, 0), 0, 0)), (43, (.iaload, 1, (0, 0, 0), 0, 0)), (44, (.iload 6, 2, (0, 0, 0), 0, 0)), (46, (.isub, 1, (0, 0, 0), 0, 0)), (47, (.iastore, 1, (0, 0, 0), 0, 0)), (48, (.aload_n 0, 1, (0, 0, 0), 0, 0)), (49, (.getfield 24, 3, (0, 4, 0), 0, 387)), (52, (.iload_n 2, 1, (0, 0, 0), 0, 0)), (53, (.bipush 8, 2, (0, 0, 0), 8, 0)), (55, (.imul, 1, (0, 0, 0), 0, 0)), (56, (.iload 5, 2, (0, 0, 0), 0, 0)), (58, (.iadd, 1, (0, 0, 0), 0, 0)), (59, (.dup2, 1, (0, 0, 0), 0, 0)), (60, (.iaload, 1, (0, 0, 0), 0, 0)), (61, (.iload 6, 2, (0, 0, 0), 0, 0)), (63, (.iadd, 1, (0, 0, 0), 0, 0))],
  [(64, (.iastore, 1, (0, 0, 0), 0, 0)), (65, (.iload 4, 2, (0, 0, 0), 0, 0)), (67, (.iload 6, 2, (0, 0, 0), 0, 0)), (69, (.iadd, 1, (0, 0, 0), 0, 0)), (70, (.istore 4, 2, (0, 0, 0), 0, 0)), (72, (.iinc 5 1, 3, (0, 0, 0), 1, 0)), (75, (.goto (-69), 3, (6, 0, 0), 0, 0)), (78, (.iload 4, 2, (0, 0, 0), 0, 0)), (80, (.ireturn, 1, (0, 0, 0), 0, 0))]]
set_option maxRecDepth 10000 in
def zp104 : List (List (Nat × ZI)) := [[(0, (.aload_n 0, 1, (0, 0, 0), 0, 0)), (1, (.iload_n 1, 1, (0, 0, 0), 0, 0)), (2, (.invokevirtual 62, 3, (0, 93, 0), 0, 679)), (5, (.i2l, 1, (0, 0, 0), 0, 0)), (6, (.lstore 4, 2, (0, 0, 0), 0, 0)), (8, (.iconst 0, 1, (0, 0, 0), 0, 0)), (9, (.istore 6, 2, (0, 0, 0), 0, 0)), (11, (.iload 6, 2, (0, 0, 0), 0, 0)), (13, (.bipush 8, 2, (0, 0, 0), 8, 0)), (15, (.if_icmp .ge 31, 3, (46, 0, 0), 0, 0)), (18, (.lload 4, 2, (0, 0, 0), 0, 0)), (20, (.aload_n 0, 1, (0, 0, 0), 0, 0)), (21, (.getfield 24, 3, (0, 4, 0), 0, 387)), (24, (.iload_n 2, 1, (0, 0, 0), 0, 0)), (25, (.bipush 8, 2, (0, 0, 0), 8, 0)), (27, (.imul, 1, (0, 0, 0), 0, 0)), (28, (.iload 6, 2, (0, 0, 0), 0, 0)), (30, (.iadd, 1, (0, 0, 0), 0, 0)), (31, (.iaload, 1, (0, 0, 0), 0, 0))],
  [(32, (.iload_n 3, 1, (0, 0, 0), 0, 0)), (33, (.invokestatic 74, 3, (0, 96, 0), 0, 690)), (36, (.i2l, 1, (0, 0, 0), 0, 0)), (37, (.ladd, 1, (0, 0, 0), 0, 0)), (38, (.lstore 4, 2, (0, 0, 0), 0, 0)), (40, (.iinc 6 1, 3, (0, 0, 0), 1, 0)), (43, (.goto (-32), 3, (11, 0, 0), 0, 0)), (46, (.lload 4, 2, (0, 0, 0), 0, 0)), (48, (.ldc2_w 80, 3, (0, 0, 0), 9999, 702)), (51, (.lcmp, 1, (0, 0, 0), 0, 0)), (52, (.ifCond .le 4, 3, (56, 0, 0), 0, 0)), (55, (.return_, 1, (0, 0, 0), 0, 0)), (56, (.iconst 0, 1, (0, 0, 0), 0, 0)), (57, (.istore 6, 2, (0, 0, 0), 0, 0)), (59, (.iload 6, 2, (0, 0, 0), 0, 0)), (61, (.bipush 8, 2, (0, 0, 0), 8, 0)), (63, (.if_icmp .ge 61, 3, (124, 0, 0), 0, 0))],
  [(66, (.aload_n 0, 1, (0, 0, 0), 0, 0)), (67, (.getfield 24, 3, (0, 4, 0), 0, 387)), (70, (.iload_n 2, 1, (0, 0, 0), 0, 0)), (71, (.bipush 8, 2, (0, 0, 0), 8, 0)), (73, (.imul, 1, (0, 0, 0), 0, 0)), (74, (.iload 6, 2, (0, 0, 0), 0, 0)), (76, (.iadd, 1, (0, 0, 0), 0, 0)), (77, (.iaload, 1, (0, 0, 0), 0, 0)), (78, (.iload_n 3, 1, (0, 0, 0), 0, 0)), (79, (.invokestatic 74, 3, (0, 96, 0), 0, 690)), (82, (.istore 7, 2, (0, 0, 0), 0, 0)), (84, (.aload_n 0, 1, (0, 0, 0), 0, 0)), (85, (.getfield 24, 3, (0, 4, 0), 0, 387)), (88, (.iload_n 2, 1, (0, 0, 0), 0, 0)), (89, (.bipush 8, 2, (0, 0, 0), 8, 0)), (91, (.imul, 1, (0, 0, 0), 0, 0)), (92, (.iload 6, 2, (0, 0, 0), 0, 0)), (94, (.iadd, 1, (0, 0, 0), 0, 0)), (95, (.dup2, 1, (0, 0, 0), 0, 0))],
  [(96, (.iaload, 1, (0, 0, 0), 0, 0)), (97, (.iload 7, 2, (0, 0, 0), 0, 0)), (99, (.isub, 1, (0, 0, 0), 0, 0)), (100, (.iastore, 1, (0, 0, 0), 0, 0)), (101, (.aload_n 0, 1, (0, 0, 0), 0, 0)), (102, (.getfield 27, 3, (0, 5, 0), 0, 390)), (105, (.iload_n 1, 1, (0, 0, 0), 0, 0)), (106, (.bipush 8, 2, (0, 0, 0), 8, 0)), (108, (.imul, 1, (0, 0, 0), 0, 0)), (109, (.iload 6, 2, (0, 0, 0), 0, 0)), (111, (.iadd, 1, (0, 0, 0), 0, 0)), (112, (.dup2, 1, (0, 0, 0), 0, 0)), (113, (.iaload, 1, (0, 0, 0), 0, 0)), (114, (.iload 7, 2, (0, 0, 0), 0, 0)), (116, (.iadd, 1, (0, 0, 0), 0, 0)), (117, (.iastore, 1, (0, 0, 0), 0, 0)), (118, (.iinc 6 1, 3, (0, 0, 0), 1, 0)), (121, (.goto (-62), 3, (59, 0, 0), 0, 0)), (124, (.return_, 1, (0, 0, 0), 0, 0))]]
set_option maxRecDepth 10000 in
def zp105 : List (List (Nat × ZI)) := [[(0, (.iconst (-1), 1, (0, 0, 0), (-1), 0)), (1, (.istore_n 3, 1, (0, 0, 0), 0, 0)), (2, (.iconst 0, 1, (0, 0, 0), 0, 0)), (3, (.istore 4, 2, (0, 0, 0), 0, 0)), (5, (.iconst 0, 1, (0, 0, 0), 0, 0)), (6, (.istore 5, 2, (0, 0, 0), 0, 0)), (8, (.iload 5, 2, (0, 0, 0), 0, 0)), (10, (.bipush 8, 2, (0, 0, 0), 8, 0)), (12, (.if_icmp .ge 31, 3, (43, 0, 0), 0, 0)), (15, (.aload_n 1, 1, (0, 0, 0), 0, 0)), (16, (.iload_n 2, 1, (0, 0, 0), 0, 0)), (17, (.iload 5, 2, (0, 0, 0), 0, 0)), (19, (.iadd, 1, (0, 0, 0), 0, 0)), (20, (.iaload, 1, (0, 0, 0), 0, 0)), (21, (.iload 4, 2, (0, 0, 0), 0, 0)), (23, (.if_icmp .le 14, 3, (37, 0, 0), 0, 0)), (26, (.aload_n 1, 1, (0, 0, 0), 0, 0)), (27, (.iload_n 2, 1, (0, 0, 0), 0, 0)), (28, (.iload 5, 2, (0, 0, 0), 0, 0)), (30, (.iadd, 1, (0, 0, 0), 0, 0)), (31, (.iaload, 1, (0, 0, 0), 0, 0))],
  [(32, (.istore 4, 2, (0, 0, 0), 0, 0)), (34, (.iload 5, 2, (0, 0, 0), 0, 0)), (36, (.istore_n 3, 1, (0, 0, 0), 0, 0)), (37, (.iinc 5 1, 3, (0, 0, 0), 1, 0)), (40, (.goto (-32), 3, (8, 0, 0), 0, 0)), (43, (.iload_n 3, 1, (0, 0, 0), 0, 0)), (44, (.ireturn, 1, (0, 0, 0), 0, 0))]]
set_option maxRecDepth 10000 in
def zp106 : List (List (Nat × ZI)) := [[(0, (.iconst 0, 1, (0, 0, 0), 0, 0)), (1, (.istore_n 3, 1, (0, 0, 0), 0, 0)), (2, (.iconst 0, 1, (0, 0, 0), 0, 0)), (3, (.istore 4, 2, (0, 0, 0), 0, 0)), (5, (.iload 4, 2, (0, 0, 0), 0, 0)), (7, (.bipush 8, 2, (0, 0, 0), 8, 0)), (9, (.if_icmp .ge 21, 3, (30, 0, 0), 0, 0)), (12, (.aload_n 1, 1, (0, 0, 0), 0, 0)), (13, (.iload_n 2, 1, (0, 0, 0), 0, 0)), (14, (.iload 4, 2, (0, 0, 0), 0, 0)), (16, (.iadd, 1, (0, 0, 0), 0, 0)), (17, (.iaload, 1, (0, 0, 0), 0, 0)), (18, (.ifCond .le 6, 3, (24, 0, 0), 0, 0)), (21, (.iinc 3 1, 3, (0, 0, 0), 1, 0)), (24, (.iinc 4 1, 3, (0, 0, 0), 1, 0)), (27, (.goto (-22), 3, (5, 0, 0), 0, 0)), (30, (.iload_n 3, 1, (0, 0, 0), 0, 0)), (31, (.ireturn, 1, (0, 0, 0), 0, 0))]]
set_option maxRecDepth 10000 in
def zp107 : List (List (Nat × ZI)) := [[(0, (.aload_n 0, 1, (0, 0, 0), 0, 0)), (1, (.invokespecial 3, 3, (1, 0, 0), 0, 446)), (4, (.aload_n 0, 1, (0, 0, 0), 0, 0)), (5, (.sipush 400, 3, (0, 0, 0), 400, 0)), (8, (.newarray .int, 2, (0, 0, 0), 0, 251)), (10, (.putfield 11, 3, (1, 0, 0), 0, 447)), (13, (.aload_n 0, 1, (0, 0, 0), 0, 0)), (14, (.iconst 0, 1, (0, 0, 0), 0, 0)), (15, (.putfield 15, 3, (1, 1, 0), 0, 448)), (18, (.aload_n 0, 1, (0, 0, 0), 0, 0)), (19, (.iconst 0, 1, (0, 0, 0), 0, 0)), (20, (.putfield 19, 3, (1, 2, 0), 0, 450)), (23, (.return_, 1, (0, 0, 0), 0, 0))]]
set_option maxRecDepth 10000 in
def zp108 : List (List (Nat × ZI)) := [[(0, (.aload_n 1, 1, (0, 0, 0), 0, 0)), (1, (.getfield 11, 3, (1, 0, 0), 0, 447)), (4, (.iconst 0, 1, (0, 0, 0), 0, 0)), (5, (.aload_n 0, 1, (0, 0, 0), 0, 0)), (6, (.getfield 11, 3, (1, 0, 0), 0, 447)), (9, (.iconst 0, 1, (0, 0, 0), 0, 0)), (10, (.sipush 400, 3, (0, 0, 0), 400, 0)), (13, (.invokestatic 22, 3, (6, 0, 0), 0, 759)), (16, (.aload_n 0, 1, (0, 0, 0), 0, 0)), (17, (.aload_n 1, 1, (0, 0, 0), 0, 0)), (18, (.getfield 15, 3, (1, 1, 0), 0, 448)), (21, (.putfield 15, 3, (1, 1, 0), 0, 448)), (24, (.aload_n 0, 1, (0, 0, 0), 0, 0)), (25, (.aload_n 1, 1, (0, 0, 0), 0, 0)), (26, (.getfield 19, 3, (1, 2, 0), 0, 450)), (29, (.putfield 19, 3, (1, 2, 0), 0, 450))],
  [(32, (.return_, 1, (0, 0, 0), 0, 0))]]
set_option maxRecDepth 10000 in
def zp109 : List (List (Nat × ZI)) := [[(0, (.aload_n 0, 1, (0, 0, 0), 0, 0)), (1, (.getfield 19, 3, (1, 2, 0), 0, 450)), (4, (.iconst 5, 1, (0, 0, 0), 5, 0)), (5, (.imul, 1, (0, 0, 0), 0, 0)), (6, (.istore 6, 2, (0, 0, 0), 0, 0)), (8, (.aload_n 0, 1, (0, 0, 0), 0, 0)), (9, (.getfield 11, 3, (1, 0, 0), 0, 447)), (12, (.iload 6, 2, (0, 0, 0), 0, 0)), (14, (.iload_n 1, 1, (0, 0, 0), 0, 0)), (15, (.iastore, 1, (0, 0, 0), 0, 0)), (16, (.aload_n 0, 1, (0, 0, 0), 0, 0)), (17, (.getfield 11, 3, (1, 0, 0), 0, 447)), (20, (.iload 6, 2, (0, 0, 0), 0, 0)), (22, (.iconst 1, 1, (0, 0, 0), 1, 0)), (23, (.iadd, 1, (0, 0, 0), 0, 0)), (24, (.iload_n 2, 1, (0, 0, 0), 0, 0)), (25, (.iastore, 1, (0, 0, 0), 0, 0)), (26, (.aload_n 0, 1, (0, 0, 0), 0, 0)), (27, (.getfield 11, 3, (1, 0, 0), 0, 447)), (30, (.iload 6, 2, (0, 0, 0), 0, 0))],
  [(32, (.iconst 2, 1, (0, 0, 0), 2, 0)), (33, (.iadd, 1, (0, 0, 0), 0, 0)), (34, (.iload_n 3, 1, (0, 0, 0), 0, 0)), (35, (.iastore, 1, (0, 0, 0), 0, 0)), (36, (.aload_n 0, 1, (0, 0, 0), 0, 0)), (37, (.getfield 11, 3, (1, 0, 0), 0, 447)), (40, (.iload 6, 2, (0, 0, 0), 0, 0)), (42, (.iconst 3, 1, (0, 0, 0), 3, 0)), (43, (.iadd, 1, (0, 0, 0), 0, 0)), (44, (.iload 4, 2, (0, 0, 0), 0, 0)), (46, (.iastore, 1, (0, 0, 0), 0, 0)), (47, (.aload_n 0, 1, (0, 0, 0), 0, 0)), (48, (.getfield 11, 3, (1, 0, 0), 0, 447)), (51, (.iload 6, 2, (0, 0, 0), 0, 0)), (53, (.iconst 4, 1, (0, 0, 0), 4, 0)), (54, (.iadd, 1, (0, 0, 0), 0, 0)), (55, (.iload 5, 2, (0, 0, 0), 0, 0)), (57, (.iastore, 1, (0, 0, 0), 0, 0)), (58, (.aload_n 0, 1, (0, 0, 0), 0, 0)), (59, (.aload_n 0, 1, (0, 0, 0), 0, 0)), (60, (.getfield 19, 3, (1, 2, 0), 0, 450)), (63, (.iconst 1, 1, (0, 0, 0), 1, 0))],
  [(64, (.iadd, 1, (0, 0, 0), 0, 0)), (65, (.bipush 80, 2, (0, 0, 0), 80, 0)), (67, (.if_icmp .ge 12, 3, (79, 0, 0), 0, 0)), (70, (.aload_n 0, 1, (0, 0, 0), 0, 0)), (71, (.getfield 19, 3, (1, 2, 0), 0, 450)), (74, (.iconst 1, 1, (0, 0, 0), 1, 0)), (75, (.iadd, 1, (0, 0, 0), 0, 0)), (76, (.goto 4, 3, (80, 0, 0), 0, 0)), (79, (.iconst 0, 1, (0, 0, 0), 0, 0)), (80, (.putfield 19, 3, (1, 2, 0), 0, 450)), (83, (.aload_n 0, 1, (0, 0, 0), 0, 0)), (84, (.aload_n 0, 1, (0, 0, 0), 0, 0)), (85, (.getfield 15, 3, (1, 1, 0), 0, 448)), (88, (.iconst 1, 1, (0, 0, 0), 1, 0)), (89, (.iadd, 1, (0, 0, 0), 0, 0)), (90, (.bipush 80, 2, (0, 0, 0), 80, 0)), (92, (.invokestatic 28, 3, (2, 0, 0), 0, 710)), (95, (.putfield 15, 3, (1, 1, 0), 0, 448))],
  [(98, (.return_, 1, (0, 0, 0), 0, 0))]]
set_option maxRecDepth 10000 in
def zp110 : List (List (Nat × ZI)) := [[(0, (.iload_n 1, 1, (0, 0, 0), 0, 0)), (1, (.ifCond .lt 11, 3, (12, 0, 0), 0, 0)), (4, (.iload_n 1, 1, (0, 0, 0), 0, 0)), (5, (.aload_n 0, 1, (0, 0, 0), 0, 0)), (6, (.getfield 15, 3, (1, 1, 0), 0, 448)), (9, (.if_icmp .lt 5, 3, (14, 0, 0), 0, 0)), (12, (.iconst (-1), 1, (0, 0, 0), (-1), 0)), (13, (.ireturn, 1, (0, 0, 0), 0, 0)), (14, (.aload_n 0, 1, (0, 0, 0), 0, 0)), (15, (.getfield 11, 3, (1, 0, 0), 0, 447)), (18, (.aload_n 0, 1, (0, 0, 0), 0, 0)), (19, (.getfield 19, 3, (1, 2, 0), 0, 450)), (22, (.iconst 1, 1, (0, 0, 0), 1, 0)), (23, (.isub, 1, (0, 0, 0), 0, 0)), (24, (.iload_n 1, 1, (0, 0, 0), 0, 0)), (25, (.isub, 1, (0, 0, 0), 0, 0)), (26, (.bipush 80, 2, (0, 0, 0), 80, 0)), (28, (.invokestatic 34, 3, (0, 336, 0), 0, 739)), (31, (.iconst 5, 1, (0, 0, 0), 5, 0))],
  [(32, (.imul, 1, (0, 0, 0), 0, 0)), (33, (.iload_n 2, 1, (0, 0, 0), 0, 0)), (34, (.iadd, 1, (0, 0, 0), 0, 0)), (35, (.iaload, 1, (0, 0, 0), 0, 0)), (36, (.ireturn, 1, (0, 0, 0), 0, 0))]]
set_option maxRecDepth 10000 in
def zp111 : List (List (Nat × ZI)) := [[(0, (.iconst 0, 1, (0, 0, 0), 0, 0)), (1, (.istore_n 2, 1, (0, 0, 0), 0, 0)), (2, (.iconst 0, 1, (0, 0, 0), 0, 0)), (3, (.istore_n 3, 1, (0, 0, 0), 0, 0)), (4, (.iload_n 3, 1, (0, 0, 0), 0, 0)), (5, (.aload_n 0, 1, (0, 0, 0), 0, 0)), (6, (.getfield 15, 3, (1, 1, 0), 0, 448)), (9, (.if_icmp .ge 30, 3, (39, 0, 0), 0, 0)), (12, (.aload_n 0, 1, (0, 0, 0), 0, 0)), (13, (.iload_n 3, 1, (0, 0, 0), 0, 0)), (14, (.iconst 2, 1, (0, 0, 0), 2, 0)), (15, (.invokevirtual 37, 3, (0, 110, 0), 0, 735)), (18, (.iload_n 1, 1, (0, 0, 0), 0, 0)), (19, (.if_icmp .ne 14, 3, (33, 0, 0), 0, 0)), (22, (.iload_n 2, 1, (0, 0, 0), 0, 0)), (23, (.iconst 1, 1, (0, 0, 0), 1, 0)), (24, (.aload_n 0, 1, (0, 0, 0), 0, 0)), (25, (.iload_n 3, 1, (0, 0, 0), 0, 0)), (26, (.iconst 1, 1, (0, 0, 0), 1, 0)), (27, (.invokevirtual 37, 3, (0, 110, 0), 0, 735)), (30, (.ishl, 1, (0, 0, 0), 0, 0)), (31, (.ior, 1, (0, 0, 0), 0, 0))],
  [(32, (.istore_n 2, 1, (0, 0, 0), 0, 0)), (33, (.iinc 3 1, 3, (0, 0, 0), 1, 0)), (36, (.goto (-32), 3, (4, 0, 0), 0, 0)), (39, (.iload_n 2, 1, (0, 0, 0), 0, 0)), (40, (.ireturn, 1, (0, 0, 0), 0, 0))]]
set_option maxRecDepth 10000 in
def zp112 : List (List (Nat × ZI)) := [[(0, (.iload_n 1, 1, (0, 0, 0), 0, 0)), (1, (.istore_n 3, 1, (0, 0, 0), 0, 0)), (2, (.iconst 0, 1, (0, 0, 0), 0, 0)), (3, (.istore 4, 2, (0, 0, 0), 0, 0)), (5, (.iconst 0, 1, (0, 0, 0), 0, 0)), (6, (.istore 5, 2, (0, 0, 0), 0, 0)), (8, (.iload 5, 2, (0, 0, 0), 0, 0)), (10, (.aload_n 0, 1, (0, 0, 0), 0, 0)), (11, (.getfield 15, 3, (1, 1, 0), 0, 448)), (14, (.if_icmp .ge 37, 3, (51, 0, 0), 0, 0)), (17, (.iload 4, 2, (0, 0, 0), 0, 0)), (19, (.iload_n 2, 1, (0, 0, 0), 0, 0)), (20, (.if_icmp .ge 31, 3, (51, 0, 0), 0, 0)), (23, (.aload_n 0, 1, (0, 0, 0), 0, 0)), (24, (.iload 5, 2, (0, 0, 0), 0, 0)), (26, (.iconst 2, 1, (0, 0, 0), 2, 0)), (27, (.invokevirtual 37, 3, (0, 110, 0), 0, 735)), (30, (.iload_n 3, 1, (0, 0, 0), 0, 0)), (31, (.if_icmp .ne 14, 3, (45, 0, 0), 0, 0))],
  [(34, (.aload_n 0, 1, (0, 0, 0), 0, 0)), (35, (.iload 5, 2, (0, 0, 0), 0, 0)), (37, (.iconst 4, 1, (0, 0, 0), 4, 0)), (38, (.invokevirtual 37, 3, (0, 110, 0), 0, 735)), (41, (.istore_n 3, 1, (0, 0, 0), 0, 0)), (42, (.iinc 4 1, 3, (0, 0, 0), 1, 0)), (45, (.iinc 5 1, 3, (0, 0, 0), 1, 0)), (48, (.goto (-40), 3, (8, 0, 0), 0, 0)), (51, (.iload 4, 2, (0, 0, 0), 0, 0)), (53, (.iload_n 2, 1, (0, 0, 0), 0, 0)), (54, (.if_icmp .ne 7, 3, (61, 0, 0), 0, 0)), (57, (.iload_n 3, 1, (0, 0, 0), 0, 0)), (58, (.goto 4, 3, (62, 0, 0), 0, 0)), (61, (.iconst (-1), 1, (0, 0, 0), (-1), 0)), (62, (.ireturn, 1, (0, 0, 0), 0, 0))]]
set_option maxRecDepth 10000 in
def zp113 : List (List (Nat × ZI)) := [[(0, (.aload_n 0, 1, (0, 0, 0), 0, 0)), (1, (.invokespecial 3, 3, (1, 0, 0), 0, 257)), (4, (.aload_n 0, 1, (0, 0, 0), 0, 0)), (5, (.new 9, 3, (0, 8, 0), 0, 258)), (8, (.dup, 1, (0, 0, 0), 0, 0)), (9, (.invokespecial 11, 3, (0, 169, 1), 0, 260)), (12, (.putfield 12, 3, (2, 0, 0), 0, 348)), (15, (.aload_n 0, 1, (0, 0, 0), 0, 0)), (16, (.new 18, 3, (0, 5, 0), 0, 315)), (19, (.dup, 1, (0, 0, 0), 0, 0)), (20, (.invokespecial 20, 3, (0, 147, 1), 0, 317)), (23, (.putfield 21, 3, (2, 1, 0), 0, 352)), (26, (.aload_n 0, 1, (0, 0, 0), 0, 0)), (27, (.bipush 12, 2, (0, 0, 0), 12, 0)), (29, (.newarray .int, 2, (0, 0, 0), 0, 251)), (31, (.putfield 25, 3, (2, 2, 0), 0, 355))],
  [(34, (.return_, 1, (0, 0, 0), 0, 0))]]
set_option maxRecDepth 10000 in
def zp114 : List (List (Nat × ZI)) := [[(0, (.aload_n 0, 1, (0, 0, 0), 0, 0)), (1, (.getfield 25, 3, (2, 2, 0), 0, 355)), (4, (.iconst 0, 1, (0, 0, 0), 0, 0)), (5, (.iload_n 2, 1, (0, 0, 0), 0, 0)), (6, (.iastore, 1, (0, 0, 0), 0, 0)), (7, (.aload_n 0, 1, (0, 0, 0), 0, 0)), (8, (.getfield 25, 3, (2, 2, 0), 0, 355)), (11, (.iconst 1, 1, (0, 0, 0), 1, 0)), (12, (.iload_n 3, 1, (0, 0, 0), 0, 0)), (13, (.iastore, 1, (0, 0, 0), 0, 0)), (14, (.aload_n 0, 1, (0, 0, 0), 0, 0)), (15, (.getfield 25, 3, (2, 2, 0), 0, 355)), (18, (.iconst 2, 1, (0, 0, 0), 2, 0)), (19, (.aload_n 1, 1, (0, 0, 0), 0, 0)), (20, (.iload_n 2, 1, (0, 0, 0), 0, 0)), (21, (.invokevirtual 29, 3, (0, 93, 1), 0, 653)), (24, (.iastore, 1, (0, 0, 0), 0, 0)), (25, (.aload_n 0, 1, (0, 0, 0), 0, 0)), (26, (.getfield 25, 3, (2, 2, 0), 0, 355)), (29, (.iconst 3, 1, (0, 0, 0), 3, 0)), (30, (.aload_n 1, 1, (0, 0, 0), 0, 0)), (31, (.iload_n 3, 1, (0, 0, 0), 0, 0))],
  [(32, (.invokevirtual 35, 3, (0, 92, 1), 0, 657)), (35, (.iastore, 1, (0, 0, 0), 0, 0)), (36, (.aload_n 0, 1, (0, 0, 0), 0, 0)), (37, (.getfield 25, 3, (2, 2, 0), 0, 355)), (40, (.iconst 4, 1, (0, 0, 0), 4, 0)), (41, (.aload_n 1, 1, (0, 0, 0), 0, 0)), (42, (.getfield 38, 3, (0, 10, 1), 0, 407)), (45, (.iastore, 1, (0, 0, 0), 0, 0)), (46, (.aload_n 0, 1, (0, 0, 0), 0, 0)), (47, (.getfield 25, 3, (2, 2, 0), 0, 355)), (50, (.iconst 5, 1, (0, 0, 0), 5, 0)), (51, (.aload_n 1, 1, (0, 0, 0), 0, 0)), (52, (.getfield 42, 3, (0, 0, 1), 0, 370)), (55, (.iload_n 3, 1, (0, 0, 0), 0, 0)), (56, (.iaload, 1, (0, 0, 0), 0, 0)), (57, (.iastore, 1, (0, 0, 0), 0, 0)), (58, (.iconst 0, 1, (0, 0, 0), 0, 0)), (59, (.istore 4, 2, (0, 0, 0), 0, 0)), (61, (.iload 4, 2, (0, 0, 0), 0, 0)), (63, (.iconst 4, 1, (0, 0, 0), 4, 0))],
  [(64, (.if_icmp .gt 38, 3, (102, 0, 0), 0, 0)), (67, (.aload_n 0, 1, (0, 0, 0), 0, 0)), (68, (.getfield 25, 3, (2, 2, 0), 0, 355)), (71, (.bipush 6, 2, (0, 0, 0), 6, 0)), (73, (.iload 4, 2, (0, 0, 0), 0, 0)), (75, (.iadd, 1, (0, 0, 0), 0, 0)), (76, (.aload_n 0, 1, (0, 0, 0), 0, 0)), (77, (.getfield 12, 3, (2, 0, 0), 0, 348)), (80, (.getfield 45, 3, (8, 4, 1), 0, 280)), (83, (.iload_n 3, 1, (0, 0, 0), 0, 0)), (84, (.iaload, 1, (0, 0, 0), 0, 0)), (85, (.iload 4, 2, (0, 0, 0), 0, 0)), (87, (.if_icmp .ne 7, 3, (94, 0, 0), 0, 0)), (90, (.iconst 1, 1, (0, 0, 0), 1, 0)), (91, (.goto 4, 3, (95, 0, 0), 0, 0)), (94, (.iconst 0, 1, (0, 0, 0), 0, 0)), (95, (.iastore, 1, (0, 0, 0), 0, 0))],
  [(96, (.iinc 4 1, 3, (0, 0, 0), 1, 0)), (99, (.goto (-38), 3, (61, 0, 0), 0, 0)), (102, (.aload_n 0, 1, (0, 0, 0), 0, 0)), (103, (.getfield 25, 3, (2, 2, 0), 0, 355)), (106, (.bipush 11, 2, (0, 0, 0), 11, 0)), (108, (.aload_n 1, 1, (0, 0, 0), 0, 0)), (109, (.getfield 48, 3, (0, 3, 1), 0, 384)), (112, (.iload_n 2, 1, (0, 0, 0), 0, 0)), (113, (.iaload, 1, (0, 0, 0), 0, 0)), (114, (.ifCond .le 7, 3, (121, 0, 0), 0, 0)), (117, (.iconst 1, 1, (0, 0, 0), 1, 0)), (118, (.goto 4, 3, (122, 0, 0), 0, 0)), (121, (.iconst 0, 1, (0, 0, 0), 0, 0)), (122, (.iastore, 1, (0, 0, 0), 0, 0)), (123, (.return_, 1, (0, 0, 0), 0, 0))]]
set_option maxRecDepth 10000 in
def zp115 : List (List (Nat × ZI)) := [[(0, (.aload_n 0, 1, (0, 0, 0), 0, 0)), (1, (.aload_n 1, 1, (0, 0, 0), 0, 0)), (2, (.iload_n 2, 1, (0, 0, 0), 0, 0)), (3, (.iload_n 3, 1, (0, 0, 0), 0, 0)), (4, (.invokevirtual 51, 3, (0, 114, 0), 0, 649)), (7, (.aload_n 0, 1, (0, 0, 0), 0, 0)), (8, (.getfield 21, 3, (2, 1, 0), 0, 352)), (11, (.iload 4, 2, (0, 0, 0), 0, 0)), (13, (.aload_n 0, 1, (0, 0, 0), 0, 0)), (14, (.getfield 25, 3, (2, 2, 0), 0, 355)), (17, (.invokevirtual 55, 3, (0, 153, 1), 0, 661)), (20, (.ireturn, 1, (0, 0, 0), 0, 0))]]
set_option maxRecDepth 10000 in
def zp116 : List (List (Nat × ZI)) := [[(0, (.aload_n 0, 1, (0, 0, 0), 0, 0)), (1, (.aload_n 1, 1, (0, 0, 0), 0, 0)), (2, (.iconst 0, 1, (0, 0, 0), 0, 0)), (3, (.iload_n 2, 1, (0, 0, 0), 0, 0)), (4, (.invokevirtual 51, 3, (0, 114, 0), 0, 649)), (7, (.aload_n 0, 1, (0, 0, 0), 0, 0)), (8, (.getfield 25, 3, (2, 2, 0), 0, 355)), (11, (.iconst 2, 1, (0, 0, 0), 2, 0)), (12, (.iconst 0, 1, (0, 0, 0), 0, 0)), (13, (.iastore, 1, (0, 0, 0), 0, 0)), (14, (.aload_n 0, 1, (0, 0, 0), 0, 0)), (15, (.getfield 25, 3, (2, 2, 0), 0, 355)), (18, (.bipush 11, 2, (0, 0, 0), 11, 0)), (20, (.iconst 0, 1, (0, 0, 0), 0, 0)), (21, (.iastore, 1, (0, 0, 0), 0, 0)), (22, (.aload_n 0, 1, (0, 0, 0), 0, 0)), (23, (.getfield 21, 3, (2, 1, 0), 0, 352)), (26, (.iconst 3, 1, (0, 0, 0), 3, 0)), (27, (.aload_n 0, 1, (0, 0, 0), 0, 0)), (28, (.getfield 25, 3, (2, 2, 0), 0, 355)), (31, (.invokevirtual 55, 3, (0, 153, 1), 0, 661))],
  [(34, (.ireturn, 1, (0, 0, 0), 0, 0))]]
set_option maxRecDepth 10000 in
def zp117 : List (List (Nat × ZI)) := [[(0, (.iconst 0, 1, (0, 0, 0), 0, 0)), (1, (.istore_n 3, 1, (0, 0, 0), 0, 0)), (2, (.iconst 0, 1, (0, 0, 0), 0, 0)), (3, (.istore 4, 2, (0, 0, 0), 0, 0)), (5, (.iload 4, 2, (0, 0, 0), 0, 0)), (7, (.aload_n 0, 1, (0, 0, 0), 0, 0)), (8, (.getfield 12, 3, (2, 0, 0), 0, 348)), (11, (.getfield 59, 3, (8, 2, 1), 0, 273)), (14, (.if_icmp .ge 20, 3, (34, 0, 0), 0, 0)), (17, (.iload_n 3, 1, (0, 0, 0), 0, 0)), (18, (.aload_n 0, 1, (0, 0, 0), 0, 0)), (19, (.aload_n 1, 1, (0, 0, 0), 0, 0)), (20, (.iload 4, 2, (0, 0, 0), 0, 0)), (22, (.aload_n 2, 1, (0, 0, 0), 0, 0)), (23, (.invokevirtual 62, 3, (0, 118, 0), 0, 641)), (26, (.iadd, 1, (0, 0, 0), 0, 0)), (27, (.istore_n 3, 1, (0, 0, 0), 0, 0)), (28, (.iinc 4 1, 3, (0, 0, 0), 1, 0)), (31, (.goto (-26), 3, (5, 0, 0), 0, 0))],
  [(34, (.iconst 0, 1, (0, 0, 0), 0, 0)), (35, (.istore 4, 2, (0, 0, 0), 0, 0)), (37, (.iload 4, 2, (0, 0, 0), 0, 0)), (39, (.aload_n 0, 1, (0, 0, 0), 0, 0)), (40, (.getfield 12, 3, (2, 0, 0), 0, 348)), (43, (.getfield 66, 3, (8, 0, 1), 0, 266)), (46, (.if_icmp .ge 51, 3, (97, 0, 0), 0, 0)), (49, (.aload_n 0, 1, (0, 0, 0), 0, 0)), (50, (.getfield 12, 3, (2, 0, 0), 0, 348)), (53, (.getfield 45, 3, (8, 4, 1), 0, 280)), (56, (.iload 4, 2, (0, 0, 0), 0, 0)), (58, (.iaload, 1, (0, 0, 0), 0, 0)), (59, (.iconst 4, 1, (0, 0, 0), 4, 0)), (60, (.if_icmp .ne 31, 3, (91, 0, 0), 0, 0)), (63, (.aload_n 1, 1, (0, 0, 0), 0, 0))],
  [(64, (.getfield 69, 3, (0, 8, 1), 0, 398)), (67, (.aload_n 1, 1, (0, 0, 0), 0, 0)), (68, (.getfield 72, 3, (0, 9, 1), 0, 402)), (71, (.if_icmp .ge 20, 3, (91, 0, 0), 0, 0)), (74, (.aload_n 1, 1, (0, 0, 0), 0, 0)), (75, (.dup, 1, (0, 0, 0), 0, 0)), (76, (.getfield 69, 3, (0, 8, 1), 0, 398)), (79, (.aload_n 1, 1, (0, 0, 0), 0, 0)), (80, (.iload 4, 2, (0, 0, 0), 0, 0)), (82, (.bipush 10, 2, (0, 0, 0), 10, 0)), (84, (.invokevirtual 75, 3, (0, 102, 1), 0, 711)), (87, (.iadd, 1, (0, 0, 0), 0, 0)), (88, (.putfield 69, 3, (0, 8, 1), 0, 398)), (91, (.iinc 4 1, 3, (0, 0, 0), 1, 0)), (94, (.goto (-57), 3, (37, 0, 0), 0, 0))],
  [(97, (.aload_n 1, 1, (0, 0, 0), 0, 0)), (98, (.dup, 1, (0, 0, 0), 0, 0)), (99, (.getfield 38, 3, (0, 10, 1), 0, 407)), (102, (.iconst 1, 1, (0, 0, 0), 1, 0)), (103, (.iadd, 1, (0, 0, 0), 0, 0)), (104, (.putfield 38, 3, (0, 10, 1), 0, 407)), (107, (.iload_n 3, 1, (0, 0, 0), 0, 0)), (108, (.ireturn, 1, (0, 0, 0), 0, 0))]]
set_option maxRecDepth 10000 in
def zp118 : List (List (Nat × ZI)) := [[(0, (.aload_n 0, 1, (0, 0, 0), 0, 0)), (1, (.getfield 12, 3, (2, 0, 0), 0, 348)), (4, (.iload_n 2, 1, (0, 0, 0), 0, 0)), (5, (.aload_n 1, 1, (0, 0, 0), 0, 0)), (6, (.getfield 79, 3, (0, 1, 1), 0, 375)), (9, (.iload_n 2, 1, (0, 0, 0), 0, 0)), (10, (.iaload, 1, (0, 0, 0), 0, 0)), (11, (.invokevirtual 82, 3, (0, 173, 1), 0, 645)), (14, (.istore 4, 2, (0, 0, 0), 0, 0)), (16, (.aload_n 1, 1, (0, 0, 0), 0, 0)), (17, (.getfield 79, 3, (0, 1, 1), 0, 375)), (20, (.iload_n 2, 1, (0, 0, 0), 0, 0)), (21, (.aload_n 1, 1, (0, 0, 0), 0, 0)), (22, (.getfield 79, 3, (0, 1, 1), 0, 375)), (25, (.iload_n 2, 1, (0, 0, 0), 0, 0)), (26, (.iaload, 1, (0, 0, 0), 0, 0)), (27, (.iconst 1, 1, (0, 0, 0), 1, 0)), (28, (.iadd, 1, (0, 0, 0), 0, 0)), (29, (.aload_n 0, 1, (0, 0, 0), 0, 0)), (30, (.getfield 12, 3, (2, 0, 0), 0, 348))],
  [(33, (.getfield 85, 3, (8, 7, 1), 0, 291)), (36, (.iload_n 2, 1, (0, 0, 0), 0, 0)), (37, (.iaload, 1, (0, 0, 0), 0, 0)), (38, (.if_icmp .ge 14, 3, (52, 0, 0), 0, 0)), (41, (.aload_n 1, 1, (0, 0, 0), 0, 0)), (42, (.getfield 79, 3, (0, 1, 1), 0, 375)), (45, (.iload_n 2, 1, (0, 0, 0), 0, 0)), (46, (.iaload, 1, (0, 0, 0), 0, 0)), (47, (.iconst 1, 1, (0, 0, 0), 1, 0)), (48, (.iadd, 1, (0, 0, 0), 0, 0)), (49, (.goto 4, 3, (53, 0, 0), 0, 0)), (52, (.iconst 0, 1, (0, 0, 0), 0, 0)), (53, (.iastore, 1, (0, 0, 0), 0, 0)), (54, (.aload_n 0, 1, (0, 0, 0), 0, 0)), (55, (.getfield 12, 3, (2, 0, 0), 0, 348)), (58, (.iload_n 2, 1, (0, 0, 0), 0, 0)), (59, (.aload_n 1, 1, (0, 0, 0), 0, 0)), (60, (.getfield 79, 3, (0, 1, 1), 0, 375)), (63, (.iload_n 2, 1, (0, 0, 0), 0, 0))],
  [(64, (.iaload, 1, (0, 0, 0), 0, 0)), (65, (.invokevirtual 82, 3, (0, 173, 1), 0, 645)), (68, (.istore 5, 2, (0, 0, 0), 0, 0)), (70, (.iload 4, 2, (0, 0, 0), 0, 0)), (72, (.iconst (-1), 1, (0, 0, 0), (-1), 0)), (73, (.if_icmp .eq 9, 3, (82, 0, 0), 0, 0)), (76, (.iload 5, 2, (0, 0, 0), 0, 0)), (78, (.iconst (-1), 1, (0, 0, 0), (-1), 0)), (79, (.if_icmp .ne 5, 3, (84, 0, 0), 0, 0)), (82, (.iconst 0, 1, (0, 0, 0), 0, 0)), (83, (.ireturn, 1, (0, 0, 0), 0, 0)), (84, (.aload_n 0, 1, (0, 0, 0), 0, 0)), (85, (.aload_n 1, 1, (0, 0, 0), 0, 0)), (86, (.iload_n 2, 1, (0, 0, 0), 0, 0)), (87, (.iload 5, 2, (0, 0, 0), 0, 0)), (89, (.invokevirtual 51, 3, (0, 114, 0), 0, 649)), (92, (.aload_n 1, 1, (0, 0, 0), 0, 0)), (93, (.iload_n 2, 1, (0, 0, 0), 0, 0)), (94, (.aload_n 0, 1, (0, 0, 0), 0, 0)), (95, (.getfield 21, 3, (2, 1, 0), 0, 352))],
  [(98, (.iconst 0, 1, (0, 0, 0), 0, 0)), (99, (.aload_n 0, 1, (0, 0, 0), 0, 0)), (100, (.getfield 25, 3, (2, 2, 0), 0, 355)), (103, (.invokevirtual 55, 3, (0, 153, 1), 0, 661)), (106, (.invokevirtual 88, 3, (0, 98, 1), 0, 675)), (109, (.aload_n 1, 1, (0, 0, 0), 0, 0)), (110, (.getfield 42, 3, (0, 0, 1), 0, 370)), (113, (.iload 5, 2, (0, 0, 0), 0, 0)), (115, (.iaload, 1, (0, 0, 0), 0, 0)), (116, (.ifCond .le 32, 3, (148, 0, 0), 0, 0)), (119, (.aload_n 1, 1, (0, 0, 0), 0, 0)), (120, (.invokevirtual 92, 3, (0, 97, 1), 0, 681)), (123, (.bipush 100, 2, (0, 0, 0), 100, 0)), (125, (.irem, 1, (0, 0, 0), 0, 0)), (126, (.aload_n 1, 1, (0, 0, 0), 0, 0)), (127, (.getfield 96, 3, (0, 2, 1), 0, 379))],
  [(130, (.iload_n 2, 1, (0, 0, 0), 0, 0)), (131, (.iaload, 1, (0, 0, 0), 0, 0)), (132, (.if_icmp .ge 16, 3, (148, 0, 0), 0, 0)), (135, (.aload_n 1, 1, (0, 0, 0), 0, 0)), (136, (.iload_n 2, 1, (0, 0, 0), 0, 0)), (137, (.aload_n 1, 1, (0, 0, 0), 0, 0)), (138, (.getfield 42, 3, (0, 0, 1), 0, 370)), (141, (.iload 5, 2, (0, 0, 0), 0, 0)), (143, (.iaload, 1, (0, 0, 0), 0, 0)), (144, (.invokevirtual 99, 3, (0, 100, 1), 0, 686)), (147, (.pop, 1, (0, 0, 0), 0, 0)), (148, (.iconst 0, 1, (0, 0, 0), 0, 0)), (149, (.istore 6, 2, (0, 0, 0), 0, 0)), (151, (.aload_n 1, 1, (0, 0, 0), 0, 0)), (152, (.getfield 48, 3, (0, 3, 1), 0, 384)), (155, (.iload_n 2, 1, (0, 0, 0), 0, 0)), (156, (.iaload, 1, (0, 0, 0), 0, 0)), (157, (.ifCond .ne 32, 3, (189, 0, 0), 0, 0))],
  [(160, (.aload_n 0, 1, (0, 0, 0), 0, 0)), (161, (.aload_n 1, 1, (0, 0, 0), 0, 0)), (162, (.iload_n 2, 1, (0, 0, 0), 0, 0)), (163, (.iload 5, 2, (0, 0, 0), 0, 0)), (165, (.invokevirtual 51, 3, (0, 114, 0), 0, 649)), (168, (.aload_n 1, 1, (0, 0, 0), 0, 0)), (169, (.iload_n 2, 1, (0, 0, 0), 0, 0)), (170, (.iload 5, 2, (0, 0, 0), 0, 0)), (172, (.aload_n 0, 1, (0, 0, 0), 0, 0)), (173, (.getfield 21, 3, (2, 1, 0), 0, 352)), (176, (.iconst 1, 1, (0, 0, 0), 1, 0)), (177, (.aload_n 0, 1, (0, 0, 0), 0, 0)), (178, (.getfield 25, 3, (2, 2, 0), 0, 355)), (181, (.invokevirtual 55, 3, (0, 153, 1), 0, 661)), (184, (.invokevirtual 102, 3, (0, 103, 1), 0, 694)), (187, (.istore 6, 2, (0, 0, 0), 0, 0)), (189, (.aload_n 0, 1, (0, 0, 0), 0, 0)), (190, (.aload_n 1, 1, (0, 0, 0), 0, 0)), (191, (.iload_n 2, 1, (0, 0, 0), 0, 0))],
  [(192, (.iload 5, 2, (0, 0, 0), 0, 0)), (194, (.invokevirtual 51, 3, (0, 114, 0), 0, 649)), (197, (.aload_n 1, 1, (0, 0, 0), 0, 0)), (198, (.iload_n 2, 1, (0, 0, 0), 0, 0)), (199, (.iload 5, 2, (0, 0, 0), 0, 0)), (201, (.aload_n 0, 1, (0, 0, 0), 0, 0)), (202, (.getfield 21, 3, (2, 1, 0), 0, 352)), (205, (.iconst 2, 1, (0, 0, 0), 2, 0)), (206, (.aload_n 0, 1, (0, 0, 0), 0, 0)), (207, (.getfield 25, 3, (2, 2, 0), 0, 355)), (210, (.invokevirtual 55, 3, (0, 153, 1), 0, 661)), (213, (.invokevirtual 106, 3, (0, 104, 1), 0, 698)), (216, (.aload_n 1, 1, (0, 0, 0), 0, 0)), (217, (.getfield 48, 3, (0, 3, 1), 0, 384)), (220, (.iload_n 2, 1, (0, 0, 0), 0, 0)), (221, (.aload_n 1, 1, (0, 0, 0), 0, 0)), (222, (.getfield 48, 3, (0, 3, 1), 0, 384))],
  [(225, (.iload_n 2, 1, (0, 0, 0), 0, 0)), (226, (.iaload, 1, (0, 0, 0), 0, 0)), (227, (.iconst 1, 1, (0, 0, 0), 1, 0)), (228, (.isub, 1, (0, 0, 0), 0, 0)), (229, (.iconst 0, 1, (0, 0, 0), 0, 0)), (230, (.invokestatic 110, 3, (3, 0, 0), 0, 703)), (233, (.iastore, 1, (0, 0, 0), 0, 0)), (234, (.iload 6, 2, (0, 0, 0), 0, 0)), (236, (.ifCond .le 22, 3, (258, 0, 0), 0, 0)), (239, (.aload_n 3, 1, (0, 0, 0), 0, 0)), (240, (.ifnull 18, 3, (258, 0, 0), 0, 0)), (243, (.aload_n 3, 1, (0, 0, 0), 0, 0)), (244, (.aload_n 1, 1, (0, 0, 0), 0, 0)), (245, (.getfield 38, 3, (0, 10, 1), 0, 407)), (248, (.iload_n 2, 1, (0, 0, 0), 0, 0)), (249, (.iload 5, 2, (0, 0, 0), 0, 0)), (251, (.iload 6, 2, (0, 0, 0), 0, 0)), (253, (.iload 4, 2, (0, 0, 0), 0, 0)), (255, (.invokevirtual 115, 3, (0, 109, 1), 0, 706))],
  [(258, (.iload 6, 2, (0, 0, 0), 0, 0)), (260, (.ireturn, 1, (0, 0, 0), 0, 0))]]
set_option maxRecDepth 10000 in
def zp119 : List (List (Nat × ZI)) := [[(0, (.aload_n 1, 1, (0, 0, 0), 0, 0)), (1, (.iload_n 2, 1, (0, 0, 0), 0, 0)), (2, (.aload_n 0, 1, (0, 0, 0), 0, 0)), (3, (.aload_n 1, 1, (0, 0, 0), 0, 0)), (4, (.iload_n 2, 1, (0, 0, 0), 0, 0)), (5, (.invokevirtual 121, 3, (0, 116, 0), 0, 1265)), (8, (.invokevirtual 75, 3, (0, 102, 1), 0, 711)), (11, (.ireturn, 1, (0, 0, 0), 0, 0))]]
set_option maxRecDepth 10000 in
def zp120 : List (List (Nat × ZI)) := [[(0, (.iconst 0, 1, (0, 0, 0), 0, 0)), (1, (.istore_n 2, 1, (0, 0, 0), 0, 0)), (2, (.iload_n 2, 1, (0, 0, 0), 0, 0)), (3, (.aload_n 0, 1, (0, 0, 0), 0, 0)), (4, (.getfield 12, 3, (2, 0, 0), 0, 348)), (7, (.getfield 66, 3, (8, 0, 1), 0, 266)), (10, (.if_icmp .ge 28, 3, (38, 0, 0), 0, 0)), (13, (.aload_n 0, 1, (0, 0, 0), 0, 0)), (14, (.getfield 12, 3, (2, 0, 0), 0, 348)), (17, (.getfield 45, 3, (8, 4, 1), 0, 280)), (20, (.iload_n 2, 1, (0, 0, 0), 0, 0)), (21, (.iaload, 1, (0, 0, 0), 0, 0)), (22, (.ifCond .eq 10, 3, (32, 0, 0), 0, 0)), (25, (.aload_n 0, 1, (0, 0, 0), 0, 0)), (26, (.aload_n 1, 1, (0, 0, 0), 0, 0)), (27, (.iload_n 2, 1, (0, 0, 0), 0, 0)), (28, (.invokevirtual 125, 3, (0, 119, 0), 0, 1416)), (31, (.pop, 1, (0, 0, 0), 0, 0))],
  [(32, (.iinc 2 1, 3, (0, 0, 0), 1, 0)), (35, (.goto (-33), 3, (2, 0, 0), 0, 0)), (38, (.return_, 1, (0, 0, 0), 0, 0))]]
set_option maxRecDepth 10000 in
def zp121 : List (List (Nat × ZI)) := [[(0, (.iconst 0, 1, (0, 0, 0), 0, 0)), (1, (.istore_n 2, 1, (0, 0, 0), 0, 0)), (2, (.iconst 0, 1, (0, 0, 0), 0, 0)), (3, (.istore_n 3, 1, (0, 0, 0), 0, 0)), (4, (.iload_n 3, 1, (0, 0, 0), 0, 0)), (5, (.aload_n 0, 1, (0, 0, 0), 0, 0)), (6, (.getfield 12, 3, (2, 0, 0), 0, 348)), (9, (.getfield 66, 3, (8, 0, 1), 0, 266)), (12, (.if_icmp .ge 30, 3, (42, 0, 0), 0, 0)), (15, (.aload_n 0, 1, (0, 0, 0), 0, 0)), (16, (.getfield 12, 3, (2, 0, 0), 0, 348)), (19, (.getfield 45, 3, (8, 4, 1), 0, 280)), (22, (.iload_n 3, 1, (0, 0, 0), 0, 0)), (23, (.iaload, 1, (0, 0, 0), 0, 0)), (24, (.iconst 3, 1, (0, 0, 0), 3, 0)), (25, (.if_icmp .ne 11, 3, (36, 0, 0), 0, 0)), (28, (.iload_n 2, 1, (0, 0, 0), 0, 0)), (29, (.aload_n 1, 1, (0, 0, 0), 0, 0)), (30, (.iload_n 3, 1, (0, 0, 0), 0, 0)), (31, (.invokevirtual 35, 3, (0, 92, 1), 0, 657))],
  [(34, (.iadd, 1, (0, 0, 0), 0, 0)), (35, (.istore_n 2, 1, (0, 0, 0), 0, 0)), (36, (.iinc 3 1, 3, (0, 0, 0), 1, 0)), (39, (.goto (-35), 3, (4, 0, 0), 0, 0)), (42, (.iload_n 2, 1, (0, 0, 0), 0, 0)), (43, (.ireturn, 1, (0, 0, 0), 0, 0))]]
set_option maxRecDepth 10000 in
def zp122 : List (List (Nat × ZI)) := [[(0, (.iconst 0, 1, (0, 0, 0), 0, 0)), (1, (.istore_n 2, 1, (0, 0, 0), 0, 0)), (2, (.iconst 0, 1, (0, 0, 0), 0, 0)), (3, (.istore_n 3, 1, (0, 0, 0), 0, 0)), (4, (.iload_n 3, 1, (0, 0, 0), 0, 0)), (5, (.aload_n 0, 1, (0, 0, 0), 0, 0)), (6, (.getfield 12, 3, (2, 0, 0), 0, 348)), (9, (.getfield 66, 3, (8, 0, 1), 0, 266)), (12, (.if_icmp .ge 29, 3, (41, 0, 0), 0, 0)), (15, (.aload_n 0, 1, (0, 0, 0), 0, 0)), (16, (.getfield 12, 3, (2, 0, 0), 0, 348)), (19, (.getfield 45, 3, (8, 4, 1), 0, 280)), (22, (.iload_n 3, 1, (0, 0, 0), 0, 0)), (23, (.iaload, 1, (0, 0, 0), 0, 0)), (24, (.ifCond .eq 11, 3, (35, 0, 0), 0, 0)), (27, (.iload_n 2, 1, (0, 0, 0), 0, 0)), (28, (.aload_n 1, 1, (0, 0, 0), 0, 0)), (29, (.iload_n 3, 1, (0, 0, 0), 0, 0)), (30, (.invokevirtual 35, 3, (0, 92, 1), 0, 657))],
  [(33, (.iadd, 1, (0, 0, 0), 0, 0)), (34, (.istore_n 2, 1, (0, 0, 0), 0, 0)), (35, (.iinc 3 1, 3, (0, 0, 0), 1, 0)), (38, (.goto (-34), 3, (4, 0, 0), 0, 0)), (41, (.iload_n 2, 1, (0, 0, 0), 0, 0)), (42, (.ireturn, 1, (0, 0, 0), 0, 0))]]
set_option maxRecDepth 10000 in
def zp123 : List (List (Nat × ZI)) := [[(0, (.iconst (-1), 1, (0, 0, 0), (-1), 0)), (1, (.istore_n 2, 1, (0, 0, 0), 0, 0)), (2, (.iconst 0, 1, (0, 0, 0), 0, 0)), (3, (.istore_n 3, 1, (0, 0, 0), 0, 0)), (4, (.iconst 0, 1, (0, 0, 0), 0, 0)), (5, (.istore 4, 2, (0, 0, 0), 0, 0)), (7, (.iload 4, 2, (0, 0, 0), 0, 0)), (9, (.aload_n 0, 1, (0, 0, 0), 0, 0)), (10, (.getfield 12, 3, (2, 0, 0), 0, 348)), (13, (.getfield 59, 3, (8, 2, 1), 0, 273)), (16, (.if_icmp .ge 77, 3, (93, 0, 0), 0, 0)), (19, (.iconst 0, 1, (0, 0, 0), 0, 0)), (20, (.istore 5, 2, (0, 0, 0), 0, 0)), (22, (.iconst 0, 1, (0, 0, 0), 0, 0)), (23, (.istore 6, 2, (0, 0, 0), 0, 0)), (25, (.iload 6, 2, (0, 0, 0), 0, 0)), (27, (.aload_n 0, 1, (0, 0, 0), 0, 0)), (28, (.getfield 12, 3, (2, 0, 0), 0, 348)), (31, (.getfield 66, 3, (8, 0, 1), 0, 266))],
  [(34, (.if_icmp .ge 41, 3, (75, 0, 0), 0, 0)), (37, (.aload_n 0, 1, (0, 0, 0), 0, 0)), (38, (.getfield 12, 3, (2, 0, 0), 0, 348)), (41, (.getfield 45, 3, (8, 4, 1), 0, 280)), (44, (.iload 6, 2, (0, 0, 0), 0, 0)), (46, (.iaload, 1, (0, 0, 0), 0, 0)), (47, (.iconst 3, 1, (0, 0, 0), 3, 0)), (48, (.if_icmp .ne 21, 3, (69, 0, 0), 0, 0)), (51, (.iload 5, 2, (0, 0, 0), 0, 0)), (53, (.aload_n 1, 1, (0, 0, 0), 0, 0)), (54, (.getfield 128, 3, (0, 4, 1), 0, 389)), (57, (.iload 6, 2, (0, 0, 0), 0, 0)), (59, (.bipush 8, 2, (0, 0, 0), 8, 0)), (61, (.imul, 1, (0, 0, 0), 0, 0)), (62, (.iload 4, 2, (0, 0, 0), 0, 0))],
  [(64, (.iadd, 1, (0, 0, 0), 0, 0)), (65, (.iaload, 1, (0, 0, 0), 0, 0)), (66, (.iadd, 1, (0, 0, 0), 0, 0)), (67, (.istore 5, 2, (0, 0, 0), 0, 0)), (69, (.iinc 6 1, 3, (0, 0, 0), 1, 0)), (72, (.goto (-47), 3, (25, 0, 0), 0, 0)), (75, (.iload 5, 2, (0, 0, 0), 0, 0)), (77, (.iload_n 3, 1, (0, 0, 0), 0, 0)), (78, (.if_icmp .le 9, 3, (87, 0, 0), 0, 0)), (81, (.iload 5, 2, (0, 0, 0), 0, 0)), (83, (.istore_n 3, 1, (0, 0, 0), 0, 0)), (84, (.iload 4, 2, (0, 0, 0), 0, 0)), (86, (.istore_n 2, 1, (0, 0, 0), 0, 0)), (87, (.iinc 4 1, 3, (0, 0, 0), 1, 0)), (90, (.goto (-83), 3, (7, 0, 0), 0, 0)), (93, (.iload_n 2, 1, (0, 0, 0), 0, 0)), (94, (.ireturn, 1, (0, 0, 0), 0, 0))]]
set_option maxRecDepth 10000 in
def zp124 : List (List (Nat × ZI)) := [[(0, (.iconst 0, 1, (0, 0, 0), 0, 0)), (1, (.istore_n 3, 1, (0, 0, 0), 0, 0)), (2, (.iconst 0, 1, (0, 0, 0), 0, 0)), (3, (.istore 4, 2, (0, 0, 0), 0, 0)), (5, (.iload 4, 2, (0, 0, 0), 0, 0)), (7, (.aload_n 0, 1, (0, 0, 0), 0, 0)), (8, (.getfield 12, 3, (2, 0, 0), 0, 348)), (11, (.getfield 66, 3, (8, 0, 1), 0, 266)), (14, (.if_icmp .ge 40, 3, (54, 0, 0), 0, 0)), (17, (.aload_n 0, 1, (0, 0, 0), 0, 0)), (18, (.getfield 12, 3, (2, 0, 0), 0, 348)), (21, (.getfield 45, 3, (8, 4, 1), 0, 280)), (24, (.iload 4, 2, (0, 0, 0), 0, 0)), (26, (.iaload, 1, (0, 0, 0), 0, 0)), (27, (.iconst 3, 1, (0, 0, 0), 3, 0)), (28, (.if_icmp .ne 20, 3, (48, 0, 0), 0, 0)), (31, (.aload_n 1, 1, (0, 0, 0), 0, 0))],
  [(32, (.iload 4, 2, (0, 0, 0), 0, 0)), (34, (.invokevirtual 35, 3, (0, 92, 1), 0, 657)), (37, (.iload_n 2, 1, (0, 0, 0), 0, 0)), (38, (.if_icmp .le 10, 3, (48, 0, 0), 0, 0)), (41, (.iload_n 3, 1, (0, 0, 0), 0, 0)), (42, (.iconst 1, 1, (0, 0, 0), 1, 0)), (43, (.iload 4, 2, (0, 0, 0), 0, 0)), (45, (.ishl, 1, (0, 0, 0), 0, 0)), (46, (.ior, 1, (0, 0, 0), 0, 0)), (47, (.istore_n 3, 1, (0, 0, 0), 0, 0)), (48, (.iinc 4 1, 3, (0, 0, 0), 1, 0)), (51, (.goto (-46), 3, (5, 0, 0), 0, 0)), (54, (.iload_n 3, 1, (0, 0, 0), 0, 0)), (55, (.ireturn, 1, (0, 0, 0), 0, 0))]]
set_option maxRecDepth 10000 in
def zp125 : List (List (Nat × ZI)) := [[(0, (.aload_n 0, 1, (0, 0, 0), 0, 0)), (1, (.aload_n 1, 1, (0, 0, 0), 0, 0)), (2, (.iload_n 2, 1, (0, 0, 0), 0, 0)), (3, (.aload_n 1, 1, (0, 0, 0), 0, 0)), (4, (.getfield 38, 3, (0, 10, 1), 0, 407)), (7, (.invokevirtual 131, 3, (0, 126, 0), 0, 1153)), (10, (.ireturn, 1, (0, 0, 0), 0, 0))]]
set_option maxRecDepth 10000 in
def zp126 : List (List (Nat × ZI)) := [[(0, (.iconst 0, 1, (0, 0, 0), 0, 0)), (1, (.istore 4, 2, (0, 0, 0), 0, 0)), (3, (.iconst 0, 1, (0, 0, 0), 0, 0)), (4, (.istore 5, 2, (0, 0, 0), 0, 0)), (6, (.iload 5, 2, (0, 0, 0), 0, 0)), (8, (.aload_n 0, 1, (0, 0, 0), 0, 0)), (9, (.getfield 12, 3, (2, 0, 0), 0, 348)), (12, (.getfield 59, 3, (8, 2, 1), 0, 273)), (15, (.if_icmp .ge 44, 3, (59, 0, 0), 0, 0)), (18, (.aload_n 0, 1, (0, 0, 0), 0, 0)), (19, (.getfield 12, 3, (2, 0, 0), 0, 348)), (22, (.iload 5, 2, (0, 0, 0), 0, 0)), (24, (.aload_n 1, 1, (0, 0, 0), 0, 0)), (25, (.getfield 79, 3, (0, 1, 1), 0, 375)), (28, (.iload 5, 2, (0, 0, 0), 0, 0)), (30, (.iaload, 1, (0, 0, 0), 0, 0)), (31, (.iload_n 3, 1, (0, 0, 0), 0, 0))],
  [(32, (.aload_n 1, 1, (0, 0, 0), 0, 0)), (33, (.getfield 38, 3, (0, 10, 1), 0, 407)), (36, (.isub, 1, (0, 0, 0), 0, 0)), (37, (.invokevirtual 135, 3, (0, 174, 1), 0, 1157)), (40, (.iload_n 2, 1, (0, 0, 0), 0, 0)), (41, (.if_icmp .ne 12, 3, (53, 0, 0), 0, 0)), (44, (.iload 4, 2, (0, 0, 0), 0, 0)), (46, (.iconst 1, 1, (0, 0, 0), 1, 0)), (47, (.iload 5, 2, (0, 0, 0), 0, 0)), (49, (.ishl, 1, (0, 0, 0), 0, 0)), (50, (.ior, 1, (0, 0, 0), 0, 0)), (51, (.istore 4, 2, (0, 0, 0), 0, 0)), (53, (.iinc 5 1, 3, (0, 0, 0), 1, 0)), (56, (.goto (-50), 3, (6, 0, 0), 0, 0)), (59, (.iload 4, 2, (0, 0, 0), 0, 0)), (61, (.ireturn, 1, (0, 0, 0), 0, 0))]]
set_option maxRecDepth 10000 in
def zp127 : List (List (Nat × ZI)) := [[(0, (.iconst 0, 1, (0, 0, 0), 0, 0)), (1, (.istore 4, 2, (0, 0, 0), 0, 0)), (3, (.iload 4, 2, (0, 0, 0), 0, 0)), (5, (.sipush 144, 3, (0, 0, 0), 144, 0)), (8, (.if_icmp .gt 56, 3, (64, 0, 0), 0, 0)), (11, (.aload_n 0, 1, (0, 0, 0), 0, 0)), (12, (.getfield 12, 3, (2, 0, 0), 0, 348)), (15, (.iload_n 2, 1, (0, 0, 0), 0, 0)), (16, (.aload_n 1, 1, (0, 0, 0), 0, 0)), (17, (.getfield 79, 3, (0, 1, 1), 0, 375)), (20, (.iload_n 2, 1, (0, 0, 0), 0, 0)), (21, (.iaload, 1, (0, 0, 0), 0, 0)), (22, (.iload 4, 2, (0, 0, 0), 0, 0)), (24, (.invokevirtual 135, 3, (0, 174, 1), 0, 1157)), (27, (.istore 5, 2, (0, 0, 0), 0, 0)), (29, (.iload 5, 2, (0, 0, 0), 0, 0)), (31, (.aload_n 0, 1, (0, 0, 0), 0, 0))],
  [(32, (.getfield 12, 3, (2, 0, 0), 0, 348)), (35, (.iload_n 3, 1, (0, 0, 0), 0, 0)), (36, (.aload_n 1, 1, (0, 0, 0), 0, 0)), (37, (.getfield 79, 3, (0, 1, 1), 0, 375)), (40, (.iload_n 3, 1, (0, 0, 0), 0, 0)), (41, (.iaload, 1, (0, 0, 0), 0, 0)), (42, (.iload 4, 2, (0, 0, 0), 0, 0)), (44, (.invokevirtual 135, 3, (0, 174, 1), 0, 1157)), (47, (.if_icmp .ne 11, 3, (58, 0, 0), 0, 0)), (50, (.aload_n 1, 1, (0, 0, 0), 0, 0)), (51, (.getfield 38, 3, (0, 10, 1), 0, 407)), (54, (.iload 4, 2, (0, 0, 0), 0, 0)), (56, (.iadd, 1, (0, 0, 0), 0, 0)), (57, (.ireturn, 1, (0, 0, 0), 0, 0)), (58, (.iinc 4 1, 3, (0, 0, 0), 1, 0)), (61, (.goto (-58), 3, (3, 0, 0), 0, 0))],
  [(64, (.iconst (-1), 1, (0, 0, 0), (-1), 0)), (65, (.ireturn, 1, (0, 0, 0), 0, 0))]]
set_option maxRecDepth 10000 in
def zp128 : List (List (Nat × ZI)) := [[(0, (.aload_n 0, 1, (0, 0, 0), 0, 0)), (1, (.invokespecial 3, 3, (1, 0, 0), 0, 533)), (4, (.aload_n 0, 1, (0, 0, 0), 0, 0)), (5, (.new 9, 3, (0, 8, 0), 0, 534)), (8, (.dup, 1, (0, 0, 0), 0, 0)), (9, (.invokespecial 11, 3, (0, 169, 1), 0, 535)), (12, (.putfield 12, 3, (3, 0, 0), 0, 538)), (15, (.aload_n 0, 1, (0, 0, 0), 0, 0)), (16, (.new 18, 3, (0, 0, 0), 0, 536)), (19, (.dup, 1, (0, 0, 0), 0, 0)), (20, (.invokespecial 20, 3, (0, 90, 1), 0, 537)), (23, (.putfield 21, 3, (3, 1, 0), 0, 540)), (26, (.aload_n 0, 1, (0, 0, 0), 0, 0)), (27, (.iconst (-1), 1, (0, 0, 0), (-1), 0)), (28, (.putfield 25, 3, (3, 2, 0), 0, 542)), (31, (.aload_n 0, 1, (0, 0, 0), 0, 0))],
  [(32, (.iconst 0, 1, (0, 0, 0), 0, 0)), (33, (.putfield 29, 3, (3, 3, 0), 0, 543)), (36, (.aload_n 0, 1, (0, 0, 0), 0, 0)), (37, (.iconst 0, 1, (0, 0, 0), 0, 0)), (38, (.putfield 32, 3, (3, 4, 0), 0, 544)), (41, (.aload_n 0, 1, (0, 0, 0), 0, 0)), (42, (.iconst 0, 1, (0, 0, 0), 0, 0)), (43, (.putfield 35, 3, (3, 5, 0), 0, 545)), (46, (.return_, 1, (0, 0, 0), 0, 0))]]
set_option maxRecDepth 10000 in
def zp129 : List (List (Nat × ZI)) := [[(0, (.aload_n 0, 1, (0, 0, 0), 0, 0)), (1, (.getfield 12, 3, (3, 0, 0), 0, 538)), (4, (.aload_n 2, 1, (0, 0, 0), 0, 0)), (5, (.invokevirtual 38, 3, (0, 170, 1), 0, 818)), (8, (.aload_n 0, 1, (0, 0, 0), 0, 0)), (9, (.getfield 21, 3, (3, 1, 0), 0, 540)), (12, (.aload_n 3, 1, (0, 0, 0), 0, 0)), (13, (.invokevirtual 42, 3, (0, 91, 1), 0, 819)), (16, (.aload_n 0, 1, (0, 0, 0), 0, 0)), (17, (.iconst (-1), 1, (0, 0, 0), (-1), 0)), (18, (.putfield 25, 3, (3, 2, 0), 0, 542)), (21, (.aload_n 1, 1, (0, 0, 0), 0, 0)), (22, (.invokevirtual 45, 3, (0, 180, 1), 0, 820)), (25, (.aload_n 1, 1, (0, 0, 0), 0, 0)), (26, (.getfield 50, 3, (9, 2, 1), 0, 230)), (29, (.ifCond .ne 5, 3, (34, 0, 0), 0, 0))],
  [(32, (.iconst (-1), 1, (0, 0, 0), (-1), 0)), (33, (.ireturn, 1, (0, 0, 0), 0, 0)), (34, (.iconst 0, 1, (0, 0, 0), 0, 0)), (35, (.istore 4, 2, (0, 0, 0), 0, 0)), (37, (.iload 4, 2, (0, 0, 0), 0, 0)), (39, (.bipush 14, 2, (0, 0, 0), 14, 0)), (41, (.if_icmp .ge 49, 3, (90, 0, 0), 0, 0)), (44, (.aload_n 0, 1, (0, 0, 0), 0, 0)), (45, (.aload_n 1, 1, (0, 0, 0), 0, 0)), (46, (.invokevirtual 53, 3, (0, 131, 0), 0, 828)), (49, (.ifCond .ne 8, 3, (57, 0, 0), 0, 0)), (52, (.aload_n 0, 1, (0, 0, 0), 0, 0)), (53, (.getfield 25, 3, (3, 2, 0), 0, 542)), (56, (.ireturn, 1, (0, 0, 0), 0, 0)), (57, (.aload_n 1, 1, (0, 0, 0), 0, 0)), (58, (.getfield 50, 3, (9, 2, 1), 0, 230)), (61, (.ifCond .ne 5, 3, (66, 0, 0), 0, 0))],
  [(64, (.iconst (-1), 1, (0, 0, 0), (-1), 0)), (65, (.ireturn, 1, (0, 0, 0), 0, 0)), (66, (.aload_n 1, 1, (0, 0, 0), 0, 0)), (67, (.bipush 59, 2, (0, 0, 0), 59, 0)), (69, (.invokevirtual 57, 3, (0, 183, 1), 0, 953)), (72, (.ifCond .ne 8, 3, (80, 0, 0), 0, 0)), (75, (.aload_n 1, 1, (0, 0, 0), 0, 0)), (76, (.getfield 61, 3, (9, 3, 1), 0, 233)), (79, (.ireturn, 1, (0, 0, 0), 0, 0)), (80, (.aload_n 1, 1, (0, 0, 0), 0, 0)), (81, (.invokevirtual 64, 3, (0, 181, 1), 0, 893)), (84, (.iinc 4 1, 3, (0, 0, 0), 1, 0)), (87, (.goto (-50), 3, (37, 0, 0), 0, 0)), (90, (.aload_n 1, 1, (0, 0, 0), 0, 0)), (91, (.getfield 61, 3, (9, 3, 1), 0, 233)), (94, (.ireturn, 1, (0, 0, 0), 0, 0))]]
set_option maxRecDepth 10000 in
def zp130 : List (List (Nat × ZI)) := [[(0, (.aload_n 0, 1, (0, 0, 0), 0, 0)), (1, (.iload_n 1, 1, (0, 0, 0), 0, 0)), (2, (.putfield 25, 3, (3, 2, 0), 0, 542)), (5, (.iconst 0, 1, (0, 0, 0), 0, 0)), (6, (.ireturn, 1, (0, 0, 0), 0, 0))]]
set_option maxRecDepth 10000 in
def zp131 : List (List (Nat × ZI)) := [[(0, (.aload_n 1, 1, (0, 0, 0), 0, 0)), (1, (.ldc 67, 2, (1, 0, 0), 0, 832)), (3, (.invokevirtual 69, 3, (0, 185, 1), 0, 833)), (6, (.tableswitch 104 0 8 #[50, 56, 62, 68, 74, 80, 86, 92, 98], 50, (4, 0, 0), 0, 0))],
  [(56, (.aload_n 0, 1, (0, 0, 0), 0, 0)), (57, (.aload_n 1, 1, (0, 0, 0), 0, 0)), (58, (.invokevirtual 73, 3, (0, 135, 0), 0, 885)), (61, (.ireturn, 1, (0, 0, 0), 0, 0)), (62, (.aload_n 0, 1, (0, 0, 0), 0, 0)), (63, (.aload_n 1, 1, (0, 0, 0), 0, 0))],
  [(64, (.invokevirtual 76, 3, (0, 136, 0), 0, 903)), (67, (.ireturn, 1, (0, 0, 0), 0, 0)), (68, (.aload_n 0, 1, (0, 0, 0), 0, 0)), (69, (.aload_n 1, 1, (0, 0, 0), 0, 0)), (70, (.invokevirtual 79, 3, (0, 137, 0), 0, 911)), (73, (.ireturn, 1, (0, 0, 0), 0, 0)), (74, (.aload_n 0, 1, (0, 0, 0), 0, 0)), (75, (.aload_n 1, 1, (0, 0, 0), 0, 0)), (76, (.invokevirtual 82, 3, (0, 138, 0), 0, 923)), (79, (.ireturn, 1, (0, 0, 0), 0, 0)), (80, (.aload_n 0, 1, (0, 0, 0), 0, 0)), (81, (.aload_n 1, 1, (0, 0, 0), 0, 0)), (82, (.invokevirtual 85, 3, (0, 139, 0), 0, 928)), (85, (.ireturn, 1, (0, 0, 0), 0, 0)), (86, (.aload_n 0, 1, (0, 0, 0), 0, 0)), (87, (.aload_n 1, 1, (0, 0, 0), 0, 0)), (88, (.invokevirtual 88, 3, (0, 140, 0), 0, 936)), (91, (.ireturn, 1, (0, 0, 0), 0, 0)), (92, (.aload_n 0, 1, (0, 0, 0), 0, 0)), (93, (.aload_n 1, 1, (0, 0, 0), 0, 0)), (94, (.invokevirtual 91, 3, (0, 141, 0), 0, 940))],
  [(97, (.ireturn, 1, (0, 0, 0), 0, 0)), (98, (.aload_n 0, 1, (0, 0, 0), 0, 0)), (99, (.aload_n 1, 1, (0, 0, 0), 0, 0)), (100, (.invokevirtual 94, 3, (0, 142, 0), 0, 944)), (103, (.ireturn, 1, (0, 0, 0), 0, 0)), (104, (.aload_n 0, 1, (0, 0, 0), 0, 0)), (105, (.aload_n 1, 1, (0, 0, 0), 0, 0)), (106, (.invokevirtual 97, 3, (0, 143, 0), 0, 948)), (109, (.ireturn, 1, (0, 0, 0), 0, 0)), (110, (.aload_n 0, 1, (0, 0, 0), 0, 0)), (111, (.aload_n 1, 1, (0, 0, 0), 0, 0)), (112, (.getfield 61, 3, (9, 3, 1), 0, 233)), (115, (.invokevirtual 100, 3, (0, 130, 0), 0, 889)), (118, (.ireturn, 1, (0, 0, 0), 0, 0))]]
set_option maxRecDepth 10000 in
def zp132 : List (List (Nat × ZI)) := [[(0, (.aload_n 1, 1, (0, 0, 0), 0, 0)), (1, (.iconst 5, 1, (0, 0, 0), 5, 0)), (2, (.invokevirtual 104, 3, (0, 182, 1), 0, 899)), (5, (.ifCond .eq 19, 3, (24, 0, 0), 0, 0)), (8, (.aload_n 1, 1, (0, 0, 0), 0, 0)), (9, (.getfield 107, 3, (9, 5, 1), 0, 237)), (12, (.iload_n 2, 1, (0, 0, 0), 0, 0)), (13, (.if_icmp .lt 11, 3, (24, 0, 0), 0, 0)), (16, (.aload_n 1, 1, (0, 0, 0), 0, 0)), (17, (.getfield 107, 3, (9, 5, 1), 0, 237)), (20, (.iload_n 3, 1, (0, 0, 0), 0, 0)), (21, (.if_icmp .le 12, 3, (33, 0, 0), 0, 0)), (24, (.aload_n 0, 1, (0, 0, 0), 0, 0)), (25, (.aload_n 1, 1, (0, 0, 0), 0, 0)), (26, (.getfield 61, 3, (9, 3, 1), 0, 233)), (29, (.invokevirtual 100, 3, (0, 130, 0), 0, 889))],
  [(32, (.ireturn, 1, (0, 0, 0), 0, 0)), (33, (.aload_n 0, 1, (0, 0, 0), 0, 0)), (34, (.aload_n 1, 1, (0, 0, 0), 0, 0)), (35, (.getfield 107, 3, (9, 5, 1), 0, 237)), (38, (.putfield 32, 3, (3, 4, 0), 0, 544)), (41, (.aload_n 0, 1, (0, 0, 0), 0, 0)), (42, (.aload_n 1, 1, (0, 0, 0), 0, 0)), (43, (.getfield 61, 3, (9, 3, 1), 0, 233)), (46, (.putfield 35, 3, (3, 5, 0), 0, 545)), (49, (.aload_n 1, 1, (0, 0, 0), 0, 0)), (50, (.invokevirtual 64, 3, (0, 181, 1), 0, 893)), (53, (.iconst 1, 1, (0, 0, 0), 1, 0)), (54, (.ireturn, 1, (0, 0, 0), 0, 0))]]
set_option maxRecDepth 10000 in
def zp133 : List (List (Nat × ZI)) := [[(0, (.aload_n 0, 1, (0, 0, 0), 0, 0)), (1, (.aload_n 1, 1, (0, 0, 0), 0, 0)), (2, (.iconst 0, 1, (0, 0, 0), 0, 0)), (3, (.aload_n 0, 1, (0, 0, 0), 0, 0)), (4, (.getfield 12, 3, (3, 0, 0), 0, 538)), (7, (.getfield 110, 3, (8, 0, 1), 0, 267)), (10, (.iconst 1, 1, (0, 0, 0), 1, 0)), (11, (.isub, 1, (0, 0, 0), 0, 0)), (12, (.invokevirtual 113, 3, (0, 132, 0), 0, 895)), (15, (.ireturn, 1, (0, 0, 0), 0, 0))]]
set_option maxRecDepth 10000 in
def zp134 : List (List (Nat × ZI)) := [[(0, (.aload_n 0, 1, (0, 0, 0), 0, 0)), (1, (.aload_n 1, 1, (0, 0, 0), 0, 0)), (2, (.iconst 0, 1, (0, 0, 0), 0, 0)), (3, (.iload_n 2, 1, (0, 0, 0), 0, 0)), (4, (.iconst 1, 1, (0, 0, 0), 1, 0)), (5, (.isub, 1, (0, 0, 0), 0, 0)), (6, (.invokevirtual 113, 3, (0, 132, 0), 0, 895)), (9, (.ifCond .ne 5, 3, (14, 0, 0), 0, 0)), (12, (.iconst 0, 1, (0, 0, 0), 0, 0)), (13, (.ireturn, 1, (0, 0, 0), 0, 0)), (14, (.aload_n 0, 1, (0, 0, 0), 0, 0)), (15, (.aload_n 0, 1, (0, 0, 0), 0, 0)), (16, (.getfield 32, 3, (3, 4, 0), 0, 544)), (19, (.putfield 29, 3, (3, 3, 0), 0, 543)), (22, (.aload_n 0, 1, (0, 0, 0), 0, 0)), (23, (.aload_n 1, 1, (0, 0, 0), 0, 0)), (24, (.iconst 0, 1, (0, 0, 0), 0, 0)), (25, (.iload_n 3, 1, (0, 0, 0), 0, 0)), (26, (.invokevirtual 113, 3, (0, 132, 0), 0, 895)), (29, (.ireturn, 1, (0, 0, 0), 0, 0))]]
set_option maxRecDepth 10000 in
def zp135 : List (List (Nat × ZI)) := [[(0, (.aload_n 0, 1, (0, 0, 0), 0, 0)), (1, (.getfield 12, 3, (3, 0, 0), 0, 538)), (4, (.getfield 110, 3, (8, 0, 1), 0, 267)), (7, (.bipush 12, 2, (0, 0, 0), 12, 0)), (9, (.if_icmp .lt 12, 3, (21, 0, 0), 0, 0)), (12, (.aload_n 0, 1, (0, 0, 0), 0, 0)), (13, (.aload_n 1, 1, (0, 0, 0), 0, 0)), (14, (.getfield 61, 3, (9, 3, 1), 0, 233)), (17, (.invokevirtual 100, 3, (0, 130, 0), 0, 889)), (20, (.ireturn, 1, (0, 0, 0), 0, 0)), (21, (.aload_n 1, 1, (0, 0, 0), 0, 0)), (22, (.invokevirtual 64, 3, (0, 181, 1), 0, 893)), (25, (.aload_n 1, 1, (0, 0, 0), 0, 0)), (26, (.ldc 117, 2, (1, 1, 0), 0, 894)), (28, (.invokevirtual 69, 3, (0, 185, 1), 0, 833)), (31, (.istore_n 2, 1, (0, 0, 0), 0, 0))],
  [(32, (.iload_n 2, 1, (0, 0, 0), 0, 0)), (33, (.iconst (-1), 1, (0, 0, 0), (-1), 0)), (34, (.if_icmp .ne 12, 3, (46, 0, 0), 0, 0)), (37, (.aload_n 0, 1, (0, 0, 0), 0, 0)), (38, (.aload_n 1, 1, (0, 0, 0), 0, 0)), (39, (.getfield 61, 3, (9, 3, 1), 0, 233)), (42, (.invokevirtual 100, 3, (0, 130, 0), 0, 889)), (45, (.ireturn, 1, (0, 0, 0), 0, 0)), (46, (.aload_n 1, 1, (0, 0, 0), 0, 0)), (47, (.invokevirtual 64, 3, (0, 181, 1), 0, 893)), (50, (.aload_n 0, 1, (0, 0, 0), 0, 0)), (51, (.aload_n 1, 1, (0, 0, 0), 0, 0)), (52, (.iconst 1, 1, (0, 0, 0), 1, 0)), (53, (.bipush 99, 2, (0, 0, 0), 99, 0)), (55, (.invokevirtual 113, 3, (0, 132, 0), 0, 895)), (58, (.ifCond .ne 5, 3, (63, 0, 0), 0, 0)), (61, (.iconst 0, 1, (0, 0, 0), 0, 0)), (62, (.ireturn, 1, (0, 0, 0), 0, 0)), (63, (.aload_n 0, 1, (0, 0, 0), 0, 0))],
  [(64, (.getfield 12, 3, (3, 0, 0), 0, 538)), (67, (.getfield 119, 3, (8, 4, 1), 0, 283)), (70, (.aload_n 0, 1, (0, 0, 0), 0, 0)), (71, (.getfield 12, 3, (3, 0, 0), 0, 538)), (74, (.getfield 110, 3, (8, 0, 1), 0, 267)), (77, (.iload_n 2, 1, (0, 0, 0), 0, 0)), (78, (.iastore, 1, (0, 0, 0), 0, 0)), (79, (.aload_n 0, 1, (0, 0, 0), 0, 0)), (80, (.getfield 12, 3, (3, 0, 0), 0, 538)), (83, (.getfield 123, 3, (8, 5, 1), 0, 286)), (86, (.aload_n 0, 1, (0, 0, 0), 0, 0)), (87, (.getfield 12, 3, (3, 0, 0), 0, 538)), (90, (.getfield 110, 3, (8, 0, 1), 0, 267)), (93, (.aload_n 0, 1, (0, 0, 0), 0, 0)), (94, (.getfield 32, 3, (3, 4, 0), 0, 544))],
  [(97, (.iastore, 1, (0, 0, 0), 0, 0)), (98, (.aload_n 0, 1, (0, 0, 0), 0, 0)), (99, (.getfield 12, 3, (3, 0, 0), 0, 538)), (102, (.dup, 1, (0, 0, 0), 0, 0)), (103, (.getfield 110, 3, (8, 0, 1), 0, 267)), (106, (.iconst 1, 1, (0, 0, 0), 1, 0)), (107, (.iadd, 1, (0, 0, 0), 0, 0)), (108, (.putfield 110, 3, (8, 0, 1), 0, 267)), (111, (.iconst 1, 1, (0, 0, 0), 1, 0)), (112, (.ireturn, 1, (0, 0, 0), 0, 0))]]
set_option maxRecDepth 10000 in
def zp136 : List (List (Nat × ZI)) := [[(0, (.aload_n 0, 1, (0, 0, 0), 0, 0)), (1, (.getfield 12, 3, (3, 0, 0), 0, 538)), (4, (.getfield 126, 3, (8, 1, 1), 0, 270)), (7, (.bipush 20, 2, (0, 0, 0), 20, 0)), (9, (.if_icmp .lt 12, 3, (21, 0, 0), 0, 0)), (12, (.aload_n 0, 1, (0, 0, 0), 0, 0)), (13, (.aload_n 1, 1, (0, 0, 0), 0, 0)), (14, (.getfield 61, 3, (9, 3, 1), 0, 233)), (17, (.invokevirtual 100, 3, (0, 130, 0), 0, 889)), (20, (.ireturn, 1, (0, 0, 0), 0, 0)), (21, (.aload_n 1, 1, (0, 0, 0), 0, 0)), (22, (.invokevirtual 64, 3, (0, 181, 1), 0, 893)), (25, (.aload_n 0, 1, (0, 0, 0), 0, 0)), (26, (.aload_n 1, 1, (0, 0, 0), 0, 0)), (27, (.aload_n 0, 1, (0, 0, 0), 0, 0)), (28, (.getfield 12, 3, (3, 0, 0), 0, 538)), (31, (.getfield 110, 3, (8, 0, 1), 0, 267))],
  [(34, (.aload_n 0, 1, (0, 0, 0), 0, 0)), (35, (.getfield 12, 3, (3, 0, 0), 0, 538)), (38, (.getfield 110, 3, (8, 0, 1), 0, 267)), (41, (.iconst 1, 1, (0, 0, 0), 1, 0)), (42, (.isub, 1, (0, 0, 0), 0, 0)), (43, (.invokevirtual 129, 3, (0, 134, 0), 0, 907)), (46, (.ifCond .ne 5, 3, (51, 0, 0), 0, 0)), (49, (.iconst 0, 1, (0, 0, 0), 0, 0)), (50, (.ireturn, 1, (0, 0, 0), 0, 0)), (51, (.aload_n 0, 1, (0, 0, 0), 0, 0)), (52, (.getfield 32, 3, (3, 4, 0), 0, 544)), (55, (.aload_n 0, 1, (0, 0, 0), 0, 0)), (56, (.getfield 29, 3, (3, 3, 0), 0, 543)), (59, (.if_icmp .ne 12, 3, (71, 0, 0), 0, 0)), (62, (.aload_n 0, 1, (0, 0, 0), 0, 0)), (63, (.aload_n 0, 1, (0, 0, 0), 0, 0))],
  [(64, (.getfield 35, 3, (3, 5, 0), 0, 545)), (67, (.invokevirtual 100, 3, (0, 130, 0), 0, 889)), (70, (.ireturn, 1, (0, 0, 0), 0, 0)), (71, (.aload_n 0, 1, (0, 0, 0), 0, 0)), (72, (.getfield 12, 3, (3, 0, 0), 0, 538)), (75, (.getfield 132, 3, (8, 6, 1), 0, 289)), (78, (.aload_n 0, 1, (0, 0, 0), 0, 0)), (79, (.getfield 29, 3, (3, 3, 0), 0, 543)), (82, (.dup2, 1, (0, 0, 0), 0, 0)), (83, (.iaload, 1, (0, 0, 0), 0, 0)), (84, (.iconst 1, 1, (0, 0, 0), 1, 0)), (85, (.aload_n 0, 1, (0, 0, 0), 0, 0)), (86, (.getfield 32, 3, (3, 4, 0), 0, 544)), (89, (.ishl, 1, (0, 0, 0), 0, 0)), (90, (.ior, 1, (0, 0, 0), 0, 0)), (91, (.iastore, 1, (0, 0, 0), 0, 0)), (92, (.aload_n 0, 1, (0, 0, 0), 0, 0)), (93, (.getfield 12, 3, (3, 0, 0), 0, 538))],
  [(96, (.getfield 132, 3, (8, 6, 1), 0, 289)), (99, (.aload_n 0, 1, (0, 0, 0), 0, 0)), (100, (.getfield 32, 3, (3, 4, 0), 0, 544)), (103, (.dup2, 1, (0, 0, 0), 0, 0)), (104, (.iaload, 1, (0, 0, 0), 0, 0)), (105, (.iconst 1, 1, (0, 0, 0), 1, 0)), (106, (.aload_n 0, 1, (0, 0, 0), 0, 0)), (107, (.getfield 29, 3, (3, 3, 0), 0, 543)), (110, (.ishl, 1, (0, 0, 0), 0, 0)), (111, (.ior, 1, (0, 0, 0), 0, 0)), (112, (.iastore, 1, (0, 0, 0), 0, 0)), (113, (.aload_n 0, 1, (0, 0, 0), 0, 0)), (114, (.getfield 12, 3, (3, 0, 0), 0, 538)), (117, (.dup, 1, (0, 0, 0), 0, 0)), (118, (.getfield 126, 3, (8, 1, 1), 0, 270)), (121, (.iconst 1, 1, (0, 0, 0), 1, 0)), (122, (.iadd, 1, (0, 0, 0), 0, 0)), (123, (.putfield 126, 3, (8, 1, 1), 0, 270)), (126, (.iconst 1, 1, (0, 0, 0), 1, 0)), (127, (.ireturn, 1, (0, 0, 0), 0, 0))]]
set_option maxRecDepth 10000 in
def zp137 : List (List (Nat × ZI)) := [[(0, (.aload_n 0, 1, (0, 0, 0), 0, 0)), (1, (.getfield 12, 3, (3, 0, 0), 0, 538)), (4, (.getfield 135, 3, (8, 2, 1), 0, 275)), (7, (.istore_n 2, 1, (0, 0, 0), 0, 0)), (8, (.iload_n 2, 1, (0, 0, 0), 0, 0)), (9, (.bipush 8, 2, (0, 0, 0), 8, 0)), (11, (.if_icmp .lt 12, 3, (23, 0, 0), 0, 0)), (14, (.aload_n 0, 1, (0, 0, 0), 0, 0)), (15, (.aload_n 1, 1, (0, 0, 0), 0, 0)), (16, (.getfield 61, 3, (9, 3, 1), 0, 233)), (19, (.invokevirtual 100, 3, (0, 130, 0), 0, 889)), (22, (.ireturn, 1, (0, 0, 0), 0, 0)), (23, (.aload_n 1, 1, (0, 0, 0), 0, 0)), (24, (.invokevirtual 64, 3, (0, 181, 1), 0, 893)), (27, (.iconst 0, 1, (0, 0, 0), 0, 0)), (28, (.istore_n 3, 1, (0, 0, 0), 0, 0)), (29, (.iconst 0, 1, (0, 0, 0), 0, 0)), (30, (.istore 4, 2, (0, 0, 0), 0, 0))],
  [(32, (.iconst 0, 1, (0, 0, 0), 0, 0)), (33, (.istore 5, 2, (0, 0, 0), 0, 0)), (35, (.iload_n 3, 1, (0, 0, 0), 0, 0)), (36, (.bipush 12, 2, (0, 0, 0), 12, 0)), (38, (.if_icmp .lt 12, 3, (50, 0, 0), 0, 0)), (41, (.aload_n 0, 1, (0, 0, 0), 0, 0)), (42, (.aload_n 1, 1, (0, 0, 0), 0, 0)), (43, (.getfield 61, 3, (9, 3, 1), 0, 233)), (46, (.invokevirtual 100, 3, (0, 130, 0), 0, 889)), (49, (.ireturn, 1, (0, 0, 0), 0, 0)), (50, (.aload_n 0, 1, (0, 0, 0), 0, 0)), (51, (.aload_n 1, 1, (0, 0, 0), 0, 0)), (52, (.invokevirtual 138, 3, (0, 133, 0), 0, 915)), (55, (.ifCond .ne 5, 3, (60, 0, 0), 0, 0)), (58, (.iconst 0, 1, (0, 0, 0), 0, 0)), (59, (.ireturn, 1, (0, 0, 0), 0, 0)), (60, (.iload_n 3, 1, (0, 0, 0), 0, 0)), (61, (.ifCond .ne 12, 3, (73, 0, 0), 0, 0))],
  [(64, (.aload_n 0, 1, (0, 0, 0), 0, 0)), (65, (.getfield 32, 3, (3, 4, 0), 0, 544)), (68, (.istore 4, 2, (0, 0, 0), 0, 0)), (70, (.goto 28, 3, (98, 0, 0), 0, 0)), (73, (.aload_n 0, 1, (0, 0, 0), 0, 0)), (74, (.getfield 12, 3, (3, 0, 0), 0, 538)), (77, (.iload 5, 2, (0, 0, 0), 0, 0)), (79, (.aload_n 0, 1, (0, 0, 0), 0, 0)), (80, (.getfield 32, 3, (3, 4, 0), 0, 544)), (83, (.invokevirtual 141, 3, (0, 171, 1), 0, 919)), (86, (.ifCond .ne 12, 3, (98, 0, 0), 0, 0)), (89, (.aload_n 0, 1, (0, 0, 0), 0, 0)), (90, (.aload_n 0, 1, (0, 0, 0), 0, 0)), (91, (.getfield 35, 3, (3, 5, 0), 0, 545)), (94, (.invokevirtual 100, 3, (0, 130, 0), 0, 889))],
  [(97, (.ireturn, 1, (0, 0, 0), 0, 0)), (98, (.aload_n 0, 1, (0, 0, 0), 0, 0)), (99, (.getfield 32, 3, (3, 4, 0), 0, 544)), (102, (.istore 5, 2, (0, 0, 0), 0, 0)), (104, (.aload_n 0, 1, (0, 0, 0), 0, 0)), (105, (.getfield 12, 3, (3, 0, 0), 0, 538)), (108, (.getfield 145, 3, (8, 8, 1), 0, 295)), (111, (.iload_n 2, 1, (0, 0, 0), 0, 0)), (112, (.bipush 12, 2, (0, 0, 0), 12, 0)), (114, (.imul, 1, (0, 0, 0), 0, 0)), (115, (.iload_n 3, 1, (0, 0, 0), 0, 0)), (116, (.iadd, 1, (0, 0, 0), 0, 0)), (117, (.aload_n 0, 1, (0, 0, 0), 0, 0)), (118, (.getfield 32, 3, (3, 4, 0), 0, 544)), (121, (.iastore, 1, (0, 0, 0), 0, 0)), (122, (.iinc 3 1, 3, (0, 0, 0), 1, 0)), (125, (.aload_n 1, 1, (0, 0, 0), 0, 0)), (126, (.getfield 50, 3, (9, 2, 1), 0, 230))],
  [(129, (.iconst 1, 1, (0, 0, 0), 1, 0)), (130, (.if_icmp .eq (-95), 3, (35, 0, 0), 0, 0)), (133, (.aload_n 0, 1, (0, 0, 0), 0, 0)), (134, (.getfield 12, 3, (3, 0, 0), 0, 538)), (137, (.iload 5, 2, (0, 0, 0), 0, 0)), (139, (.iload 4, 2, (0, 0, 0), 0, 0)), (141, (.invokevirtual 141, 3, (0, 171, 1), 0, 919)), (144, (.ifCond .ne 12, 3, (156, 0, 0), 0, 0)), (147, (.aload_n 0, 1, (0, 0, 0), 0, 0)), (148, (.aload_n 0, 1, (0, 0, 0), 0, 0)), (149, (.getfield 35, 3, (3, 5, 0), 0, 545)), (152, (.invokevirtual 100, 3, (0, 130, 0), 0, 889)), (155, (.ireturn, 1, (0, 0, 0), 0, 0)), (156, (.aload_n 0, 1, (0, 0, 0), 0, 0)), (157, (.getfield 12, 3, (3, 0, 0), 0, 538))],
  [(160, (.getfield 148, 3, (8, 7, 1), 0, 293)), (163, (.iload_n 2, 1, (0, 0, 0), 0, 0)), (164, (.iload_n 3, 1, (0, 0, 0), 0, 0)), (165, (.iastore, 1, (0, 0, 0), 0, 0)), (166, (.aload_n 0, 1, (0, 0, 0), 0, 0)), (167, (.getfield 21, 3, (3, 1, 0), 0, 540)), (170, (.getfield 151, 3, (0, 2, 1), 0, 382)), (173, (.iload_n 2, 1, (0, 0, 0), 0, 0)), (174, (.bipush 100, 2, (0, 0, 0), 100, 0)), (176, (.iastore, 1, (0, 0, 0), 0, 0)), (177, (.aload_n 0, 1, (0, 0, 0), 0, 0)), (178, (.getfield 12, 3, (3, 0, 0), 0, 538)), (181, (.dup, 1, (0, 0, 0), 0, 0)), (182, (.getfield 135, 3, (8, 2, 1), 0, 275)), (185, (.iconst 1, 1, (0, 0, 0), 1, 0)), (186, (.iadd, 1, (0, 0, 0), 0, 0)), (187, (.putfield 135, 3, (8, 2, 1), 0, 275)), (190, (.iconst 1, 1, (0, 0, 0), 1, 0)), (191, (.ireturn, 1, (0, 0, 0), 0, 0))]]
set_option maxRecDepth 10000 in
def zp138 : List (List (Nat × ZI)) := [[(0, (.aload_n 1, 1, (0, 0, 0), 0, 0)), (1, (.invokevirtual 64, 3, (0, 181, 1), 0, 893)), (4, (.aload_n 0, 1, (0, 0, 0), 0, 0)), (5, (.aload_n 1, 1, (0, 0, 0), 0, 0)), (6, (.aload_n 0, 1, (0, 0, 0), 0, 0)), (7, (.getfield 12, 3, (3, 0, 0), 0, 538)), (10, (.getfield 135, 3, (8, 2, 1), 0, 275)), (13, (.sipush 9999, 3, (0, 0, 0), 9999, 0)), (16, (.invokevirtual 129, 3, (0, 134, 0), 0, 907)), (19, (.ifCond .ne 5, 3, (24, 0, 0), 0, 0)), (22, (.iconst 0, 1, (0, 0, 0), 0, 0)), (23, (.ireturn, 1, (0, 0, 0), 0, 0)), (24, (.aload_n 0, 1, (0, 0, 0), 0, 0)), (25, (.getfield 21, 3, (3, 1, 0), 0, 540)), (28, (.aload_n 0, 1, (0, 0, 0), 0, 0)), (29, (.getfield 29, 3, (3, 3, 0), 0, 543))],
  [(32, (.aload_n 0, 1, (0, 0, 0), 0, 0)), (33, (.getfield 32, 3, (3, 4, 0), 0, 544)), (36, (.invokevirtual 154, 3, (0, 98, 1), 0, 927)), (39, (.iconst 1, 1, (0, 0, 0), 1, 0)), (40, (.ireturn, 1, (0, 0, 0), 0, 0))]]
set_option maxRecDepth 10000 in
def zp139 : List (List (Nat × ZI)) := [[(0, (.aload_n 1, 1, (0, 0, 0), 0, 0)), (1, (.invokevirtual 64, 3, (0, 181, 1), 0, 893)), (4, (.aload_n 0, 1, (0, 0, 0), 0, 0)), (5, (.aload_n 1, 1, (0, 0, 0), 0, 0)), (6, (.invokevirtual 138, 3, (0, 133, 0), 0, 915)), (9, (.ifCond .ne 5, 3, (14, 0, 0), 0, 0)), (12, (.iconst 0, 1, (0, 0, 0), 0, 0)), (13, (.ireturn, 1, (0, 0, 0), 0, 0)), (14, (.aload_n 0, 1, (0, 0, 0), 0, 0)), (15, (.getfield 32, 3, (3, 4, 0), 0, 544)), (18, (.istore_n 2, 1, (0, 0, 0), 0, 0)), (19, (.aload_n 0, 1, (0, 0, 0), 0, 0)), (20, (.aload_n 1, 1, (0, 0, 0), 0, 0)), (21, (.aload_n 0, 1, (0, 0, 0), 0, 0)), (22, (.getfield 12, 3, (3, 0, 0), 0, 538)), (25, (.getfield 135, 3, (8, 2, 1), 0, 275)), (28, (.sipush 9999, 3, (0, 0, 0), 9999, 0)), (31, (.invokevirtual 129, 3, (0, 134, 0), 0, 907))],
  [(34, (.ifCond .ne 5, 3, (39, 0, 0), 0, 0)), (37, (.iconst 0, 1, (0, 0, 0), 0, 0)), (38, (.ireturn, 1, (0, 0, 0), 0, 0)), (39, (.aload_n 0, 1, (0, 0, 0), 0, 0)), (40, (.getfield 21, 3, (3, 1, 0), 0, 540)), (43, (.iload_n 2, 1, (0, 0, 0), 0, 0)), (44, (.aload_n 0, 1, (0, 0, 0), 0, 0)), (45, (.getfield 29, 3, (3, 3, 0), 0, 543)), (48, (.aload_n 0, 1, (0, 0, 0), 0, 0)), (49, (.getfield 32, 3, (3, 4, 0), 0, 544)), (52, (.invokevirtual 158, 3, (0, 99, 1), 0, 932)), (55, (.iconst 1, 1, (0, 0, 0), 1, 0)), (56, (.ireturn, 1, (0, 0, 0), 0, 0))]]
set_option maxRecDepth 10000 in
def zp140 : List (List (Nat × ZI)) := [[(0, (.aload_n 1, 1, (0, 0, 0), 0, 0)), (1, (.invokevirtual 64, 3, (0, 181, 1), 0, 893)), (4, (.aload_n 0, 1, (0, 0, 0), 0, 0)), (5, (.aload_n 1, 1, (0, 0, 0), 0, 0)), (6, (.aload_n 0, 1, (0, 0, 0), 0, 0)), (7, (.getfield 12, 3, (3, 0, 0), 0, 538)), (10, (.getfield 110, 3, (8, 0, 1), 0, 267)), (13, (.bipush 100, 2, (0, 0, 0), 100, 0)), (15, (.invokevirtual 129, 3, (0, 134, 0), 0, 907)), (18, (.ifCond .ne 5, 3, (23, 0, 0), 0, 0)), (21, (.iconst 0, 1, (0, 0, 0), 0, 0)), (22, (.ireturn, 1, (0, 0, 0), 0, 0)), (23, (.aload_n 0, 1, (0, 0, 0), 0, 0)), (24, (.getfield 21, 3, (3, 1, 0), 0, 540)), (27, (.getfield 162, 3, (0, 0, 1), 0, 373)), (30, (.aload_n 0, 1, (0, 0, 0), 0, 0)), (31, (.getfield 29, 3, (3, 3, 0), 0, 543))],
  [(34, (.aload_n 0, 1, (0, 0, 0), 0, 0)), (35, (.getfield 32, 3, (3, 4, 0), 0, 544)), (38, (.iastore, 1, (0, 0, 0), 0, 0)), (39, (.iconst 1, 1, (0, 0, 0), 1, 0)), (40, (.ireturn, 1, (0, 0, 0), 0, 0))]]
set_option maxRecDepth 10000 in
def zp141 : List (List (Nat × ZI)) := [[(0, (.aload_n 1, 1, (0, 0, 0), 0, 0)), (1, (.invokevirtual 64, 3, (0, 181, 1), 0, 893)), (4, (.aload_n 0, 1, (0, 0, 0), 0, 0)), (5, (.aload_n 1, 1, (0, 0, 0), 0, 0)), (6, (.aload_n 0, 1, (0, 0, 0), 0, 0)), (7, (.getfield 12, 3, (3, 0, 0), 0, 538)), (10, (.getfield 135, 3, (8, 2, 1), 0, 275)), (13, (.bipush 100, 2, (0, 0, 0), 100, 0)), (15, (.invokevirtual 129, 3, (0, 134, 0), 0, 907)), (18, (.ifCond .ne 5, 3, (23, 0, 0), 0, 0)), (21, (.iconst 0, 1, (0, 0, 0), 0, 0)), (22, (.ireturn, 1, (0, 0, 0), 0, 0)), (23, (.aload_n 0, 1, (0, 0, 0), 0, 0)), (24, (.getfield 21, 3, (3, 1, 0), 0, 540)), (27, (.getfield 151, 3, (0, 2, 1), 0, 382)), (30, (.aload_n 0, 1, (0, 0, 0), 0, 0)), (31, (.getfield 29, 3, (3, 3, 0), 0, 543))],
  [(34, (.aload_n 0, 1, (0, 0, 0), 0, 0)), (35, (.getfield 32, 3, (3, 4, 0), 0, 544)), (38, (.iastore, 1, (0, 0, 0), 0, 0)), (39, (.iconst 1, 1, (0, 0, 0), 1, 0)), (40, (.ireturn, 1, (0, 0, 0), 0, 0))]]
set_option maxRecDepth 10000 in
def zp142 : List (List (Nat × ZI)) := [[(0, (.aload_n 1, 1, (0, 0, 0), 0, 0)), (1, (.invokevirtual 64, 3, (0, 181, 1), 0, 893)), (4, (.aload_n 0, 1, (0, 0, 0), 0, 0)), (5, (.aload_n 1, 1, (0, 0, 0), 0, 0)), (6, (.aload_n 0, 1, (0, 0, 0), 0, 0)), (7, (.getfield 12, 3, (3, 0, 0), 0, 538)), (10, (.getfield 135, 3, (8, 2, 1), 0, 275)), (13, (.bipush 99, 2, (0, 0, 0), 99, 0)), (15, (.invokevirtual 129, 3, (0, 134, 0), 0, 907)), (18, (.ifCond .ne 5, 3, (23, 0, 0), 0, 0)), (21, (.iconst 0, 1, (0, 0, 0), 0, 0)), (22, (.ireturn, 1, (0, 0, 0), 0, 0)), (23, (.aload_n 0, 1, (0, 0, 0), 0, 0)), (24, (.getfield 21, 3, (3, 1, 0), 0, 540)), (27, (.getfield 165, 3, (0, 3, 1), 0, 386)), (30, (.aload_n 0, 1, (0, 0, 0), 0, 0)), (31, (.getfield 29, 3, (3, 3, 0), 0, 543))],
  [(34, (.aload_n 0, 1, (0, 0, 0), 0, 0)), (35, (.getfield 32, 3, (3, 4, 0), 0, 544)), (38, (.iastore, 1, (0, 0, 0), 0, 0)), (39, (.iconst 1, 1, (0, 0, 0), 1, 0)), (40, (.ireturn, 1, (0, 0, 0), 0, 0))]]
set_option maxRecDepth 10000 in
def zp143 : List (List (Nat × ZI)) := [[(0, (.aload_n 1, 1, (0, 0, 0), 0, 0)), (1, (.invokevirtual 64, 3, (0, 181, 1), 0, 893)), (4, (.aload_n 0, 1, (0, 0, 0), 0, 0)), (5, (.aload_n 1, 1, (0, 0, 0), 0, 0)), (6, (.iconst 0, 1, (0, 0, 0), 0, 0)), (7, (.ldc 168, 2, (0, 0, 0), 99999, 952)), (9, (.invokevirtual 113, 3, (0, 132, 0), 0, 895)), (12, (.ifCond .ne 5, 3, (17, 0, 0), 0, 0)), (15, (.iconst 0, 1, (0, 0, 0), 0, 0)), (16, (.ireturn, 1, (0, 0, 0), 0, 0)), (17, (.aload_n 0, 1, (0, 0, 0), 0, 0)), (18, (.getfield 21, 3, (3, 1, 0), 0, 540)), (21, (.aload_n 0, 1, (0, 0, 0), 0, 0)), (22, (.getfield 32, 3, (3, 4, 0), 0, 544)), (25, (.putfield 169, 3, (0, 9, 1), 0, 404)), (28, (.iconst 1, 1, (0, 0, 0), 1, 0)), (29, (.ireturn, 1, (0, 0, 0), 0, 0))]]
set_option maxRecDepth 10000 in
def zp144 : List (List (Nat × ZI)) := [[(0, (.aload_n 0, 1, (0, 0, 0), 0, 0)), (1, (.invokespecial 1, 3, (1, 0, 0), 0, 487)), (4, (.aload_n 0, 1, (0, 0, 0), 0, 0)), (5, (.new 7, 3, (0, 8, 0), 0, 488)), (8, (.dup, 1, (0, 0, 0), 0, 0)), (9, (.invokespecial 9, 3, (0, 169, 1), 0, 489)), (12, (.putfield 10, 3, (4, 0, 0), 0, 496)), (15, (.aload_n 0, 1, (0, 0, 0), 0, 0)), (16, (.new 16, 3, (0, 5, 0), 0, 490)), (19, (.dup, 1, (0, 0, 0), 0, 0)), (20, (.invokespecial 18, 3, (0, 147, 1), 0, 491)), (23, (.putfield 19, 3, (4, 1, 0), 0, 497)), (26, (.aload_n 0, 1, (0, 0, 0), 0, 0)), (27, (.new 23, 3, (0, 0, 0), 0, 492)), (30, (.dup, 1, (0, 0, 0), 0, 0)), (31, (.invokespecial 25, 3, (0, 90, 1), 0, 493))],
  [(34, (.putfield 26, 3, (4, 2, 0), 0, 498)), (37, (.aload_n 0, 1, (0, 0, 0), 0, 0)), (38, (.new 30, 3, (0, 1, 0), 0, 494)), (41, (.dup, 1, (0, 0, 0), 0, 0)), (42, (.invokespecial 32, 3, (0, 107, 1), 0, 495)), (45, (.putfield 33, 3, (4, 3, 0), 0, 499)), (48, (.aload_n 0, 1, (0, 0, 0), 0, 0)), (49, (.iconst 0, 1, (0, 0, 0), 0, 0)), (50, (.putfield 37, 3, (4, 4, 0), 1, 500)), (53, (.return_, 1, (0, 0, 0), 0, 0))]]
set_option maxRecDepth 10000 in
def zp145 : List (List (Nat × ZI)) := [[(0, (.aload_n 0, 1, (0, 0, 0), 0, 0)), (1, (.getfield 10, 3, (4, 0, 0), 0, 496)), (4, (.aload_n 1, 1, (0, 0, 0), 0, 0)), (5, (.getfield 41, 3, (2, 0, 1), 0, 349)), (8, (.invokevirtual 44, 3, (0, 170, 1), 0, 768)), (11, (.aload_n 0, 1, (0, 0, 0), 0, 0)), (12, (.getfield 19, 3, (4, 1, 0), 0, 497)), (15, (.aload_n 1, 1, (0, 0, 0), 0, 0)), (16, (.getfield 48, 3, (2, 1, 1), 0, 353)), (19, (.invokevirtual 49, 3, (0, 148, 1), 0, 773)), (22, (.aload_n 0, 1, (0, 0, 0), 0, 0)), (23, (.getfield 26, 3, (4, 2, 0), 0, 498)), (26, (.aload_n 2, 1, (0, 0, 0), 0, 0)), (27, (.invokevirtual 52, 3, (0, 91, 1), 0, 778)), (30, (.aload_n 0, 1, (0, 0, 0), 0, 0)), (31, (.getfield 33, 3, (4, 3, 0), 0, 499))],
  [(34, (.aload_n 3, 1, (0, 0, 0), 0, 0)), (35, (.invokevirtual 55, 3, (0, 108, 1), 0, 779)), (38, (.aload_n 0, 1, (0, 0, 0), 0, 0)), (39, (.iconst 1, 1, (0, 0, 0), 1, 0)), (40, (.putfield 37, 3, (4, 4, 0), 1, 500)), (43, (.return_, 1, (0, 0, 0), 0, 0))]]
set_option maxRecDepth 10000 in
def zp146 : List (List (Nat × ZI)) := [[(0, (.aload_n 1, 1, (0, 0, 0), 0, 0)), (1, (.getfield 41, 3, (2, 0, 1), 0, 349)), (4, (.aload_n 0, 1, (0, 0, 0), 0, 0)), (5, (.getfield 10, 3, (4, 0, 0), 0, 496)), (8, (.invokevirtual 44, 3, (0, 170, 1), 0, 768)), (11, (.aload_n 1, 1, (0, 0, 0), 0, 0)), (12, (.getfield 48, 3, (2, 1, 1), 0, 353)), (15, (.aload_n 0, 1, (0, 0, 0), 0, 0)), (16, (.getfield 19, 3, (4, 1, 0), 0, 497)), (19, (.invokevirtual 49, 3, (0, 148, 1), 0, 773)), (22, (.aload_n 2, 1, (0, 0, 0), 0, 0)), (23, (.aload_n 0, 1, (0, 0, 0), 0, 0)), (24, (.getfield 26, 3, (4, 2, 0), 0, 498)), (27, (.invokevirtual 52, 3, (0, 91, 1), 0, 778)), (30, (.aload_n 3, 1, (0, 0, 0), 0, 0)), (31, (.aload_n 0, 1, (0, 0, 0), 0, 0))],
  [(32, (.getfield 33, 3, (4, 3, 0), 0, 499)), (35, (.invokevirtual 55, 3, (0, 108, 1), 0, 779)), (38, (.return_, 1, (0, 0, 0), 0, 0))]]
set_option maxRecDepth 10000 in
def zp147 : List (List (Nat × ZI)) := [[(0, (.aload_n 0, 1, (0, 0, 0), 0, 0)), (1, (.invokespecial 3, 3, (1, 0, 0), 0, 320)), (4, (.aload_n 0, 1, (0, 0, 0), 0, 0)), (5, (.iconst (-1), 1, (0, 0, 0), (-1), 0)), (6, (.putfield 9, 3, (5, 0, 0), 0, 321)), (9, (.aload_n 0, 1, (0, 0, 0), 0, 0)), (10, (.iconst 0, 1, (0, 0, 0), 0, 0)), (11, (.putfield 15, 3, (5, 1, 0), 0, 323)), (14, (.aload_n 0, 1, (0, 0, 0), 0, 0)), (15, (.bipush 12, 2, (0, 0, 0), 12, 0)), (17, (.newarray .int, 2, (0, 0, 0), 0, 251)), (19, (.putfield 18, 3, (5, 2, 0), 0, 324)), (22, (.aload_n 0, 1, (0, 0, 0), 0, 0)), (23, (.bipush 12, 2, (0, 0, 0), 12, 0)), (25, (.newarray .int, 2, (0, 0, 0), 0, 251)), (27, (.putfield 22, 3, (5, 3, 0), 0, 325)), (30, (.aload_n 0, 1, (0, 0, 0), 0, 0)), (31, (.bipush 12, 2, (0, 0, 0), 12, 0))],
  [(33, (.newarray .int, 2, (0, 0, 0), 0, 251)), (35, (.putfield 25, 3, (5, 4, 0), 0, 326)), (38, (.aload_n 0, 1, (0, 0, 0), 0, 0)), (39, (.bipush 12, 2, (0, 0, 0), 12, 0)), (41, (.newarray .int, 2, (0, 0, 0), 0, 251)), (43, (.putfield 28, 3, (5, 5, 0), 0, 327)), (46, (.aload_n 0, 1, (0, 0, 0), 0, 0)), (47, (.sipush 400, 3, (0, 0, 0), 400, 0)), (50, (.newarray .int, 2, (0, 0, 0), 0, 251)), (52, (.putfield 31, 3, (5, 6, 0), 0, 328)), (55, (.aload_n 0, 1, (0, 0, 0), 0, 0)), (56, (.bipush 32, 2, (0, 0, 0), 32, 0)), (58, (.newarray .long, 2, (2, 0, 0), 0, 347)), (60, (.putfield 34, 3, (5, 7, 0), 0, 329)), (63, (.return_, 1, (0, 0, 0), 0, 0))]]
set_option maxRecDepth 10000 in
def zp148 : List (List (Nat × ZI)) := [[(0, (.aload_n 0, 1, (0, 0, 0), 0, 0)), (1, (.aload_n 1, 1, (0, 0, 0), 0, 0)), (2, (.getfield 9, 3, (5, 0, 0), 0, 321)), (5, (.putfield 9, 3, (5, 0, 0), 0, 321)), (8, (.aload_n 0, 1, (0, 0, 0), 0, 0)), (9, (.aload_n 1, 1, (0, 0, 0), 0, 0)), (10, (.getfield 15, 3, (5, 1, 0), 0, 323)), (13, (.putfield 15, 3, (5, 1, 0), 0, 323)), (16, (.aload_n 1, 1, (0, 0, 0), 0, 0)), (17, (.getfield 18, 3, (5, 2, 0), 0, 324)), (20, (.iconst 0, 1, (0, 0, 0), 0, 0)), (21, (.aload_n 0, 1, (0, 0, 0), 0, 0)), (22, (.getfield 18, 3, (5, 2, 0), 0, 324)), (25, (.iconst 0, 1, (0, 0, 0), 0, 0)), (26, (.bipush 12, 2, (0, 0, 0), 12, 0)), (28, (.invokestatic 38, 3, (6, 0, 0), 0, 777)), (31, (.aload_n 1, 1, (0, 0, 0), 0, 0))],
  [(32, (.getfield 22, 3, (5, 3, 0), 0, 325)), (35, (.iconst 0, 1, (0, 0, 0), 0, 0)), (36, (.aload_n 0, 1, (0, 0, 0), 0, 0)), (37, (.getfield 22, 3, (5, 3, 0), 0, 325)), (40, (.iconst 0, 1, (0, 0, 0), 0, 0)), (41, (.bipush 12, 2, (0, 0, 0), 12, 0)), (43, (.invokestatic 38, 3, (6, 0, 0), 0, 777)), (46, (.aload_n 1, 1, (0, 0, 0), 0, 0)), (47, (.getfield 25, 3, (5, 4, 0), 0, 326)), (50, (.iconst 0, 1, (0, 0, 0), 0, 0)), (51, (.aload_n 0, 1, (0, 0, 0), 0, 0)), (52, (.getfield 25, 3, (5, 4, 0), 0, 326)), (55, (.iconst 0, 1, (0, 0, 0), 0, 0)), (56, (.bipush 12, 2, (0, 0, 0), 12, 0)), (58, (.invokestatic 38, 3, (6, 0, 0), 0, 777)), (61, (.aload_n 1, 1, (0, 0, 0), 0, 0)), (62, (.getfield 28, 3, (5, 5, 0), 0, 327))],
  [(65, (.iconst 0, 1, (0, 0, 0), 0, 0)), (66, (.aload_n 0, 1, (0, 0, 0), 0, 0)), (67, (.getfield 28, 3, (5, 5, 0), 0, 327)), (70, (.iconst 0, 1, (0, 0, 0), 0, 0)), (71, (.bipush 12, 2, (0, 0, 0), 12, 0)), (73, (.invokestatic 38, 3, (6, 0, 0), 0, 777)), (76, (.aload_n 1, 1, (0, 0, 0), 0, 0)), (77, (.getfield 31, 3, (5, 6, 0), 0, 328)), (80, (.iconst 0, 1, (0, 0, 0), 0, 0)), (81, (.aload_n 0, 1, (0, 0, 0), 0, 0)), (82, (.getfield 31, 3, (5, 6, 0), 0, 328)), (85, (.iconst 0, 1, (0, 0, 0), 0, 0)), (86, (.sipush 400, 3, (0, 0, 0), 400, 0)), (89, (.invokestatic 38, 3, (6, 0, 0), 0, 777)), (92, (.return_, 1, (0, 0, 0), 0, 0))]]
set_option maxRecDepth 10000 in
def zp149 : List (List (Nat × ZI)) := [[(0, (.aload_n 0, 1, (0, 0, 0), 0, 0)), (1, (.iconst 0, 1, (0, 0, 0), 0, 0)), (2, (.putfield 9, 3, (5, 0, 0), 0, 321)), (5, (.aload_n 0, 1, (0, 0, 0), 0, 0)), (6, (.iconst 0, 1, (0, 0, 0), 0, 0)), (7, (.putfield 15, 3, (5, 1, 0), 0, 323)), (10, (.return_, 1, (0, 0, 0), 0, 0))]]
set_option maxRecDepth 10000 in
def zp150 : List (List (Nat × ZI)) := [[(0, (.aload_n 0, 1, (0, 0, 0), 0, 0)), (1, (.getfield 9, 3, (5, 0, 0), 0, 321)), (4, (.bipush 12, 2, (0, 0, 0), 12, 0)), (6, (.if_icmp .ge 36, 3, (42, 0, 0), 0, 0)), (9, (.aload_n 0, 1, (0, 0, 0), 0, 0)), (10, (.getfield 18, 3, (5, 2, 0), 0, 324)), (13, (.aload_n 0, 1, (0, 0, 0), 0, 0)), (14, (.getfield 9, 3, (5, 0, 0), 0, 321)), (17, (.iload_n 1, 1, (0, 0, 0), 0, 0)), (18, (.iastore, 1, (0, 0, 0), 0, 0)), (19, (.aload_n 0, 1, (0, 0, 0), 0, 0)), (20, (.getfield 22, 3, (5, 3, 0), 0, 325)), (23, (.aload_n 0, 1, (0, 0, 0), 0, 0)), (24, (.getfield 9, 3, (5, 0, 0), 0, 321)), (27, (.iload_n 2, 1, (0, 0, 0), 0, 0)), (28, (.iastore, 1, (0, 0, 0), 0, 0)), (29, (.aload_n 0, 1, (0, 0, 0), 0, 0)), (30, (.getfield 25, 3, (5, 4, 0), 0, 326))],
  [(33, (.aload_n 0, 1, (0, 0, 0), 0, 0)), (34, (.getfield 9, 3, (5, 0, 0), 0, 321)), (37, (.aload_n 0, 1, (0, 0, 0), 0, 0)), (38, (.getfield 15, 3, (5, 1, 0), 0, 323)), (41, (.iastore, 1, (0, 0, 0), 0, 0)), (42, (.return_, 1, (0, 0, 0), 0, 0))]]
set_option maxRecDepth 10000 in
def zp151 : List (List (Nat × ZI)) := [[(0, (.aload_n 0, 1, (0, 0, 0), 0, 0)), (1, (.getfield 9, 3, (5, 0, 0), 0, 321)), (4, (.bipush 12, 2, (0, 0, 0), 12, 0)), (6, (.if_icmp .ge 26, 3, (32, 0, 0), 0, 0)), (9, (.aload_n 0, 1, (0, 0, 0), 0, 0)), (10, (.getfield 28, 3, (5, 5, 0), 0, 327)), (13, (.aload_n 0, 1, (0, 0, 0), 0, 0)), (14, (.getfield 9, 3, (5, 0, 0), 0, 321)), (17, (.aload_n 0, 1, (0, 0, 0), 0, 0)), (18, (.getfield 15, 3, (5, 1, 0), 0, 323)), (21, (.iastore, 1, (0, 0, 0), 0, 0)), (22, (.aload_n 0, 1, (0, 0, 0), 0, 0)), (23, (.dup, 1, (0, 0, 0), 0, 0)), (24, (.getfield 9, 3, (5, 0, 0), 0, 321)), (27, (.iconst 1, 1, (0, 0, 0), 1, 0)), (28, (.iadd, 1, (0, 0, 0), 0, 0)), (29, (.putfield 9, 3, (5, 0, 0), 0, 321))],
  [(32, (.return_, 1, (0, 0, 0), 0, 0))]]
set_option maxRecDepth 10000 in
def zp152 : List (List (Nat × ZI)) := [[(0, (.aload_n 0, 1, (0, 0, 0), 0, 0)), (1, (.getfield 15, 3, (5, 1, 0), 0, 323)), (4, (.sipush 400, 3, (0, 0, 0), 400, 0)), (7, (.if_icmp .ge 23, 3, (30, 0, 0), 0, 0)), (10, (.aload_n 0, 1, (0, 0, 0), 0, 0)), (11, (.getfield 31, 3, (5, 6, 0), 0, 328)), (14, (.aload_n 0, 1, (0, 0, 0), 0, 0)), (15, (.getfield 15, 3, (5, 1, 0), 0, 323)), (18, (.iload_n 1, 1, (0, 0, 0), 0, 0)), (19, (.iastore, 1, (0, 0, 0), 0, 0)), (20, (.aload_n 0, 1, (0, 0, 0), 0, 0)), (21, (.dup, 1, (0, 0, 0), 0, 0)), (22, (.getfield 15, 3, (5, 1, 0), 0, 323)), (25, (.iconst 1, 1, (0, 0, 0), 1, 0)), (26, (.iadd, 1, (0, 0, 0), 0, 0)), (27, (.putfield 15, 3, (5, 1, 0), 0, 323)), (30, (.return_, 1, (0, 0, 0), 0, 0))]]
set_option maxRecDepth 10000 in
def zp153 : List (List (Nat × ZI)) := [[(0, (.aload_n 0, 1, (0, 0, 0), 0, 0)), (1, (.getfield 9, 3, (5, 0, 0), 0, 321)), (4, (.iconst (-1), 1, (0, 0, 0), (-1), 0)), (5, (.if_icmp .ne 9, 3, (14, 0, 0), 0, 0)), (8, (.iload_n 1, 1, (0, 0, 0), 0, 0)), (9, (.aload_n 2, 1, (0, 0, 0), 0, 0)), (10, (.invokestatic 44, 3, (0, 154, 0), 0, 665)), (13, (.ireturn, 1, (0, 0, 0), 0, 0)), (14, (.iconst 0, 1, (0, 0, 0), 0, 0)), (15, (.istore_n 3, 1, (0, 0, 0), 0, 0)), (16, (.iconst 0, 1, (0, 0, 0), 0, 0)), (17, (.istore 4, 2, (0, 0, 0), 0, 0)), (19, (.iload 4, 2, (0, 0, 0), 0, 0)), (21, (.aload_n 0, 1, (0, 0, 0), 0, 0)), (22, (.getfield 9, 3, (5, 0, 0), 0, 321)), (25, (.if_icmp .ge 40, 3, (65, 0, 0), 0, 0)), (28, (.aload_n 0, 1, (0, 0, 0), 0, 0)), (29, (.getfield 18, 3, (5, 2, 0), 0, 324))],
  [(32, (.iload 4, 2, (0, 0, 0), 0, 0)), (34, (.iaload, 1, (0, 0, 0), 0, 0)), (35, (.iload_n 1, 1, (0, 0, 0), 0, 0)), (36, (.if_icmp .ne 23, 3, (59, 0, 0), 0, 0)), (39, (.aload_n 0, 1, (0, 0, 0), 0, 0)), (40, (.iload 4, 2, (0, 0, 0), 0, 0)), (42, (.aload_n 2, 1, (0, 0, 0), 0, 0)), (43, (.invokevirtual 48, 3, (0, 155, 0), 0, 668)), (46, (.ifCond .eq 13, 3, (59, 0, 0), 0, 0)), (49, (.iload_n 3, 1, (0, 0, 0), 0, 0)), (50, (.aload_n 0, 1, (0, 0, 0), 0, 0)), (51, (.getfield 22, 3, (5, 3, 0), 0, 325)), (54, (.iload 4, 2, (0, 0, 0), 0, 0)), (56, (.iaload, 1, (0, 0, 0), 0, 0)), (57, (.iadd, 1, (0, 0, 0), 0, 0)), (58, (.istore_n 3, 1, (0, 0, 0), 0, 0)), (59, (.iinc 4 1, 3, (0, 0, 0), 1, 0)), (62, (.goto (-43), 3, (19, 0, 0), 0, 0))],
  [(65, (.iload_n 3, 1, (0, 0, 0), 0, 0)), (66, (.iload_n 1, 1, (0, 0, 0), 0, 0)), (67, (.ifCond .ne 9, 3, (76, 0, 0), 0, 0)), (70, (.sipush 200, 3, (0, 0, 0), 200, 0)), (73, (.goto 5, 3, (78, 0, 0), 0, 0)), (76, (.bipush 100, 2, (0, 0, 0), 100, 0)), (78, (.invokestatic 52, 3, (2, 0, 0), 0, 672)), (81, (.ireturn, 1, (0, 0, 0), 0, 0))]]
set_option maxRecDepth 10000 in
def zp154 : List (List (Nat × ZI)) := [[(0, (.iload_n 0, 1, (0, 0, 0), 0, 0)), (1, (.tableswitch 40 0 2 #[27, 35, 38], 27, (5, 0, 0), 0, 0)), (28, (.aload_n 1, 1, (0, 0, 0), 0, 0)), (29, (.bipush 6, 2, (0, 0, 0), 6, 0)), (31, (.iaload, 1, (0, 0, 0), 0, 0))],
  [(32, (.bipush 50, 2, (0, 0, 0), 50, 0)), (34, (.imul, 1, (0, 0, 0), 0, 0)), (35, (.ireturn, 1, (0, 0, 0), 0, 0)), (36, (.bipush 20, 2, (0, 0, 0), 20, 0)), (38, (.ireturn, 1, (0, 0, 0), 0, 0)), (39, (.iconst 5, 1, (0, 0, 0), 5, 0)), (40, (.ireturn, 1, (0, 0, 0), 0, 0)), (41, (.bipush 50, 2, (0, 0, 0), 50, 0)), (43, (.ireturn, 1, (0, 0, 0), 0, 0))]]
set_option maxRecDepth 10000 in
def zp155 : List (List (Nat × ZI)) := [[(0, (.iconst 0, 1, (0, 0, 0), 0, 0)), (1, (.istore_n 3, 1, (0, 0, 0), 0, 0)), (2, (.aload_n 0, 1, (0, 0, 0), 0, 0)), (3, (.getfield 25, 3, (5, 4, 0), 0, 326)), (6, (.iload_n 1, 1, (0, 0, 0), 0, 0)), (7, (.iaload, 1, (0, 0, 0), 0, 0)), (8, (.istore 4, 2, (0, 0, 0), 0, 0)), (10, (.iload 4, 2, (0, 0, 0), 0, 0)), (12, (.aload_n 0, 1, (0, 0, 0), 0, 0)), (13, (.getfield 28, 3, (5, 5, 0), 0, 327)), (16, (.iload_n 1, 1, (0, 0, 0), 0, 0)), (17, (.iaload, 1, (0, 0, 0), 0, 0)), (18, (.if_icmp .ge 253, 3, (271, 0, 0), 0, 0)), (21, (.aload_n 0, 1, (0, 0, 0), 0, 0)), (22, (.getfield 31, 3, (5, 6, 0), 0, 328)), (25, (.iload 4, 2, (0, 0, 0), 0, 0)), (27, (.iaload, 1, (0, 0, 0), 0, 0)), (28, (.istore 5, 2, (0, 0, 0), 0, 0)), (30, (.iload 5, 2, (0, 0, 0), 0, 0))],
  [(32, (.sipush 1020, 3, (0, 0, 0), 1020, 0)), (35, (.if_icmp .ge 44, 3, (79, 0, 0), 0, 0)), (38, (.iload_n 3, 1, (0, 0, 0), 0, 0)), (39, (.bipush 32, 2, (0, 0, 0), 32, 0)), (41, (.if_icmp .ge 224, 3, (265, 0, 0), 0, 0)), (44, (.aload_n 0, 1, (0, 0, 0), 0, 0)), (45, (.getfield 34, 3, (5, 7, 0), 0, 329)), (48, (.iload_n 3, 1, (0, 0, 0), 0, 0)), (49, (.iload 5, 2, (0, 0, 0), 0, 0)), (51, (.sipush 1000, 3, (0, 0, 0), 1000, 0)), (54, (.if_icmp .ge 9, 3, (63, 0, 0), 0, 0)), (57, (.iload 5, 2, (0, 0, 0), 0, 0)), (59, (.i2l, 1, (0, 0, 0), 0, 0)), (60, (.goto 12, 3, (72, 0, 0), 0, 0)), (63, (.aload_n 2, 1, (0, 0, 0), 0, 0))],
  [(64, (.iload 5, 2, (0, 0, 0), 0, 0)), (66, (.sipush 1000, 3, (0, 0, 0), 1000, 0)), (69, (.isub, 1, (0, 0, 0), 0, 0)), (70, (.iaload, 1, (0, 0, 0), 0, 0)), (71, (.i2l, 1, (0, 0, 0), 0, 0)), (72, (.lastore, 1, (0, 0, 0), 0, 0)), (73, (.iinc 3 1, 3, (0, 0, 0), 1, 0)), (76, (.goto 189, 3, (265, 0, 0), 0, 0)), (79, (.iload 5, 2, (0, 0, 0), 0, 0)), (81, (.sipush 1020, 3, (0, 0, 0), 1020, 0)), (84, (.if_icmp .ne 28, 3, (112, 0, 0), 0, 0)), (87, (.iload_n 3, 1, (0, 0, 0), 0, 0)), (88, (.ifCond .le 177, 3, (265, 0, 0), 0, 0)), (91, (.aload_n 0, 1, (0, 0, 0), 0, 0)), (92, (.getfield 34, 3, (5, 7, 0), 0, 329)), (95, (.iload_n 3, 1, (0, 0, 0), 0, 0))],
  [(96, (.iconst 1, 1, (0, 0, 0), 1, 0)), (97, (.isub, 1, (0, 0, 0), 0, 0)), (98, (.lconst 1, 1, (0, 0, 0), 1, 0)), (99, (.aload_n 0, 1, (0, 0, 0), 0, 0)), (100, (.getfield 34, 3, (5, 7, 0), 0, 329)), (103, (.iload_n 3, 1, (0, 0, 0), 0, 0)), (104, (.iconst 1, 1, (0, 0, 0), 1, 0)), (105, (.isub, 1, (0, 0, 0), 0, 0)), (106, (.laload, 1, (0, 0, 0), 0, 0)), (107, (.lsub, 1, (0, 0, 0), 0, 0)), (108, (.lastore, 1, (0, 0, 0), 0, 0)), (109, (.goto 156, 3, (265, 0, 0), 0, 0)), (112, (.iload_n 3, 1, (0, 0, 0), 0, 0)), (113, (.iconst 1, 1, (0, 0, 0), 1, 0)), (114, (.if_icmp .le 151, 3, (265, 0, 0), 0, 0)), (117, (.iinc 3 (-1), 3, (0, 0, 0), (-1), 0)), (120, (.aload_n 0, 1, (0, 0, 0), 0, 0)), (121, (.getfield 34, 3, (5, 7, 0), 0, 329)), (124, (.iload_n 3, 1, (0, 0, 0), 0, 0)), (125, (.iconst 1, 1, (0, 0, 0), 1, 0)), (126, (.isub, 1, (0, 0, 0), 0, 0)), (127, (.laload, 1, (0, 0, 0), 0, 0))],
  [(128, (.lstore 6, 2, (0, 0, 0), 0, 0)), (130, (.aload_n 0, 1, (0, 0, 0), 0, 0)), (131, (.getfield 34, 3, (5, 7, 0), 0, 329)), (134, (.iload_n 3, 1, (0, 0, 0), 0, 0)), (135, (.laload, 1, (0, 0, 0), 0, 0)), (136, (.lstore 8, 2, (0, 0, 0), 0, 0)), (138, (.iload 5, 2, (0, 0, 0), 0, 0)), (140, (.tableswitch 112 1021 1024 #[32, 48, 72, 96], 32, (6, 0, 0), 0, 0))],
  [(172, (.aload_n 0, 1, (0, 0, 0), 0, 0)), (173, (.getfield 34, 3, (5, 7, 0), 0, 329)), (176, (.iload_n 3, 1, (0, 0, 0), 0, 0)), (177, (.iconst 1, 1, (0, 0, 0), 1, 0)), (178, (.isub, 1, (0, 0, 0), 0, 0)), (179, (.lload 6, 2, (0, 0, 0), 0, 0)), (181, (.lload 8, 2, (0, 0, 0), 0, 0)), (183, (.ladd, 1, (0, 0, 0), 0, 0)), (184, (.lastore, 1, (0, 0, 0), 0, 0)), (185, (.goto 80, 3, (265, 0, 0), 0, 0)), (188, (.aload_n 0, 1, (0, 0, 0), 0, 0)), (189, (.getfield 34, 3, (5, 7, 0), 0, 329))],
  [(192, (.iload_n 3, 1, (0, 0, 0), 0, 0)), (193, (.iconst 1, 1, (0, 0, 0), 1, 0)), (194, (.isub, 1, (0, 0, 0), 0, 0)), (195, (.lload 6, 2, (0, 0, 0), 0, 0)), (197, (.lload 8, 2, (0, 0, 0), 0, 0)), (199, (.lcmp, 1, (0, 0, 0), 0, 0)), (200, (.ifCond .ge 7, 3, (207, 0, 0), 0, 0)), (203, (.lconst 1, 1, (0, 0, 0), 1, 0)), (204, (.goto 4, 3, (208, 0, 0), 0, 0)), (207, (.lconst 0, 1, (0, 0, 0), 0, 0)), (208, (.lastore, 1, (0, 0, 0), 0, 0)), (209, (.goto 56, 3, (265, 0, 0), 0, 0)), (212, (.aload_n 0, 1, (0, 0, 0), 0, 0)), (213, (.getfield 34, 3, (5, 7, 0), 0, 329)), (216, (.iload_n 3, 1, (0, 0, 0), 0, 0)), (217, (.iconst 1, 1, (0, 0, 0), 1, 0)), (218, (.isub, 1, (0, 0, 0), 0, 0)), (219, (.lload 6, 2, (0, 0, 0), 0, 0)), (221, (.lload 8, 2, (0, 0, 0), 0, 0)), (223, (.lcmp, 1, (0, 0, 0), 0, 0))],
  [(224, (.ifCond .le 7, 3, (231, 0, 0), 0, 0)), (227, (.lconst 1, 1, (0, 0, 0), 1, 0)), (228, (.goto 4, 3, (232, 0, 0), 0, 0)), (231, (.lconst 0, 1, (0, 0, 0), 0, 0)), (232, (.lastore, 1, (0, 0, 0), 0, 0)), (233, (.goto 32, 3, (265, 0, 0), 0, 0)), (236, (.aload_n 0, 1, (0, 0, 0), 0, 0)), (237, (.getfield 34, 3, (5, 7, 0), 0, 329)), (240, (.iload_n 3, 1, (0, 0, 0), 0, 0)), (241, (.iconst 1, 1, (0, 0, 0), 1, 0)), (242, (.isub, 1, (0, 0, 0), 0, 0)), (243, (.lload 6, 2, (0, 0, 0), 0, 0)), (245, (.lload 8, 2, (0, 0, 0), 0, 0)), (247, (.land, 1, (0, 0, 0), 0, 0)), (248, (.lastore, 1, (0, 0, 0), 0, 0)), (249, (.goto 16, 3, (265, 0, 0), 0, 0)), (252, (.aload_n 0, 1, (0, 0, 0), 0, 0)), (253, (.getfield 34, 3, (5, 7, 0), 0, 329))],
  [(256, (.iload_n 3, 1, (0, 0, 0), 0, 0)), (257, (.iconst 1, 1, (0, 0, 0), 1, 0)), (258, (.isub, 1, (0, 0, 0), 0, 0)), (259, (.lload 6, 2, (0, 0, 0), 0, 0)), (261, (.lload 8, 2, (0, 0, 0), 0, 0)), (263, (.lor, 1, (0, 0, 0), 0, 0)), (264, (.lastore, 1, (0, 0, 0), 0, 0)), (265, (.iinc 4 1, 3, (0, 0, 0), 1, 0)), (268, (.goto (-258), 3, (10, 0, 0), 0, 0)), (271, (.iload_n 3, 1, (0, 0, 0), 0, 0)), (272, (.ifCond .eq 14, 3, (286, 0, 0), 0, 0)), (275, (.aload_n 0, 1, (0, 0, 0), 0, 0)), (276, (.getfield 34, 3, (5, 7, 0), 0, 329)), (279, (.iconst 0, 1, (0, 0, 0), 0, 0)), (280, (.laload, 1, (0, 0, 0), 0, 0)), (281, (.lconst 0, 1, (0, 0, 0), 0, 0)), (282, (.lcmp, 1, (0, 0, 0), 0, 0)), (283, (.ifCond .eq 7, 3, (290, 0, 0), 0, 0)), (286, (.iconst 1, 1, (0, 0, 0), 1, 0)), (287, (.goto 4, 3, (291, 0, 0), 0, 0))],
  [(290, (.iconst 0, 1, (0, 0, 0), 0, 0)), (291, (.ireturn, 1, (0, 0, 0), 0, 0))]]
set_option maxRecDepth 10000 in
def zp156 : List (List (Nat × ZI)) := [[(0, (.aload_n 0, 1, (0, 0, 0), 0, 0)), (1, (.invokespecial 3, 3, (1, 0, 0), 0, 564)), (4, (.aload_n 0, 1, (0, 0, 0), 0, 0)), (5, (.new 9, 3, (0, 5, 0), 0, 565)), (8, (.dup, 1, (0, 0, 0), 0, 0)), (9, (.invokespecial 11, 3, (0, 147, 1), 0, 566)), (12, (.putfield 12, 3, (6, 0, 0), 0, 567)), (15, (.aload_n 0, 1, (0, 0, 0), 0, 0)), (16, (.iconst (-1), 1, (0, 0, 0), (-1), 0)), (17, (.putfield 18, 3, (6, 1, 0), 0, 569)), (20, (.return_, 1, (0, 0, 0), 0, 0))]]
set_option maxRecDepth 10000 in
def zp157 : List (List (Nat × ZI)) := [[(0, (.aload_n 0, 1, (0, 0, 0), 0, 0)), (1, (.getfield 12, 3, (6, 0, 0), 0, 567)), (4, (.invokevirtual 22, 3, (0, 149, 1), 0, 1055)), (7, (.aload_n 0, 1, (0, 0, 0), 0, 0)), (8, (.iconst (-1), 1, (0, 0, 0), (-1), 0)), (9, (.putfield 18, 3, (6, 1, 0), 0, 569)), (12, (.aload_n 1, 1, (0, 0, 0), 0, 0)), (13, (.invokevirtual 25, 3, (0, 180, 1), 0, 1059)), (16, (.aload_n 1, 1, (0, 0, 0), 0, 0)), (17, (.getfield 30, 3, (9, 2, 1), 0, 229)), (20, (.ifCond .ne 5, 3, (25, 0, 0), 0, 0)), (23, (.iconst (-1), 1, (0, 0, 0), (-1), 0)), (24, (.ireturn, 1, (0, 0, 0), 0, 0)), (25, (.iconst 0, 1, (0, 0, 0), 0, 0)), (26, (.istore_n 2, 1, (0, 0, 0), 0, 0)), (27, (.iload_n 2, 1, (0, 0, 0), 0, 0)), (28, (.bipush 12, 2, (0, 0, 0), 12, 0)), (30, (.if_icmp .ge 49, 3, (79, 0, 0), 0, 0))],
  [(33, (.aload_n 0, 1, (0, 0, 0), 0, 0)), (34, (.aload_n 1, 1, (0, 0, 0), 0, 0)), (35, (.invokevirtual 33, 3, (0, 159, 0), 0, 1060)), (38, (.ifCond .ne 8, 3, (46, 0, 0), 0, 0)), (41, (.aload_n 0, 1, (0, 0, 0), 0, 0)), (42, (.getfield 18, 3, (6, 1, 0), 0, 569)), (45, (.ireturn, 1, (0, 0, 0), 0, 0)), (46, (.aload_n 1, 1, (0, 0, 0), 0, 0)), (47, (.getfield 30, 3, (9, 2, 1), 0, 229)), (50, (.ifCond .ne 5, 3, (55, 0, 0), 0, 0)), (53, (.iconst (-1), 1, (0, 0, 0), (-1), 0)), (54, (.ireturn, 1, (0, 0, 0), 0, 0)), (55, (.aload_n 1, 1, (0, 0, 0), 0, 0)), (56, (.bipush 59, 2, (0, 0, 0), 59, 0)), (58, (.invokevirtual 37, 3, (0, 183, 1), 0, 1091)), (61, (.ifCond .ne 8, 3, (69, 0, 0), 0, 0))],
  [(64, (.aload_n 1, 1, (0, 0, 0), 0, 0)), (65, (.getfield 41, 3, (9, 3, 1), 0, 232)), (68, (.ireturn, 1, (0, 0, 0), 0, 0)), (69, (.aload_n 1, 1, (0, 0, 0), 0, 0)), (70, (.invokevirtual 44, 3, (0, 181, 1), 0, 1070)), (73, (.iinc 2 1, 3, (0, 0, 0), 1, 0)), (76, (.goto (-49), 3, (27, 0, 0), 0, 0)), (79, (.aload_n 1, 1, (0, 0, 0), 0, 0)), (80, (.getfield 41, 3, (9, 3, 1), 0, 232)), (83, (.ireturn, 1, (0, 0, 0), 0, 0))]]
set_option maxRecDepth 10000 in
def zp158 : List (List (Nat × ZI)) := [[(0, (.aload_n 0, 1, (0, 0, 0), 0, 0)), (1, (.iload_n 1, 1, (0, 0, 0), 0, 0)), (2, (.putfield 18, 3, (6, 1, 0), 0, 569)), (5, (.iconst 0, 1, (0, 0, 0), 0, 0)), (6, (.ireturn, 1, (0, 0, 0), 0, 0))]]
set_option maxRecDepth 10000 in
def zp159 : List (List (Nat × ZI)) := [[(0, (.aload_n 1, 1, (0, 0, 0), 0, 0)), (1, (.ldc 47, 2, (1, 4, 0), 0, 1064)), (3, (.invokevirtual 49, 3, (0, 185, 1), 0, 1065)), (6, (.istore_n 2, 1, (0, 0, 0), 0, 0)), (7, (.iload_n 2, 1, (0, 0, 0), 0, 0)), (8, (.iconst (-1), 1, (0, 0, 0), (-1), 0)), (9, (.if_icmp .ne 12, 3, (21, 0, 0), 0, 0)), (12, (.aload_n 0, 1, (0, 0, 0), 0, 0)), (13, (.aload_n 1, 1, (0, 0, 0), 0, 0)), (14, (.getfield 41, 3, (9, 3, 1), 0, 232)), (17, (.invokevirtual 53, 3, (0, 158, 0), 0, 1066)), (20, (.ireturn, 1, (0, 0, 0), 0, 0)), (21, (.aload_n 1, 1, (0, 0, 0), 0, 0)), (22, (.invokevirtual 44, 3, (0, 181, 1), 0, 1070)), (25, (.aload_n 1, 1, (0, 0, 0), 0, 0)), (26, (.iconst 3, 1, (0, 0, 0), 3, 0)), (27, (.invokevirtual 57, 3, (0, 182, 1), 0, 1071)), (30, (.ifCond .ne 12, 3, (42, 0, 0), 0, 0))],
  [(33, (.aload_n 0, 1, (0, 0, 0), 0, 0)), (34, (.aload_n 1, 1, (0, 0, 0), 0, 0)), (35, (.getfield 41, 3, (9, 3, 1), 0, 232)), (38, (.invokevirtual 53, 3, (0, 158, 0), 0, 1066)), (41, (.ireturn, 1, (0, 0, 0), 0, 0)), (42, (.aload_n 0, 1, (0, 0, 0), 0, 0)), (43, (.getfield 12, 3, (6, 0, 0), 0, 567)), (46, (.iload_n 2, 1, (0, 0, 0), 0, 0)), (47, (.aload_n 1, 1, (0, 0, 0), 0, 0)), (48, (.getfield 60, 3, (9, 5, 1), 0, 236)), (51, (.invokevirtual 63, 3, (0, 150, 1), 0, 1072)), (54, (.aload_n 1, 1, (0, 0, 0), 0, 0)), (55, (.invokevirtual 44, 3, (0, 181, 1), 0, 1070)), (58, (.aload_n 1, 1, (0, 0, 0), 0, 0)), (59, (.ldc 67, 2, (1, 5, 0), 0, 1076)), (61, (.invokevirtual 69, 3, (0, 184, 1), 0, 1077))],
  [(64, (.ifCond .eq 18, 3, (82, 0, 0), 0, 0)), (67, (.aload_n 1, 1, (0, 0, 0), 0, 0)), (68, (.invokevirtual 44, 3, (0, 181, 1), 0, 1070)), (71, (.aload_n 0, 1, (0, 0, 0), 0, 0)), (72, (.aload_n 1, 1, (0, 0, 0), 0, 0)), (73, (.iconst 0, 1, (0, 0, 0), 0, 0)), (74, (.invokevirtual 73, 3, (0, 160, 0), 0, 1082)), (77, (.ifCond .ne 5, 3, (82, 0, 0), 0, 0)), (80, (.iconst 0, 1, (0, 0, 0), 0, 0)), (81, (.ireturn, 1, (0, 0, 0), 0, 0)), (82, (.aload_n 0, 1, (0, 0, 0), 0, 0)), (83, (.getfield 12, 3, (6, 0, 0), 0, 567)), (86, (.invokevirtual 77, 3, (0, 151, 1), 0, 1113)), (89, (.iconst 1, 1, (0, 0, 0), 1, 0)), (90, (.ireturn, 1, (0, 0, 0), 0, 0))]]
set_option maxRecDepth 10000 in
def zp160 : List (List (Nat × ZI)) := [[(0, (.iconst 0, 1, (0, 0, 0), 0, 0)), (1, (.istore_n 3, 1, (0, 0, 0), 0, 0)), (2, (.iconst 0, 1, (0, 0, 0), 0, 0)), (3, (.istore 4, 2, (0, 0, 0), 0, 0)), (5, (.iconst 0, 1, (0, 0, 0), 0, 0)), (6, (.istore 5, 2, (0, 0, 0), 0, 0)), (8, (.iload 5, 2, (0, 0, 0), 0, 0)), (10, (.sipush 400, 3, (0, 0, 0), 400, 0)), (13, (.if_icmp .ge 79, 3, (92, 0, 0), 0, 0)), (16, (.aload_n 0, 1, (0, 0, 0), 0, 0)), (17, (.aload_n 1, 1, (0, 0, 0), 0, 0)), (18, (.iload_n 2, 1, (0, 0, 0), 0, 0)), (19, (.invokevirtual 80, 3, (0, 161, 0), 0, 1086)), (22, (.ifCond .ne 5, 3, (27, 0, 0), 0, 0)), (25, (.iconst 0, 1, (0, 0, 0), 0, 0)), (26, (.ireturn, 1, (0, 0, 0), 0, 0)), (27, (.iload_n 3, 1, (0, 0, 0), 0, 0)), (28, (.ifCond .eq 13, 3, (41, 0, 0), 0, 0)), (31, (.aload_n 0, 1, (0, 0, 0), 0, 0))],
  [(32, (.getfield 12, 3, (6, 0, 0), 0, 567)), (35, (.sipush 1024, 3, (0, 0, 0), 1024, 0)), (38, (.invokevirtual 83, 3, (0, 152, 1), 0, 1096)), (41, (.aload_n 1, 1, (0, 0, 0), 0, 0)), (42, (.ldc 87, 2, (1, 10, 0), 0, 1111)), (44, (.invokevirtual 69, 3, (0, 184, 1), 0, 1077)), (47, (.istore_n 3, 1, (0, 0, 0), 0, 0)), (48, (.iload_n 3, 1, (0, 0, 0), 0, 0)), (49, (.ifCond .ne 33, 3, (82, 0, 0), 0, 0)), (52, (.iload 4, 2, (0, 0, 0), 0, 0)), (54, (.ifCond .eq 13, 3, (67, 0, 0), 0, 0)), (57, (.aload_n 0, 1, (0, 0, 0), 0, 0)), (58, (.getfield 12, 3, (6, 0, 0), 0, 567)), (61, (.sipush 1025, 3, (0, 0, 0), 1025, 0))],
  [(64, (.invokevirtual 83, 3, (0, 152, 1), 0, 1096)), (67, (.aload_n 1, 1, (0, 0, 0), 0, 0)), (68, (.ldc 89, 2, (1, 11, 0), 0, 1112)), (70, (.invokevirtual 69, 3, (0, 184, 1), 0, 1077)), (73, (.istore 4, 2, (0, 0, 0), 0, 0)), (75, (.iload 4, 2, (0, 0, 0), 0, 0)), (77, (.ifCond .ne 5, 3, (82, 0, 0), 0, 0)), (80, (.iconst 1, 1, (0, 0, 0), 1, 0)), (81, (.ireturn, 1, (0, 0, 0), 0, 0)), (82, (.aload_n 1, 1, (0, 0, 0), 0, 0)), (83, (.invokevirtual 44, 3, (0, 181, 1), 0, 1070)), (86, (.iinc 5 1, 3, (0, 0, 0), 1, 0)), (89, (.goto (-81), 3, (8, 0, 0), 0, 0)), (92, (.aload_n 0, 1, (0, 0, 0), 0, 0)), (93, (.aload_n 1, 1, (0, 0, 0), 0, 0)), (94, (.getfield 41, 3, (9, 3, 1), 0, 232))],
  [(97, (.invokevirtual 53, 3, (0, 158, 0), 0, 1066)), (100, (.ireturn, 1, (0, 0, 0), 0, 0))]]
set_option maxRecDepth 10000 in
def zp161 : List (List (Nat × ZI)) := [[(0, (.aload_n 1, 1, (0, 0, 0), 0, 0)), (1, (.ldc 91, 2, (1, 6, 0), 0, 1090)), (3, (.invokevirtual 69, 3, (0, 184, 1), 0, 1077)), (6, (.istore_n 3, 1, (0, 0, 0), 0, 0)), (7, (.iload_n 3, 1, (0, 0, 0), 0, 0)), (8, (.ifCond .ne 12, 3, (20, 0, 0), 0, 0)), (11, (.aload_n 1, 1, (0, 0, 0), 0, 0)), (12, (.bipush 40, 2, (0, 0, 0), 40, 0)), (14, (.invokevirtual 37, 3, (0, 183, 1), 0, 1091)), (17, (.ifCond .eq 46, 3, (63, 0, 0), 0, 0)), (20, (.iload_n 2, 1, (0, 0, 0), 0, 0)), (21, (.bipush 6, 2, (0, 0, 0), 6, 0)), (23, (.if_icmp .lt 12, 3, (35, 0, 0), 0, 0)), (26, (.aload_n 0, 1, (0, 0, 0), 0, 0)), (27, (.aload_n 1, 1, (0, 0, 0), 0, 0)), (28, (.getfield 41, 3, (9, 3, 1), 0, 232)), (31, (.invokevirtual 53, 3, (0, 158, 0), 0, 1066))],
  [(34, (.ireturn, 1, (0, 0, 0), 0, 0)), (35, (.aload_n 1, 1, (0, 0, 0), 0, 0)), (36, (.invokevirtual 44, 3, (0, 181, 1), 0, 1070)), (39, (.iload_n 3, 1, (0, 0, 0), 0, 0)), (40, (.ifCond .eq 14, 3, (54, 0, 0), 0, 0)), (43, (.aload_n 0, 1, (0, 0, 0), 0, 0)), (44, (.aload_n 1, 1, (0, 0, 0), 0, 0)), (45, (.iload_n 2, 1, (0, 0, 0), 0, 0)), (46, (.iconst 1, 1, (0, 0, 0), 1, 0)), (47, (.iadd, 1, (0, 0, 0), 0, 0)), (48, (.invokevirtual 93, 3, (0, 162, 0), 0, 1092)), (51, (.goto 11, 3, (62, 0, 0), 0, 0)), (54, (.aload_n 0, 1, (0, 0, 0), 0, 0)), (55, (.aload_n 1, 1, (0, 0, 0), 0, 0)), (56, (.iload_n 2, 1, (0, 0, 0), 0, 0)), (57, (.iconst 1, 1, (0, 0, 0), 1, 0)), (58, (.iadd, 1, (0, 0, 0), 0, 0)), (59, (.invokevirtual 96, 3, (0, 163, 0), 0, 1100)), (62, (.ireturn, 1, (0, 0, 0), 0, 0)), (63, (.aload_n 1, 1, (0, 0, 0), 0, 0))],
  [(64, (.ldc 99, 2, (1, 7, 0), 0, 1104)), (66, (.invokevirtual 49, 3, (0, 185, 1), 0, 1065)), (69, (.istore 4, 2, (0, 0, 0), 0, 0)), (71, (.iload 4, 2, (0, 0, 0), 0, 0)), (73, (.iconst (-1), 1, (0, 0, 0), (-1), 0)), (74, (.if_icmp .eq 22, 3, (96, 0, 0), 0, 0)), (77, (.aload_n 0, 1, (0, 0, 0), 0, 0)), (78, (.getfield 12, 3, (6, 0, 0), 0, 567)), (81, (.sipush 1006, 3, (0, 0, 0), 1006, 0)), (84, (.iload 4, 2, (0, 0, 0), 0, 0)), (86, (.iadd, 1, (0, 0, 0), 0, 0)), (87, (.invokevirtual 83, 3, (0, 152, 1), 0, 1096)), (90, (.aload_n 1, 1, (0, 0, 0), 0, 0)), (91, (.invokevirtual 44, 3, (0, 181, 1), 0, 1070)), (94, (.iconst 1, 1, (0, 0, 0), 1, 0)), (95, (.ireturn, 1, (0, 0, 0), 0, 0))],
  [(96, (.aload_n 1, 1, (0, 0, 0), 0, 0)), (97, (.ldc 101, 2, (1, 8, 0), 0, 1105)), (99, (.invokevirtual 69, 3, (0, 184, 1), 0, 1077)), (102, (.ifCond .eq 19, 3, (121, 0, 0), 0, 0)), (105, (.aload_n 0, 1, (0, 0, 0), 0, 0)), (106, (.getfield 12, 3, (6, 0, 0), 0, 567)), (109, (.sipush 1011, 3, (0, 0, 0), 1011, 0)), (112, (.invokevirtual 83, 3, (0, 152, 1), 0, 1096)), (115, (.aload_n 1, 1, (0, 0, 0), 0, 0)), (116, (.invokevirtual 44, 3, (0, 181, 1), 0, 1070)), (119, (.iconst 1, 1, (0, 0, 0), 1, 0)), (120, (.ireturn, 1, (0, 0, 0), 0, 0)), (121, (.aload_n 0, 1, (0, 0, 0), 0, 0)), (122, (.aload_n 1, 1, (0, 0, 0), 0, 0)), (123, (.invokevirtual 103, 3, (0, 164, 0), 0, 1106)), (126, (.ireturn, 1, (0, 0, 0), 0, 0))]]
set_option maxRecDepth 10000 in
def zp162 : List (List (Nat × ZI)) := [[(0, (.aload_n 0, 1, (0, 0, 0), 0, 0)), (1, (.aload_n 1, 1, (0, 0, 0), 0, 0)), (2, (.iload_n 2, 1, (0, 0, 0), 0, 0)), (3, (.invokevirtual 80, 3, (0, 161, 0), 0, 1086)), (6, (.ifCond .ne 5, 3, (11, 0, 0), 0, 0)), (9, (.iconst 0, 1, (0, 0, 0), 0, 0)), (10, (.ireturn, 1, (0, 0, 0), 0, 0)), (11, (.aload_n 0, 1, (0, 0, 0), 0, 0)), (12, (.getfield 12, 3, (6, 0, 0), 0, 567)), (15, (.sipush 1020, 3, (0, 0, 0), 1020, 0)), (18, (.invokevirtual 83, 3, (0, 152, 1), 0, 1096)), (21, (.iconst 1, 1, (0, 0, 0), 1, 0)), (22, (.ireturn, 1, (0, 0, 0), 0, 0))]]
set_option maxRecDepth 10000 in
def zp163 : List (List (Nat × ZI)) := [[(0, (.aload_n 0, 1, (0, 0, 0), 0, 0)), (1, (.aload_n 1, 1, (0, 0, 0), 0, 0)), (2, (.iload_n 2, 1, (0, 0, 0), 0, 0)), (3, (.invokevirtual 73, 3, (0, 160, 0), 0, 1082)), (6, (.ifCond .ne 5, 3, (11, 0, 0), 0, 0)), (9, (.iconst 0, 1, (0, 0, 0), 0, 0)), (10, (.ireturn, 1, (0, 0, 0), 0, 0)), (11, (.aload_n 1, 1, (0, 0, 0), 0, 0)), (12, (.bipush 41, 2, (0, 0, 0), 41, 0)), (14, (.invokevirtual 37, 3, (0, 183, 1), 0, 1091)), (17, (.ifCond .ne 12, 3, (29, 0, 0), 0, 0)), (20, (.aload_n 0, 1, (0, 0, 0), 0, 0)), (21, (.aload_n 1, 1, (0, 0, 0), 0, 0)), (22, (.getfield 41, 3, (9, 3, 1), 0, 232)), (25, (.invokevirtual 53, 3, (0, 158, 0), 0, 1066)), (28, (.ireturn, 1, (0, 0, 0), 0, 0)), (29, (.aload_n 1, 1, (0, 0, 0), 0, 0)), (30, (.invokevirtual 44, 3, (0, 181, 1), 0, 1070))],
  [(33, (.iconst 1, 1, (0, 0, 0), 1, 0)), (34, (.ireturn, 1, (0, 0, 0), 0, 0))]]
set_option maxRecDepth 10000 in
def zp164 : List (List (Nat × ZI)) := [[(0, (.iconst (-1), 1, (0, 0, 0), (-1), 0)), (1, (.istore_n 2, 1, (0, 0, 0), 0, 0)), (2, (.iconst 0, 1, (0, 0, 0), 0, 0)), (3, (.istore_n 3, 1, (0, 0, 0), 0, 0)), (4, (.iconst 0, 1, (0, 0, 0), 0, 0)), (5, (.istore 4, 2, (0, 0, 0), 0, 0)), (7, (.iload 4, 2, (0, 0, 0), 0, 0)), (9, (.sipush 400, 3, (0, 0, 0), 400, 0)), (12, (.if_icmp .ge 160, 3, (172, 0, 0), 0, 0)), (15, (.aload_n 1, 1, (0, 0, 0), 0, 0)), (16, (.ldc 106, 2, (1, 9, 0), 0, 1110)), (18, (.invokevirtual 49, 3, (0, 185, 1), 0, 1065)), (21, (.istore 5, 2, (0, 0, 0), 0, 0)), (23, (.iload 5, 2, (0, 0, 0), 0, 0)), (25, (.iconst (-1), 1, (0, 0, 0), (-1), 0)), (26, (.if_icmp .ne 20, 3, (46, 0, 0), 0, 0)), (29, (.aload_n 1, 1, (0, 0, 0), 0, 0)), (30, (.iconst 3, 1, (0, 0, 0), 3, 0)), (31, (.invokevirtual 57, 3, (0, 182, 1), 0, 1071))],
  [(34, (.ifCond .ne 12, 3, (46, 0, 0), 0, 0)), (37, (.aload_n 0, 1, (0, 0, 0), 0, 0)), (38, (.aload_n 1, 1, (0, 0, 0), 0, 0)), (39, (.getfield 41, 3, (9, 3, 1), 0, 232)), (42, (.invokevirtual 53, 3, (0, 158, 0), 0, 1066)), (45, (.ireturn, 1, (0, 0, 0), 0, 0)), (46, (.aload_n 0, 1, (0, 0, 0), 0, 0)), (47, (.getfield 12, 3, (6, 0, 0), 0, 567)), (50, (.iload 5, 2, (0, 0, 0), 0, 0)), (52, (.iconst (-1), 1, (0, 0, 0), (-1), 0)), (53, (.if_icmp .ne 10, 3, (63, 0, 0), 0, 0)), (56, (.aload_n 1, 1, (0, 0, 0), 0, 0)), (57, (.getfield 60, 3, (9, 5, 1), 0, 236)), (60, (.goto 9, 3, (69, 0, 0), 0, 0)), (63, (.sipush 1000, 3, (0, 0, 0), 1000, 0))],
  [(66, (.iload 5, 2, (0, 0, 0), 0, 0)), (68, (.iadd, 1, (0, 0, 0), 0, 0)), (69, (.invokevirtual 83, 3, (0, 152, 1), 0, 1096)), (72, (.iload_n 3, 1, (0, 0, 0), 0, 0)), (73, (.ifCond .eq 13, 3, (86, 0, 0), 0, 0)), (76, (.aload_n 0, 1, (0, 0, 0), 0, 0)), (77, (.getfield 12, 3, (6, 0, 0), 0, 567)), (80, (.sipush 1021, 3, (0, 0, 0), 1021, 0)), (83, (.invokevirtual 83, 3, (0, 152, 1), 0, 1096)), (86, (.aload_n 1, 1, (0, 0, 0), 0, 0)), (87, (.invokevirtual 44, 3, (0, 181, 1), 0, 1070)), (90, (.aload_n 1, 1, (0, 0, 0), 0, 0)), (91, (.bipush 43, 2, (0, 0, 0), 43, 0)), (93, (.invokevirtual 37, 3, (0, 183, 1), 0, 1091))],
  [(96, (.istore_n 3, 1, (0, 0, 0), 0, 0)), (97, (.iload_n 3, 1, (0, 0, 0), 0, 0)), (98, (.ifCond .ne 64, 3, (162, 0, 0), 0, 0)), (101, (.iload_n 2, 1, (0, 0, 0), 0, 0)), (102, (.iconst (-1), 1, (0, 0, 0), (-1), 0)), (103, (.if_icmp .eq 13, 3, (116, 0, 0), 0, 0)), (106, (.aload_n 0, 1, (0, 0, 0), 0, 0)), (107, (.getfield 12, 3, (6, 0, 0), 0, 567)), (110, (.iload_n 2, 1, (0, 0, 0), 0, 0)), (111, (.invokevirtual 83, 3, (0, 152, 1), 0, 1096)), (114, (.iconst 1, 1, (0, 0, 0), 1, 0)), (115, (.ireturn, 1, (0, 0, 0), 0, 0)), (116, (.aload_n 1, 1, (0, 0, 0), 0, 0)), (117, (.bipush 60, 2, (0, 0, 0), 60, 0)), (119, (.invokevirtual 37, 3, (0, 183, 1), 0, 1091)), (122, (.ifCond .ne 21, 3, (143, 0, 0), 0, 0)), (125, (.aload_n 1, 1, (0, 0, 0), 0, 0)), (126, (.bipush 62, 2, (0, 0, 0), 62, 0))],
  [(128, (.invokevirtual 37, 3, (0, 183, 1), 0, 1091)), (131, (.ifCond .ne 12, 3, (143, 0, 0), 0, 0)), (134, (.aload_n 0, 1, (0, 0, 0), 0, 0)), (135, (.aload_n 1, 1, (0, 0, 0), 0, 0)), (136, (.getfield 41, 3, (9, 3, 1), 0, 232)), (139, (.invokevirtual 53, 3, (0, 158, 0), 0, 1066)), (142, (.ireturn, 1, (0, 0, 0), 0, 0)), (143, (.aload_n 1, 1, (0, 0, 0), 0, 0)), (144, (.bipush 60, 2, (0, 0, 0), 60, 0)), (146, (.invokevirtual 37, 3, (0, 183, 1), 0, 1091)), (149, (.ifCond .eq 9, 3, (158, 0, 0), 0, 0)), (152, (.sipush 1022, 3, (0, 0, 0), 1022, 0)), (155, (.goto 6, 3, (161, 0, 0), 0, 0)), (158, (.sipush 1023, 3, (0, 0, 0), 1023, 0))],
  [(161, (.istore_n 2, 1, (0, 0, 0), 0, 0)), (162, (.aload_n 1, 1, (0, 0, 0), 0, 0)), (163, (.invokevirtual 44, 3, (0, 181, 1), 0, 1070)), (166, (.iinc 4 1, 3, (0, 0, 0), 1, 0)), (169, (.goto (-162), 3, (7, 0, 0), 0, 0)), (172, (.aload_n 0, 1, (0, 0, 0), 0, 0)), (173, (.aload_n 1, 1, (0, 0, 0), 0, 0)), (174, (.getfield 41, 3, (9, 3, 1), 0, 232)), (177, (.invokevirtual 53, 3, (0, 158, 0), 0, 1066)), (180, (.ireturn, 1, (0, 0, 0), 0, 0))]]
set_option maxRecDepth 10000 in
def zp165 : List (List (Nat × ZI)) := [[(0, (.aload_n 0, 1, (0, 0, 0), 0, 0)), (1, (.invokespecial 1, 3, (1, 0, 0), 0, 463)), (4, (.aload_n 0, 1, (0, 0, 0), 0, 0)), (5, (.bipush 12, 2, (0, 0, 0), 12, 0)), (7, (.anewarray 9, 3, (3, 465, 0), 0, 464)), (10, (.putfield 11, 3, (7, 0, 0), 0, 468)), (13, (.aload_n 0, 1, (0, 0, 0), 0, 0)), (14, (.bipush 12, 2, (0, 0, 0), 12, 0)), (16, (.anewarray 15, 3, (4, 467, 0), 0, 466)), (19, (.putfield 17, 3, (7, 1, 0), 0, 469)), (22, (.aload_n 0, 1, (0, 0, 0), 0, 0)), (23, (.iconst 0, 1, (0, 0, 0), 0, 0)), (24, (.putfield 21, 3, (7, 2, 0), 0, 470)), (27, (.aload_n 0, 1, (0, 0, 0), 0, 0)), (28, (.iconst 0, 1, (0, 0, 0), 0, 0)), (29, (.putfield 25, 3, (7, 3, 0), 0, 472))],
  [(32, (.return_, 1, (0, 0, 0), 0, 0))]]
set_option maxRecDepth 10000 in
def zp166 : List (List (Nat × ZI)) := [[(0, (.aload_n 0, 1, (0, 0, 0), 0, 0)), (1, (.iconst 0, 1, (0, 0, 0), 0, 0)), (2, (.putfield 21, 3, (7, 2, 0), 0, 470)), (5, (.return_, 1, (0, 0, 0), 0, 0))]]
set_option maxRecDepth 10000 in
def zp167 : List (List (Nat × ZI)) := [[(0, (.aload_n 0, 1, (0, 0, 0), 0, 0)), (1, (.getfield 11, 3, (7, 0, 0), 0, 468)), (4, (.aload_n 0, 1, (0, 0, 0), 0, 0)), (5, (.getfield 25, 3, (7, 3, 0), 0, 472)), (8, (.aaload, 1, (0, 0, 0), 0, 0)), (9, (.ifnonnull 19, 3, (28, 0, 0), 0, 0)), (12, (.aload_n 0, 1, (0, 0, 0), 0, 0)), (13, (.getfield 11, 3, (7, 0, 0), 0, 468)), (16, (.aload_n 0, 1, (0, 0, 0), 0, 0)), (17, (.getfield 25, 3, (7, 3, 0), 0, 472)), (20, (.new 9, 3, (0, 0, 0), 0, 464)), (23, (.dup, 1, (0, 0, 0), 0, 0)), (24, (.invokespecial 28, 3, (0, 90, 1), 0, 1250)), (27, (.aastore, 1, (0, 0, 0), 0, 0)), (28, (.aload_n 0, 1, (0, 0, 0), 0, 0)), (29, (.getfield 17, 3, (7, 1, 0), 0, 469))],
  [(32, (.aload_n 0, 1, (0, 0, 0), 0, 0)), (33, (.getfield 25, 3, (7, 3, 0), 0, 472)), (36, (.aaload, 1, (0, 0, 0), 0, 0)), (37, (.ifnonnull 19, 3, (56, 0, 0), 0, 0)), (40, (.aload_n 0, 1, (0, 0, 0), 0, 0)), (41, (.getfield 17, 3, (7, 1, 0), 0, 469)), (44, (.aload_n 0, 1, (0, 0, 0), 0, 0)), (45, (.getfield 25, 3, (7, 3, 0), 0, 472)), (48, (.new 15, 3, (0, 1, 0), 0, 466)), (51, (.dup, 1, (0, 0, 0), 0, 0)), (52, (.invokespecial 29, 3, (0, 107, 1), 0, 1251)), (55, (.aastore, 1, (0, 0, 0), 0, 0)), (56, (.aload_n 0, 1, (0, 0, 0), 0, 0)), (57, (.getfield 11, 3, (7, 0, 0), 0, 468)), (60, (.aload_n 0, 1, (0, 0, 0), 0, 0)), (61, (.getfield 25, 3, (7, 3, 0), 0, 472))],
  [(64, (.aaload, 1, (0, 0, 0), 0, 0)), (65, (.aload_n 1, 1, (0, 0, 0), 0, 0)), (66, (.invokevirtual 30, 3, (0, 91, 1), 0, 754)), (69, (.aload_n 0, 1, (0, 0, 0), 0, 0)), (70, (.getfield 17, 3, (7, 1, 0), 0, 469)), (73, (.aload_n 0, 1, (0, 0, 0), 0, 0)), (74, (.getfield 25, 3, (7, 3, 0), 0, 472)), (77, (.aaload, 1, (0, 0, 0), 0, 0)), (78, (.aload_n 2, 1, (0, 0, 0), 0, 0)), (79, (.invokevirtual 34, 3, (0, 108, 1), 0, 755)), (82, (.aload_n 0, 1, (0, 0, 0), 0, 0)), (83, (.aload_n 0, 1, (0, 0, 0), 0, 0)), (84, (.getfield 25, 3, (7, 3, 0), 0, 472)), (87, (.iconst 1, 1, (0, 0, 0), 1, 0)), (88, (.iadd, 1, (0, 0, 0), 0, 0)), (89, (.bipush 12, 2, (0, 0, 0), 12, 0)), (91, (.if_icmp .ge 12, 3, (103, 0, 0), 0, 0)), (94, (.aload_n 0, 1, (0, 0, 0), 0, 0)), (95, (.getfield 25, 3, (7, 3, 0), 0, 472))],
  [(98, (.iconst 1, 1, (0, 0, 0), 1, 0)), (99, (.iadd, 1, (0, 0, 0), 0, 0)), (100, (.goto 4, 3, (104, 0, 0), 0, 0)), (103, (.iconst 0, 1, (0, 0, 0), 0, 0)), (104, (.putfield 25, 3, (7, 3, 0), 0, 472)), (107, (.aload_n 0, 1, (0, 0, 0), 0, 0)), (108, (.aload_n 0, 1, (0, 0, 0), 0, 0)), (109, (.getfield 21, 3, (7, 2, 0), 0, 470)), (112, (.iconst 1, 1, (0, 0, 0), 1, 0)), (113, (.iadd, 1, (0, 0, 0), 0, 0)), (114, (.bipush 12, 2, (0, 0, 0), 12, 0)), (116, (.invokestatic 37, 3, (2, 0, 0), 0, 1252)), (119, (.putfield 21, 3, (7, 2, 0), 0, 470)), (122, (.return_, 1, (0, 0, 0), 0, 0))]]
set_option maxRecDepth 10000 in
def zp168 : List (List (Nat × ZI)) := [[(0, (.aload_n 0, 1, (0, 0, 0), 0, 0)), (1, (.getfield 25, 3, (7, 3, 0), 0, 472)), (4, (.ifCond .le 12, 3, (16, 0, 0), 0, 0)), (7, (.aload_n 0, 1, (0, 0, 0), 0, 0)), (8, (.getfield 25, 3, (7, 3, 0), 0, 472)), (11, (.iconst 1, 1, (0, 0, 0), 1, 0)), (12, (.isub, 1, (0, 0, 0), 0, 0)), (13, (.goto 5, 3, (18, 0, 0), 0, 0)), (16, (.bipush 11, 2, (0, 0, 0), 11, 0)), (18, (.istore_n 3, 1, (0, 0, 0), 0, 0)), (19, (.aload_n 0, 1, (0, 0, 0), 0, 0)), (20, (.getfield 21, 3, (7, 2, 0), 0, 470)), (23, (.ifCond .eq 21, 3, (44, 0, 0), 0, 0)), (26, (.aload_n 0, 1, (0, 0, 0), 0, 0)), (27, (.getfield 11, 3, (7, 0, 0), 0, 468)), (30, (.iload_n 3, 1, (0, 0, 0), 0, 0)), (31, (.aaload, 1, (0, 0, 0), 0, 0))],
  [(32, (.ifnull 12, 3, (44, 0, 0), 0, 0)), (35, (.aload_n 0, 1, (0, 0, 0), 0, 0)), (36, (.getfield 17, 3, (7, 1, 0), 0, 469)), (39, (.iload_n 3, 1, (0, 0, 0), 0, 0)), (40, (.aaload, 1, (0, 0, 0), 0, 0)), (41, (.ifnonnull 5, 3, (46, 0, 0), 0, 0)), (44, (.iconst 0, 1, (0, 0, 0), 0, 0)), (45, (.ireturn, 1, (0, 0, 0), 0, 0)), (46, (.aload_n 1, 1, (0, 0, 0), 0, 0)), (47, (.aload_n 0, 1, (0, 0, 0), 0, 0)), (48, (.getfield 11, 3, (7, 0, 0), 0, 468)), (51, (.iload_n 3, 1, (0, 0, 0), 0, 0)), (52, (.aaload, 1, (0, 0, 0), 0, 0)), (53, (.invokevirtual 30, 3, (0, 91, 1), 0, 754)), (56, (.aload_n 2, 1, (0, 0, 0), 0, 0)), (57, (.aload_n 0, 1, (0, 0, 0), 0, 0)), (58, (.getfield 17, 3, (7, 1, 0), 0, 469)), (61, (.iload_n 3, 1, (0, 0, 0), 0, 0)), (62, (.aaload, 1, (0, 0, 0), 0, 0)), (63, (.invokevirtual 34, 3, (0, 108, 1), 0, 755))],
  [(66, (.aload_n 0, 1, (0, 0, 0), 0, 0)), (67, (.iload_n 3, 1, (0, 0, 0), 0, 0)), (68, (.putfield 25, 3, (7, 3, 0), 0, 472)), (71, (.aload_n 0, 1, (0, 0, 0), 0, 0)), (72, (.dup, 1, (0, 0, 0), 0, 0)), (73, (.getfield 21, 3, (7, 2, 0), 0, 470)), (76, (.iconst 1, 1, (0, 0, 0), 1, 0)), (77, (.isub, 1, (0, 0, 0), 0, 0)), (78, (.putfield 21, 3, (7, 2, 0), 0, 470)), (81, (.iconst 1, 1, (0, 0, 0), 1, 0)), (82, (.ireturn, 1, (0, 0, 0), 0, 0))]]
set_option maxRecDepth 10000 in
def zp169 : List (List (Nat × ZI)) := [[(0, (.aload_n 0, 1, (0, 0, 0), 0, 0)), (1, (.invokespecial 3, 3, (1, 0, 0), 0, 263)), (4, (.aload_n 0, 1, (0, 0, 0), 0, 0)), (5, (.iconst 0, 1, (0, 0, 0), 0, 0)), (6, (.putfield 9, 3, (8, 0, 0), 0, 264)), (9, (.aload_n 0, 1, (0, 0, 0), 0, 0)), (10, (.iconst 0, 1, (0, 0, 0), 0, 0)), (11, (.putfield 15, 3, (8, 1, 0), 0, 269)), (14, (.aload_n 0, 1, (0, 0, 0), 0, 0)), (15, (.iconst 0, 1, (0, 0, 0), 0, 0)), (16, (.putfield 18, 3, (8, 2, 0), 0, 272)), (19, (.aload_n 0, 1, (0, 0, 0), 0, 0)), (20, (.iconst 0, 1, (0, 0, 0), 0, 0)), (21, (.putfield 21, 3, (8, 3, 0), 0, 277)), (24, (.aload_n 0, 1, (0, 0, 0), 0, 0)), (25, (.bipush 12, 2, (0, 0, 0), 12, 0)), (27, (.newarray .int, 2, (0, 0, 0), 0, 251)), (29, (.putfield 24, 3, (8, 4, 0), 0, 279))],
  [(32, (.aload_n 0, 1, (0, 0, 0), 0, 0)), (33, (.bipush 12, 2, (0, 0, 0), 12, 0)), (35, (.newarray .int, 2, (0, 0, 0), 0, 251)), (37, (.putfield 28, 3, (8, 5, 0), 0, 284)), (40, (.aload_n 0, 1, (0, 0, 0), 0, 0)), (41, (.bipush 12, 2, (0, 0, 0), 12, 0)), (43, (.newarray .int, 2, (0, 0, 0), 0, 251)), (45, (.putfield 31, 3, (8, 6, 0), 0, 287)), (48, (.aload_n 0, 1, (0, 0, 0), 0, 0)), (49, (.bipush 8, 2, (0, 0, 0), 8, 0)), (51, (.newarray .int, 2, (0, 0, 0), 0, 251)), (53, (.putfield 34, 3, (8, 7, 0), 0, 290)), (56, (.aload_n 0, 1, (0, 0, 0), 0, 0)), (57, (.bipush 96, 2, (0, 0, 0), 96, 0)), (59, (.newarray .int, 2, (0, 0, 0), 0, 251)), (61, (.putfield 37, 3, (8, 8, 0), 0, 294))],
  [(64, (.return_, 1, (0, 0, 0), 0, 0))]]
set_option maxRecDepth 10000 in
def zp170 : List (List (Nat × ZI)) := [[(0, (.aload_n 0, 1, (0, 0, 0), 0, 0)), (1, (.aload_n 1, 1, (0, 0, 0), 0, 0)), (2, (.getfield 9, 3, (8, 0, 0), 0, 264)), (5, (.putfield 9, 3, (8, 0, 0), 0, 264)), (8, (.aload_n 0, 1, (0, 0, 0), 0, 0)), (9, (.aload_n 1, 1, (0, 0, 0), 0, 0)), (10, (.getfield 15, 3, (8, 1, 0), 0, 269)), (13, (.putfield 15, 3, (8, 1, 0), 0, 269)), (16, (.aload_n 0, 1, (0, 0, 0), 0, 0)), (17, (.aload_n 1, 1, (0, 0, 0), 0, 0)), (18, (.getfield 18, 3, (8, 2, 0), 0, 272)), (21, (.putfield 18, 3, (8, 2, 0), 0, 272)), (24, (.aload_n 0, 1, (0, 0, 0), 0, 0)), (25, (.aload_n 1, 1, (0, 0, 0), 0, 0)), (26, (.getfield 21, 3, (8, 3, 0), 0, 277)), (29, (.putfield 21, 3, (8, 3, 0), 0, 277))],
  [(32, (.aload_n 1, 1, (0, 0, 0), 0, 0)), (33, (.getfield 24, 3, (8, 4, 0), 0, 279)), (36, (.iconst 0, 1, (0, 0, 0), 0, 0)), (37, (.aload_n 0, 1, (0, 0, 0), 0, 0)), (38, (.getfield 24, 3, (8, 4, 0), 0, 279)), (41, (.iconst 0, 1, (0, 0, 0), 0, 0)), (42, (.bipush 12, 2, (0, 0, 0), 12, 0)), (44, (.invokestatic 40, 3, (6, 0, 0), 0, 772)), (47, (.aload_n 1, 1, (0, 0, 0), 0, 0)), (48, (.getfield 28, 3, (8, 5, 0), 0, 284)), (51, (.iconst 0, 1, (0, 0, 0), 0, 0)), (52, (.aload_n 0, 1, (0, 0, 0), 0, 0)), (53, (.getfield 28, 3, (8, 5, 0), 0, 284)), (56, (.iconst 0, 1, (0, 0, 0), 0, 0)), (57, (.bipush 12, 2, (0, 0, 0), 12, 0)), (59, (.invokestatic 40, 3, (6, 0, 0), 0, 772)), (62, (.aload_n 1, 1, (0, 0, 0), 0, 0)), (63, (.getfield 31, 3, (8, 6, 0), 0, 287))],
  [(66, (.iconst 0, 1, (0, 0, 0), 0, 0)), (67, (.aload_n 0, 1, (0, 0, 0), 0, 0)), (68, (.getfield 31, 3, (8, 6, 0), 0, 287)), (71, (.iconst 0, 1, (0, 0, 0), 0, 0)), (72, (.bipush 12, 2, (0, 0, 0), 12, 0)), (74, (.invokestatic 40, 3, (6, 0, 0), 0, 772)), (77, (.aload_n 1, 1, (0, 0, 0), 0, 0)), (78, (.getfield 34, 3, (8, 7, 0), 0, 290)), (81, (.iconst 0, 1, (0, 0, 0), 0, 0)), (82, (.aload_n 0, 1, (0, 0, 0), 0, 0)), (83, (.getfield 34, 3, (8, 7, 0), 0, 290)), (86, (.iconst 0, 1, (0, 0, 0), 0, 0)), (87, (.bipush 8, 2, (0, 0, 0), 8, 0)), (89, (.invokestatic 40, 3, (6, 0, 0), 0, 772)), (92, (.aload_n 1, 1, (0, 0, 0), 0, 0)), (93, (.getfield 37, 3, (8, 8, 0), 0, 294))],
  [(96, (.iconst 0, 1, (0, 0, 0), 0, 0)), (97, (.aload_n 0, 1, (0, 0, 0), 0, 0)), (98, (.getfield 37, 3, (8, 8, 0), 0, 294)), (101, (.iconst 0, 1, (0, 0, 0), 0, 0)), (102, (.bipush 96, 2, (0, 0, 0), 96, 0)), (104, (.invokestatic 40, 3, (6, 0, 0), 0, 772)), (107, (.return_, 1, (0, 0, 0), 0, 0))]]
set_option maxRecDepth 10000 in
def zp171 : List (List (Nat × ZI)) := [[(0, (.iload_n 1, 1, (0, 0, 0), 0, 0)), (1, (.iload_n 2, 1, (0, 0, 0), 0, 0)), (2, (.if_icmp .eq 16, 3, (18, 0, 0), 0, 0)), (5, (.aload_n 0, 1, (0, 0, 0), 0, 0)), (6, (.getfield 31, 3, (8, 6, 0), 0, 287)), (9, (.iload_n 1, 1, (0, 0, 0), 0, 0)), (10, (.iaload, 1, (0, 0, 0), 0, 0)), (11, (.iload_n 2, 1, (0, 0, 0), 0, 0)), (12, (.ishr, 1, (0, 0, 0), 0, 0)), (13, (.iconst 1, 1, (0, 0, 0), 1, 0)), (14, (.iand, 1, (0, 0, 0), 0, 0)), (15, (.ifCond .eq 7, 3, (22, 0, 0), 0, 0)), (18, (.iconst 1, 1, (0, 0, 0), 1, 0)), (19, (.goto 4, 3, (23, 0, 0), 0, 0)), (22, (.iconst 0, 1, (0, 0, 0), 0, 0)), (23, (.ireturn, 1, (0, 0, 0), 0, 0))]]
set_option maxRecDepth 10000 in
def zp172 : List (List (Nat × ZI)) := [[(0, (.iconst 1, 1, (0, 0, 0), 1, 0)), (1, (.aload_n 0, 1, (0, 0, 0), 0, 0)), (2, (.getfield 18, 3, (8, 2, 0), 0, 272)), (5, (.ishl, 1, (0, 0, 0), 0, 0)), (6, (.iconst 1, 1, (0, 0, 0), 1, 0)), (7, (.isub, 1, (0, 0, 0), 0, 0)), (8, (.ireturn, 1, (0, 0, 0), 0, 0))]]
set_option maxRecDepth 10000 in
def zp173 : List (List (Nat × ZI)) := [[(0, (.iload_n 2, 1, (0, 0, 0), 0, 0)), (1, (.ifCond .lt 13, 3, (14, 0, 0), 0, 0)), (4, (.iload_n 2, 1, (0, 0, 0), 0, 0)), (5, (.aload_n 0, 1, (0, 0, 0), 0, 0)), (6, (.getfield 34, 3, (8, 7, 0), 0, 290)), (9, (.iload_n 1, 1, (0, 0, 0), 0, 0)), (10, (.iaload, 1, (0, 0, 0), 0, 0)), (11, (.if_icmp .lt 5, 3, (16, 0, 0), 0, 0)), (14, (.iconst (-1), 1, (0, 0, 0), (-1), 0)), (15, (.ireturn, 1, (0, 0, 0), 0, 0)), (16, (.aload_n 0, 1, (0, 0, 0), 0, 0)), (17, (.getfield 37, 3, (8, 8, 0), 0, 294)), (20, (.iload_n 1, 1, (0, 0, 0), 0, 0)), (21, (.bipush 12, 2, (0, 0, 0), 12, 0)), (23, (.imul, 1, (0, 0, 0), 0, 0)), (24, (.iload_n 2, 1, (0, 0, 0), 0, 0)), (25, (.iadd, 1, (0, 0, 0), 0, 0)), (26, (.iaload, 1, (0, 0, 0), 0, 0)), (27, (.ireturn, 1, (0, 0, 0), 0, 0))]]
set_option maxRecDepth 10000 in
def zp174 : List (List (Nat × ZI)) := [[(0, (.aload_n 0, 1, (0, 0, 0), 0, 0)), (1, (.getfield 34, 3, (8, 7, 0), 0, 290)), (4, (.iload_n 1, 1, (0, 0, 0), 0, 0)), (5, (.iaload, 1, (0, 0, 0), 0, 0)), (6, (.ifCond .gt 5, 3, (11, 0, 0), 0, 0)), (9, (.iconst (-1), 1, (0, 0, 0), (-1), 0)), (10, (.ireturn, 1, (0, 0, 0), 0, 0)), (11, (.aload_n 0, 1, (0, 0, 0), 0, 0)), (12, (.iload_n 1, 1, (0, 0, 0), 0, 0)), (13, (.iload_n 2, 1, (0, 0, 0), 0, 0)), (14, (.iload_n 3, 1, (0, 0, 0), 0, 0)), (15, (.iadd, 1, (0, 0, 0), 0, 0)), (16, (.aload_n 0, 1, (0, 0, 0), 0, 0)), (17, (.getfield 34, 3, (8, 7, 0), 0, 290)), (20, (.iload_n 1, 1, (0, 0, 0), 0, 0)), (21, (.iaload, 1, (0, 0, 0), 0, 0)), (22, (.invokestatic 46, 3, (0, 336, 0), 0, 1161)), (25, (.invokevirtual 52, 3, (0, 173, 0), 0, 1162)), (28, (.ireturn, 1, (0, 0, 0), 0, 0))]]
set_option maxRecDepth 10000 in
def zp175 : List (List (Nat × ZI)) := [[(0, (.iconst 0, 1, (0, 0, 0), 0, 0)), (1, (.istore_n 2, 1, (0, 0, 0), 0, 0)), (2, (.iconst 0, 1, (0, 0, 0), 0, 0)), (3, (.istore_n 3, 1, (0, 0, 0), 0, 0)), (4, (.iload_n 3, 1, (0, 0, 0), 0, 0)), (5, (.aload_n 0, 1, (0, 0, 0), 0, 0)), (6, (.getfield 34, 3, (8, 7, 0), 0, 290)), (9, (.iload_n 1, 1, (0, 0, 0), 0, 0)), (10, (.iaload, 1, (0, 0, 0), 0, 0)), (11, (.if_icmp .ge 25, 3, (36, 0, 0), 0, 0)), (14, (.iload_n 2, 1, (0, 0, 0), 0, 0)), (15, (.iconst 1, 1, (0, 0, 0), 1, 0)), (16, (.aload_n 0, 1, (0, 0, 0), 0, 0)), (17, (.getfield 37, 3, (8, 8, 0), 0, 294)), (20, (.iload_n 1, 1, (0, 0, 0), 0, 0)), (21, (.bipush 12, 2, (0, 0, 0), 12, 0)), (23, (.imul, 1, (0, 0, 0), 0, 0)), (24, (.iload_n 3, 1, (0, 0, 0), 0, 0)), (25, (.iadd, 1, (0, 0, 0), 0, 0)), (26, (.iaload, 1, (0, 0, 0), 0, 0)), (27, (.ishl, 1, (0, 0, 0), 0, 0)), (28, (.ior, 1, (0, 0, 0), 0, 0)), (29, (.istore_n 2, 1, (0, 0, 0), 0, 0)), (30, (.iinc 3 1, 3, (0, 0, 0), 1, 0))],
  [(33, (.goto (-29), 3, (4, 0, 0), 0, 0)), (36, (.iload_n 2, 1, (0, 0, 0), 0, 0)), (37, (.ireturn, 1, (0, 0, 0), 0, 0))]]
set_option maxRecDepth 10000 in
def zp176 : List (List (Nat × ZI)) := [[(0, (.iconst 0, 1, (0, 0, 0), 0, 0)), (1, (.istore_n 2, 1, (0, 0, 0), 0, 0)), (2, (.iconst 0, 1, (0, 0, 0), 0, 0)), (3, (.istore_n 3, 1, (0, 0, 0), 0, 0)), (4, (.iload_n 3, 1, (0, 0, 0), 0, 0)), (5, (.aload_n 0, 1, (0, 0, 0), 0, 0)), (6, (.getfield 9, 3, (8, 0, 0), 0, 264)), (9, (.if_icmp .ge 26, 3, (35, 0, 0), 0, 0)), (12, (.iload_n 1, 1, (0, 0, 0), 0, 0)), (13, (.iload_n 3, 1, (0, 0, 0), 0, 0)), (14, (.ishr, 1, (0, 0, 0), 0, 0)), (15, (.iconst 1, 1, (0, 0, 0), 1, 0)), (16, (.iand, 1, (0, 0, 0), 0, 0)), (17, (.ifCond .eq 12, 3, (29, 0, 0), 0, 0)), (20, (.iload_n 2, 1, (0, 0, 0), 0, 0)), (21, (.aload_n 0, 1, (0, 0, 0), 0, 0)), (22, (.getfield 28, 3, (8, 5, 0), 0, 284)), (25, (.iload_n 3, 1, (0, 0, 0), 0, 0)), (26, (.iaload, 1, (0, 0, 0), 0, 0)), (27, (.iadd, 1, (0, 0, 0), 0, 0)), (28, (.istore_n 2, 1, (0, 0, 0), 0, 0)), (29, (.iinc 3 1, 3, (0, 0, 0), 1, 0))],
  [(32, (.goto (-28), 3, (4, 0, 0), 0, 0)), (35, (.iload_n 2, 1, (0, 0, 0), 0, 0)), (36, (.ireturn, 1, (0, 0, 0), 0, 0))]]
set_option maxRecDepth 10000 in
def zp177 : List (List (Nat × ZI)) := [[(0, (.iconst 1, 1, (0, 0, 0), 1, 0)), (1, (.iload_n 1, 1, (0, 0, 0), 0, 0)), (2, (.ishl, 1, (0, 0, 0), 0, 0)), (3, (.istore_n 3, 1, (0, 0, 0), 0, 0)), (4, (.iconst 0, 1, (0, 0, 0), 0, 0)), (5, (.istore 4, 2, (0, 0, 0), 0, 0)), (7, (.iload 4, 2, (0, 0, 0), 0, 0)), (9, (.bipush 12, 2, (0, 0, 0), 12, 0)), (11, (.if_icmp .ge 65, 3, (76, 0, 0), 0, 0)), (14, (.iload_n 3, 1, (0, 0, 0), 0, 0)), (15, (.iload_n 2, 1, (0, 0, 0), 0, 0)), (16, (.ishr, 1, (0, 0, 0), 0, 0)), (17, (.iconst 1, 1, (0, 0, 0), 1, 0)), (18, (.iand, 1, (0, 0, 0), 0, 0)), (19, (.ifCond .eq 6, 3, (25, 0, 0), 0, 0)), (22, (.iload 4, 2, (0, 0, 0), 0, 0)), (24, (.ireturn, 1, (0, 0, 0), 0, 0)), (25, (.iload_n 3, 1, (0, 0, 0), 0, 0)), (26, (.istore 5, 2, (0, 0, 0), 0, 0)), (28, (.iconst 0, 1, (0, 0, 0), 0, 0)), (29, (.istore 6, 2, (0, 0, 0), 0, 0)), (31, (.iload 6, 2, (0, 0, 0), 0, 0))],
  [(33, (.aload_n 0, 1, (0, 0, 0), 0, 0)), (34, (.getfield 9, 3, (8, 0, 0), 0, 264)), (37, (.if_icmp .ge 30, 3, (67, 0, 0), 0, 0)), (40, (.iload_n 3, 1, (0, 0, 0), 0, 0)), (41, (.iload 6, 2, (0, 0, 0), 0, 0)), (43, (.ishr, 1, (0, 0, 0), 0, 0)), (44, (.iconst 1, 1, (0, 0, 0), 1, 0)), (45, (.iand, 1, (0, 0, 0), 0, 0)), (46, (.ifCond .eq 15, 3, (61, 0, 0), 0, 0)), (49, (.iload 5, 2, (0, 0, 0), 0, 0)), (51, (.aload_n 0, 1, (0, 0, 0), 0, 0)), (52, (.getfield 31, 3, (8, 6, 0), 0, 287)), (55, (.iload 6, 2, (0, 0, 0), 0, 0)), (57, (.iaload, 1, (0, 0, 0), 0, 0)), (58, (.ior, 1, (0, 0, 0), 0, 0)), (59, (.istore 5, 2, (0, 0, 0), 0, 0)), (61, (.iinc 6 1, 3, (0, 0, 0), 1, 0))],
  [(64, (.goto (-33), 3, (31, 0, 0), 0, 0)), (67, (.iload 5, 2, (0, 0, 0), 0, 0)), (69, (.istore_n 3, 1, (0, 0, 0), 0, 0)), (70, (.iinc 4 1, 3, (0, 0, 0), 1, 0)), (73, (.goto (-66), 3, (7, 0, 0), 0, 0)), (76, (.iconst (-1), 1, (0, 0, 0), (-1), 0)), (77, (.ireturn, 1, (0, 0, 0), 0, 0))]]
set_option maxRecDepth 10000 in
def zp178 : List (List (Nat × ZI)) := [[(0, (.aload_n 0, 1, (0, 0, 0), 0, 0)), (1, (.invokespecial 3, 3, (1, 0, 0), 0, 224)), (4, (.aload_n 0, 1, (0, 0, 0), 0, 0)), (5, (.sipush 400, 3, (0, 0, 0), 400, 0)), (8, (.newarray .int, 2, (0, 0, 0), 0, 251)), (10, (.putfield 9, 3, (9, 0, 0), 0, 225)), (13, (.aload_n 0, 1, (0, 0, 0), 0, 0)), (14, (.iconst 0, 1, (0, 0, 0), 0, 0)), (15, (.putfield 15, 3, (9, 1, 0), 0, 226)), (18, (.aload_n 0, 1, (0, 0, 0), 0, 0)), (19, (.iconst 0, 1, (0, 0, 0), 0, 0)), (20, (.putfield 19, 3, (9, 2, 0), 0, 228)), (23, (.aload_n 0, 1, (0, 0, 0), 0, 0)), (24, (.iconst 0, 1, (0, 0, 0), 0, 0)), (25, (.putfield 22, 3, (9, 3, 0), 0, 231)), (28, (.aload_n 0, 1, (0, 0, 0), 0, 0)), (29, (.iconst 0, 1, (0, 0, 0), 0, 0)), (30, (.putfield 25, 3, (9, 4, 0), 0, 234))],
  [(33, (.aload_n 0, 1, (0, 0, 0), 0, 0)), (34, (.iconst 0, 1, (0, 0, 0), 0, 0)), (35, (.putfield 28, 3, (9, 5, 0), 0, 235)), (38, (.return_, 1, (0, 0, 0), 0, 0))]]
set_option maxRecDepth 10000 in
def zp179 : List (List (Nat × ZI)) := [[(0, (.bipush 24, 2, (0, 0, 0), 24, 0)), (2, (.istore_n 2, 1, (0, 0, 0), 0, 0)), (3, (.iload_n 2, 1, (0, 0, 0), 0, 0)), (4, (.ifCond .lt 45, 3, (49, 0, 0), 0, 0)), (7, (.aload_n 0, 1, (0, 0, 0), 0, 0)), (8, (.getfield 15, 3, (9, 1, 0), 0, 226)), (11, (.sipush 400, 3, (0, 0, 0), 400, 0)), (14, (.if_icmp .ge 29, 3, (43, 0, 0), 0, 0)), (17, (.aload_n 0, 1, (0, 0, 0), 0, 0)), (18, (.getfield 9, 3, (9, 0, 0), 0, 225)), (21, (.aload_n 0, 1, (0, 0, 0), 0, 0)), (22, (.getfield 15, 3, (9, 1, 0), 0, 226)), (25, (.iload_n 1, 1, (0, 0, 0), 0, 0)), (26, (.iload_n 2, 1, (0, 0, 0), 0, 0)), (27, (.ishr, 1, (0, 0, 0), 0, 0)), (28, (.sipush 255, 3, (0, 0, 0), 255, 0)), (31, (.iand, 1, (0, 0, 0), 0, 0))],
  [(32, (.iastore, 1, (0, 0, 0), 0, 0)), (33, (.aload_n 0, 1, (0, 0, 0), 0, 0)), (34, (.dup, 1, (0, 0, 0), 0, 0)), (35, (.getfield 15, 3, (9, 1, 0), 0, 226)), (38, (.iconst 1, 1, (0, 0, 0), 1, 0)), (39, (.iadd, 1, (0, 0, 0), 0, 0)), (40, (.putfield 15, 3, (9, 1, 0), 0, 226)), (43, (.iinc 2 (-8), 3, (0, 0, 0), (-8), 0)), (46, (.goto (-43), 3, (3, 0, 0), 0, 0)), (49, (.return_, 1, (0, 0, 0), 0, 0))]]
set_option maxRecDepth 10000 in
def zp180 : List (List (Nat × ZI)) := [[(0, (.aload_n 0, 1, (0, 0, 0), 0, 0)), (1, (.iconst 0, 1, (0, 0, 0), 0, 0)), (2, (.putfield 25, 3, (9, 4, 0), 0, 234)), (5, (.aload_n 0, 1, (0, 0, 0), 0, 0)), (6, (.invokevirtual 31, 3, (0, 181, 0), 0, 824)), (9, (.return_, 1, (0, 0, 0), 0, 0))]]
set_option maxRecDepth 10000 in
def zp181 : List (List (Nat × ZI)) := [[(0, (.aload_n 0, 1, (0, 0, 0), 0, 0)), (1, (.getfield 25, 3, (9, 4, 0), 0, 234)), (4, (.istore_n 1, 1, (0, 0, 0), 0, 0)), (5, (.iload_n 1, 1, (0, 0, 0), 0, 0)), (6, (.aload_n 0, 1, (0, 0, 0), 0, 0)), (7, (.getfield 15, 3, (9, 1, 0), 0, 226)), (10, (.if_icmp .ge 20, 3, (30, 0, 0), 0, 0)), (13, (.aload_n 0, 1, (0, 0, 0), 0, 0)), (14, (.getfield 9, 3, (9, 0, 0), 0, 225)), (17, (.iload_n 1, 1, (0, 0, 0), 0, 0)), (18, (.iaload, 1, (0, 0, 0), 0, 0)), (19, (.bipush 32, 2, (0, 0, 0), 32, 0)), (21, (.if_icmp .ne 9, 3, (30, 0, 0), 0, 0)), (24, (.iinc 1 1, 3, (0, 0, 0), 1, 0)), (27, (.goto (-22), 3, (5, 0, 0), 0, 0)), (30, (.aload_n 0, 1, (0, 0, 0), 0, 0)), (31, (.iload_n 1, 1, (0, 0, 0), 0, 0))],
  [(32, (.putfield 22, 3, (9, 3, 0), 0, 231)), (35, (.aload_n 0, 1, (0, 0, 0), 0, 0)), (36, (.iconst 0, 1, (0, 0, 0), 0, 0)), (37, (.putfield 28, 3, (9, 5, 0), 0, 235)), (40, (.aload_n 0, 1, (0, 0, 0), 0, 0)), (41, (.iload_n 1, 1, (0, 0, 0), 0, 0)), (42, (.aload_n 0, 1, (0, 0, 0), 0, 0)), (43, (.getfield 15, 3, (9, 1, 0), 0, 226)), (46, (.if_icmp .lt 7, 3, (53, 0, 0), 0, 0)), (49, (.iconst 0, 1, (0, 0, 0), 0, 0)), (50, (.goto 4, 3, (54, 0, 0), 0, 0)), (53, (.iconst 3, 1, (0, 0, 0), 3, 0)), (54, (.putfield 19, 3, (9, 2, 0), 0, 228)), (57, (.iload_n 1, 1, (0, 0, 0), 0, 0)), (58, (.aload_n 0, 1, (0, 0, 0), 0, 0)), (59, (.getfield 15, 3, (9, 1, 0), 0, 226)), (62, (.if_icmp .ge 68, 3, (130, 0, 0), 0, 0))],
  [(65, (.aload_n 0, 1, (0, 0, 0), 0, 0)), (66, (.getfield 9, 3, (9, 0, 0), 0, 225)), (69, (.iload_n 1, 1, (0, 0, 0), 0, 0)), (70, (.iaload, 1, (0, 0, 0), 0, 0)), (71, (.bipush 48, 2, (0, 0, 0), 48, 0)), (73, (.if_icmp .lt 57, 3, (130, 0, 0), 0, 0)), (76, (.aload_n 0, 1, (0, 0, 0), 0, 0)), (77, (.getfield 9, 3, (9, 0, 0), 0, 225)), (80, (.iload_n 1, 1, (0, 0, 0), 0, 0)), (81, (.iaload, 1, (0, 0, 0), 0, 0)), (82, (.bipush 57, 2, (0, 0, 0), 57, 0)), (84, (.if_icmp .gt 46, 3, (130, 0, 0), 0, 0)), (87, (.iload_n 1, 1, (0, 0, 0), 0, 0)), (88, (.aload_n 0, 1, (0, 0, 0), 0, 0)), (89, (.getfield 22, 3, (9, 3, 0), 0, 231)), (92, (.isub, 1, (0, 0, 0), 0, 0)), (93, (.bipush 9, 2, (0, 0, 0), 9, 0)), (95, (.if_icmp .ge 24, 3, (119, 0, 0), 0, 0))],
  [(98, (.aload_n 0, 1, (0, 0, 0), 0, 0)), (99, (.aload_n 0, 1, (0, 0, 0), 0, 0)), (100, (.getfield 28, 3, (9, 5, 0), 0, 235)), (103, (.bipush 10, 2, (0, 0, 0), 10, 0)), (105, (.imul, 1, (0, 0, 0), 0, 0)), (106, (.aload_n 0, 1, (0, 0, 0), 0, 0)), (107, (.getfield 9, 3, (9, 0, 0), 0, 225)), (110, (.iload_n 1, 1, (0, 0, 0), 0, 0)), (111, (.iaload, 1, (0, 0, 0), 0, 0)), (112, (.iadd, 1, (0, 0, 0), 0, 0)), (113, (.bipush 48, 2, (0, 0, 0), 48, 0)), (115, (.isub, 1, (0, 0, 0), 0, 0)), (116, (.putfield 28, 3, (9, 5, 0), 0, 235)), (119, (.aload_n 0, 1, (0, 0, 0), 0, 0)), (120, (.iconst 1, 1, (0, 0, 0), 1, 0)), (121, (.putfield 19, 3, (9, 2, 0), 0, 228)), (124, (.iinc 1 1, 3, (0, 0, 0), 1, 0)), (127, (.goto (-70), 3, (57, 0, 0), 0, 0))],
  [(130, (.aload_n 0, 1, (0, 0, 0), 0, 0)), (131, (.getfield 19, 3, (9, 2, 0), 0, 228)), (134, (.iconst 1, 1, (0, 0, 0), 1, 0)), (135, (.if_icmp .eq 44, 3, (179, 0, 0), 0, 0)), (138, (.iload_n 1, 1, (0, 0, 0), 0, 0)), (139, (.aload_n 0, 1, (0, 0, 0), 0, 0)), (140, (.getfield 15, 3, (9, 1, 0), 0, 226)), (143, (.if_icmp .ge 36, 3, (179, 0, 0), 0, 0)), (146, (.aload_n 0, 1, (0, 0, 0), 0, 0)), (147, (.getfield 9, 3, (9, 0, 0), 0, 225)), (150, (.iload_n 1, 1, (0, 0, 0), 0, 0)), (151, (.iaload, 1, (0, 0, 0), 0, 0)), (152, (.bipush 97, 2, (0, 0, 0), 97, 0)), (154, (.if_icmp .lt 25, 3, (179, 0, 0), 0, 0)), (157, (.aload_n 0, 1, (0, 0, 0), 0, 0)), (158, (.getfield 9, 3, (9, 0, 0), 0, 225))],
  [(161, (.iload_n 1, 1, (0, 0, 0), 0, 0)), (162, (.iaload, 1, (0, 0, 0), 0, 0)), (163, (.bipush 122, 2, (0, 0, 0), 122, 0)), (165, (.if_icmp .gt 14, 3, (179, 0, 0), 0, 0)), (168, (.aload_n 0, 1, (0, 0, 0), 0, 0)), (169, (.iconst 2, 1, (0, 0, 0), 2, 0)), (170, (.putfield 19, 3, (9, 2, 0), 0, 228)), (173, (.iinc 1 1, 3, (0, 0, 0), 1, 0)), (176, (.goto (-46), 3, (130, 0, 0), 0, 0)), (179, (.aload_n 0, 1, (0, 0, 0), 0, 0)), (180, (.aload_n 0, 1, (0, 0, 0), 0, 0)), (181, (.getfield 19, 3, (9, 2, 0), 0, 228)), (184, (.iconst 3, 1, (0, 0, 0), 3, 0)), (185, (.if_icmp .ne 9, 3, (194, 0, 0), 0, 0)), (188, (.iload_n 1, 1, (0, 0, 0), 0, 0)), (189, (.iconst 1, 1, (0, 0, 0), 1, 0)), (190, (.iadd, 1, (0, 0, 0), 0, 0)), (191, (.goto 4, 3, (195, 0, 0), 0, 0))],
  [(194, (.iload_n 1, 1, (0, 0, 0), 0, 0)), (195, (.putfield 25, 3, (9, 4, 0), 0, 234)), (198, (.return_, 1, (0, 0, 0), 0, 0))]]
set_option maxRecDepth 10000 in
def zp182 : List (List (Nat × ZI)) := [[(0, (.aload_n 0, 1, (0, 0, 0), 0, 0)), (1, (.getfield 19, 3, (9, 2, 0), 0, 228)), (4, (.iconst 1, 1, (0, 0, 0), 1, 0)), (5, (.if_icmp .ne 20, 3, (25, 0, 0), 0, 0)), (8, (.aload_n 0, 1, (0, 0, 0), 0, 0)), (9, (.getfield 25, 3, (9, 4, 0), 0, 234)), (12, (.aload_n 0, 1, (0, 0, 0), 0, 0)), (13, (.getfield 22, 3, (9, 3, 0), 0, 231)), (16, (.isub, 1, (0, 0, 0), 0, 0)), (17, (.iload_n 1, 1, (0, 0, 0), 0, 0)), (18, (.if_icmp .gt 7, 3, (25, 0, 0), 0, 0)), (21, (.iconst 1, 1, (0, 0, 0), 1, 0)), (22, (.goto 4, 3, (26, 0, 0), 0, 0)), (25, (.iconst 0, 1, (0, 0, 0), 0, 0)), (26, (.ireturn, 1, (0, 0, 0), 0, 0))]]
set_option maxRecDepth 10000 in
def zp183 : List (List (Nat × ZI)) := [[(0, (.aload_n 0, 1, (0, 0, 0), 0, 0)), (1, (.getfield 19, 3, (9, 2, 0), 0, 228)), (4, (.iconst 3, 1, (0, 0, 0), 3, 0)), (5, (.if_icmp .ne 20, 3, (25, 0, 0), 0, 0)), (8, (.aload_n 0, 1, (0, 0, 0), 0, 0)), (9, (.getfield 9, 3, (9, 0, 0), 0, 225)), (12, (.aload_n 0, 1, (0, 0, 0), 0, 0)), (13, (.getfield 22, 3, (9, 3, 0), 0, 231)), (16, (.iaload, 1, (0, 0, 0), 0, 0)), (17, (.iload_n 1, 1, (0, 0, 0), 0, 0)), (18, (.if_icmp .ne 7, 3, (25, 0, 0), 0, 0)), (21, (.iconst 1, 1, (0, 0, 0), 1, 0)), (22, (.goto 4, 3, (26, 0, 0), 0, 0)), (25, (.iconst 0, 1, (0, 0, 0), 0, 0)), (26, (.ireturn, 1, (0, 0, 0), 0, 0))]]
set_option maxRecDepth 10000 in
def zp184 : List (List (Nat × ZI)) := [[(0, (.aload_n 0, 1, (0, 0, 0), 0, 0)), (1, (.aload_n 1, 1, (0, 0, 0), 0, 0)), (2, (.invokevirtual 34, 3, (0, 185, 0), 0, 1081)), (5, (.ifCond .ne 7, 3, (12, 0, 0), 0, 0)), (8, (.iconst 1, 1, (0, 0, 0), 1, 0)), (9, (.goto 4, 3, (13, 0, 0), 0, 0)), (12, (.iconst 0, 1, (0, 0, 0), 0, 0)), (13, (.ireturn, 1, (0, 0, 0), 0, 0))]]
set_option maxRecDepth 10000 in
def zp185 : List (List (Nat × ZI)) := [[(0, (.aload_n 0, 1, (0, 0, 0), 0, 0)), (1, (.getfield 19, 3, (9, 2, 0), 0, 228)), (4, (.iconst 2, 1, (0, 0, 0), 2, 0)), (5, (.if_icmp .eq 5, 3, (10, 0, 0), 0, 0)), (8, (.iconst (-1), 1, (0, 0, 0), (-1), 0)), (9, (.ireturn, 1, (0, 0, 0), 0, 0)), (10, (.iconst 0, 1, (0, 0, 0), 0, 0)), (11, (.istore_n 2, 1, (0, 0, 0), 0, 0)), (12, (.iconst 0, 1, (0, 0, 0), 0, 0)), (13, (.istore_n 3, 1, (0, 0, 0), 0, 0)), (14, (.iconst 0, 1, (0, 0, 0), 0, 0)), (15, (.istore 4, 2, (0, 0, 0), 0, 0)), (17, (.iload 4, 2, (0, 0, 0), 0, 0)), (19, (.aload_n 1, 1, (0, 0, 0), 0, 0)), (20, (.invokevirtual 38, 3, (4, 0, 0), 0, 837)), (23, (.if_icmp .gt 102, 3, (125, 0, 0), 0, 0)), (26, (.iload 4, 2, (0, 0, 0), 0, 0)), (28, (.aload_n 1, 1, (0, 0, 0), 0, 0)), (29, (.invokevirtual 38, 3, (4, 0, 0), 0, 837))],
  [(32, (.if_icmp .ge 12, 3, (44, 0, 0), 0, 0)), (35, (.aload_n 1, 1, (0, 0, 0), 0, 0)), (36, (.iload 4, 2, (0, 0, 0), 0, 0)), (38, (.invokevirtual 43, 3, (5, 0, 0), 0, 847)), (41, (.goto 5, 3, (46, 0, 0), 0, 0)), (44, (.bipush 32, 2, (0, 0, 0), 32, 0)), (46, (.istore 5, 2, (0, 0, 0), 0, 0)), (48, (.iload 5, 2, (0, 0, 0), 0, 0)), (50, (.bipush 32, 2, (0, 0, 0), 32, 0)), (52, (.if_icmp .ne 26, 3, (78, 0, 0), 0, 0)), (55, (.aload_n 0, 1, (0, 0, 0), 0, 0)), (56, (.getfield 22, 3, (9, 3, 0), 0, 231)), (59, (.iload_n 3, 1, (0, 0, 0), 0, 0)), (60, (.iadd, 1, (0, 0, 0), 0, 0)), (61, (.aload_n 0, 1, (0, 0, 0), 0, 0)), (62, (.getfield 25, 3, (9, 4, 0), 0, 234))],
  [(65, (.if_icmp .ne 5, 3, (70, 0, 0), 0, 0)), (68, (.iload_n 2, 1, (0, 0, 0), 0, 0)), (69, (.ireturn, 1, (0, 0, 0), 0, 0)), (70, (.iinc 2 1, 3, (0, 0, 0), 1, 0)), (73, (.iconst 0, 1, (0, 0, 0), 0, 0)), (74, (.istore_n 3, 1, (0, 0, 0), 0, 0)), (75, (.goto 44, 3, (119, 0, 0), 0, 0)), (78, (.iload_n 3, 1, (0, 0, 0), 0, 0)), (79, (.ifCond .lt 38, 3, (117, 0, 0), 0, 0)), (82, (.aload_n 0, 1, (0, 0, 0), 0, 0)), (83, (.getfield 22, 3, (9, 3, 0), 0, 231)), (86, (.iload_n 3, 1, (0, 0, 0), 0, 0)), (87, (.iadd, 1, (0, 0, 0), 0, 0)), (88, (.aload_n 0, 1, (0, 0, 0), 0, 0)), (89, (.getfield 25, 3, (9, 4, 0), 0, 234)), (92, (.if_icmp .ge 25, 3, (117, 0, 0), 0, 0)), (95, (.aload_n 0, 1, (0, 0, 0), 0, 0))],
  [(96, (.getfield 9, 3, (9, 0, 0), 0, 225)), (99, (.aload_n 0, 1, (0, 0, 0), 0, 0)), (100, (.getfield 22, 3, (9, 3, 0), 0, 231)), (103, (.iload_n 3, 1, (0, 0, 0), 0, 0)), (104, (.iadd, 1, (0, 0, 0), 0, 0)), (105, (.iaload, 1, (0, 0, 0), 0, 0)), (106, (.iload 5, 2, (0, 0, 0), 0, 0)), (108, (.if_icmp .ne 9, 3, (117, 0, 0), 0, 0)), (111, (.iinc 3 1, 3, (0, 0, 0), 1, 0)), (114, (.goto 5, 3, (119, 0, 0), 0, 0)), (117, (.iconst (-1), 1, (0, 0, 0), (-1), 0)), (118, (.istore_n 3, 1, (0, 0, 0), 0, 0)), (119, (.iinc 4 1, 3, (0, 0, 0), 1, 0)), (122, (.goto (-105), 3, (17, 0, 0), 0, 0)), (125, (.iconst (-1), 1, (0, 0, 0), (-1), 0)), (126, (.ireturn, 1, (0, 0, 0), 0, 0))]]
set_option maxRecDepth 10000 in
def zp186 : List (List (Nat × ZI)) := [[(0, (.iload_n 1, 1, (0, 0, 0), 0, 0)), (1, (.iconst 3, 1, (0, 0, 0), 3, 0)), (2, (.irem, 1, (0, 0, 0), 0, 0)), (3, (.ifCond .eq 5, 3, (8, 0, 0), 0, 0)), (6, (.iconst 0, 1, (0, 0, 0), 0, 0)), (7, (.ireturn, 1, (0, 0, 0), 0, 0)), (8, (.iconst 0, 1, (0, 0, 0), 0, 0)), (9, (.istore_n 3, 1, (0, 0, 0), 0, 0)), (10, (.iload_n 3, 1, (0, 0, 0), 0, 0)), (11, (.iconst 2, 1, (0, 0, 0), 2, 0)), (12, (.iadd, 1, (0, 0, 0), 0, 0)), (13, (.iload_n 1, 1, (0, 0, 0), 0, 0)), (14, (.if_icmp .ge 40, 3, (54, 0, 0), 0, 0)), (17, (.aload_n 0, 1, (0, 0, 0), 0, 0)), (18, (.iload_n 3, 1, (0, 0, 0), 0, 0)), (19, (.invokevirtual 47, 3, (0, 187, 0), 0, 1575)), (22, (.istore 4, 2, (0, 0, 0), 0, 0)), (24, (.iload 4, 2, (0, 0, 0), 0, 0)), (26, (.ifCond .lt 20, 3, (46, 0, 0), 0, 0)), (29, (.iload 4, 2, (0, 0, 0), 0, 0)), (31, (.iload_n 2, 1, (0, 0, 0), 0, 0))],
  [(32, (.if_icmp .ge 14, 3, (46, 0, 0), 0, 0)), (35, (.aload_n 0, 1, (0, 0, 0), 0, 0)), (36, (.iload_n 3, 1, (0, 0, 0), 0, 0)), (37, (.invokevirtual 51, 3, (0, 188, 0), 0, 1579)), (40, (.sipush 9999, 3, (0, 0, 0), 9999, 0)), (43, (.if_icmp .le 5, 3, (48, 0, 0), 0, 0)), (46, (.iconst 0, 1, (0, 0, 0), 0, 0)), (47, (.ireturn, 1, (0, 0, 0), 0, 0)), (48, (.iinc 3 3, 3, (0, 0, 0), 3, 0)), (51, (.goto (-41), 3, (10, 0, 0), 0, 0)), (54, (.iconst 1, 1, (0, 0, 0), 1, 0)), (55, (.ireturn, 1, (0, 0, 0), 0, 0))]]
set_option maxRecDepth 10000 in
def zp187 : List (List (Nat × ZI)) := [[(0, (.aload_n 0, 1, (0, 0, 0), 0, 0)), (1, (.getfield 9, 3, (9, 0, 0), 0, 225)), (4, (.iload_n 1, 1, (0, 0, 0), 0, 0)), (5, (.iaload, 1, (0, 0, 0), 0, 0)), (6, (.bipush 97, 2, (0, 0, 0), 97, 0)), (8, (.isub, 1, (0, 0, 0), 0, 0)), (9, (.ireturn, 1, (0, 0, 0), 0, 0))]]
set_option maxRecDepth 10000 in
def zp188 : List (List (Nat × ZI)) := [[(0, (.aload_n 0, 1, (0, 0, 0), 0, 0)), (1, (.getfield 9, 3, (9, 0, 0), 0, 225)), (4, (.iload_n 1, 1, (0, 0, 0), 0, 0)), (5, (.iconst 1, 1, (0, 0, 0), 1, 0)), (6, (.iadd, 1, (0, 0, 0), 0, 0)), (7, (.iaload, 1, (0, 0, 0), 0, 0)), (8, (.bipush 8, 2, (0, 0, 0), 8, 0)), (10, (.ishl, 1, (0, 0, 0), 0, 0)), (11, (.aload_n 0, 1, (0, 0, 0), 0, 0)), (12, (.getfield 9, 3, (9, 0, 0), 0, 225)), (15, (.iload_n 1, 1, (0, 0, 0), 0, 0)), (16, (.iconst 2, 1, (0, 0, 0), 2, 0)), (17, (.iadd, 1, (0, 0, 0), 0, 0)), (18, (.iaload, 1, (0, 0, 0), 0, 0)), (19, (.ior, 1, (0, 0, 0), 0, 0)), (20, (.ireturn, 1, (0, 0, 0), 0, 0))]]
set_option maxRecDepth 10000 in
def zp189 : List (List (Nat × ZI)) := [[(0, (.aload_n 0, 1, (0, 0, 0), 0, 0)), (1, (.invokespecial 3, 3, (1, 0, 0), 0, 518)), (4, (.aload_n 0, 1, (0, 0, 0), 0, 0)), (5, (.new 9, 3, (0, 0, 0), 0, 519)), (8, (.dup, 1, (0, 0, 0), 0, 0)), (9, (.invokespecial 11, 3, (0, 90, 1), 0, 520)), (12, (.putfield 12, 3, (10, 0, 0), 0, 521)), (15, (.aload_n 0, 1, (0, 0, 0), 0, 0)), (16, (.bipush 12, 2, (0, 0, 0), 12, 0)), (18, (.newarray .int, 2, (0, 0, 0), 0, 251)), (20, (.putfield 18, 3, (10, 1, 0), 0, 522)), (23, (.return_, 1, (0, 0, 0), 0, 0))]]
set_option maxRecDepth 10000 in
def zp190 : List (List (Nat × ZI)) := [[(0, (.iconst 0, 1, (0, 0, 0), 0, 0)), (1, (.istore_n 3, 1, (0, 0, 0), 0, 0)), (2, (.iload_n 3, 1, (0, 0, 0), 0, 0)), (3, (.iload_n 2, 1, (0, 0, 0), 0, 0)), (4, (.if_icmp .ge 19, 3, (23, 0, 0), 0, 0)), (7, (.aload_n 1, 1, (0, 0, 0), 0, 0)), (8, (.aload_n 0, 1, (0, 0, 0), 0, 0)), (9, (.getfield 12, 3, (10, 0, 0), 0, 521)), (12, (.aconst_null, 1, (0, 0, 0), 0, 0)), (13, (.invokevirtual 22, 3, (0, 117, 1), 0, 637)), (16, (.pop, 1, (0, 0, 0), 0, 0)), (17, (.iinc 3 1, 3, (0, 0, 0), 1, 0)), (20, (.goto (-18), 3, (2, 0, 0), 0, 0)), (23, (.aload_n 1, 1, (0, 0, 0), 0, 0)), (24, (.aload_n 0, 1, (0, 0, 0), 0, 0)), (25, (.getfield 12, 3, (10, 0, 0), 0, 521)), (28, (.invokevirtual 28, 3, (0, 121, 1), 0, 1315)), (31, (.ireturn, 1, (0, 0, 0), 0, 0))]]
set_option maxRecDepth 10000 in
def zp191 : List (List (Nat × ZI)) := [[(0, (.aload_n 0, 1, (0, 0, 0), 0, 0)), (1, (.getfield 12, 3, (10, 0, 0), 0, 521)), (4, (.aload_n 2, 1, (0, 0, 0), 0, 0)), (5, (.invokevirtual 32, 3, (0, 91, 1), 0, 630)), (8, (.aload_n 0, 1, (0, 0, 0), 0, 0)), (9, (.aload_n 1, 1, (0, 0, 0), 0, 0)), (10, (.iload_n 3, 1, (0, 0, 0), 0, 0)), (11, (.invokevirtual 36, 3, (0, 190, 0), 0, 1311)), (14, (.istore 5, 2, (0, 0, 0), 0, 0)), (16, (.iload 4, 2, (0, 0, 0), 0, 0)), (18, (.tableswitch 46 0 2 #[26, 29, 38], 26, (7, 0, 0), 0, 0))],
  [(44, (.iload 5, 2, (0, 0, 0), 0, 0)), (46, (.ireturn, 1, (0, 0, 0), 0, 0)), (47, (.aload_n 1, 1, (0, 0, 0), 0, 0)), (48, (.aload_n 0, 1, (0, 0, 0), 0, 0)), (49, (.getfield 12, 3, (10, 0, 0), 0, 521)), (52, (.invokevirtual 40, 3, (0, 122, 1), 0, 1319)), (55, (.ireturn, 1, (0, 0, 0), 0, 0)), (56, (.aload_n 0, 1, (0, 0, 0), 0, 0)), (57, (.getfield 12, 3, (10, 0, 0), 0, 521)), (60, (.invokevirtual 43, 3, (0, 95, 1), 0, 1323)), (63, (.ireturn, 1, (0, 0, 0), 0, 0))],
  [(64, (.aload_n 0, 1, (0, 0, 0), 0, 0)), (65, (.getfield 12, 3, (10, 0, 0), 0, 521)), (68, (.getfield 47, 3, (0, 6, 1), 0, 393)), (71, (.ireturn, 1, (0, 0, 0), 0, 0))]]
set_option maxRecDepth 10000 in
def zp192 : List (List (Nat × ZI)) := [[(0, (.aload_n 0, 1, (0, 0, 0), 0, 0)), (1, (.getfield 12, 3, (10, 0, 0), 0, 521)), (4, (.aload_n 2, 1, (0, 0, 0), 0, 0)), (5, (.invokevirtual 32, 3, (0, 91, 1), 0, 630)), (8, (.aload_n 0, 1, (0, 0, 0), 0, 0)), (9, (.aload_n 1, 1, (0, 0, 0), 0, 0)), (10, (.iload 5, 2, (0, 0, 0), 0, 0)), (12, (.invokevirtual 36, 3, (0, 190, 0), 0, 1311)), (15, (.istore 6, 2, (0, 0, 0), 0, 0)), (17, (.aload_n 0, 1, (0, 0, 0), 0, 0)), (18, (.getfield 12, 3, (10, 0, 0), 0, 521)), (21, (.aload_n 2, 1, (0, 0, 0), 0, 0)), (22, (.invokevirtual 32, 3, (0, 91, 1), 0, 630)), (25, (.aload_n 0, 1, (0, 0, 0), 0, 0)), (26, (.getfield 12, 3, (10, 0, 0), 0, 521)), (29, (.getfield 51, 3, (0, 0, 1), 0, 371))],
  [(32, (.iload_n 3, 1, (0, 0, 0), 0, 0)), (33, (.iload 4, 2, (0, 0, 0), 0, 0)), (35, (.iastore, 1, (0, 0, 0), 0, 0)), (36, (.iload 6, 2, (0, 0, 0), 0, 0)), (38, (.aload_n 0, 1, (0, 0, 0), 0, 0)), (39, (.aload_n 1, 1, (0, 0, 0), 0, 0)), (40, (.iload 5, 2, (0, 0, 0), 0, 0)), (42, (.invokevirtual 36, 3, (0, 190, 0), 0, 1311)), (45, (.isub, 1, (0, 0, 0), 0, 0)), (46, (.ireturn, 1, (0, 0, 0), 0, 0))]]
set_option maxRecDepth 10000 in
def zp193 : List (List (Nat × ZI)) := [[(0, (.iconst (-1), 1, (0, 0, 0), (-1), 0)), (1, (.istore 6, 2, (0, 0, 0), 0, 0)), (3, (.iconst 0, 1, (0, 0, 0), 0, 0)), (4, (.istore 7, 2, (0, 0, 0), 0, 0)), (6, (.iconst 0, 1, (0, 0, 0), 0, 0)), (7, (.istore 8, 2, (0, 0, 0), 0, 0)), (9, (.iload 8, 2, (0, 0, 0), 0, 0)), (11, (.aload_n 1, 1, (0, 0, 0), 0, 0)), (12, (.getfield 54, 3, (2, 0, 1), 0, 351)), (15, (.getfield 58, 3, (8, 0, 1), 0, 265)), (18, (.if_icmp .ge 91, 3, (109, 0, 0), 0, 0)), (21, (.aload_n 2, 1, (0, 0, 0), 0, 0)), (22, (.getfield 51, 3, (0, 0, 1), 0, 371)), (25, (.iload 8, 2, (0, 0, 0), 0, 0)), (27, (.iaload, 1, (0, 0, 0), 0, 0)), (28, (.ifCond .le 6, 3, (34, 0, 0), 0, 0)), (31, (.goto 72, 3, (103, 0, 0), 0, 0))],
  [(34, (.aload_n 0, 1, (0, 0, 0), 0, 0)), (35, (.getfield 12, 3, (10, 0, 0), 0, 521)), (38, (.aload_n 2, 1, (0, 0, 0), 0, 0)), (39, (.invokevirtual 32, 3, (0, 91, 1), 0, 630)), (42, (.aload_n 0, 1, (0, 0, 0), 0, 0)), (43, (.getfield 12, 3, (10, 0, 0), 0, 521)), (46, (.getfield 51, 3, (0, 0, 1), 0, 371)), (49, (.iload 8, 2, (0, 0, 0), 0, 0)), (51, (.iload_n 3, 1, (0, 0, 0), 0, 0)), (52, (.iastore, 1, (0, 0, 0), 0, 0)), (53, (.aload_n 0, 1, (0, 0, 0), 0, 0)), (54, (.aload_n 1, 1, (0, 0, 0), 0, 0)), (55, (.iload 4, 2, (0, 0, 0), 0, 0)), (57, (.invokevirtual 36, 3, (0, 190, 0), 0, 1311)), (60, (.istore 9, 2, (0, 0, 0), 0, 0)), (62, (.iload 5, 2, (0, 0, 0), 0, 0))],
  [(64, (.ifCond .eq 14, 3, (78, 0, 0), 0, 0)), (67, (.aload_n 1, 1, (0, 0, 0), 0, 0)), (68, (.aload_n 0, 1, (0, 0, 0), 0, 0)), (69, (.getfield 12, 3, (10, 0, 0), 0, 521)), (72, (.invokevirtual 40, 3, (0, 122, 1), 0, 1319)), (75, (.goto 5, 3, (80, 0, 0), 0, 0)), (78, (.iload 9, 2, (0, 0, 0), 0, 0)), (80, (.istore 10, 2, (0, 0, 0), 0, 0)), (82, (.iload 6, 2, (0, 0, 0), 0, 0)), (84, (.iconst (-1), 1, (0, 0, 0), (-1), 0)), (85, (.if_icmp .eq 10, 3, (95, 0, 0), 0, 0)), (88, (.iload 10, 2, (0, 0, 0), 0, 0)), (90, (.iload 7, 2, (0, 0, 0), 0, 0)), (92, (.if_icmp .ge 11, 3, (103, 0, 0), 0, 0)), (95, (.iload 8, 2, (0, 0, 0), 0, 0))],
  [(97, (.istore 6, 2, (0, 0, 0), 0, 0)), (99, (.iload 10, 2, (0, 0, 0), 0, 0)), (101, (.istore 7, 2, (0, 0, 0), 0, 0)), (103, (.iinc 8 1, 3, (0, 0, 0), 1, 0)), (106, (.goto (-97), 3, (9, 0, 0), 0, 0)), (109, (.iload 6, 2, (0, 0, 0), 0, 0)), (111, (.ireturn, 1, (0, 0, 0), 0, 0))]]
set_option maxRecDepth 10000 in
def zp194 : List (List (Nat × ZI)) := [[(0, (.iconst (-1), 1, (0, 0, 0), (-1), 0)), (1, (.istore 5, 2, (0, 0, 0), 0, 0)), (3, (.iconst 0, 1, (0, 0, 0), 0, 0)), (4, (.istore 6, 2, (0, 0, 0), 0, 0)), (6, (.iconst 1, 1, (0, 0, 0), 1, 0)), (7, (.istore 7, 2, (0, 0, 0), 0, 0)), (9, (.iload 7, 2, (0, 0, 0), 0, 0)), (11, (.aload_n 1, 1, (0, 0, 0), 0, 0)), (12, (.getfield 54, 3, (2, 0, 1), 0, 351)), (15, (.getfield 58, 3, (8, 0, 1), 0, 265)), (18, (.if_icmp .ge 115, 3, (133, 0, 0), 0, 0)), (21, (.iconst 0, 1, (0, 0, 0), 0, 0)), (22, (.istore 8, 2, (0, 0, 0), 0, 0)), (24, (.iload 8, 2, (0, 0, 0), 0, 0)), (26, (.iload 7, 2, (0, 0, 0), 0, 0)), (28, (.if_icmp .ge 99, 3, (127, 0, 0), 0, 0)), (31, (.aload_n 2, 1, (0, 0, 0), 0, 0))],
  [(32, (.getfield 51, 3, (0, 0, 1), 0, 371)), (35, (.iload 7, 2, (0, 0, 0), 0, 0)), (37, (.iaload, 1, (0, 0, 0), 0, 0)), (38, (.ifCond .gt 83, 3, (121, 0, 0), 0, 0)), (41, (.aload_n 2, 1, (0, 0, 0), 0, 0)), (42, (.getfield 51, 3, (0, 0, 1), 0, 371)), (45, (.iload 8, 2, (0, 0, 0), 0, 0)), (47, (.iaload, 1, (0, 0, 0), 0, 0)), (48, (.ifCond .le 6, 3, (54, 0, 0), 0, 0)), (51, (.goto 70, 3, (121, 0, 0), 0, 0)), (54, (.aload_n 0, 1, (0, 0, 0), 0, 0)), (55, (.getfield 12, 3, (10, 0, 0), 0, 521)), (58, (.aload_n 2, 1, (0, 0, 0), 0, 0)), (59, (.invokevirtual 32, 3, (0, 91, 1), 0, 630)), (62, (.aload_n 0, 1, (0, 0, 0), 0, 0)), (63, (.getfield 12, 3, (10, 0, 0), 0, 521))],
  [(66, (.getfield 51, 3, (0, 0, 1), 0, 371)), (69, (.iload 7, 2, (0, 0, 0), 0, 0)), (71, (.iload_n 3, 1, (0, 0, 0), 0, 0)), (72, (.iastore, 1, (0, 0, 0), 0, 0)), (73, (.aload_n 0, 1, (0, 0, 0), 0, 0)), (74, (.getfield 12, 3, (10, 0, 0), 0, 521)), (77, (.getfield 51, 3, (0, 0, 1), 0, 371)), (80, (.iload 8, 2, (0, 0, 0), 0, 0)), (82, (.iload_n 3, 1, (0, 0, 0), 0, 0)), (83, (.iastore, 1, (0, 0, 0), 0, 0)), (84, (.aload_n 0, 1, (0, 0, 0), 0, 0)), (85, (.aload_n 1, 1, (0, 0, 0), 0, 0)), (86, (.iload 4, 2, (0, 0, 0), 0, 0)), (88, (.invokevirtual 36, 3, (0, 190, 0), 0, 1311)), (91, (.istore 9, 2, (0, 0, 0), 0, 0)), (93, (.iload 5, 2, (0, 0, 0), 0, 0)), (95, (.iconst (-1), 1, (0, 0, 0), (-1), 0))],
  [(96, (.if_icmp .eq 10, 3, (106, 0, 0), 0, 0)), (99, (.iload 9, 2, (0, 0, 0), 0, 0)), (101, (.iload 6, 2, (0, 0, 0), 0, 0)), (103, (.if_icmp .ge 18, 3, (121, 0, 0), 0, 0)), (106, (.iconst 1, 1, (0, 0, 0), 1, 0)), (107, (.iload 7, 2, (0, 0, 0), 0, 0)), (109, (.ishl, 1, (0, 0, 0), 0, 0)), (110, (.iconst 1, 1, (0, 0, 0), 1, 0)), (111, (.iload 8, 2, (0, 0, 0), 0, 0)), (113, (.ishl, 1, (0, 0, 0), 0, 0)), (114, (.ior, 1, (0, 0, 0), 0, 0)), (115, (.istore 5, 2, (0, 0, 0), 0, 0)), (117, (.iload 9, 2, (0, 0, 0), 0, 0)), (119, (.istore 6, 2, (0, 0, 0), 0, 0)), (121, (.iinc 8 1, 3, (0, 0, 0), 1, 0)), (124, (.goto (-100), 3, (24, 0, 0), 0, 0)), (127, (.iinc 7 1, 3, (0, 0, 0), 1, 0))],
  [(130, (.goto (-121), 3, (9, 0, 0), 0, 0)), (133, (.iload 5, 2, (0, 0, 0), 0, 0)), (135, (.ireturn, 1, (0, 0, 0), 0, 0))]]
set_option maxRecDepth 10000 in
def zp195 : List (List (Nat × ZI)) := [[(0, (.iconst 0, 1, (0, 0, 0), 0, 0)), (1, (.istore 5, 2, (0, 0, 0), 0, 0)), (3, (.iload 5, 2, (0, 0, 0), 0, 0)), (5, (.aload_n 1, 1, (0, 0, 0), 0, 0)), (6, (.getfield 54, 3, (2, 0, 1), 0, 351)), (9, (.getfield 63, 3, (8, 2, 1), 0, 274)), (12, (.if_icmp .gt 106, 3, (118, 0, 0), 0, 0)), (15, (.iconst 0, 1, (0, 0, 0), 0, 0)), (16, (.istore 6, 2, (0, 0, 0), 0, 0)), (18, (.iload 6, 2, (0, 0, 0), 0, 0)), (20, (.aload_n 1, 1, (0, 0, 0), 0, 0)), (21, (.getfield 54, 3, (2, 0, 1), 0, 351)), (24, (.invokevirtual 66, 3, (0, 172, 1), 0, 1369)), (27, (.if_icmp .gt 85, 3, (112, 0, 0), 0, 0)), (30, (.iload 6, 2, (0, 0, 0), 0, 0))],
  [(32, (.invokestatic 69, 3, (0, 337, 0), 0, 1370)), (35, (.iload 5, 2, (0, 0, 0), 0, 0)), (37, (.if_icmp .eq 6, 3, (43, 0, 0), 0, 0)), (40, (.goto 66, 3, (106, 0, 0), 0, 0)), (43, (.aload_n 0, 1, (0, 0, 0), 0, 0)), (44, (.getfield 12, 3, (10, 0, 0), 0, 521)), (47, (.aload_n 2, 1, (0, 0, 0), 0, 0)), (48, (.invokevirtual 32, 3, (0, 91, 1), 0, 630)), (51, (.iconst 0, 1, (0, 0, 0), 0, 0)), (52, (.istore 7, 2, (0, 0, 0), 0, 0)), (54, (.iload 7, 2, (0, 0, 0), 0, 0)), (56, (.aload_n 1, 1, (0, 0, 0), 0, 0)), (57, (.getfield 54, 3, (2, 0, 1), 0, 351)), (60, (.getfield 63, 3, (8, 2, 1), 0, 274)), (63, (.if_icmp .ge 29, 3, (92, 0, 0), 0, 0))],
  [(66, (.aload_n 0, 1, (0, 0, 0), 0, 0)), (67, (.getfield 12, 3, (10, 0, 0), 0, 521)), (70, (.getfield 75, 3, (0, 2, 1), 0, 380)), (73, (.iload 7, 2, (0, 0, 0), 0, 0)), (75, (.iload 6, 2, (0, 0, 0), 0, 0)), (77, (.iload 7, 2, (0, 0, 0), 0, 0)), (79, (.ishr, 1, (0, 0, 0), 0, 0)), (80, (.iconst 1, 1, (0, 0, 0), 1, 0)), (81, (.iand, 1, (0, 0, 0), 0, 0)), (82, (.bipush 100, 2, (0, 0, 0), 100, 0)), (84, (.imul, 1, (0, 0, 0), 0, 0)), (85, (.iastore, 1, (0, 0, 0), 0, 0)), (86, (.iinc 7 1, 3, (0, 0, 0), 1, 0)), (89, (.goto (-35), 3, (54, 0, 0), 0, 0)), (92, (.aload_n 0, 1, (0, 0, 0), 0, 0)), (93, (.aload_n 1, 1, (0, 0, 0), 0, 0)), (94, (.iload 4, 2, (0, 0, 0), 0, 0))],
  [(96, (.invokevirtual 36, 3, (0, 190, 0), 0, 1311)), (99, (.iload_n 3, 1, (0, 0, 0), 0, 0)), (100, (.if_icmp .gt 6, 3, (106, 0, 0), 0, 0)), (103, (.iload 6, 2, (0, 0, 0), 0, 0)), (105, (.ireturn, 1, (0, 0, 0), 0, 0)), (106, (.iinc 6 1, 3, (0, 0, 0), 1, 0)), (109, (.goto (-91), 3, (18, 0, 0), 0, 0)), (112, (.iinc 5 1, 3, (0, 0, 0), 1, 0)), (115, (.goto (-112), 3, (3, 0, 0), 0, 0)), (118, (.iconst (-1), 1, (0, 0, 0), (-1), 0)), (119, (.ireturn, 1, (0, 0, 0), 0, 0))]]
set_option maxRecDepth 10000 in
def zp196 : List (List (Nat × ZI)) := [[(0, (.aload_n 0, 1, (0, 0, 0), 0, 0)), (1, (.getfield 12, 3, (10, 0, 0), 0, 521)), (4, (.aload_n 2, 1, (0, 0, 0), 0, 0)), (5, (.invokevirtual 32, 3, (0, 91, 1), 0, 630)), (8, (.iconst 0, 1, (0, 0, 0), 0, 0)), (9, (.istore 4, 2, (0, 0, 0), 0, 0)), (11, (.iconst 0, 1, (0, 0, 0), 0, 0)), (12, (.istore 5, 2, (0, 0, 0), 0, 0)), (14, (.iload 5, 2, (0, 0, 0), 0, 0)), (16, (.aload_n 1, 1, (0, 0, 0), 0, 0)), (17, (.getfield 54, 3, (2, 0, 1), 0, 351)), (20, (.getfield 58, 3, (8, 0, 1), 0, 265)), (23, (.if_icmp .ge 48, 3, (71, 0, 0), 0, 0)), (26, (.aload_n 0, 1, (0, 0, 0), 0, 0)), (27, (.getfield 18, 3, (10, 1, 0), 0, 522)), (30, (.iload 5, 2, (0, 0, 0), 0, 0))],
  [(32, (.aload_n 1, 1, (0, 0, 0), 0, 0)), (33, (.aload_n 0, 1, (0, 0, 0), 0, 0)), (34, (.getfield 12, 3, (10, 0, 0), 0, 521)), (37, (.iload 5, 2, (0, 0, 0), 0, 0)), (39, (.invokevirtual 78, 3, (0, 119, 1), 0, 1387)), (42, (.iastore, 1, (0, 0, 0), 0, 0)), (43, (.aload_n 1, 1, (0, 0, 0), 0, 0)), (44, (.getfield 54, 3, (2, 0, 1), 0, 351)), (47, (.getfield 82, 3, (8, 4, 1), 0, 282)), (50, (.iload 5, 2, (0, 0, 0), 0, 0)), (52, (.iaload, 1, (0, 0, 0), 0, 0)), (53, (.ifCond .eq 12, 3, (65, 0, 0), 0, 0)), (56, (.iload 4, 2, (0, 0, 0), 0, 0)), (58, (.iconst 1, 1, (0, 0, 0), 1, 0)), (59, (.iload 5, 2, (0, 0, 0), 0, 0)), (61, (.ishl, 1, (0, 0, 0), 0, 0)), (62, (.ior, 1, (0, 0, 0), 0, 0)), (63, (.istore 4, 2, (0, 0, 0), 0, 0))],
  [(65, (.iinc 5 1, 3, (0, 0, 0), 1, 0)), (68, (.goto (-54), 3, (14, 0, 0), 0, 0)), (71, (.aload_n 1, 1, (0, 0, 0), 0, 0)), (72, (.aload_n 2, 1, (0, 0, 0), 0, 0)), (73, (.invokevirtual 40, 3, (0, 122, 1), 0, 1319)), (76, (.istore 5, 2, (0, 0, 0), 0, 0)), (78, (.iconst (-1), 1, (0, 0, 0), (-1), 0)), (79, (.istore 6, 2, (0, 0, 0), 0, 0)), (81, (.iconst 0, 1, (0, 0, 0), 0, 0)), (82, (.istore 7, 2, (0, 0, 0), 0, 0)), (84, (.iconst 0, 1, (0, 0, 0), 0, 0)), (85, (.istore 8, 2, (0, 0, 0), 0, 0)), (87, (.iload 8, 2, (0, 0, 0), 0, 0)), (89, (.iload 4, 2, (0, 0, 0), 0, 0)), (91, (.if_icmp .gt 74, 3, (165, 0, 0), 0, 0)), (94, (.iload 8, 2, (0, 0, 0), 0, 0))],
  [(96, (.iload 4, 2, (0, 0, 0), 0, 0)), (98, (.iconst (-1), 1, (0, 0, 0), (-1), 0)), (99, (.ixor, 1, (0, 0, 0), 0, 0)), (100, (.iand, 1, (0, 0, 0), 0, 0)), (101, (.ifCond .ne 58, 3, (159, 0, 0), 0, 0)), (104, (.iload 5, 2, (0, 0, 0), 0, 0)), (106, (.aload_n 0, 1, (0, 0, 0), 0, 0)), (107, (.iload 8, 2, (0, 0, 0), 0, 0)), (109, (.aload_n 1, 1, (0, 0, 0), 0, 0)), (110, (.getfield 54, 3, (2, 0, 1), 0, 351)), (113, (.getfield 58, 3, (8, 0, 1), 0, 265)), (116, (.invokevirtual 85, 3, (0, 197, 0), 0, 1388)), (119, (.isub, 1, (0, 0, 0), 0, 0)), (120, (.iload_n 3, 1, (0, 0, 0), 0, 0)), (121, (.if_icmp .le 6, 3, (127, 0, 0), 0, 0)), (124, (.goto 35, 3, (159, 0, 0), 0, 0)), (127, (.aload_n 1, 1, (0, 0, 0), 0, 0))],
  [(128, (.getfield 54, 3, (2, 0, 1), 0, 351)), (131, (.iload 8, 2, (0, 0, 0), 0, 0)), (133, (.invokevirtual 89, 3, (0, 176, 1), 0, 1392)), (136, (.istore 9, 2, (0, 0, 0), 0, 0)), (138, (.iload 6, 2, (0, 0, 0), 0, 0)), (140, (.iconst (-1), 1, (0, 0, 0), (-1), 0)), (141, (.if_icmp .eq 10, 3, (151, 0, 0), 0, 0)), (144, (.iload 9, 2, (0, 0, 0), 0, 0)), (146, (.iload 7, 2, (0, 0, 0), 0, 0)), (148, (.if_icmp .ge 11, 3, (159, 0, 0), 0, 0)), (151, (.iload 8, 2, (0, 0, 0), 0, 0)), (153, (.istore 6, 2, (0, 0, 0), 0, 0)), (155, (.iload 9, 2, (0, 0, 0), 0, 0)), (157, (.istore 7, 2, (0, 0, 0), 0, 0)), (159, (.iinc 8 1, 3, (0, 0, 0), 1, 0))],
  [(162, (.goto (-75), 3, (87, 0, 0), 0, 0)), (165, (.iload 6, 2, (0, 0, 0), 0, 0)), (167, (.ireturn, 1, (0, 0, 0), 0, 0))]]
set_option maxRecDepth 10000 in
def zp197 : List (List (Nat × ZI)) := [[(0, (.iconst 0, 1, (0, 0, 0), 0, 0)), (1, (.istore_n 3, 1, (0, 0, 0), 0, 0)), (2, (.iconst 0, 1, (0, 0, 0), 0, 0)), (3, (.istore 4, 2, (0, 0, 0), 0, 0)), (5, (.iload 4, 2, (0, 0, 0), 0, 0)), (7, (.iload_n 2, 1, (0, 0, 0), 0, 0)), (8, (.if_icmp .ge 28, 3, (36, 0, 0), 0, 0)), (11, (.iload_n 1, 1, (0, 0, 0), 0, 0)), (12, (.iload 4, 2, (0, 0, 0), 0, 0)), (14, (.ishr, 1, (0, 0, 0), 0, 0)), (15, (.iconst 1, 1, (0, 0, 0), 1, 0)), (16, (.iand, 1, (0, 0, 0), 0, 0)), (17, (.ifCond .eq 13, 3, (30, 0, 0), 0, 0)), (20, (.iload_n 3, 1, (0, 0, 0), 0, 0)), (21, (.aload_n 0, 1, (0, 0, 0), 0, 0)), (22, (.getfield 18, 3, (10, 1, 0), 0, 522)), (25, (.iload 4, 2, (0, 0, 0), 0, 0)), (27, (.iaload, 1, (0, 0, 0), 0, 0)), (28, (.iadd, 1, (0, 0, 0), 0, 0)), (29, (.istore_n 3, 1, (0, 0, 0), 0, 0)), (30, (.iinc 4 1, 3, (0, 0, 0), 1, 0))],
  [(33, (.goto (-28), 3, (5, 0, 0), 0, 0)), (36, (.iload_n 3, 1, (0, 0, 0), 0, 0)), (37, (.ireturn, 1, (0, 0, 0), 0, 0))]]
set_option maxRecDepth 10000 in
def zp198 : List (List (Nat × ZI)) := [[(0, (.iload 4, 2, (0, 0, 0), 0, 0)), (2, (.istore 5, 2, (0, 0, 0), 0, 0)), (4, (.iload 5, 2, (0, 0, 0), 0, 0)), (6, (.iconst 1, 1, (0, 0, 0), 1, 0)), (7, (.if_icmp .lt 26, 3, (33, 0, 0), 0, 0)), (10, (.aload_n 0, 1, (0, 0, 0), 0, 0)), (11, (.aload_n 1, 1, (0, 0, 0), 0, 0)), (12, (.aload_n 2, 1, (0, 0, 0), 0, 0)), (13, (.iload_n 3, 1, (0, 0, 0), 0, 0)), (14, (.iload 4, 2, (0, 0, 0), 0, 0)), (16, (.iload 5, 2, (0, 0, 0), 0, 0)), (18, (.invokevirtual 92, 3, (0, 199, 0), 0, 1408)), (21, (.ifCond .eq 6, 3, (27, 0, 0), 0, 0)), (24, (.iload 5, 2, (0, 0, 0), 0, 0)), (26, (.ireturn, 1, (0, 0, 0), 0, 0)), (27, (.iinc 5 (-1), 3, (0, 0, 0), (-1), 0)), (30, (.goto (-26), 3, (4, 0, 0), 0, 0))],
  [(33, (.iconst (-1), 1, (0, 0, 0), (-1), 0)), (34, (.ireturn, 1, (0, 0, 0), 0, 0))]]
set_option maxRecDepth 10000 in
def zp199 : List (List (Nat × ZI)) := [[(0, (.aload_n 0, 1, (0, 0, 0), 0, 0)), (1, (.getfield 12, 3, (10, 0, 0), 0, 521)), (4, (.aload_n 2, 1, (0, 0, 0), 0, 0)), (5, (.invokevirtual 32, 3, (0, 91, 1), 0, 630)), (8, (.iconst 0, 1, (0, 0, 0), 0, 0)), (9, (.istore 6, 2, (0, 0, 0), 0, 0)), (11, (.iconst 0, 1, (0, 0, 0), 0, 0)), (12, (.istore 7, 2, (0, 0, 0), 0, 0)), (14, (.iload 7, 2, (0, 0, 0), 0, 0)), (16, (.iload 4, 2, (0, 0, 0), 0, 0)), (18, (.if_icmp .ge 54, 3, (72, 0, 0), 0, 0)), (21, (.aload_n 1, 1, (0, 0, 0), 0, 0)), (22, (.aload_n 0, 1, (0, 0, 0), 0, 0)), (23, (.getfield 12, 3, (10, 0, 0), 0, 521)), (26, (.aconst_null, 1, (0, 0, 0), 0, 0)), (27, (.invokevirtual 22, 3, (0, 117, 1), 0, 637)), (30, (.pop, 1, (0, 0, 0), 0, 0)), (31, (.iinc 6 1, 3, (0, 0, 0), 1, 0))],
  [(34, (.iload 6, 2, (0, 0, 0), 0, 0)), (36, (.iload 5, 2, (0, 0, 0), 0, 0)), (38, (.if_icmp .ne 14, 3, (52, 0, 0), 0, 0)), (41, (.aload_n 1, 1, (0, 0, 0), 0, 0)), (42, (.aload_n 0, 1, (0, 0, 0), 0, 0)), (43, (.getfield 12, 3, (10, 0, 0), 0, 521)), (46, (.invokevirtual 96, 3, (0, 120, 1), 0, 1412)), (49, (.iconst 0, 1, (0, 0, 0), 0, 0)), (50, (.istore 6, 2, (0, 0, 0), 0, 0)), (52, (.aload_n 1, 1, (0, 0, 0), 0, 0)), (53, (.aload_n 0, 1, (0, 0, 0), 0, 0)), (54, (.getfield 12, 3, (10, 0, 0), 0, 521)), (57, (.invokevirtual 28, 3, (0, 121, 1), 0, 1315)), (60, (.iload_n 3, 1, (0, 0, 0), 0, 0)), (61, (.if_icmp .le 5, 3, (66, 0, 0), 0, 0))],
  [(64, (.iconst 0, 1, (0, 0, 0), 0, 0)), (65, (.ireturn, 1, (0, 0, 0), 0, 0)), (66, (.iinc 7 1, 3, (0, 0, 0), 1, 0)), (69, (.goto (-55), 3, (14, 0, 0), 0, 0)), (72, (.iconst 1, 1, (0, 0, 0), 1, 0)), (73, (.ireturn, 1, (0, 0, 0), 0, 0))]]
set_option maxRecDepth 10000 in
def zp200 : List (List (Nat × ZI)) := [[(0, (.aload_n 0, 1, (0, 0, 0), 0, 0)), (1, (.getfield 12, 3, (10, 0, 0), 0, 521)), (4, (.aload_n 2, 1, (0, 0, 0), 0, 0)), (5, (.invokevirtual 32, 3, (0, 91, 1), 0, 630)), (8, (.iconst 0, 1, (0, 0, 0), 0, 0)), (9, (.istore 4, 2, (0, 0, 0), 0, 0)), (11, (.iload 4, 2, (0, 0, 0), 0, 0)), (13, (.sipush 300, 3, (0, 0, 0), 300, 0)), (16, (.if_icmp .gt 34, 3, (50, 0, 0), 0, 0)), (19, (.aload_n 1, 1, (0, 0, 0), 0, 0)), (20, (.aload_n 0, 1, (0, 0, 0), 0, 0)), (21, (.getfield 12, 3, (10, 0, 0), 0, 521)), (24, (.invokevirtual 28, 3, (0, 121, 1), 0, 1315)), (27, (.iload_n 3, 1, (0, 0, 0), 0, 0)), (28, (.if_icmp .lt 6, 3, (34, 0, 0), 0, 0)), (31, (.iload 4, 2, (0, 0, 0), 0, 0))],
  [(33, (.ireturn, 1, (0, 0, 0), 0, 0)), (34, (.aload_n 1, 1, (0, 0, 0), 0, 0)), (35, (.aload_n 0, 1, (0, 0, 0), 0, 0)), (36, (.getfield 12, 3, (10, 0, 0), 0, 521)), (39, (.aconst_null, 1, (0, 0, 0), 0, 0)), (40, (.invokevirtual 22, 3, (0, 117, 1), 0, 637)), (43, (.pop, 1, (0, 0, 0), 0, 0)), (44, (.iinc 4 1, 3, (0, 0, 0), 1, 0)), (47, (.goto (-36), 3, (11, 0, 0), 0, 0)), (50, (.iconst (-1), 1, (0, 0, 0), (-1), 0)), (51, (.ireturn, 1, (0, 0, 0), 0, 0))]]
set_option maxRecDepth 10000 in
def zp201 : List (List (Nat × ZI)) := [[(0, (.aload_n 0, 1, (0, 0, 0), 0, 0)), (1, (.getfield 12, 3, (10, 0, 0), 0, 521)), (4, (.aload_n 2, 1, (0, 0, 0), 0, 0)), (5, (.invokevirtual 32, 3, (0, 91, 1), 0, 630)), (8, (.iconst 0, 1, (0, 0, 0), 0, 0)), (9, (.istore_n 3, 1, (0, 0, 0), 0, 0)), (10, (.iload_n 3, 1, (0, 0, 0), 0, 0)), (11, (.sipush 300, 3, (0, 0, 0), 300, 0)), (14, (.if_icmp .gt 38, 3, (52, 0, 0), 0, 0)), (17, (.aload_n 0, 1, (0, 0, 0), 0, 0)), (18, (.getfield 12, 3, (10, 0, 0), 0, 521)), (21, (.getfield 99, 3, (0, 8, 1), 0, 399)), (24, (.aload_n 0, 1, (0, 0, 0), 0, 0)), (25, (.getfield 12, 3, (10, 0, 0), 0, 521)), (28, (.getfield 102, 3, (0, 9, 1), 0, 403)), (31, (.if_icmp .lt 5, 3, (36, 0, 0), 0, 0))],
  [(34, (.iload_n 3, 1, (0, 0, 0), 0, 0)), (35, (.ireturn, 1, (0, 0, 0), 0, 0)), (36, (.aload_n 1, 1, (0, 0, 0), 0, 0)), (37, (.aload_n 0, 1, (0, 0, 0), 0, 0)), (38, (.getfield 12, 3, (10, 0, 0), 0, 521)), (41, (.aconst_null, 1, (0, 0, 0), 0, 0)), (42, (.invokevirtual 22, 3, (0, 117, 1), 0, 637)), (45, (.pop, 1, (0, 0, 0), 0, 0)), (46, (.iinc 3 1, 3, (0, 0, 0), 1, 0)), (49, (.goto (-39), 3, (10, 0, 0), 0, 0)), (52, (.iconst (-1), 1, (0, 0, 0), (-1), 0)), (53, (.ireturn, 1, (0, 0, 0), 0, 0))]]
set_option maxRecDepth 10000 in
def zp202 : List (List (Nat × ZI)) := [[(0, (.aload_n 0, 1, (0, 0, 0), 0, 0)), (1, (.getfield 12, 3, (10, 0, 0), 0, 521)), (4, (.aload_n 2, 1, (0, 0, 0), 0, 0)), (5, (.invokevirtual 32, 3, (0, 91, 1), 0, 630)), (8, (.iconst 0, 1, (0, 0, 0), 0, 0)), (9, (.istore 4, 2, (0, 0, 0), 0, 0)), (11, (.iload 4, 2, (0, 0, 0), 0, 0)), (13, (.bipush 99, 2, (0, 0, 0), 99, 0)), (15, (.if_icmp .gt 32, 3, (47, 0, 0), 0, 0)), (18, (.aload_n 1, 1, (0, 0, 0), 0, 0)), (19, (.aload_n 0, 1, (0, 0, 0), 0, 0)), (20, (.getfield 12, 3, (10, 0, 0), 0, 521)), (23, (.invokevirtual 40, 3, (0, 122, 1), 0, 1319)), (26, (.iload_n 3, 1, (0, 0, 0), 0, 0)), (27, (.if_icmp .gt 6, 3, (33, 0, 0), 0, 0)), (30, (.iload 4, 2, (0, 0, 0), 0, 0))],
  [(32, (.ireturn, 1, (0, 0, 0), 0, 0)), (33, (.aload_n 1, 1, (0, 0, 0), 0, 0)), (34, (.aload_n 0, 1, (0, 0, 0), 0, 0)), (35, (.getfield 12, 3, (10, 0, 0), 0, 521)), (38, (.invokevirtual 96, 3, (0, 120, 1), 0, 1412)), (41, (.iinc 4 1, 3, (0, 0, 0), 1, 0)), (44, (.goto (-33), 3, (11, 0, 0), 0, 0)), (47, (.iconst (-1), 1, (0, 0, 0), (-1), 0)), (48, (.ireturn, 1, (0, 0, 0), 0, 0))]]
set_option maxRecDepth 10000 in
def zp203 : List (List (Nat × ZI)) := [[(0, (.iconst 0, 1, (0, 0, 0), 0, 0)), (1, (.istore 5, 2, (0, 0, 0), 0, 0)), (3, (.iconst 0, 1, (0, 0, 0), 0, 0)), (4, (.istore 6, 2, (0, 0, 0), 0, 0)), (6, (.iconst 0, 1, (0, 0, 0), 0, 0)), (7, (.istore 7, 2, (0, 0, 0), 0, 0)), (9, (.iload 7, 2, (0, 0, 0), 0, 0)), (11, (.iload 4, 2, (0, 0, 0), 0, 0)), (13, (.if_icmp .gt 76, 3, (89, 0, 0), 0, 0)), (16, (.aload_n 0, 1, (0, 0, 0), 0, 0)), (17, (.getfield 12, 3, (10, 0, 0), 0, 521)), (20, (.aload_n 2, 1, (0, 0, 0), 0, 0)), (21, (.invokevirtual 32, 3, (0, 91, 1), 0, 630)), (24, (.aload_n 0, 1, (0, 0, 0), 0, 0)), (25, (.aload_n 1, 1, (0, 0, 0), 0, 0)), (26, (.iload 7, 2, (0, 0, 0), 0, 0)), (28, (.invokevirtual 36, 3, (0, 190, 0), 0, 1311)), (31, (.pop, 1, (0, 0, 0), 0, 0))],
  [(32, (.aload_n 1, 1, (0, 0, 0), 0, 0)), (33, (.aload_n 0, 1, (0, 0, 0), 0, 0)), (34, (.getfield 12, 3, (10, 0, 0), 0, 521)), (37, (.iload_n 3, 1, (0, 0, 0), 0, 0)), (38, (.invokevirtual 78, 3, (0, 119, 1), 0, 1387)), (41, (.pop, 1, (0, 0, 0), 0, 0)), (42, (.aload_n 0, 1, (0, 0, 0), 0, 0)), (43, (.aload_n 1, 1, (0, 0, 0), 0, 0)), (44, (.iload 4, 2, (0, 0, 0), 0, 0)), (46, (.iload 7, 2, (0, 0, 0), 0, 0)), (48, (.isub, 1, (0, 0, 0), 0, 0)), (49, (.invokevirtual 36, 3, (0, 190, 0), 0, 1311)), (52, (.pop, 1, (0, 0, 0), 0, 0)), (53, (.aload_n 0, 1, (0, 0, 0), 0, 0)), (54, (.getfield 12, 3, (10, 0, 0), 0, 521)), (57, (.iload_n 3, 1, (0, 0, 0), 0, 0)), (58, (.invokevirtual 105, 3, (0, 92, 1), 0, 1451)), (61, (.istore 8, 2, (0, 0, 0), 0, 0)), (63, (.iload 7, 2, (0, 0, 0), 0, 0))],
  [(65, (.ifCond .eq 10, 3, (75, 0, 0), 0, 0)), (68, (.iload 8, 2, (0, 0, 0), 0, 0)), (70, (.iload 6, 2, (0, 0, 0), 0, 0)), (72, (.if_icmp .ge 11, 3, (83, 0, 0), 0, 0)), (75, (.iload 7, 2, (0, 0, 0), 0, 0)), (77, (.istore 5, 2, (0, 0, 0), 0, 0)), (79, (.iload 8, 2, (0, 0, 0), 0, 0)), (81, (.istore 6, 2, (0, 0, 0), 0, 0)), (83, (.iinc 7 1, 3, (0, 0, 0), 1, 0)), (86, (.goto (-77), 3, (9, 0, 0), 0, 0)), (89, (.iload 5, 2, (0, 0, 0), 0, 0)), (91, (.ireturn, 1, (0, 0, 0), 0, 0))]]
set_option maxRecDepth 10000 in
def zp204 : List (List (Nat × ZI)) := [[(0, (.aload_n 0, 1, (0, 0, 0), 0, 0)), (1, (.getfield 12, 3, (10, 0, 0), 0, 521)), (4, (.aload_n 2, 1, (0, 0, 0), 0, 0)), (5, (.invokevirtual 32, 3, (0, 91, 1), 0, 630)), (8, (.aload_n 0, 1, (0, 0, 0), 0, 0)), (9, (.aload_n 1, 1, (0, 0, 0), 0, 0)), (10, (.iload 5, 2, (0, 0, 0), 0, 0)), (12, (.invokevirtual 36, 3, (0, 190, 0), 0, 1311)), (15, (.istore 6, 2, (0, 0, 0), 0, 0)), (17, (.aload_n 0, 1, (0, 0, 0), 0, 0)), (18, (.getfield 12, 3, (10, 0, 0), 0, 521)), (21, (.aload_n 2, 1, (0, 0, 0), 0, 0)), (22, (.invokevirtual 32, 3, (0, 91, 1), 0, 630)), (25, (.iconst 0, 1, (0, 0, 0), 0, 0)), (26, (.istore 7, 2, (0, 0, 0), 0, 0)), (28, (.iload 7, 2, (0, 0, 0), 0, 0)), (30, (.iload 5, 2, (0, 0, 0), 0, 0))],
  [(32, (.if_icmp .ge 50, 3, (82, 0, 0), 0, 0)), (35, (.aload_n 1, 1, (0, 0, 0), 0, 0)), (36, (.aload_n 0, 1, (0, 0, 0), 0, 0)), (37, (.getfield 12, 3, (10, 0, 0), 0, 521)), (40, (.aconst_null, 1, (0, 0, 0), 0, 0)), (41, (.invokevirtual 22, 3, (0, 117, 1), 0, 637)), (44, (.pop, 1, (0, 0, 0), 0, 0)), (45, (.aload_n 1, 1, (0, 0, 0), 0, 0)), (46, (.getfield 54, 3, (2, 0, 1), 0, 351)), (49, (.iload_n 3, 1, (0, 0, 0), 0, 0)), (50, (.aload_n 0, 1, (0, 0, 0), 0, 0)), (51, (.getfield 12, 3, (10, 0, 0), 0, 521)), (54, (.getfield 108, 3, (0, 1, 1), 0, 377)), (57, (.iload_n 3, 1, (0, 0, 0), 0, 0)), (58, (.iaload, 1, (0, 0, 0), 0, 0)), (59, (.invokevirtual 111, 3, (0, 173, 1), 0, 1463)), (62, (.iload 4, 2, (0, 0, 0), 0, 0))],
  [(64, (.if_icmp .ne 12, 3, (76, 0, 0), 0, 0)), (67, (.aload_n 0, 1, (0, 0, 0), 0, 0)), (68, (.getfield 12, 3, (10, 0, 0), 0, 521)), (71, (.iload_n 3, 1, (0, 0, 0), 0, 0)), (72, (.invokevirtual 114, 3, (0, 101, 1), 0, 1464)), (75, (.pop, 1, (0, 0, 0), 0, 0)), (76, (.iinc 7 1, 3, (0, 0, 0), 1, 0)), (79, (.goto (-51), 3, (28, 0, 0), 0, 0)), (82, (.iload 6, 2, (0, 0, 0), 0, 0)), (84, (.aload_n 1, 1, (0, 0, 0), 0, 0)), (85, (.aload_n 0, 1, (0, 0, 0), 0, 0)), (86, (.getfield 12, 3, (10, 0, 0), 0, 521)), (89, (.invokevirtual 28, 3, (0, 121, 1), 0, 1315)), (92, (.isub, 1, (0, 0, 0), 0, 0)), (93, (.ireturn, 1, (0, 0, 0), 0, 0))]]
set_option maxRecDepth 10000 in
def zp205 : List (List (Nat × ZI)) := [[(0, (.aload_n 1, 1, (0, 0, 0), 0, 0)), (1, (.getfield 54, 3, (2, 0, 1), 0, 351)), (4, (.iload_n 3, 1, (0, 0, 0), 0, 0)), (5, (.invokevirtual 117, 3, (0, 175, 1), 0, 1476)), (8, (.istore 5, 2, (0, 0, 0), 0, 0)), (10, (.iconst (-1), 1, (0, 0, 0), (-1), 0)), (11, (.istore 6, 2, (0, 0, 0), 0, 0)), (13, (.iconst 0, 1, (0, 0, 0), 0, 0)), (14, (.istore 7, 2, (0, 0, 0), 0, 0)), (16, (.iconst 0, 1, (0, 0, 0), 0, 0)), (17, (.istore 8, 2, (0, 0, 0), 0, 0)), (19, (.iload 8, 2, (0, 0, 0), 0, 0)), (21, (.aload_n 1, 1, (0, 0, 0), 0, 0)), (22, (.getfield 54, 3, (2, 0, 1), 0, 351)), (25, (.getfield 58, 3, (8, 0, 1), 0, 265)), (28, (.if_icmp .ge 56, 3, (84, 0, 0), 0, 0)), (31, (.iload 5, 2, (0, 0, 0), 0, 0))],
  [(33, (.iload 8, 2, (0, 0, 0), 0, 0)), (35, (.ishr, 1, (0, 0, 0), 0, 0)), (36, (.iconst 1, 1, (0, 0, 0), 1, 0)), (37, (.iand, 1, (0, 0, 0), 0, 0)), (38, (.ifCond .ne 6, 3, (44, 0, 0), 0, 0)), (41, (.goto 37, 3, (78, 0, 0), 0, 0)), (44, (.aload_n 0, 1, (0, 0, 0), 0, 0)), (45, (.aload_n 1, 1, (0, 0, 0), 0, 0)), (46, (.aload_n 2, 1, (0, 0, 0), 0, 0)), (47, (.iload_n 3, 1, (0, 0, 0), 0, 0)), (48, (.iload 8, 2, (0, 0, 0), 0, 0)), (50, (.iload 4, 2, (0, 0, 0), 0, 0)), (52, (.invokevirtual 120, 3, (0, 204, 0), 0, 1477)), (55, (.istore 9, 2, (0, 0, 0), 0, 0)), (57, (.iload 6, 2, (0, 0, 0), 0, 0)), (59, (.iconst (-1), 1, (0, 0, 0), (-1), 0)), (60, (.if_icmp .eq 10, 3, (70, 0, 0), 0, 0)), (63, (.iload 9, 2, (0, 0, 0), 0, 0))],
  [(65, (.iload 7, 2, (0, 0, 0), 0, 0)), (67, (.if_icmp .le 11, 3, (78, 0, 0), 0, 0)), (70, (.iload 8, 2, (0, 0, 0), 0, 0)), (72, (.istore 6, 2, (0, 0, 0), 0, 0)), (74, (.iload 9, 2, (0, 0, 0), 0, 0)), (76, (.istore 7, 2, (0, 0, 0), 0, 0)), (78, (.iinc 8 1, 3, (0, 0, 0), 1, 0)), (81, (.goto (-62), 3, (19, 0, 0), 0, 0)), (84, (.iload 6, 2, (0, 0, 0), 0, 0)), (86, (.ireturn, 1, (0, 0, 0), 0, 0))]]
set_option maxRecDepth 10000 in
def zp206 : List (List (Nat × ZI)) := [[(0, (.iconst 0, 1, (0, 0, 0), 0, 0)), (1, (.istore 5, 2, (0, 0, 0), 0, 0)), (3, (.iconst 1, 1, (0, 0, 0), 1, 0)), (4, (.istore 6, 2, (0, 0, 0), 0, 0)), (6, (.iload 6, 2, (0, 0, 0), 0, 0)), (8, (.bipush 8, 2, (0, 0, 0), 8, 0)), (10, (.if_icmp .gt 66, 3, (76, 0, 0), 0, 0)), (13, (.aload_n 0, 1, (0, 0, 0), 0, 0)), (14, (.getfield 12, 3, (10, 0, 0), 0, 521)), (17, (.aload_n 2, 1, (0, 0, 0), 0, 0)), (18, (.invokevirtual 32, 3, (0, 91, 1), 0, 630)), (21, (.aload_n 0, 1, (0, 0, 0), 0, 0)), (22, (.getfield 12, 3, (10, 0, 0), 0, 521)), (25, (.iload 6, 2, (0, 0, 0), 0, 0)), (27, (.putfield 124, 3, (0, 12, 1), 0, 412)), (30, (.aload_n 0, 1, (0, 0, 0), 0, 0)), (31, (.aload_n 1, 1, (0, 0, 0), 0, 0))],
  [(32, (.iload_n 3, 1, (0, 0, 0), 0, 0)), (33, (.invokevirtual 36, 3, (0, 190, 0), 0, 1311)), (36, (.istore 7, 2, (0, 0, 0), 0, 0)), (38, (.iload 6, 2, (0, 0, 0), 0, 0)), (40, (.iconst 1, 1, (0, 0, 0), 1, 0)), (41, (.if_icmp .eq 25, 3, (66, 0, 0), 0, 0)), (44, (.iload 4, 2, (0, 0, 0), 0, 0)), (46, (.ifCond .eq 13, 3, (59, 0, 0), 0, 0)), (49, (.iload 7, 2, (0, 0, 0), 0, 0)), (51, (.iload 5, 2, (0, 0, 0), 0, 0)), (53, (.if_icmp .le 17, 3, (70, 0, 0), 0, 0)), (56, (.goto 10, 3, (66, 0, 0), 0, 0)), (59, (.iload 7, 2, (0, 0, 0), 0, 0)), (61, (.iload 5, 2, (0, 0, 0), 0, 0)), (63, (.if_icmp .ge 7, 3, (70, 0, 0), 0, 0))],
  [(66, (.iload 7, 2, (0, 0, 0), 0, 0)), (68, (.istore 5, 2, (0, 0, 0), 0, 0)), (70, (.iinc 6 1, 3, (0, 0, 0), 1, 0)), (73, (.goto (-67), 3, (6, 0, 0), 0, 0)), (76, (.iload 5, 2, (0, 0, 0), 0, 0)), (78, (.ireturn, 1, (0, 0, 0), 0, 0))]]
set_option maxRecDepth 10000 in
def zp207 : List (List (Nat × ZI)) := [[(0, (.aload_n 0, 1, (0, 0, 0), 0, 0)), (1, (.getfield 12, 3, (10, 0, 0), 0, 521)), (4, (.aload_n 2, 1, (0, 0, 0), 0, 0)), (5, (.invokevirtual 32, 3, (0, 91, 1), 0, 630)), (8, (.iconst (-1), 1, (0, 0, 0), (-1), 0)), (9, (.istore 4, 2, (0, 0, 0), 0, 0)), (11, (.iconst 0, 1, (0, 0, 0), 0, 0)), (12, (.istore 5, 2, (0, 0, 0), 0, 0)), (14, (.aload_n 1, 1, (0, 0, 0), 0, 0)), (15, (.aload_n 0, 1, (0, 0, 0), 0, 0)), (16, (.getfield 12, 3, (10, 0, 0), 0, 521)), (19, (.invokevirtual 28, 3, (0, 121, 1), 0, 1315)), (22, (.istore 6, 2, (0, 0, 0), 0, 0)), (24, (.iconst 1, 1, (0, 0, 0), 1, 0)), (25, (.istore 7, 2, (0, 0, 0), 0, 0)), (27, (.iload 7, 2, (0, 0, 0), 0, 0)), (29, (.iload_n 3, 1, (0, 0, 0), 0, 0)), (30, (.if_icmp .gt 48, 3, (78, 0, 0), 0, 0))],
  [(33, (.aload_n 0, 1, (0, 0, 0), 0, 0)), (34, (.aload_n 1, 1, (0, 0, 0), 0, 0)), (35, (.iconst 1, 1, (0, 0, 0), 1, 0)), (36, (.invokevirtual 36, 3, (0, 190, 0), 0, 1311)), (39, (.istore 8, 2, (0, 0, 0), 0, 0)), (41, (.iload 4, 2, (0, 0, 0), 0, 0)), (43, (.iconst (-1), 1, (0, 0, 0), (-1), 0)), (44, (.if_icmp .eq 13, 3, (57, 0, 0), 0, 0)), (47, (.iload 8, 2, (0, 0, 0), 0, 0)), (49, (.iload 6, 2, (0, 0, 0), 0, 0)), (51, (.isub, 1, (0, 0, 0), 0, 0)), (52, (.iload 5, 2, (0, 0, 0), 0, 0)), (54, (.if_icmp .le 14, 3, (68, 0, 0), 0, 0)), (57, (.iload 7, 2, (0, 0, 0), 0, 0)), (59, (.istore 4, 2, (0, 0, 0), 0, 0)), (61, (.iload 8, 2, (0, 0, 0), 0, 0)), (63, (.iload 6, 2, (0, 0, 0), 0, 0))],
  [(65, (.isub, 1, (0, 0, 0), 0, 0)), (66, (.istore 5, 2, (0, 0, 0), 0, 0)), (68, (.iload 8, 2, (0, 0, 0), 0, 0)), (70, (.istore 6, 2, (0, 0, 0), 0, 0)), (72, (.iinc 7 1, 3, (0, 0, 0), 1, 0)), (75, (.goto (-48), 3, (27, 0, 0), 0, 0)), (78, (.iload 4, 2, (0, 0, 0), 0, 0)), (80, (.ireturn, 1, (0, 0, 0), 0, 0))]]
set_option maxRecDepth 10000 in
def zp208 : List (List (Nat × ZI)) := [[(0, (.iload_n 1, 1, (0, 0, 0), 0, 0)), (1, (.ifCond .eq 8, 3, (9, 0, 0), 0, 0)), (4, (.aload_n 0, 1, (0, 0, 0), 0, 0)), (5, (.iload_n 2, 1, (0, 0, 0), 0, 0)), (6, (.putfield 3, 3, (12, 0, 0), 0, 1613)), (9, (.iload_n 1, 1, (0, 0, 0), 0, 0)), (10, (.ireturn, 1, (0, 0, 0), 0, 0))]]
set_option maxRecDepth 10000 in
def zp209 : List (List (Nat × ZI)) := [[(0, (.iload_n 0, 1, (0, 0, 0), 0, 0)), (1, (.iload_n 1, 1, (0, 0, 0), 0, 0)), (2, (.if_icmp .lt 12, 3, (14, 0, 0), 0, 0)), (5, (.iload_n 0, 1, (0, 0, 0), 0, 0)), (6, (.iload_n 2, 1, (0, 0, 0), 0, 0)), (7, (.if_icmp .gt 7, 3, (14, 0, 0), 0, 0)), (10, (.iconst 1, 1, (0, 0, 0), 1, 0)), (11, (.goto 4, 3, (15, 0, 0), 0, 0)), (14, (.iconst 0, 1, (0, 0, 0), 0, 0)), (15, (.ireturn, 1, (0, 0, 0), 0, 0))]]
set_option maxRecDepth 10000 in
def zp210 : List (List (Nat × ZI)) := [[(0, (.iload_n 0, 1, (0, 0, 0), 0, 0)), (1, (.iload_n 1, 1, (0, 0, 0), 0, 0)), (2, (.ishr, 1, (0, 0, 0), 0, 0)), (3, (.iconst 1, 1, (0, 0, 0), 1, 0)), (4, (.iand, 1, (0, 0, 0), 0, 0)), (5, (.iconst 1, 1, (0, 0, 0), 1, 0)), (6, (.if_icmp .ne 7, 3, (13, 0, 0), 0, 0)), (9, (.iconst 1, 1, (0, 0, 0), 1, 0)), (10, (.goto 4, 3, (14, 0, 0), 0, 0)), (13, (.iconst 0, 1, (0, 0, 0), 0, 0)), (14, (.ireturn, 1, (0, 0, 0), 0, 0))]]
set_option maxRecDepth 10000 in
def zp211 : List (List (Nat × ZI)) := [[(0, (.aload_n 0, 1, (0, 0, 0), 0, 0)), (1, (.invokespecial 7, 3, (1, 0, 0), 0, 1612)), (4, (.aload_n 0, 1, (0, 0, 0), 0, 0)), (5, (.sipush 2475, 3, (0, 0, 0), 2475, 0)), (8, (.newarray .int, 2, (0, 0, 0), 0, 251)), (10, (.putfield 13, 3, (12, 1, 0), 0, 1614)), (13, (.aload_n 0, 1, (0, 0, 0), 0, 0)), (14, (.sipush 1626, 3, (0, 0, 0), 1626, 0)), (17, (.newarray .int, 2, (0, 0, 0), 0, 251)), (19, (.putfield 17, 3, (12, 2, 0), 0, 1615)), (22, (.aload_n 0, 1, (0, 0, 0), 0, 0)), (23, (.sipush 1626, 3, (0, 0, 0), 1626, 0)), (26, (.newarray .int, 2, (0, 0, 0), 0, 251)), (28, (.putfield 20, 3, (12, 3, 0), 0, 1616)), (31, (.aload_n 0, 1, (0, 0, 0), 0, 0))],
  [(32, (.sipush 777, 3, (0, 0, 0), 777, 0)), (35, (.newarray .int, 2, (0, 0, 0), 0, 251)), (37, (.putfield 23, 3, (12, 4, 0), 0, 1617)), (40, (.aload_n 0, 1, (0, 0, 0), 0, 0)), (41, (.sipush 9324, 3, (0, 0, 0), 9324, 0)), (44, (.newarray .int, 2, (0, 0, 0), 0, 251)), (46, (.putfield 26, 3, (12, 5, 0), 0, 1618)), (49, (.aload_n 0, 1, (0, 0, 0), 0, 0)), (50, (.sipush 400, 3, (0, 0, 0), 400, 0)), (53, (.newarray .byte, 2, (1, 0, 0), 0, 1025)), (55, (.putfield 29, 3, (12, 8, 0), 0, 1621)), (58, (.aload_n 0, 1, (0, 0, 0), 0, 0)), (59, (.iconst (-1), 1, (0, 0, 0), (-1), 0)), (60, (.putfield 33, 3, (12, 14, 0), 0, 1627)), (63, (.aload_n 0, 1, (0, 0, 0), 0, 0))],
  [(64, (.iconst 5, 1, (0, 0, 0), 5, 0)), (65, (.newarray .int, 2, (0, 0, 0), 0, 251)), (67, (.putfield 36, 3, (12, 15, 0), 0, 1628)), (70, (.aload_n 0, 1, (0, 0, 0), 0, 0)), (71, (.sipush 400, 3, (0, 0, 0), 400, 0)), (74, (.newarray .int, 2, (0, 0, 0), 0, 251)), (76, (.putfield 39, 3, (12, 17, 0), 0, 1630)), (79, (.aload_n 0, 1, (0, 0, 0), 0, 0)), (80, (.bipush 12, 2, (0, 0, 0), 12, 0)), (82, (.newarray .int, 2, (0, 0, 0), 0, 251)), (84, (.putfield 42, 3, (12, 18, 0), 0, 1631)), (87, (.aload_n 0, 1, (0, 0, 0), 0, 0)), (88, (.getfield 13, 3, (12, 1, 0), 0, 1614)), (91, (.bipush 9, 2, (0, 0, 0), 9, 0)), (93, (.sipush 1000, 3, (0, 0, 0), 1000, 0))],
  [(96, (.iastore, 1, (0, 0, 0), 0, 0)), (97, (.aload_n 0, 1, (0, 0, 0), 0, 0)), (98, (.getfield 13, 3, (12, 1, 0), 0, 1614)), (101, (.bipush 12, 2, (0, 0, 0), 12, 0)), (103, (.iconst 1, 1, (0, 0, 0), 1, 0)), (104, (.iastore, 1, (0, 0, 0), 0, 0)), (105, (.return_, 1, (0, 0, 0), 0, 0))]]
set_option maxRecDepth 10000 in
def zp212 : List (List (Nat × ZI)) := [[(0, (.aload_n 0, 1, (0, 0, 0), 0, 0)), (1, (.iconst 0, 1, (0, 0, 0), 0, 0)), (2, (.putfield 3, 3, (12, 0, 0), 0, 1613)), (5, (.iconst 0, 1, (0, 0, 0), 0, 0)), (6, (.istore_n 1, 1, (0, 0, 0), 0, 0)), (7, (.iload_n 1, 1, (0, 0, 0), 0, 0)), (8, (.sipush 1626, 3, (0, 0, 0), 1626, 0)), (11, (.if_icmp .ge 21, 3, (32, 0, 0), 0, 0)), (14, (.aload_n 0, 1, (0, 0, 0), 0, 0)), (15, (.getfield 17, 3, (12, 2, 0), 0, 1615)), (18, (.iload_n 1, 1, (0, 0, 0), 0, 0)), (19, (.aload_n 0, 1, (0, 0, 0), 0, 0)), (20, (.getfield 13, 3, (12, 1, 0), 0, 1614)), (23, (.iload_n 1, 1, (0, 0, 0), 0, 0)), (24, (.iaload, 1, (0, 0, 0), 0, 0)), (25, (.iastore, 1, (0, 0, 0), 0, 0)), (26, (.iinc 1 1, 3, (0, 0, 0), 1, 0)), (29, (.goto (-22), 3, (7, 0, 0), 0, 0))],
  [(32, (.aload_n 0, 1, (0, 0, 0), 0, 0)), (33, (.iconst 1, 1, (0, 0, 0), 1, 0)), (34, (.putfield 45, 3, (12, 6, 0), 1, 1619)), (37, (.return_, 1, (0, 0, 0), 0, 0))]]
set_option maxRecDepth 10000 in
def zp213 : List (List (Nat × ZI)) := [[(0, (.aload_n 0, 1, (0, 0, 0), 0, 0)), (1, (.iconst 0, 1, (0, 0, 0), 0, 0)), (2, (.putfield 3, 3, (12, 0, 0), 0, 1613)), (5, (.aload_n 0, 1, (0, 0, 0), 0, 0)), (6, (.getfield 45, 3, (12, 6, 0), 1, 1619)), (9, (.ifCond .ne 5, 3, (14, 0, 0), 0, 0)), (12, (.iconst 0, 1, (0, 0, 0), 0, 0)), (13, (.ireturn, 1, (0, 0, 0), 0, 0)), (14, (.iconst 0, 1, (0, 0, 0), 0, 0)), (15, (.istore_n 1, 1, (0, 0, 0), 0, 0)), (16, (.iload_n 1, 1, (0, 0, 0), 0, 0)), (17, (.sipush 1626, 3, (0, 0, 0), 1626, 0)), (20, (.if_icmp .ge 21, 3, (41, 0, 0), 0, 0)), (23, (.aload_n 0, 1, (0, 0, 0), 0, 0)), (24, (.getfield 13, 3, (12, 1, 0), 0, 1614)), (27, (.iload_n 1, 1, (0, 0, 0), 0, 0)), (28, (.aload_n 0, 1, (0, 0, 0), 0, 0)), (29, (.getfield 17, 3, (12, 2, 0), 0, 1615))],
  [(32, (.iload_n 1, 1, (0, 0, 0), 0, 0)), (33, (.iaload, 1, (0, 0, 0), 0, 0)), (34, (.iastore, 1, (0, 0, 0), 0, 0)), (35, (.iinc 1 1, 3, (0, 0, 0), 1, 0)), (38, (.goto (-22), 3, (16, 0, 0), 0, 0)), (41, (.aload_n 0, 1, (0, 0, 0), 0, 0)), (42, (.iconst 0, 1, (0, 0, 0), 0, 0)), (43, (.putfield 49, 3, (12, 7, 0), 0, 1620)), (46, (.iconst 1, 1, (0, 0, 0), 1, 0)), (47, (.ireturn, 1, (0, 0, 0), 0, 0))]]
set_option maxRecDepth 10000 in
def zp214 : List (List (Nat × ZI)) := [[(0, (.aload_n 0, 1, (0, 0, 0), 0, 0)), (1, (.getfield 49, 3, (12, 7, 0), 0, 1620)), (4, (.bipush 12, 2, (0, 0, 0), 12, 0)), (6, (.if_icmp .ne 37, 3, (43, 0, 0), 0, 0)), (9, (.iconst 0, 1, (0, 0, 0), 0, 0)), (10, (.istore_n 1, 1, (0, 0, 0), 0, 0)), (11, (.iload_n 1, 1, (0, 0, 0), 0, 0)), (12, (.sipush 8547, 3, (0, 0, 0), 8547, 0)), (15, (.if_icmp .ge 25, 3, (40, 0, 0), 0, 0)), (18, (.aload_n 0, 1, (0, 0, 0), 0, 0)), (19, (.getfield 26, 3, (12, 5, 0), 0, 1618)), (22, (.iload_n 1, 1, (0, 0, 0), 0, 0)), (23, (.aload_n 0, 1, (0, 0, 0), 0, 0)), (24, (.getfield 26, 3, (12, 5, 0), 0, 1618)), (27, (.iload_n 1, 1, (0, 0, 0), 0, 0)), (28, (.sipush 777, 3, (0, 0, 0), 777, 0)), (31, (.iadd, 1, (0, 0, 0), 0, 0))],
  [(32, (.iaload, 1, (0, 0, 0), 0, 0)), (33, (.iastore, 1, (0, 0, 0), 0, 0)), (34, (.iinc 1 1, 3, (0, 0, 0), 1, 0)), (37, (.goto (-26), 3, (11, 0, 0), 0, 0)), (40, (.goto 13, 3, (53, 0, 0), 0, 0)), (43, (.aload_n 0, 1, (0, 0, 0), 0, 0)), (44, (.dup, 1, (0, 0, 0), 0, 0)), (45, (.getfield 49, 3, (12, 7, 0), 0, 1620)), (48, (.iconst 1, 1, (0, 0, 0), 1, 0)), (49, (.iadd, 1, (0, 0, 0), 0, 0)), (50, (.putfield 49, 3, (12, 7, 0), 0, 1620)), (53, (.iconst 0, 1, (0, 0, 0), 0, 0)), (54, (.istore_n 1, 1, (0, 0, 0), 0, 0)), (55, (.iload_n 1, 1, (0, 0, 0), 0, 0)), (56, (.sipush 777, 3, (0, 0, 0), 777, 0)), (59, (.if_icmp .ge 32, 3, (91, 0, 0), 0, 0)), (62, (.aload_n 0, 1, (0, 0, 0), 0, 0)), (63, (.getfield 26, 3, (12, 5, 0), 0, 1618))],
  [(66, (.sipush 777, 3, (0, 0, 0), 777, 0)), (69, (.aload_n 0, 1, (0, 0, 0), 0, 0)), (70, (.getfield 49, 3, (12, 7, 0), 0, 1620)), (73, (.iconst 1, 1, (0, 0, 0), 1, 0)), (74, (.isub, 1, (0, 0, 0), 0, 0)), (75, (.imul, 1, (0, 0, 0), 0, 0)), (76, (.iload_n 1, 1, (0, 0, 0), 0, 0)), (77, (.iadd, 1, (0, 0, 0), 0, 0)), (78, (.aload_n 0, 1, (0, 0, 0), 0, 0)), (79, (.getfield 13, 3, (12, 1, 0), 0, 1614)), (82, (.iload_n 1, 1, (0, 0, 0), 0, 0)), (83, (.iaload, 1, (0, 0, 0), 0, 0)), (84, (.iastore, 1, (0, 0, 0), 0, 0)), (85, (.iinc 1 1, 3, (0, 0, 0), 1, 0)), (88, (.goto (-33), 3, (55, 0, 0), 0, 0)), (91, (.return_, 1, (0, 0, 0), 0, 0))]]
set_option maxRecDepth 10000 in
def zp215 : List (List (Nat × ZI)) := [[(0, (.aload_n 0, 1, (0, 0, 0), 0, 0)), (1, (.iconst 0, 1, (0, 0, 0), 0, 0)), (2, (.putfield 3, 3, (12, 0, 0), 0, 1613)), (5, (.aload_n 0, 1, (0, 0, 0), 0, 0)), (6, (.getfield 49, 3, (12, 7, 0), 0, 1620)), (9, (.ifCond .ne 5, 3, (14, 0, 0), 0, 0)), (12, (.iconst 0, 1, (0, 0, 0), 0, 0)), (13, (.ireturn, 1, (0, 0, 0), 0, 0)), (14, (.aload_n 0, 1, (0, 0, 0), 0, 0)), (15, (.dup, 1, (0, 0, 0), 0, 0)), (16, (.getfield 49, 3, (12, 7, 0), 0, 1620)), (19, (.iconst 1, 1, (0, 0, 0), 1, 0)), (20, (.isub, 1, (0, 0, 0), 0, 0)), (21, (.putfield 49, 3, (12, 7, 0), 0, 1620)), (24, (.iconst 0, 1, (0, 0, 0), 0, 0)), (25, (.istore_n 1, 1, (0, 0, 0), 0, 0)), (26, (.iload_n 1, 1, (0, 0, 0), 0, 0)), (27, (.sipush 777, 3, (0, 0, 0), 777, 0)), (30, (.if_icmp .ge 30, 3, (60, 0, 0), 0, 0))],
  [(33, (.aload_n 0, 1, (0, 0, 0), 0, 0)), (34, (.getfield 13, 3, (12, 1, 0), 0, 1614)), (37, (.iload_n 1, 1, (0, 0, 0), 0, 0)), (38, (.aload_n 0, 1, (0, 0, 0), 0, 0)), (39, (.getfield 26, 3, (12, 5, 0), 0, 1618)), (42, (.sipush 777, 3, (0, 0, 0), 777, 0)), (45, (.aload_n 0, 1, (0, 0, 0), 0, 0)), (46, (.getfield 49, 3, (12, 7, 0), 0, 1620)), (49, (.imul, 1, (0, 0, 0), 0, 0)), (50, (.iload_n 1, 1, (0, 0, 0), 0, 0)), (51, (.iadd, 1, (0, 0, 0), 0, 0)), (52, (.iaload, 1, (0, 0, 0), 0, 0)), (53, (.iastore, 1, (0, 0, 0), 0, 0)), (54, (.iinc 1 1, 3, (0, 0, 0), 1, 0)), (57, (.goto (-31), 3, (26, 0, 0), 0, 0)), (60, (.iconst 1, 1, (0, 0, 0), 1, 0)), (61, (.ireturn, 1, (0, 0, 0), 0, 0))]]
set_option maxRecDepth 10000 in
def zp216 : List (List (Nat × ZI)) := [[(0, (.aload_n 0, 1, (0, 0, 0), 0, 0)), (1, (.getfield 13, 3, (12, 1, 0), 0, 1614)), (4, (.iconst 0, 1, (0, 0, 0), 0, 0)), (5, (.iaload, 1, (0, 0, 0), 0, 0)), (6, (.ireturn, 1, (0, 0, 0), 0, 0))]]
set_option maxRecDepth 10000 in
def zp217 : List (List (Nat × ZI)) := [[(0, (.aload_n 0, 1, (0, 0, 0), 0, 0)), (1, (.getfield 13, 3, (12, 1, 0), 0, 1614)), (4, (.iconst 2, 1, (0, 0, 0), 2, 0)), (5, (.iaload, 1, (0, 0, 0), 0, 0)), (6, (.ireturn, 1, (0, 0, 0), 0, 0))]]
set_option maxRecDepth 10000 in
def zp218 : List (List (Nat × ZI)) := [[(0, (.bipush 13, 2, (0, 0, 0), 13, 0)), (2, (.bipush 11, 2, (0, 0, 0), 11, 0)), (4, (.iload_n 0, 1, (0, 0, 0), 0, 0)), (5, (.imul, 1, (0, 0, 0), 0, 0)), (6, (.iadd, 1, (0, 0, 0), 0, 0)), (7, (.iload_n 1, 1, (0, 0, 0), 0, 0)), (8, (.iadd, 1, (0, 0, 0), 0, 0)), (9, (.ireturn, 1, (0, 0, 0), 0, 0))]]
set_option maxRecDepth 10000 in
def zp219 : List (List (Nat × ZI)) := [[(0, (.sipush 185, 3, (0, 0, 0), 185, 0)), (3, (.bipush 24, 2, (0, 0, 0), 24, 0)), (5, (.iload_n 0, 1, (0, 0, 0), 0, 0)), (6, (.imul, 1, (0, 0, 0), 0, 0)), (7, (.iadd, 1, (0, 0, 0), 0, 0)), (8, (.iload_n 1, 1, (0, 0, 0), 0, 0)), (9, (.iadd, 1, (0, 0, 0), 0, 0)), (10, (.ireturn, 1, (0, 0, 0), 0, 0))]]
set_option maxRecDepth 10000 in
def zp220 : List (List (Nat × ZI)) := [[(0, (.aload_n 0, 1, (0, 0, 0), 0, 0)), (1, (.getfield 13, 3, (12, 1, 0), 0, 1614)), (4, (.iload_n 1, 1, (0, 0, 0), 0, 0)), (5, (.iload_n 2, 1, (0, 0, 0), 0, 0)), (6, (.invokestatic 52, 3, (0, 218, 0), 0, 1759)), (9, (.iaload, 1, (0, 0, 0), 0, 0)), (10, (.ireturn, 1, (0, 0, 0), 0, 0))]]
set_option maxRecDepth 10000 in
def zp221 : List (List (Nat × ZI)) := [[(0, (.aload_n 0, 1, (0, 0, 0), 0, 0)), (1, (.getfield 13, 3, (12, 1, 0), 0, 1614)), (4, (.iload_n 1, 1, (0, 0, 0), 0, 0)), (5, (.iload_n 2, 1, (0, 0, 0), 0, 0)), (6, (.invokestatic 56, 3, (0, 219, 0), 0, 1784)), (9, (.iaload, 1, (0, 0, 0), 0, 0)), (10, (.ireturn, 1, (0, 0, 0), 0, 0))]]
set_option maxRecDepth 10000 in
def zp222 : List (List (Nat × ZI)) := [[(0, (.aload_n 0, 1, (0, 0, 0), 0, 0)), (1, (.getfield 13, 3, (12, 1, 0), 0, 1614)), (4, (.iload_n 1, 1, (0, 0, 0), 0, 0)), (5, (.iload_n 2, 1, (0, 0, 0), 0, 0)), (6, (.invokestatic 56, 3, (0, 219, 0), 0, 1784)), (9, (.iload_n 3, 1, (0, 0, 0), 0, 0)), (10, (.iastore, 1, (0, 0, 0), 0, 0)), (11, (.return_, 1, (0, 0, 0), 0, 0))]]
set_option maxRecDepth 10000 in
def zp223 : List (List (Nat × ZI)) := [[(0, (.aload_n 0, 1, (0, 0, 0), 0, 0)), (1, (.iload_n 1, 1, (0, 0, 0), 0, 0)), (2, (.iconst 4, 1, (0, 0, 0), 4, 0)), (3, (.aload_n 0, 1, (0, 0, 0), 0, 0)), (4, (.iload_n 1, 1, (0, 0, 0), 0, 0)), (5, (.iconst 0, 1, (0, 0, 0), 0, 0)), (6, (.invokevirtual 59, 3, (0, 221, 0), 0, 1787)), (9, (.iadd, 1, (0, 0, 0), 0, 0)), (10, (.invokevirtual 59, 3, (0, 221, 0), 0, 1787)), (13, (.ireturn, 1, (0, 0, 0), 0, 0))]]
set_option maxRecDepth 10000 in
def zp224 : List (List (Nat × ZI)) := [[(0, (.iconst 0, 1, (0, 0, 0), 0, 0)), (1, (.istore_n 2, 1, (0, 0, 0), 0, 0)), (2, (.iconst 0, 1, (0, 0, 0), 0, 0)), (3, (.istore_n 3, 1, (0, 0, 0), 0, 0)), (4, (.iload_n 3, 1, (0, 0, 0), 0, 0)), (5, (.bipush 8, 2, (0, 0, 0), 8, 0)), (7, (.if_icmp .ge 20, 3, (27, 0, 0), 0, 0)), (10, (.iload_n 2, 1, (0, 0, 0), 0, 0)), (11, (.aload_n 0, 1, (0, 0, 0), 0, 0)), (12, (.getfield 13, 3, (12, 1, 0), 0, 1614)), (15, (.iload_n 1, 1, (0, 0, 0), 0, 0)), (16, (.iload_n 3, 1, (0, 0, 0), 0, 0)), (17, (.iadd, 1, (0, 0, 0), 0, 0)), (18, (.iaload, 1, (0, 0, 0), 0, 0)), (19, (.iadd, 1, (0, 0, 0), 0, 0)), (20, (.istore_n 2, 1, (0, 0, 0), 0, 0)), (21, (.iinc 3 1, 3, (0, 0, 0), 1, 0)), (24, (.goto (-20), 3, (4, 0, 0), 0, 0)), (27, (.iload_n 2, 1, (0, 0, 0), 0, 0)), (28, (.ireturn, 1, (0, 0, 0), 0, 0))]]
set_option maxRecDepth 10000 in
def zp225 : List (List (Nat × ZI)) := [[(0, (.aload_n 0, 1, (0, 0, 0), 0, 0)), (1, (.iload_n 1, 1, (0, 0, 0), 0, 0)), (2, (.iconst 3, 1, (0, 0, 0), 3, 0)), (3, (.invokestatic 52, 3, (0, 218, 0), 0, 1759)), (6, (.invokevirtual 62, 3, (0, 224, 0), 0, 1808)), (9, (.ireturn, 1, (0, 0, 0), 0, 0))]]
set_option maxRecDepth 10000 in
def zp226 : List (List (Nat × ZI)) := [[(0, (.aload_n 0, 1, (0, 0, 0), 0, 0)), (1, (.iload_n 1, 1, (0, 0, 0), 0, 0)), (2, (.bipush 16, 2, (0, 0, 0), 16, 0)), (4, (.invokestatic 56, 3, (0, 219, 0), 0, 1784)), (7, (.invokevirtual 62, 3, (0, 224, 0), 0, 1808)), (10, (.ireturn, 1, (0, 0, 0), 0, 0))]]
set_option maxRecDepth 10000 in
def zp227 : List (List (Nat × ZI)) := [[(0, (.iload_n 1, 1, (0, 0, 0), 0, 0)), (1, (.iconst 0, 1, (0, 0, 0), 0, 0)), (2, (.aload_n 0, 1, (0, 0, 0), 0, 0)), (3, (.invokevirtual 66, 3, (0, 216, 0), 0, 1738)), (6, (.iconst 1, 1, (0, 0, 0), 1, 0)), (7, (.isub, 1, (0, 0, 0), 0, 0)), (8, (.invokestatic 70, 3, (0, 209, 0), 0, 1898)), (11, (.ifCond .ne 7, 3, (18, 0, 0), 0, 0)), (14, (.iconst 1, 1, (0, 0, 0), 1, 0)), (15, (.goto 4, 3, (19, 0, 0), 0, 0)), (18, (.iconst 0, 1, (0, 0, 0), 0, 0)), (19, (.ireturn, 1, (0, 0, 0), 0, 0))]]
set_option maxRecDepth 10000 in
def zp228 : List (List (Nat × ZI)) := [[(0, (.iload_n 1, 1, (0, 0, 0), 0, 0)), (1, (.iconst 0, 1, (0, 0, 0), 0, 0)), (2, (.aload_n 0, 1, (0, 0, 0), 0, 0)), (3, (.invokevirtual 74, 3, (0, 217, 0), 0, 1776)), (6, (.iconst 1, 1, (0, 0, 0), 1, 0)), (7, (.isub, 1, (0, 0, 0), 0, 0)), (8, (.invokestatic 70, 3, (0, 209, 0), 0, 1898)), (11, (.ifCond .ne 7, 3, (18, 0, 0), 0, 0)), (14, (.iconst 1, 1, (0, 0, 0), 1, 0)), (15, (.goto 4, 3, (19, 0, 0), 0, 0)), (18, (.iconst 0, 1, (0, 0, 0), 0, 0)), (19, (.ireturn, 1, (0, 0, 0), 0, 0))]]
set_option maxRecDepth 10000 in
def zp229 : List (List (Nat × ZI)) := [[(0, (.aload_n 0, 1, (0, 0, 0), 0, 0)), (1, (.iload_n 1, 1, (0, 0, 0), 0, 0)), (2, (.iconst 0, 1, (0, 0, 0), 0, 0)), (3, (.invokevirtual 77, 3, (0, 220, 0), 0, 1901)), (6, (.ifCond .eq 7, 3, (13, 0, 0), 0, 0)), (9, (.iconst 1, 1, (0, 0, 0), 1, 0)), (10, (.goto 4, 3, (14, 0, 0), 0, 0)), (13, (.iconst 0, 1, (0, 0, 0), 0, 0)), (14, (.ireturn, 1, (0, 0, 0), 0, 0))]]
set_option maxRecDepth 10000 in
def zp230 : List (List (Nat × ZI)) := [[(0, (.iconst 0, 1, (0, 0, 0), 0, 0)), (1, (.istore_n 3, 1, (0, 0, 0), 0, 0)), (2, (.iconst 0, 1, (0, 0, 0), 0, 0)), (3, (.istore 4, 2, (0, 0, 0), 0, 0)), (5, (.iload 4, 2, (0, 0, 0), 0, 0)), (7, (.aload_n 0, 1, (0, 0, 0), 0, 0)), (8, (.getfield 13, 3, (12, 1, 0), 0, 1614)), (11, (.iconst 1, 1, (0, 0, 0), 1, 0)), (12, (.iaload, 1, (0, 0, 0), 0, 0)), (13, (.if_icmp .ge 75, 3, (88, 0, 0), 0, 0)), (16, (.aload_n 0, 1, (0, 0, 0), 0, 0)), (17, (.getfield 13, 3, (12, 1, 0), 0, 1614)), (20, (.sipush 145, 3, (0, 0, 0), 145, 0)), (23, (.iconst 2, 1, (0, 0, 0), 2, 0)), (24, (.iload 4, 2, (0, 0, 0), 0, 0)), (26, (.imul, 1, (0, 0, 0), 0, 0)), (27, (.iadd, 1, (0, 0, 0), 0, 0)), (28, (.iaload, 1, (0, 0, 0), 0, 0)), (29, (.istore 5, 2, (0, 0, 0), 0, 0)), (31, (.aload_n 0, 1, (0, 0, 0), 0, 0))],
  [(32, (.getfield 13, 3, (12, 1, 0), 0, 1614)), (35, (.sipush 145, 3, (0, 0, 0), 145, 0)), (38, (.iconst 2, 1, (0, 0, 0), 2, 0)), (39, (.iload 4, 2, (0, 0, 0), 0, 0)), (41, (.imul, 1, (0, 0, 0), 0, 0)), (42, (.iadd, 1, (0, 0, 0), 0, 0)), (43, (.iconst 1, 1, (0, 0, 0), 1, 0)), (44, (.iadd, 1, (0, 0, 0), 0, 0)), (45, (.iaload, 1, (0, 0, 0), 0, 0)), (46, (.istore 6, 2, (0, 0, 0), 0, 0)), (48, (.iload_n 3, 1, (0, 0, 0), 0, 0)), (49, (.ifCond .ne 27, 3, (76, 0, 0), 0, 0)), (52, (.iload 5, 2, (0, 0, 0), 0, 0)), (54, (.iload_n 1, 1, (0, 0, 0), 0, 0)), (55, (.if_icmp .ne 9, 3, (64, 0, 0), 0, 0)), (58, (.iload 6, 2, (0, 0, 0), 0, 0)), (60, (.iload_n 2, 1, (0, 0, 0), 0, 0)), (61, (.if_icmp .eq 15, 3, (76, 0, 0), 0, 0))],
  [(64, (.iload 5, 2, (0, 0, 0), 0, 0)), (66, (.iload_n 2, 1, (0, 0, 0), 0, 0)), (67, (.if_icmp .ne 13, 3, (80, 0, 0), 0, 0)), (70, (.iload 6, 2, (0, 0, 0), 0, 0)), (72, (.iload_n 1, 1, (0, 0, 0), 0, 0)), (73, (.if_icmp .ne 7, 3, (80, 0, 0), 0, 0)), (76, (.iconst 1, 1, (0, 0, 0), 1, 0)), (77, (.goto 4, 3, (81, 0, 0), 0, 0)), (80, (.iconst 0, 1, (0, 0, 0), 0, 0)), (81, (.istore_n 3, 1, (0, 0, 0), 0, 0)), (82, (.iinc 4 1, 3, (0, 0, 0), 1, 0)), (85, (.goto (-80), 3, (5, 0, 0), 0, 0)), (88, (.iload_n 3, 1, (0, 0, 0), 0, 0)), (89, (.ireturn, 1, (0, 0, 0), 0, 0))]]
set_option maxRecDepth 10000 in
def zp231 : List (List (Nat × ZI)) := [[(0, (.aload_n 0, 1, (0, 0, 0), 0, 0)), (1, (.getfield 13, 3, (12, 1, 0), 0, 1614)), (4, (.bipush 12, 2, (0, 0, 0), 12, 0)), (6, (.ldc 80, 2, (0, 0, 0), 1103515245, 1981)), (8, (.aload_n 0, 1, (0, 0, 0), 0, 0)), (9, (.getfield 13, 3, (12, 1, 0), 0, 1614)), (12, (.bipush 12, 2, (0, 0, 0), 12, 0)), (14, (.iaload, 1, (0, 0, 0), 0, 0)), (15, (.imul, 1, (0, 0, 0), 0, 0)), (16, (.sipush 12345, 3, (0, 0, 0), 12345, 0)), (19, (.iadd, 1, (0, 0, 0), 0, 0)), (20, (.iastore, 1, (0, 0, 0), 0, 0)), (21, (.aload_n 0, 1, (0, 0, 0), 0, 0)), (22, (.getfield 13, 3, (12, 1, 0), 0, 1614)), (25, (.bipush 12, 2, (0, 0, 0), 12, 0)), (27, (.iaload, 1, (0, 0, 0), 0, 0)), (28, (.bipush 16, 2, (0, 0, 0), 16, 0)), (30, (.ishr, 1, (0, 0, 0), 0, 0)), (31, (.sipush 32767, 3, (0, 0, 0), 32767, 0))],
  [(34, (.iand, 1, (0, 0, 0), 0, 0)), (35, (.iload_n 1, 1, (0, 0, 0), 0, 0)), (36, (.irem, 1, (0, 0, 0), 0, 0)), (37, (.ireturn, 1, (0, 0, 0), 0, 0))]]
set_option maxRecDepth 10000 in
def zp232 : List (List (Nat × ZI)) := [[(0, (.aload_n 0, 1, (0, 0, 0), 0, 0)), (1, (.iconst 0, 1, (0, 0, 0), 0, 0)), (2, (.putfield 3, 3, (12, 0, 0), 0, 1613)), (5, (.aload_n 0, 1, (0, 0, 0), 0, 0)), (6, (.getfield 81, 3, (12, 9, 0), 0, 1622)), (9, (.bipush 20, 2, (0, 0, 0), 20, 0)), (11, (.iadd, 1, (0, 0, 0), 0, 0)), (12, (.sipush 400, 3, (0, 0, 0), 400, 0)), (15, (.if_icmp .le 5, 3, (20, 0, 0), 0, 0)), (18, (.iconst (-1), 1, (0, 0, 0), (-1), 0)), (19, (.ireturn, 1, (0, 0, 0), 0, 0)), (20, (.aload_n 0, 1, (0, 0, 0), 0, 0)), (21, (.getfield 36, 3, (12, 15, 0), 0, 1628)), (24, (.iconst 0, 1, (0, 0, 0), 0, 0)), (25, (.iload_n 1, 1, (0, 0, 0), 0, 0)), (26, (.iastore, 1, (0, 0, 0), 0, 0)), (27, (.aload_n 0, 1, (0, 0, 0), 0, 0)), (28, (.getfield 36, 3, (12, 15, 0), 0, 1628)), (31, (.iconst 1, 1, (0, 0, 0), 1, 0))],
  [(32, (.iload_n 2, 1, (0, 0, 0), 0, 0)), (33, (.iastore, 1, (0, 0, 0), 0, 0)), (34, (.aload_n 0, 1, (0, 0, 0), 0, 0)), (35, (.getfield 36, 3, (12, 15, 0), 0, 1628)), (38, (.iconst 2, 1, (0, 0, 0), 2, 0)), (39, (.iload_n 3, 1, (0, 0, 0), 0, 0)), (40, (.iastore, 1, (0, 0, 0), 0, 0)), (41, (.aload_n 0, 1, (0, 0, 0), 0, 0)), (42, (.getfield 36, 3, (12, 15, 0), 0, 1628)), (45, (.iconst 3, 1, (0, 0, 0), 3, 0)), (46, (.iload 4, 2, (0, 0, 0), 0, 0)), (48, (.iastore, 1, (0, 0, 0), 0, 0)), (49, (.aload_n 0, 1, (0, 0, 0), 0, 0)), (50, (.getfield 36, 3, (12, 15, 0), 0, 1628)), (53, (.iconst 4, 1, (0, 0, 0), 4, 0)), (54, (.iload 5, 2, (0, 0, 0), 0, 0)), (56, (.iastore, 1, (0, 0, 0), 0, 0)), (57, (.iconst 0, 1, (0, 0, 0), 0, 0)), (58, (.istore 6, 2, (0, 0, 0), 0, 0)), (60, (.iload 6, 2, (0, 0, 0), 0, 0)), (62, (.bipush 20, 2, (0, 0, 0), 20, 0))],
  [(64, (.if_icmp .ge 42, 3, (106, 0, 0), 0, 0)), (67, (.aload_n 0, 1, (0, 0, 0), 0, 0)), (68, (.getfield 29, 3, (12, 8, 0), 0, 1621)), (71, (.aload_n 0, 1, (0, 0, 0), 0, 0)), (72, (.getfield 81, 3, (12, 9, 0), 0, 1622)), (75, (.iload 6, 2, (0, 0, 0), 0, 0)), (77, (.iadd, 1, (0, 0, 0), 0, 0)), (78, (.aload_n 0, 1, (0, 0, 0), 0, 0)), (79, (.getfield 36, 3, (12, 15, 0), 0, 1628)), (82, (.iload 6, 2, (0, 0, 0), 0, 0)), (84, (.iconst 4, 1, (0, 0, 0), 4, 0)), (85, (.idiv, 1, (0, 0, 0), 0, 0)), (86, (.iaload, 1, (0, 0, 0), 0, 0)), (87, (.bipush 24, 2, (0, 0, 0), 24, 0)), (89, (.bipush 8, 2, (0, 0, 0), 8, 0)), (91, (.iload 6, 2, (0, 0, 0), 0, 0)), (93, (.iconst 4, 1, (0, 0, 0), 4, 0)), (94, (.irem, 1, (0, 0, 0), 0, 0)), (95, (.imul, 1, (0, 0, 0), 0, 0))],
  [(96, (.isub, 1, (0, 0, 0), 0, 0)), (97, (.ishr, 1, (0, 0, 0), 0, 0)), (98, (.i2b, 1, (0, 0, 0), 0, 0)), (99, (.bastore, 1, (0, 0, 0), 0, 0)), (100, (.iinc 6 1, 3, (0, 0, 0), 1, 0)), (103, (.goto (-43), 3, (60, 0, 0), 0, 0)), (106, (.aload_n 0, 1, (0, 0, 0), 0, 0)), (107, (.dup, 1, (0, 0, 0), 0, 0)), (108, (.getfield 81, 3, (12, 9, 0), 0, 1622)), (111, (.bipush 20, 2, (0, 0, 0), 20, 0)), (113, (.iadd, 1, (0, 0, 0), 0, 0)), (114, (.putfield 81, 3, (12, 9, 0), 0, 1622)), (117, (.aload_n 0, 1, (0, 0, 0), 0, 0)), (118, (.getfield 81, 3, (12, 9, 0), 0, 1622)), (121, (.ireturn, 1, (0, 0, 0), 0, 0))]]
set_option maxRecDepth 10000 in
def zp233 : List (List (Nat × ZI)) := [[(0, (.aload_n 0, 1, (0, 0, 0), 0, 0)), (1, (.iconst 0, 1, (0, 0, 0), 0, 0)), (2, (.putfield 3, 3, (12, 0, 0), 0, 1613)), (5, (.iload_n 1, 1, (0, 0, 0), 0, 0)), (6, (.ifCond .lt 11, 3, (17, 0, 0), 0, 0)), (9, (.iload_n 1, 1, (0, 0, 0), 0, 0)), (10, (.aload_n 0, 1, (0, 0, 0), 0, 0)), (11, (.getfield 81, 3, (12, 9, 0), 0, 1622)), (14, (.if_icmp .le 5, 3, (19, 0, 0), 0, 0)), (17, (.iconst 0, 1, (0, 0, 0), 0, 0)), (18, (.ireturn, 1, (0, 0, 0), 0, 0)), (19, (.aload_n 0, 1, (0, 0, 0), 0, 0)), (20, (.iload_n 1, 1, (0, 0, 0), 0, 0)), (21, (.putfield 81, 3, (12, 9, 0), 0, 1622)), (24, (.iconst 1, 1, (0, 0, 0), 1, 0)), (25, (.ireturn, 1, (0, 0, 0), 0, 0))]]
set_option maxRecDepth 10000 in
def zp234 : List (List (Nat × ZI)) := [[(0, (.aload_n 0, 1, (0, 0, 0), 0, 0)), (1, (.getfield 84, 3, (12, 10, 0), 0, 1623)), (4, (.aload_n 0, 1, (0, 0, 0), 0, 0)), (5, (.getfield 87, 3, (12, 11, 0), 0, 1624)), (8, (.if_icmp .ge 33, 3, (41, 0, 0), 0, 0)), (11, (.aload_n 0, 1, (0, 0, 0), 0, 0)), (12, (.getfield 29, 3, (12, 8, 0), 0, 1621)), (15, (.aload_n 0, 1, (0, 0, 0), 0, 0)), (16, (.getfield 84, 3, (12, 10, 0), 0, 1623)), (19, (.baload, 1, (0, 0, 0), 0, 0)), (20, (.iload_n 1, 1, (0, 0, 0), 0, 0)), (21, (.if_icmp .lt 20, 3, (41, 0, 0), 0, 0)), (24, (.aload_n 0, 1, (0, 0, 0), 0, 0)), (25, (.getfield 29, 3, (12, 8, 0), 0, 1621)), (28, (.aload_n 0, 1, (0, 0, 0), 0, 0)), (29, (.getfield 84, 3, (12, 10, 0), 0, 1623))],
  [(32, (.baload, 1, (0, 0, 0), 0, 0)), (33, (.iload_n 2, 1, (0, 0, 0), 0, 0)), (34, (.if_icmp .gt 7, 3, (41, 0, 0), 0, 0)), (37, (.iconst 1, 1, (0, 0, 0), 1, 0)), (38, (.goto 4, 3, (42, 0, 0), 0, 0)), (41, (.iconst 0, 1, (0, 0, 0), 0, 0)), (42, (.ireturn, 1, (0, 0, 0), 0, 0))]]
set_option maxRecDepth 10000 in
def zp235 : List (List (Nat × ZI)) := [[(0, (.aload_n 0, 1, (0, 0, 0), 0, 0)), (1, (.bipush 32, 2, (0, 0, 0), 32, 0)), (3, (.bipush 32, 2, (0, 0, 0), 32, 0)), (5, (.invokevirtual 90, 3, (0, 234, 0), 0, 1711)), (8, (.ifCond .eq 16, 3, (24, 0, 0), 0, 0)), (11, (.aload_n 0, 1, (0, 0, 0), 0, 0)), (12, (.dup, 1, (0, 0, 0), 0, 0)), (13, (.getfield 84, 3, (12, 10, 0), 0, 1623)), (16, (.iconst 1, 1, (0, 0, 0), 1, 0)), (17, (.iadd, 1, (0, 0, 0), 0, 0)), (18, (.putfield 84, 3, (12, 10, 0), 0, 1623)), (21, (.goto (-21), 3, (0, 0, 0), 0, 0)), (24, (.aload_n 0, 1, (0, 0, 0), 0, 0)), (25, (.aload_n 0, 1, (0, 0, 0), 0, 0)), (26, (.getfield 84, 3, (12, 10, 0), 0, 1623)), (29, (.putfield 94, 3, (12, 12, 0), 0, 1625))],
  [(32, (.return_, 1, (0, 0, 0), 0, 0))]]
set_option maxRecDepth 10000 in
def zp236 : List (List (Nat × ZI)) := [[(0, (.aload_n 0, 1, (0, 0, 0), 0, 0)), (1, (.invokevirtual 97, 3, (0, 235, 0), 0, 1707)), (4, (.aload_n 0, 1, (0, 0, 0), 0, 0)), (5, (.bipush 97, 2, (0, 0, 0), 97, 0)), (7, (.bipush 122, 2, (0, 0, 0), 122, 0)), (9, (.invokevirtual 90, 3, (0, 234, 0), 0, 1711)), (12, (.ifCond .eq 16, 3, (28, 0, 0), 0, 0)), (15, (.aload_n 0, 1, (0, 0, 0), 0, 0)), (16, (.dup, 1, (0, 0, 0), 0, 0)), (17, (.getfield 84, 3, (12, 10, 0), 0, 1623)), (20, (.iconst 1, 1, (0, 0, 0), 1, 0)), (21, (.iadd, 1, (0, 0, 0), 0, 0)), (22, (.putfield 84, 3, (12, 10, 0), 0, 1623)), (25, (.goto (-21), 3, (4, 0, 0), 0, 0)), (28, (.return_, 1, (0, 0, 0), 0, 0))]]
set_option maxRecDepth 10000 in
def zp237 : List (List (Nat × ZI)) := [[(0, (.aload_n 0, 1, (0, 0, 0), 0, 0)), (1, (.getfield 84, 3, (12, 10, 0), 0, 1623)), (4, (.aload_n 0, 1, (0, 0, 0), 0, 0)), (5, (.getfield 94, 3, (12, 12, 0), 0, 1625)), (8, (.isub, 1, (0, 0, 0), 0, 0)), (9, (.aload_n 1, 1, (0, 0, 0), 0, 0)), (10, (.invokevirtual 100, 3, (4, 0, 0), 0, 1732)), (13, (.if_icmp .ne 7, 3, (20, 0, 0), 0, 0)), (16, (.iconst 1, 1, (0, 0, 0), 1, 0)), (17, (.goto 4, 3, (21, 0, 0), 0, 0)), (20, (.iconst 0, 1, (0, 0, 0), 0, 0)), (21, (.istore_n 2, 1, (0, 0, 0), 0, 0)), (22, (.iconst 0, 1, (0, 0, 0), 0, 0)), (23, (.istore_n 3, 1, (0, 0, 0), 0, 0)), (24, (.iload_n 2, 1, (0, 0, 0), 0, 0)), (25, (.ifCond .eq 42, 3, (67, 0, 0), 0, 0)), (28, (.iload_n 3, 1, (0, 0, 0), 0, 0)), (29, (.aload_n 1, 1, (0, 0, 0), 0, 0)), (30, (.invokevirtual 100, 3, (4, 0, 0), 0, 1732))],
  [(33, (.if_icmp .ge 34, 3, (67, 0, 0), 0, 0)), (36, (.aload_n 0, 1, (0, 0, 0), 0, 0)), (37, (.getfield 29, 3, (12, 8, 0), 0, 1621)), (40, (.aload_n 0, 1, (0, 0, 0), 0, 0)), (41, (.getfield 94, 3, (12, 12, 0), 0, 1625)), (44, (.iload_n 3, 1, (0, 0, 0), 0, 0)), (45, (.iadd, 1, (0, 0, 0), 0, 0)), (46, (.baload, 1, (0, 0, 0), 0, 0)), (47, (.aload_n 1, 1, (0, 0, 0), 0, 0)), (48, (.iload_n 3, 1, (0, 0, 0), 0, 0)), (49, (.invokevirtual 105, 3, (5, 0, 0), 0, 1733)), (52, (.if_icmp .ne 7, 3, (59, 0, 0), 0, 0)), (55, (.iconst 1, 1, (0, 0, 0), 1, 0)), (56, (.goto 4, 3, (60, 0, 0), 0, 0)), (59, (.iconst 0, 1, (0, 0, 0), 0, 0)), (60, (.istore_n 2, 1, (0, 0, 0), 0, 0)), (61, (.iinc 3 1, 3, (0, 0, 0), 1, 0))],
  [(64, (.goto (-40), 3, (24, 0, 0), 0, 0)), (67, (.iload_n 2, 1, (0, 0, 0), 0, 0)), (68, (.ireturn, 1, (0, 0, 0), 0, 0))]]
set_option maxRecDepth 10000 in
def zp238 : List (List (Nat × ZI)) := [[(0, (.aload_n 0, 1, (0, 0, 0), 0, 0)), (1, (.invokevirtual 109, 3, (0, 236, 0), 0, 1719)), (4, (.aload_n 0, 1, (0, 0, 0), 0, 0)), (5, (.aload_n 1, 1, (0, 0, 0), 0, 0)), (6, (.invokevirtual 112, 3, (0, 237, 0), 0, 1728)), (9, (.ifCond .eq 5, 3, (14, 0, 0), 0, 0)), (12, (.iconst 1, 1, (0, 0, 0), 1, 0)), (13, (.ireturn, 1, (0, 0, 0), 0, 0)), (14, (.aload_n 0, 1, (0, 0, 0), 0, 0)), (15, (.aload_n 0, 1, (0, 0, 0), 0, 0)), (16, (.getfield 94, 3, (12, 12, 0), 0, 1625)), (19, (.putfield 84, 3, (12, 10, 0), 0, 1623)), (22, (.iconst 0, 1, (0, 0, 0), 0, 0)), (23, (.ireturn, 1, (0, 0, 0), 0, 0))]]
set_option maxRecDepth 10000 in
def zp239 : List (List (Nat × ZI)) := [[(0, (.aload_n 0, 1, (0, 0, 0), 0, 0)), (1, (.invokevirtual 97, 3, (0, 235, 0), 0, 1707)), (4, (.aload_n 0, 1, (0, 0, 0), 0, 0)), (5, (.iload_n 1, 1, (0, 0, 0), 0, 0)), (6, (.iload_n 1, 1, (0, 0, 0), 0, 0)), (7, (.invokevirtual 90, 3, (0, 234, 0), 0, 1711)), (10, (.ifCond .ne 5, 3, (15, 0, 0), 0, 0)), (13, (.iconst 0, 1, (0, 0, 0), 0, 0)), (14, (.ireturn, 1, (0, 0, 0), 0, 0)), (15, (.aload_n 0, 1, (0, 0, 0), 0, 0)), (16, (.dup, 1, (0, 0, 0), 0, 0)), (17, (.getfield 84, 3, (12, 10, 0), 0, 1623)), (20, (.iconst 1, 1, (0, 0, 0), 1, 0)), (21, (.iadd, 1, (0, 0, 0), 0, 0)), (22, (.putfield 84, 3, (12, 10, 0), 0, 1623)), (25, (.iconst 1, 1, (0, 0, 0), 1, 0)), (26, (.ireturn, 1, (0, 0, 0), 0, 0))]]
set_option maxRecDepth 10000 in
def zp240 : List (List (Nat × ZI)) := [[(0, (.aload_n 0, 1, (0, 0, 0), 0, 0)), (1, (.invokevirtual 97, 3, (0, 235, 0), 0, 1707)), (4, (.iconst 0, 1, (0, 0, 0), 0, 0)), (5, (.istore 4, 2, (0, 0, 0), 0, 0)), (7, (.aload_n 0, 1, (0, 0, 0), 0, 0)), (8, (.bipush 48, 2, (0, 0, 0), 48, 0)), (10, (.bipush 57, 2, (0, 0, 0), 57, 0)), (12, (.invokevirtual 90, 3, (0, 234, 0), 0, 1711)), (15, (.ifCond .eq 54, 3, (69, 0, 0), 0, 0)), (18, (.aload_n 0, 1, (0, 0, 0), 0, 0)), (19, (.getfield 84, 3, (12, 10, 0), 0, 1623)), (22, (.aload_n 0, 1, (0, 0, 0), 0, 0)), (23, (.getfield 94, 3, (12, 12, 0), 0, 1625)), (26, (.isub, 1, (0, 0, 0), 0, 0)), (27, (.iload_n 3, 1, (0, 0, 0), 0, 0)), (28, (.if_icmp .ge 24, 3, (52, 0, 0), 0, 0)), (31, (.bipush 10, 2, (0, 0, 0), 10, 0))],
  [(33, (.iload 4, 2, (0, 0, 0), 0, 0)), (35, (.imul, 1, (0, 0, 0), 0, 0)), (36, (.aload_n 0, 1, (0, 0, 0), 0, 0)), (37, (.getfield 29, 3, (12, 8, 0), 0, 1621)), (40, (.aload_n 0, 1, (0, 0, 0), 0, 0)), (41, (.getfield 84, 3, (12, 10, 0), 0, 1623)), (44, (.baload, 1, (0, 0, 0), 0, 0)), (45, (.iadd, 1, (0, 0, 0), 0, 0)), (46, (.bipush 48, 2, (0, 0, 0), 48, 0)), (48, (.isub, 1, (0, 0, 0), 0, 0)), (49, (.goto 5, 3, (54, 0, 0), 0, 0)), (52, (.iload 4, 2, (0, 0, 0), 0, 0)), (54, (.istore 4, 2, (0, 0, 0), 0, 0)), (56, (.aload_n 0, 1, (0, 0, 0), 0, 0)), (57, (.dup, 1, (0, 0, 0), 0, 0)), (58, (.getfield 84, 3, (12, 10, 0), 0, 1623)), (61, (.iconst 1, 1, (0, 0, 0), 1, 0)), (62, (.iadd, 1, (0, 0, 0), 0, 0)), (63, (.putfield 84, 3, (12, 10, 0), 0, 1623))],
  [(66, (.goto (-59), 3, (7, 0, 0), 0, 0)), (69, (.aload_n 0, 1, (0, 0, 0), 0, 0)), (70, (.getfield 84, 3, (12, 10, 0), 0, 1623)), (73, (.aload_n 0, 1, (0, 0, 0), 0, 0)), (74, (.getfield 94, 3, (12, 12, 0), 0, 1625)), (77, (.if_icmp .eq 28, 3, (105, 0, 0), 0, 0)), (80, (.aload_n 0, 1, (0, 0, 0), 0, 0)), (81, (.getfield 84, 3, (12, 10, 0), 0, 1623)), (84, (.aload_n 0, 1, (0, 0, 0), 0, 0)), (85, (.getfield 94, 3, (12, 12, 0), 0, 1625)), (88, (.isub, 1, (0, 0, 0), 0, 0)), (89, (.iload_n 3, 1, (0, 0, 0), 0, 0)), (90, (.if_icmp .gt 15, 3, (105, 0, 0), 0, 0)), (93, (.iload 4, 2, (0, 0, 0), 0, 0)), (95, (.iload_n 1, 1, (0, 0, 0), 0, 0))],
  [(96, (.if_icmp .lt 9, 3, (105, 0, 0), 0, 0)), (99, (.iload 4, 2, (0, 0, 0), 0, 0)), (101, (.iload_n 2, 1, (0, 0, 0), 0, 0)), (102, (.if_icmp .le 7, 3, (109, 0, 0), 0, 0)), (105, (.iconst (-1), 1, (0, 0, 0), (-1), 0)), (106, (.goto 5, 3, (111, 0, 0), 0, 0)), (109, (.iload 4, 2, (0, 0, 0), 0, 0)), (111, (.ireturn, 1, (0, 0, 0), 0, 0))]]
set_option maxRecDepth 10000 in
def zp241 : List (List (Nat × ZI)) := [[(0, (.aload_n 0, 1, (0, 0, 0), 0, 0)), (1, (.iload_n 1, 1, (0, 0, 0), 0, 0)), (2, (.iload_n 2, 1, (0, 0, 0), 0, 0)), (3, (.iconst 5, 1, (0, 0, 0), 5, 0)), (4, (.invokevirtual 116, 3, (0, 240, 0), 0, 1755)), (7, (.ireturn, 1, (0, 0, 0), 0, 0))]]
set_option maxRecDepth 10000 in
def zp242 : List (List (Nat × ZI)) := [[(0, (.aload_n 0, 1, (0, 0, 0), 0, 0)), (1, (.ldc 120, 2, (1, 24, 0), 0, 1746)), (3, (.invokevirtual 112, 3, (0, 237, 0), 0, 1728)), (6, (.ifCond .eq 7, 3, (13, 0, 0), 0, 0)), (9, (.iconst 0, 1, (0, 0, 0), 0, 0)), (10, (.goto 56, 3, (66, 0, 0), 0, 0)), (13, (.aload_n 0, 1, (0, 0, 0), 0, 0)), (14, (.ldc 122, 2, (1, 25, 0), 0, 1747)), (16, (.invokevirtual 112, 3, (0, 237, 0), 0, 1728)), (19, (.ifCond .eq 7, 3, (26, 0, 0), 0, 0)), (22, (.iconst 1, 1, (0, 0, 0), 1, 0)), (23, (.goto 43, 3, (66, 0, 0), 0, 0)), (26, (.aload_n 0, 1, (0, 0, 0), 0, 0)), (27, (.ldc 124, 2, (1, 26, 0), 0, 1748)), (29, (.invokevirtual 112, 3, (0, 237, 0), 0, 1728))],
  [(32, (.ifCond .eq 7, 3, (39, 0, 0), 0, 0)), (35, (.iconst 2, 1, (0, 0, 0), 2, 0)), (36, (.goto 30, 3, (66, 0, 0), 0, 0)), (39, (.aload_n 0, 1, (0, 0, 0), 0, 0)), (40, (.ldc 126, 2, (1, 27, 0), 0, 1749)), (42, (.invokevirtual 112, 3, (0, 237, 0), 0, 1728)), (45, (.ifCond .eq 7, 3, (52, 0, 0), 0, 0)), (48, (.iconst 3, 1, (0, 0, 0), 3, 0)), (49, (.goto 17, 3, (66, 0, 0), 0, 0)), (52, (.aload_n 0, 1, (0, 0, 0), 0, 0)), (53, (.ldc 128, 2, (1, 28, 0), 0, 1750)), (55, (.invokevirtual 112, 3, (0, 237, 0), 0, 1728)), (58, (.ifCond .eq 7, 3, (65, 0, 0), 0, 0)), (61, (.iconst 4, 1, (0, 0, 0), 4, 0)), (62, (.goto 4, 3, (66, 0, 0), 0, 0))],
  [(65, (.iconst (-1), 1, (0, 0, 0), (-1), 0)), (66, (.ireturn, 1, (0, 0, 0), 0, 0))]]
set_option maxRecDepth 10000 in
def zp243 : List (List (Nat × ZI)) := [[(0, (.aload_n 0, 1, (0, 0, 0), 0, 0)), (1, (.iconst 0, 1, (0, 0, 0), 0, 0)), (2, (.putfield 3, 3, (12, 0, 0), 0, 1613)), (5, (.aload_n 0, 1, (0, 0, 0), 0, 0)), (6, (.getfield 33, 3, (12, 14, 0), 0, 1627)), (9, (.ireturn, 1, (0, 0, 0), 0, 0))]]
set_option maxRecDepth 10000 in
def zp244 : List (List (Nat × ZI)) := [[(0, (.aload_n 0, 1, (0, 0, 0), 0, 0)), (1, (.iconst 0, 1, (0, 0, 0), 0, 0)), (2, (.putfield 3, 3, (12, 0, 0), 0, 1613)), (5, (.aload_n 0, 1, (0, 0, 0), 0, 0)), (6, (.aload_n 0, 1, (0, 0, 0), 0, 0)), (7, (.getfield 81, 3, (12, 9, 0), 0, 1622)), (10, (.putfield 87, 3, (12, 11, 0), 0, 1624)), (13, (.aload_n 0, 1, (0, 0, 0), 0, 0)), (14, (.iconst 0, 1, (0, 0, 0), 0, 0)), (15, (.putfield 81, 3, (12, 9, 0), 0, 1622)), (18, (.aload_n 0, 1, (0, 0, 0), 0, 0)), (19, (.iconst 0, 1, (0, 0, 0), 0, 0)), (20, (.putfield 84, 3, (12, 10, 0), 0, 1623)), (23, (.return_, 1, (0, 0, 0), 0, 0))]]
set_option maxRecDepth 10000 in
def zp245 : List (List (Nat × ZI)) := [[(0, (.aload_n 0, 1, (0, 0, 0), 0, 0)), (1, (.iconst 0, 1, (0, 0, 0), 0, 0)), (2, (.aload_n 0, 1, (0, 0, 0), 0, 0)), (3, (.invokevirtual 66, 3, (0, 216, 0), 0, 1738)), (6, (.iconst 1, 1, (0, 0, 0), 1, 0)), (7, (.isub, 1, (0, 0, 0), 0, 0)), (8, (.invokevirtual 130, 3, (0, 241, 0), 0, 1751)), (11, (.ireturn, 1, (0, 0, 0), 0, 0))]]
set_option maxRecDepth 10000 in
def zp246 : List (List (Nat × ZI)) := [[(0, (.aload_n 0, 1, (0, 0, 0), 0, 0)), (1, (.iconst 0, 1, (0, 0, 0), 0, 0)), (2, (.aload_n 0, 1, (0, 0, 0), 0, 0)), (3, (.invokevirtual 74, 3, (0, 217, 0), 0, 1776)), (6, (.iconst 1, 1, (0, 0, 0), 1, 0)), (7, (.isub, 1, (0, 0, 0), 0, 0)), (8, (.invokevirtual 130, 3, (0, 241, 0), 0, 1751)), (11, (.ireturn, 1, (0, 0, 0), 0, 0))]]
set_option maxRecDepth 10000 in
def zp247 : List (List (Nat × ZI)) := [[(0, (.aload_n 0, 1, (0, 0, 0), 0, 0)), (1, (.invokevirtual 66, 3, (0, 216, 0), 0, 1738)), (4, (.istore_n 1, 1, (0, 0, 0), 0, 0)), (5, (.iload_n 1, 1, (0, 0, 0), 0, 0)), (6, (.bipush 12, 2, (0, 0, 0), 12, 0)), (8, (.if_icmp .ne 5, 3, (13, 0, 0), 0, 0)), (11, (.iconst 0, 1, (0, 0, 0), 0, 0)), (12, (.ireturn, 1, (0, 0, 0), 0, 0)), (13, (.aload_n 0, 1, (0, 0, 0), 0, 0)), (14, (.invokevirtual 109, 3, (0, 236, 0), 0, 1719)), (17, (.aload_n 0, 1, (0, 0, 0), 0, 0)), (18, (.invokevirtual 133, 3, (0, 242, 0), 0, 1742)), (21, (.istore_n 2, 1, (0, 0, 0), 0, 0)), (22, (.iload_n 2, 1, (0, 0, 0), 0, 0)), (23, (.ifCond .ge 7, 3, (30, 0, 0), 0, 0)), (26, (.iconst (-1), 1, (0, 0, 0), (-1), 0)), (27, (.goto 10, 3, (37, 0, 0), 0, 0)), (30, (.aload_n 0, 1, (0, 0, 0), 0, 0)), (31, (.iconst 1, 1, (0, 0, 0), 1, 0))],
  [(32, (.bipush 99, 2, (0, 0, 0), 99, 0)), (34, (.invokevirtual 130, 3, (0, 241, 0), 0, 1751)), (37, (.istore_n 3, 1, (0, 0, 0), 0, 0)), (38, (.iload_n 3, 1, (0, 0, 0), 0, 0)), (39, (.ifCond .ge 5, 3, (44, 0, 0), 0, 0)), (42, (.iconst 0, 1, (0, 0, 0), 0, 0)), (43, (.ireturn, 1, (0, 0, 0), 0, 0)), (44, (.iconst 0, 1, (0, 0, 0), 0, 0)), (45, (.istore 4, 2, (0, 0, 0), 0, 0)), (47, (.iload 4, 2, (0, 0, 0), 0, 0)), (49, (.bipush 11, 2, (0, 0, 0), 11, 0)), (51, (.if_icmp .ge 21, 3, (72, 0, 0), 0, 0)), (54, (.aload_n 0, 1, (0, 0, 0), 0, 0)), (55, (.getfield 13, 3, (12, 1, 0), 0, 1614)), (58, (.iload_n 1, 1, (0, 0, 0), 0, 0)), (59, (.iload 4, 2, (0, 0, 0), 0, 0)), (61, (.invokestatic 52, 3, (0, 218, 0), 0, 1759))],
  [(64, (.iconst 0, 1, (0, 0, 0), 0, 0)), (65, (.iastore, 1, (0, 0, 0), 0, 0)), (66, (.iinc 4 1, 3, (0, 0, 0), 1, 0)), (69, (.goto (-22), 3, (47, 0, 0), 0, 0)), (72, (.aload_n 0, 1, (0, 0, 0), 0, 0)), (73, (.getfield 13, 3, (12, 1, 0), 0, 1614)), (76, (.iload_n 1, 1, (0, 0, 0), 0, 0)), (77, (.iconst 0, 1, (0, 0, 0), 0, 0)), (78, (.invokestatic 52, 3, (0, 218, 0), 0, 1759)), (81, (.iload_n 2, 1, (0, 0, 0), 0, 0)), (82, (.iastore, 1, (0, 0, 0), 0, 0)), (83, (.aload_n 0, 1, (0, 0, 0), 0, 0)), (84, (.getfield 13, 3, (12, 1, 0), 0, 1614)), (87, (.iload_n 1, 1, (0, 0, 0), 0, 0)), (88, (.iconst 1, 1, (0, 0, 0), 1, 0)), (89, (.invokestatic 52, 3, (0, 218, 0), 0, 1759)), (92, (.iload_n 3, 1, (0, 0, 0), 0, 0)), (93, (.iastore, 1, (0, 0, 0), 0, 0)), (94, (.aload_n 0, 1, (0, 0, 0), 0, 0)), (95, (.getfield 13, 3, (12, 1, 0), 0, 1614))],
  [(98, (.iconst 0, 1, (0, 0, 0), 0, 0)), (99, (.dup2, 1, (0, 0, 0), 0, 0)), (100, (.iaload, 1, (0, 0, 0), 0, 0)), (101, (.iconst 1, 1, (0, 0, 0), 1, 0)), (102, (.iadd, 1, (0, 0, 0), 0, 0)), (103, (.iastore, 1, (0, 0, 0), 0, 0)), (104, (.iconst 1, 1, (0, 0, 0), 1, 0)), (105, (.ireturn, 1, (0, 0, 0), 0, 0))]]
set_option maxRecDepth 10000 in
def zp248 : List (List (Nat × ZI)) := [[(0, (.aload_n 0, 1, (0, 0, 0), 0, 0)), (1, (.getfield 13, 3, (12, 1, 0), 0, 1614)), (4, (.iconst 1, 1, (0, 0, 0), 1, 0)), (5, (.iaload, 1, (0, 0, 0), 0, 0)), (6, (.istore_n 1, 1, (0, 0, 0), 0, 0)), (7, (.iload_n 1, 1, (0, 0, 0), 0, 0)), (8, (.bipush 20, 2, (0, 0, 0), 20, 0)), (10, (.if_icmp .ne 5, 3, (15, 0, 0), 0, 0)), (13, (.iconst 0, 1, (0, 0, 0), 0, 0)), (14, (.ireturn, 1, (0, 0, 0), 0, 0)), (15, (.aload_n 0, 1, (0, 0, 0), 0, 0)), (16, (.invokevirtual 136, 3, (0, 245, 0), 0, 1767)), (19, (.istore_n 2, 1, (0, 0, 0), 0, 0)), (20, (.iload_n 2, 1, (0, 0, 0), 0, 0)), (21, (.ifCond .ge 7, 3, (28, 0, 0), 0, 0)), (24, (.iconst (-1), 1, (0, 0, 0), (-1), 0)), (25, (.goto 7, 3, (32, 0, 0), 0, 0)), (28, (.aload_n 0, 1, (0, 0, 0), 0, 0)), (29, (.invokevirtual 136, 3, (0, 245, 0), 0, 1767))],
  [(32, (.istore_n 3, 1, (0, 0, 0), 0, 0)), (33, (.iload_n 3, 1, (0, 0, 0), 0, 0)), (34, (.ifCond .lt 8, 3, (42, 0, 0), 0, 0)), (37, (.iload_n 2, 1, (0, 0, 0), 0, 0)), (38, (.iload_n 3, 1, (0, 0, 0), 0, 0)), (39, (.if_icmp .ne 5, 3, (44, 0, 0), 0, 0)), (42, (.iconst 0, 1, (0, 0, 0), 0, 0)), (43, (.ireturn, 1, (0, 0, 0), 0, 0)), (44, (.aload_n 0, 1, (0, 0, 0), 0, 0)), (45, (.getfield 13, 3, (12, 1, 0), 0, 1614)), (48, (.sipush 145, 3, (0, 0, 0), 145, 0)), (51, (.iconst 2, 1, (0, 0, 0), 2, 0)), (52, (.iload_n 1, 1, (0, 0, 0), 0, 0)), (53, (.imul, 1, (0, 0, 0), 0, 0)), (54, (.iadd, 1, (0, 0, 0), 0, 0)), (55, (.iload_n 2, 1, (0, 0, 0), 0, 0)), (56, (.iastore, 1, (0, 0, 0), 0, 0)), (57, (.aload_n 0, 1, (0, 0, 0), 0, 0)), (58, (.getfield 13, 3, (12, 1, 0), 0, 1614)), (61, (.sipush 145, 3, (0, 0, 0), 145, 0))],
  [(64, (.iconst 2, 1, (0, 0, 0), 2, 0)), (65, (.iload_n 1, 1, (0, 0, 0), 0, 0)), (66, (.imul, 1, (0, 0, 0), 0, 0)), (67, (.iadd, 1, (0, 0, 0), 0, 0)), (68, (.iconst 1, 1, (0, 0, 0), 1, 0)), (69, (.iadd, 1, (0, 0, 0), 0, 0)), (70, (.iload_n 3, 1, (0, 0, 0), 0, 0)), (71, (.iastore, 1, (0, 0, 0), 0, 0)), (72, (.aload_n 0, 1, (0, 0, 0), 0, 0)), (73, (.getfield 13, 3, (12, 1, 0), 0, 1614)), (76, (.iconst 1, 1, (0, 0, 0), 1, 0)), (77, (.dup2, 1, (0, 0, 0), 0, 0)), (78, (.iaload, 1, (0, 0, 0), 0, 0)), (79, (.iconst 1, 1, (0, 0, 0), 1, 0)), (80, (.iadd, 1, (0, 0, 0), 0, 0)), (81, (.iastore, 1, (0, 0, 0), 0, 0)), (82, (.iconst 1, 1, (0, 0, 0), 1, 0)), (83, (.ireturn, 1, (0, 0, 0), 0, 0))]]
set_option maxRecDepth 10000 in
def zp249 : List (List (Nat × ZI)) := [[(0, (.aload_n 0, 1, (0, 0, 0), 0, 0)), (1, (.invokevirtual 74, 3, (0, 217, 0), 0, 1776)), (4, (.istore_n 1, 1, (0, 0, 0), 0, 0)), (5, (.iload_n 1, 1, (0, 0, 0), 0, 0)), (6, (.bipush 8, 2, (0, 0, 0), 8, 0)), (8, (.if_icmp .ne 5, 3, (13, 0, 0), 0, 0)), (11, (.iconst 0, 1, (0, 0, 0), 0, 0)), (12, (.ireturn, 1, (0, 0, 0), 0, 0)), (13, (.iconst 0, 1, (0, 0, 0), 0, 0)), (14, (.istore_n 2, 1, (0, 0, 0), 0, 0)), (15, (.iload_n 2, 1, (0, 0, 0), 0, 0)), (16, (.bipush 24, 2, (0, 0, 0), 24, 0)), (18, (.if_icmp .ge 16, 3, (34, 0, 0), 0, 0)), (21, (.aload_n 0, 1, (0, 0, 0), 0, 0)), (22, (.iload_n 1, 1, (0, 0, 0), 0, 0)), (23, (.iload_n 2, 1, (0, 0, 0), 0, 0)), (24, (.iconst 0, 1, (0, 0, 0), 0, 0)), (25, (.invokevirtual 139, 3, (0, 222, 0), 0, 1780)), (28, (.iinc 2 1, 3, (0, 0, 0), 1, 0)), (31, (.goto (-16), 3, (15, 0, 0), 0, 0))],
  [(34, (.aload_n 0, 1, (0, 0, 0), 0, 0)), (35, (.iload_n 1, 1, (0, 0, 0), 0, 0)), (36, (.iconst 1, 1, (0, 0, 0), 1, 0)), (37, (.bipush 100, 2, (0, 0, 0), 100, 0)), (39, (.invokevirtual 139, 3, (0, 222, 0), 0, 1780)), (42, (.iconst 0, 1, (0, 0, 0), 0, 0)), (43, (.istore_n 2, 1, (0, 0, 0), 0, 0)), (44, (.aload_n 0, 1, (0, 0, 0), 0, 0)), (45, (.invokevirtual 136, 3, (0, 245, 0), 0, 1767)), (48, (.istore 4, 2, (0, 0, 0), 0, 0)), (50, (.aload_n 0, 1, (0, 0, 0), 0, 0)), (51, (.getfield 94, 3, (12, 12, 0), 0, 1625)), (54, (.istore_n 3, 1, (0, 0, 0), 0, 0)), (55, (.iload 4, 2, (0, 0, 0), 0, 0)), (57, (.ifCond .lt 47, 3, (104, 0, 0), 0, 0)), (60, (.iload_n 2, 1, (0, 0, 0), 0, 0)), (61, (.bipush 12, 2, (0, 0, 0), 12, 0)), (63, (.if_icmp .eq 41, 3, (104, 0, 0), 0, 0))],
  [(66, (.iload_n 2, 1, (0, 0, 0), 0, 0)), (67, (.ifCond .le 39, 3, (106, 0, 0), 0, 0)), (70, (.iload 4, 2, (0, 0, 0), 0, 0)), (72, (.aload_n 0, 1, (0, 0, 0), 0, 0)), (73, (.iload_n 1, 1, (0, 0, 0), 0, 0)), (74, (.iconst 4, 1, (0, 0, 0), 4, 0)), (75, (.iload_n 2, 1, (0, 0, 0), 0, 0)), (76, (.iadd, 1, (0, 0, 0), 0, 0)), (77, (.iconst 1, 1, (0, 0, 0), 1, 0)), (78, (.isub, 1, (0, 0, 0), 0, 0)), (79, (.invokevirtual 59, 3, (0, 221, 0), 0, 1787)), (82, (.if_icmp .eq 24, 3, (106, 0, 0), 0, 0)), (85, (.aload_n 0, 1, (0, 0, 0), 0, 0)), (86, (.aload_n 0, 1, (0, 0, 0), 0, 0)), (87, (.iload_n 1, 1, (0, 0, 0), 0, 0)), (88, (.iconst 4, 1, (0, 0, 0), 4, 0)), (89, (.iload_n 2, 1, (0, 0, 0), 0, 0)), (90, (.iadd, 1, (0, 0, 0), 0, 0)), (91, (.iconst 1, 1, (0, 0, 0), 1, 0)), (92, (.isub, 1, (0, 0, 0), 0, 0)), (93, (.invokevirtual 59, 3, (0, 221, 0), 0, 1787))],
  [(96, (.iload 4, 2, (0, 0, 0), 0, 0)), (98, (.invokevirtual 143, 3, (0, 230, 0), 0, 1791)), (101, (.ifCond .ne 5, 3, (106, 0, 0), 0, 0)), (104, (.iconst 0, 1, (0, 0, 0), 0, 0)), (105, (.ireturn, 1, (0, 0, 0), 0, 0)), (106, (.aload_n 0, 1, (0, 0, 0), 0, 0)), (107, (.iload_n 1, 1, (0, 0, 0), 0, 0)), (108, (.iconst 4, 1, (0, 0, 0), 4, 0)), (109, (.iload_n 2, 1, (0, 0, 0), 0, 0)), (110, (.iadd, 1, (0, 0, 0), 0, 0)), (111, (.iload 4, 2, (0, 0, 0), 0, 0)), (113, (.invokevirtual 139, 3, (0, 222, 0), 0, 1780)), (116, (.iinc 2 1, 3, (0, 0, 0), 1, 0)), (119, (.aload_n 0, 1, (0, 0, 0), 0, 0)), (120, (.invokevirtual 97, 3, (0, 235, 0), 0, 1707)), (123, (.aload_n 0, 1, (0, 0, 0), 0, 0)), (124, (.bipush 48, 2, (0, 0, 0), 48, 0)), (126, (.bipush 57, 2, (0, 0, 0), 57, 0))],
  [(128, (.invokevirtual 90, 3, (0, 234, 0), 0, 1711)), (131, (.ifCond .ne (-87), 3, (44, 0, 0), 0, 0)), (134, (.aload_n 0, 1, (0, 0, 0), 0, 0)), (135, (.iload_n 1, 1, (0, 0, 0), 0, 0)), (136, (.iconst 3, 1, (0, 0, 0), 3, 0)), (137, (.iload_n 2, 1, (0, 0, 0), 0, 0)), (138, (.invokevirtual 139, 3, (0, 222, 0), 0, 1780)), (141, (.aload_n 0, 1, (0, 0, 0), 0, 0)), (142, (.getfield 13, 3, (12, 1, 0), 0, 1614)), (145, (.iconst 2, 1, (0, 0, 0), 2, 0)), (146, (.dup2, 1, (0, 0, 0), 0, 0)), (147, (.iaload, 1, (0, 0, 0), 0, 0)), (148, (.iconst 1, 1, (0, 0, 0), 1, 0)), (149, (.iadd, 1, (0, 0, 0), 0, 0)), (150, (.iastore, 1, (0, 0, 0), 0, 0)), (151, (.aload_n 0, 1, (0, 0, 0), 0, 0)), (152, (.iload_n 1, 1, (0, 0, 0), 0, 0)), (153, (.iconst 4, 1, (0, 0, 0), 4, 0)), (154, (.iload_n 2, 1, (0, 0, 0), 0, 0)), (155, (.iadd, 1, (0, 0, 0), 0, 0)), (156, (.iconst 1, 1, (0, 0, 0), 1, 0)), (157, (.isub, 1, (0, 0, 0), 0, 0)), (158, (.invokevirtual 59, 3, (0, 221, 0), 0, 1787))],
  [(161, (.istore 4, 2, (0, 0, 0), 0, 0)), (163, (.iload 4, 2, (0, 0, 0), 0, 0)), (165, (.aload_n 0, 1, (0, 0, 0), 0, 0)), (166, (.iload_n 1, 1, (0, 0, 0), 0, 0)), (167, (.iconst 4, 1, (0, 0, 0), 4, 0)), (168, (.invokevirtual 59, 3, (0, 221, 0), 0, 1787)), (171, (.if_icmp .eq 18, 3, (189, 0, 0), 0, 0)), (174, (.aload_n 0, 1, (0, 0, 0), 0, 0)), (175, (.iload 4, 2, (0, 0, 0), 0, 0)), (177, (.aload_n 0, 1, (0, 0, 0), 0, 0)), (178, (.iload_n 1, 1, (0, 0, 0), 0, 0)), (179, (.iconst 4, 1, (0, 0, 0), 4, 0)), (180, (.invokevirtual 59, 3, (0, 221, 0), 0, 1787)), (183, (.invokevirtual 143, 3, (0, 230, 0), 0, 1791)), (186, (.ifCond .eq 5, 3, (191, 0, 0), 0, 0)), (189, (.iconst 1, 1, (0, 0, 0), 1, 0)), (190, (.ireturn, 1, (0, 0, 0), 0, 0)), (191, (.aload_n 0, 1, (0, 0, 0), 0, 0))],
  [(192, (.iload_n 3, 1, (0, 0, 0), 0, 0)), (193, (.putfield 94, 3, (12, 12, 0), 0, 1625)), (196, (.iconst 0, 1, (0, 0, 0), 0, 0)), (197, (.ireturn, 1, (0, 0, 0), 0, 0))]]
set_option maxRecDepth 10000 in
def zp250 : List (List (Nat × ZI)) := [[(0, (.aload_n 0, 1, (0, 0, 0), 0, 0)), (1, (.invokevirtual 146, 3, (0, 246, 0), 0, 1800)), (4, (.istore_n 1, 1, (0, 0, 0), 0, 0)), (5, (.iload_n 1, 1, (0, 0, 0), 0, 0)), (6, (.ifCond .ge 7, 3, (13, 0, 0), 0, 0)), (9, (.iconst (-1), 1, (0, 0, 0), (-1), 0)), (10, (.goto 11, 3, (21, 0, 0), 0, 0)), (13, (.aload_n 0, 1, (0, 0, 0), 0, 0)), (14, (.iconst 0, 1, (0, 0, 0), 0, 0)), (15, (.sipush 9999, 3, (0, 0, 0), 9999, 0)), (18, (.invokevirtual 130, 3, (0, 241, 0), 0, 1751)), (21, (.istore_n 2, 1, (0, 0, 0), 0, 0)), (22, (.iload_n 2, 1, (0, 0, 0), 0, 0)), (23, (.ifCond .ge 5, 3, (28, 0, 0), 0, 0)), (26, (.iconst 0, 1, (0, 0, 0), 0, 0)), (27, (.ireturn, 1, (0, 0, 0), 0, 0)), (28, (.iload_n 2, 1, (0, 0, 0), 0, 0)), (29, (.sipush 9999, 3, (0, 0, 0), 9999, 0))],
  [(32, (.aload_n 0, 1, (0, 0, 0), 0, 0)), (33, (.iload_n 1, 1, (0, 0, 0), 0, 0)), (34, (.invokevirtual 149, 3, (0, 226, 0), 0, 1804)), (37, (.isub, 1, (0, 0, 0), 0, 0)), (38, (.invokestatic 152, 3, (2, 0, 0), 0, 1812)), (41, (.istore_n 3, 1, (0, 0, 0), 0, 0)), (42, (.aload_n 0, 1, (0, 0, 0), 0, 0)), (43, (.iload_n 1, 1, (0, 0, 0), 0, 0)), (44, (.bipush 16, 2, (0, 0, 0), 16, 0)), (46, (.iload_n 1, 1, (0, 0, 0), 0, 0)), (47, (.iadd, 1, (0, 0, 0), 0, 0)), (48, (.aload_n 0, 1, (0, 0, 0), 0, 0)), (49, (.iload_n 1, 1, (0, 0, 0), 0, 0)), (50, (.bipush 16, 2, (0, 0, 0), 16, 0)), (52, (.iload_n 1, 1, (0, 0, 0), 0, 0)), (53, (.iadd, 1, (0, 0, 0), 0, 0)), (54, (.invokevirtual 59, 3, (0, 221, 0), 0, 1787)), (57, (.iload_n 3, 1, (0, 0, 0), 0, 0)), (58, (.iadd, 1, (0, 0, 0), 0, 0)), (59, (.invokevirtual 139, 3, (0, 222, 0), 0, 1780)), (62, (.aload_n 0, 1, (0, 0, 0), 0, 0)), (63, (.getfield 13, 3, (12, 1, 0), 0, 1614))],
  [(66, (.bipush 7, 2, (0, 0, 0), 7, 0)), (68, (.dup2, 1, (0, 0, 0), 0, 0)), (69, (.iaload, 1, (0, 0, 0), 0, 0)), (70, (.iload_n 3, 1, (0, 0, 0), 0, 0)), (71, (.iadd, 1, (0, 0, 0), 0, 0)), (72, (.iastore, 1, (0, 0, 0), 0, 0)), (73, (.iconst 1, 1, (0, 0, 0), 1, 0)), (74, (.ireturn, 1, (0, 0, 0), 0, 0))]]
set_option maxRecDepth 10000 in
def zp251 : List (List (Nat × ZI)) := [[(0, (.aload_n 0, 1, (0, 0, 0), 0, 0)), (1, (.invokevirtual 136, 3, (0, 245, 0), 0, 1767)), (4, (.istore_n 1, 1, (0, 0, 0), 0, 0)), (5, (.iload_n 1, 1, (0, 0, 0), 0, 0)), (6, (.ifCond .ge 7, 3, (13, 0, 0), 0, 0)), (9, (.iconst (-1), 1, (0, 0, 0), (-1), 0)), (10, (.goto 7, 3, (17, 0, 0), 0, 0)), (13, (.aload_n 0, 1, (0, 0, 0), 0, 0)), (14, (.invokevirtual 146, 3, (0, 246, 0), 0, 1800)), (17, (.istore_n 2, 1, (0, 0, 0), 0, 0)), (18, (.iload_n 2, 1, (0, 0, 0), 0, 0)), (19, (.ifCond .ge 7, 3, (26, 0, 0), 0, 0)), (22, (.iconst (-1), 1, (0, 0, 0), (-1), 0)), (23, (.goto 11, 3, (34, 0, 0), 0, 0)), (26, (.aload_n 0, 1, (0, 0, 0), 0, 0)), (27, (.iconst 0, 1, (0, 0, 0), 0, 0)), (28, (.sipush 9999, 3, (0, 0, 0), 9999, 0)), (31, (.invokevirtual 130, 3, (0, 241, 0), 0, 1751))],
  [(34, (.istore_n 3, 1, (0, 0, 0), 0, 0)), (35, (.iload_n 3, 1, (0, 0, 0), 0, 0)), (36, (.ifCond .ge 5, 3, (41, 0, 0), 0, 0)), (39, (.iconst 0, 1, (0, 0, 0), 0, 0)), (40, (.ireturn, 1, (0, 0, 0), 0, 0)), (41, (.aload_n 0, 1, (0, 0, 0), 0, 0)), (42, (.getfield 13, 3, (12, 1, 0), 0, 1614)), (45, (.iload_n 1, 1, (0, 0, 0), 0, 0)), (46, (.iconst 3, 1, (0, 0, 0), 3, 0)), (47, (.iload_n 2, 1, (0, 0, 0), 0, 0)), (48, (.iadd, 1, (0, 0, 0), 0, 0)), (49, (.invokestatic 52, 3, (0, 218, 0), 0, 1759)), (52, (.dup2, 1, (0, 0, 0), 0, 0)), (53, (.iaload, 1, (0, 0, 0), 0, 0)), (54, (.iload_n 3, 1, (0, 0, 0), 0, 0)), (55, (.iadd, 1, (0, 0, 0), 0, 0)), (56, (.iastore, 1, (0, 0, 0), 0, 0)), (57, (.aload_n 0, 1, (0, 0, 0), 0, 0)), (58, (.getfield 13, 3, (12, 1, 0), 0, 1614)), (61, (.bipush 7, 2, (0, 0, 0), 7, 0)), (63, (.dup2, 1, (0, 0, 0), 0, 0))],
  [(64, (.iaload, 1, (0, 0, 0), 0, 0)), (65, (.iload_n 3, 1, (0, 0, 0), 0, 0)), (66, (.iadd, 1, (0, 0, 0), 0, 0)), (67, (.iastore, 1, (0, 0, 0), 0, 0)), (68, (.iconst 1, 1, (0, 0, 0), 1, 0)), (69, (.ireturn, 1, (0, 0, 0), 0, 0))]]
set_option maxRecDepth 10000 in
def zp252 : List (List (Nat × ZI)) := [[(0, (.aload_n 0, 1, (0, 0, 0), 0, 0)), (1, (.invokevirtual 136, 3, (0, 245, 0), 0, 1767)), (4, (.istore_n 1, 1, (0, 0, 0), 0, 0)), (5, (.iload_n 1, 1, (0, 0, 0), 0, 0)), (6, (.ifCond .ge 7, 3, (13, 0, 0), 0, 0)), (9, (.iconst (-1), 1, (0, 0, 0), (-1), 0)), (10, (.goto 10, 3, (20, 0, 0), 0, 0)), (13, (.aload_n 0, 1, (0, 0, 0), 0, 0)), (14, (.iconst 0, 1, (0, 0, 0), 0, 0)), (15, (.bipush 100, 2, (0, 0, 0), 100, 0)), (17, (.invokevirtual 130, 3, (0, 241, 0), 0, 1751)), (20, (.istore_n 2, 1, (0, 0, 0), 0, 0)), (21, (.iload_n 2, 1, (0, 0, 0), 0, 0)), (22, (.ifCond .lt 14, 3, (36, 0, 0), 0, 0)), (25, (.aload_n 0, 1, (0, 0, 0), 0, 0)), (26, (.getfield 13, 3, (12, 1, 0), 0, 1614)), (29, (.iload_n 1, 1, (0, 0, 0), 0, 0)), (30, (.iconst 2, 1, (0, 0, 0), 2, 0)), (31, (.invokestatic 52, 3, (0, 218, 0), 0, 1759))],
  [(34, (.iload_n 2, 1, (0, 0, 0), 0, 0)), (35, (.iastore, 1, (0, 0, 0), 0, 0)), (36, (.iload_n 2, 1, (0, 0, 0), 0, 0)), (37, (.ifCond .lt 7, 3, (44, 0, 0), 0, 0)), (40, (.iconst 1, 1, (0, 0, 0), 1, 0)), (41, (.goto 4, 3, (45, 0, 0), 0, 0)), (44, (.iconst 0, 1, (0, 0, 0), 0, 0)), (45, (.ireturn, 1, (0, 0, 0), 0, 0))]]
set_option maxRecDepth 10000 in
def zp253 : List (List (Nat × ZI)) := [[(0, (.aload_n 0, 1, (0, 0, 0), 0, 0)), (1, (.invokevirtual 146, 3, (0, 246, 0), 0, 1800)), (4, (.istore_n 3, 1, (0, 0, 0), 0, 0)), (5, (.iload_n 3, 1, (0, 0, 0), 0, 0)), (6, (.ifCond .ge 7, 3, (13, 0, 0), 0, 0)), (9, (.iconst (-1), 1, (0, 0, 0), (-1), 0)), (10, (.goto 9, 3, (19, 0, 0), 0, 0)), (13, (.aload_n 0, 1, (0, 0, 0), 0, 0)), (14, (.iconst 0, 1, (0, 0, 0), 0, 0)), (15, (.iload_n 2, 1, (0, 0, 0), 0, 0)), (16, (.invokevirtual 130, 3, (0, 241, 0), 0, 1751)), (19, (.istore 4, 2, (0, 0, 0), 0, 0)), (21, (.iload 4, 2, (0, 0, 0), 0, 0)), (23, (.ifCond .lt 11, 3, (34, 0, 0), 0, 0)), (26, (.aload_n 0, 1, (0, 0, 0), 0, 0)), (27, (.iload_n 3, 1, (0, 0, 0), 0, 0)), (28, (.iload_n 1, 1, (0, 0, 0), 0, 0)), (29, (.iload 4, 2, (0, 0, 0), 0, 0)), (31, (.invokevirtual 139, 3, (0, 222, 0), 0, 1780))],
  [(34, (.iload 4, 2, (0, 0, 0), 0, 0)), (36, (.ifCond .lt 7, 3, (43, 0, 0), 0, 0)), (39, (.iconst 1, 1, (0, 0, 0), 1, 0)), (40, (.goto 4, 3, (44, 0, 0), 0, 0)), (43, (.iconst 0, 1, (0, 0, 0), 0, 0)), (44, (.ireturn, 1, (0, 0, 0), 0, 0))]]
set_option maxRecDepth 10000 in
def zp254 : List (List (Nat × ZI)) := [[(0, (.aload_n 0, 1, (0, 0, 0), 0, 0)), (1, (.ldc 157, 2, (1, 23, 0), 0, 1727)), (3, (.invokevirtual 112, 3, (0, 237, 0), 0, 1728)), (6, (.ifCond .eq 8, 3, (14, 0, 0), 0, 0)), (9, (.aload_n 0, 1, (0, 0, 0), 0, 0)), (10, (.invokevirtual 159, 3, (0, 247, 0), 0, 1734)), (13, (.ireturn, 1, (0, 0, 0), 0, 0)), (14, (.aload_n 0, 1, (0, 0, 0), 0, 0)), (15, (.ldc 163, 2, (1, 29, 0), 0, 1762)), (17, (.invokevirtual 112, 3, (0, 237, 0), 0, 1728)), (20, (.ifCond .eq 8, 3, (28, 0, 0), 0, 0)), (23, (.aload_n 0, 1, (0, 0, 0), 0, 0)), (24, (.invokevirtual 165, 3, (0, 248, 0), 0, 1763)), (27, (.ireturn, 1, (0, 0, 0), 0, 0)), (28, (.aload_n 0, 1, (0, 0, 0), 0, 0)), (29, (.ldc 168, 2, (1, 30, 0), 0, 1771)), (31, (.invokevirtual 112, 3, (0, 237, 0), 0, 1728))],
  [(34, (.ifCond .eq 8, 3, (42, 0, 0), 0, 0)), (37, (.aload_n 0, 1, (0, 0, 0), 0, 0)), (38, (.invokevirtual 170, 3, (0, 249, 0), 0, 1772)), (41, (.ireturn, 1, (0, 0, 0), 0, 0)), (42, (.aload_n 0, 1, (0, 0, 0), 0, 0)), (43, (.ldc 173, 2, (1, 31, 0), 0, 1795)), (45, (.invokevirtual 112, 3, (0, 237, 0), 0, 1728)), (48, (.ifCond .eq 8, 3, (56, 0, 0), 0, 0)), (51, (.aload_n 0, 1, (0, 0, 0), 0, 0)), (52, (.invokevirtual 175, 3, (0, 250, 0), 0, 1796)), (55, (.ireturn, 1, (0, 0, 0), 0, 0)), (56, (.aload_n 0, 1, (0, 0, 0), 0, 0)), (57, (.ldc 178, 2, (1, 32, 0), 0, 1813)), (59, (.invokevirtual 112, 3, (0, 237, 0), 0, 1728)), (62, (.ifCond .eq 8, 3, (70, 0, 0), 0, 0))],
  [(65, (.aload_n 0, 1, (0, 0, 0), 0, 0)), (66, (.invokevirtual 180, 3, (0, 251, 0), 0, 1814)), (69, (.ireturn, 1, (0, 0, 0), 0, 0)), (70, (.aload_n 0, 1, (0, 0, 0), 0, 0)), (71, (.ldc 183, 2, (1, 33, 0), 0, 1818)), (73, (.invokevirtual 112, 3, (0, 237, 0), 0, 1728)), (76, (.ifCond .eq 8, 3, (84, 0, 0), 0, 0)), (79, (.aload_n 0, 1, (0, 0, 0), 0, 0)), (80, (.invokevirtual 185, 3, (0, 252, 0), 0, 1819)), (83, (.ireturn, 1, (0, 0, 0), 0, 0)), (84, (.aload_n 0, 1, (0, 0, 0), 0, 0)), (85, (.ldc 188, 2, (1, 34, 0), 0, 1823)), (87, (.invokevirtual 112, 3, (0, 237, 0), 0, 1728)), (90, (.ifCond .eq 11, 3, (101, 0, 0), 0, 0)), (93, (.aload_n 0, 1, (0, 0, 0), 0, 0)), (94, (.iconst 1, 1, (0, 0, 0), 1, 0)), (95, (.bipush 100, 2, (0, 0, 0), 100, 0))],
  [(97, (.invokevirtual 190, 3, (0, 253, 0), 0, 1824)), (100, (.ireturn, 1, (0, 0, 0), 0, 0)), (101, (.aload_n 0, 1, (0, 0, 0), 0, 0)), (102, (.ldc 193, 2, (1, 35, 0), 0, 1828)), (104, (.invokevirtual 112, 3, (0, 237, 0), 0, 1728)), (107, (.ifCond .eq 11, 3, (118, 0, 0), 0, 0)), (110, (.aload_n 0, 1, (0, 0, 0), 0, 0)), (111, (.iconst 2, 1, (0, 0, 0), 2, 0)), (112, (.bipush 99, 2, (0, 0, 0), 99, 0)), (114, (.invokevirtual 190, 3, (0, 253, 0), 0, 1824)), (117, (.ireturn, 1, (0, 0, 0), 0, 0)), (118, (.aload_n 0, 1, (0, 0, 0), 0, 0)), (119, (.ldc 195, 2, (1, 36, 0), 0, 1829)), (121, (.invokevirtual 112, 3, (0, 237, 0), 0, 1728)), (124, (.ifCond .ne 5, 3, (129, 0, 0), 0, 0)), (127, (.iconst 0, 1, (0, 0, 0), 0, 0))],
  [(128, (.ireturn, 1, (0, 0, 0), 0, 0)), (129, (.aload_n 0, 1, (0, 0, 0), 0, 0)), (130, (.getfield 13, 3, (12, 1, 0), 0, 1614)), (133, (.bipush 9, 2, (0, 0, 0), 9, 0)), (135, (.aload_n 0, 1, (0, 0, 0), 0, 0)), (136, (.iconst 0, 1, (0, 0, 0), 0, 0)), (137, (.ldc 197, 2, (0, 0, 0), 99999, 1830)), (139, (.invokevirtual 130, 3, (0, 241, 0), 0, 1751)), (142, (.iastore, 1, (0, 0, 0), 0, 0)), (143, (.aload_n 0, 1, (0, 0, 0), 0, 0)), (144, (.getfield 13, 3, (12, 1, 0), 0, 1614)), (147, (.bipush 9, 2, (0, 0, 0), 9, 0)), (149, (.iaload, 1, (0, 0, 0), 0, 0)), (150, (.ifCond .lt 7, 3, (157, 0, 0), 0, 0)), (153, (.iconst 1, 1, (0, 0, 0), 1, 0)), (154, (.goto 4, 3, (158, 0, 0), 0, 0)), (157, (.iconst 0, 1, (0, 0, 0), 0, 0)), (158, (.ireturn, 1, (0, 0, 0), 0, 0))]]
set_option maxRecDepth 10000 in
def zp255 : List (List (Nat × ZI)) := [[(0, (.aload_n 0, 1, (0, 0, 0), 0, 0)), (1, (.getfield 13, 3, (12, 1, 0), 0, 1614)), (4, (.sipush 1675, 3, (0, 0, 0), 1675, 0)), (7, (.iconst 2, 1, (0, 0, 0), 2, 0)), (8, (.aload_n 0, 1, (0, 0, 0), 0, 0)), (9, (.getfield 198, 3, (12, 16, 0), 0, 1629)), (12, (.imul, 1, (0, 0, 0), 0, 0)), (13, (.iadd, 1, (0, 0, 0), 0, 0)), (14, (.iload_n 1, 1, (0, 0, 0), 0, 0)), (15, (.iastore, 1, (0, 0, 0), 0, 0)), (16, (.aload_n 0, 1, (0, 0, 0), 0, 0)), (17, (.getfield 13, 3, (12, 1, 0), 0, 1614)), (20, (.sipush 1675, 3, (0, 0, 0), 1675, 0)), (23, (.iconst 2, 1, (0, 0, 0), 2, 0)), (24, (.aload_n 0, 1, (0, 0, 0), 0, 0)), (25, (.getfield 198, 3, (12, 16, 0), 0, 1629)), (28, (.imul, 1, (0, 0, 0), 0, 0)), (29, (.iadd, 1, (0, 0, 0), 0, 0)), (30, (.iconst 1, 1, (0, 0, 0), 1, 0)), (31, (.iadd, 1, (0, 0, 0), 0, 0))],
  [(32, (.iload_n 2, 1, (0, 0, 0), 0, 0)), (33, (.iastore, 1, (0, 0, 0), 0, 0)), (34, (.aload_n 0, 1, (0, 0, 0), 0, 0)), (35, (.dup, 1, (0, 0, 0), 0, 0)), (36, (.getfield 198, 3, (12, 16, 0), 0, 1629)), (39, (.iconst 1, 1, (0, 0, 0), 1, 0)), (40, (.iadd, 1, (0, 0, 0), 0, 0)), (41, (.putfield 198, 3, (12, 16, 0), 0, 1629)), (44, (.return_, 1, (0, 0, 0), 0, 0))]]
set_option maxRecDepth 10000 in
def zp256 : List (List (Nat × ZI)) := [[(0, (.aload_n 0, 1, (0, 0, 0), 0, 0)), (1, (.invokevirtual 109, 3, (0, 236, 0), 0, 1719)), (4, (.aload_n 0, 1, (0, 0, 0), 0, 0)), (5, (.getfield 84, 3, (12, 10, 0), 0, 1623)), (8, (.aload_n 0, 1, (0, 0, 0), 0, 0)), (9, (.getfield 94, 3, (12, 12, 0), 0, 1625)), (12, (.if_icmp .ne 23, 3, (35, 0, 0), 0, 0)), (15, (.aload_n 0, 1, (0, 0, 0), 0, 0)), (16, (.iconst 0, 1, (0, 0, 0), 0, 0)), (17, (.sipush 999, 3, (0, 0, 0), 999, 0)), (20, (.iconst 3, 1, (0, 0, 0), 3, 0)), (21, (.invokevirtual 116, 3, (0, 240, 0), 0, 1755)), (24, (.istore_n 1, 1, (0, 0, 0), 0, 0)), (25, (.aload_n 0, 1, (0, 0, 0), 0, 0)), (26, (.bipush 8, 2, (0, 0, 0), 8, 0)), (28, (.iload_n 1, 1, (0, 0, 0), 0, 0)), (29, (.invokevirtual 201, 3, (0, 255, 0), 0, 1861))],
  [(32, (.goto 89, 3, (121, 0, 0), 0, 0)), (35, (.aload_n 0, 1, (0, 0, 0), 0, 0)), (36, (.ldc 168, 2, (1, 30, 0), 0, 1771)), (38, (.invokevirtual 112, 3, (0, 237, 0), 0, 1728)), (41, (.ifCond .eq 7, 3, (48, 0, 0), 0, 0)), (44, (.iconst 0, 1, (0, 0, 0), 0, 0)), (45, (.goto 69, 3, (114, 0, 0), 0, 0)), (48, (.aload_n 0, 1, (0, 0, 0), 0, 0)), (49, (.ldc 157, 2, (1, 23, 0), 0, 1727)), (51, (.invokevirtual 112, 3, (0, 237, 0), 0, 1728)), (54, (.ifCond .eq 7, 3, (61, 0, 0), 0, 0)), (57, (.iconst 1, 1, (0, 0, 0), 1, 0)), (58, (.goto 56, 3, (114, 0, 0), 0, 0)), (61, (.aload_n 0, 1, (0, 0, 0), 0, 0)), (62, (.ldc 173, 2, (1, 31, 0), 0, 1795))],
  [(64, (.invokevirtual 112, 3, (0, 237, 0), 0, 1728)), (67, (.ifCond .eq 7, 3, (74, 0, 0), 0, 0)), (70, (.iconst 2, 1, (0, 0, 0), 2, 0)), (71, (.goto 43, 3, (114, 0, 0), 0, 0)), (74, (.aload_n 0, 1, (0, 0, 0), 0, 0)), (75, (.ldc 205, 2, (1, 43, 0), 0, 1877)), (77, (.invokevirtual 112, 3, (0, 237, 0), 0, 1728)), (80, (.ifCond .eq 7, 3, (87, 0, 0), 0, 0)), (83, (.iconst 3, 1, (0, 0, 0), 3, 0)), (84, (.goto 30, 3, (114, 0, 0), 0, 0)), (87, (.aload_n 0, 1, (0, 0, 0), 0, 0)), (88, (.ldc 207, 2, (1, 44, 0), 0, 1878)), (90, (.invokevirtual 112, 3, (0, 237, 0), 0, 1728)), (93, (.ifCond .eq 7, 3, (100, 0, 0), 0, 0))],
  [(96, (.iconst 4, 1, (0, 0, 0), 4, 0)), (97, (.goto 17, 3, (114, 0, 0), 0, 0)), (100, (.aload_n 0, 1, (0, 0, 0), 0, 0)), (101, (.ldc 209, 2, (1, 45, 0), 0, 1879)), (103, (.invokevirtual 112, 3, (0, 237, 0), 0, 1728)), (106, (.ifCond .eq 7, 3, (113, 0, 0), 0, 0)), (109, (.iconst 5, 1, (0, 0, 0), 5, 0)), (110, (.goto 4, 3, (114, 0, 0), 0, 0)), (113, (.iconst (-1), 1, (0, 0, 0), (-1), 0)), (114, (.istore_n 1, 1, (0, 0, 0), 0, 0)), (115, (.aload_n 0, 1, (0, 0, 0), 0, 0)), (116, (.iload_n 1, 1, (0, 0, 0), 0, 0)), (117, (.iconst 0, 1, (0, 0, 0), 0, 0)), (118, (.invokevirtual 201, 3, (0, 255, 0), 0, 1861)), (121, (.iload_n 1, 1, (0, 0, 0), 0, 0)), (122, (.ifCond .lt 7, 3, (129, 0, 0), 0, 0)), (125, (.iconst 1, 1, (0, 0, 0), 1, 0)), (126, (.goto 4, 3, (130, 0, 0), 0, 0))],
  [(129, (.iconst 0, 1, (0, 0, 0), 0, 0)), (130, (.ireturn, 1, (0, 0, 0), 0, 0))]]
set_option maxRecDepth 10000 in
def zp257 : List (List (Nat × ZI)) := [[(0, (.aload_n 0, 1, (0, 0, 0), 0, 0)), (1, (.invokevirtual 211, 3, (0, 256, 0), 0, 1873)), (4, (.ifCond .ne 5, 3, (9, 0, 0), 0, 0)), (7, (.iconst 0, 1, (0, 0, 0), 0, 0)), (8, (.ireturn, 1, (0, 0, 0), 0, 0)), (9, (.aload_n 0, 1, (0, 0, 0), 0, 0)), (10, (.bipush 43, 2, (0, 0, 0), 43, 0)), (12, (.invokevirtual 214, 3, (0, 239, 0), 0, 1856)), (15, (.ifCond .eq 22, 3, (37, 0, 0), 0, 0)), (18, (.aload_n 0, 1, (0, 0, 0), 0, 0)), (19, (.invokevirtual 211, 3, (0, 256, 0), 0, 1873)), (22, (.ifCond .ne 5, 3, (27, 0, 0), 0, 0)), (25, (.iconst 0, 1, (0, 0, 0), 0, 0)), (26, (.ireturn, 1, (0, 0, 0), 0, 0)), (27, (.aload_n 0, 1, (0, 0, 0), 0, 0)), (28, (.bipush 9, 2, (0, 0, 0), 9, 0)), (30, (.iconst 0, 1, (0, 0, 0), 0, 0)), (31, (.invokevirtual 201, 3, (0, 255, 0), 0, 1861))],
  [(34, (.goto (-25), 3, (9, 0, 0), 0, 0)), (37, (.iconst 1, 1, (0, 0, 0), 1, 0)), (38, (.ireturn, 1, (0, 0, 0), 0, 0))]]
set_option maxRecDepth 10000 in
def zp258 : List (List (Nat × ZI)) := [[(0, (.aload_n 0, 1, (0, 0, 0), 0, 0)), (1, (.invokevirtual 109, 3, (0, 236, 0), 0, 1719)), (4, (.aload_n 0, 1, (0, 0, 0), 0, 0)), (5, (.invokevirtual 133, 3, (0, 242, 0), 0, 1742)), (8, (.istore_n 1, 1, (0, 0, 0), 0, 0)), (9, (.iload_n 1, 1, (0, 0, 0), 0, 0)), (10, (.ifCond .lt 8, 3, (18, 0, 0), 0, 0)), (13, (.bipush 6, 2, (0, 0, 0), 6, 0)), (15, (.goto 18, 3, (33, 0, 0), 0, 0)), (18, (.aload_n 0, 1, (0, 0, 0), 0, 0)), (19, (.ldc 193, 2, (1, 35, 0), 0, 1828)), (21, (.invokevirtual 112, 3, (0, 237, 0), 0, 1728)), (24, (.ifCond .eq 8, 3, (32, 0, 0), 0, 0)), (27, (.bipush 7, 2, (0, 0, 0), 7, 0)), (29, (.goto 4, 3, (33, 0, 0), 0, 0))],
  [(32, (.iconst (-1), 1, (0, 0, 0), (-1), 0)), (33, (.istore_n 2, 1, (0, 0, 0), 0, 0)), (34, (.iload_n 2, 1, (0, 0, 0), 0, 0)), (35, (.ifCond .lt 12, 3, (47, 0, 0), 0, 0)), (38, (.aload_n 0, 1, (0, 0, 0), 0, 0)), (39, (.iload_n 2, 1, (0, 0, 0), 0, 0)), (40, (.iload_n 1, 1, (0, 0, 0), 0, 0)), (41, (.invokevirtual 201, 3, (0, 255, 0), 0, 1861)), (44, (.goto 11, 3, (55, 0, 0), 0, 0)), (47, (.aload_n 0, 1, (0, 0, 0), 0, 0)), (48, (.aload_n 0, 1, (0, 0, 0), 0, 0)), (49, (.getfield 94, 3, (12, 12, 0), 0, 1625)), (52, (.putfield 84, 3, (12, 10, 0), 0, 1623)), (55, (.iload_n 2, 1, (0, 0, 0), 0, 0)), (56, (.ifCond .lt 7, 3, (63, 0, 0), 0, 0)), (59, (.iconst 1, 1, (0, 0, 0), 1, 0)), (60, (.goto 4, 3, (64, 0, 0), 0, 0)), (63, (.iconst 0, 1, (0, 0, 0), 0, 0))],
  [(64, (.ireturn, 1, (0, 0, 0), 0, 0))]]
set_option maxRecDepth 10000 in
def zp259 : List (List (Nat × ZI)) := [[(0, (.aload_n 0, 1, (0, 0, 0), 0, 0)), (1, (.bipush 40, 2, (0, 0, 0), 40, 0)), (3, (.invokevirtual 214, 3, (0, 239, 0), 0, 1856)), (6, (.ifCond .eq 50, 3, (56, 0, 0), 0, 0)), (9, (.aload_n 0, 1, (0, 0, 0), 0, 0)), (10, (.getfield 218, 3, (12, 13, 0), 0, 1626)), (13, (.bipush 6, 2, (0, 0, 0), 6, 0)), (15, (.if_icmp .ne 5, 3, (20, 0, 0), 0, 0)), (18, (.iconst 0, 1, (0, 0, 0), 0, 0)), (19, (.ireturn, 1, (0, 0, 0), 0, 0)), (20, (.aload_n 0, 1, (0, 0, 0), 0, 0)), (21, (.dup, 1, (0, 0, 0), 0, 0)), (22, (.getfield 218, 3, (12, 13, 0), 0, 1626)), (25, (.iconst 1, 1, (0, 0, 0), 1, 0)), (26, (.iadd, 1, (0, 0, 0), 0, 0)), (27, (.putfield 218, 3, (12, 13, 0), 0, 1626)), (30, (.aload_n 0, 1, (0, 0, 0), 0, 0)), (31, (.invokevirtual 221, 3, (0, 261, 0), 0, 1844))],
  [(34, (.ifCond .ne 5, 3, (39, 0, 0), 0, 0)), (37, (.iconst 0, 1, (0, 0, 0), 0, 0)), (38, (.ireturn, 1, (0, 0, 0), 0, 0)), (39, (.aload_n 0, 1, (0, 0, 0), 0, 0)), (40, (.dup, 1, (0, 0, 0), 0, 0)), (41, (.getfield 218, 3, (12, 13, 0), 0, 1626)), (44, (.iconst 1, 1, (0, 0, 0), 1, 0)), (45, (.isub, 1, (0, 0, 0), 0, 0)), (46, (.putfield 218, 3, (12, 13, 0), 0, 1626)), (49, (.aload_n 0, 1, (0, 0, 0), 0, 0)), (50, (.bipush 41, 2, (0, 0, 0), 41, 0)), (52, (.invokevirtual 214, 3, (0, 239, 0), 0, 1856)), (55, (.ireturn, 1, (0, 0, 0), 0, 0)), (56, (.aload_n 0, 1, (0, 0, 0), 0, 0)), (57, (.ldc 224, 2, (1, 42, 0), 0, 1860)), (59, (.invokevirtual 226, 3, (0, 238, 0), 0, 1840)), (62, (.ifCond .eq 52, 3, (114, 0, 0), 0, 0))],
  [(65, (.aload_n 0, 1, (0, 0, 0), 0, 0)), (66, (.getfield 218, 3, (12, 13, 0), 0, 1626)), (69, (.bipush 6, 2, (0, 0, 0), 6, 0)), (71, (.if_icmp .ne 5, 3, (76, 0, 0), 0, 0)), (74, (.iconst 0, 1, (0, 0, 0), 0, 0)), (75, (.ireturn, 1, (0, 0, 0), 0, 0)), (76, (.aload_n 0, 1, (0, 0, 0), 0, 0)), (77, (.dup, 1, (0, 0, 0), 0, 0)), (78, (.getfield 218, 3, (12, 13, 0), 0, 1626)), (81, (.iconst 1, 1, (0, 0, 0), 1, 0)), (82, (.iadd, 1, (0, 0, 0), 0, 0)), (83, (.putfield 218, 3, (12, 13, 0), 0, 1626)), (86, (.aload_n 0, 1, (0, 0, 0), 0, 0)), (87, (.invokevirtual 229, 3, (0, 259, 0), 0, 1852)), (90, (.ifCond .ne 5, 3, (95, 0, 0), 0, 0)), (93, (.iconst 0, 1, (0, 0, 0), 0, 0)), (94, (.ireturn, 1, (0, 0, 0), 0, 0)), (95, (.aload_n 0, 1, (0, 0, 0), 0, 0))],
  [(96, (.dup, 1, (0, 0, 0), 0, 0)), (97, (.getfield 218, 3, (12, 13, 0), 0, 1626)), (100, (.iconst 1, 1, (0, 0, 0), 1, 0)), (101, (.isub, 1, (0, 0, 0), 0, 0)), (102, (.putfield 218, 3, (12, 13, 0), 0, 1626)), (105, (.aload_n 0, 1, (0, 0, 0), 0, 0)), (106, (.bipush 12, 2, (0, 0, 0), 12, 0)), (108, (.iconst 0, 1, (0, 0, 0), 0, 0)), (109, (.invokevirtual 201, 3, (0, 255, 0), 0, 1861)), (112, (.iconst 1, 1, (0, 0, 0), 1, 0)), (113, (.ireturn, 1, (0, 0, 0), 0, 0)), (114, (.aload_n 0, 1, (0, 0, 0), 0, 0)), (115, (.invokevirtual 232, 3, (0, 258, 0), 0, 1865)), (118, (.ifCond .eq 5, 3, (123, 0, 0), 0, 0)), (121, (.iconst 1, 1, (0, 0, 0), 1, 0)), (122, (.ireturn, 1, (0, 0, 0), 0, 0)), (123, (.aload_n 0, 1, (0, 0, 0), 0, 0)), (124, (.invokevirtual 235, 3, (0, 257, 0), 0, 1869)), (127, (.ifCond .ne 5, 3, (132, 0, 0), 0, 0))],
  [(130, (.iconst 0, 1, (0, 0, 0), 0, 0)), (131, (.ireturn, 1, (0, 0, 0), 0, 0)), (132, (.aload_n 0, 1, (0, 0, 0), 0, 0)), (133, (.bipush 60, 2, (0, 0, 0), 60, 0)), (135, (.invokevirtual 214, 3, (0, 239, 0), 0, 1856)), (138, (.istore_n 1, 1, (0, 0, 0), 0, 0)), (139, (.iload_n 1, 1, (0, 0, 0), 0, 0)), (140, (.ifCond .ne 12, 3, (152, 0, 0), 0, 0)), (143, (.aload_n 0, 1, (0, 0, 0), 0, 0)), (144, (.bipush 62, 2, (0, 0, 0), 62, 0)), (146, (.invokevirtual 214, 3, (0, 239, 0), 0, 1856)), (149, (.ifCond .eq 10, 3, (159, 0, 0), 0, 0)), (152, (.aload_n 0, 1, (0, 0, 0), 0, 0)), (153, (.invokevirtual 235, 3, (0, 257, 0), 0, 1869)), (156, (.ifCond .ne 5, 3, (161, 0, 0), 0, 0)), (159, (.iconst 0, 1, (0, 0, 0), 0, 0))],
  [(160, (.ireturn, 1, (0, 0, 0), 0, 0)), (161, (.aload_n 0, 1, (0, 0, 0), 0, 0)), (162, (.iload_n 1, 1, (0, 0, 0), 0, 0)), (163, (.ifCond .eq 8, 3, (171, 0, 0), 0, 0)), (166, (.bipush 10, 2, (0, 0, 0), 10, 0)), (168, (.goto 5, 3, (173, 0, 0), 0, 0)), (171, (.bipush 11, 2, (0, 0, 0), 11, 0)), (173, (.iconst 0, 1, (0, 0, 0), 0, 0)), (174, (.invokevirtual 201, 3, (0, 255, 0), 0, 1861)), (177, (.iconst 1, 1, (0, 0, 0), 1, 0)), (178, (.ireturn, 1, (0, 0, 0), 0, 0))]]
set_option maxRecDepth 10000 in
def zp260 : List (List (Nat × ZI)) := [[(0, (.aload_n 0, 1, (0, 0, 0), 0, 0)), (1, (.invokevirtual 229, 3, (0, 259, 0), 0, 1852)), (4, (.ifCond .ne 5, 3, (9, 0, 0), 0, 0)), (7, (.iconst 0, 1, (0, 0, 0), 0, 0)), (8, (.ireturn, 1, (0, 0, 0), 0, 0)), (9, (.aload_n 0, 1, (0, 0, 0), 0, 0)), (10, (.ldc 238, 2, (1, 46, 0), 0, 1880)), (12, (.invokevirtual 226, 3, (0, 238, 0), 0, 1840)), (15, (.ifCond .eq 22, 3, (37, 0, 0), 0, 0)), (18, (.aload_n 0, 1, (0, 0, 0), 0, 0)), (19, (.invokevirtual 229, 3, (0, 259, 0), 0, 1852)), (22, (.ifCond .ne 5, 3, (27, 0, 0), 0, 0)), (25, (.iconst 0, 1, (0, 0, 0), 0, 0)), (26, (.ireturn, 1, (0, 0, 0), 0, 0)), (27, (.aload_n 0, 1, (0, 0, 0), 0, 0)), (28, (.bipush 13, 2, (0, 0, 0), 13, 0)), (30, (.iconst 0, 1, (0, 0, 0), 0, 0)), (31, (.invokevirtual 201, 3, (0, 255, 0), 0, 1861))],
  [(34, (.goto (-25), 3, (9, 0, 0), 0, 0)), (37, (.iconst 1, 1, (0, 0, 0), 1, 0)), (38, (.ireturn, 1, (0, 0, 0), 0, 0))]]
set_option maxRecDepth 10000 in
def zp261 : List (List (Nat × ZI)) := [[(0, (.aload_n 0, 1, (0, 0, 0), 0, 0)), (1, (.invokevirtual 240, 3, (0, 260, 0), 0, 1848)), (4, (.ifCond .ne 5, 3, (9, 0, 0), 0, 0)), (7, (.iconst 0, 1, (0, 0, 0), 0, 0)), (8, (.ireturn, 1, (0, 0, 0), 0, 0)), (9, (.aload_n 0, 1, (0, 0, 0), 0, 0)), (10, (.ldc 243, 2, (1, 47, 0), 0, 1881)), (12, (.invokevirtual 226, 3, (0, 238, 0), 0, 1840)), (15, (.ifCond .eq 22, 3, (37, 0, 0), 0, 0)), (18, (.aload_n 0, 1, (0, 0, 0), 0, 0)), (19, (.invokevirtual 240, 3, (0, 260, 0), 0, 1848)), (22, (.ifCond .ne 5, 3, (27, 0, 0), 0, 0)), (25, (.iconst 0, 1, (0, 0, 0), 0, 0)), (26, (.ireturn, 1, (0, 0, 0), 0, 0)), (27, (.aload_n 0, 1, (0, 0, 0), 0, 0)), (28, (.bipush 14, 2, (0, 0, 0), 14, 0)), (30, (.iconst 0, 1, (0, 0, 0), 0, 0)), (31, (.invokevirtual 201, 3, (0, 255, 0), 0, 1861))],
  [(34, (.goto (-25), 3, (9, 0, 0), 0, 0)), (37, (.iconst 1, 1, (0, 0, 0), 1, 0)), (38, (.ireturn, 1, (0, 0, 0), 0, 0))]]
set_option maxRecDepth 10000 in
def zp262 : List (List (Nat × ZI)) := [[(0, (.sipush 1627, 3, (0, 0, 0), 1627, 0)), (3, (.iconst 4, 1, (0, 0, 0), 4, 0)), (4, (.iload_n 1, 1, (0, 0, 0), 0, 0)), (5, (.imul, 1, (0, 0, 0), 0, 0)), (6, (.iadd, 1, (0, 0, 0), 0, 0)), (7, (.istore_n 2, 1, (0, 0, 0), 0, 0)), (8, (.aload_n 0, 1, (0, 0, 0), 0, 0)), (9, (.getfield 13, 3, (12, 1, 0), 0, 1614)), (12, (.iload_n 2, 1, (0, 0, 0), 0, 0)), (13, (.aload_n 0, 1, (0, 0, 0), 0, 0)), (14, (.ldc 245, 2, (1, 37, 0), 0, 1835)), (16, (.invokevirtual 112, 3, (0, 237, 0), 0, 1728)), (19, (.ifCond .eq 7, 3, (26, 0, 0), 0, 0)), (22, (.iconst 0, 1, (0, 0, 0), 0, 0)), (23, (.goto 43, 3, (66, 0, 0), 0, 0)), (26, (.aload_n 0, 1, (0, 0, 0), 0, 0)), (27, (.ldc 247, 2, (1, 38, 0), 0, 1836)), (29, (.invokevirtual 112, 3, (0, 237, 0), 0, 1728))],
  [(32, (.ifCond .eq 7, 3, (39, 0, 0), 0, 0)), (35, (.iconst 1, 1, (0, 0, 0), 1, 0)), (36, (.goto 30, 3, (66, 0, 0), 0, 0)), (39, (.aload_n 0, 1, (0, 0, 0), 0, 0)), (40, (.ldc 249, 2, (1, 39, 0), 0, 1837)), (42, (.invokevirtual 112, 3, (0, 237, 0), 0, 1728)), (45, (.ifCond .eq 7, 3, (52, 0, 0), 0, 0)), (48, (.iconst 2, 1, (0, 0, 0), 2, 0)), (49, (.goto 17, 3, (66, 0, 0), 0, 0)), (52, (.aload_n 0, 1, (0, 0, 0), 0, 0)), (53, (.ldc 251, 2, (1, 40, 0), 0, 1838)), (55, (.invokevirtual 112, 3, (0, 237, 0), 0, 1728)), (58, (.ifCond .eq 7, 3, (65, 0, 0), 0, 0)), (61, (.iconst 3, 1, (0, 0, 0), 3, 0)), (62, (.goto 4, 3, (66, 0, 0), 0, 0))],
  [(65, (.iconst (-1), 1, (0, 0, 0), (-1), 0)), (66, (.iastore, 1, (0, 0, 0), 0, 0)), (67, (.aload_n 0, 1, (0, 0, 0), 0, 0)), (68, (.getfield 13, 3, (12, 1, 0), 0, 1614)), (71, (.iload_n 2, 1, (0, 0, 0), 0, 0)), (72, (.iaload, 1, (0, 0, 0), 0, 0)), (73, (.ifCond .ge 5, 3, (78, 0, 0), 0, 0)), (76, (.iconst 0, 1, (0, 0, 0), 0, 0)), (77, (.ireturn, 1, (0, 0, 0), 0, 0)), (78, (.aload_n 0, 1, (0, 0, 0), 0, 0)), (79, (.getfield 13, 3, (12, 1, 0), 0, 1614)), (82, (.iload_n 2, 1, (0, 0, 0), 0, 0)), (83, (.iconst 1, 1, (0, 0, 0), 1, 0)), (84, (.iadd, 1, (0, 0, 0), 0, 0)), (85, (.aload_n 0, 1, (0, 0, 0), 0, 0)), (86, (.iconst 0, 1, (0, 0, 0), 0, 0)), (87, (.sipush 999, 3, (0, 0, 0), 999, 0)), (90, (.iconst 3, 1, (0, 0, 0), 3, 0)), (91, (.invokevirtual 116, 3, (0, 240, 0), 0, 1755)), (94, (.iastore, 1, (0, 0, 0), 0, 0)), (95, (.aload_n 0, 1, (0, 0, 0), 0, 0))],
  [(96, (.getfield 13, 3, (12, 1, 0), 0, 1614)), (99, (.iload_n 2, 1, (0, 0, 0), 0, 0)), (100, (.iconst 1, 1, (0, 0, 0), 1, 0)), (101, (.iadd, 1, (0, 0, 0), 0, 0)), (102, (.iaload, 1, (0, 0, 0), 0, 0)), (103, (.ifCond .ge 5, 3, (108, 0, 0), 0, 0)), (106, (.iconst 0, 1, (0, 0, 0), 0, 0)), (107, (.ireturn, 1, (0, 0, 0), 0, 0)), (108, (.aload_n 0, 1, (0, 0, 0), 0, 0)), (109, (.getfield 13, 3, (12, 1, 0), 0, 1614)), (112, (.iload_n 2, 1, (0, 0, 0), 0, 0)), (113, (.iconst 2, 1, (0, 0, 0), 2, 0)), (114, (.iadd, 1, (0, 0, 0), 0, 0)), (115, (.aload_n 0, 1, (0, 0, 0), 0, 0)), (116, (.getfield 198, 3, (12, 16, 0), 0, 1629)), (119, (.iastore, 1, (0, 0, 0), 0, 0)), (120, (.aload_n 0, 1, (0, 0, 0), 0, 0)), (121, (.iconst 0, 1, (0, 0, 0), 0, 0)), (122, (.putfield 218, 3, (12, 13, 0), 0, 1626)), (125, (.aload_n 0, 1, (0, 0, 0), 0, 0)), (126, (.ldc 253, 2, (1, 41, 0), 0, 1839))],
  [(128, (.invokevirtual 226, 3, (0, 238, 0), 0, 1840)), (131, (.ifCond .eq 12, 3, (143, 0, 0), 0, 0)), (134, (.aload_n 0, 1, (0, 0, 0), 0, 0)), (135, (.invokevirtual 221, 3, (0, 261, 0), 0, 1844)), (138, (.ifCond .ne 5, 3, (143, 0, 0), 0, 0)), (141, (.iconst 0, 1, (0, 0, 0), 0, 0)), (142, (.ireturn, 1, (0, 0, 0), 0, 0)), (143, (.aload_n 0, 1, (0, 0, 0), 0, 0)), (144, (.getfield 13, 3, (12, 1, 0), 0, 1614)), (147, (.iload_n 2, 1, (0, 0, 0), 0, 0)), (148, (.iconst 3, 1, (0, 0, 0), 3, 0)), (149, (.iadd, 1, (0, 0, 0), 0, 0)), (150, (.aload_n 0, 1, (0, 0, 0), 0, 0)), (151, (.getfield 198, 3, (12, 16, 0), 0, 1629)), (154, (.iastore, 1, (0, 0, 0), 0, 0)), (155, (.iconst 1, 1, (0, 0, 0), 1, 0)), (156, (.ireturn, 1, (0, 0, 0), 0, 0))]]
set_option maxRecDepth 10000 in
def zp263 : List (List (Nat × ZI)) := [[(0, (.aload_n 0, 1, (0, 0, 0), 0, 0)), (1, (.invokevirtual 109, 3, (0, 236, 0), 0, 1719)), (4, (.iload_n 2, 1, (0, 0, 0), 0, 0)), (5, (.iload_n 1, 1, (0, 0, 0), 0, 0)), (6, (.ifCond .eq 8, 3, (14, 0, 0), 0, 0)), (9, (.bipush 14, 2, (0, 0, 0), 14, 0)), (11, (.goto 5, 3, (16, 0, 0), 0, 0)), (14, (.bipush 12, 2, (0, 0, 0), 12, 0)), (16, (.if_icmp .ge 29, 3, (45, 0, 0), 0, 0)), (19, (.iload_n 1, 1, (0, 0, 0), 0, 0)), (20, (.ifCond .eq 13, 3, (33, 0, 0), 0, 0)), (23, (.aload_n 0, 1, (0, 0, 0), 0, 0)), (24, (.invokevirtual 255, 3, (0, 254, 0), 0, 1723)), (27, (.ifCond .eq 18, 3, (45, 0, 0), 0, 0)), (30, (.goto 11, 3, (41, 0, 0), 0, 0))],
  [(33, (.aload_n 0, 1, (0, 0, 0), 0, 0)), (34, (.iload_n 2, 1, (0, 0, 0), 0, 0)), (35, (.invokevirtual 258, 3, (0, 262, 0), 0, 1831)), (38, (.ifCond .eq 7, 3, (45, 0, 0), 0, 0)), (41, (.iconst 1, 1, (0, 0, 0), 1, 0)), (42, (.goto 4, 3, (46, 0, 0), 0, 0)), (45, (.iconst 0, 1, (0, 0, 0), 0, 0)), (46, (.ireturn, 1, (0, 0, 0), 0, 0))]]
set_option maxRecDepth 10000 in
def zp264 : List (List (Nat × ZI)) := [[(0, (.aload_n 0, 1, (0, 0, 0), 0, 0)), (1, (.invokevirtual 261, 3, (0, 244, 0), 0, 1703)), (4, (.aload_n 0, 1, (0, 0, 0), 0, 0)), (5, (.iconst 0, 1, (0, 0, 0), 0, 0)), (6, (.putfield 198, 3, (12, 16, 0), 0, 1629)), (9, (.aload_n 0, 1, (0, 0, 0), 0, 0)), (10, (.invokevirtual 97, 3, (0, 235, 0), 0, 1707)), (13, (.aload_n 0, 1, (0, 0, 0), 0, 0)), (14, (.getfield 84, 3, (12, 10, 0), 0, 1623)), (17, (.aload_n 0, 1, (0, 0, 0), 0, 0)), (18, (.getfield 87, 3, (12, 11, 0), 0, 1624)), (21, (.if_icmp .ne 5, 3, (26, 0, 0), 0, 0)), (24, (.iconst 0, 1, (0, 0, 0), 0, 0)), (25, (.ireturn, 1, (0, 0, 0), 0, 0)), (26, (.iconst 0, 1, (0, 0, 0), 0, 0)), (27, (.istore_n 2, 1, (0, 0, 0), 0, 0)), (28, (.aload_n 0, 1, (0, 0, 0), 0, 0)), (29, (.iload_n 1, 1, (0, 0, 0), 0, 0)), (30, (.iload_n 2, 1, (0, 0, 0), 0, 0)), (31, (.invokevirtual 264, 3, (0, 263, 0), 0, 1715))],
  [(34, (.ifCond .ne 5, 3, (39, 0, 0), 0, 0)), (37, (.iconst (-1), 1, (0, 0, 0), (-1), 0)), (38, (.ireturn, 1, (0, 0, 0), 0, 0)), (39, (.aload_n 0, 1, (0, 0, 0), 0, 0)), (40, (.invokevirtual 97, 3, (0, 235, 0), 0, 1707)), (43, (.aload_n 0, 1, (0, 0, 0), 0, 0)), (44, (.getfield 84, 3, (12, 10, 0), 0, 1623)), (47, (.aload_n 0, 1, (0, 0, 0), 0, 0)), (48, (.getfield 87, 3, (12, 11, 0), 0, 1624)), (51, (.if_icmp .ne 7, 3, (58, 0, 0), 0, 0)), (54, (.iload_n 2, 1, (0, 0, 0), 0, 0)), (55, (.iconst 1, 1, (0, 0, 0), 1, 0)), (56, (.iadd, 1, (0, 0, 0), 0, 0)), (57, (.ireturn, 1, (0, 0, 0), 0, 0)), (58, (.aload_n 0, 1, (0, 0, 0), 0, 0)), (59, (.bipush 59, 2, (0, 0, 0), 59, 0)), (61, (.bipush 59, 2, (0, 0, 0), 59, 0)), (63, (.invokevirtual 90, 3, (0, 234, 0), 0, 1711))],
  [(66, (.ifCond .ne 5, 3, (71, 0, 0), 0, 0)), (69, (.iconst (-1), 1, (0, 0, 0), (-1), 0)), (70, (.ireturn, 1, (0, 0, 0), 0, 0)), (71, (.aload_n 0, 1, (0, 0, 0), 0, 0)), (72, (.dup, 1, (0, 0, 0), 0, 0)), (73, (.getfield 84, 3, (12, 10, 0), 0, 1623)), (76, (.iconst 1, 1, (0, 0, 0), 1, 0)), (77, (.iadd, 1, (0, 0, 0), 0, 0)), (78, (.putfield 84, 3, (12, 10, 0), 0, 1623)), (81, (.iinc 2 1, 3, (0, 0, 0), 1, 0)), (84, (.goto (-56), 3, (28, 0, 0), 0, 0))]]
set_option maxRecDepth 10000 in
def zp265 : List (List (Nat × ZI)) := [[(0, (.iconst 0, 1, (0, 0, 0), 0, 0)), (1, (.istore_n 1, 1, (0, 0, 0), 0, 0)), (2, (.iload_n 1, 1, (0, 0, 0), 0, 0)), (3, (.sipush 1626, 3, (0, 0, 0), 1626, 0)), (6, (.if_icmp .ge 21, 3, (27, 0, 0), 0, 0)), (9, (.aload_n 0, 1, (0, 0, 0), 0, 0)), (10, (.getfield 20, 3, (12, 3, 0), 0, 1616)), (13, (.iload_n 1, 1, (0, 0, 0), 0, 0)), (14, (.aload_n 0, 1, (0, 0, 0), 0, 0)), (15, (.getfield 13, 3, (12, 1, 0), 0, 1614)), (18, (.iload_n 1, 1, (0, 0, 0), 0, 0)), (19, (.iaload, 1, (0, 0, 0), 0, 0)), (20, (.iastore, 1, (0, 0, 0), 0, 0)), (21, (.iinc 1 1, 3, (0, 0, 0), 1, 0)), (24, (.goto (-22), 3, (2, 0, 0), 0, 0)), (27, (.aload_n 0, 1, (0, 0, 0), 0, 0)), (28, (.iconst 1, 1, (0, 0, 0), 1, 0)), (29, (.invokevirtual 268, 3, (0, 264, 0), 0, 1699))],
  [(32, (.istore_n 1, 1, (0, 0, 0), 0, 0)), (33, (.aload_n 0, 1, (0, 0, 0), 0, 0)), (34, (.iload_n 1, 1, (0, 0, 0), 0, 0)), (35, (.ifCond .ge 10, 3, (45, 0, 0), 0, 0)), (38, (.aload_n 0, 1, (0, 0, 0), 0, 0)), (39, (.getfield 94, 3, (12, 12, 0), 0, 1625)), (42, (.goto 4, 3, (46, 0, 0), 0, 0)), (45, (.iconst (-1), 1, (0, 0, 0), (-1), 0)), (46, (.putfield 33, 3, (12, 14, 0), 0, 1627)), (49, (.aload_n 0, 1, (0, 0, 0), 0, 0)), (50, (.iload_n 1, 1, (0, 0, 0), 0, 0)), (51, (.ifCond .ge 7, 3, (58, 0, 0), 0, 0)), (54, (.iconst 1, 1, (0, 0, 0), 1, 0)), (55, (.goto 4, 3, (59, 0, 0), 0, 0)), (58, (.iconst 0, 1, (0, 0, 0), 0, 0)), (59, (.iconst 1, 1, (0, 0, 0), 1, 0)), (60, (.invokevirtual 272, 3, (0, 208, 0), 0, 1882)), (63, (.ifCond .ne 27, 3, (90, 0, 0), 0, 0))],
  [(66, (.aload_n 0, 1, (0, 0, 0), 0, 0)), (67, (.aload_n 0, 1, (0, 0, 0), 0, 0)), (68, (.getfield 13, 3, (12, 1, 0), 0, 1614)), (71, (.iconst 3, 1, (0, 0, 0), 3, 0)), (72, (.iaload, 1, (0, 0, 0), 0, 0)), (73, (.bipush 12, 2, (0, 0, 0), 12, 0)), (75, (.if_icmp .ne 7, 3, (82, 0, 0), 0, 0)), (78, (.iconst 1, 1, (0, 0, 0), 1, 0)), (79, (.goto 4, 3, (83, 0, 0), 0, 0)), (82, (.iconst 0, 1, (0, 0, 0), 0, 0)), (83, (.iconst 2, 1, (0, 0, 0), 2, 0)), (84, (.invokevirtual 272, 3, (0, 208, 0), 0, 1882)), (87, (.ifCond .eq 32, 3, (119, 0, 0), 0, 0)), (90, (.iconst 0, 1, (0, 0, 0), 0, 0)), (91, (.istore_n 2, 1, (0, 0, 0), 0, 0)), (92, (.iload_n 2, 1, (0, 0, 0), 0, 0)), (93, (.sipush 1626, 3, (0, 0, 0), 1626, 0))],
  [(96, (.if_icmp .ge 21, 3, (117, 0, 0), 0, 0)), (99, (.aload_n 0, 1, (0, 0, 0), 0, 0)), (100, (.getfield 13, 3, (12, 1, 0), 0, 1614)), (103, (.iload_n 2, 1, (0, 0, 0), 0, 0)), (104, (.aload_n 0, 1, (0, 0, 0), 0, 0)), (105, (.getfield 20, 3, (12, 3, 0), 0, 1616)), (108, (.iload_n 2, 1, (0, 0, 0), 0, 0)), (109, (.iaload, 1, (0, 0, 0), 0, 0)), (110, (.iastore, 1, (0, 0, 0), 0, 0)), (111, (.iinc 2 1, 3, (0, 0, 0), 1, 0)), (114, (.goto (-22), 3, (92, 0, 0), 0, 0)), (117, (.iconst 0, 1, (0, 0, 0), 0, 0)), (118, (.ireturn, 1, (0, 0, 0), 0, 0)), (119, (.aload_n 0, 1, (0, 0, 0), 0, 0)), (120, (.getfield 13, 3, (12, 1, 0), 0, 1614)), (123, (.iconst 3, 1, (0, 0, 0), 3, 0)), (124, (.dup2, 1, (0, 0, 0), 0, 0)), (125, (.iaload, 1, (0, 0, 0), 0, 0)), (126, (.iconst 1, 1, (0, 0, 0), 1, 0)), (127, (.iadd, 1, (0, 0, 0), 0, 0))],
  [(128, (.iastore, 1, (0, 0, 0), 0, 0)), (129, (.aload_n 0, 1, (0, 0, 0), 0, 0)), (130, (.iconst 0, 1, (0, 0, 0), 0, 0)), (131, (.putfield 49, 3, (12, 7, 0), 0, 1620)), (134, (.aload_n 0, 1, (0, 0, 0), 0, 0)), (135, (.getfield 13, 3, (12, 1, 0), 0, 1614)), (138, (.iconst 3, 1, (0, 0, 0), 3, 0)), (139, (.iaload, 1, (0, 0, 0), 0, 0)), (140, (.ireturn, 1, (0, 0, 0), 0, 0))]]
set_option maxRecDepth 10000 in
def zp266 : List (List (Nat × ZI)) := [[(0, (.aload_n 0, 1, (0, 0, 0), 0, 0)), (1, (.iconst 0, 1, (0, 0, 0), 0, 0)), (2, (.invokevirtual 268, 3, (0, 264, 0), 0, 1699)), (5, (.istore_n 1, 1, (0, 0, 0), 0, 0)), (6, (.aload_n 0, 1, (0, 0, 0), 0, 0)), (7, (.iload_n 1, 1, (0, 0, 0), 0, 0)), (8, (.ifCond .ge 10, 3, (18, 0, 0), 0, 0)), (11, (.aload_n 0, 1, (0, 0, 0), 0, 0)), (12, (.getfield 94, 3, (12, 12, 0), 0, 1625)), (15, (.goto 4, 3, (19, 0, 0), 0, 0)), (18, (.iconst (-1), 1, (0, 0, 0), (-1), 0)), (19, (.putfield 33, 3, (12, 14, 0), 0, 1627)), (22, (.aload_n 0, 1, (0, 0, 0), 0, 0)), (23, (.iload_n 1, 1, (0, 0, 0), 0, 0)), (24, (.ifCond .ge 7, 3, (31, 0, 0), 0, 0)), (27, (.iconst 1, 1, (0, 0, 0), 1, 0)), (28, (.goto 4, 3, (32, 0, 0), 0, 0)), (31, (.iconst 0, 1, (0, 0, 0), 0, 0))],
  [(32, (.iconst 1, 1, (0, 0, 0), 1, 0)), (33, (.invokevirtual 272, 3, (0, 208, 0), 0, 1882)), (36, (.ifCond .eq 5, 3, (41, 0, 0), 0, 0)), (39, (.iconst 0, 1, (0, 0, 0), 0, 0)), (40, (.ireturn, 1, (0, 0, 0), 0, 0)), (41, (.aload_n 0, 1, (0, 0, 0), 0, 0)), (42, (.getfield 13, 3, (12, 1, 0), 0, 1614)), (45, (.sipush 1626, 3, (0, 0, 0), 1626, 0)), (48, (.iload_n 1, 1, (0, 0, 0), 0, 0)), (49, (.iastore, 1, (0, 0, 0), 0, 0)), (50, (.iconst 0, 1, (0, 0, 0), 0, 0)), (51, (.istore_n 2, 1, (0, 0, 0), 0, 0)), (52, (.iload_n 2, 1, (0, 0, 0), 0, 0)), (53, (.sipush 849, 3, (0, 0, 0), 849, 0)), (56, (.if_icmp .ge 29, 3, (85, 0, 0), 0, 0)), (59, (.aload_n 0, 1, (0, 0, 0), 0, 0)), (60, (.getfield 13, 3, (12, 1, 0), 0, 1614)), (63, (.sipush 777, 3, (0, 0, 0), 777, 0))],
  [(66, (.iload_n 2, 1, (0, 0, 0), 0, 0)), (67, (.iadd, 1, (0, 0, 0), 0, 0)), (68, (.aload_n 0, 1, (0, 0, 0), 0, 0)), (69, (.getfield 13, 3, (12, 1, 0), 0, 1614)), (72, (.sipush 1626, 3, (0, 0, 0), 1626, 0)), (75, (.iload_n 2, 1, (0, 0, 0), 0, 0)), (76, (.iadd, 1, (0, 0, 0), 0, 0)), (77, (.iaload, 1, (0, 0, 0), 0, 0)), (78, (.iastore, 1, (0, 0, 0), 0, 0)), (79, (.iinc 2 1, 3, (0, 0, 0), 1, 0)), (82, (.goto (-30), 3, (52, 0, 0), 0, 0)), (85, (.aload_n 0, 1, (0, 0, 0), 0, 0)), (86, (.getfield 13, 3, (12, 1, 0), 0, 1614)), (89, (.iconst 4, 1, (0, 0, 0), 4, 0)), (90, (.iconst 1, 1, (0, 0, 0), 1, 0)), (91, (.iastore, 1, (0, 0, 0), 0, 0)), (92, (.aload_n 0, 1, (0, 0, 0), 0, 0)), (93, (.iconst 0, 1, (0, 0, 0), 0, 0)), (94, (.putfield 49, 3, (12, 7, 0), 0, 1620))],
  [(97, (.iload_n 1, 1, (0, 0, 0), 0, 0)), (98, (.ireturn, 1, (0, 0, 0), 0, 0))]]
set_option maxRecDepth 10000 in
def zp267 : List (List (Nat × ZI)) := [[(0, (.iload_n 1, 1, (0, 0, 0), 0, 0)), (1, (.tableswitch 126 0 7 #[47, 49, 52, 67, 74, 81, 89, 106], 47, (8, 0, 0), 0, 0))],
  [(48, (.iload_n 3, 1, (0, 0, 0), 0, 0)), (49, (.ireturn, 1, (0, 0, 0), 0, 0)), (50, (.iload 4, 2, (0, 0, 0), 0, 0)), (52, (.ireturn, 1, (0, 0, 0), 0, 0)), (53, (.iload 5, 2, (0, 0, 0), 0, 0)), (55, (.ifCond .eq 7, 3, (62, 0, 0), 0, 0)), (58, (.iconst 0, 1, (0, 0, 0), 0, 0)), (59, (.goto 8, 3, (67, 0, 0), 0, 0)), (62, (.aload_n 0, 1, (0, 0, 0), 0, 0)), (63, (.iload_n 3, 1, (0, 0, 0), 0, 0))],
  [(64, (.invokevirtual 149, 3, (0, 226, 0), 0, 1804)), (67, (.ireturn, 1, (0, 0, 0), 0, 0)), (68, (.aload_n 0, 1, (0, 0, 0), 0, 0)), (69, (.iload 4, 2, (0, 0, 0), 0, 0)), (71, (.invokevirtual 275, 3, (0, 225, 0), 0, 1905)), (74, (.ireturn, 1, (0, 0, 0), 0, 0)), (75, (.aload_n 0, 1, (0, 0, 0), 0, 0)), (76, (.getfield 13, 3, (12, 1, 0), 0, 1614)), (79, (.iconst 5, 1, (0, 0, 0), 5, 0)), (80, (.iaload, 1, (0, 0, 0), 0, 0)), (81, (.ireturn, 1, (0, 0, 0), 0, 0)), (82, (.aload_n 0, 1, (0, 0, 0), 0, 0)), (83, (.iload 4, 2, (0, 0, 0), 0, 0)), (85, (.iconst 2, 1, (0, 0, 0), 2, 0)), (86, (.invokevirtual 77, 3, (0, 220, 0), 0, 1901)), (89, (.ireturn, 1, (0, 0, 0), 0, 0)), (90, (.aload_n 0, 1, (0, 0, 0), 0, 0)), (91, (.iload 4, 2, (0, 0, 0), 0, 0)), (93, (.iconst 0, 1, (0, 0, 0), 0, 0)), (94, (.invokevirtual 77, 3, (0, 220, 0), 0, 1901))],
  [(97, (.iload_n 2, 1, (0, 0, 0), 0, 0)), (98, (.if_icmp .ne 7, 3, (105, 0, 0), 0, 0)), (101, (.iconst 1, 1, (0, 0, 0), 1, 0)), (102, (.goto 4, 3, (106, 0, 0), 0, 0)), (105, (.iconst 0, 1, (0, 0, 0), 0, 0)), (106, (.ireturn, 1, (0, 0, 0), 0, 0)), (107, (.iload 5, 2, (0, 0, 0), 0, 0)), (109, (.ifCond .ne 16, 3, (125, 0, 0), 0, 0)), (112, (.aload_n 0, 1, (0, 0, 0), 0, 0)), (113, (.iload_n 3, 1, (0, 0, 0), 0, 0)), (114, (.iconst 2, 1, (0, 0, 0), 2, 0)), (115, (.invokevirtual 59, 3, (0, 221, 0), 0, 1787)), (118, (.ifCond .le 7, 3, (125, 0, 0), 0, 0)), (121, (.iconst 1, 1, (0, 0, 0), 1, 0)), (122, (.goto 4, 3, (126, 0, 0), 0, 0)), (125, (.iconst 0, 1, (0, 0, 0), 0, 0)), (126, (.ireturn, 1, (0, 0, 0), 0, 0)), (127, (.iload_n 2, 1, (0, 0, 0), 0, 0))],
  [(128, (.ireturn, 1, (0, 0, 0), 0, 0))]]
set_option maxRecDepth 10000 in
def zp268 : List (List (Nat × ZI)) := [[(0, (.iconst 0, 1, (0, 0, 0), 0, 0)), (1, (.istore 5, 2, (0, 0, 0), 0, 0)), (3, (.sipush 778, 3, (0, 0, 0), 778, 0)), (6, (.iconst 4, 1, (0, 0, 0), 4, 0)), (7, (.iload_n 1, 1, (0, 0, 0), 0, 0)), (8, (.imul, 1, (0, 0, 0), 0, 0)), (9, (.iadd, 1, (0, 0, 0), 0, 0)), (10, (.istore 6, 2, (0, 0, 0), 0, 0)), (12, (.aload_n 0, 1, (0, 0, 0), 0, 0)), (13, (.getfield 13, 3, (12, 1, 0), 0, 1614)), (16, (.iload 6, 2, (0, 0, 0), 0, 0)), (18, (.iconst 2, 1, (0, 0, 0), 2, 0)), (19, (.iadd, 1, (0, 0, 0), 0, 0)), (20, (.iaload, 1, (0, 0, 0), 0, 0)), (21, (.istore 7, 2, (0, 0, 0), 0, 0)), (23, (.iload 7, 2, (0, 0, 0), 0, 0)), (25, (.aload_n 0, 1, (0, 0, 0), 0, 0)), (26, (.getfield 13, 3, (12, 1, 0), 0, 1614)), (29, (.iload 6, 2, (0, 0, 0), 0, 0)), (31, (.iconst 3, 1, (0, 0, 0), 3, 0))],
  [(32, (.iadd, 1, (0, 0, 0), 0, 0)), (33, (.iaload, 1, (0, 0, 0), 0, 0)), (34, (.if_icmp .ge 239, 3, (273, 0, 0), 0, 0)), (37, (.aload_n 0, 1, (0, 0, 0), 0, 0)), (38, (.getfield 13, 3, (12, 1, 0), 0, 1614)), (41, (.sipush 826, 3, (0, 0, 0), 826, 0)), (44, (.iconst 2, 1, (0, 0, 0), 2, 0)), (45, (.iload 7, 2, (0, 0, 0), 0, 0)), (47, (.imul, 1, (0, 0, 0), 0, 0)), (48, (.iadd, 1, (0, 0, 0), 0, 0)), (49, (.iaload, 1, (0, 0, 0), 0, 0)), (50, (.istore 8, 2, (0, 0, 0), 0, 0)), (52, (.iload 8, 2, (0, 0, 0), 0, 0)), (54, (.bipush 8, 2, (0, 0, 0), 8, 0)), (56, (.if_icmp .gt 41, 3, (97, 0, 0), 0, 0)), (59, (.aload_n 0, 1, (0, 0, 0), 0, 0)), (60, (.getfield 39, 3, (12, 17, 0), 0, 1630)), (63, (.iload 5, 2, (0, 0, 0), 0, 0))],
  [(65, (.aload_n 0, 1, (0, 0, 0), 0, 0)), (66, (.iload 8, 2, (0, 0, 0), 0, 0)), (68, (.aload_n 0, 1, (0, 0, 0), 0, 0)), (69, (.getfield 13, 3, (12, 1, 0), 0, 1614)), (72, (.sipush 826, 3, (0, 0, 0), 826, 0)), (75, (.iconst 2, 1, (0, 0, 0), 2, 0)), (76, (.iload 7, 2, (0, 0, 0), 0, 0)), (78, (.imul, 1, (0, 0, 0), 0, 0)), (79, (.iadd, 1, (0, 0, 0), 0, 0)), (80, (.iconst 1, 1, (0, 0, 0), 1, 0)), (81, (.iadd, 1, (0, 0, 0), 0, 0)), (82, (.iaload, 1, (0, 0, 0), 0, 0)), (83, (.iload_n 2, 1, (0, 0, 0), 0, 0)), (84, (.iload_n 3, 1, (0, 0, 0), 0, 0)), (85, (.iload 4, 2, (0, 0, 0), 0, 0)), (87, (.invokevirtual 277, 3, (0, 267, 0), 0, 1929)), (90, (.iastore, 1, (0, 0, 0), 0, 0)), (91, (.iinc 5 1, 3, (0, 0, 0), 1, 0)), (94, (.goto 173, 3, (267, 0, 0), 0, 0))],
  [(97, (.iload 8, 2, (0, 0, 0), 0, 0)), (99, (.bipush 12, 2, (0, 0, 0), 12, 0)), (101, (.if_icmp .ne 26, 3, (127, 0, 0), 0, 0)), (104, (.aload_n 0, 1, (0, 0, 0), 0, 0)), (105, (.getfield 39, 3, (12, 17, 0), 0, 1630)), (108, (.iload 5, 2, (0, 0, 0), 0, 0)), (110, (.iconst 1, 1, (0, 0, 0), 1, 0)), (111, (.isub, 1, (0, 0, 0), 0, 0)), (112, (.iconst 1, 1, (0, 0, 0), 1, 0)), (113, (.aload_n 0, 1, (0, 0, 0), 0, 0)), (114, (.getfield 39, 3, (12, 17, 0), 0, 1630)), (117, (.iload 5, 2, (0, 0, 0), 0, 0)), (119, (.iconst 1, 1, (0, 0, 0), 1, 0)), (120, (.isub, 1, (0, 0, 0), 0, 0)), (121, (.iaload, 1, (0, 0, 0), 0, 0)), (122, (.isub, 1, (0, 0, 0), 0, 0)), (123, (.iastore, 1, (0, 0, 0), 0, 0)), (124, (.goto 143, 3, (267, 0, 0), 0, 0)), (127, (.iinc 5 (-1), 3, (0, 0, 0), (-1), 0))],
  [(130, (.aload_n 0, 1, (0, 0, 0), 0, 0)), (131, (.getfield 39, 3, (12, 17, 0), 0, 1630)), (134, (.iload 5, 2, (0, 0, 0), 0, 0)), (136, (.iconst 1, 1, (0, 0, 0), 1, 0)), (137, (.isub, 1, (0, 0, 0), 0, 0)), (138, (.iaload, 1, (0, 0, 0), 0, 0)), (139, (.istore 9, 2, (0, 0, 0), 0, 0)), (141, (.aload_n 0, 1, (0, 0, 0), 0, 0)), (142, (.getfield 39, 3, (12, 17, 0), 0, 1630)), (145, (.iload 5, 2, (0, 0, 0), 0, 0)), (147, (.iaload, 1, (0, 0, 0), 0, 0)), (148, (.istore 10, 2, (0, 0, 0), 0, 0)), (150, (.iload 8, 2, (0, 0, 0), 0, 0)), (152, (.bipush 10, 2, (0, 0, 0), 10, 0)), (154, (.if_icmp .ne 18, 3, (172, 0, 0), 0, 0)), (157, (.iload 9, 2, (0, 0, 0), 0, 0)), (159, (.iload 10, 2, (0, 0, 0), 0, 0))],
  [(161, (.if_icmp .ge 7, 3, (168, 0, 0), 0, 0)), (164, (.iconst 1, 1, (0, 0, 0), 1, 0)), (165, (.goto 66, 3, (231, 0, 0), 0, 0)), (168, (.iconst 0, 1, (0, 0, 0), 0, 0)), (169, (.goto 62, 3, (231, 0, 0), 0, 0)), (172, (.iload 8, 2, (0, 0, 0), 0, 0)), (174, (.bipush 11, 2, (0, 0, 0), 11, 0)), (176, (.if_icmp .ne 18, 3, (194, 0, 0), 0, 0)), (179, (.iload 9, 2, (0, 0, 0), 0, 0)), (181, (.iload 10, 2, (0, 0, 0), 0, 0)), (183, (.if_icmp .le 7, 3, (190, 0, 0), 0, 0)), (186, (.iconst 1, 1, (0, 0, 0), 1, 0)), (187, (.goto 44, 3, (231, 0, 0), 0, 0)), (190, (.iconst 0, 1, (0, 0, 0), 0, 0)), (191, (.goto 40, 3, (231, 0, 0), 0, 0))],
  [(194, (.iload 8, 2, (0, 0, 0), 0, 0)), (196, (.bipush 13, 2, (0, 0, 0), 13, 0)), (198, (.if_icmp .ne 20, 3, (218, 0, 0), 0, 0)), (201, (.iload 9, 2, (0, 0, 0), 0, 0)), (203, (.iload 10, 2, (0, 0, 0), 0, 0)), (205, (.iadd, 1, (0, 0, 0), 0, 0)), (206, (.iconst 2, 1, (0, 0, 0), 2, 0)), (207, (.if_icmp .ne 7, 3, (214, 0, 0), 0, 0)), (210, (.iconst 1, 1, (0, 0, 0), 1, 0)), (211, (.goto 20, 3, (231, 0, 0), 0, 0)), (214, (.iconst 0, 1, (0, 0, 0), 0, 0)), (215, (.goto 16, 3, (231, 0, 0), 0, 0)), (218, (.iload 9, 2, (0, 0, 0), 0, 0)), (220, (.iload 10, 2, (0, 0, 0), 0, 0)), (222, (.iadd, 1, (0, 0, 0), 0, 0)), (223, (.ifCond .le 7, 3, (230, 0, 0), 0, 0))],
  [(226, (.iconst 1, 1, (0, 0, 0), 1, 0)), (227, (.goto 4, 3, (231, 0, 0), 0, 0)), (230, (.iconst 0, 1, (0, 0, 0), 0, 0)), (231, (.istore 11, 2, (0, 0, 0), 0, 0)), (233, (.aload_n 0, 1, (0, 0, 0), 0, 0)), (234, (.getfield 39, 3, (12, 17, 0), 0, 1630)), (237, (.iload 5, 2, (0, 0, 0), 0, 0)), (239, (.iconst 1, 1, (0, 0, 0), 1, 0)), (240, (.isub, 1, (0, 0, 0), 0, 0)), (241, (.iload 8, 2, (0, 0, 0), 0, 0)), (243, (.bipush 9, 2, (0, 0, 0), 9, 0)), (245, (.if_icmp .ne 11, 3, (256, 0, 0), 0, 0)), (248, (.iload 9, 2, (0, 0, 0), 0, 0)), (250, (.iload 10, 2, (0, 0, 0), 0, 0)), (252, (.iadd, 1, (0, 0, 0), 0, 0)), (253, (.goto 13, 3, (266, 0, 0), 0, 0))],
  [(256, (.iload 11, 2, (0, 0, 0), 0, 0)), (258, (.ifCond .eq 7, 3, (265, 0, 0), 0, 0)), (261, (.iconst 1, 1, (0, 0, 0), 1, 0)), (262, (.goto 4, 3, (266, 0, 0), 0, 0)), (265, (.iconst 0, 1, (0, 0, 0), 0, 0)), (266, (.iastore, 1, (0, 0, 0), 0, 0)), (267, (.iinc 7 1, 3, (0, 0, 0), 1, 0)), (270, (.goto (-247), 3, (23, 0, 0), 0, 0)), (273, (.iload 5, 2, (0, 0, 0), 0, 0)), (275, (.ifCond .eq 13, 3, (288, 0, 0), 0, 0)), (278, (.aload_n 0, 1, (0, 0, 0), 0, 0)), (279, (.getfield 39, 3, (12, 17, 0), 0, 1630)), (282, (.iconst 0, 1, (0, 0, 0), 0, 0)), (283, (.iaload, 1, (0, 0, 0), 0, 0)), (284, (.iconst 1, 1, (0, 0, 0), 1, 0)), (285, (.if_icmp .ne 7, 3, (292, 0, 0), 0, 0))],
  [(288, (.iconst 1, 1, (0, 0, 0), 1, 0)), (289, (.goto 4, 3, (293, 0, 0), 0, 0)), (292, (.iconst 0, 1, (0, 0, 0), 0, 0)), (293, (.ireturn, 1, (0, 0, 0), 0, 0))]]
set_option maxRecDepth 10000 in
def zp269 : List (List (Nat × ZI)) := [[(0, (.aload_n 0, 1, (0, 0, 0), 0, 0)), (1, (.getfield 13, 3, (12, 1, 0), 0, 1614)), (4, (.iconst 4, 1, (0, 0, 0), 4, 0)), (5, (.iaload, 1, (0, 0, 0), 0, 0)), (6, (.ifCond .ne 47, 3, (53, 0, 0), 0, 0)), (9, (.iload_n 1, 1, (0, 0, 0), 0, 0)), (10, (.ifCond .ne 21, 3, (31, 0, 0), 0, 0)), (13, (.aload_n 0, 1, (0, 0, 0), 0, 0)), (14, (.iload_n 3, 1, (0, 0, 0), 0, 0)), (15, (.iconst 0, 1, (0, 0, 0), 0, 0)), (16, (.invokevirtual 77, 3, (0, 220, 0), 0, 1901)), (19, (.ifCond .ne 8, 3, (27, 0, 0), 0, 0)), (22, (.bipush 50, 2, (0, 0, 0), 50, 0)), (24, (.goto 28, 3, (52, 0, 0), 0, 0)), (27, (.iconst 0, 1, (0, 0, 0), 0, 0)), (28, (.goto 24, 3, (52, 0, 0), 0, 0)), (31, (.iload_n 1, 1, (0, 0, 0), 0, 0))],
  [(32, (.iconst 1, 1, (0, 0, 0), 1, 0)), (33, (.if_icmp .ne 8, 3, (41, 0, 0), 0, 0)), (36, (.bipush 20, 2, (0, 0, 0), 20, 0)), (38, (.goto 14, 3, (52, 0, 0), 0, 0)), (41, (.iload_n 1, 1, (0, 0, 0), 0, 0)), (42, (.iconst 2, 1, (0, 0, 0), 2, 0)), (43, (.if_icmp .ne 7, 3, (50, 0, 0), 0, 0)), (46, (.iconst 5, 1, (0, 0, 0), 5, 0)), (47, (.goto 5, 3, (52, 0, 0), 0, 0)), (50, (.bipush 50, 2, (0, 0, 0), 50, 0)), (52, (.ireturn, 1, (0, 0, 0), 0, 0)), (53, (.iconst 0, 1, (0, 0, 0), 0, 0)), (54, (.istore 4, 2, (0, 0, 0), 0, 0)), (56, (.iconst 0, 1, (0, 0, 0), 0, 0)), (57, (.istore 5, 2, (0, 0, 0), 0, 0)), (59, (.iload 5, 2, (0, 0, 0), 0, 0)), (61, (.aload_n 0, 1, (0, 0, 0), 0, 0)), (62, (.getfield 13, 3, (12, 1, 0), 0, 1614))],
  [(65, (.sipush 777, 3, (0, 0, 0), 777, 0)), (68, (.iaload, 1, (0, 0, 0), 0, 0)), (69, (.if_icmp .ge 71, 3, (140, 0, 0), 0, 0)), (72, (.iload 4, 2, (0, 0, 0), 0, 0)), (74, (.aload_n 0, 1, (0, 0, 0), 0, 0)), (75, (.getfield 13, 3, (12, 1, 0), 0, 1614)), (78, (.sipush 778, 3, (0, 0, 0), 778, 0)), (81, (.iconst 4, 1, (0, 0, 0), 4, 0)), (82, (.iload 5, 2, (0, 0, 0), 0, 0)), (84, (.imul, 1, (0, 0, 0), 0, 0)), (85, (.iadd, 1, (0, 0, 0), 0, 0)), (86, (.iaload, 1, (0, 0, 0), 0, 0)), (87, (.iload_n 1, 1, (0, 0, 0), 0, 0)), (88, (.if_icmp .ne 42, 3, (130, 0, 0), 0, 0)), (91, (.aload_n 0, 1, (0, 0, 0), 0, 0)), (92, (.iload 5, 2, (0, 0, 0), 0, 0)), (94, (.iload_n 2, 1, (0, 0, 0), 0, 0)), (95, (.iload_n 3, 1, (0, 0, 0), 0, 0))],
  [(96, (.iload_n 1, 1, (0, 0, 0), 0, 0)), (97, (.iconst 3, 1, (0, 0, 0), 3, 0)), (98, (.if_icmp .ne 7, 3, (105, 0, 0), 0, 0)), (101, (.iconst 1, 1, (0, 0, 0), 1, 0)), (102, (.goto 4, 3, (106, 0, 0), 0, 0)), (105, (.iconst 0, 1, (0, 0, 0), 0, 0)), (106, (.invokevirtual 281, 3, (0, 268, 0), 0, 1925)), (109, (.ifCond .eq 21, 3, (130, 0, 0), 0, 0)), (112, (.aload_n 0, 1, (0, 0, 0), 0, 0)), (113, (.getfield 13, 3, (12, 1, 0), 0, 1614)), (116, (.sipush 778, 3, (0, 0, 0), 778, 0)), (119, (.iconst 4, 1, (0, 0, 0), 4, 0)), (120, (.iload 5, 2, (0, 0, 0), 0, 0)), (122, (.imul, 1, (0, 0, 0), 0, 0)), (123, (.iadd, 1, (0, 0, 0), 0, 0)), (124, (.iconst 1, 1, (0, 0, 0), 1, 0)), (125, (.iadd, 1, (0, 0, 0), 0, 0)), (126, (.iaload, 1, (0, 0, 0), 0, 0)), (127, (.goto 4, 3, (131, 0, 0), 0, 0))],
  [(130, (.iconst 0, 1, (0, 0, 0), 0, 0)), (131, (.iadd, 1, (0, 0, 0), 0, 0)), (132, (.istore 4, 2, (0, 0, 0), 0, 0)), (134, (.iinc 5 1, 3, (0, 0, 0), 1, 0)), (137, (.goto (-78), 3, (59, 0, 0), 0, 0)), (140, (.iload_n 1, 1, (0, 0, 0), 0, 0)), (141, (.ifCond .ne 9, 3, (150, 0, 0), 0, 0)), (144, (.sipush 200, 3, (0, 0, 0), 200, 0)), (147, (.goto 5, 3, (152, 0, 0), 0, 0)), (150, (.bipush 100, 2, (0, 0, 0), 100, 0)), (152, (.iload 4, 2, (0, 0, 0), 0, 0)), (154, (.invokestatic 152, 3, (2, 0, 0), 0, 1812)), (157, (.ireturn, 1, (0, 0, 0), 0, 0))]]
set_option maxRecDepth 10000 in
def zp270 : List (List (Nat × ZI)) := [[(0, (.iconst 0, 1, (0, 0, 0), 0, 0)), (1, (.istore_n 2, 1, (0, 0, 0), 0, 0)), (2, (.iconst 0, 1, (0, 0, 0), 0, 0)), (3, (.istore_n 3, 1, (0, 0, 0), 0, 0)), (4, (.iload_n 3, 1, (0, 0, 0), 0, 0)), (5, (.aload_n 0, 1, (0, 0, 0), 0, 0)), (6, (.invokevirtual 74, 3, (0, 217, 0), 0, 1776)), (9, (.if_icmp .ge 28, 3, (37, 0, 0), 0, 0)), (12, (.iload_n 2, 1, (0, 0, 0), 0, 0)), (13, (.aload_n 0, 1, (0, 0, 0), 0, 0)), (14, (.iload_n 3, 1, (0, 0, 0), 0, 0)), (15, (.invokevirtual 285, 3, (0, 223, 0), 0, 1913)), (18, (.iload_n 1, 1, (0, 0, 0), 0, 0)), (19, (.if_icmp .ne 9, 3, (28, 0, 0), 0, 0)), (22, (.iconst 1, 1, (0, 0, 0), 1, 0)), (23, (.iload_n 3, 1, (0, 0, 0), 0, 0)), (24, (.ishl, 1, (0, 0, 0), 0, 0)), (25, (.goto 4, 3, (29, 0, 0), 0, 0)), (28, (.iconst 0, 1, (0, 0, 0), 0, 0)), (29, (.ior, 1, (0, 0, 0), 0, 0)), (30, (.istore_n 2, 1, (0, 0, 0), 0, 0)), (31, (.iinc 3 1, 3, (0, 0, 0), 1, 0))],
  [(34, (.goto (-30), 3, (4, 0, 0), 0, 0)), (37, (.iload_n 2, 1, (0, 0, 0), 0, 0)), (38, (.ireturn, 1, (0, 0, 0), 0, 0))]]
set_option maxRecDepth 10000 in
def zp271 : List (List (Nat × ZI)) := [[(0, (.iconst 0, 1, (0, 0, 0), 0, 0)), (1, (.istore_n 2, 1, (0, 0, 0), 0, 0)), (2, (.iconst 0, 1, (0, 0, 0), 0, 0)), (3, (.istore_n 3, 1, (0, 0, 0), 0, 0)), (4, (.iload_n 3, 1, (0, 0, 0), 0, 0)), (5, (.aload_n 0, 1, (0, 0, 0), 0, 0)), (6, (.invokevirtual 66, 3, (0, 216, 0), 0, 1738)), (9, (.if_icmp .ge 28, 3, (37, 0, 0), 0, 0)), (12, (.iload_n 2, 1, (0, 0, 0), 0, 0)), (13, (.aload_n 0, 1, (0, 0, 0), 0, 0)), (14, (.iload_n 1, 1, (0, 0, 0), 0, 0)), (15, (.iload_n 3, 1, (0, 0, 0), 0, 0)), (16, (.invokevirtual 143, 3, (0, 230, 0), 0, 1791)), (19, (.ifCond .eq 9, 3, (28, 0, 0), 0, 0)), (22, (.iconst 1, 1, (0, 0, 0), 1, 0)), (23, (.iload_n 3, 1, (0, 0, 0), 0, 0)), (24, (.ishl, 1, (0, 0, 0), 0, 0)), (25, (.goto 4, 3, (29, 0, 0), 0, 0)), (28, (.iconst 0, 1, (0, 0, 0), 0, 0)), (29, (.ior, 1, (0, 0, 0), 0, 0)), (30, (.istore_n 2, 1, (0, 0, 0), 0, 0)), (31, (.iinc 3 1, 3, (0, 0, 0), 1, 0))],
  [(34, (.goto (-30), 3, (4, 0, 0), 0, 0)), (37, (.iload_n 2, 1, (0, 0, 0), 0, 0)), (38, (.ireturn, 1, (0, 0, 0), 0, 0))]]
set_option maxRecDepth 10000 in
def zp272 : List (List (Nat × ZI)) := [[(0, (.aload_n 0, 1, (0, 0, 0), 0, 0)), (1, (.iconst 0, 1, (0, 0, 0), 0, 0)), (2, (.putfield 3, 3, (12, 0, 0), 0, 1613)), (5, (.aload_n 0, 1, (0, 0, 0), 0, 0)), (6, (.aload_n 0, 1, (0, 0, 0), 0, 0)), (7, (.iload_n 1, 1, (0, 0, 0), 0, 0)), (8, (.invokevirtual 288, 3, (0, 227, 0), 0, 1894)), (11, (.iconst 1, 1, (0, 0, 0), 1, 0)), (12, (.invokevirtual 272, 3, (0, 208, 0), 0, 1882)), (15, (.ifCond .ne 26, 3, (41, 0, 0), 0, 0)), (18, (.aload_n 0, 1, (0, 0, 0), 0, 0)), (19, (.iload_n 2, 1, (0, 0, 0), 0, 0)), (20, (.iconst 0, 1, (0, 0, 0), 0, 0)), (21, (.bipush 6, 2, (0, 0, 0), 6, 0)), (23, (.invokestatic 70, 3, (0, 209, 0), 0, 1898)), (26, (.ifCond .ne 7, 3, (33, 0, 0), 0, 0)), (29, (.iconst 1, 1, (0, 0, 0), 1, 0)), (30, (.goto 4, 3, (34, 0, 0), 0, 0))],
  [(33, (.iconst 0, 1, (0, 0, 0), 0, 0)), (34, (.iconst 2, 1, (0, 0, 0), 2, 0)), (35, (.invokevirtual 272, 3, (0, 208, 0), 0, 1882)), (38, (.ifCond .eq 5, 3, (43, 0, 0), 0, 0)), (41, (.iconst 0, 1, (0, 0, 0), 0, 0)), (42, (.ireturn, 1, (0, 0, 0), 0, 0)), (43, (.iload_n 2, 1, (0, 0, 0), 0, 0)), (44, (.iconst 3, 1, (0, 0, 0), 3, 0)), (45, (.if_icmp .ge 10, 3, (55, 0, 0), 0, 0)), (48, (.aload_n 0, 1, (0, 0, 0), 0, 0)), (49, (.iload_n 1, 1, (0, 0, 0), 0, 0)), (50, (.iload_n 2, 1, (0, 0, 0), 0, 0)), (51, (.invokevirtual 77, 3, (0, 220, 0), 0, 1901)), (54, (.ireturn, 1, (0, 0, 0), 0, 0)), (55, (.iload_n 2, 1, (0, 0, 0), 0, 0)), (56, (.iconst 3, 1, (0, 0, 0), 3, 0)), (57, (.if_icmp .ne 11, 3, (68, 0, 0), 0, 0)), (60, (.aload_n 0, 1, (0, 0, 0), 0, 0)), (61, (.iload_n 1, 1, (0, 0, 0), 0, 0)), (62, (.invokevirtual 275, 3, (0, 225, 0), 0, 1905))],
  [(65, (.goto 36, 3, (101, 0, 0), 0, 0)), (68, (.iload_n 2, 1, (0, 0, 0), 0, 0)), (69, (.iconst 4, 1, (0, 0, 0), 4, 0)), (70, (.if_icmp .ne 11, 3, (81, 0, 0), 0, 0)), (73, (.aload_n 0, 1, (0, 0, 0), 0, 0)), (74, (.iload_n 1, 1, (0, 0, 0), 0, 0)), (75, (.invokevirtual 291, 3, (0, 270, 0), 0, 1909)), (78, (.goto 23, 3, (101, 0, 0), 0, 0)), (81, (.iload_n 2, 1, (0, 0, 0), 0, 0)), (82, (.iconst 5, 1, (0, 0, 0), 5, 0)), (83, (.if_icmp .ne 11, 3, (94, 0, 0), 0, 0)), (86, (.aload_n 0, 1, (0, 0, 0), 0, 0)), (87, (.iload_n 1, 1, (0, 0, 0), 0, 0)), (88, (.invokevirtual 294, 3, (0, 271, 0), 0, 1917)), (91, (.goto 10, 3, (101, 0, 0), 0, 0)), (94, (.aload_n 0, 1, (0, 0, 0), 0, 0)), (95, (.iconst 3, 1, (0, 0, 0), 3, 0))],
  [(96, (.iconst 0, 1, (0, 0, 0), 0, 0)), (97, (.iload_n 1, 1, (0, 0, 0), 0, 0)), (98, (.invokevirtual 297, 3, (0, 269, 0), 0, 1921)), (101, (.ireturn, 1, (0, 0, 0), 0, 0))]]
set_option maxRecDepth 10000 in
def zp273 : List (List (Nat × ZI)) := [[(0, (.aload_n 0, 1, (0, 0, 0), 0, 0)), (1, (.iconst 0, 1, (0, 0, 0), 0, 0)), (2, (.putfield 3, 3, (12, 0, 0), 0, 1613)), (5, (.aload_n 0, 1, (0, 0, 0), 0, 0)), (6, (.aload_n 0, 1, (0, 0, 0), 0, 0)), (7, (.iload_n 1, 1, (0, 0, 0), 0, 0)), (8, (.invokevirtual 288, 3, (0, 227, 0), 0, 1894)), (11, (.ifCond .ne 11, 3, (22, 0, 0), 0, 0)), (14, (.aload_n 0, 1, (0, 0, 0), 0, 0)), (15, (.iload_n 2, 1, (0, 0, 0), 0, 0)), (16, (.invokevirtual 300, 3, (0, 228, 0), 0, 1937)), (19, (.ifCond .eq 7, 3, (26, 0, 0), 0, 0)), (22, (.iconst 1, 1, (0, 0, 0), 1, 0)), (23, (.goto 4, 3, (27, 0, 0), 0, 0)), (26, (.iconst 0, 1, (0, 0, 0), 0, 0)), (27, (.iconst 1, 1, (0, 0, 0), 1, 0)), (28, (.invokevirtual 272, 3, (0, 208, 0), 0, 1882)), (31, (.ifCond .eq 7, 3, (38, 0, 0), 0, 0))],
  [(34, (.iconst 0, 1, (0, 0, 0), 0, 0)), (35, (.goto 11, 3, (46, 0, 0), 0, 0)), (38, (.aload_n 0, 1, (0, 0, 0), 0, 0)), (39, (.iload_n 1, 1, (0, 0, 0), 0, 0)), (40, (.iconst 3, 1, (0, 0, 0), 3, 0)), (41, (.iload_n 2, 1, (0, 0, 0), 0, 0)), (42, (.iadd, 1, (0, 0, 0), 0, 0)), (43, (.invokevirtual 77, 3, (0, 220, 0), 0, 1901)), (46, (.ireturn, 1, (0, 0, 0), 0, 0))]]
set_option maxRecDepth 10000 in
def zp274 : List (List (Nat × ZI)) := [[(0, (.iconst 0, 1, (0, 0, 0), 0, 0)), (1, (.istore_n 2, 1, (0, 0, 0), 0, 0)), (2, (.iconst 0, 1, (0, 0, 0), 0, 0)), (3, (.istore_n 3, 1, (0, 0, 0), 0, 0)), (4, (.iload_n 3, 1, (0, 0, 0), 0, 0)), (5, (.aload_n 0, 1, (0, 0, 0), 0, 0)), (6, (.iload_n 1, 1, (0, 0, 0), 0, 0)), (7, (.iconst 3, 1, (0, 0, 0), 3, 0)), (8, (.invokevirtual 59, 3, (0, 221, 0), 0, 1787)), (11, (.if_icmp .ge 22, 3, (33, 0, 0), 0, 0)), (14, (.iload_n 2, 1, (0, 0, 0), 0, 0)), (15, (.iconst 1, 1, (0, 0, 0), 1, 0)), (16, (.aload_n 0, 1, (0, 0, 0), 0, 0)), (17, (.iload_n 1, 1, (0, 0, 0), 0, 0)), (18, (.iconst 4, 1, (0, 0, 0), 4, 0)), (19, (.iload_n 3, 1, (0, 0, 0), 0, 0)), (20, (.iadd, 1, (0, 0, 0), 0, 0)), (21, (.invokevirtual 59, 3, (0, 221, 0), 0, 1787)), (24, (.ishl, 1, (0, 0, 0), 0, 0)), (25, (.ior, 1, (0, 0, 0), 0, 0)), (26, (.istore_n 2, 1, (0, 0, 0), 0, 0)), (27, (.iinc 3 1, 3, (0, 0, 0), 1, 0)), (30, (.goto (-26), 3, (4, 0, 0), 0, 0))],
  [(33, (.iload_n 2, 1, (0, 0, 0), 0, 0)), (34, (.ireturn, 1, (0, 0, 0), 0, 0))]]
set_option maxRecDepth 10000 in
def zp275 : List (List (Nat × ZI)) := [[(0, (.aload_n 0, 1, (0, 0, 0), 0, 0)), (1, (.iconst 0, 1, (0, 0, 0), 0, 0)), (2, (.putfield 3, 3, (12, 0, 0), 0, 1613)), (5, (.aload_n 0, 1, (0, 0, 0), 0, 0)), (6, (.aload_n 0, 1, (0, 0, 0), 0, 0)), (7, (.iload_n 1, 1, (0, 0, 0), 0, 0)), (8, (.invokevirtual 300, 3, (0, 228, 0), 0, 1937)), (11, (.iconst 1, 1, (0, 0, 0), 1, 0)), (12, (.invokevirtual 272, 3, (0, 208, 0), 0, 1882)), (15, (.ifCond .ne 26, 3, (41, 0, 0), 0, 0)), (18, (.aload_n 0, 1, (0, 0, 0), 0, 0)), (19, (.iload_n 2, 1, (0, 0, 0), 0, 0)), (20, (.iconst 0, 1, (0, 0, 0), 0, 0)), (21, (.bipush 6, 2, (0, 0, 0), 6, 0)), (23, (.invokestatic 70, 3, (0, 209, 0), 0, 1898)), (26, (.ifCond .ne 7, 3, (33, 0, 0), 0, 0)), (29, (.iconst 1, 1, (0, 0, 0), 1, 0)), (30, (.goto 4, 3, (34, 0, 0), 0, 0))],
  [(33, (.iconst 0, 1, (0, 0, 0), 0, 0)), (34, (.iconst 2, 1, (0, 0, 0), 2, 0)), (35, (.invokevirtual 272, 3, (0, 208, 0), 0, 1882)), (38, (.ifCond .eq 5, 3, (43, 0, 0), 0, 0)), (41, (.iconst 0, 1, (0, 0, 0), 0, 0)), (42, (.ireturn, 1, (0, 0, 0), 0, 0)), (43, (.iload_n 2, 1, (0, 0, 0), 0, 0)), (44, (.tableswitch 80 0 5 #[40, 46, 52, 59, 66, 73], 40, (9, 0, 0), 0, 0))],
  [(84, (.aload_n 0, 1, (0, 0, 0), 0, 0)), (85, (.iload_n 1, 1, (0, 0, 0), 0, 0)), (86, (.invokevirtual 285, 3, (0, 223, 0), 0, 1913)), (89, (.ireturn, 1, (0, 0, 0), 0, 0)), (90, (.aload_n 0, 1, (0, 0, 0), 0, 0)), (91, (.iload_n 1, 1, (0, 0, 0), 0, 0)), (92, (.invokevirtual 149, 3, (0, 226, 0), 0, 1804)), (95, (.ireturn, 1, (0, 0, 0), 0, 0))],
  [(96, (.aload_n 0, 1, (0, 0, 0), 0, 0)), (97, (.iload_n 1, 1, (0, 0, 0), 0, 0)), (98, (.iconst 1, 1, (0, 0, 0), 1, 0)), (99, (.invokevirtual 59, 3, (0, 221, 0), 0, 1787)), (102, (.ireturn, 1, (0, 0, 0), 0, 0)), (103, (.aload_n 0, 1, (0, 0, 0), 0, 0)), (104, (.iload_n 1, 1, (0, 0, 0), 0, 0)), (105, (.iconst 2, 1, (0, 0, 0), 2, 0)), (106, (.invokevirtual 59, 3, (0, 221, 0), 0, 1787)), (109, (.ireturn, 1, (0, 0, 0), 0, 0)), (110, (.aload_n 0, 1, (0, 0, 0), 0, 0)), (111, (.iload_n 1, 1, (0, 0, 0), 0, 0)), (112, (.iconst 3, 1, (0, 0, 0), 3, 0)), (113, (.invokevirtual 59, 3, (0, 221, 0), 0, 1787)), (116, (.ireturn, 1, (0, 0, 0), 0, 0)), (117, (.aload_n 0, 1, (0, 0, 0), 0, 0)), (118, (.iload_n 1, 1, (0, 0, 0), 0, 0)), (119, (.iconst 0, 1, (0, 0, 0), 0, 0)), (120, (.invokevirtual 59, 3, (0, 221, 0), 0, 1787)), (123, (.ireturn, 1, (0, 0, 0), 0, 0)), (124, (.aload_n 0, 1, (0, 0, 0), 0, 0)), (125, (.iload_n 1, 1, (0, 0, 0), 0, 0)), (126, (.invokevirtual 303, 3, (0, 274, 0), 0, 1945))],
  [(129, (.ireturn, 1, (0, 0, 0), 0, 0))]]
set_option maxRecDepth 10000 in
def zp276 : List (List (Nat × ZI)) := [[(0, (.aload_n 0, 1, (0, 0, 0), 0, 0)), (1, (.iconst 0, 1, (0, 0, 0), 0, 0)), (2, (.putfield 3, 3, (12, 0, 0), 0, 1613)), (5, (.aload_n 0, 1, (0, 0, 0), 0, 0)), (6, (.aload_n 0, 1, (0, 0, 0), 0, 0)), (7, (.iload_n 1, 1, (0, 0, 0), 0, 0)), (8, (.invokevirtual 300, 3, (0, 228, 0), 0, 1937)), (11, (.ifCond .ne 11, 3, (22, 0, 0), 0, 0)), (14, (.aload_n 0, 1, (0, 0, 0), 0, 0)), (15, (.iload_n 2, 1, (0, 0, 0), 0, 0)), (16, (.invokevirtual 300, 3, (0, 228, 0), 0, 1937)), (19, (.ifCond .eq 7, 3, (26, 0, 0), 0, 0)), (22, (.iconst 1, 1, (0, 0, 0), 1, 0)), (23, (.goto 4, 3, (27, 0, 0), 0, 0)), (26, (.iconst 0, 1, (0, 0, 0), 0, 0)), (27, (.iconst 1, 1, (0, 0, 0), 1, 0)), (28, (.invokevirtual 272, 3, (0, 208, 0), 0, 1882)), (31, (.ifCond .eq 7, 3, (38, 0, 0), 0, 0))],
  [(34, (.iconst 0, 1, (0, 0, 0), 0, 0)), (35, (.goto 12, 3, (47, 0, 0), 0, 0)), (38, (.aload_n 0, 1, (0, 0, 0), 0, 0)), (39, (.iload_n 1, 1, (0, 0, 0), 0, 0)), (40, (.bipush 16, 2, (0, 0, 0), 16, 0)), (42, (.iload_n 2, 1, (0, 0, 0), 0, 0)), (43, (.iadd, 1, (0, 0, 0), 0, 0)), (44, (.invokevirtual 59, 3, (0, 221, 0), 0, 1787)), (47, (.ireturn, 1, (0, 0, 0), 0, 0))]]
set_option maxRecDepth 10000 in
def zp277 : List (List (Nat × ZI)) := [[(0, (.aload_n 0, 1, (0, 0, 0), 0, 0)), (1, (.iconst 0, 1, (0, 0, 0), 0, 0)), (2, (.putfield 3, 3, (12, 0, 0), 0, 1613)), (5, (.aload_n 0, 1, (0, 0, 0), 0, 0)), (6, (.aload_n 0, 1, (0, 0, 0), 0, 0)), (7, (.iload_n 1, 1, (0, 0, 0), 0, 0)), (8, (.invokevirtual 300, 3, (0, 228, 0), 0, 1937)), (11, (.iconst 1, 1, (0, 0, 0), 1, 0)), (12, (.invokevirtual 272, 3, (0, 208, 0), 0, 1882)), (15, (.ifCond .eq 5, 3, (20, 0, 0), 0, 0)), (18, (.iconst 0, 1, (0, 0, 0), 0, 0)), (19, (.ireturn, 1, (0, 0, 0), 0, 0)), (20, (.iload_n 2, 1, (0, 0, 0), 0, 0)), (21, (.iconst 0, 1, (0, 0, 0), 0, 0)), (22, (.aload_n 0, 1, (0, 0, 0), 0, 0)), (23, (.iload_n 1, 1, (0, 0, 0), 0, 0)), (24, (.iconst 3, 1, (0, 0, 0), 3, 0)), (25, (.invokevirtual 59, 3, (0, 221, 0), 0, 1787)), (28, (.iconst 1, 1, (0, 0, 0), 1, 0)), (29, (.isub, 1, (0, 0, 0), 0, 0)), (30, (.invokestatic 70, 3, (0, 209, 0), 0, 1898))],
  [(33, (.ifCond .eq 14, 3, (47, 0, 0), 0, 0)), (36, (.aload_n 0, 1, (0, 0, 0), 0, 0)), (37, (.iload_n 1, 1, (0, 0, 0), 0, 0)), (38, (.iconst 4, 1, (0, 0, 0), 4, 0)), (39, (.iload_n 2, 1, (0, 0, 0), 0, 0)), (40, (.iadd, 1, (0, 0, 0), 0, 0)), (41, (.invokevirtual 59, 3, (0, 221, 0), 0, 1787)), (44, (.goto 4, 3, (48, 0, 0), 0, 0)), (47, (.iconst (-1), 1, (0, 0, 0), (-1), 0)), (48, (.ireturn, 1, (0, 0, 0), 0, 0))]]
set_option maxRecDepth 10000 in
def zp278 : List (List (Nat × ZI)) := [[(0, (.aload_n 0, 1, (0, 0, 0), 0, 0)), (1, (.iconst 0, 1, (0, 0, 0), 0, 0)), (2, (.putfield 3, 3, (12, 0, 0), 0, 1613)), (5, (.aload_n 0, 1, (0, 0, 0), 0, 0)), (6, (.aload_n 0, 1, (0, 0, 0), 0, 0)), (7, (.iload_n 1, 1, (0, 0, 0), 0, 0)), (8, (.invokevirtual 300, 3, (0, 228, 0), 0, 1937)), (11, (.ifCond .ne 11, 3, (22, 0, 0), 0, 0)), (14, (.aload_n 0, 1, (0, 0, 0), 0, 0)), (15, (.iload_n 2, 1, (0, 0, 0), 0, 0)), (16, (.invokevirtual 288, 3, (0, 227, 0), 0, 1894)), (19, (.ifCond .eq 7, 3, (26, 0, 0), 0, 0)), (22, (.iconst 1, 1, (0, 0, 0), 1, 0)), (23, (.goto 4, 3, (27, 0, 0), 0, 0)), (26, (.iconst 0, 1, (0, 0, 0), 0, 0)), (27, (.iconst 1, 1, (0, 0, 0), 1, 0)), (28, (.invokevirtual 272, 3, (0, 208, 0), 0, 1882)), (31, (.ifCond .ne 25, 3, (56, 0, 0), 0, 0))],
  [(34, (.aload_n 0, 1, (0, 0, 0), 0, 0)), (35, (.iload_n 3, 1, (0, 0, 0), 0, 0)), (36, (.iconst 0, 1, (0, 0, 0), 0, 0)), (37, (.iconst 2, 1, (0, 0, 0), 2, 0)), (38, (.invokestatic 70, 3, (0, 209, 0), 0, 1898)), (41, (.ifCond .ne 7, 3, (48, 0, 0), 0, 0)), (44, (.iconst 1, 1, (0, 0, 0), 1, 0)), (45, (.goto 4, 3, (49, 0, 0), 0, 0)), (48, (.iconst 0, 1, (0, 0, 0), 0, 0)), (49, (.iconst 2, 1, (0, 0, 0), 2, 0)), (50, (.invokevirtual 272, 3, (0, 208, 0), 0, 1882)), (53, (.ifCond .eq 7, 3, (60, 0, 0), 0, 0)), (56, (.iconst 0, 1, (0, 0, 0), 0, 0)), (57, (.goto 10, 3, (67, 0, 0), 0, 0)), (60, (.aload_n 0, 1, (0, 0, 0), 0, 0)), (61, (.iload_n 3, 1, (0, 0, 0), 0, 0)), (62, (.iload_n 1, 1, (0, 0, 0), 0, 0)), (63, (.iload_n 2, 1, (0, 0, 0), 0, 0))],
  [(64, (.invokevirtual 297, 3, (0, 269, 0), 0, 1921)), (67, (.ireturn, 1, (0, 0, 0), 0, 0))]]
set_option maxRecDepth 10000 in
def zp279 : List (List (Nat × ZI)) := [[(0, (.iconst 0, 1, (0, 0, 0), 0, 0)), (1, (.istore 4, 2, (0, 0, 0), 0, 0)), (3, (.iconst 0, 1, (0, 0, 0), 0, 0)), (4, (.istore 5, 2, (0, 0, 0), 0, 0)), (6, (.iload 5, 2, (0, 0, 0), 0, 0)), (8, (.bipush 8, 2, (0, 0, 0), 8, 0)), (10, (.if_icmp .ge 79, 3, (89, 0, 0), 0, 0)), (13, (.aload_n 0, 1, (0, 0, 0), 0, 0)), (14, (.getfield 13, 3, (12, 1, 0), 0, 1614)), (17, (.iload_n 1, 1, (0, 0, 0), 0, 0)), (18, (.iload 5, 2, (0, 0, 0), 0, 0)), (20, (.iadd, 1, (0, 0, 0), 0, 0)), (21, (.iaload, 1, (0, 0, 0), 0, 0)), (22, (.iload_n 3, 1, (0, 0, 0), 0, 0)), (23, (.imul, 1, (0, 0, 0), 0, 0)), (24, (.bipush 100, 2, (0, 0, 0), 100, 0)), (26, (.idiv, 1, (0, 0, 0), 0, 0)), (27, (.istore 6, 2, (0, 0, 0), 0, 0)), (29, (.aload_n 0, 1, (0, 0, 0), 0, 0)), (30, (.getfield 13, 3, (12, 1, 0), 0, 1614))],
  [(33, (.iload_n 1, 1, (0, 0, 0), 0, 0)), (34, (.iload 5, 2, (0, 0, 0), 0, 0)), (36, (.iadd, 1, (0, 0, 0), 0, 0)), (37, (.dup2, 1, (0, 0, 0), 0, 0)), (38, (.iaload, 1, (0, 0, 0), 0, 0)), (39, (.iload 6, 2, (0, 0, 0), 0, 0)), (41, (.isub, 1, (0, 0, 0), 0, 0)), (42, (.iastore, 1, (0, 0, 0), 0, 0)), (43, (.iload_n 2, 1, (0, 0, 0), 0, 0)), (44, (.ifCond .ge 18, 3, (62, 0, 0), 0, 0)), (47, (.aload_n 0, 1, (0, 0, 0), 0, 0)), (48, (.getfield 13, 3, (12, 1, 0), 0, 1614)), (51, (.bipush 6, 2, (0, 0, 0), 6, 0)), (53, (.dup2, 1, (0, 0, 0), 0, 0)), (54, (.iaload, 1, (0, 0, 0), 0, 0)), (55, (.iload 6, 2, (0, 0, 0), 0, 0)), (57, (.iadd, 1, (0, 0, 0), 0, 0)), (58, (.iastore, 1, (0, 0, 0), 0, 0)), (59, (.goto 17, 3, (76, 0, 0), 0, 0)), (62, (.aload_n 0, 1, (0, 0, 0), 0, 0)), (63, (.getfield 13, 3, (12, 1, 0), 0, 1614))],
  [(66, (.iload_n 2, 1, (0, 0, 0), 0, 0)), (67, (.iload 5, 2, (0, 0, 0), 0, 0)), (69, (.iadd, 1, (0, 0, 0), 0, 0)), (70, (.dup2, 1, (0, 0, 0), 0, 0)), (71, (.iaload, 1, (0, 0, 0), 0, 0)), (72, (.iload 6, 2, (0, 0, 0), 0, 0)), (74, (.iadd, 1, (0, 0, 0), 0, 0)), (75, (.iastore, 1, (0, 0, 0), 0, 0)), (76, (.iload 4, 2, (0, 0, 0), 0, 0)), (78, (.iload 6, 2, (0, 0, 0), 0, 0)), (80, (.iadd, 1, (0, 0, 0), 0, 0)), (81, (.istore 4, 2, (0, 0, 0), 0, 0)), (83, (.iinc 5 1, 3, (0, 0, 0), 1, 0)), (86, (.goto (-80), 3, (6, 0, 0), 0, 0)), (89, (.iload 4, 2, (0, 0, 0), 0, 0)), (91, (.ireturn, 1, (0, 0, 0), 0, 0))]]
set_option maxRecDepth 10000 in
def zp280 : List (List (Nat × ZI)) := [[(0, (.iconst 0, 1, (0, 0, 0), 0, 0)), (1, (.istore_n 3, 1, (0, 0, 0), 0, 0)), (2, (.iconst 0, 1, (0, 0, 0), 0, 0)), (3, (.istore 4, 2, (0, 0, 0), 0, 0)), (5, (.iload 4, 2, (0, 0, 0), 0, 0)), (7, (.bipush 8, 2, (0, 0, 0), 8, 0)), (9, (.if_icmp .ge 26, 3, (35, 0, 0), 0, 0)), (12, (.iload_n 3, 1, (0, 0, 0), 0, 0)), (13, (.aload_n 0, 1, (0, 0, 0), 0, 0)), (14, (.getfield 13, 3, (12, 1, 0), 0, 1614)), (17, (.iload_n 1, 1, (0, 0, 0), 0, 0)), (18, (.iload 4, 2, (0, 0, 0), 0, 0)), (20, (.iadd, 1, (0, 0, 0), 0, 0)), (21, (.iaload, 1, (0, 0, 0), 0, 0)), (22, (.iload_n 2, 1, (0, 0, 0), 0, 0)), (23, (.imul, 1, (0, 0, 0), 0, 0)), (24, (.bipush 100, 2, (0, 0, 0), 100, 0)), (26, (.idiv, 1, (0, 0, 0), 0, 0)), (27, (.iadd, 1, (0, 0, 0), 0, 0)), (28, (.istore_n 3, 1, (0, 0, 0), 0, 0)), (29, (.iinc 4 1, 3, (0, 0, 0), 1, 0))],
  [(32, (.goto (-27), 3, (5, 0, 0), 0, 0)), (35, (.iload_n 3, 1, (0, 0, 0), 0, 0)), (36, (.ireturn, 1, (0, 0, 0), 0, 0))]]
set_option maxRecDepth 10000 in
def zp281 : List (List (Nat × ZI)) := [[(0, (.sipush 399, 3, (0, 0, 0), 399, 0)), (3, (.istore 5, 2, (0, 0, 0), 0, 0)), (5, (.iload 5, 2, (0, 0, 0), 0, 0)), (7, (.iconst 5, 1, (0, 0, 0), 5, 0)), (8, (.if_icmp .lt 33, 3, (41, 0, 0), 0, 0)), (11, (.aload_n 0, 1, (0, 0, 0), 0, 0)), (12, (.getfield 13, 3, (12, 1, 0), 0, 1614)), (15, (.sipush 377, 3, (0, 0, 0), 377, 0)), (18, (.iload 5, 2, (0, 0, 0), 0, 0)), (20, (.iadd, 1, (0, 0, 0), 0, 0)), (21, (.aload_n 0, 1, (0, 0, 0), 0, 0)), (22, (.getfield 13, 3, (12, 1, 0), 0, 1614)), (25, (.sipush 377, 3, (0, 0, 0), 377, 0)), (28, (.iload 5, 2, (0, 0, 0), 0, 0)), (30, (.iadd, 1, (0, 0, 0), 0, 0)), (31, (.iconst 5, 1, (0, 0, 0), 5, 0))],
  [(32, (.isub, 1, (0, 0, 0), 0, 0)), (33, (.iaload, 1, (0, 0, 0), 0, 0)), (34, (.iastore, 1, (0, 0, 0), 0, 0)), (35, (.iinc 5 (-1), 3, (0, 0, 0), (-1), 0)), (38, (.goto (-33), 3, (5, 0, 0), 0, 0)), (41, (.aload_n 0, 1, (0, 0, 0), 0, 0)), (42, (.getfield 13, 3, (12, 1, 0), 0, 1614)), (45, (.sipush 377, 3, (0, 0, 0), 377, 0)), (48, (.aload_n 0, 1, (0, 0, 0), 0, 0)), (49, (.getfield 13, 3, (12, 1, 0), 0, 1614)), (52, (.iconst 5, 1, (0, 0, 0), 5, 0)), (53, (.iaload, 1, (0, 0, 0), 0, 0)), (54, (.iastore, 1, (0, 0, 0), 0, 0)), (55, (.aload_n 0, 1, (0, 0, 0), 0, 0)), (56, (.getfield 13, 3, (12, 1, 0), 0, 1614)), (59, (.sipush 378, 3, (0, 0, 0), 378, 0)), (62, (.iload_n 1, 1, (0, 0, 0), 0, 0)), (63, (.iastore, 1, (0, 0, 0), 0, 0))],
  [(64, (.aload_n 0, 1, (0, 0, 0), 0, 0)), (65, (.getfield 13, 3, (12, 1, 0), 0, 1614)), (68, (.sipush 379, 3, (0, 0, 0), 379, 0)), (71, (.iload_n 2, 1, (0, 0, 0), 0, 0)), (72, (.iastore, 1, (0, 0, 0), 0, 0)), (73, (.aload_n 0, 1, (0, 0, 0), 0, 0)), (74, (.getfield 13, 3, (12, 1, 0), 0, 1614)), (77, (.sipush 380, 3, (0, 0, 0), 380, 0)), (80, (.iload_n 3, 1, (0, 0, 0), 0, 0)), (81, (.iastore, 1, (0, 0, 0), 0, 0)), (82, (.aload_n 0, 1, (0, 0, 0), 0, 0)), (83, (.getfield 13, 3, (12, 1, 0), 0, 1614)), (86, (.sipush 381, 3, (0, 0, 0), 381, 0)), (89, (.iload 4, 2, (0, 0, 0), 0, 0)), (91, (.iastore, 1, (0, 0, 0), 0, 0)), (92, (.aload_n 0, 1, (0, 0, 0), 0, 0)), (93, (.getfield 13, 3, (12, 1, 0), 0, 1614))],
  [(96, (.bipush 11, 2, (0, 0, 0), 11, 0)), (98, (.bipush 80, 2, (0, 0, 0), 80, 0)), (100, (.aload_n 0, 1, (0, 0, 0), 0, 0)), (101, (.getfield 13, 3, (12, 1, 0), 0, 1614)), (104, (.bipush 11, 2, (0, 0, 0), 11, 0)), (106, (.iaload, 1, (0, 0, 0), 0, 0)), (107, (.iconst 1, 1, (0, 0, 0), 1, 0)), (108, (.iadd, 1, (0, 0, 0), 0, 0)), (109, (.invokestatic 152, 3, (2, 0, 0), 0, 1812)), (112, (.iastore, 1, (0, 0, 0), 0, 0)), (113, (.return_, 1, (0, 0, 0), 0, 0))]]
set_option maxRecDepth 10000 in
def zp282 : List (List (Nat × ZI)) := [[(0, (.aload_n 0, 1, (0, 0, 0), 0, 0)), (1, (.iload_n 1, 1, (0, 0, 0), 0, 0)), (2, (.invokevirtual 285, 3, (0, 223, 0), 0, 1913)), (5, (.istore_n 2, 1, (0, 0, 0), 0, 0)), (6, (.aload_n 0, 1, (0, 0, 0), 0, 0)), (7, (.iload_n 1, 1, (0, 0, 0), 0, 0)), (8, (.iconst 0, 1, (0, 0, 0), 0, 0)), (9, (.aload_n 0, 1, (0, 0, 0), 0, 0)), (10, (.iload_n 1, 1, (0, 0, 0), 0, 0)), (11, (.iconst 0, 1, (0, 0, 0), 0, 0)), (12, (.invokevirtual 59, 3, (0, 221, 0), 0, 1787)), (15, (.iconst 1, 1, (0, 0, 0), 1, 0)), (16, (.iadd, 1, (0, 0, 0), 0, 0)), (17, (.aload_n 0, 1, (0, 0, 0), 0, 0)), (18, (.iload_n 1, 1, (0, 0, 0), 0, 0)), (19, (.iconst 3, 1, (0, 0, 0), 3, 0)), (20, (.invokevirtual 59, 3, (0, 221, 0), 0, 1787)), (23, (.irem, 1, (0, 0, 0), 0, 0)), (24, (.invokevirtual 139, 3, (0, 222, 0), 0, 1780)), (27, (.aload_n 0, 1, (0, 0, 0), 0, 0)), (28, (.iload_n 1, 1, (0, 0, 0), 0, 0)), (29, (.invokevirtual 285, 3, (0, 223, 0), 0, 1913))],
  [(32, (.istore_n 3, 1, (0, 0, 0), 0, 0)), (33, (.iload_n 1, 1, (0, 0, 0), 0, 0)), (34, (.bipush 16, 2, (0, 0, 0), 16, 0)), (36, (.invokestatic 56, 3, (0, 219, 0), 0, 1784)), (39, (.istore 4, 2, (0, 0, 0), 0, 0)), (41, (.iload_n 3, 1, (0, 0, 0), 0, 0)), (42, (.iconst 3, 1, (0, 0, 0), 3, 0)), (43, (.invokestatic 52, 3, (0, 218, 0), 0, 1759)), (46, (.istore 5, 2, (0, 0, 0), 0, 0)), (48, (.aload_n 0, 1, (0, 0, 0), 0, 0)), (49, (.iconst 0, 1, (0, 0, 0), 0, 0)), (50, (.iload_n 1, 1, (0, 0, 0), 0, 0)), (51, (.iload_n 3, 1, (0, 0, 0), 0, 0)), (52, (.invokevirtual 297, 3, (0, 269, 0), 0, 1921)), (55, (.sipush 9999, 3, (0, 0, 0), 9999, 0)), (58, (.aload_n 0, 1, (0, 0, 0), 0, 0)), (59, (.iload_n 1, 1, (0, 0, 0), 0, 0)), (60, (.invokevirtual 149, 3, (0, 226, 0), 0, 1804)), (63, (.isub, 1, (0, 0, 0), 0, 0))],
  [(64, (.invokestatic 152, 3, (2, 0, 0), 0, 1812)), (67, (.istore 6, 2, (0, 0, 0), 0, 0)), (69, (.aload_n 0, 1, (0, 0, 0), 0, 0)), (70, (.getfield 13, 3, (12, 1, 0), 0, 1614)), (73, (.iload 4, 2, (0, 0, 0), 0, 0)), (75, (.iload_n 1, 1, (0, 0, 0), 0, 0)), (76, (.iadd, 1, (0, 0, 0), 0, 0)), (77, (.dup2, 1, (0, 0, 0), 0, 0)), (78, (.iaload, 1, (0, 0, 0), 0, 0)), (79, (.iload 6, 2, (0, 0, 0), 0, 0)), (81, (.iadd, 1, (0, 0, 0), 0, 0)), (82, (.iastore, 1, (0, 0, 0), 0, 0)), (83, (.aload_n 0, 1, (0, 0, 0), 0, 0)), (84, (.getfield 13, 3, (12, 1, 0), 0, 1614)), (87, (.bipush 7, 2, (0, 0, 0), 7, 0)), (89, (.dup2, 1, (0, 0, 0), 0, 0)), (90, (.iaload, 1, (0, 0, 0), 0, 0)), (91, (.iload 6, 2, (0, 0, 0), 0, 0)), (93, (.iadd, 1, (0, 0, 0), 0, 0)), (94, (.iastore, 1, (0, 0, 0), 0, 0)), (95, (.aload_n 0, 1, (0, 0, 0), 0, 0))],
  [(96, (.iload_n 3, 1, (0, 0, 0), 0, 0)), (97, (.iconst 2, 1, (0, 0, 0), 2, 0)), (98, (.invokevirtual 77, 3, (0, 220, 0), 0, 1901)), (101, (.ifCond .le 32, 3, (133, 0, 0), 0, 0)), (104, (.aload_n 0, 1, (0, 0, 0), 0, 0)), (105, (.bipush 100, 2, (0, 0, 0), 100, 0)), (107, (.invokevirtual 306, 3, (0, 231, 0), 0, 1977)), (110, (.aload_n 0, 1, (0, 0, 0), 0, 0)), (111, (.iload_n 1, 1, (0, 0, 0), 0, 0)), (112, (.iconst 1, 1, (0, 0, 0), 1, 0)), (113, (.invokevirtual 59, 3, (0, 221, 0), 0, 1787)), (116, (.if_icmp .ge 17, 3, (133, 0, 0), 0, 0)), (119, (.aload_n 0, 1, (0, 0, 0), 0, 0)), (120, (.iload 4, 2, (0, 0, 0), 0, 0)), (122, (.iconst (-1), 1, (0, 0, 0), (-1), 0)), (123, (.aload_n 0, 1, (0, 0, 0), 0, 0)), (124, (.iload_n 3, 1, (0, 0, 0), 0, 0)), (125, (.iconst 2, 1, (0, 0, 0), 2, 0)), (126, (.invokevirtual 77, 3, (0, 220, 0), 0, 1901))],
  [(129, (.invokevirtual 309, 3, (0, 279, 0), 0, 1982)), (132, (.pop, 1, (0, 0, 0), 0, 0)), (133, (.aload_n 0, 1, (0, 0, 0), 0, 0)), (134, (.iload_n 1, 1, (0, 0, 0), 0, 0)), (135, (.iconst 2, 1, (0, 0, 0), 2, 0)), (136, (.invokevirtual 59, 3, (0, 221, 0), 0, 1787)), (139, (.ifCond .le 7, 3, (146, 0, 0), 0, 0)), (142, (.iconst 0, 1, (0, 0, 0), 0, 0)), (143, (.goto 18, 3, (161, 0, 0), 0, 0)), (146, (.aload_n 0, 1, (0, 0, 0), 0, 0)), (147, (.iload 4, 2, (0, 0, 0), 0, 0)), (149, (.iload 5, 2, (0, 0, 0), 0, 0)), (151, (.aload_n 0, 1, (0, 0, 0), 0, 0)), (152, (.iconst 1, 1, (0, 0, 0), 1, 0)), (153, (.iload_n 1, 1, (0, 0, 0), 0, 0)), (154, (.iload_n 3, 1, (0, 0, 0), 0, 0)), (155, (.invokevirtual 297, 3, (0, 269, 0), 0, 1921)), (158, (.invokevirtual 309, 3, (0, 279, 0), 0, 1982))],
  [(161, (.istore 7, 2, (0, 0, 0), 0, 0)), (163, (.iload 7, 2, (0, 0, 0), 0, 0)), (165, (.ifCond .le 12, 3, (177, 0, 0), 0, 0)), (168, (.aload_n 0, 1, (0, 0, 0), 0, 0)), (169, (.iload_n 1, 1, (0, 0, 0), 0, 0)), (170, (.iload_n 3, 1, (0, 0, 0), 0, 0)), (171, (.iload 7, 2, (0, 0, 0), 0, 0)), (173, (.iload_n 2, 1, (0, 0, 0), 0, 0)), (174, (.invokevirtual 312, 3, (0, 281, 0), 0, 1986)), (177, (.aload_n 0, 1, (0, 0, 0), 0, 0)), (178, (.iconst 2, 1, (0, 0, 0), 2, 0)), (179, (.iload_n 1, 1, (0, 0, 0), 0, 0)), (180, (.iload_n 3, 1, (0, 0, 0), 0, 0)), (181, (.invokevirtual 297, 3, (0, 269, 0), 0, 1921)), (184, (.istore 8, 2, (0, 0, 0), 0, 0)), (186, (.aload_n 0, 1, (0, 0, 0), 0, 0)), (187, (.iload_n 1, 1, (0, 0, 0), 0, 0)), (188, (.invokevirtual 149, 3, (0, 226, 0), 0, 1804)), (191, (.aload_n 0, 1, (0, 0, 0), 0, 0))],
  [(192, (.iload 5, 2, (0, 0, 0), 0, 0)), (194, (.iload 8, 2, (0, 0, 0), 0, 0)), (196, (.invokevirtual 316, 3, (0, 280, 0), 0, 1990)), (199, (.iadd, 1, (0, 0, 0), 0, 0)), (200, (.sipush 9999, 3, (0, 0, 0), 9999, 0)), (203, (.if_icmp .gt 14, 3, (217, 0, 0), 0, 0)), (206, (.aload_n 0, 1, (0, 0, 0), 0, 0)), (207, (.iload 5, 2, (0, 0, 0), 0, 0)), (209, (.iload 4, 2, (0, 0, 0), 0, 0)), (211, (.iload 8, 2, (0, 0, 0), 0, 0)), (213, (.invokevirtual 309, 3, (0, 279, 0), 0, 1982)), (216, (.pop, 1, (0, 0, 0), 0, 0)), (217, (.aload_n 0, 1, (0, 0, 0), 0, 0)), (218, (.iload_n 1, 1, (0, 0, 0), 0, 0)), (219, (.iconst 2, 1, (0, 0, 0), 2, 0)), (220, (.iconst 0, 1, (0, 0, 0), 0, 0)), (221, (.aload_n 0, 1, (0, 0, 0), 0, 0)), (222, (.iload_n 1, 1, (0, 0, 0), 0, 0)), (223, (.iconst 2, 1, (0, 0, 0), 2, 0))],
  [(224, (.invokevirtual 59, 3, (0, 221, 0), 0, 1787)), (227, (.iconst 1, 1, (0, 0, 0), 1, 0)), (228, (.isub, 1, (0, 0, 0), 0, 0)), (229, (.invokestatic 319, 3, (3, 0, 0), 0, 1994)), (232, (.invokevirtual 139, 3, (0, 222, 0), 0, 1780)), (235, (.iload 7, 2, (0, 0, 0), 0, 0)), (237, (.ireturn, 1, (0, 0, 0), 0, 0))]]
set_option maxRecDepth 10000 in
def zp283 : List (List (Nat × ZI)) := [[(0, (.iconst 0, 1, (0, 0, 0), 0, 0)), (1, (.istore_n 1, 1, (0, 0, 0), 0, 0)), (2, (.iconst 0, 1, (0, 0, 0), 0, 0)), (3, (.istore_n 2, 1, (0, 0, 0), 0, 0)), (4, (.iload_n 2, 1, (0, 0, 0), 0, 0)), (5, (.aload_n 0, 1, (0, 0, 0), 0, 0)), (6, (.invokevirtual 74, 3, (0, 217, 0), 0, 1776)), (9, (.if_icmp .ge 17, 3, (26, 0, 0), 0, 0)), (12, (.iload_n 1, 1, (0, 0, 0), 0, 0)), (13, (.aload_n 0, 1, (0, 0, 0), 0, 0)), (14, (.iload_n 2, 1, (0, 0, 0), 0, 0)), (15, (.invokevirtual 322, 3, (0, 282, 0), 0, 1973)), (18, (.iadd, 1, (0, 0, 0), 0, 0)), (19, (.istore_n 1, 1, (0, 0, 0), 0, 0)), (20, (.iinc 2 1, 3, (0, 0, 0), 1, 0)), (23, (.goto (-19), 3, (4, 0, 0), 0, 0)), (26, (.iconst 0, 1, (0, 0, 0), 0, 0)), (27, (.istore_n 2, 1, (0, 0, 0), 0, 0)), (28, (.iload_n 2, 1, (0, 0, 0), 0, 0)), (29, (.aload_n 0, 1, (0, 0, 0), 0, 0)), (30, (.invokevirtual 66, 3, (0, 216, 0), 0, 1738))],
  [(33, (.if_icmp .ge 58, 3, (91, 0, 0), 0, 0)), (36, (.aload_n 0, 1, (0, 0, 0), 0, 0)), (37, (.iload_n 2, 1, (0, 0, 0), 0, 0)), (38, (.iconst 0, 1, (0, 0, 0), 0, 0)), (39, (.invokevirtual 77, 3, (0, 220, 0), 0, 1901)), (42, (.iconst 4, 1, (0, 0, 0), 4, 0)), (43, (.if_icmp .ne 42, 3, (85, 0, 0), 0, 0)), (46, (.aload_n 0, 1, (0, 0, 0), 0, 0)), (47, (.getfield 13, 3, (12, 1, 0), 0, 1614)), (50, (.bipush 8, 2, (0, 0, 0), 8, 0)), (52, (.iaload, 1, (0, 0, 0), 0, 0)), (53, (.aload_n 0, 1, (0, 0, 0), 0, 0)), (54, (.getfield 13, 3, (12, 1, 0), 0, 1614)), (57, (.bipush 9, 2, (0, 0, 0), 9, 0)), (59, (.iaload, 1, (0, 0, 0), 0, 0)), (60, (.if_icmp .ge 25, 3, (85, 0, 0), 0, 0)), (63, (.aload_n 0, 1, (0, 0, 0), 0, 0))],
  [(64, (.getfield 13, 3, (12, 1, 0), 0, 1614)), (67, (.bipush 8, 2, (0, 0, 0), 8, 0)), (69, (.dup2, 1, (0, 0, 0), 0, 0)), (70, (.iaload, 1, (0, 0, 0), 0, 0)), (71, (.aload_n 0, 1, (0, 0, 0), 0, 0)), (72, (.iload_n 2, 1, (0, 0, 0), 0, 0)), (73, (.iconst 3, 1, (0, 0, 0), 3, 0)), (74, (.invokestatic 52, 3, (0, 218, 0), 0, 1759)), (77, (.iconst (-1), 1, (0, 0, 0), (-1), 0)), (78, (.bipush 10, 2, (0, 0, 0), 10, 0)), (80, (.invokevirtual 309, 3, (0, 279, 0), 0, 1982)), (83, (.iadd, 1, (0, 0, 0), 0, 0)), (84, (.iastore, 1, (0, 0, 0), 0, 0)), (85, (.iinc 2 1, 3, (0, 0, 0), 1, 0)), (88, (.goto (-60), 3, (28, 0, 0), 0, 0)), (91, (.aload_n 0, 1, (0, 0, 0), 0, 0)), (92, (.getfield 13, 3, (12, 1, 0), 0, 1614)), (95, (.iconst 5, 1, (0, 0, 0), 5, 0))],
  [(96, (.dup2, 1, (0, 0, 0), 0, 0)), (97, (.iaload, 1, (0, 0, 0), 0, 0)), (98, (.iconst 1, 1, (0, 0, 0), 1, 0)), (99, (.iadd, 1, (0, 0, 0), 0, 0)), (100, (.iastore, 1, (0, 0, 0), 0, 0)), (101, (.iload_n 1, 1, (0, 0, 0), 0, 0)), (102, (.ireturn, 1, (0, 0, 0), 0, 0))]]
set_option maxRecDepth 10000 in
def zp284 : List (List (Nat × ZI)) := [[(0, (.aload_n 0, 1, (0, 0, 0), 0, 0)), (1, (.iconst 0, 1, (0, 0, 0), 0, 0)), (2, (.putfield 3, 3, (12, 0, 0), 0, 1613)), (5, (.aload_n 0, 1, (0, 0, 0), 0, 0)), (6, (.iload_n 1, 1, (0, 0, 0), 0, 0)), (7, (.iconst 1, 1, (0, 0, 0), 1, 0)), (8, (.bipush 100, 2, (0, 0, 0), 100, 0)), (10, (.invokestatic 70, 3, (0, 209, 0), 0, 1898)), (13, (.ifCond .ne 7, 3, (20, 0, 0), 0, 0)), (16, (.iconst 1, 1, (0, 0, 0), 1, 0)), (17, (.goto 4, 3, (21, 0, 0), 0, 0)), (20, (.iconst 0, 1, (0, 0, 0), 0, 0)), (21, (.iconst 1, 1, (0, 0, 0), 1, 0)), (22, (.invokevirtual 272, 3, (0, 208, 0), 0, 1882)), (25, (.ifCond .eq 5, 3, (30, 0, 0), 0, 0)), (28, (.iconst 0, 1, (0, 0, 0), 0, 0)), (29, (.ireturn, 1, (0, 0, 0), 0, 0)), (30, (.aload_n 0, 1, (0, 0, 0), 0, 0)), (31, (.invokevirtual 325, 3, (0, 214, 0), 0, 1965))],
  [(34, (.iconst 0, 1, (0, 0, 0), 0, 0)), (35, (.istore_n 2, 1, (0, 0, 0), 0, 0)), (36, (.iconst 0, 1, (0, 0, 0), 0, 0)), (37, (.istore_n 3, 1, (0, 0, 0), 0, 0)), (38, (.iload_n 3, 1, (0, 0, 0), 0, 0)), (39, (.iload_n 1, 1, (0, 0, 0), 0, 0)), (40, (.if_icmp .ge 16, 3, (56, 0, 0), 0, 0)), (43, (.iload_n 2, 1, (0, 0, 0), 0, 0)), (44, (.aload_n 0, 1, (0, 0, 0), 0, 0)), (45, (.invokevirtual 328, 3, (0, 283, 0), 0, 1969)), (48, (.iadd, 1, (0, 0, 0), 0, 0)), (49, (.istore_n 2, 1, (0, 0, 0), 0, 0)), (50, (.iinc 3 1, 3, (0, 0, 0), 1, 0)), (53, (.goto (-15), 3, (38, 0, 0), 0, 0)), (56, (.iload_n 2, 1, (0, 0, 0), 0, 0)), (57, (.ireturn, 1, (0, 0, 0), 0, 0))]]
set_option maxRecDepth 10000 in
def zp285 : List (List (Nat × ZI)) := [[(0, (.aload_n 0, 1, (0, 0, 0), 0, 0)), (1, (.iload_n 1, 1, (0, 0, 0), 0, 0)), (2, (.iconst 3, 1, (0, 0, 0), 3, 0)), (3, (.invokestatic 52, 3, (0, 218, 0), 0, 1759)), (6, (.iconst (-1), 1, (0, 0, 0), (-1), 0)), (7, (.aload_n 0, 1, (0, 0, 0), 0, 0)), (8, (.iconst 3, 1, (0, 0, 0), 3, 0)), (9, (.iconst 0, 1, (0, 0, 0), 0, 0)), (10, (.iload_n 1, 1, (0, 0, 0), 0, 0)), (11, (.invokevirtual 297, 3, (0, 269, 0), 0, 1921)), (14, (.invokevirtual 309, 3, (0, 279, 0), 0, 1982)), (17, (.ireturn, 1, (0, 0, 0), 0, 0))]]
set_option maxRecDepth 10000 in
def zp286 : List (List (Nat × ZI)) := [[(0, (.aload_n 0, 1, (0, 0, 0), 0, 0)), (1, (.iload_n 1, 1, (0, 0, 0), 0, 0)), (2, (.bipush 16, 2, (0, 0, 0), 16, 0)), (4, (.invokestatic 56, 3, (0, 219, 0), 0, 1784)), (7, (.iconst (-1), 1, (0, 0, 0), (-1), 0)), (8, (.bipush 50, 2, (0, 0, 0), 50, 0)), (10, (.invokevirtual 309, 3, (0, 279, 0), 0, 1982)), (13, (.ireturn, 1, (0, 0, 0), 0, 0))]]
set_option maxRecDepth 10000 in
def zp287 : List (List (Nat × ZI)) := [[(0, (.aload_n 0, 1, (0, 0, 0), 0, 0)), (1, (.iconst 0, 1, (0, 0, 0), 0, 0)), (2, (.putfield 3, 3, (12, 0, 0), 0, 1613)), (5, (.aload_n 0, 1, (0, 0, 0), 0, 0)), (6, (.aload_n 0, 1, (0, 0, 0), 0, 0)), (7, (.iload_n 1, 1, (0, 0, 0), 0, 0)), (8, (.invokevirtual 288, 3, (0, 227, 0), 0, 1894)), (11, (.iconst 1, 1, (0, 0, 0), 1, 0)), (12, (.invokevirtual 272, 3, (0, 208, 0), 0, 1882)), (15, (.ifCond .eq 5, 3, (20, 0, 0), 0, 0)), (18, (.iconst 0, 1, (0, 0, 0), 0, 0)), (19, (.ireturn, 1, (0, 0, 0), 0, 0)), (20, (.aload_n 0, 1, (0, 0, 0), 0, 0)), (21, (.invokevirtual 325, 3, (0, 214, 0), 0, 1965)), (24, (.aload_n 0, 1, (0, 0, 0), 0, 0)), (25, (.getfield 13, 3, (12, 1, 0), 0, 1614)), (28, (.bipush 10, 2, (0, 0, 0), 10, 0)), (30, (.dup2, 1, (0, 0, 0), 0, 0)), (31, (.iaload, 1, (0, 0, 0), 0, 0))],
  [(32, (.aload_n 0, 1, (0, 0, 0), 0, 0)), (33, (.iload_n 1, 1, (0, 0, 0), 0, 0)), (34, (.iconst 1, 1, (0, 0, 0), 1, 0)), (35, (.invokevirtual 77, 3, (0, 220, 0), 0, 1901)), (38, (.iadd, 1, (0, 0, 0), 0, 0)), (39, (.iastore, 1, (0, 0, 0), 0, 0)), (40, (.aload_n 0, 1, (0, 0, 0), 0, 0)), (41, (.iload_n 1, 1, (0, 0, 0), 0, 0)), (42, (.invokevirtual 330, 3, (0, 285, 0), 0, 1999)), (45, (.ireturn, 1, (0, 0, 0), 0, 0))]]
set_option maxRecDepth 10000 in
def zp288 : List (List (Nat × ZI)) := [[(0, (.aload_n 0, 1, (0, 0, 0), 0, 0)), (1, (.iconst 0, 1, (0, 0, 0), 0, 0)), (2, (.putfield 3, 3, (12, 0, 0), 0, 1613)), (5, (.aload_n 0, 1, (0, 0, 0), 0, 0)), (6, (.aload_n 0, 1, (0, 0, 0), 0, 0)), (7, (.iload_n 1, 1, (0, 0, 0), 0, 0)), (8, (.invokevirtual 300, 3, (0, 228, 0), 0, 1937)), (11, (.iconst 1, 1, (0, 0, 0), 1, 0)), (12, (.invokevirtual 272, 3, (0, 208, 0), 0, 1882)), (15, (.ifCond .eq 5, 3, (20, 0, 0), 0, 0)), (18, (.iconst 0, 1, (0, 0, 0), 0, 0)), (19, (.ireturn, 1, (0, 0, 0), 0, 0)), (20, (.aload_n 0, 1, (0, 0, 0), 0, 0)), (21, (.invokevirtual 325, 3, (0, 214, 0), 0, 1965)), (24, (.aload_n 0, 1, (0, 0, 0), 0, 0)), (25, (.iload_n 1, 1, (0, 0, 0), 0, 0)), (26, (.invokevirtual 333, 3, (0, 286, 0), 0, 2007)), (29, (.ireturn, 1, (0, 0, 0), 0, 0))]]
set_option maxRecDepth 10000 in
def zp289 : List (List (Nat × ZI)) := [[(0, (.aload_n 0, 1, (0, 0, 0), 0, 0)), (1, (.invokevirtual 325, 3, (0, 214, 0), 0, 1965)), (4, (.aload_n 0, 1, (0, 0, 0), 0, 0)), (5, (.getfield 13, 3, (12, 1, 0), 0, 1614)), (8, (.iload_n 1, 1, (0, 0, 0), 0, 0)), (9, (.iaload, 1, (0, 0, 0), 0, 0)), (10, (.istore_n 3, 1, (0, 0, 0), 0, 0)), (11, (.aload_n 0, 1, (0, 0, 0), 0, 0)), (12, (.getfield 13, 3, (12, 1, 0), 0, 1614)), (15, (.iload_n 1, 1, (0, 0, 0), 0, 0)), (16, (.iload_n 2, 1, (0, 0, 0), 0, 0)), (17, (.iastore, 1, (0, 0, 0), 0, 0)), (18, (.iload_n 3, 1, (0, 0, 0), 0, 0)), (19, (.ireturn, 1, (0, 0, 0), 0, 0))]]
set_option maxRecDepth 10000 in
def zp290 : List (List (Nat × ZI)) := [[(0, (.aload_n 0, 1, (0, 0, 0), 0, 0)), (1, (.iconst 0, 1, (0, 0, 0), 0, 0)), (2, (.putfield 3, 3, (12, 0, 0), 0, 1613)), (5, (.aload_n 0, 1, (0, 0, 0), 0, 0)), (6, (.aload_n 0, 1, (0, 0, 0), 0, 0)), (7, (.iload_n 1, 1, (0, 0, 0), 0, 0)), (8, (.invokevirtual 288, 3, (0, 227, 0), 0, 1894)), (11, (.iconst 1, 1, (0, 0, 0), 1, 0)), (12, (.invokevirtual 272, 3, (0, 208, 0), 0, 1882)), (15, (.ifCond .ne 26, 3, (41, 0, 0), 0, 0)), (18, (.aload_n 0, 1, (0, 0, 0), 0, 0)), (19, (.iload_n 2, 1, (0, 0, 0), 0, 0)), (20, (.iconst 0, 1, (0, 0, 0), 0, 0)), (21, (.bipush 100, 2, (0, 0, 0), 100, 0)), (23, (.invokestatic 70, 3, (0, 209, 0), 0, 1898)), (26, (.ifCond .ne 7, 3, (33, 0, 0), 0, 0)), (29, (.iconst 1, 1, (0, 0, 0), 1, 0)), (30, (.goto 4, 3, (34, 0, 0), 0, 0))],
  [(33, (.iconst 0, 1, (0, 0, 0), 0, 0)), (34, (.iconst 2, 1, (0, 0, 0), 2, 0)), (35, (.invokevirtual 272, 3, (0, 208, 0), 0, 1882)), (38, (.ifCond .eq 7, 3, (45, 0, 0), 0, 0)), (41, (.iconst 0, 1, (0, 0, 0), 0, 0)), (42, (.goto 13, 3, (55, 0, 0), 0, 0)), (45, (.aload_n 0, 1, (0, 0, 0), 0, 0)), (46, (.iload_n 1, 1, (0, 0, 0), 0, 0)), (47, (.iconst 2, 1, (0, 0, 0), 2, 0)), (48, (.invokestatic 52, 3, (0, 218, 0), 0, 1759)), (51, (.iload_n 2, 1, (0, 0, 0), 0, 0)), (52, (.invokevirtual 336, 3, (0, 289, 0), 0, 2015)), (55, (.ireturn, 1, (0, 0, 0), 0, 0))]]
set_option maxRecDepth 10000 in
def zp291 : List (List (Nat × ZI)) := [[(0, (.aload_n 0, 1, (0, 0, 0), 0, 0)), (1, (.iconst 0, 1, (0, 0, 0), 0, 0)), (2, (.putfield 3, 3, (12, 0, 0), 0, 1613)), (5, (.aload_n 0, 1, (0, 0, 0), 0, 0)), (6, (.aload_n 0, 1, (0, 0, 0), 0, 0)), (7, (.iload_n 1, 1, (0, 0, 0), 0, 0)), (8, (.invokevirtual 300, 3, (0, 228, 0), 0, 1937)), (11, (.iconst 1, 1, (0, 0, 0), 1, 0)), (12, (.invokevirtual 272, 3, (0, 208, 0), 0, 1882)), (15, (.ifCond .ne 26, 3, (41, 0, 0), 0, 0)), (18, (.aload_n 0, 1, (0, 0, 0), 0, 0)), (19, (.iload_n 2, 1, (0, 0, 0), 0, 0)), (20, (.iconst 0, 1, (0, 0, 0), 0, 0)), (21, (.bipush 100, 2, (0, 0, 0), 100, 0)), (23, (.invokestatic 70, 3, (0, 209, 0), 0, 1898)), (26, (.ifCond .ne 7, 3, (33, 0, 0), 0, 0)), (29, (.iconst 1, 1, (0, 0, 0), 1, 0)), (30, (.goto 4, 3, (34, 0, 0), 0, 0))],
  [(33, (.iconst 0, 1, (0, 0, 0), 0, 0)), (34, (.iconst 2, 1, (0, 0, 0), 2, 0)), (35, (.invokevirtual 272, 3, (0, 208, 0), 0, 1882)), (38, (.ifCond .eq 7, 3, (45, 0, 0), 0, 0)), (41, (.iconst 0, 1, (0, 0, 0), 0, 0)), (42, (.goto 13, 3, (55, 0, 0), 0, 0)), (45, (.aload_n 0, 1, (0, 0, 0), 0, 0)), (46, (.iload_n 1, 1, (0, 0, 0), 0, 0)), (47, (.iconst 1, 1, (0, 0, 0), 1, 0)), (48, (.invokestatic 56, 3, (0, 219, 0), 0, 1784)), (51, (.iload_n 2, 1, (0, 0, 0), 0, 0)), (52, (.invokevirtual 336, 3, (0, 289, 0), 0, 2015)), (55, (.ireturn, 1, (0, 0, 0), 0, 0))]]
set_option maxRecDepth 10000 in
def zp292 : List (List (Nat × ZI)) := [[(0, (.aload_n 0, 1, (0, 0, 0), 0, 0)), (1, (.iconst 0, 1, (0, 0, 0), 0, 0)), (2, (.putfield 3, 3, (12, 0, 0), 0, 1613)), (5, (.aload_n 0, 1, (0, 0, 0), 0, 0)), (6, (.aload_n 0, 1, (0, 0, 0), 0, 0)), (7, (.iload_n 1, 1, (0, 0, 0), 0, 0)), (8, (.invokevirtual 300, 3, (0, 228, 0), 0, 1937)), (11, (.iconst 1, 1, (0, 0, 0), 1, 0)), (12, (.invokevirtual 272, 3, (0, 208, 0), 0, 1882)), (15, (.ifCond .ne 26, 3, (41, 0, 0), 0, 0)), (18, (.aload_n 0, 1, (0, 0, 0), 0, 0)), (19, (.iload_n 2, 1, (0, 0, 0), 0, 0)), (20, (.iconst 0, 1, (0, 0, 0), 0, 0)), (21, (.bipush 99, 2, (0, 0, 0), 99, 0)), (23, (.invokestatic 70, 3, (0, 209, 0), 0, 1898)), (26, (.ifCond .ne 7, 3, (33, 0, 0), 0, 0)), (29, (.iconst 1, 1, (0, 0, 0), 1, 0)), (30, (.goto 4, 3, (34, 0, 0), 0, 0))],
  [(33, (.iconst 0, 1, (0, 0, 0), 0, 0)), (34, (.iconst 2, 1, (0, 0, 0), 2, 0)), (35, (.invokevirtual 272, 3, (0, 208, 0), 0, 1882)), (38, (.ifCond .eq 7, 3, (45, 0, 0), 0, 0)), (41, (.iconst 0, 1, (0, 0, 0), 0, 0)), (42, (.goto 13, 3, (55, 0, 0), 0, 0)), (45, (.aload_n 0, 1, (0, 0, 0), 0, 0)), (46, (.iload_n 1, 1, (0, 0, 0), 0, 0)), (47, (.iconst 2, 1, (0, 0, 0), 2, 0)), (48, (.invokestatic 56, 3, (0, 219, 0), 0, 1784)), (51, (.iload_n 2, 1, (0, 0, 0), 0, 0)), (52, (.invokevirtual 336, 3, (0, 289, 0), 0, 2015)), (55, (.ireturn, 1, (0, 0, 0), 0, 0))]]
set_option maxRecDepth 10000 in
def zp293 : List (List (Nat × ZI)) := [[(0, (.iconst 0, 1, (0, 0, 0), 0, 0)), (1, (.istore_n 1, 1, (0, 0, 0), 0, 0)), (2, (.iload_n 1, 1, (0, 0, 0), 0, 0)), (3, (.sipush 777, 3, (0, 0, 0), 777, 0)), (6, (.if_icmp .ge 21, 3, (27, 0, 0), 0, 0)), (9, (.aload_n 0, 1, (0, 0, 0), 0, 0)), (10, (.getfield 23, 3, (12, 4, 0), 0, 1617)), (13, (.iload_n 1, 1, (0, 0, 0), 0, 0)), (14, (.aload_n 0, 1, (0, 0, 0), 0, 0)), (15, (.getfield 13, 3, (12, 1, 0), 0, 1614)), (18, (.iload_n 1, 1, (0, 0, 0), 0, 0)), (19, (.iaload, 1, (0, 0, 0), 0, 0)), (20, (.iastore, 1, (0, 0, 0), 0, 0)), (21, (.iinc 1 1, 3, (0, 0, 0), 1, 0)), (24, (.goto (-22), 3, (2, 0, 0), 0, 0)), (27, (.return_, 1, (0, 0, 0), 0, 0))]]
set_option maxRecDepth 10000 in
def zp294 : List (List (Nat × ZI)) := [[(0, (.iconst 0, 1, (0, 0, 0), 0, 0)), (1, (.istore_n 1, 1, (0, 0, 0), 0, 0)), (2, (.iload_n 1, 1, (0, 0, 0), 0, 0)), (3, (.sipush 777, 3, (0, 0, 0), 777, 0)), (6, (.if_icmp .ge 21, 3, (27, 0, 0), 0, 0)), (9, (.aload_n 0, 1, (0, 0, 0), 0, 0)), (10, (.getfield 13, 3, (12, 1, 0), 0, 1614)), (13, (.iload_n 1, 1, (0, 0, 0), 0, 0)), (14, (.aload_n 0, 1, (0, 0, 0), 0, 0)), (15, (.getfield 23, 3, (12, 4, 0), 0, 1617)), (18, (.iload_n 1, 1, (0, 0, 0), 0, 0)), (19, (.iaload, 1, (0, 0, 0), 0, 0)), (20, (.iastore, 1, (0, 0, 0), 0, 0)), (21, (.iinc 1 1, 3, (0, 0, 0), 1, 0)), (24, (.goto (-22), 3, (2, 0, 0), 0, 0)), (27, (.return_, 1, (0, 0, 0), 0, 0))]]
set_option maxRecDepth 10000 in
def zp295 : List (List (Nat × ZI)) := [[(0, (.iconst 0, 1, (0, 0, 0), 0, 0)), (1, (.istore_n 2, 1, (0, 0, 0), 0, 0)), (2, (.iload_n 2, 1, (0, 0, 0), 0, 0)), (3, (.iload_n 1, 1, (0, 0, 0), 0, 0)), (4, (.if_icmp .ge 14, 3, (18, 0, 0), 0, 0)), (7, (.aload_n 0, 1, (0, 0, 0), 0, 0)), (8, (.invokevirtual 328, 3, (0, 283, 0), 0, 1969)), (11, (.pop, 1, (0, 0, 0), 0, 0)), (12, (.iinc 2 1, 3, (0, 0, 0), 1, 0)), (15, (.goto (-13), 3, (2, 0, 0), 0, 0)), (18, (.return_, 1, (0, 0, 0), 0, 0))]]
set_option maxRecDepth 10000 in
def zp296 : List (List (Nat × ZI)) := [[(0, (.iconst 0, 1, (0, 0, 0), 0, 0)), (1, (.istore_n 1, 1, (0, 0, 0), 0, 0)), (2, (.iconst 0, 1, (0, 0, 0), 0, 0)), (3, (.istore_n 2, 1, (0, 0, 0), 0, 0)), (4, (.iload_n 2, 1, (0, 0, 0), 0, 0)), (5, (.aload_n 0, 1, (0, 0, 0), 0, 0)), (6, (.invokevirtual 66, 3, (0, 216, 0), 0, 1738)), (9, (.if_icmp .ge 31, 3, (40, 0, 0), 0, 0)), (12, (.iload_n 1, 1, (0, 0, 0), 0, 0)), (13, (.aload_n 0, 1, (0, 0, 0), 0, 0)), (14, (.iload_n 2, 1, (0, 0, 0), 0, 0)), (15, (.iconst 0, 1, (0, 0, 0), 0, 0)), (16, (.invokevirtual 77, 3, (0, 220, 0), 0, 1901)), (19, (.iconst 3, 1, (0, 0, 0), 3, 0)), (20, (.if_icmp .ne 11, 3, (31, 0, 0), 0, 0)), (23, (.aload_n 0, 1, (0, 0, 0), 0, 0)), (24, (.iload_n 2, 1, (0, 0, 0), 0, 0)), (25, (.invokevirtual 275, 3, (0, 225, 0), 0, 1905)), (28, (.goto 4, 3, (32, 0, 0), 0, 0)), (31, (.iconst 0, 1, (0, 0, 0), 0, 0))],
  [(32, (.iadd, 1, (0, 0, 0), 0, 0)), (33, (.istore_n 1, 1, (0, 0, 0), 0, 0)), (34, (.iinc 2 1, 3, (0, 0, 0), 1, 0)), (37, (.goto (-33), 3, (4, 0, 0), 0, 0)), (40, (.iload_n 1, 1, (0, 0, 0), 0, 0)), (41, (.ireturn, 1, (0, 0, 0), 0, 0))]]
set_option maxRecDepth 10000 in
def zp297 : List (List (Nat × ZI)) := [[(0, (.iconst 0, 1, (0, 0, 0), 0, 0)), (1, (.istore_n 1, 1, (0, 0, 0), 0, 0)), (2, (.iconst 0, 1, (0, 0, 0), 0, 0)), (3, (.istore_n 2, 1, (0, 0, 0), 0, 0)), (4, (.iload_n 2, 1, (0, 0, 0), 0, 0)), (5, (.aload_n 0, 1, (0, 0, 0), 0, 0)), (6, (.invokevirtual 66, 3, (0, 216, 0), 0, 1738)), (9, (.if_icmp .ge 29, 3, (38, 0, 0), 0, 0)), (12, (.iload_n 1, 1, (0, 0, 0), 0, 0)), (13, (.aload_n 0, 1, (0, 0, 0), 0, 0)), (14, (.iload_n 2, 1, (0, 0, 0), 0, 0)), (15, (.invokevirtual 339, 3, (0, 229, 0), 0, 2047)), (18, (.ifCond .eq 11, 3, (29, 0, 0), 0, 0)), (21, (.aload_n 0, 1, (0, 0, 0), 0, 0)), (22, (.iload_n 2, 1, (0, 0, 0), 0, 0)), (23, (.invokevirtual 275, 3, (0, 225, 0), 0, 1905)), (26, (.goto 4, 3, (30, 0, 0), 0, 0)), (29, (.iconst 0, 1, (0, 0, 0), 0, 0)), (30, (.iadd, 1, (0, 0, 0), 0, 0)), (31, (.istore_n 1, 1, (0, 0, 0), 0, 0))],
  [(32, (.iinc 2 1, 3, (0, 0, 0), 1, 0)), (35, (.goto (-31), 3, (4, 0, 0), 0, 0)), (38, (.iload_n 1, 1, (0, 0, 0), 0, 0)), (39, (.ireturn, 1, (0, 0, 0), 0, 0))]]
set_option maxRecDepth 10000 in
def zp298 : List (List (Nat × ZI)) := [[(0, (.iconst 0, 1, (0, 0, 0), 0, 0)), (1, (.istore_n 1, 1, (0, 0, 0), 0, 0)), (2, (.iconst 0, 1, (0, 0, 0), 0, 0)), (3, (.istore_n 2, 1, (0, 0, 0), 0, 0)), (4, (.iload_n 2, 1, (0, 0, 0), 0, 0)), (5, (.aload_n 0, 1, (0, 0, 0), 0, 0)), (6, (.invokevirtual 74, 3, (0, 217, 0), 0, 1776)), (9, (.if_icmp .ge 17, 3, (26, 0, 0), 0, 0)), (12, (.iload_n 1, 1, (0, 0, 0), 0, 0)), (13, (.aload_n 0, 1, (0, 0, 0), 0, 0)), (14, (.iload_n 2, 1, (0, 0, 0), 0, 0)), (15, (.invokevirtual 149, 3, (0, 226, 0), 0, 1804)), (18, (.iadd, 1, (0, 0, 0), 0, 0)), (19, (.istore_n 1, 1, (0, 0, 0), 0, 0)), (20, (.iinc 2 1, 3, (0, 0, 0), 1, 0)), (23, (.goto (-19), 3, (4, 0, 0), 0, 0)), (26, (.iload_n 1, 1, (0, 0, 0), 0, 0)), (27, (.ireturn, 1, (0, 0, 0), 0, 0))]]
set_option maxRecDepth 10000 in
def zp299 : List (List (Nat × ZI)) := [[(0, (.aload_n 0, 1, (0, 0, 0), 0, 0)), (1, (.iconst 0, 1, (0, 0, 0), 0, 0)), (2, (.putfield 3, 3, (12, 0, 0), 0, 1613)), (5, (.aload_n 0, 1, (0, 0, 0), 0, 0)), (6, (.iload_n 1, 1, (0, 0, 0), 0, 0)), (7, (.iconst 0, 1, (0, 0, 0), 0, 0)), (8, (.bipush 100, 2, (0, 0, 0), 100, 0)), (10, (.invokestatic 70, 3, (0, 209, 0), 0, 1898)), (13, (.ifCond .ne 7, 3, (20, 0, 0), 0, 0)), (16, (.iconst 1, 1, (0, 0, 0), 1, 0)), (17, (.goto 4, 3, (21, 0, 0), 0, 0)), (20, (.iconst 0, 1, (0, 0, 0), 0, 0)), (21, (.iconst 1, 1, (0, 0, 0), 1, 0)), (22, (.invokevirtual 272, 3, (0, 208, 0), 0, 1882)), (25, (.ifCond .ne 25, 3, (50, 0, 0), 0, 0)), (28, (.aload_n 0, 1, (0, 0, 0), 0, 0)), (29, (.iload_n 2, 1, (0, 0, 0), 0, 0)), (30, (.iconst 0, 1, (0, 0, 0), 0, 0)), (31, (.iconst 3, 1, (0, 0, 0), 3, 0))],
  [(32, (.invokestatic 70, 3, (0, 209, 0), 0, 1898)), (35, (.ifCond .ne 7, 3, (42, 0, 0), 0, 0)), (38, (.iconst 1, 1, (0, 0, 0), 1, 0)), (39, (.goto 4, 3, (43, 0, 0), 0, 0)), (42, (.iconst 0, 1, (0, 0, 0), 0, 0)), (43, (.iconst 2, 1, (0, 0, 0), 2, 0)), (44, (.invokevirtual 272, 3, (0, 208, 0), 0, 1882)), (47, (.ifCond .eq 5, 3, (52, 0, 0), 0, 0)), (50, (.iconst 0, 1, (0, 0, 0), 0, 0)), (51, (.ireturn, 1, (0, 0, 0), 0, 0)), (52, (.aload_n 0, 1, (0, 0, 0), 0, 0)), (53, (.invokevirtual 342, 3, (0, 293, 0), 0, 2031)), (56, (.aload_n 0, 1, (0, 0, 0), 0, 0)), (57, (.iload_n 1, 1, (0, 0, 0), 0, 0)), (58, (.invokevirtual 345, 3, (0, 295, 0), 0, 2035)), (61, (.iload_n 2, 1, (0, 0, 0), 0, 0)), (62, (.ifCond .ne 10, 3, (72, 0, 0), 0, 0))],
  [(65, (.aload_n 0, 1, (0, 0, 0), 0, 0)), (66, (.invokevirtual 349, 3, (0, 296, 0), 0, 2039)), (69, (.goto 34, 3, (103, 0, 0), 0, 0)), (72, (.iload_n 2, 1, (0, 0, 0), 0, 0)), (73, (.iconst 1, 1, (0, 0, 0), 1, 0)), (74, (.if_icmp .ne 10, 3, (84, 0, 0), 0, 0)), (77, (.aload_n 0, 1, (0, 0, 0), 0, 0)), (78, (.invokevirtual 352, 3, (0, 297, 0), 0, 2043)), (81, (.goto 22, 3, (103, 0, 0), 0, 0)), (84, (.iload_n 2, 1, (0, 0, 0), 0, 0)), (85, (.iconst 2, 1, (0, 0, 0), 2, 0)), (86, (.if_icmp .ne 10, 3, (96, 0, 0), 0, 0)), (89, (.aload_n 0, 1, (0, 0, 0), 0, 0)), (90, (.invokevirtual 355, 3, (0, 298, 0), 0, 2051)), (93, (.goto 10, 3, (103, 0, 0), 0, 0))],
  [(96, (.aload_n 0, 1, (0, 0, 0), 0, 0)), (97, (.getfield 13, 3, (12, 1, 0), 0, 1614)), (100, (.bipush 6, 2, (0, 0, 0), 6, 0)), (102, (.iaload, 1, (0, 0, 0), 0, 0)), (103, (.istore_n 3, 1, (0, 0, 0), 0, 0)), (104, (.aload_n 0, 1, (0, 0, 0), 0, 0)), (105, (.invokevirtual 358, 3, (0, 294, 0), 0, 2055)), (108, (.iload_n 3, 1, (0, 0, 0), 0, 0)), (109, (.ireturn, 1, (0, 0, 0), 0, 0))]]
set_option maxRecDepth 10000 in
def zp300 : List (List (Nat × ZI)) := [[(0, (.aload_n 0, 1, (0, 0, 0), 0, 0)), (1, (.iload_n 1, 1, (0, 0, 0), 0, 0)), (2, (.invokevirtual 345, 3, (0, 295, 0), 0, 2035)), (5, (.iload_n 2, 1, (0, 0, 0), 0, 0)), (6, (.ifCond .eq 10, 3, (16, 0, 0), 0, 0)), (9, (.aload_n 0, 1, (0, 0, 0), 0, 0)), (10, (.invokevirtual 352, 3, (0, 297, 0), 0, 2043)), (13, (.goto 7, 3, (20, 0, 0), 0, 0)), (16, (.aload_n 0, 1, (0, 0, 0), 0, 0)), (17, (.invokevirtual 349, 3, (0, 296, 0), 0, 2039)), (20, (.istore_n 3, 1, (0, 0, 0), 0, 0)), (21, (.aload_n 0, 1, (0, 0, 0), 0, 0)), (22, (.invokevirtual 358, 3, (0, 294, 0), 0, 2055)), (25, (.iload_n 3, 1, (0, 0, 0), 0, 0)), (26, (.ireturn, 1, (0, 0, 0), 0, 0))]]
set_option maxRecDepth 10000 in
def zp301 : List (List (Nat × ZI)) := [[(0, (.aload_n 0, 1, (0, 0, 0), 0, 0)), (1, (.iconst 0, 1, (0, 0, 0), 0, 0)), (2, (.putfield 3, 3, (12, 0, 0), 0, 1613)), (5, (.aload_n 0, 1, (0, 0, 0), 0, 0)), (6, (.aload_n 0, 1, (0, 0, 0), 0, 0)), (7, (.iload_n 1, 1, (0, 0, 0), 0, 0)), (8, (.invokevirtual 288, 3, (0, 227, 0), 0, 1894)), (11, (.iconst 1, 1, (0, 0, 0), 1, 0)), (12, (.invokevirtual 272, 3, (0, 208, 0), 0, 1882)), (15, (.ifCond .ne 36, 3, (51, 0, 0), 0, 0)), (18, (.aload_n 0, 1, (0, 0, 0), 0, 0)), (19, (.iload_n 2, 1, (0, 0, 0), 0, 0)), (20, (.iconst 1, 1, (0, 0, 0), 1, 0)), (21, (.bipush 100, 2, (0, 0, 0), 100, 0)), (23, (.invokestatic 70, 3, (0, 209, 0), 0, 1898)), (26, (.ifCond .eq 13, 3, (39, 0, 0), 0, 0)), (29, (.iload_n 3, 1, (0, 0, 0), 0, 0)), (30, (.iconst 0, 1, (0, 0, 0), 0, 0)), (31, (.bipush 100, 2, (0, 0, 0), 100, 0))],
  [(33, (.invokestatic 70, 3, (0, 209, 0), 0, 1898)), (36, (.ifCond .ne 7, 3, (43, 0, 0), 0, 0)), (39, (.iconst 1, 1, (0, 0, 0), 1, 0)), (40, (.goto 4, 3, (44, 0, 0), 0, 0)), (43, (.iconst 0, 1, (0, 0, 0), 0, 0)), (44, (.iconst 2, 1, (0, 0, 0), 2, 0)), (45, (.invokevirtual 272, 3, (0, 208, 0), 0, 1882)), (48, (.ifCond .eq 5, 3, (53, 0, 0), 0, 0)), (51, (.iconst 0, 1, (0, 0, 0), 0, 0)), (52, (.ireturn, 1, (0, 0, 0), 0, 0)), (53, (.aload_n 0, 1, (0, 0, 0), 0, 0)), (54, (.invokevirtual 342, 3, (0, 293, 0), 0, 2031)), (57, (.aload_n 0, 1, (0, 0, 0), 0, 0)), (58, (.iload_n 3, 1, (0, 0, 0), 0, 0)), (59, (.iconst 0, 1, (0, 0, 0), 0, 0)), (60, (.invokevirtual 361, 3, (0, 300, 0), 0, 2063)), (63, (.istore 4, 2, (0, 0, 0), 0, 0))],
  [(65, (.aload_n 0, 1, (0, 0, 0), 0, 0)), (66, (.getfield 13, 3, (12, 1, 0), 0, 1614)), (69, (.iload_n 1, 1, (0, 0, 0), 0, 0)), (70, (.iconst 2, 1, (0, 0, 0), 2, 0)), (71, (.invokestatic 52, 3, (0, 218, 0), 0, 1759)), (74, (.iload_n 2, 1, (0, 0, 0), 0, 0)), (75, (.iastore, 1, (0, 0, 0), 0, 0)), (76, (.iload 4, 2, (0, 0, 0), 0, 0)), (78, (.aload_n 0, 1, (0, 0, 0), 0, 0)), (79, (.iload_n 3, 1, (0, 0, 0), 0, 0)), (80, (.iconst 0, 1, (0, 0, 0), 0, 0)), (81, (.invokevirtual 361, 3, (0, 300, 0), 0, 2063)), (84, (.isub, 1, (0, 0, 0), 0, 0)), (85, (.ireturn, 1, (0, 0, 0), 0, 0))]]
set_option maxRecDepth 10000 in
def zp302 : List (List (Nat × ZI)) := [[(0, (.iload_n 1, 1, (0, 0, 0), 0, 0)), (1, (.iconst 1, 1, (0, 0, 0), 1, 0)), (2, (.bipush 100, 2, (0, 0, 0), 100, 0)), (4, (.invokestatic 70, 3, (0, 209, 0), 0, 1898)), (7, (.ifCond .eq 13, 3, (20, 0, 0), 0, 0)), (10, (.iload_n 2, 1, (0, 0, 0), 0, 0)), (11, (.iconst 0, 1, (0, 0, 0), 0, 0)), (12, (.bipush 24, 2, (0, 0, 0), 24, 0)), (14, (.invokestatic 70, 3, (0, 209, 0), 0, 1898)), (17, (.ifCond .ne 7, 3, (24, 0, 0), 0, 0)), (20, (.iconst 1, 1, (0, 0, 0), 1, 0)), (21, (.goto 4, 3, (25, 0, 0), 0, 0)), (24, (.iconst 0, 1, (0, 0, 0), 0, 0)), (25, (.ireturn, 1, (0, 0, 0), 0, 0))]]
set_option maxRecDepth 10000 in
def zp303 : List (List (Nat × ZI)) := [[(0, (.aload_n 0, 1, (0, 0, 0), 0, 0)), (1, (.iconst 0, 1, (0, 0, 0), 0, 0)), (2, (.putfield 3, 3, (12, 0, 0), 0, 1613)), (5, (.aload_n 0, 1, (0, 0, 0), 0, 0)), (6, (.aload_n 0, 1, (0, 0, 0), 0, 0)), (7, (.iload_n 1, 1, (0, 0, 0), 0, 0)), (8, (.iload_n 2, 1, (0, 0, 0), 0, 0)), (9, (.invokevirtual 365, 3, (0, 302, 0), 0, 2071)), (12, (.iconst 1, 1, (0, 0, 0), 1, 0)), (13, (.invokevirtual 272, 3, (0, 208, 0), 0, 1882)), (16, (.ifCond .eq 5, 3, (21, 0, 0), 0, 0)), (19, (.iconst 0, 1, (0, 0, 0), 0, 0)), (20, (.ireturn, 1, (0, 0, 0), 0, 0)), (21, (.aload_n 0, 1, (0, 0, 0), 0, 0)), (22, (.invokevirtual 342, 3, (0, 293, 0), 0, 2031)), (25, (.iconst (-1), 1, (0, 0, 0), (-1), 0)), (26, (.istore 4, 2, (0, 0, 0), 0, 0)), (28, (.iconst 0, 1, (0, 0, 0), 0, 0)), (29, (.istore 5, 2, (0, 0, 0), 0, 0)), (31, (.iconst 0, 1, (0, 0, 0), 0, 0))],
  [(32, (.istore 6, 2, (0, 0, 0), 0, 0)), (34, (.iload 6, 2, (0, 0, 0), 0, 0)), (36, (.aload_n 0, 1, (0, 0, 0), 0, 0)), (37, (.invokevirtual 66, 3, (0, 216, 0), 0, 1738)), (40, (.if_icmp .ge 65, 3, (105, 0, 0), 0, 0)), (43, (.aload_n 0, 1, (0, 0, 0), 0, 0)), (44, (.iload 6, 2, (0, 0, 0), 0, 0)), (46, (.iconst 2, 1, (0, 0, 0), 2, 0)), (47, (.invokevirtual 77, 3, (0, 220, 0), 0, 1901)), (50, (.ifCond .le 6, 3, (56, 0, 0), 0, 0)), (53, (.goto 46, 3, (99, 0, 0), 0, 0)), (56, (.aload_n 0, 1, (0, 0, 0), 0, 0)), (57, (.getfield 13, 3, (12, 1, 0), 0, 1614)), (60, (.iload 6, 2, (0, 0, 0), 0, 0)), (62, (.iconst 2, 1, (0, 0, 0), 2, 0)), (63, (.invokestatic 52, 3, (0, 218, 0), 0, 1759))],
  [(66, (.iload_n 1, 1, (0, 0, 0), 0, 0)), (67, (.iastore, 1, (0, 0, 0), 0, 0)), (68, (.aload_n 0, 1, (0, 0, 0), 0, 0)), (69, (.iload_n 2, 1, (0, 0, 0), 0, 0)), (70, (.iload_n 3, 1, (0, 0, 0), 0, 0)), (71, (.invokevirtual 361, 3, (0, 300, 0), 0, 2063)), (74, (.istore 7, 2, (0, 0, 0), 0, 0)), (76, (.iload 4, 2, (0, 0, 0), 0, 0)), (78, (.ifCond .lt 13, 3, (91, 0, 0), 0, 0)), (81, (.iload 7, 2, (0, 0, 0), 0, 0)), (83, (.iload 5, 2, (0, 0, 0), 0, 0)), (85, (.if_icmp .lt 6, 3, (91, 0, 0), 0, 0)), (88, (.goto 11, 3, (99, 0, 0), 0, 0)), (91, (.iload 6, 2, (0, 0, 0), 0, 0)), (93, (.istore 4, 2, (0, 0, 0), 0, 0)), (95, (.iload 7, 2, (0, 0, 0), 0, 0))],
  [(97, (.istore 5, 2, (0, 0, 0), 0, 0)), (99, (.iinc 6 1, 3, (0, 0, 0), 1, 0)), (102, (.goto (-68), 3, (34, 0, 0), 0, 0)), (105, (.iload 4, 2, (0, 0, 0), 0, 0)), (107, (.ireturn, 1, (0, 0, 0), 0, 0))]]
set_option maxRecDepth 10000 in
def zp304 : List (List (Nat × ZI)) := [[(0, (.aload_n 0, 1, (0, 0, 0), 0, 0)), (1, (.iconst 0, 1, (0, 0, 0), 0, 0)), (2, (.putfield 3, 3, (12, 0, 0), 0, 1613)), (5, (.aload_n 0, 1, (0, 0, 0), 0, 0)), (6, (.aload_n 0, 1, (0, 0, 0), 0, 0)), (7, (.iload_n 1, 1, (0, 0, 0), 0, 0)), (8, (.iload_n 2, 1, (0, 0, 0), 0, 0)), (9, (.invokevirtual 365, 3, (0, 302, 0), 0, 2071)), (12, (.iconst 1, 1, (0, 0, 0), 1, 0)), (13, (.invokevirtual 272, 3, (0, 208, 0), 0, 1882)), (16, (.ifCond .eq 5, 3, (21, 0, 0), 0, 0)), (19, (.iconst 0, 1, (0, 0, 0), 0, 0)), (20, (.ireturn, 1, (0, 0, 0), 0, 0)), (21, (.aload_n 0, 1, (0, 0, 0), 0, 0)), (22, (.invokevirtual 342, 3, (0, 293, 0), 0, 2031)), (25, (.iconst (-1), 1, (0, 0, 0), (-1), 0)), (26, (.istore_n 3, 1, (0, 0, 0), 0, 0)), (27, (.iconst 0, 1, (0, 0, 0), 0, 0)), (28, (.istore 4, 2, (0, 0, 0), 0, 0)), (30, (.iconst 0, 1, (0, 0, 0), 0, 0)), (31, (.istore 5, 2, (0, 0, 0), 0, 0))],
  [(33, (.iload 5, 2, (0, 0, 0), 0, 0)), (35, (.aload_n 0, 1, (0, 0, 0), 0, 0)), (36, (.invokevirtual 66, 3, (0, 216, 0), 0, 1738)), (39, (.if_icmp .ge 108, 3, (147, 0, 0), 0, 0)), (42, (.iconst 0, 1, (0, 0, 0), 0, 0)), (43, (.istore 6, 2, (0, 0, 0), 0, 0)), (45, (.iload 6, 2, (0, 0, 0), 0, 0)), (47, (.iload 5, 2, (0, 0, 0), 0, 0)), (49, (.if_icmp .ge 92, 3, (141, 0, 0), 0, 0)), (52, (.aload_n 0, 1, (0, 0, 0), 0, 0)), (53, (.iload 6, 2, (0, 0, 0), 0, 0)), (55, (.iconst 2, 1, (0, 0, 0), 2, 0)), (56, (.invokevirtual 77, 3, (0, 220, 0), 0, 1901)), (59, (.ifCond .gt 76, 3, (135, 0, 0), 0, 0)), (62, (.aload_n 0, 1, (0, 0, 0), 0, 0)), (63, (.iload 5, 2, (0, 0, 0), 0, 0))],
  [(65, (.iconst 2, 1, (0, 0, 0), 2, 0)), (66, (.invokevirtual 77, 3, (0, 220, 0), 0, 1901)), (69, (.ifCond .le 6, 3, (75, 0, 0), 0, 0)), (72, (.goto 63, 3, (135, 0, 0), 0, 0)), (75, (.aload_n 0, 1, (0, 0, 0), 0, 0)), (76, (.getfield 13, 3, (12, 1, 0), 0, 1614)), (79, (.iload 6, 2, (0, 0, 0), 0, 0)), (81, (.iconst 2, 1, (0, 0, 0), 2, 0)), (82, (.invokestatic 52, 3, (0, 218, 0), 0, 1759)), (85, (.iload_n 1, 1, (0, 0, 0), 0, 0)), (86, (.iastore, 1, (0, 0, 0), 0, 0)), (87, (.aload_n 0, 1, (0, 0, 0), 0, 0)), (88, (.getfield 13, 3, (12, 1, 0), 0, 1614)), (91, (.iload 5, 2, (0, 0, 0), 0, 0)), (93, (.iconst 2, 1, (0, 0, 0), 2, 0)), (94, (.invokestatic 52, 3, (0, 218, 0), 0, 1759))],
  [(97, (.iload_n 1, 1, (0, 0, 0), 0, 0)), (98, (.iastore, 1, (0, 0, 0), 0, 0)), (99, (.aload_n 0, 1, (0, 0, 0), 0, 0)), (100, (.iload_n 2, 1, (0, 0, 0), 0, 0)), (101, (.iconst 0, 1, (0, 0, 0), 0, 0)), (102, (.invokevirtual 361, 3, (0, 300, 0), 0, 2063)), (105, (.istore 7, 2, (0, 0, 0), 0, 0)), (107, (.iload_n 3, 1, (0, 0, 0), 0, 0)), (108, (.ifCond .lt 13, 3, (121, 0, 0), 0, 0)), (111, (.iload 7, 2, (0, 0, 0), 0, 0)), (113, (.iload 4, 2, (0, 0, 0), 0, 0)), (115, (.if_icmp .lt 6, 3, (121, 0, 0), 0, 0)), (118, (.goto 17, 3, (135, 0, 0), 0, 0)), (121, (.iconst 1, 1, (0, 0, 0), 1, 0)), (122, (.iload 6, 2, (0, 0, 0), 0, 0)), (124, (.ishl, 1, (0, 0, 0), 0, 0)), (125, (.iconst 1, 1, (0, 0, 0), 1, 0)), (126, (.iload 5, 2, (0, 0, 0), 0, 0))],
  [(128, (.ishl, 1, (0, 0, 0), 0, 0)), (129, (.ior, 1, (0, 0, 0), 0, 0)), (130, (.istore_n 3, 1, (0, 0, 0), 0, 0)), (131, (.iload 7, 2, (0, 0, 0), 0, 0)), (133, (.istore 4, 2, (0, 0, 0), 0, 0)), (135, (.iinc 6 1, 3, (0, 0, 0), 1, 0)), (138, (.goto (-93), 3, (45, 0, 0), 0, 0)), (141, (.iinc 5 1, 3, (0, 0, 0), 1, 0)), (144, (.goto (-111), 3, (33, 0, 0), 0, 0)), (147, (.iload_n 3, 1, (0, 0, 0), 0, 0)), (148, (.ireturn, 1, (0, 0, 0), 0, 0))]]
set_option maxRecDepth 10000 in
def zp305 : List (List (Nat × ZI)) := [[(0, (.iload_n 1, 1, (0, 0, 0), 0, 0)), (1, (.ifCond .lt 13, 3, (14, 0, 0), 0, 0)), (4, (.iload_n 2, 1, (0, 0, 0), 0, 0)), (5, (.iload_n 3, 1, (0, 0, 0), 0, 0)), (6, (.bipush 24, 2, (0, 0, 0), 24, 0)), (8, (.invokestatic 70, 3, (0, 209, 0), 0, 1898)), (11, (.ifCond .ne 7, 3, (18, 0, 0), 0, 0)), (14, (.iconst 1, 1, (0, 0, 0), 1, 0)), (15, (.goto 4, 3, (19, 0, 0), 0, 0)), (18, (.iconst 0, 1, (0, 0, 0), 0, 0)), (19, (.ireturn, 1, (0, 0, 0), 0, 0))]]
set_option maxRecDepth 10000 in
def zp306 : List (List (Nat × ZI)) := [[(0, (.aload_n 0, 1, (0, 0, 0), 0, 0)), (1, (.iconst 0, 1, (0, 0, 0), 0, 0)), (2, (.putfield 3, 3, (12, 0, 0), 0, 1613)), (5, (.aload_n 0, 1, (0, 0, 0), 0, 0)), (6, (.aload_n 0, 1, (0, 0, 0), 0, 0)), (7, (.iload_n 1, 1, (0, 0, 0), 0, 0)), (8, (.iload_n 2, 1, (0, 0, 0), 0, 0)), (9, (.iconst 0, 1, (0, 0, 0), 0, 0)), (10, (.invokevirtual 368, 3, (0, 305, 0), 0, 2083)), (13, (.iconst 1, 1, (0, 0, 0), 1, 0)), (14, (.invokevirtual 272, 3, (0, 208, 0), 0, 1882)), (17, (.ifCond .eq 5, 3, (22, 0, 0), 0, 0)), (20, (.iconst 0, 1, (0, 0, 0), 0, 0)), (21, (.ireturn, 1, (0, 0, 0), 0, 0)), (22, (.aload_n 0, 1, (0, 0, 0), 0, 0)), (23, (.invokevirtual 342, 3, (0, 293, 0), 0, 2031)), (26, (.iconst (-1), 1, (0, 0, 0), (-1), 0)), (27, (.istore_n 3, 1, (0, 0, 0), 0, 0)), (28, (.iconst 0, 1, (0, 0, 0), 0, 0)), (29, (.istore 4, 2, (0, 0, 0), 0, 0)), (31, (.iload 4, 2, (0, 0, 0), 0, 0))],
  [(33, (.iconst 1, 1, (0, 0, 0), 1, 0)), (34, (.aload_n 0, 1, (0, 0, 0), 0, 0)), (35, (.invokevirtual 74, 3, (0, 217, 0), 0, 1776)), (38, (.ishl, 1, (0, 0, 0), 0, 0)), (39, (.if_icmp .ge 86, 3, (125, 0, 0), 0, 0)), (42, (.iload_n 3, 1, (0, 0, 0), 0, 0)), (43, (.ifCond .lt 18, 3, (61, 0, 0), 0, 0)), (46, (.iload 4, 2, (0, 0, 0), 0, 0)), (48, (.invokestatic 371, 3, (0, 337, 0), 0, 2087)), (51, (.iload_n 3, 1, (0, 0, 0), 0, 0)), (52, (.invokestatic 371, 3, (0, 337, 0), 0, 2087)), (55, (.if_icmp .lt 6, 3, (61, 0, 0), 0, 0)), (58, (.goto 61, 3, (119, 0, 0), 0, 0)), (61, (.iconst 0, 1, (0, 0, 0), 0, 0)), (62, (.istore 5, 2, (0, 0, 0), 0, 0))],
  [(64, (.iload 5, 2, (0, 0, 0), 0, 0)), (66, (.aload_n 0, 1, (0, 0, 0), 0, 0)), (67, (.invokevirtual 74, 3, (0, 217, 0), 0, 1776)), (70, (.if_icmp .ge 32, 3, (102, 0, 0), 0, 0)), (73, (.aload_n 0, 1, (0, 0, 0), 0, 0)), (74, (.iload 5, 2, (0, 0, 0), 0, 0)), (76, (.iconst 1, 1, (0, 0, 0), 1, 0)), (77, (.iload 4, 2, (0, 0, 0), 0, 0)), (79, (.iload 5, 2, (0, 0, 0), 0, 0)), (81, (.invokestatic 376, 3, (0, 210, 0), 0, 2088)), (84, (.ifCond .eq 8, 3, (92, 0, 0), 0, 0)), (87, (.bipush 100, 2, (0, 0, 0), 100, 0)), (89, (.goto 4, 3, (93, 0, 0), 0, 0)), (92, (.iconst 0, 1, (0, 0, 0), 0, 0)), (93, (.invokevirtual 139, 3, (0, 222, 0), 0, 1780))],
  [(96, (.iinc 5 1, 3, (0, 0, 0), 1, 0)), (99, (.goto (-35), 3, (64, 0, 0), 0, 0)), (102, (.aload_n 0, 1, (0, 0, 0), 0, 0)), (103, (.iload_n 2, 1, (0, 0, 0), 0, 0)), (104, (.iconst 0, 1, (0, 0, 0), 0, 0)), (105, (.invokevirtual 361, 3, (0, 300, 0), 0, 2063)), (108, (.iload_n 1, 1, (0, 0, 0), 0, 0)), (109, (.if_icmp .gt 8, 3, (117, 0, 0), 0, 0)), (112, (.iload 4, 2, (0, 0, 0), 0, 0)), (114, (.goto 4, 3, (118, 0, 0), 0, 0)), (117, (.iload_n 3, 1, (0, 0, 0), 0, 0)), (118, (.istore_n 3, 1, (0, 0, 0), 0, 0)), (119, (.iinc 4 1, 3, (0, 0, 0), 1, 0)), (122, (.goto (-91), 3, (31, 0, 0), 0, 0)), (125, (.iload_n 3, 1, (0, 0, 0), 0, 0)), (126, (.ireturn, 1, (0, 0, 0), 0, 0))]]
set_option maxRecDepth 10000 in
def zp307 : List (List (Nat × ZI)) := [[(0, (.aload_n 0, 1, (0, 0, 0), 0, 0)), (1, (.iconst 0, 1, (0, 0, 0), 0, 0)), (2, (.putfield 3, 3, (12, 0, 0), 0, 1613)), (5, (.aload_n 0, 1, (0, 0, 0), 0, 0)), (6, (.iload_n 1, 1, (0, 0, 0), 0, 0)), (7, (.ifCond .ge 7, 3, (14, 0, 0), 0, 0)), (10, (.iconst 1, 1, (0, 0, 0), 1, 0)), (11, (.goto 4, 3, (15, 0, 0), 0, 0)), (14, (.iconst 0, 1, (0, 0, 0), 0, 0)), (15, (.iconst 1, 1, (0, 0, 0), 1, 0)), (16, (.invokevirtual 272, 3, (0, 208, 0), 0, 1882)), (19, (.ifCond .eq 5, 3, (24, 0, 0), 0, 0)), (22, (.iconst 0, 1, (0, 0, 0), 0, 0)), (23, (.ireturn, 1, (0, 0, 0), 0, 0)), (24, (.iconst 0, 1, (0, 0, 0), 0, 0)), (25, (.istore_n 3, 1, (0, 0, 0), 0, 0)), (26, (.iload_n 3, 1, (0, 0, 0), 0, 0)), (27, (.aload_n 0, 1, (0, 0, 0), 0, 0)), (28, (.invokevirtual 66, 3, (0, 216, 0), 0, 1738)), (31, (.if_icmp .ge 31, 3, (62, 0, 0), 0, 0))],
  [(34, (.aload_n 0, 1, (0, 0, 0), 0, 0)), (35, (.getfield 42, 3, (12, 18, 0), 0, 1631)), (38, (.iload_n 3, 1, (0, 0, 0), 0, 0)), (39, (.aload_n 0, 1, (0, 0, 0), 0, 0)), (40, (.iload_n 3, 1, (0, 0, 0), 0, 0)), (41, (.iconst 3, 1, (0, 0, 0), 3, 0)), (42, (.invokestatic 52, 3, (0, 218, 0), 0, 1759)), (45, (.aload_n 0, 1, (0, 0, 0), 0, 0)), (46, (.iconst 3, 1, (0, 0, 0), 3, 0)), (47, (.iconst 0, 1, (0, 0, 0), 0, 0)), (48, (.iload_n 3, 1, (0, 0, 0), 0, 0)), (49, (.invokevirtual 297, 3, (0, 269, 0), 0, 1921)), (52, (.invokevirtual 316, 3, (0, 280, 0), 0, 1990)), (55, (.iastore, 1, (0, 0, 0), 0, 0)), (56, (.iinc 3 1, 3, (0, 0, 0), 1, 0)), (59, (.goto (-33), 3, (26, 0, 0), 0, 0)), (62, (.aload_n 0, 1, (0, 0, 0), 0, 0)), (63, (.invokevirtual 352, 3, (0, 297, 0), 0, 2043))],
  [(66, (.istore_n 3, 1, (0, 0, 0), 0, 0)), (67, (.iconst (-1), 1, (0, 0, 0), (-1), 0)), (68, (.istore 4, 2, (0, 0, 0), 0, 0)), (70, (.iconst 0, 1, (0, 0, 0), 0, 0)), (71, (.istore 5, 2, (0, 0, 0), 0, 0)), (73, (.iconst 0, 1, (0, 0, 0), 0, 0)), (74, (.istore 6, 2, (0, 0, 0), 0, 0)), (76, (.iload 6, 2, (0, 0, 0), 0, 0)), (78, (.iconst 1, 1, (0, 0, 0), 1, 0)), (79, (.aload_n 0, 1, (0, 0, 0), 0, 0)), (80, (.invokevirtual 66, 3, (0, 216, 0), 0, 1738)), (83, (.ishl, 1, (0, 0, 0), 0, 0)), (84, (.if_icmp .ge 128, 3, (212, 0, 0), 0, 0)), (87, (.iload_n 3, 1, (0, 0, 0), 0, 0)), (88, (.istore 7, 2, (0, 0, 0), 0, 0)), (90, (.iconst 0, 1, (0, 0, 0), 0, 0)), (91, (.istore 8, 2, (0, 0, 0), 0, 0)), (93, (.iconst 1, 1, (0, 0, 0), 1, 0)), (94, (.istore 9, 2, (0, 0, 0), 0, 0))],
  [(96, (.iconst 0, 1, (0, 0, 0), 0, 0)), (97, (.istore 10, 2, (0, 0, 0), 0, 0)), (99, (.iload 10, 2, (0, 0, 0), 0, 0)), (101, (.aload_n 0, 1, (0, 0, 0), 0, 0)), (102, (.invokevirtual 66, 3, (0, 216, 0), 0, 1738)), (105, (.if_icmp .ge 67, 3, (172, 0, 0), 0, 0)), (108, (.iload 6, 2, (0, 0, 0), 0, 0)), (110, (.iload 10, 2, (0, 0, 0), 0, 0)), (112, (.invokestatic 376, 3, (0, 210, 0), 0, 2088)), (115, (.ifCond .ne 6, 3, (121, 0, 0), 0, 0)), (118, (.goto 48, 3, (166, 0, 0), 0, 0)), (121, (.iload 9, 2, (0, 0, 0), 0, 0)), (123, (.ifCond .eq 16, 3, (139, 0, 0), 0, 0)), (126, (.aload_n 0, 1, (0, 0, 0), 0, 0)), (127, (.iload 10, 2, (0, 0, 0), 0, 0))],
  [(129, (.invokevirtual 339, 3, (0, 229, 0), 0, 2047)), (132, (.ifCond .eq 7, 3, (139, 0, 0), 0, 0)), (135, (.iconst 1, 1, (0, 0, 0), 1, 0)), (136, (.goto 4, 3, (140, 0, 0), 0, 0)), (139, (.iconst 0, 1, (0, 0, 0), 0, 0)), (140, (.istore 9, 2, (0, 0, 0), 0, 0)), (142, (.iload 7, 2, (0, 0, 0), 0, 0)), (144, (.aload_n 0, 1, (0, 0, 0), 0, 0)), (145, (.getfield 42, 3, (12, 18, 0), 0, 1631)), (148, (.iload 10, 2, (0, 0, 0), 0, 0)), (150, (.iaload, 1, (0, 0, 0), 0, 0)), (151, (.isub, 1, (0, 0, 0), 0, 0)), (152, (.istore 7, 2, (0, 0, 0), 0, 0)), (154, (.iload 8, 2, (0, 0, 0), 0, 0)), (156, (.aload_n 0, 1, (0, 0, 0), 0, 0)), (157, (.iload 10, 2, (0, 0, 0), 0, 0)), (159, (.iconst 1, 1, (0, 0, 0), 1, 0))],
  [(160, (.invokevirtual 77, 3, (0, 220, 0), 0, 1901)), (163, (.iadd, 1, (0, 0, 0), 0, 0)), (164, (.istore 8, 2, (0, 0, 0), 0, 0)), (166, (.iinc 10 1, 3, (0, 0, 0), 1, 0)), (169, (.goto (-70), 3, (99, 0, 0), 0, 0)), (172, (.iload 9, 2, (0, 0, 0), 0, 0)), (174, (.ifCond .eq 32, 3, (206, 0, 0), 0, 0)), (177, (.iload 7, 2, (0, 0, 0), 0, 0)), (179, (.iload_n 1, 1, (0, 0, 0), 0, 0)), (180, (.if_icmp .gt 26, 3, (206, 0, 0), 0, 0)), (183, (.iload 4, 2, (0, 0, 0), 0, 0)), (185, (.ifCond .lt 13, 3, (198, 0, 0), 0, 0)), (188, (.iload 8, 2, (0, 0, 0), 0, 0)), (190, (.iload 5, 2, (0, 0, 0), 0, 0))],
  [(192, (.if_icmp .lt 6, 3, (198, 0, 0), 0, 0)), (195, (.goto 11, 3, (206, 0, 0), 0, 0)), (198, (.iload 6, 2, (0, 0, 0), 0, 0)), (200, (.istore 4, 2, (0, 0, 0), 0, 0)), (202, (.iload 8, 2, (0, 0, 0), 0, 0)), (204, (.istore 5, 2, (0, 0, 0), 0, 0)), (206, (.iinc 6 1, 3, (0, 0, 0), 1, 0)), (209, (.goto (-133), 3, (76, 0, 0), 0, 0)), (212, (.iload_n 2, 1, (0, 0, 0), 0, 0)), (213, (.ifCond .ne 8, 3, (221, 0, 0), 0, 0)), (216, (.iload 4, 2, (0, 0, 0), 0, 0)), (218, (.ifCond .ge 8, 3, (226, 0, 0), 0, 0)), (221, (.iload 4, 2, (0, 0, 0), 0, 0)), (223, (.goto 5, 3, (228, 0, 0), 0, 0))],
  [(226, (.iload 5, 2, (0, 0, 0), 0, 0)), (228, (.ireturn, 1, (0, 0, 0), 0, 0))]]
set_option maxRecDepth 10000 in
def zp308 : List (List (Nat × ZI)) := [[(0, (.iconst 0, 1, (0, 0, 0), 0, 0)), (1, (.istore_n 1, 1, (0, 0, 0), 0, 0)), (2, (.iload_n 1, 1, (0, 0, 0), 0, 0)), (3, (.aload_n 0, 1, (0, 0, 0), 0, 0)), (4, (.invokevirtual 66, 3, (0, 216, 0), 0, 1738)), (7, (.if_icmp .ge 23, 3, (30, 0, 0), 0, 0)), (10, (.aload_n 0, 1, (0, 0, 0), 0, 0)), (11, (.iload_n 1, 1, (0, 0, 0), 0, 0)), (12, (.invokevirtual 339, 3, (0, 229, 0), 0, 2047)), (15, (.ifCond .eq 9, 3, (24, 0, 0), 0, 0)), (18, (.aload_n 0, 1, (0, 0, 0), 0, 0)), (19, (.iload_n 1, 1, (0, 0, 0), 0, 0)), (20, (.invokevirtual 330, 3, (0, 285, 0), 0, 1999)), (23, (.pop, 1, (0, 0, 0), 0, 0)), (24, (.iinc 1 1, 3, (0, 0, 0), 1, 0)), (27, (.goto (-25), 3, (2, 0, 0), 0, 0)), (30, (.return_, 1, (0, 0, 0), 0, 0))]]
set_option maxRecDepth 10000 in
def zp309 : List (List (Nat × ZI)) := [[(0, (.iconst 1, 1, (0, 0, 0), 1, 0)), (1, (.istore 4, 2, (0, 0, 0), 0, 0)), (3, (.iconst 1, 1, (0, 0, 0), 1, 0)), (4, (.istore 5, 2, (0, 0, 0), 0, 0)), (6, (.iload 5, 2, (0, 0, 0), 0, 0)), (8, (.iload_n 2, 1, (0, 0, 0), 0, 0)), (9, (.if_icmp .gt 45, 3, (54, 0, 0), 0, 0)), (12, (.iload 4, 2, (0, 0, 0), 0, 0)), (14, (.ifCond .eq 40, 3, (54, 0, 0), 0, 0)), (17, (.aload_n 0, 1, (0, 0, 0), 0, 0)), (18, (.invokevirtual 328, 3, (0, 283, 0), 0, 1969)), (21, (.pop, 1, (0, 0, 0), 0, 0)), (22, (.iload 5, 2, (0, 0, 0), 0, 0)), (24, (.iload_n 3, 1, (0, 0, 0), 0, 0)), (25, (.irem, 1, (0, 0, 0), 0, 0)), (26, (.ifCond .ne 7, 3, (33, 0, 0), 0, 0)), (29, (.aload_n 0, 1, (0, 0, 0), 0, 0)), (30, (.invokevirtual 379, 3, (0, 308, 0), 0, 2103))],
  [(33, (.aload_n 0, 1, (0, 0, 0), 0, 0)), (34, (.invokevirtual 349, 3, (0, 296, 0), 0, 2039)), (37, (.iload_n 1, 1, (0, 0, 0), 0, 0)), (38, (.if_icmp .gt 7, 3, (45, 0, 0), 0, 0)), (41, (.iconst 1, 1, (0, 0, 0), 1, 0)), (42, (.goto 4, 3, (46, 0, 0), 0, 0)), (45, (.iconst 0, 1, (0, 0, 0), 0, 0)), (46, (.istore 4, 2, (0, 0, 0), 0, 0)), (48, (.iinc 5 1, 3, (0, 0, 0), 1, 0)), (51, (.goto (-45), 3, (6, 0, 0), 0, 0)), (54, (.aload_n 0, 1, (0, 0, 0), 0, 0)), (55, (.invokevirtual 358, 3, (0, 294, 0), 0, 2055)), (58, (.iload 4, 2, (0, 0, 0), 0, 0)), (60, (.ireturn, 1, (0, 0, 0), 0, 0))]]
set_option maxRecDepth 10000 in
def zp310 : List (List (Nat × ZI)) := [[(0, (.aload_n 0, 1, (0, 0, 0), 0, 0)), (1, (.iconst 0, 1, (0, 0, 0), 0, 0)), (2, (.putfield 3, 3, (12, 0, 0), 0, 1613)), (5, (.aload_n 0, 1, (0, 0, 0), 0, 0)), (6, (.aload_n 0, 1, (0, 0, 0), 0, 0)), (7, (.iload_n 1, 1, (0, 0, 0), 0, 0)), (8, (.iload_n 2, 1, (0, 0, 0), 0, 0)), (9, (.iconst 1, 1, (0, 0, 0), 1, 0)), (10, (.invokevirtual 368, 3, (0, 305, 0), 0, 2083)), (13, (.iconst 1, 1, (0, 0, 0), 1, 0)), (14, (.invokevirtual 272, 3, (0, 208, 0), 0, 1882)), (17, (.ifCond .eq 5, 3, (22, 0, 0), 0, 0)), (20, (.iconst 0, 1, (0, 0, 0), 0, 0)), (21, (.ireturn, 1, (0, 0, 0), 0, 0)), (22, (.aload_n 0, 1, (0, 0, 0), 0, 0)), (23, (.invokevirtual 342, 3, (0, 293, 0), 0, 2031)), (26, (.iload_n 2, 1, (0, 0, 0), 0, 0)), (27, (.istore_n 3, 1, (0, 0, 0), 0, 0)), (28, (.iload_n 3, 1, (0, 0, 0), 0, 0)), (29, (.ifCond .le 19, 3, (48, 0, 0), 0, 0))],
  [(32, (.aload_n 0, 1, (0, 0, 0), 0, 0)), (33, (.iload_n 1, 1, (0, 0, 0), 0, 0)), (34, (.iload_n 2, 1, (0, 0, 0), 0, 0)), (35, (.iload_n 3, 1, (0, 0, 0), 0, 0)), (36, (.invokevirtual 382, 3, (0, 309, 0), 0, 2099)), (39, (.ifCond .ne 9, 3, (48, 0, 0), 0, 0)), (42, (.iinc 3 (-1), 3, (0, 0, 0), (-1), 0)), (45, (.goto (-17), 3, (28, 0, 0), 0, 0)), (48, (.iload_n 3, 1, (0, 0, 0), 0, 0)), (49, (.ifCond .ne 7, 3, (56, 0, 0), 0, 0)), (52, (.iconst (-1), 1, (0, 0, 0), (-1), 0)), (53, (.goto 4, 3, (57, 0, 0), 0, 0)), (56, (.iload_n 3, 1, (0, 0, 0), 0, 0)), (57, (.ireturn, 1, (0, 0, 0), 0, 0))]]
set_option maxRecDepth 10000 in
def zp311 : List (List (Nat × ZI)) := [[(0, (.aload_n 0, 1, (0, 0, 0), 0, 0)), (1, (.iconst 0, 1, (0, 0, 0), 0, 0)), (2, (.putfield 3, 3, (12, 0, 0), 0, 1613)), (5, (.aload_n 0, 1, (0, 0, 0), 0, 0)), (6, (.iload_n 1, 1, (0, 0, 0), 0, 0)), (7, (.iconst 1, 1, (0, 0, 0), 1, 0)), (8, (.ldc 197, 2, (0, 0, 0), 99999, 1830)), (10, (.invokestatic 70, 3, (0, 209, 0), 0, 1898)), (13, (.ifCond .ne 7, 3, (20, 0, 0), 0, 0)), (16, (.iconst 1, 1, (0, 0, 0), 1, 0)), (17, (.goto 4, 3, (21, 0, 0), 0, 0)), (20, (.iconst 0, 1, (0, 0, 0), 0, 0)), (21, (.iconst 1, 1, (0, 0, 0), 1, 0)), (22, (.invokevirtual 272, 3, (0, 208, 0), 0, 1882)), (25, (.ifCond .eq 5, 3, (30, 0, 0), 0, 0)), (28, (.iconst 0, 1, (0, 0, 0), 0, 0)), (29, (.ireturn, 1, (0, 0, 0), 0, 0)), (30, (.aload_n 0, 1, (0, 0, 0), 0, 0)), (31, (.invokevirtual 342, 3, (0, 293, 0), 0, 2031))],
  [(34, (.iconst 0, 1, (0, 0, 0), 0, 0)), (35, (.istore_n 2, 1, (0, 0, 0), 0, 0)), (36, (.iload_n 2, 1, (0, 0, 0), 0, 0)), (37, (.sipush 300, 3, (0, 0, 0), 300, 0)), (40, (.if_icmp .gt 22, 3, (62, 0, 0), 0, 0)), (43, (.aload_n 0, 1, (0, 0, 0), 0, 0)), (44, (.invokevirtual 349, 3, (0, 296, 0), 0, 2039)), (47, (.iload_n 1, 1, (0, 0, 0), 0, 0)), (48, (.if_icmp .ge 14, 3, (62, 0, 0), 0, 0)), (51, (.aload_n 0, 1, (0, 0, 0), 0, 0)), (52, (.invokevirtual 328, 3, (0, 283, 0), 0, 1969)), (55, (.pop, 1, (0, 0, 0), 0, 0)), (56, (.iinc 2 1, 3, (0, 0, 0), 1, 0)), (59, (.goto (-23), 3, (36, 0, 0), 0, 0)), (62, (.aload_n 0, 1, (0, 0, 0), 0, 0)), (63, (.invokevirtual 358, 3, (0, 294, 0), 0, 2055))],
  [(66, (.iload_n 2, 1, (0, 0, 0), 0, 0)), (67, (.sipush 300, 3, (0, 0, 0), 300, 0)), (70, (.if_icmp .le 7, 3, (77, 0, 0), 0, 0)), (73, (.iconst (-1), 1, (0, 0, 0), (-1), 0)), (74, (.goto 4, 3, (78, 0, 0), 0, 0)), (77, (.iload_n 2, 1, (0, 0, 0), 0, 0)), (78, (.ireturn, 1, (0, 0, 0), 0, 0))]]
set_option maxRecDepth 10000 in
def zp312 : List (List (Nat × ZI)) := [[(0, (.aload_n 0, 1, (0, 0, 0), 0, 0)), (1, (.iconst 0, 1, (0, 0, 0), 0, 0)), (2, (.putfield 3, 3, (12, 0, 0), 0, 1613)), (5, (.aload_n 0, 1, (0, 0, 0), 0, 0)), (6, (.invokevirtual 342, 3, (0, 293, 0), 0, 2031)), (9, (.iconst 0, 1, (0, 0, 0), 0, 0)), (10, (.istore_n 1, 1, (0, 0, 0), 0, 0)), (11, (.iload_n 1, 1, (0, 0, 0), 0, 0)), (12, (.sipush 300, 3, (0, 0, 0), 300, 0)), (15, (.if_icmp .gt 31, 3, (46, 0, 0), 0, 0)), (18, (.aload_n 0, 1, (0, 0, 0), 0, 0)), (19, (.getfield 13, 3, (12, 1, 0), 0, 1614)), (22, (.bipush 8, 2, (0, 0, 0), 8, 0)), (24, (.iaload, 1, (0, 0, 0), 0, 0)), (25, (.aload_n 0, 1, (0, 0, 0), 0, 0)), (26, (.getfield 13, 3, (12, 1, 0), 0, 1614)), (29, (.bipush 9, 2, (0, 0, 0), 9, 0)), (31, (.iaload, 1, (0, 0, 0), 0, 0))],
  [(32, (.if_icmp .ge 14, 3, (46, 0, 0), 0, 0)), (35, (.aload_n 0, 1, (0, 0, 0), 0, 0)), (36, (.invokevirtual 328, 3, (0, 283, 0), 0, 1969)), (39, (.pop, 1, (0, 0, 0), 0, 0)), (40, (.iinc 1 1, 3, (0, 0, 0), 1, 0)), (43, (.goto (-32), 3, (11, 0, 0), 0, 0)), (46, (.aload_n 0, 1, (0, 0, 0), 0, 0)), (47, (.invokevirtual 358, 3, (0, 294, 0), 0, 2055)), (50, (.iload_n 1, 1, (0, 0, 0), 0, 0)), (51, (.sipush 300, 3, (0, 0, 0), 300, 0)), (54, (.if_icmp .le 7, 3, (61, 0, 0), 0, 0)), (57, (.iconst (-1), 1, (0, 0, 0), (-1), 0)), (58, (.goto 4, 3, (62, 0, 0), 0, 0)), (61, (.iload_n 1, 1, (0, 0, 0), 0, 0)), (62, (.ireturn, 1, (0, 0, 0), 0, 0))]]
set_option maxRecDepth 10000 in
def zp313 : List (List (Nat × ZI)) := [[(0, (.aload_n 0, 1, (0, 0, 0), 0, 0)), (1, (.iconst 0, 1, (0, 0, 0), 0, 0)), (2, (.putfield 3, 3, (12, 0, 0), 0, 1613)), (5, (.aload_n 0, 1, (0, 0, 0), 0, 0)), (6, (.iload_n 1, 1, (0, 0, 0), 0, 0)), (7, (.ifCond .ge 7, 3, (14, 0, 0), 0, 0)), (10, (.iconst 1, 1, (0, 0, 0), 1, 0)), (11, (.goto 4, 3, (15, 0, 0), 0, 0)), (14, (.iconst 0, 1, (0, 0, 0), 0, 0)), (15, (.iconst 1, 1, (0, 0, 0), 1, 0)), (16, (.invokevirtual 272, 3, (0, 208, 0), 0, 1882)), (19, (.ifCond .eq 5, 3, (24, 0, 0), 0, 0)), (22, (.iconst 0, 1, (0, 0, 0), 0, 0)), (23, (.ireturn, 1, (0, 0, 0), 0, 0)), (24, (.aload_n 0, 1, (0, 0, 0), 0, 0)), (25, (.invokevirtual 342, 3, (0, 293, 0), 0, 2031)), (28, (.iconst 0, 1, (0, 0, 0), 0, 0)), (29, (.istore_n 2, 1, (0, 0, 0), 0, 0)), (30, (.iload_n 2, 1, (0, 0, 0), 0, 0)), (31, (.bipush 99, 2, (0, 0, 0), 99, 0))],
  [(33, (.if_icmp .gt 21, 3, (54, 0, 0), 0, 0)), (36, (.aload_n 0, 1, (0, 0, 0), 0, 0)), (37, (.invokevirtual 352, 3, (0, 297, 0), 0, 2043)), (40, (.iload_n 1, 1, (0, 0, 0), 0, 0)), (41, (.if_icmp .le 13, 3, (54, 0, 0), 0, 0)), (44, (.aload_n 0, 1, (0, 0, 0), 0, 0)), (45, (.invokevirtual 379, 3, (0, 308, 0), 0, 2103)), (48, (.iinc 2 1, 3, (0, 0, 0), 1, 0)), (51, (.goto (-21), 3, (30, 0, 0), 0, 0)), (54, (.aload_n 0, 1, (0, 0, 0), 0, 0)), (55, (.invokevirtual 358, 3, (0, 294, 0), 0, 2055)), (58, (.iload_n 2, 1, (0, 0, 0), 0, 0)), (59, (.bipush 99, 2, (0, 0, 0), 99, 0)), (61, (.if_icmp .le 7, 3, (68, 0, 0), 0, 0))],
  [(64, (.iconst (-1), 1, (0, 0, 0), (-1), 0)), (65, (.goto 4, 3, (69, 0, 0), 0, 0)), (68, (.iload_n 2, 1, (0, 0, 0), 0, 0)), (69, (.ireturn, 1, (0, 0, 0), 0, 0))]]
set_option maxRecDepth 10000 in
def zp314 : List (List (Nat × ZI)) := [[(0, (.aload_n 0, 1, (0, 0, 0), 0, 0)), (1, (.iconst 0, 1, (0, 0, 0), 0, 0)), (2, (.putfield 3, 3, (12, 0, 0), 0, 1613)), (5, (.aload_n 0, 1, (0, 0, 0), 0, 0)), (6, (.aload_n 0, 1, (0, 0, 0), 0, 0)), (7, (.iload_n 1, 1, (0, 0, 0), 0, 0)), (8, (.invokevirtual 288, 3, (0, 227, 0), 0, 1894)), (11, (.iconst 1, 1, (0, 0, 0), 1, 0)), (12, (.invokevirtual 272, 3, (0, 208, 0), 0, 1882)), (15, (.ifCond .ne 26, 3, (41, 0, 0), 0, 0)), (18, (.aload_n 0, 1, (0, 0, 0), 0, 0)), (19, (.iload_n 2, 1, (0, 0, 0), 0, 0)), (20, (.iconst 0, 1, (0, 0, 0), 0, 0)), (21, (.bipush 24, 2, (0, 0, 0), 24, 0)), (23, (.invokestatic 70, 3, (0, 209, 0), 0, 1898)), (26, (.ifCond .ne 7, 3, (33, 0, 0), 0, 0)), (29, (.iconst 1, 1, (0, 0, 0), 1, 0)), (30, (.goto 4, 3, (34, 0, 0), 0, 0))],
  [(33, (.iconst 0, 1, (0, 0, 0), 0, 0)), (34, (.iconst 2, 1, (0, 0, 0), 2, 0)), (35, (.invokevirtual 272, 3, (0, 208, 0), 0, 1882)), (38, (.ifCond .eq 5, 3, (43, 0, 0), 0, 0)), (41, (.iconst 0, 1, (0, 0, 0), 0, 0)), (42, (.ireturn, 1, (0, 0, 0), 0, 0)), (43, (.aload_n 0, 1, (0, 0, 0), 0, 0)), (44, (.invokevirtual 342, 3, (0, 293, 0), 0, 2031)), (47, (.iconst (-1), 1, (0, 0, 0), (-1), 0)), (48, (.istore_n 3, 1, (0, 0, 0), 0, 0)), (49, (.iconst 0, 1, (0, 0, 0), 0, 0)), (50, (.istore 4, 2, (0, 0, 0), 0, 0)), (52, (.iconst 0, 1, (0, 0, 0), 0, 0)), (53, (.istore 5, 2, (0, 0, 0), 0, 0)), (55, (.iload 5, 2, (0, 0, 0), 0, 0)), (57, (.iload_n 2, 1, (0, 0, 0), 0, 0)), (58, (.if_icmp .gt 61, 3, (119, 0, 0), 0, 0)), (61, (.aload_n 0, 1, (0, 0, 0), 0, 0)), (62, (.iload 5, 2, (0, 0, 0), 0, 0))],
  [(64, (.invokevirtual 345, 3, (0, 295, 0), 0, 2035)), (67, (.aload_n 0, 1, (0, 0, 0), 0, 0)), (68, (.iload_n 1, 1, (0, 0, 0), 0, 0)), (69, (.invokevirtual 330, 3, (0, 285, 0), 0, 1999)), (72, (.pop, 1, (0, 0, 0), 0, 0)), (73, (.aload_n 0, 1, (0, 0, 0), 0, 0)), (74, (.iload_n 2, 1, (0, 0, 0), 0, 0)), (75, (.iload 5, 2, (0, 0, 0), 0, 0)), (77, (.isub, 1, (0, 0, 0), 0, 0)), (78, (.invokevirtual 345, 3, (0, 295, 0), 0, 2035)), (81, (.aload_n 0, 1, (0, 0, 0), 0, 0)), (82, (.iload_n 1, 1, (0, 0, 0), 0, 0)), (83, (.invokevirtual 275, 3, (0, 225, 0), 0, 1905)), (86, (.istore 6, 2, (0, 0, 0), 0, 0)), (88, (.aload_n 0, 1, (0, 0, 0), 0, 0)), (89, (.invokevirtual 358, 3, (0, 294, 0), 0, 2055)), (92, (.iload_n 3, 1, (0, 0, 0), 0, 0)), (93, (.ifCond .lt 13, 3, (106, 0, 0), 0, 0))],
  [(96, (.iload 6, 2, (0, 0, 0), 0, 0)), (98, (.iload 4, 2, (0, 0, 0), 0, 0)), (100, (.if_icmp .lt 6, 3, (106, 0, 0), 0, 0)), (103, (.goto 10, 3, (113, 0, 0), 0, 0)), (106, (.iload 5, 2, (0, 0, 0), 0, 0)), (108, (.istore_n 3, 1, (0, 0, 0), 0, 0)), (109, (.iload 6, 2, (0, 0, 0), 0, 0)), (111, (.istore 4, 2, (0, 0, 0), 0, 0)), (113, (.iinc 5 1, 3, (0, 0, 0), 1, 0)), (116, (.goto (-61), 3, (55, 0, 0), 0, 0)), (119, (.iload_n 3, 1, (0, 0, 0), 0, 0)), (120, (.ireturn, 1, (0, 0, 0), 0, 0))]]
set_option maxRecDepth 10000 in
def zp315 : List (List (Nat × ZI)) := [[(0, (.aload_n 0, 1, (0, 0, 0), 0, 0)), (1, (.iload_n 3, 1, (0, 0, 0), 0, 0)), (2, (.iconst 0, 1, (0, 0, 0), 0, 0)), (3, (.invokevirtual 361, 3, (0, 300, 0), 0, 2063)), (6, (.istore 4, 2, (0, 0, 0), 0, 0)), (8, (.iconst 0, 1, (0, 0, 0), 0, 0)), (9, (.istore 5, 2, (0, 0, 0), 0, 0)), (11, (.iload 5, 2, (0, 0, 0), 0, 0)), (13, (.iload_n 3, 1, (0, 0, 0), 0, 0)), (14, (.if_icmp .ge 29, 3, (43, 0, 0), 0, 0)), (17, (.aload_n 0, 1, (0, 0, 0), 0, 0)), (18, (.invokevirtual 328, 3, (0, 283, 0), 0, 1969)), (21, (.pop, 1, (0, 0, 0), 0, 0)), (22, (.aload_n 0, 1, (0, 0, 0), 0, 0)), (23, (.iload_n 1, 1, (0, 0, 0), 0, 0)), (24, (.invokevirtual 285, 3, (0, 223, 0), 0, 1913)), (27, (.iload_n 2, 1, (0, 0, 0), 0, 0)), (28, (.if_icmp .ne 9, 3, (37, 0, 0), 0, 0)), (31, (.aload_n 0, 1, (0, 0, 0), 0, 0))],
  [(32, (.iload_n 1, 1, (0, 0, 0), 0, 0)), (33, (.invokevirtual 333, 3, (0, 286, 0), 0, 2007)), (36, (.pop, 1, (0, 0, 0), 0, 0)), (37, (.iinc 5 1, 3, (0, 0, 0), 1, 0)), (40, (.goto (-29), 3, (11, 0, 0), 0, 0)), (43, (.aload_n 0, 1, (0, 0, 0), 0, 0)), (44, (.invokevirtual 349, 3, (0, 296, 0), 0, 2039)), (47, (.istore 5, 2, (0, 0, 0), 0, 0)), (49, (.aload_n 0, 1, (0, 0, 0), 0, 0)), (50, (.invokevirtual 358, 3, (0, 294, 0), 0, 2055)), (53, (.iload 4, 2, (0, 0, 0), 0, 0)), (55, (.iload 5, 2, (0, 0, 0), 0, 0)), (57, (.isub, 1, (0, 0, 0), 0, 0)), (58, (.ireturn, 1, (0, 0, 0), 0, 0))]]
set_option maxRecDepth 10000 in
def zp316 : List (List (Nat × ZI)) := [[(0, (.aload_n 0, 1, (0, 0, 0), 0, 0)), (1, (.iconst 0, 1, (0, 0, 0), 0, 0)), (2, (.putfield 3, 3, (12, 0, 0), 0, 1613)), (5, (.aload_n 0, 1, (0, 0, 0), 0, 0)), (6, (.aload_n 0, 1, (0, 0, 0), 0, 0)), (7, (.iload_n 1, 1, (0, 0, 0), 0, 0)), (8, (.invokevirtual 300, 3, (0, 228, 0), 0, 1937)), (11, (.ifCond .ne 11, 3, (22, 0, 0), 0, 0)), (14, (.aload_n 0, 1, (0, 0, 0), 0, 0)), (15, (.iload_n 2, 1, (0, 0, 0), 0, 0)), (16, (.invokevirtual 288, 3, (0, 227, 0), 0, 1894)), (19, (.ifCond .eq 7, 3, (26, 0, 0), 0, 0)), (22, (.iconst 1, 1, (0, 0, 0), 1, 0)), (23, (.goto 4, 3, (27, 0, 0), 0, 0)), (26, (.iconst 0, 1, (0, 0, 0), 0, 0)), (27, (.iconst 1, 1, (0, 0, 0), 1, 0)), (28, (.invokevirtual 272, 3, (0, 208, 0), 0, 1882)), (31, (.ifCond .ne 26, 3, (57, 0, 0), 0, 0))],
  [(34, (.aload_n 0, 1, (0, 0, 0), 0, 0)), (35, (.iload_n 3, 1, (0, 0, 0), 0, 0)), (36, (.iconst 0, 1, (0, 0, 0), 0, 0)), (37, (.bipush 24, 2, (0, 0, 0), 24, 0)), (39, (.invokestatic 70, 3, (0, 209, 0), 0, 1898)), (42, (.ifCond .ne 7, 3, (49, 0, 0), 0, 0)), (45, (.iconst 1, 1, (0, 0, 0), 1, 0)), (46, (.goto 4, 3, (50, 0, 0), 0, 0)), (49, (.iconst 0, 1, (0, 0, 0), 0, 0)), (50, (.iconst 2, 1, (0, 0, 0), 2, 0)), (51, (.invokevirtual 272, 3, (0, 208, 0), 0, 1882)), (54, (.ifCond .eq 5, 3, (59, 0, 0), 0, 0)), (57, (.iconst 0, 1, (0, 0, 0), 0, 0)), (58, (.ireturn, 1, (0, 0, 0), 0, 0)), (59, (.aload_n 0, 1, (0, 0, 0), 0, 0)), (60, (.invokevirtual 342, 3, (0, 293, 0), 0, 2031)), (63, (.aload_n 0, 1, (0, 0, 0), 0, 0))],
  [(64, (.iload_n 1, 1, (0, 0, 0), 0, 0)), (65, (.iload_n 2, 1, (0, 0, 0), 0, 0)), (66, (.iload_n 3, 1, (0, 0, 0), 0, 0)), (67, (.invokevirtual 385, 3, (0, 315, 0), 0, 2127)), (70, (.ireturn, 1, (0, 0, 0), 0, 0))]]
set_option maxRecDepth 10000 in
def zp317 : List (List (Nat × ZI)) := [[(0, (.aload_n 0, 1, (0, 0, 0), 0, 0)), (1, (.iconst 0, 1, (0, 0, 0), 0, 0)), (2, (.putfield 3, 3, (12, 0, 0), 0, 1613)), (5, (.aload_n 0, 1, (0, 0, 0), 0, 0)), (6, (.aload_n 0, 1, (0, 0, 0), 0, 0)), (7, (.iload_n 1, 1, (0, 0, 0), 0, 0)), (8, (.invokevirtual 300, 3, (0, 228, 0), 0, 1937)), (11, (.iconst 1, 1, (0, 0, 0), 1, 0)), (12, (.invokevirtual 272, 3, (0, 208, 0), 0, 1882)), (15, (.ifCond .ne 26, 3, (41, 0, 0), 0, 0)), (18, (.aload_n 0, 1, (0, 0, 0), 0, 0)), (19, (.iload_n 2, 1, (0, 0, 0), 0, 0)), (20, (.iconst 0, 1, (0, 0, 0), 0, 0)), (21, (.bipush 24, 2, (0, 0, 0), 24, 0)), (23, (.invokestatic 70, 3, (0, 209, 0), 0, 1898)), (26, (.ifCond .ne 7, 3, (33, 0, 0), 0, 0)), (29, (.iconst 1, 1, (0, 0, 0), 1, 0)), (30, (.goto 4, 3, (34, 0, 0), 0, 0))],
  [(33, (.iconst 0, 1, (0, 0, 0), 0, 0)), (34, (.iconst 2, 1, (0, 0, 0), 2, 0)), (35, (.invokevirtual 272, 3, (0, 208, 0), 0, 1882)), (38, (.ifCond .eq 5, 3, (43, 0, 0), 0, 0)), (41, (.iconst 0, 1, (0, 0, 0), 0, 0)), (42, (.ireturn, 1, (0, 0, 0), 0, 0)), (43, (.aload_n 0, 1, (0, 0, 0), 0, 0)), (44, (.invokevirtual 342, 3, (0, 293, 0), 0, 2031)), (47, (.aload_n 0, 1, (0, 0, 0), 0, 0)), (48, (.iload_n 1, 1, (0, 0, 0), 0, 0)), (49, (.invokevirtual 303, 3, (0, 274, 0), 0, 1945)), (52, (.istore_n 3, 1, (0, 0, 0), 0, 0)), (53, (.iconst (-1), 1, (0, 0, 0), (-1), 0)), (54, (.istore 4, 2, (0, 0, 0), 0, 0)), (56, (.iconst 0, 1, (0, 0, 0), 0, 0)), (57, (.istore 5, 2, (0, 0, 0), 0, 0)), (59, (.iconst 0, 1, (0, 0, 0), 0, 0)), (60, (.istore 6, 2, (0, 0, 0), 0, 0)), (62, (.iload 6, 2, (0, 0, 0), 0, 0))],
  [(64, (.aload_n 0, 1, (0, 0, 0), 0, 0)), (65, (.invokevirtual 66, 3, (0, 216, 0), 0, 1738)), (68, (.if_icmp .ge 54, 3, (122, 0, 0), 0, 0)), (71, (.iload_n 3, 1, (0, 0, 0), 0, 0)), (72, (.iload 6, 2, (0, 0, 0), 0, 0)), (74, (.invokestatic 376, 3, (0, 210, 0), 0, 2088)), (77, (.ifCond .ne 6, 3, (83, 0, 0), 0, 0)), (80, (.goto 36, 3, (116, 0, 0), 0, 0)), (83, (.aload_n 0, 1, (0, 0, 0), 0, 0)), (84, (.iload_n 1, 1, (0, 0, 0), 0, 0)), (85, (.iload 6, 2, (0, 0, 0), 0, 0)), (87, (.iload_n 2, 1, (0, 0, 0), 0, 0)), (88, (.invokevirtual 385, 3, (0, 315, 0), 0, 2127)), (91, (.istore 7, 2, (0, 0, 0), 0, 0)), (93, (.iload 4, 2, (0, 0, 0), 0, 0)), (95, (.ifCond .lt 13, 3, (108, 0, 0), 0, 0))],
  [(98, (.iload 7, 2, (0, 0, 0), 0, 0)), (100, (.iload 5, 2, (0, 0, 0), 0, 0)), (102, (.if_icmp .gt 6, 3, (108, 0, 0), 0, 0)), (105, (.goto 11, 3, (116, 0, 0), 0, 0)), (108, (.iload 6, 2, (0, 0, 0), 0, 0)), (110, (.istore 4, 2, (0, 0, 0), 0, 0)), (112, (.iload 7, 2, (0, 0, 0), 0, 0)), (114, (.istore 5, 2, (0, 0, 0), 0, 0)), (116, (.iinc 6 1, 3, (0, 0, 0), 1, 0)), (119, (.goto (-57), 3, (62, 0, 0), 0, 0)), (122, (.iload 4, 2, (0, 0, 0), 0, 0)), (124, (.ireturn, 1, (0, 0, 0), 0, 0))]]
set_option maxRecDepth 10000 in
def zp318 : List (List (Nat × ZI)) := [[(0, (.aload_n 0, 1, (0, 0, 0), 0, 0)), (1, (.iconst 0, 1, (0, 0, 0), 0, 0)), (2, (.putfield 3, 3, (12, 0, 0), 0, 1613)), (5, (.aload_n 0, 1, (0, 0, 0), 0, 0)), (6, (.iload_n 1, 1, (0, 0, 0), 0, 0)), (7, (.iconst 0, 1, (0, 0, 0), 0, 0)), (8, (.bipush 24, 2, (0, 0, 0), 24, 0)), (10, (.invokestatic 70, 3, (0, 209, 0), 0, 1898)), (13, (.ifCond .ne 7, 3, (20, 0, 0), 0, 0)), (16, (.iconst 1, 1, (0, 0, 0), 1, 0)), (17, (.goto 4, 3, (21, 0, 0), 0, 0)), (20, (.iconst 0, 1, (0, 0, 0), 0, 0)), (21, (.iconst 1, 1, (0, 0, 0), 1, 0)), (22, (.invokevirtual 272, 3, (0, 208, 0), 0, 1882)), (25, (.ifCond .eq 5, 3, (30, 0, 0), 0, 0)), (28, (.iconst 0, 1, (0, 0, 0), 0, 0)), (29, (.ireturn, 1, (0, 0, 0), 0, 0)), (30, (.aload_n 0, 1, (0, 0, 0), 0, 0)), (31, (.invokevirtual 342, 3, (0, 293, 0), 0, 2031))],
  [(34, (.iconst (-1), 1, (0, 0, 0), (-1), 0)), (35, (.istore_n 3, 1, (0, 0, 0), 0, 0)), (36, (.iconst 1, 1, (0, 0, 0), 1, 0)), (37, (.istore 4, 2, (0, 0, 0), 0, 0)), (39, (.iload 4, 2, (0, 0, 0), 0, 0)), (41, (.bipush 8, 2, (0, 0, 0), 8, 0)), (43, (.if_icmp .gt 55, 3, (98, 0, 0), 0, 0)), (46, (.aload_n 0, 1, (0, 0, 0), 0, 0)), (47, (.getfield 13, 3, (12, 1, 0), 0, 1614)), (50, (.bipush 12, 2, (0, 0, 0), 12, 0)), (52, (.iload 4, 2, (0, 0, 0), 0, 0)), (54, (.iastore, 1, (0, 0, 0), 0, 0)), (55, (.aload_n 0, 1, (0, 0, 0), 0, 0)), (56, (.iload_n 1, 1, (0, 0, 0), 0, 0)), (57, (.iconst 0, 1, (0, 0, 0), 0, 0)), (58, (.invokevirtual 361, 3, (0, 300, 0), 0, 2063)), (61, (.istore 5, 2, (0, 0, 0), 0, 0)), (63, (.iload_n 3, 1, (0, 0, 0), 0, 0))],
  [(64, (.ifCond .ge 8, 3, (72, 0, 0), 0, 0)), (67, (.iload 5, 2, (0, 0, 0), 0, 0)), (69, (.goto 22, 3, (91, 0, 0), 0, 0)), (72, (.iload_n 2, 1, (0, 0, 0), 0, 0)), (73, (.ifCond .eq 12, 3, (85, 0, 0), 0, 0)), (76, (.iload_n 3, 1, (0, 0, 0), 0, 0)), (77, (.iload 5, 2, (0, 0, 0), 0, 0)), (79, (.invokestatic 319, 3, (3, 0, 0), 0, 1994)), (82, (.goto 9, 3, (91, 0, 0), 0, 0)), (85, (.iload_n 3, 1, (0, 0, 0), 0, 0)), (86, (.iload 5, 2, (0, 0, 0), 0, 0)), (88, (.invokestatic 152, 3, (2, 0, 0), 0, 1812)), (91, (.istore_n 3, 1, (0, 0, 0), 0, 0)), (92, (.iinc 4 1, 3, (0, 0, 0), 1, 0)), (95, (.goto (-56), 3, (39, 0, 0), 0, 0))],
  [(98, (.iload_n 3, 1, (0, 0, 0), 0, 0)), (99, (.ireturn, 1, (0, 0, 0), 0, 0))]]
set_option maxRecDepth 10000 in
def zp319 : List (List (Nat × ZI)) := [[(0, (.aload_n 0, 1, (0, 0, 0), 0, 0)), (1, (.iconst 0, 1, (0, 0, 0), 0, 0)), (2, (.putfield 3, 3, (12, 0, 0), 0, 1613)), (5, (.aload_n 0, 1, (0, 0, 0), 0, 0)), (6, (.iload_n 1, 1, (0, 0, 0), 0, 0)), (7, (.iconst 1, 1, (0, 0, 0), 1, 0)), (8, (.bipush 100, 2, (0, 0, 0), 100, 0)), (10, (.invokestatic 70, 3, (0, 209, 0), 0, 1898)), (13, (.ifCond .ne 7, 3, (20, 0, 0), 0, 0)), (16, (.iconst 1, 1, (0, 0, 0), 1, 0)), (17, (.goto 4, 3, (21, 0, 0), 0, 0)), (20, (.iconst 0, 1, (0, 0, 0), 0, 0)), (21, (.iconst 1, 1, (0, 0, 0), 1, 0)), (22, (.invokevirtual 272, 3, (0, 208, 0), 0, 1882)), (25, (.ifCond .eq 5, 3, (30, 0, 0), 0, 0)), (28, (.iconst 0, 1, (0, 0, 0), 0, 0)), (29, (.ireturn, 1, (0, 0, 0), 0, 0)), (30, (.aload_n 0, 1, (0, 0, 0), 0, 0)), (31, (.invokevirtual 342, 3, (0, 293, 0), 0, 2031))],
  [(34, (.iconst (-1), 1, (0, 0, 0), (-1), 0)), (35, (.istore_n 2, 1, (0, 0, 0), 0, 0)), (36, (.iconst 0, 1, (0, 0, 0), 0, 0)), (37, (.istore_n 3, 1, (0, 0, 0), 0, 0)), (38, (.iconst 1, 1, (0, 0, 0), 1, 0)), (39, (.istore 4, 2, (0, 0, 0), 0, 0)), (41, (.iload 4, 2, (0, 0, 0), 0, 0)), (43, (.iload_n 1, 1, (0, 0, 0), 0, 0)), (44, (.if_icmp .gt 48, 3, (92, 0, 0), 0, 0)), (47, (.aload_n 0, 1, (0, 0, 0), 0, 0)), (48, (.invokevirtual 349, 3, (0, 296, 0), 0, 2039)), (51, (.istore 5, 2, (0, 0, 0), 0, 0)), (53, (.aload_n 0, 1, (0, 0, 0), 0, 0)), (54, (.invokevirtual 328, 3, (0, 283, 0), 0, 1969)), (57, (.pop, 1, (0, 0, 0), 0, 0)), (58, (.aload_n 0, 1, (0, 0, 0), 0, 0)), (59, (.invokevirtual 349, 3, (0, 296, 0), 0, 2039)), (62, (.iload 5, 2, (0, 0, 0), 0, 0))],
  [(64, (.isub, 1, (0, 0, 0), 0, 0)), (65, (.istore 6, 2, (0, 0, 0), 0, 0)), (67, (.iload_n 2, 1, (0, 0, 0), 0, 0)), (68, (.ifCond .lt 12, 3, (80, 0, 0), 0, 0)), (71, (.iload 6, 2, (0, 0, 0), 0, 0)), (73, (.iload_n 3, 1, (0, 0, 0), 0, 0)), (74, (.if_icmp .gt 6, 3, (80, 0, 0), 0, 0)), (77, (.goto 9, 3, (86, 0, 0), 0, 0)), (80, (.iload 4, 2, (0, 0, 0), 0, 0)), (82, (.istore_n 2, 1, (0, 0, 0), 0, 0)), (83, (.iload 6, 2, (0, 0, 0), 0, 0)), (85, (.istore_n 3, 1, (0, 0, 0), 0, 0)), (86, (.iinc 4 1, 3, (0, 0, 0), 1, 0)), (89, (.goto (-48), 3, (41, 0, 0), 0, 0)), (92, (.aload_n 0, 1, (0, 0, 0), 0, 0)), (93, (.invokevirtual 358, 3, (0, 294, 0), 0, 2055))],
  [(96, (.iload_n 2, 1, (0, 0, 0), 0, 0)), (97, (.ireturn, 1, (0, 0, 0), 0, 0))]]
set_option maxRecDepth 10000 in
def zp320 : List (List (Nat × ZI)) := [[(0, (.iconst (-1), 1, (0, 0, 0), (-1), 0)), (1, (.istore_n 2, 1, (0, 0, 0), 0, 0)), (2, (.iconst 0, 1, (0, 0, 0), 0, 0)), (3, (.istore_n 3, 1, (0, 0, 0), 0, 0)), (4, (.iconst 0, 1, (0, 0, 0), 0, 0)), (5, (.istore 4, 2, (0, 0, 0), 0, 0)), (7, (.iload 4, 2, (0, 0, 0), 0, 0)), (9, (.aload_n 0, 1, (0, 0, 0), 0, 0)), (10, (.invokevirtual 74, 3, (0, 217, 0), 0, 1776)), (13, (.if_icmp .ge 38, 3, (51, 0, 0), 0, 0)), (16, (.aload_n 0, 1, (0, 0, 0), 0, 0)), (17, (.getfield 13, 3, (12, 1, 0), 0, 1614)), (20, (.iload_n 1, 1, (0, 0, 0), 0, 0)), (21, (.iload 4, 2, (0, 0, 0), 0, 0)), (23, (.iadd, 1, (0, 0, 0), 0, 0)), (24, (.iaload, 1, (0, 0, 0), 0, 0)), (25, (.iload_n 3, 1, (0, 0, 0), 0, 0)), (26, (.if_icmp .gt 6, 3, (32, 0, 0), 0, 0)), (29, (.goto 16, 3, (45, 0, 0), 0, 0))],
  [(32, (.iload 4, 2, (0, 0, 0), 0, 0)), (34, (.istore_n 2, 1, (0, 0, 0), 0, 0)), (35, (.aload_n 0, 1, (0, 0, 0), 0, 0)), (36, (.getfield 13, 3, (12, 1, 0), 0, 1614)), (39, (.iload_n 1, 1, (0, 0, 0), 0, 0)), (40, (.iload 4, 2, (0, 0, 0), 0, 0)), (42, (.iadd, 1, (0, 0, 0), 0, 0)), (43, (.iaload, 1, (0, 0, 0), 0, 0)), (44, (.istore_n 3, 1, (0, 0, 0), 0, 0)), (45, (.iinc 4 1, 3, (0, 0, 0), 1, 0)), (48, (.goto (-41), 3, (7, 0, 0), 0, 0)), (51, (.iload_n 2, 1, (0, 0, 0), 0, 0)), (52, (.ireturn, 1, (0, 0, 0), 0, 0))]]
set_option maxRecDepth 10000 in
def zp321 : List (List (Nat × ZI)) := [[(0, (.aload_n 0, 1, (0, 0, 0), 0, 0)), (1, (.iconst 0, 1, (0, 0, 0), 0, 0)), (2, (.putfield 3, 3, (12, 0, 0), 0, 1613)), (5, (.aload_n 0, 1, (0, 0, 0), 0, 0)), (6, (.aload_n 0, 1, (0, 0, 0), 0, 0)), (7, (.iload_n 1, 1, (0, 0, 0), 0, 0)), (8, (.invokevirtual 300, 3, (0, 228, 0), 0, 1937)), (11, (.iconst 1, 1, (0, 0, 0), 1, 0)), (12, (.invokevirtual 272, 3, (0, 208, 0), 0, 1882)), (15, (.ifCond .eq 5, 3, (20, 0, 0), 0, 0)), (18, (.iconst 0, 1, (0, 0, 0), 0, 0)), (19, (.ireturn, 1, (0, 0, 0), 0, 0)), (20, (.iconst 0, 1, (0, 0, 0), 0, 0)), (21, (.istore_n 3, 1, (0, 0, 0), 0, 0)), (22, (.iconst 0, 1, (0, 0, 0), 0, 0)), (23, (.istore 4, 2, (0, 0, 0), 0, 0)), (25, (.iload 4, 2, (0, 0, 0), 0, 0)), (27, (.aload_n 0, 1, (0, 0, 0), 0, 0)), (28, (.invokevirtual 74, 3, (0, 217, 0), 0, 1776)), (31, (.if_icmp .ge 30, 3, (61, 0, 0), 0, 0))],
  [(34, (.iload_n 3, 1, (0, 0, 0), 0, 0)), (35, (.aload_n 0, 1, (0, 0, 0), 0, 0)), (36, (.iload_n 1, 1, (0, 0, 0), 0, 0)), (37, (.bipush 16, 2, (0, 0, 0), 16, 0)), (39, (.iload 4, 2, (0, 0, 0), 0, 0)), (41, (.iadd, 1, (0, 0, 0), 0, 0)), (42, (.invokevirtual 59, 3, (0, 221, 0), 0, 1787)), (45, (.ifCond .le 7, 3, (52, 0, 0), 0, 0)), (48, (.iconst 1, 1, (0, 0, 0), 1, 0)), (49, (.goto 4, 3, (53, 0, 0), 0, 0)), (52, (.iconst 0, 1, (0, 0, 0), 0, 0)), (53, (.iadd, 1, (0, 0, 0), 0, 0)), (54, (.istore_n 3, 1, (0, 0, 0), 0, 0)), (55, (.iinc 4 1, 3, (0, 0, 0), 1, 0)), (58, (.goto (-33), 3, (25, 0, 0), 0, 0)), (61, (.iload_n 2, 1, (0, 0, 0), 0, 0)), (62, (.ifCond .eq 7, 3, (69, 0, 0), 0, 0))],
  [(65, (.iload_n 3, 1, (0, 0, 0), 0, 0)), (66, (.goto 13, 3, (79, 0, 0), 0, 0)), (69, (.aload_n 0, 1, (0, 0, 0), 0, 0)), (70, (.iload_n 1, 1, (0, 0, 0), 0, 0)), (71, (.bipush 16, 2, (0, 0, 0), 16, 0)), (73, (.invokestatic 56, 3, (0, 219, 0), 0, 1784)), (76, (.invokevirtual 388, 3, (0, 320, 0), 0, 2147)), (79, (.ireturn, 1, (0, 0, 0), 0, 0))]]
set_option maxRecDepth 10000 in
def zp322 : List (List (Nat × ZI)) := [[(0, (.aload_n 0, 1, (0, 0, 0), 0, 0)), (1, (.iconst 0, 1, (0, 0, 0), 0, 0)), (2, (.putfield 3, 3, (12, 0, 0), 0, 1613)), (5, (.aload_n 0, 1, (0, 0, 0), 0, 0)), (6, (.aload_n 0, 1, (0, 0, 0), 0, 0)), (7, (.iload_n 1, 1, (0, 0, 0), 0, 0)), (8, (.invokevirtual 288, 3, (0, 227, 0), 0, 1894)), (11, (.iconst 1, 1, (0, 0, 0), 1, 0)), (12, (.invokevirtual 272, 3, (0, 208, 0), 0, 1882)), (15, (.ifCond .eq 7, 3, (22, 0, 0), 0, 0)), (18, (.iconst 0, 1, (0, 0, 0), 0, 0)), (19, (.goto 12, 3, (31, 0, 0), 0, 0)), (22, (.aload_n 0, 1, (0, 0, 0), 0, 0)), (23, (.iload_n 1, 1, (0, 0, 0), 0, 0)), (24, (.iconst 3, 1, (0, 0, 0), 3, 0)), (25, (.invokestatic 52, 3, (0, 218, 0), 0, 1759)), (28, (.invokevirtual 388, 3, (0, 320, 0), 0, 2147)), (31, (.ireturn, 1, (0, 0, 0), 0, 0))]]
set_option maxRecDepth 10000 in
def zp323 : List (List (Nat × ZI)) := [[(0, (.aload_n 0, 1, (0, 0, 0), 0, 0)), (1, (.iconst 0, 1, (0, 0, 0), 0, 0)), (2, (.putfield 3, 3, (12, 0, 0), 0, 1613)), (5, (.aload_n 0, 1, (0, 0, 0), 0, 0)), (6, (.aload_n 0, 1, (0, 0, 0), 0, 0)), (7, (.iload_n 1, 1, (0, 0, 0), 0, 0)), (8, (.invokevirtual 288, 3, (0, 227, 0), 0, 1894)), (11, (.ifCond .ne 11, 3, (22, 0, 0), 0, 0)), (14, (.aload_n 0, 1, (0, 0, 0), 0, 0)), (15, (.iload_n 2, 1, (0, 0, 0), 0, 0)), (16, (.invokevirtual 300, 3, (0, 228, 0), 0, 1937)), (19, (.ifCond .eq 7, 3, (26, 0, 0), 0, 0)), (22, (.iconst 1, 1, (0, 0, 0), 1, 0)), (23, (.goto 4, 3, (27, 0, 0), 0, 0)), (26, (.iconst 0, 1, (0, 0, 0), 0, 0)), (27, (.iconst 1, 1, (0, 0, 0), 1, 0)), (28, (.invokevirtual 272, 3, (0, 208, 0), 0, 1882)), (31, (.ifCond .eq 5, 3, (36, 0, 0), 0, 0))],
  [(34, (.iconst 0, 1, (0, 0, 0), 0, 0)), (35, (.ireturn, 1, (0, 0, 0), 0, 0)), (36, (.aload_n 0, 1, (0, 0, 0), 0, 0)), (37, (.iload_n 1, 1, (0, 0, 0), 0, 0)), (38, (.invokevirtual 275, 3, (0, 225, 0), 0, 1905)), (41, (.istore_n 3, 1, (0, 0, 0), 0, 0)), (42, (.iload_n 3, 1, (0, 0, 0), 0, 0)), (43, (.ifCond .ne 7, 3, (50, 0, 0), 0, 0)), (46, (.iconst 0, 1, (0, 0, 0), 0, 0)), (47, (.goto 20, 3, (67, 0, 0), 0, 0)), (50, (.ldc2_w 391, 3, (0, 0, 0), 10000, 2159)), (53, (.aload_n 0, 1, (0, 0, 0), 0, 0)), (54, (.iload_n 1, 1, (0, 0, 0), 0, 0)), (55, (.iconst 3, 1, (0, 0, 0), 3, 0)), (56, (.iload_n 2, 1, (0, 0, 0), 0, 0)), (57, (.iadd, 1, (0, 0, 0), 0, 0)), (58, (.invokevirtual 77, 3, (0, 220, 0), 0, 1901)), (61, (.i2l, 1, (0, 0, 0), 0, 0)), (62, (.lmul, 1, (0, 0, 0), 0, 0)), (63, (.iload_n 3, 1, (0, 0, 0), 0, 0))],
  [(64, (.i2l, 1, (0, 0, 0), 0, 0)), (65, (.ldiv, 1, (0, 0, 0), 0, 0)), (66, (.l2i, 1, (0, 0, 0), 0, 0)), (67, (.ireturn, 1, (0, 0, 0), 0, 0))]]
set_option maxRecDepth 10000 in
def zp324 : List (List (Nat × ZI)) := [[(0, (.aload_n 0, 1, (0, 0, 0), 0, 0)), (1, (.iconst 0, 1, (0, 0, 0), 0, 0)), (2, (.putfield 3, 3, (12, 0, 0), 0, 1613)), (5, (.iconst (-1), 1, (0, 0, 0), (-1), 0)), (6, (.istore_n 1, 1, (0, 0, 0), 0, 0)), (7, (.iconst 0, 1, (0, 0, 0), 0, 0)), (8, (.istore_n 2, 1, (0, 0, 0), 0, 0)), (9, (.iconst 0, 1, (0, 0, 0), 0, 0)), (10, (.istore_n 3, 1, (0, 0, 0), 0, 0)), (11, (.iload_n 3, 1, (0, 0, 0), 0, 0)), (12, (.aload_n 0, 1, (0, 0, 0), 0, 0)), (13, (.invokevirtual 74, 3, (0, 217, 0), 0, 1776)), (16, (.if_icmp .ge 78, 3, (94, 0, 0), 0, 0)), (19, (.iconst 0, 1, (0, 0, 0), 0, 0)), (20, (.istore 4, 2, (0, 0, 0), 0, 0)), (22, (.iconst 0, 1, (0, 0, 0), 0, 0)), (23, (.istore 5, 2, (0, 0, 0), 0, 0)), (25, (.iload 5, 2, (0, 0, 0), 0, 0)), (27, (.aload_n 0, 1, (0, 0, 0), 0, 0)), (28, (.invokevirtual 66, 3, (0, 216, 0), 0, 1738)), (31, (.if_icmp .ge 38, 3, (69, 0, 0), 0, 0))],
  [(34, (.iload 4, 2, (0, 0, 0), 0, 0)), (36, (.aload_n 0, 1, (0, 0, 0), 0, 0)), (37, (.iload 5, 2, (0, 0, 0), 0, 0)), (39, (.iconst 0, 1, (0, 0, 0), 0, 0)), (40, (.invokevirtual 77, 3, (0, 220, 0), 0, 1901)), (43, (.iconst 3, 1, (0, 0, 0), 3, 0)), (44, (.if_icmp .ne 15, 3, (59, 0, 0), 0, 0)), (47, (.aload_n 0, 1, (0, 0, 0), 0, 0)), (48, (.iload 5, 2, (0, 0, 0), 0, 0)), (50, (.iconst 3, 1, (0, 0, 0), 3, 0)), (51, (.iload_n 3, 1, (0, 0, 0), 0, 0)), (52, (.iadd, 1, (0, 0, 0), 0, 0)), (53, (.invokevirtual 77, 3, (0, 220, 0), 0, 1901)), (56, (.goto 4, 3, (60, 0, 0), 0, 0)), (59, (.iconst 0, 1, (0, 0, 0), 0, 0)), (60, (.iadd, 1, (0, 0, 0), 0, 0)), (61, (.istore 4, 2, (0, 0, 0), 0, 0)), (63, (.iinc 5 1, 3, (0, 0, 0), 1, 0))],
  [(66, (.goto (-41), 3, (25, 0, 0), 0, 0)), (69, (.iload 4, 2, (0, 0, 0), 0, 0)), (71, (.iload_n 2, 1, (0, 0, 0), 0, 0)), (72, (.if_icmp .le 7, 3, (79, 0, 0), 0, 0)), (75, (.iload_n 3, 1, (0, 0, 0), 0, 0)), (76, (.goto 4, 3, (80, 0, 0), 0, 0)), (79, (.iload_n 1, 1, (0, 0, 0), 0, 0)), (80, (.istore_n 1, 1, (0, 0, 0), 0, 0)), (81, (.iload_n 2, 1, (0, 0, 0), 0, 0)), (82, (.iload 4, 2, (0, 0, 0), 0, 0)), (84, (.invokestatic 319, 3, (3, 0, 0), 0, 1994)), (87, (.istore_n 2, 1, (0, 0, 0), 0, 0)), (88, (.iinc 3 1, 3, (0, 0, 0), 1, 0)), (91, (.goto (-80), 3, (11, 0, 0), 0, 0)), (94, (.iload_n 1, 1, (0, 0, 0), 0, 0)), (95, (.ireturn, 1, (0, 0, 0), 0, 0))]]
set_option maxRecDepth 10000 in
def zp325 : List (List (Nat × ZI)) := [[(0, (.aload_n 0, 1, (0, 0, 0), 0, 0)), (1, (.iconst 0, 1, (0, 0, 0), 0, 0)), (2, (.putfield 3, 3, (12, 0, 0), 0, 1613)), (5, (.aload_n 0, 1, (0, 0, 0), 0, 0)), (6, (.iload_n 1, 1, (0, 0, 0), 0, 0)), (7, (.ifCond .ge 7, 3, (14, 0, 0), 0, 0)), (10, (.iconst 1, 1, (0, 0, 0), 1, 0)), (11, (.goto 4, 3, (15, 0, 0), 0, 0)), (14, (.iconst 0, 1, (0, 0, 0), 0, 0)), (15, (.iconst 1, 1, (0, 0, 0), 1, 0)), (16, (.invokevirtual 272, 3, (0, 208, 0), 0, 1882)), (19, (.ifCond .eq 5, 3, (24, 0, 0), 0, 0)), (22, (.iconst 0, 1, (0, 0, 0), 0, 0)), (23, (.ireturn, 1, (0, 0, 0), 0, 0)), (24, (.iconst 0, 1, (0, 0, 0), 0, 0)), (25, (.istore_n 2, 1, (0, 0, 0), 0, 0)), (26, (.iconst 0, 1, (0, 0, 0), 0, 0)), (27, (.istore_n 3, 1, (0, 0, 0), 0, 0)), (28, (.iload_n 3, 1, (0, 0, 0), 0, 0)), (29, (.aload_n 0, 1, (0, 0, 0), 0, 0)), (30, (.invokevirtual 66, 3, (0, 216, 0), 0, 1738))],
  [(33, (.if_icmp .ge 38, 3, (71, 0, 0), 0, 0)), (36, (.iload_n 2, 1, (0, 0, 0), 0, 0)), (37, (.aload_n 0, 1, (0, 0, 0), 0, 0)), (38, (.iload_n 3, 1, (0, 0, 0), 0, 0)), (39, (.iconst 0, 1, (0, 0, 0), 0, 0)), (40, (.invokevirtual 77, 3, (0, 220, 0), 0, 1901)), (43, (.iconst 3, 1, (0, 0, 0), 3, 0)), (44, (.if_icmp .ne 18, 3, (62, 0, 0), 0, 0)), (47, (.aload_n 0, 1, (0, 0, 0), 0, 0)), (48, (.iload_n 3, 1, (0, 0, 0), 0, 0)), (49, (.invokevirtual 275, 3, (0, 225, 0), 0, 1905)), (52, (.iload_n 1, 1, (0, 0, 0), 0, 0)), (53, (.if_icmp .le 9, 3, (62, 0, 0), 0, 0)), (56, (.iconst 1, 1, (0, 0, 0), 1, 0)), (57, (.iload_n 3, 1, (0, 0, 0), 0, 0)), (58, (.ishl, 1, (0, 0, 0), 0, 0)), (59, (.goto 4, 3, (63, 0, 0), 0, 0)), (62, (.iconst 0, 1, (0, 0, 0), 0, 0)), (63, (.ior, 1, (0, 0, 0), 0, 0))],
  [(64, (.istore_n 2, 1, (0, 0, 0), 0, 0)), (65, (.iinc 3 1, 3, (0, 0, 0), 1, 0)), (68, (.goto (-40), 3, (28, 0, 0), 0, 0)), (71, (.iload_n 2, 1, (0, 0, 0), 0, 0)), (72, (.ireturn, 1, (0, 0, 0), 0, 0))]]
set_option maxRecDepth 10000 in
def zp326 : List (List (Nat × ZI)) := [[(0, (.aload_n 0, 1, (0, 0, 0), 0, 0)), (1, (.iconst 0, 1, (0, 0, 0), 0, 0)), (2, (.putfield 3, 3, (12, 0, 0), 0, 1613)), (5, (.aload_n 0, 1, (0, 0, 0), 0, 0)), (6, (.aload_n 0, 1, (0, 0, 0), 0, 0)), (7, (.iload_n 1, 1, (0, 0, 0), 0, 0)), (8, (.invokevirtual 288, 3, (0, 227, 0), 0, 1894)), (11, (.ifCond .ne 11, 3, (22, 0, 0), 0, 0)), (14, (.aload_n 0, 1, (0, 0, 0), 0, 0)), (15, (.iload_n 2, 1, (0, 0, 0), 0, 0)), (16, (.invokevirtual 288, 3, (0, 227, 0), 0, 1894)), (19, (.ifCond .eq 7, 3, (26, 0, 0), 0, 0)), (22, (.iconst 1, 1, (0, 0, 0), 1, 0)), (23, (.goto 4, 3, (27, 0, 0), 0, 0)), (26, (.iconst 0, 1, (0, 0, 0), 0, 0)), (27, (.iconst 1, 1, (0, 0, 0), 1, 0)), (28, (.invokevirtual 272, 3, (0, 208, 0), 0, 1882)), (31, (.ifCond .eq 5, 3, (36, 0, 0), 0, 0))],
  [(34, (.iconst 0, 1, (0, 0, 0), 0, 0)), (35, (.ireturn, 1, (0, 0, 0), 0, 0)), (36, (.iconst 1, 1, (0, 0, 0), 1, 0)), (37, (.iload_n 1, 1, (0, 0, 0), 0, 0)), (38, (.ishl, 1, (0, 0, 0), 0, 0)), (39, (.istore_n 3, 1, (0, 0, 0), 0, 0)), (40, (.iconst 0, 1, (0, 0, 0), 0, 0)), (41, (.istore 4, 2, (0, 0, 0), 0, 0)), (43, (.iload 4, 2, (0, 0, 0), 0, 0)), (45, (.aload_n 0, 1, (0, 0, 0), 0, 0)), (46, (.invokevirtual 66, 3, (0, 216, 0), 0, 1738)), (49, (.if_icmp .ge 68, 3, (117, 0, 0), 0, 0)), (52, (.iload_n 3, 1, (0, 0, 0), 0, 0)), (53, (.iload_n 2, 1, (0, 0, 0), 0, 0)), (54, (.invokestatic 376, 3, (0, 210, 0), 0, 2088)), (57, (.ifCond .eq 6, 3, (63, 0, 0), 0, 0)), (60, (.iload 4, 2, (0, 0, 0), 0, 0)), (62, (.ireturn, 1, (0, 0, 0), 0, 0)), (63, (.iload_n 3, 1, (0, 0, 0), 0, 0))],
  [(64, (.istore 5, 2, (0, 0, 0), 0, 0)), (66, (.iconst 0, 1, (0, 0, 0), 0, 0)), (67, (.istore 6, 2, (0, 0, 0), 0, 0)), (69, (.iload 6, 2, (0, 0, 0), 0, 0)), (71, (.aload_n 0, 1, (0, 0, 0), 0, 0)), (72, (.invokevirtual 66, 3, (0, 216, 0), 0, 1738)), (75, (.if_icmp .ge 33, 3, (108, 0, 0), 0, 0)), (78, (.iload 5, 2, (0, 0, 0), 0, 0)), (80, (.iload_n 3, 1, (0, 0, 0), 0, 0)), (81, (.iload 6, 2, (0, 0, 0), 0, 0)), (83, (.invokestatic 376, 3, (0, 210, 0), 0, 2088)), (86, (.ifCond .eq 12, 3, (98, 0, 0), 0, 0)), (89, (.aload_n 0, 1, (0, 0, 0), 0, 0)), (90, (.iload 6, 2, (0, 0, 0), 0, 0)), (92, (.invokevirtual 294, 3, (0, 271, 0), 0, 1917)), (95, (.goto 4, 3, (99, 0, 0), 0, 0))],
  [(98, (.iconst 0, 1, (0, 0, 0), 0, 0)), (99, (.ior, 1, (0, 0, 0), 0, 0)), (100, (.istore 5, 2, (0, 0, 0), 0, 0)), (102, (.iinc 6 1, 3, (0, 0, 0), 1, 0)), (105, (.goto (-36), 3, (69, 0, 0), 0, 0)), (108, (.iload 5, 2, (0, 0, 0), 0, 0)), (110, (.istore_n 3, 1, (0, 0, 0), 0, 0)), (111, (.iinc 4 1, 3, (0, 0, 0), 1, 0)), (114, (.goto (-71), 3, (43, 0, 0), 0, 0)), (117, (.iconst (-1), 1, (0, 0, 0), (-1), 0)), (118, (.ireturn, 1, (0, 0, 0), 0, 0))]]
set_option maxRecDepth 10000 in
def zp327 : List (List (Nat × ZI)) := [[(0, (.aload_n 0, 1, (0, 0, 0), 0, 0)), (1, (.iload_n 1, 1, (0, 0, 0), 0, 0)), (2, (.iconst 3, 1, (0, 0, 0), 3, 0)), (3, (.invokevirtual 59, 3, (0, 221, 0), 0, 1787)), (6, (.istore_n 3, 1, (0, 0, 0), 0, 0)), (7, (.aload_n 0, 1, (0, 0, 0), 0, 0)), (8, (.iload_n 1, 1, (0, 0, 0), 0, 0)), (9, (.iconst 4, 1, (0, 0, 0), 4, 0)), (10, (.aload_n 0, 1, (0, 0, 0), 0, 0)), (11, (.iload_n 1, 1, (0, 0, 0), 0, 0)), (12, (.iconst 0, 1, (0, 0, 0), 0, 0)), (13, (.invokevirtual 59, 3, (0, 221, 0), 0, 1787)), (16, (.iload_n 2, 1, (0, 0, 0), 0, 0)), (17, (.iadd, 1, (0, 0, 0), 0, 0)), (18, (.iload_n 3, 1, (0, 0, 0), 0, 0)), (19, (.irem, 1, (0, 0, 0), 0, 0)), (20, (.iload_n 3, 1, (0, 0, 0), 0, 0)), (21, (.iadd, 1, (0, 0, 0), 0, 0)), (22, (.iload_n 3, 1, (0, 0, 0), 0, 0)), (23, (.irem, 1, (0, 0, 0), 0, 0)), (24, (.iadd, 1, (0, 0, 0), 0, 0)), (25, (.invokevirtual 59, 3, (0, 221, 0), 0, 1787)), (28, (.ireturn, 1, (0, 0, 0), 0, 0))]]
set_option maxRecDepth 10000 in
def zp328 : List (List (Nat × ZI)) := [[(0, (.aload_n 0, 1, (0, 0, 0), 0, 0)), (1, (.iconst 0, 1, (0, 0, 0), 0, 0)), (2, (.putfield 3, 3, (12, 0, 0), 0, 1613)), (5, (.aload_n 0, 1, (0, 0, 0), 0, 0)), (6, (.aload_n 0, 1, (0, 0, 0), 0, 0)), (7, (.iload_n 1, 1, (0, 0, 0), 0, 0)), (8, (.invokevirtual 300, 3, (0, 228, 0), 0, 1937)), (11, (.ifCond .ne 11, 3, (22, 0, 0), 0, 0)), (14, (.aload_n 0, 1, (0, 0, 0), 0, 0)), (15, (.iload_n 2, 1, (0, 0, 0), 0, 0)), (16, (.invokevirtual 300, 3, (0, 228, 0), 0, 1937)), (19, (.ifCond .eq 7, 3, (26, 0, 0), 0, 0)), (22, (.iconst 1, 1, (0, 0, 0), 1, 0)), (23, (.goto 4, 3, (27, 0, 0), 0, 0)), (26, (.iconst 0, 1, (0, 0, 0), 0, 0)), (27, (.iconst 1, 1, (0, 0, 0), 1, 0)), (28, (.invokevirtual 272, 3, (0, 208, 0), 0, 1882)), (31, (.ifCond .ne 21, 3, (52, 0, 0), 0, 0))],
  [(34, (.aload_n 0, 1, (0, 0, 0), 0, 0)), (35, (.iload_n 1, 1, (0, 0, 0), 0, 0)), (36, (.iload_n 2, 1, (0, 0, 0), 0, 0)), (37, (.if_icmp .ne 7, 3, (44, 0, 0), 0, 0)), (40, (.iconst 1, 1, (0, 0, 0), 1, 0)), (41, (.goto 4, 3, (45, 0, 0), 0, 0)), (44, (.iconst 0, 1, (0, 0, 0), 0, 0)), (45, (.iconst 2, 1, (0, 0, 0), 2, 0)), (46, (.invokevirtual 272, 3, (0, 208, 0), 0, 1882)), (49, (.ifCond .eq 5, 3, (54, 0, 0), 0, 0)), (52, (.iconst 0, 1, (0, 0, 0), 0, 0)), (53, (.ireturn, 1, (0, 0, 0), 0, 0)), (54, (.iconst 0, 1, (0, 0, 0), 0, 0)), (55, (.istore_n 3, 1, (0, 0, 0), 0, 0)), (56, (.iload_n 3, 1, (0, 0, 0), 0, 0)), (57, (.sipush 144, 3, (0, 0, 0), 144, 0)), (60, (.if_icmp .gt 33, 3, (93, 0, 0), 0, 0)), (63, (.aload_n 0, 1, (0, 0, 0), 0, 0))],
  [(64, (.iload_n 1, 1, (0, 0, 0), 0, 0)), (65, (.iload_n 3, 1, (0, 0, 0), 0, 0)), (66, (.invokevirtual 393, 3, (0, 327, 0), 0, 2176)), (69, (.aload_n 0, 1, (0, 0, 0), 0, 0)), (70, (.iload_n 2, 1, (0, 0, 0), 0, 0)), (71, (.iload_n 3, 1, (0, 0, 0), 0, 0)), (72, (.invokevirtual 393, 3, (0, 327, 0), 0, 2176)), (75, (.if_icmp .ne 12, 3, (87, 0, 0), 0, 0)), (78, (.aload_n 0, 1, (0, 0, 0), 0, 0)), (79, (.getfield 13, 3, (12, 1, 0), 0, 1614)), (82, (.iconst 5, 1, (0, 0, 0), 5, 0)), (83, (.iaload, 1, (0, 0, 0), 0, 0)), (84, (.iload_n 3, 1, (0, 0, 0), 0, 0)), (85, (.iadd, 1, (0, 0, 0), 0, 0)), (86, (.ireturn, 1, (0, 0, 0), 0, 0)), (87, (.iinc 3 1, 3, (0, 0, 0), 1, 0)), (90, (.goto (-34), 3, (56, 0, 0), 0, 0)), (93, (.iconst (-1), 1, (0, 0, 0), (-1), 0)), (94, (.ireturn, 1, (0, 0, 0), 0, 0))]]
set_option maxRecDepth 10000 in
def zp329 : List (List (Nat × ZI)) := [[(0, (.aload_n 0, 1, (0, 0, 0), 0, 0)), (1, (.getfield 29, 3, (12, 8, 0), 0, 1621)), (4, (.iload_n 1, 1, (0, 0, 0), 0, 0)), (5, (.iconst 1, 1, (0, 0, 0), 1, 0)), (6, (.iadd, 1, (0, 0, 0), 0, 0)), (7, (.baload, 1, (0, 0, 0), 0, 0)), (8, (.sipush 255, 3, (0, 0, 0), 255, 0)), (11, (.iand, 1, (0, 0, 0), 0, 0)), (12, (.bipush 8, 2, (0, 0, 0), 8, 0)), (14, (.ishl, 1, (0, 0, 0), 0, 0)), (15, (.aload_n 0, 1, (0, 0, 0), 0, 0)), (16, (.getfield 29, 3, (12, 8, 0), 0, 1621)), (19, (.iload_n 1, 1, (0, 0, 0), 0, 0)), (20, (.iconst 2, 1, (0, 0, 0), 2, 0)), (21, (.iadd, 1, (0, 0, 0), 0, 0)), (22, (.baload, 1, (0, 0, 0), 0, 0)), (23, (.sipush 255, 3, (0, 0, 0), 255, 0)), (26, (.iand, 1, (0, 0, 0), 0, 0)), (27, (.ior, 1, (0, 0, 0), 0, 0)), (28, (.ireturn, 1, (0, 0, 0), 0, 0))]]
set_option maxRecDepth 10000 in
def zp330 : List (List (Nat × ZI)) := [[(0, (.aload_n 0, 1, (0, 0, 0), 0, 0)), (1, (.invokevirtual 261, 3, (0, 244, 0), 0, 1703)), (4, (.aload_n 0, 1, (0, 0, 0), 0, 0)), (5, (.getfield 87, 3, (12, 11, 0), 0, 1624)), (8, (.iconst 3, 1, (0, 0, 0), 3, 0)), (9, (.irem, 1, (0, 0, 0), 0, 0)), (10, (.ifCond .ne 7, 3, (17, 0, 0), 0, 0)), (13, (.iconst 1, 1, (0, 0, 0), 1, 0)), (14, (.goto 4, 3, (18, 0, 0), 0, 0)), (17, (.iconst 0, 1, (0, 0, 0), 0, 0)), (18, (.istore_n 1, 1, (0, 0, 0), 0, 0)), (19, (.iconst 0, 1, (0, 0, 0), 0, 0)), (20, (.istore_n 2, 1, (0, 0, 0), 0, 0)), (21, (.iload_n 2, 1, (0, 0, 0), 0, 0)), (22, (.iconst 2, 1, (0, 0, 0), 2, 0)), (23, (.iadd, 1, (0, 0, 0), 0, 0)), (24, (.aload_n 0, 1, (0, 0, 0), 0, 0)), (25, (.getfield 87, 3, (12, 11, 0), 0, 1624)), (28, (.if_icmp .ge 46, 3, (74, 0, 0), 0, 0)), (31, (.iload_n 1, 1, (0, 0, 0), 0, 0))],
  [(32, (.ifCond .eq 42, 3, (74, 0, 0), 0, 0)), (35, (.aload_n 0, 1, (0, 0, 0), 0, 0)), (36, (.aload_n 0, 1, (0, 0, 0), 0, 0)), (37, (.getfield 29, 3, (12, 8, 0), 0, 1621)), (40, (.iload_n 2, 1, (0, 0, 0), 0, 0)), (41, (.baload, 1, (0, 0, 0), 0, 0)), (42, (.bipush 97, 2, (0, 0, 0), 97, 0)), (44, (.isub, 1, (0, 0, 0), 0, 0)), (45, (.invokevirtual 288, 3, (0, 227, 0), 0, 1894)), (48, (.ifCond .ne 18, 3, (66, 0, 0), 0, 0)), (51, (.aload_n 0, 1, (0, 0, 0), 0, 0)), (52, (.iload_n 2, 1, (0, 0, 0), 0, 0)), (53, (.invokevirtual 396, 3, (0, 329, 0), 0, 2184)), (56, (.sipush 9999, 3, (0, 0, 0), 9999, 0)), (59, (.if_icmp .gt 7, 3, (66, 0, 0), 0, 0)), (62, (.iconst 1, 1, (0, 0, 0), 1, 0)), (63, (.goto 4, 3, (67, 0, 0), 0, 0))],
  [(66, (.iconst 0, 1, (0, 0, 0), 0, 0)), (67, (.istore_n 1, 1, (0, 0, 0), 0, 0)), (68, (.iinc 2 3, 3, (0, 0, 0), 3, 0)), (71, (.goto (-50), 3, (21, 0, 0), 0, 0)), (74, (.aload_n 0, 1, (0, 0, 0), 0, 0)), (75, (.iload_n 1, 1, (0, 0, 0), 0, 0)), (76, (.ifCond .ne 7, 3, (83, 0, 0), 0, 0)), (79, (.iconst 1, 1, (0, 0, 0), 1, 0)), (80, (.goto 4, 3, (84, 0, 0), 0, 0)), (83, (.iconst 0, 1, (0, 0, 0), 0, 0)), (84, (.iconst 1, 1, (0, 0, 0), 1, 0)), (85, (.invokevirtual 272, 3, (0, 208, 0), 0, 1882)), (88, (.ifCond .eq 5, 3, (93, 0, 0), 0, 0)), (91, (.iconst 0, 1, (0, 0, 0), 0, 0)), (92, (.ireturn, 1, (0, 0, 0), 0, 0)), (93, (.iconst 1, 1, (0, 0, 0), 1, 0)), (94, (.aload_n 0, 1, (0, 0, 0), 0, 0)), (95, (.invokevirtual 74, 3, (0, 217, 0), 0, 1776))],
  [(98, (.ishl, 1, (0, 0, 0), 0, 0)), (99, (.iconst 1, 1, (0, 0, 0), 1, 0)), (100, (.isub, 1, (0, 0, 0), 0, 0)), (101, (.istore_n 2, 1, (0, 0, 0), 0, 0)), (102, (.iconst 0, 1, (0, 0, 0), 0, 0)), (103, (.istore_n 3, 1, (0, 0, 0), 0, 0)), (104, (.iload_n 3, 1, (0, 0, 0), 0, 0)), (105, (.aload_n 0, 1, (0, 0, 0), 0, 0)), (106, (.getfield 87, 3, (12, 11, 0), 0, 1624)), (109, (.if_icmp .ge 66, 3, (175, 0, 0), 0, 0)), (112, (.iconst 0, 1, (0, 0, 0), 0, 0)), (113, (.istore 4, 2, (0, 0, 0), 0, 0)), (115, (.iload 4, 2, (0, 0, 0), 0, 0)), (117, (.aload_n 0, 1, (0, 0, 0), 0, 0)), (118, (.invokevirtual 74, 3, (0, 217, 0), 0, 1776)), (121, (.if_icmp .ge 48, 3, (169, 0, 0), 0, 0)), (124, (.aload_n 0, 1, (0, 0, 0), 0, 0)), (125, (.iload 4, 2, (0, 0, 0), 0, 0)), (127, (.aload_n 0, 1, (0, 0, 0), 0, 0))],
  [(128, (.iload_n 3, 1, (0, 0, 0), 0, 0)), (129, (.invokevirtual 396, 3, (0, 329, 0), 0, 2184)), (132, (.aload_n 0, 1, (0, 0, 0), 0, 0)), (133, (.getfield 13, 3, (12, 1, 0), 0, 1614)), (136, (.iconst 5, 1, (0, 0, 0), 5, 0)), (137, (.iaload, 1, (0, 0, 0), 0, 0)), (138, (.isub, 1, (0, 0, 0), 0, 0)), (139, (.invokevirtual 393, 3, (0, 327, 0), 0, 2176)), (142, (.aload_n 0, 1, (0, 0, 0), 0, 0)), (143, (.getfield 29, 3, (12, 8, 0), 0, 1621)), (146, (.iload_n 3, 1, (0, 0, 0), 0, 0)), (147, (.baload, 1, (0, 0, 0), 0, 0)), (148, (.bipush 97, 2, (0, 0, 0), 97, 0)), (150, (.isub, 1, (0, 0, 0), 0, 0)), (151, (.if_icmp .eq 12, 3, (163, 0, 0), 0, 0)), (154, (.iload_n 2, 1, (0, 0, 0), 0, 0)), (155, (.iconst 1, 1, (0, 0, 0), 1, 0)), (156, (.iload 4, 2, (0, 0, 0), 0, 0)), (158, (.ishl, 1, (0, 0, 0), 0, 0)), (159, (.iconst (-1), 1, (0, 0, 0), (-1), 0))],
  [(160, (.ixor, 1, (0, 0, 0), 0, 0)), (161, (.iand, 1, (0, 0, 0), 0, 0)), (162, (.istore_n 2, 1, (0, 0, 0), 0, 0)), (163, (.iinc 4 1, 3, (0, 0, 0), 1, 0)), (166, (.goto (-51), 3, (115, 0, 0), 0, 0)), (169, (.iinc 3 3, 3, (0, 0, 0), 3, 0)), (172, (.goto (-68), 3, (104, 0, 0), 0, 0)), (175, (.iload_n 2, 1, (0, 0, 0), 0, 0)), (176, (.ireturn, 1, (0, 0, 0), 0, 0))]]
set_option maxRecDepth 10000 in
def zp331 : List (List (Nat × ZI)) := [[(0, (.aload_n 0, 1, (0, 0, 0), 0, 0)), (1, (.iconst 0, 1, (0, 0, 0), 0, 0)), (2, (.putfield 3, 3, (12, 0, 0), 0, 1613)), (5, (.iconst 1, 1, (0, 0, 0), 1, 0)), (6, (.aload_n 0, 1, (0, 0, 0), 0, 0)), (7, (.invokevirtual 74, 3, (0, 217, 0), 0, 1776)), (10, (.ishl, 1, (0, 0, 0), 0, 0)), (11, (.iconst 1, 1, (0, 0, 0), 1, 0)), (12, (.isub, 1, (0, 0, 0), 0, 0)), (13, (.istore_n 2, 1, (0, 0, 0), 0, 0)), (14, (.iconst 0, 1, (0, 0, 0), 0, 0)), (15, (.istore_n 3, 1, (0, 0, 0), 0, 0)), (16, (.iload_n 3, 1, (0, 0, 0), 0, 0)), (17, (.aload_n 0, 1, (0, 0, 0), 0, 0)), (18, (.invokevirtual 66, 3, (0, 216, 0), 0, 1738)), (21, (.if_icmp .ge 95, 3, (116, 0, 0), 0, 0)), (24, (.iconst 0, 1, (0, 0, 0), 0, 0)), (25, (.istore 4, 2, (0, 0, 0), 0, 0)), (27, (.iconst 0, 1, (0, 0, 0), 0, 0)), (28, (.istore 5, 2, (0, 0, 0), 0, 0)), (30, (.iload 5, 2, (0, 0, 0), 0, 0))],
  [(32, (.aload_n 0, 1, (0, 0, 0), 0, 0)), (33, (.getfield 13, 3, (12, 1, 0), 0, 1614)), (36, (.bipush 11, 2, (0, 0, 0), 11, 0)), (38, (.iaload, 1, (0, 0, 0), 0, 0)), (39, (.if_icmp .ge 54, 3, (93, 0, 0), 0, 0)), (42, (.iload 4, 2, (0, 0, 0), 0, 0)), (44, (.aload_n 0, 1, (0, 0, 0), 0, 0)), (45, (.getfield 13, 3, (12, 1, 0), 0, 1614)), (48, (.sipush 377, 3, (0, 0, 0), 377, 0)), (51, (.iconst 5, 1, (0, 0, 0), 5, 0)), (52, (.iload 5, 2, (0, 0, 0), 0, 0)), (54, (.imul, 1, (0, 0, 0), 0, 0)), (55, (.iadd, 1, (0, 0, 0), 0, 0)), (56, (.iconst 2, 1, (0, 0, 0), 2, 0)), (57, (.iadd, 1, (0, 0, 0), 0, 0)), (58, (.iaload, 1, (0, 0, 0), 0, 0)), (59, (.iload_n 3, 1, (0, 0, 0), 0, 0)), (60, (.if_icmp .ne 23, 3, (83, 0, 0), 0, 0)), (63, (.iconst 1, 1, (0, 0, 0), 1, 0))],
  [(64, (.aload_n 0, 1, (0, 0, 0), 0, 0)), (65, (.getfield 13, 3, (12, 1, 0), 0, 1614)), (68, (.sipush 377, 3, (0, 0, 0), 377, 0)), (71, (.iconst 5, 1, (0, 0, 0), 5, 0)), (72, (.iload 5, 2, (0, 0, 0), 0, 0)), (74, (.imul, 1, (0, 0, 0), 0, 0)), (75, (.iadd, 1, (0, 0, 0), 0, 0)), (76, (.iconst 1, 1, (0, 0, 0), 1, 0)), (77, (.iadd, 1, (0, 0, 0), 0, 0)), (78, (.iaload, 1, (0, 0, 0), 0, 0)), (79, (.ishl, 1, (0, 0, 0), 0, 0)), (80, (.goto 4, 3, (84, 0, 0), 0, 0)), (83, (.iconst 0, 1, (0, 0, 0), 0, 0)), (84, (.ior, 1, (0, 0, 0), 0, 0)), (85, (.istore 4, 2, (0, 0, 0), 0, 0)), (87, (.iinc 5 1, 3, (0, 0, 0), 1, 0)), (90, (.goto (-60), 3, (30, 0, 0), 0, 0)), (93, (.iload_n 2, 1, (0, 0, 0), 0, 0)), (94, (.iload_n 1, 1, (0, 0, 0), 0, 0)), (95, (.iload_n 3, 1, (0, 0, 0), 0, 0))],
  [(96, (.invokestatic 376, 3, (0, 210, 0), 0, 2088)), (99, (.ifCond .eq 8, 3, (107, 0, 0), 0, 0)), (102, (.iload 4, 2, (0, 0, 0), 0, 0)), (104, (.goto 4, 3, (108, 0, 0), 0, 0)), (107, (.iload_n 2, 1, (0, 0, 0), 0, 0)), (108, (.iand, 1, (0, 0, 0), 0, 0)), (109, (.istore_n 2, 1, (0, 0, 0), 0, 0)), (110, (.iinc 3 1, 3, (0, 0, 0), 1, 0)), (113, (.goto (-97), 3, (16, 0, 0), 0, 0)), (116, (.iload_n 2, 1, (0, 0, 0), 0, 0)), (117, (.ireturn, 1, (0, 0, 0), 0, 0))]]
set_option maxRecDepth 10000 in
def zp332 : List (List (Nat × ZI)) := [[(0, (.aload_n 0, 1, (0, 0, 0), 0, 0)), (1, (.iconst 0, 1, (0, 0, 0), 0, 0)), (2, (.putfield 3, 3, (12, 0, 0), 0, 1613)), (5, (.aload_n 0, 1, (0, 0, 0), 0, 0)), (6, (.iload_n 2, 1, (0, 0, 0), 0, 0)), (7, (.iconst 0, 1, (0, 0, 0), 0, 0)), (8, (.iconst 4, 1, (0, 0, 0), 4, 0)), (9, (.invokestatic 70, 3, (0, 209, 0), 0, 1898)), (12, (.ifCond .ne 7, 3, (19, 0, 0), 0, 0)), (15, (.iconst 1, 1, (0, 0, 0), 1, 0)), (16, (.goto 4, 3, (20, 0, 0), 0, 0)), (19, (.iconst 0, 1, (0, 0, 0), 0, 0)), (20, (.iconst 1, 1, (0, 0, 0), 1, 0)), (21, (.invokevirtual 272, 3, (0, 208, 0), 0, 1882)), (24, (.ifCond .eq 5, 3, (29, 0, 0), 0, 0)), (27, (.iconst 0, 1, (0, 0, 0), 0, 0)), (28, (.ireturn, 1, (0, 0, 0), 0, 0)), (29, (.iload_n 1, 1, (0, 0, 0), 0, 0)), (30, (.iconst 0, 1, (0, 0, 0), 0, 0)), (31, (.aload_n 0, 1, (0, 0, 0), 0, 0))],
  [(32, (.getfield 13, 3, (12, 1, 0), 0, 1614)), (35, (.bipush 11, 2, (0, 0, 0), 11, 0)), (37, (.iaload, 1, (0, 0, 0), 0, 0)), (38, (.iconst 1, 1, (0, 0, 0), 1, 0)), (39, (.isub, 1, (0, 0, 0), 0, 0)), (40, (.invokestatic 70, 3, (0, 209, 0), 0, 1898)), (43, (.ifCond .eq 20, 3, (63, 0, 0), 0, 0)), (46, (.aload_n 0, 1, (0, 0, 0), 0, 0)), (47, (.getfield 13, 3, (12, 1, 0), 0, 1614)), (50, (.sipush 377, 3, (0, 0, 0), 377, 0)), (53, (.iconst 5, 1, (0, 0, 0), 5, 0)), (54, (.iload_n 1, 1, (0, 0, 0), 0, 0)), (55, (.imul, 1, (0, 0, 0), 0, 0)), (56, (.iadd, 1, (0, 0, 0), 0, 0)), (57, (.iload_n 2, 1, (0, 0, 0), 0, 0)), (58, (.iadd, 1, (0, 0, 0), 0, 0)), (59, (.iaload, 1, (0, 0, 0), 0, 0)), (60, (.goto 4, 3, (64, 0, 0), 0, 0)), (63, (.iconst (-1), 1, (0, 0, 0), (-1), 0))],
  [(64, (.ireturn, 1, (0, 0, 0), 0, 0))]]
set_option maxRecDepth 10000 in
def zp333 : List (List (Nat × ZI)) := [[(0, (.aload_n 0, 1, (0, 0, 0), 0, 0)), (1, (.iconst 0, 1, (0, 0, 0), 0, 0)), (2, (.putfield 3, 3, (12, 0, 0), 0, 1613)), (5, (.aload_n 0, 1, (0, 0, 0), 0, 0)), (6, (.aload_n 0, 1, (0, 0, 0), 0, 0)), (7, (.iload_n 1, 1, (0, 0, 0), 0, 0)), (8, (.invokevirtual 288, 3, (0, 227, 0), 0, 1894)), (11, (.iconst 1, 1, (0, 0, 0), 1, 0)), (12, (.invokevirtual 272, 3, (0, 208, 0), 0, 1882)), (15, (.ifCond .ne 20, 3, (35, 0, 0), 0, 0)), (18, (.aload_n 0, 1, (0, 0, 0), 0, 0)), (19, (.iload_n 2, 1, (0, 0, 0), 0, 0)), (20, (.ifCond .ge 7, 3, (27, 0, 0), 0, 0)), (23, (.iconst 1, 1, (0, 0, 0), 1, 0)), (24, (.goto 4, 3, (28, 0, 0), 0, 0)), (27, (.iconst 0, 1, (0, 0, 0), 0, 0)), (28, (.iconst 2, 1, (0, 0, 0), 2, 0)), (29, (.invokevirtual 272, 3, (0, 208, 0), 0, 1882))],
  [(32, (.ifCond .eq 5, 3, (37, 0, 0), 0, 0)), (35, (.iconst 0, 1, (0, 0, 0), 0, 0)), (36, (.ireturn, 1, (0, 0, 0), 0, 0)), (37, (.iload_n 1, 1, (0, 0, 0), 0, 0)), (38, (.istore_n 3, 1, (0, 0, 0), 0, 0)), (39, (.iconst 0, 1, (0, 0, 0), 0, 0)), (40, (.istore 4, 2, (0, 0, 0), 0, 0)), (42, (.iconst 0, 1, (0, 0, 0), 0, 0)), (43, (.istore 5, 2, (0, 0, 0), 0, 0)), (45, (.iload 5, 2, (0, 0, 0), 0, 0)), (47, (.iload_n 2, 1, (0, 0, 0), 0, 0)), (48, (.if_icmp .ge 79, 3, (127, 0, 0), 0, 0)), (51, (.iload 4, 2, (0, 0, 0), 0, 0)), (53, (.aload_n 0, 1, (0, 0, 0), 0, 0)), (54, (.getfield 13, 3, (12, 1, 0), 0, 1614)), (57, (.bipush 11, 2, (0, 0, 0), 11, 0)), (59, (.iaload, 1, (0, 0, 0), 0, 0)), (60, (.if_icmp .ge 28, 3, (88, 0, 0), 0, 0)), (63, (.aload_n 0, 1, (0, 0, 0), 0, 0))],
  [(64, (.getfield 13, 3, (12, 1, 0), 0, 1614)), (67, (.sipush 377, 3, (0, 0, 0), 377, 0)), (70, (.iconst 5, 1, (0, 0, 0), 5, 0)), (71, (.iload 4, 2, (0, 0, 0), 0, 0)), (73, (.imul, 1, (0, 0, 0), 0, 0)), (74, (.iadd, 1, (0, 0, 0), 0, 0)), (75, (.iconst 2, 1, (0, 0, 0), 2, 0)), (76, (.iadd, 1, (0, 0, 0), 0, 0)), (77, (.iaload, 1, (0, 0, 0), 0, 0)), (78, (.iload_n 3, 1, (0, 0, 0), 0, 0)), (79, (.if_icmp .eq 9, 3, (88, 0, 0), 0, 0)), (82, (.iinc 4 1, 3, (0, 0, 0), 1, 0)), (85, (.goto (-34), 3, (51, 0, 0), 0, 0)), (88, (.iload 4, 2, (0, 0, 0), 0, 0)), (90, (.aload_n 0, 1, (0, 0, 0), 0, 0)), (91, (.getfield 13, 3, (12, 1, 0), 0, 1614)), (94, (.bipush 11, 2, (0, 0, 0), 11, 0))],
  [(96, (.iaload, 1, (0, 0, 0), 0, 0)), (97, (.if_icmp .ne 5, 3, (102, 0, 0), 0, 0)), (100, (.iconst (-1), 1, (0, 0, 0), (-1), 0)), (101, (.ireturn, 1, (0, 0, 0), 0, 0)), (102, (.aload_n 0, 1, (0, 0, 0), 0, 0)), (103, (.getfield 13, 3, (12, 1, 0), 0, 1614)), (106, (.sipush 377, 3, (0, 0, 0), 377, 0)), (109, (.iconst 5, 1, (0, 0, 0), 5, 0)), (110, (.iload 4, 2, (0, 0, 0), 0, 0)), (112, (.imul, 1, (0, 0, 0), 0, 0)), (113, (.iadd, 1, (0, 0, 0), 0, 0)), (114, (.iconst 4, 1, (0, 0, 0), 4, 0)), (115, (.iadd, 1, (0, 0, 0), 0, 0)), (116, (.iaload, 1, (0, 0, 0), 0, 0)), (117, (.istore_n 3, 1, (0, 0, 0), 0, 0)), (118, (.iinc 4 1, 3, (0, 0, 0), 1, 0)), (121, (.iinc 5 1, 3, (0, 0, 0), 1, 0)), (124, (.goto (-79), 3, (45, 0, 0), 0, 0)), (127, (.iload_n 3, 1, (0, 0, 0), 0, 0))],
  [(128, (.ireturn, 1, (0, 0, 0), 0, 0))]]
set_option maxRecDepth 10000 in
def zp334 : List (List (Nat × ZI)) := [[(0, (.aload_n 0, 1, (0, 0, 0), 0, 0)), (1, (.iconst 0, 1, (0, 0, 0), 0, 0)), (2, (.putfield 3, 3, (12, 0, 0), 0, 1613)), (5, (.aload_n 0, 1, (0, 0, 0), 0, 0)), (6, (.getfield 13, 3, (12, 1, 0), 0, 1614)), (9, (.bipush 12, 2, (0, 0, 0), 12, 0)), (11, (.iaload, 1, (0, 0, 0), 0, 0)), (12, (.istore_n 2, 1, (0, 0, 0), 0, 0)), (13, (.aload_n 0, 1, (0, 0, 0), 0, 0)), (14, (.getfield 13, 3, (12, 1, 0), 0, 1614)), (17, (.bipush 12, 2, (0, 0, 0), 12, 0)), (19, (.iload_n 1, 1, (0, 0, 0), 0, 0)), (20, (.iastore, 1, (0, 0, 0), 0, 0)), (21, (.iload_n 2, 1, (0, 0, 0), 0, 0)), (22, (.ireturn, 1, (0, 0, 0), 0, 0))]]
set_option maxRecDepth 10000 in
def zp335 : List (List (Nat × ZI)) := [[(0, (.aload_n 0, 1, (0, 0, 0), 0, 0)), (1, (.iconst 0, 1, (0, 0, 0), 0, 0)), (2, (.putfield 3, 3, (12, 0, 0), 0, 1613)), (5, (.iconst 0, 1, (0, 0, 0), 0, 0)), (6, (.istore_n 2, 1, (0, 0, 0), 0, 0)), (7, (.iload_n 1, 1, (0, 0, 0), 0, 0)), (8, (.tableswitch 167 4 14 #[60, 167, 83, 109, 114, 122, 130, 138, 146, 154, 162], 60, (10, 0, 0), 0, 0))],
  [],
  [(68, (.aload_n 0, 1, (0, 0, 0), 0, 0)), (69, (.getfield 13, 3, (12, 1, 0), 0, 1614)), (72, (.iconst 4, 1, (0, 0, 0), 4, 0)), (73, (.iaload, 1, (0, 0, 0), 0, 0)), (74, (.iconst 1, 1, (0, 0, 0), 1, 0)), (75, (.if_icmp .ne 14, 3, (89, 0, 0), 0, 0)), (78, (.aload_n 0, 1, (0, 0, 0), 0, 0)), (79, (.getfield 13, 3, (12, 1, 0), 0, 1614)), (82, (.sipush 777, 3, (0, 0, 0), 777, 0)), (85, (.iaload, 1, (0, 0, 0), 0, 0)), (86, (.goto 4, 3, (90, 0, 0), 0, 0)), (89, (.iconst (-1), 1, (0, 0, 0), (-1), 0)), (90, (.ireturn, 1, (0, 0, 0), 0, 0)), (91, (.iconst 0, 1, (0, 0, 0), 0, 0)), (92, (.istore_n 3, 1, (0, 0, 0), 0, 0)), (93, (.iload_n 3, 1, (0, 0, 0), 0, 0)), (94, (.aload_n 0, 1, (0, 0, 0), 0, 0)), (95, (.invokevirtual 66, 3, (0, 216, 0), 0, 1738))],
  [(98, (.if_icmp .ge 17, 3, (115, 0, 0), 0, 0)), (101, (.iload_n 2, 1, (0, 0, 0), 0, 0)), (102, (.aload_n 0, 1, (0, 0, 0), 0, 0)), (103, (.iload_n 3, 1, (0, 0, 0), 0, 0)), (104, (.invokevirtual 275, 3, (0, 225, 0), 0, 1905)), (107, (.iadd, 1, (0, 0, 0), 0, 0)), (108, (.istore_n 2, 1, (0, 0, 0), 0, 0)), (109, (.iinc 3 1, 3, (0, 0, 0), 1, 0)), (112, (.goto (-19), 3, (93, 0, 0), 0, 0)), (115, (.iload_n 2, 1, (0, 0, 0), 0, 0)), (116, (.ireturn, 1, (0, 0, 0), 0, 0)), (117, (.aload_n 0, 1, (0, 0, 0), 0, 0)), (118, (.invokevirtual 355, 3, (0, 298, 0), 0, 2051)), (121, (.ireturn, 1, (0, 0, 0), 0, 0)), (122, (.aload_n 0, 1, (0, 0, 0), 0, 0)), (123, (.getfield 13, 3, (12, 1, 0), 0, 1614)), (126, (.bipush 6, 2, (0, 0, 0), 6, 0))],
  [(128, (.iaload, 1, (0, 0, 0), 0, 0)), (129, (.ireturn, 1, (0, 0, 0), 0, 0)), (130, (.aload_n 0, 1, (0, 0, 0), 0, 0)), (131, (.getfield 13, 3, (12, 1, 0), 0, 1614)), (134, (.bipush 7, 2, (0, 0, 0), 7, 0)), (136, (.iaload, 1, (0, 0, 0), 0, 0)), (137, (.ireturn, 1, (0, 0, 0), 0, 0)), (138, (.aload_n 0, 1, (0, 0, 0), 0, 0)), (139, (.getfield 13, 3, (12, 1, 0), 0, 1614)), (142, (.bipush 8, 2, (0, 0, 0), 8, 0)), (144, (.iaload, 1, (0, 0, 0), 0, 0)), (145, (.ireturn, 1, (0, 0, 0), 0, 0)), (146, (.aload_n 0, 1, (0, 0, 0), 0, 0)), (147, (.getfield 13, 3, (12, 1, 0), 0, 1614)), (150, (.bipush 9, 2, (0, 0, 0), 9, 0)), (152, (.iaload, 1, (0, 0, 0), 0, 0)), (153, (.ireturn, 1, (0, 0, 0), 0, 0)), (154, (.aload_n 0, 1, (0, 0, 0), 0, 0)), (155, (.getfield 13, 3, (12, 1, 0), 0, 1614)), (158, (.bipush 10, 2, (0, 0, 0), 10, 0))],
  [(160, (.iaload, 1, (0, 0, 0), 0, 0)), (161, (.ireturn, 1, (0, 0, 0), 0, 0)), (162, (.aload_n 0, 1, (0, 0, 0), 0, 0)), (163, (.getfield 13, 3, (12, 1, 0), 0, 1614)), (166, (.bipush 11, 2, (0, 0, 0), 11, 0)), (168, (.iaload, 1, (0, 0, 0), 0, 0)), (169, (.ireturn, 1, (0, 0, 0), 0, 0)), (170, (.aload_n 0, 1, (0, 0, 0), 0, 0)), (171, (.getfield 49, 3, (12, 7, 0), 0, 1620)), (174, (.ireturn, 1, (0, 0, 0), 0, 0)), (175, (.iload_n 1, 1, (0, 0, 0), 0, 0)), (176, (.iconst 0, 1, (0, 0, 0), 0, 0)), (177, (.iconst 5, 1, (0, 0, 0), 5, 0)), (178, (.invokestatic 70, 3, (0, 209, 0), 0, 1898)), (181, (.ifCond .eq 12, 3, (193, 0, 0), 0, 0)), (184, (.aload_n 0, 1, (0, 0, 0), 0, 0)), (185, (.getfield 13, 3, (12, 1, 0), 0, 1614)), (188, (.iload_n 1, 1, (0, 0, 0), 0, 0)), (189, (.iaload, 1, (0, 0, 0), 0, 0)), (190, (.goto 4, 3, (194, 0, 0), 0, 0))],
  [(193, (.iconst (-1), 1, (0, 0, 0), (-1), 0)), (194, (.ireturn, 1, (0, 0, 0), 0, 0))]]
set_option maxRecDepth 10000 in
def zp336 : List (List (Nat × ZI)) := [[(0, (.iload_n 0, 1, (0, 0, 0), 0, 0)), (1, (.iload_n 1, 1, (0, 0, 0), 0, 0)), (2, (.irem, 1, (0, 0, 0), 0, 0)), (3, (.istore_n 2, 1, (0, 0, 0), 0, 0)), (4, (.iload_n 0, 1, (0, 0, 0), 0, 0)), (5, (.iload_n 1, 1, (0, 0, 0), 0, 0)), (6, (.ixor, 1, (0, 0, 0), 0, 0)), (7, (.ifCond .ge 11, 3, (18, 0, 0), 0, 0)), (10, (.iload_n 2, 1, (0, 0, 0), 0, 0)), (11, (.ifCond .eq 7, 3, (18, 0, 0), 0, 0)), (14, (.iload_n 2, 1, (0, 0, 0), 0, 0)), (15, (.iload_n 1, 1, (0, 0, 0), 0, 0)), (16, (.iadd, 1, (0, 0, 0), 0, 0)), (17, (.ireturn, 1, (0, 0, 0), 0, 0)), (18, (.iload_n 2, 1, (0, 0, 0), 0, 0)), (19, (.ireturn, 1, (0, 0, 0), 0, 0))]]
set_option maxRecDepth 10000 in
def zp337 : List (List (Nat × ZI)) := [[(0, (.iload_n 0, 1, (0, 0, 0), 0, 0)), (1, (.iload_n 0, 1, (0, 0, 0), 0, 0)), (2, (.iconst 1, 1, (0, 0, 0), 1, 0)), (3, (.iushr, 1, (0, 0, 0), 0, 0)), (4, (.ldc_w 265, 3, (0, 0, 0), 1431655765, 1373)), (7, (.iand, 1, (0, 0, 0), 0, 0)), (8, (.isub, 1, (0, 0, 0), 0, 0)), (9, (.istore_n 0, 1, (0, 0, 0), 0, 0)), (10, (.iload_n 0, 1, (0, 0, 0), 0, 0)), (11, (.ldc_w 266, 3, (0, 0, 0), 858993459, 1374)), (14, (.iand, 1, (0, 0, 0), 0, 0)), (15, (.iload_n 0, 1, (0, 0, 0), 0, 0)), (16, (.iconst 2, 1, (0, 0, 0), 2, 0)), (17, (.iushr, 1, (0, 0, 0), 0, 0)), (18, (.ldc_w 266, 3, (0, 0, 0), 858993459, 1374)), (21, (.iand, 1, (0, 0, 0), 0, 0)), (22, (.iadd, 1, (0, 0, 0), 0, 0)), (23, (.istore_n 0, 1, (0, 0, 0), 0, 0)), (24, (.iload_n 0, 1, (0, 0, 0), 0, 0)), (25, (.iload_n 0, 1, (0, 0, 0), 0, 0)), (26, (.iconst 4, 1, (0, 0, 0), 4, 0)), (27, (.iushr, 1, (0, 0, 0), 0, 0)), (28, (.iadd, 1, (0, 0, 0), 0, 0)), (29, (.ldc_w 267, 3, (0, 0, 0), 252645135, 1375))],
  [(32, (.iand, 1, (0, 0, 0), 0, 0)), (33, (.istore_n 0, 1, (0, 0, 0), 0, 0)), (34, (.iload_n 0, 1, (0, 0, 0), 0, 0)), (35, (.iload_n 0, 1, (0, 0, 0), 0, 0)), (36, (.bipush 8, 2, (0, 0, 0), 8, 0)), (38, (.iushr, 1, (0, 0, 0), 0, 0)), (39, (.iadd, 1, (0, 0, 0), 0, 0)), (40, (.istore_n 0, 1, (0, 0, 0), 0, 0)), (41, (.iload_n 0, 1, (0, 0, 0), 0, 0)), (42, (.iload_n 0, 1, (0, 0, 0), 0, 0)), (43, (.bipush 16, 2, (0, 0, 0), 16, 0)), (45, (.iushr, 1, (0, 0, 0), 0, 0)), (46, (.iadd, 1, (0, 0, 0), 0, 0)), (47, (.istore_n 0, 1, (0, 0, 0), 0, 0)), (48, (.iload_n 0, 1, (0, 0, 0), 0, 0)), (49, (.bipush 63, 2, (0, 0, 0), 63, 0)), (51, (.iand, 1, (0, 0, 0), 0, 0)), (52, (.ireturn, 1, (0, 0, 0), 0, 0))]]
def zg0 : List (List (List (Nat × ZI))) := [zp0, zp1, zp2, zp3, zp4, zp5, zp6, zp7, zp8, zp9, zp10, zp11, zp12, zp13, zp14, zp15]
def zg1 : List (List (List (Nat × ZI))) := [zp16, zp17, zp18, zp19, zp20, zp21, zp22, zp23, zp24, zp25, zp26, zp27, zp28, zp29, zp30, zp31]
def zg2 : List (List (List (Nat × ZI))) := [zp32, zp33, zp34, zp35, zp36, zp37, zp38, zp39, zp40, zp41, zp42, zp43, zp44, zp45, zp46, zp47]
def zg3 : List (List (List (Nat × ZI))) := [zp48, zp49, zp50, zp51, zp52, zp53, zp54, zp55, zp56, zp57, zp58, zp59, zp60, zp61, zp62, zp63]
def zg4 : List (List (List (Nat × ZI))) := [zp64, zp65, zp66, zp67, zp68, zp69, zp70, zp71, zp72, zp73, zp74, zp75, zp76, zp77, zp78, zp79]
def zg5 : List (List (List (Nat × ZI))) := [zp80, zp81, zp82, zp83, zp84, zp85, zp86, zp87, zp88, zp89, zp90, zp91, zp92, zp93, zp94, zp95]
def zg6 : List (List (List (Nat × ZI))) := [zp96, zp97, zp98, zp99, zp100, zp101, zp102, zp103, zp104, zp105, zp106, zp107, zp108, zp109, zp110, zp111]
def zg7 : List (List (List (Nat × ZI))) := [zp112, zp113, zp114, zp115, zp116, zp117, zp118, zp119, zp120, zp121, zp122, zp123, zp124, zp125, zp126, zp127]
def zg8 : List (List (List (Nat × ZI))) := [zp128, zp129, zp130, zp131, zp132, zp133, zp134, zp135, zp136, zp137, zp138, zp139, zp140, zp141, zp142, zp143]
def zg9 : List (List (List (Nat × ZI))) := [zp144, zp145, zp146, zp147, zp148, zp149, zp150, zp151, zp152, zp153, zp154, zp155, zp156, zp157, zp158, zp159]
def zg10 : List (List (List (Nat × ZI))) := [zp160, zp161, zp162, zp163, zp164, zp165, zp166, zp167, zp168, zp169, zp170, zp171, zp172, zp173, zp174, zp175]
def zg11 : List (List (List (Nat × ZI))) := [zp176, zp177, zp178, zp179, zp180, zp181, zp182, zp183, zp184, zp185, zp186, zp187, zp188, zp189, zp190, zp191]
def zg12 : List (List (List (Nat × ZI))) := [zp192, zp193, zp194, zp195, zp196, zp197, zp198, zp199, zp200, zp201, zp202, zp203, zp204, zp205, zp206, zp207]
def zg13 : List (List (List (Nat × ZI))) := [zp208, zp209, zp210, zp211, zp212, zp213, zp214, zp215, zp216, zp217, zp218, zp219, zp220, zp221, zp222, zp223]
def zg14 : List (List (List (Nat × ZI))) := [zp224, zp225, zp226, zp227, zp228, zp229, zp230, zp231, zp232, zp233, zp234, zp235, zp236, zp237, zp238, zp239]
def zg15 : List (List (List (Nat × ZI))) := [zp240, zp241, zp242, zp243, zp244, zp245, zp246, zp247, zp248, zp249, zp250, zp251, zp252, zp253, zp254, zp255]
def zg16 : List (List (List (Nat × ZI))) := [zp256, zp257, zp258, zp259, zp260, zp261, zp262, zp263, zp264, zp265, zp266, zp267, zp268, zp269, zp270, zp271]
def zg17 : List (List (List (Nat × ZI))) := [zp272, zp273, zp274, zp275, zp276, zp277, zp278, zp279, zp280, zp281, zp282, zp283, zp284, zp285, zp286, zp287]
def zg18 : List (List (List (Nat × ZI))) := [zp288, zp289, zp290, zp291, zp292, zp293, zp294, zp295, zp296, zp297, zp298, zp299, zp300, zp301, zp302, zp303]
def zg19 : List (List (List (Nat × ZI))) := [zp304, zp305, zp306, zp307, zp308, zp309, zp310, zp311, zp312, zp313, zp314, zp315, zp316, zp317, zp318, zp319]
def zg20 : List (List (List (Nat × ZI))) := [zp320, zp321, zp322, zp323, zp324, zp325, zp326, zp327, zp328, zp329, zp330, zp331, zp332, zp333, zp334, zp335]
def zg21 : List (List (List (Nat × ZI))) := [zp336, zp337]
def zprog : List (List (List (List (Nat × ZI)))) := [zg0, zg1, zg2, zg3, zg4, zg5, zg6, zg7, zg8, zg9, zg10, zg11, zg12, zg13, zg14, zg15, zg16, zg17, zg18, zg19, zg20, zg21]
def zfetch (mi pc : Nat) : Option ZI := match zat zprog (mi / 16) with
  | none => none
  | some g => (match zat g (mi % 16) with
    | none => none
    | some cs => (match zat cs (pc / 32) with
      | none => none
      | some l => zlook l pc))
end
section
/-- a method: how many arguments, locals, static, its class, its answer (0 none, 1 int, 2 boolean), whether it has handlers -/
def zmi : List (Nat × Nat × Nat × Nat × Nat × Nat) := [(1, 7, 1, 99, 2, 0), (2, 3, 1, 99, 1, 1), (2, 3, 1, 99, 1, 1), (4, 5, 1, 99, 1, 1), (4, 5, 1, 99, 1, 1), (4, 5, 1, 99, 1, 1), (4, 5, 1, 99, 1, 1), (4, 5, 1, 99, 1, 1), (5, 6, 1, 99, 1, 1), (3, 4, 1, 99, 1, 1), (3, 4, 1, 99, 1, 1), (3, 4, 1, 99, 1, 1), (4, 5, 1, 99, 1, 1), (4, 5, 1, 99, 1, 1), (4, 5, 1, 99, 1, 1), (4, 5, 1, 99, 1, 1), (5, 6, 1, 99, 1, 1), (5, 6, 1, 99, 1, 1), (4, 5, 1, 99, 1, 1), (4, 5, 1, 99, 1, 1), (4, 5, 1, 99, 1, 1), (4, 5, 1, 99, 1, 1), (3, 4, 1, 99, 1, 1), (3, 4, 1, 99, 1, 1), (4, 5, 1, 99, 1, 1), (5, 6, 1, 99, 1, 1), (4, 5, 1, 99, 1, 1), (4, 5, 1, 99, 1, 1), (3, 4, 1, 99, 1, 1), (4, 5, 1, 99, 1, 1), (3, 4, 1, 99, 1, 1), (4, 5, 1, 99, 1, 1), (3, 4, 1, 99, 1, 1), (4, 5, 1, 99, 1, 1), (4, 5, 1, 99, 1, 1), (2, 3, 1, 99, 1, 1), (4, 5, 1, 99, 1, 1), (4, 5, 1, 99, 1, 1), (1, 1, 0, 11, 0, 0), (6, 6, 0, 11, 1, 0), (2, 2, 0, 11, 2, 0), (1, 1, 0, 11, 1, 0), (1, 1, 0, 11, 1, 0), (1, 1, 0, 11, 1, 0), (3, 3, 0, 11, 1, 0), (3, 3, 0, 11, 1, 0), (3, 3, 0, 11, 1, 0), (3, 3, 0, 11, 1, 0), (3, 3, 0, 11, 1, 0), (4, 4, 0, 11, 1, 0), (2, 4, 0, 11, 1, 0), (2, 2, 0, 11, 1, 0), (2, 2, 0, 11, 1, 0), (3, 4, 0, 11, 1, 0), (3, 4, 0, 11, 1, 0), (3, 4, 0, 11, 1, 0), (3, 3, 0, 11, 1, 0), (4, 4, 0, 11, 1, 0), (4, 4, 0, 11, 1, 0), (3, 3, 0, 11, 1, 0), (3, 3, 0, 11, 1, 0), (3, 4, 0, 11, 1, 0), (3, 3, 0, 11, 1, 0), (2, 2, 0, 11, 1, 0), (1, 1, 0, 11, 1, 0), (2, 2, 0, 11, 1, 0), (3, 3, 0, 11, 1, 0), (4, 4, 0, 11, 1, 0), (3, 3, 0, 11, 1, 0), (3, 3, 0, 11, 1, 0), (2, 2, 0, 11, 1, 0), (3, 4, 0, 11, 1, 0), (2, 2, 0, 11, 1, 0), (3, 5, 0, 11, 1, 0), (1, 1, 0, 11, 1, 0), (2, 2, 0, 11, 1, 0), (3, 3, 0, 11, 1, 0), (3, 3, 0, 11, 1, 0), (1, 4, 0, 11, 1, 0), (2, 4, 0, 11, 1, 0), (3, 3, 0, 11, 1, 0), (3, 3, 0, 11, 1, 0), (2, 3, 0, 11, 1, 0), (1, 1, 0, 11, 2, 0), (1, 1, 0, 11, 0, 0), (1, 1, 0, 11, 2, 0), (2, 2, 0, 11, 1, 0), (2, 2, 0, 11, 0, 0), (2, 2, 0, 11, 0, 0), (3, 3, 1, 11, 0, 0), (1, 1, 0, 0, 0, 0), (2, 2, 0, 0, 0, 0), (2, 4, 0, 0, 1, 0), (2, 4, 0, 0, 1, 0), (1, 3, 0, 0, 1, 0), (1, 3, 0, 0, 1, 0), (2, 2, 1, 0, 1, 0), (1, 1, 0, 0, 1, 0), (3, 4, 0, 0, 0, 0), (4, 4, 0, 0, 0, 0), (3, 6, 0, 0, 1, 0), (2, 2, 0, 0, 1, 0), (3, 6, 0, 0, 1, 0), (4, 7, 0, 0, 1, 0), (4, 8, 0, 0, 0, 0), (3, 6, 0, 0, 1, 0), (3, 5, 0, 0, 1, 0), (1, 1, 0, 1, 0, 0), (2, 2, 0, 1, 0, 0), (6, 7, 0, 1, 0, 0), (3, 3, 0, 1, 1, 0), (2, 4, 0, 1, 1, 0), (3, 6, 0, 1, 1, 0), (1, 1, 0, 2, 0, 0), (4, 5, 0, 2, 0, 0), (5, 5, 0, 2, 1, 0), (3, 3, 0, 2, 1, 0), (3, 5, 0, 2, 1, 0), (4, 7, 0, 2, 1, 0), (3, 3, 0, 2, 1, 0), (2, 3, 0, 2, 0, 0), (2, 4, 0, 2, 1, 0), (2, 4, 0, 2, 1, 0), (2, 7, 0, 2, 1, 0), (3, 5, 0, 2, 1, 0), (3, 3, 0, 2, 1, 0), (4, 6, 0, 2, 1, 0), (4, 6, 0, 2, 1, 0), (1, 1, 0, 3, 0, 0), (4, 5, 0, 3, 1, 0), (2, 2, 0, 3, 2, 0), (2, 2, 0, 3, 2, 0), (4, 4, 0, 3, 2, 0), (2, 2, 0, 3, 2, 0), (4, 4, 0, 3, 2, 0), (2, 3, 0, 3, 2, 0), (2, 2, 0, 3, 2, 0), (2, 6, 0, 3, 2, 0), (2, 2, 0, 3, 2, 0), (2, 3, 0, 3, 2, 0), (2, 2, 0, 3, 2, 0), (2, 2, 0, 3, 2, 0), (2, 2, 0, 3, 2, 0), (2, 2, 0, 3, 2, 0), (1, 1, 0, 4, 0, 0), (4, 4, 0, 4, 0, 0), (4, 4, 0, 4, 0, 0), (1, 1, 0, 5, 0, 0), (2, 2, 0, 5, 0, 0), (1, 1, 0, 5, 0, 0), (3, 3, 0, 5, 0, 0), (1, 1, 0, 5, 0, 0), (2, 2, 0, 5, 0, 0), (3, 5, 0, 5, 1, 0), (2, 2, 1, 5, 1, 0), (3, 10, 0, 5, 2, 0), (1, 1, 0, 6, 0, 0), (2, 3, 0, 6, 1, 0), (2, 2, 0, 6, 2, 0), (2, 3, 0, 6, 2, 0), (3, 6, 0, 6, 2, 0), (3, 5, 0, 6, 2, 0), (3, 3, 0, 6, 2, 0), (3, 3, 0, 6, 2, 0), (2, 6, 0, 6, 2, 0), (1, 1, 0, 7, 0, 0), (1, 1, 0, 7, 0, 0), (3, 3, 0, 7, 0, 0), (3, 4, 0, 7, 2, 0), (1, 1, 0, 8, 0, 0), (2, 2, 0, 8, 0, 0), (3, 3, 0, 8, 2, 0), (1, 1, 0, 8, 1, 0), (3, 3, 0, 8, 1, 0), (4, 4, 0, 8, 1, 0), (2, 4, 0, 8, 1, 0), (2, 4, 0, 8, 1, 0), (3, 7, 0, 8, 1, 0), (1, 1, 0, 9, 0, 0), (2, 3, 0, 9, 0, 0), (1, 1, 0, 9, 0, 0), (1, 2, 0, 9, 0, 0), (2, 2, 0, 9, 2, 0), (2, 2, 0, 9, 2, 0), (2, 2, 0, 9, 2, 0), (2, 6, 0, 9, 1, 0), (3, 5, 0, 9, 2, 0), (2, 2, 0, 9, 1, 0), (2, 2, 0, 9, 1, 0), (1, 1, 0, 10, 0, 0), (3, 4, 0, 10, 1, 0), (5, 6, 0, 10, 1, 0), (6, 7, 0, 10, 1, 0), (6, 11, 0, 10, 1, 0), (5, 10, 0, 10, 1, 0), (5, 8, 0, 10, 1, 0), (4, 10, 0, 10, 1, 0), (3, 5, 0, 10, 1, 0), (5, 6, 0, 10, 1, 0), (6, 8, 0, 10, 2, 0), (4, 5, 0, 10, 1, 0), (3, 4, 0, 10, 1, 0), (4, 5, 0, 10, 1, 0), (5, 9, 0, 10, 1, 0), (6, 8, 0, 10, 1, 0), (5, 10, 0, 10, 1, 0), (5, 8, 0, 10, 1, 0), (4, 9, 0, 10, 1, 0), (3, 3, 0, 12, 2, 0), (3, 3, 1, 12, 2, 0), (2, 2, 1, 12, 2, 0), (1, 1, 0, 12, 0, 0), (1, 2, 0, 12, 0, 0), (1, 2, 0, 12, 2, 0), (1, 2, 0, 12, 0, 0), (1, 2, 0, 12, 2, 0), (1, 1, 0, 12, 1, 0), (1, 1, 0, 12, 1, 0), (2, 2, 1, 12, 1, 0), (2, 2, 1, 12, 1, 0), (3, 3, 0, 12, 1, 0), (3, 3, 0, 12, 1, 0), (4, 4, 0, 12, 0, 0), (2, 2, 0, 12, 1, 0), (2, 4, 0, 12, 1, 0), (2, 2, 0, 12, 1, 0), (2, 2, 0, 12, 1, 0), (2, 2, 0, 12, 2, 0), (2, 2, 0, 12, 2, 0), (2, 2, 0, 12, 2, 0), (3, 7, 0, 12, 2, 0), (2, 2, 0, 12, 1, 0), (6, 7, 0, 12, 1, 0), (2, 2, 0, 12, 2, 0), (3, 3, 0, 12, 2, 0), (1, 1, 0, 12, 0, 0), (1, 1, 0, 12, 0, 0), (2, 4, 0, 12, 2, 0), (2, 2, 0, 12, 2, 0), (2, 2, 0, 12, 2, 0), (4, 5, 0, 12, 1, 0), (3, 3, 0, 12, 1, 0), (1, 1, 0, 12, 1, 0), (1, 1, 0, 12, 1, 0), (1, 1, 0, 12, 0, 0), (1, 1, 0, 12, 1, 0), (1, 1, 0, 12, 1, 0), (1, 5, 0, 12, 2, 0), (1, 4, 0, 12, 2, 0), (1, 5, 0, 12, 2, 0), (1, 4, 0, 12, 2, 0), (1, 4, 0, 12, 2, 0), (1, 3, 0, 12, 2, 0), (3, 5, 0, 12, 2, 0), (1, 1, 0, 12, 2, 0), (3, 3, 0, 12, 0, 0), (1, 2, 0, 12, 2, 0), (1, 1, 0, 12, 2, 0), (1, 3, 0, 12, 2, 0), (1, 2, 0, 12, 2, 0), (1, 1, 0, 12, 2, 0), (1, 1, 0, 12, 2, 0), (2, 3, 0, 12, 2, 0), (3, 3, 0, 12, 2, 0), (2, 3, 0, 12, 1, 0), (1, 3, 0, 12, 1, 0), (1, 3, 0, 12, 1, 0), (6, 6, 0, 12, 1, 0), (5, 12, 0, 12, 2, 0), (4, 6, 0, 12, 1, 0), (2, 4, 0, 12, 1, 0), (2, 4, 0, 12, 1, 0), (3, 3, 0, 12, 1, 0), (3, 3, 0, 12, 1, 0), (2, 4, 0, 12, 1, 0), (3, 3, 0, 12, 1, 0), (3, 3, 0, 12, 1, 0), (3, 3, 0, 12, 1, 0), (4, 4, 0, 12, 1, 0), (4, 7, 0, 12, 1, 0), (3, 5, 0, 12, 1, 0), (5, 6, 0, 12, 0, 0), (2, 9, 0, 12, 1, 0), (1, 3, 0, 12, 1, 0), (2, 4, 0, 12, 1, 0), (2, 2, 0, 12, 1, 0), (2, 2, 0, 12, 1, 0), (2, 2, 0, 12, 1, 0), (2, 2, 0, 12, 1, 0), (3, 4, 0, 12, 1, 0), (3, 3, 0, 12, 1, 0), (3, 3, 0, 12, 1, 0), (3, 3, 0, 12, 1, 0), (1, 2, 0, 12, 0, 0), (1, 2, 0, 12, 0, 0), (2, 3, 0, 12, 0, 0), (1, 3, 0, 12, 1, 0), (1, 3, 0, 12, 1, 0), (1, 3, 0, 12, 1, 0), (3, 4, 0, 12, 1, 0), (3, 4, 0, 12, 1, 0), (4, 5, 0, 12, 1, 0), (3, 3, 0, 12, 2, 0), (4, 8, 0, 12, 1, 0), (3, 8, 0, 12, 1, 0), (4, 4, 0, 12, 2, 0), (3, 6, 0, 12, 1, 0), (3, 11, 0, 12, 1, 0), (1, 2, 0, 12, 0, 0), (4, 6, 0, 12, 2, 0), (3, 4, 0, 12, 1, 0), (2, 3, 0, 12, 1, 0), (1, 2, 0, 12, 1, 0), (2, 3, 0, 12, 1, 0), (3, 7, 0, 12, 1, 0), (4, 6, 0, 12, 1, 0), (4, 4, 0, 12, 1, 0), (3, 8, 0, 12, 1, 0), (3, 6, 0, 12, 1, 0), (2, 7, 0, 12, 1, 0), (2, 5, 0, 12, 1, 0), (3, 5, 0, 12, 1, 0), (2, 2, 0, 12, 1, 0), (3, 4, 0, 12, 1, 0), (1, 6, 0, 12, 1, 0), (2, 4, 0, 12, 1, 0), (3, 7, 0, 12, 1, 0), (3, 4, 0, 12, 1, 0), (3, 4, 0, 12, 1, 0), (2, 2, 0, 12, 1, 0), (1, 5, 0, 12, 1, 0), (2, 6, 0, 12, 1, 0), (3, 3, 0, 12, 1, 0), (3, 6, 0, 12, 1, 0), (2, 3, 0, 12, 1, 0), (2, 4, 0, 12, 1, 0), (2, 3, 1, 99, 1, 0), (1, 1, 1, 99, 1, 0)]
/-- handlers: from, to, at, which exception -/
def zhs : List (List (Nat × Nat × Nat × Nat)) := [[], [(0, 8, 11, 0), (0, 8, 14, 1)], [(0, 8, 11, 0)], [(0, 10, 13, 2), (0, 10, 17, 3)], [(0, 10, 13, 2)], [(0, 10, 13, 2), (0, 10, 17, 3)], [(0, 10, 13, 2)], [(0, 10, 13, 2)], [(0, 12, 15, 2), (0, 12, 19, 3)], [(0, 9, 12, 0)], [(0, 9, 12, 2)], [(0, 9, 12, 2)], [(0, 10, 13, 2), (0, 10, 17, 0)], [(0, 10, 13, 2), (0, 10, 17, 0)], [(0, 10, 13, 2), (0, 10, 17, 0)], [(0, 10, 13, 0), (0, 10, 17, 3)], [(0, 12, 15, 2), (0, 12, 19, 0)], [(0, 12, 15, 0)], [(0, 10, 13, 0)], [(0, 10, 13, 0)], [(0, 10, 13, 0)], [(0, 10, 13, 0)], [(0, 9, 12, 0)], [(0, 9, 12, 0)], [(0, 10, 13, 2), (0, 10, 17, 0)], [(0, 12, 15, 2), (0, 12, 19, 0)], [(0, 10, 13, 2), (0, 10, 17, 0)], [(0, 10, 13, 0)], [(0, 9, 12, 0)], [(0, 10, 13, 2)], [(0, 9, 12, 2)], [(0, 10, 13, 2)], [(0, 9, 12, 0)], [(0, 10, 13, 2)], [(0, 10, 13, 2), (0, 10, 17, 0)], [(0, 8, 11, 0)], [(0, 10, 13, 3)], [(0, 10, 13, 2), (0, 10, 17, 0)]]
def zsws : List (List (Int32 × Nat) × Nat) := [([(0, 248), (1, 321), (2, 346), (3, 362), (4, 378), (5, 391), (6, 431), (7, 471), (8, 511), (9, 551), (10, 591), (11, 643), (12, 671), (13, 699), (14, 727), (15, 767), (16, 807), (17, 847), (18, 887), (19, 939), (20, 1007), (21, 1047), (22, 1087), (23, 1143), (24, 1183), (25, 1211), (26, 1224), (27, 1252), (28, 1292), (29, 1344), (30, 1384), (31, 1440), (32, 1468), (33, 1524), (34, 1552), (35, 1592), (36, 1605), (37, 1633), (38, 1673), (39, 1713), (40, 1729), (41, 1754), (42, 1794), (43, 1834), (44, 1859), (45, 1872), (46, 1883), (47, 1896)], 1921),
  ([(0, 48), (1, 61), (2, 74), (3, 84), (4, 93), (5, 106), (6, 119)], 132),
  ([(0, 48), (1, 69), (2, 78), (3, 88), (4, 98), (5, 111), (6, 121)], 133),
  ([(0, 76), (1, 87), (2, 98), (3, 109), (4, 120), (5, 131), (6, 139), (7, 147), (8, 155), (9, 163), (10, 171), (11, 179), (12, 187), (13, 195), (14, 203)], 211),
  ([(0, 56), (1, 62), (2, 68), (3, 74), (4, 80), (5, 86), (6, 92), (7, 98), (8, 104)], 110),
  ([(0, 28), (1, 36), (2, 39)], 41),
  ([(1021, 172), (1022, 188), (1023, 212), (1024, 236)], 252),
  ([(0, 44), (1, 47), (2, 56)], 64),
  ([(0, 48), (1, 50), (2, 53), (3, 68), (4, 75), (5, 82), (6, 90), (7, 107)], 127),
  ([(0, 84), (1, 90), (2, 96), (3, 103), (4, 110), (5, 117)], 124),
  ([(4, 68), (5, 175), (6, 91), (7, 117), (8, 122), (9, 130), (10, 138), (11, 146), (12, 154), (13, 162), (14, 170)], 175)]
/-- the fields of an object: a number, or a reference -/
def zcsh : List (List (Option (Option Nat))) := [[some none, some none, some none, some none, some none, some none, none, none, none, none, none, none, none], [some none, none, none], [some none, some none, some none], [some none, some none, none, none, none, none], [some none, some none, some none, some none, none], [none, none, some none, some none, some none, some none, some none, some none], [some none, none], [some none, some none, none, none], [none, none, none, none, some none, some none, some none, some none, some none], [some none, none, none, none, none, none], [some none, some none], [some none, some none, some none, some none, some none, some none, some none, some none, some none, none], [none, some none, some none, some none, some none, some none, none, none, some none, none, none, none, none, none, none, some none, none, some none, some none]]
/-- the bytes of the String constants -/
def zstrs : List (List Int32) := [[114, 111, 111, 109, 32, 100, 111, 111, 114, 32, 112, 101, 114, 115, 111, 110, 32, 108, 111, 97, 100, 32, 115, 97, 110, 100, 32, 116, 111, 111, 108, 32, 107, 101, 101, 112, 115, 32, 119, 101, 116, 32, 99, 108, 111, 103],
  [111, 117, 116, 32, 115, 116, 111, 110, 101, 32, 99, 97, 114, 112, 101, 116, 32, 98, 101, 100, 32, 100, 114, 97, 105, 110],
  [116, 104, 101, 32, 116, 101, 120, 116, 32, 111, 102, 32, 116, 104, 101, 32, 104, 111, 117, 115, 101, 32, 105, 115, 32, 119, 114, 111, 110, 103],
  [116, 104, 101, 114, 101, 32, 97, 114, 101, 32, 116, 119, 101, 108, 118, 101, 32, 116, 101, 120, 116, 115],
  [98, 114, 105, 110, 103, 32, 100, 114, 111, 112, 32, 112, 105, 99, 107, 32, 115, 119, 101, 101, 112],
  [105, 102],
  [110, 111, 116],
  [111, 117, 116, 32, 115, 116, 111, 110, 101, 32, 99, 97, 114, 112, 101, 116, 32, 98, 101, 100, 32, 100, 114, 97, 105, 110],
  [119, 101, 116],
  [112, 101, 114, 115, 111, 110, 32, 114, 111, 111, 109, 32, 108, 111, 97, 100, 32, 104, 101, 114, 101, 32, 114, 111, 117, 110, 100, 32, 112, 97, 114, 116],
  [97, 110, 100],
  [111, 114],
  [116, 104, 101, 32, 116, 101, 120, 116, 32, 111, 102, 32, 116, 104, 101, 32, 108, 97, 119, 32, 105, 115, 32, 119, 114, 111, 110, 103],
  [116, 104, 101, 114, 101, 32, 105, 115, 32, 110, 111, 32, 115, 117, 99, 104, 32, 114, 111, 111, 109],
  [97, 32, 114, 111, 111, 109, 32, 116, 101, 108, 108, 115, 32, 48, 32, 116, 111, 32, 54],
  [116, 104, 101, 114, 101, 32, 105, 115, 32, 110, 111, 32, 115, 117, 99, 104, 32, 112, 101, 114, 115, 111, 110],
  [97, 32, 112, 101, 114, 115, 111, 110, 32, 116, 101, 108, 108, 115, 32, 48, 32, 116, 111, 32, 54],
  [97, 32, 114, 117, 108, 101, 32, 116, 101, 108, 108, 115, 32, 48, 32, 116, 111, 32, 50],
  [116, 104, 101, 32, 110, 117, 109, 98, 101, 114, 32, 105, 115, 32, 110, 111, 110, 101],
  [97, 32, 116, 114, 105, 97, 108, 32, 116, 101, 108, 108, 115, 32, 48, 32, 116, 111, 32, 51],
  [98, 111, 116, 104, 32, 97, 114, 101, 32, 111, 110, 101],
  [116, 104, 101, 32, 116, 97, 112, 101, 32, 116, 101, 108, 108, 115, 32, 110, 111, 32, 114, 111, 111, 109, 115, 32, 97, 110, 100, 32, 114, 111, 117, 110, 100, 115],
  [97, 32, 114, 111, 119, 32, 116, 101, 108, 108, 115, 32, 48, 32, 116, 111, 32, 52],
  [114, 111, 111, 109],
  [111, 117, 116],
  [115, 116, 111, 110, 101],
  [99, 97, 114, 112, 101, 116],
  [98, 101, 100],
  [100, 114, 97, 105, 110],
  [100, 111, 111, 114],
  [112, 101, 114, 115, 111, 110],
  [108, 111, 97, 100],
  [115, 97, 110, 100],
  [116, 111, 111, 108],
  [107, 101, 101, 112, 115],
  [119, 101, 116],
  [99, 108, 111, 103],
  [98, 114, 105, 110, 103],
  [100, 114, 111, 112],
  [112, 105, 99, 107],
  [115, 119, 101, 101, 112],
  [105, 102],
  [110, 111, 116],
  [104, 101, 114, 101],
  [114, 111, 117, 110, 100],
  [112, 97, 114, 116],
  [97, 110, 100],
  [111, 114]]
def zsref : List (String × Nat × String) := [("SandHouse$HouseReader", 67, "room door person load sand tool keeps wet clog"), ("SandHouse$HouseReader", 117, "out stone carpet bed drain"), ("SandHouse", 93, "the text of the house is wrong"), ("SandHouse", 105, "there are twelve texts"), ("SandHouse$LawReader", 47, "bring drop pick sweep"), ("SandHouse$LawReader", 67, "if"), ("SandHouse$LawReader", 91, "not"), ("SandHouse$LawReader", 99, "out stone carpet bed drain"), ("SandHouse$LawReader", 101, "wet"), ("SandHouse$LawReader", 106, "person room load here round part"), ("SandHouse$LawReader", 87, "and"), ("SandHouse$LawReader", 89, "or"), ("SandHouse", 123, "the text of the law is wrong"), ("SandHouse", 397, "there is no such room"), ("SandHouse", 167, "a room tells 0 to 6"), ("SandHouse", 400, "there is no such person"), ("SandHouse", 198, "a person tells 0 to 6"), ("SandHouse", 203, "a rule tells 0 to 2"), ("SandHouse", 402, "the number is none"), ("SandHouse", 230, "a trial tells 0 to 3"), ("SandHouse", 307, "both are one"), ("SandHouse", 320, "the tape tells no rooms and rounds"), ("SandHouse", 338, "a row tells 0 to 4"), ("SandHouseModel", 157, "room"), ("SandHouseModel", 120, "out"), ("SandHouseModel", 122, "stone"), ("SandHouseModel", 124, "carpet"), ("SandHouseModel", 126, "bed"), ("SandHouseModel", 128, "drain"), ("SandHouseModel", 163, "door"), ("SandHouseModel", 168, "person"), ("SandHouseModel", 173, "load"), ("SandHouseModel", 178, "sand"), ("SandHouseModel", 183, "tool"), ("SandHouseModel", 188, "keeps"), ("SandHouseModel", 193, "wet"), ("SandHouseModel", 195, "clog"), ("SandHouseModel", 245, "bring"), ("SandHouseModel", 247, "drop"), ("SandHouseModel", 249, "pick"), ("SandHouseModel", 251, "sweep"), ("SandHouseModel", 253, "if"), ("SandHouseModel", 224, "not"), ("SandHouseModel", 205, "here"), ("SandHouseModel", 207, "round"), ("SandHouseModel", 209, "part"), ("SandHouseModel", 238, "and"), ("SandHouseModel", 243, "or")]
def zldI (k : List Value → Option zR) (ls : zLs) (i : Nat) (st : List Value) : Option zR := match zat ls i with
  | some (some (.int x)) => k (.int x :: st)
  | _ => none
def zldJ (k : List Value → Option zR) (ls : zLs) (i : Nat) (st : List Value) : Option zR := match zat ls i with
  | some (some (.long x)) => k (.long x :: st)
  | _ => none
def zldA (k : List Value → Option zR) (ls : zLs) (i : Nat) (st : List Value) : Option zR := match zat ls i with
  | some (some v) => cond (zisA v) (k (v :: st)) none
  | _ => none
def zstI (k : zLs → List Value → Option zR) (ls : zLs) (i : Nat) (st : List Value) : Option zR := match st with
  | .int x :: r => k (zstl ls i (.int x)) r
  | _ => none
def zstJ (k : zLs → List Value → Option zR) (ls : zLs) (i : Nat) (st : List Value) : Option zR := match st with
  | .long x :: r => k (zset (zstl ls i (.long x)) (i + 1) none) r
  | _ => none
def zstA (k : zLs → List Value → Option zR) (ls : zLs) (i : Nat) (st : List Value) : Option zR := match st with
  | .ref x :: r => k (zstl ls i (.ref x)) r
  | .double x :: r => k (zstl ls i (.double x)) r
  | _ => none
def zinc (k : zLs → Option zR) (ls : zLs) (i : Nat) (z : Int32) : Option zR := match zat ls i with
  | some (some (.int x)) => k (zstl ls i (.int (x + z)))
  | _ => none
def zb2 (k : List Value → Option zR) (f : Int32 → Int32 → Int32) (st : List Value) : Option zR := match st with
  | .int b :: .int a :: r => k (.int (f a b) :: r)
  | _ => none
def zl2 (k : List Value → Option zR) (f : Int64 → Int64 → Int64) (st : List Value) : Option zR := match st with
  | .long b :: .long a :: r => k (.long (f a b) :: r)
  | _ => none
def zif1 (k : Nat → List Value → Option zR) (c : ClassFile.Cond) (t p : Nat) (st : List Value) : Option zR := match st with
  | .int x :: r => (match c with
    | .eq => if x = 0 then k t r else k p r
    | .ne => if x = 0 then k p r else k t r
    | .lt => if x < 0 then k t r else k p r
    | .ge => if 0 ≤ x then k t r else k p r
    | .gt => if 0 < x then k t r else k p r
    | .le => if x ≤ 0 then k t r else k p r)
  | _ => none
def zif2 (k : Nat → List Value → Option zR) (c : ClassFile.Cond) (t p : Nat) (st : List Value) : Option zR := match st with
  | .int y :: .int x :: r => (match c with
    | .eq => if x = y then k t r else k p r
    | .ne => if x = y then k p r else k t r
    | .lt => if x < y then k t r else k p r
    | .ge => if y ≤ x then k t r else k p r
    | .gt => if y < x then k t r else k p r
    | .le => if x ≤ y then k t r else k p r)
  | _ => none
def znul (k : Nat → List Value → Option zR) (t p : Nat) (st : List Value) : Option zR := match st with
  | .null :: r => k t r
  | .ref _ :: r => k p r
  | _ => none
def zget (k : List Value → Option zR) (h : zH) (ci fk : Nat) (st : List Value) : Option zR := match st with
  | .ref a :: r => (match zat h.1 a with
    | some (.inr (.inl (c, sl))) => cond (Nat.beq c ci) (match zat sl fk with
      | some none => k (.int (h.2.1 a fk) :: r)
      | some (some o) => k (zrf o :: r)
      | none => none) none
    | _ => none)
  | _ => none
/-- z = 1: a field of type boolean -/
def zput (k : List Value → zH → Option zR) (h : zH) (ci fk : Nat) (z : Int32) (st : List Value) : Option zR := match st with
  | .int y :: .ref a :: r => (match zat h.1 a with
    | some (.inr (.inl (c, sl))) => cond (Nat.beq c ci) (match zat sl fk with
      | some none => if z = 0 then k r (zsetI h a (upd (h.2.1 a) fk y)) else zc01 y (k r (zsetI h a (upd (h.2.1 a) fk y)))
      | _ => none) none
    | _ => none)
  | .ref b :: .ref a :: r => (match zat h.1 a with
    | some (.inr (.inl (c, sl))) => cond (Nat.beq c ci) (match zat sl fk with
      | some (some _) => k r (zsetS h a (.inr (.inl (c, zset sl fk (some (some b))))))
      | _ => none) none
    | _ => none)
  | _ => none
def zald (E : zE) (k : List Value → Option zR) (h : zH) (st : List Value) : Option zR := match st with
  | .int j :: .ref a :: r => zarr h 0 a fun n => zck j n (k (.int (h.2.1 a j.toNatClampNeg) :: r))
  | .int j :: .float _ :: r => zck j E.1 (k (.int (E.2 j.toNatClampNeg) :: r))
  | _ => none
def zaldB (k : List Value → Option zR) (h : zH) (st : List Value) : Option zR := match st with
  | .int j :: .ref a :: r => zarr h 1 a fun n => zck j n (k (.int (h.2.1 a j.toNatClampNeg) :: r))
  | _ => none
def zaldJ (k : List Value → Option zR) (h : zH) (st : List Value) : Option zR := match st with
  | .int j :: .ref a :: r => zarr h 2 a fun n => zck j n (k (.long (h.2.2.1 a j.toNatClampNeg) :: r))
  | _ => none
def zaldA (k : List Value → Option zR) (h : zH) (st : List Value) : Option zR := match st with
  | .int j :: .ref a :: r => (match zat h.1 a with
    | some (.inl (t, n, rf)) => cond (Nat.ble 3 t) (zck j n (match zat rf j.toNatClampNeg with
      | some o => k (zrf o :: r)
      | none => none)) none
    | _ => none)
  | _ => none
def zast (k : List Value → zH → Option zR) (h : zH) (st : List Value) : Option zR := match st with
  | .int x :: .int j :: .ref a :: r => zarr h 0 a fun n => zck j n (k r (zsetI h a (upd (h.2.1 a) j.toNatClampNeg x)))
  | _ => none
def zastB (k : List Value → zH → Option zR) (h : zH) (st : List Value) : Option zR := match st with
  | .int x :: .int j :: .ref a :: r => zarr h 1 a fun n => zck j n (k r (zsetI h a (upd (h.2.1 a) j.toNatClampNeg x.toInt8.toInt32)))
  | _ => none
def zastJ (k : List Value → zH → Option zR) (h : zH) (st : List Value) : Option zR := match st with
  | .long x :: .int j :: .ref a :: r => zarr h 2 a fun n => zck j n (k r (zsetJ h a (vp_updL (h.2.2.1 a) j.toNatClampNeg x)))
  | _ => none
def zastA (k : List Value → zH → Option zR) (h : zH) (st : List Value) : Option zR := match st with
  | .ref b :: .int j :: .ref a :: r => (match zat h.1 a with
    | some (.inl (t, n, rf)) => cond (Nat.ble 3 t) (zck j n (match zat h.1 b with
      | some (.inr (.inl (c, _))) => cond (Nat.beq (c + 3) t) (k r (zsetS h a (.inl (t, n, zset rf j.toNatClampNeg (some b))))) none
      | _ => none)) none
    | _ => none)
  | _ => none
def zalen (E : zE) (k : List Value → Option zR) (h : zH) (st : List Value) : Option zR := match st with
  | .ref a :: r => (match zat h.1 a with
    | some (.inl (_, n, _)) => k (.int (Int32.ofNat n) :: r)
    | _ => none)
  | .float _ :: r => k (.int (Int32.ofNat E.1) :: r)
  | _ => none
def znewa (k : List Value → zH → Option zR) (h : zH) (t : Nat) (st : List Value) : Option zR := match st with
  | .int n :: r => if n < 0 then none else cond (Nat.ble n.toNatClampNeg 100000) (k (.ref h.1.length :: r) (zpush h (.inl (t, n.toNatClampNeg, cond (Nat.ble 3 t) (List.replicate n.toNatClampNeg none) [])) n.toNatClampNeg)) none
  | _ => none
def zcopy (k : List Value → zH → Option zR) (h : zH) (st : List Value) : Option zR := match st with
  | .int n :: .int dp :: .ref b :: .int sp :: .ref a :: r => zarr h 0 a fun na => zarr h 0 b fun nb =>
    if sp < 0 then none else if dp < 0 then none else if n < 0 then none else
    cond (Nat.ble (sp.toNatClampNeg + n.toNatClampNeg) na && Nat.ble (dp.toNatClampNeg + n.toNatClampNeg) nb && Nat.ble (zsum r) 8)
      (k r (zsetI h b (va_cpy (h.2.1 a) (h.2.1 b) sp.toNatClampNeg dp.toNatClampNeg n.toNatClampNeg))) none
  | _ => none
def zrecv (h : zH) (stc ci : Nat) (as : List Value) (r : Option zR) : Option zR := match stc with
  | 0 => (match as with
    | .ref k :: _ => (match zat h.1 k with
      | some (.inr (.inl (c, _))) => cond (Nat.beq c ci) r none
      | _ => none)
    | _ => none)
  | _ + 1 => r
/-- a call of method j; tx: it may throw -/
def zinv (ih : zF) (nx : zLs → List Value → zH → Option zR) (d mi pc j : Nat) (tx : Bool) (ls : zLs) (st : List Value) (h : zH) : Option zR := match zat zmi j with
  | none => none
  | some (na, mL, stc, ci, _, kd) => (match zpop na st [] with
    | none => none
    | some (as, r) => cond (Nat.ble (zsum r) 8 && as.all zc1) (zrecv h stc ci as (match d with
      | 0 => none
      | d' + 1 => zcall (ih d' j 0 (zent mL as) [] h) (fun v h1 => nx ls (v.toList ++ r) h1)
        (fun x h1 => cond (tx && Nat.beq kd 0) (match zat zhs mi with
          | some (e :: l) => (match zhand (e :: l) pc x with
            | some t => ih d mi t ls [.double 0] h1
            | none => none)
          | _ => some (.inr x, h1)) none))) none)
def zpri (nx : zLs → List Value → zH → Option zR) (kind : Nat) (ls : zLs) (st : List Value) (h : zH) : Option zR := match kind with
  | 1 => (match st with
    | .ref _ :: r => cond (Nat.ble (zsum r) 8) (nx ls r h) none
    | _ => none)
  | 2 => (match st with
    | .int y :: .int x :: r => cond (Nat.ble (zsum r) 8) (nx ls (.int (if y < x then y else x) :: r) h) none
    | _ => none)
  | 3 => (match st with
    | .int y :: .int x :: r => cond (Nat.ble (zsum r) 8) (nx ls (.int (if x < y then y else x) :: r) h) none
    | _ => none)
  | 4 => (match st with
    | .retAddr i :: r => cond (Nat.ble (zsum r) 8) (match zat zstrs i with
      | some bs => nx ls (.int (Int32.ofNat bs.length) :: r) h
      | none => none) none
    | _ => none)
  | 5 => (match st with
    | .int j :: .retAddr i :: r => cond (Nat.ble (zsum r) 8) (match zat zstrs i with
      | some bs => zck j bs.length (match zat bs j.toNatClampNeg with
        | some b => nx ls (.int b :: r) h
        | none => none)
      | none => none) none
    | _ => none)
  | 6 => zcopy (nx ls) h st
  | _ => none
def zins (E : zE) (ih : zF) (d mi pc : Nat) (ls : zLs) (st : List Value) (h : zH) (ln a1 a2 a3 : Nat) (z : Int32) (ins : Instr) : Option zR := match ins with
  | .aconst_null => ih d mi (pc + ln) ls (.null :: st) h
  | .iconst _ => ih d mi (pc + ln) ls (.int z :: st) h
  | .bipush _ => ih d mi (pc + ln) ls (.int z :: st) h
  | .sipush _ => ih d mi (pc + ln) ls (.int z :: st) h
  | .lconst _ => ih d mi (pc + ln) ls (.long z.toInt64 :: st) h
  | .ldc2_w _ => ih d mi (pc + ln) ls (.long z.toInt64 :: st) h
  | .ldc _ => (match a1 with
    | 0 => ih d mi (pc + ln) ls (.int z :: st) h
    | 1 => ih d mi (pc + ln) ls (.retAddr a2 :: st) h
    | _ => none)
  | .ldc_w _ => (match a1 with
    | 0 => ih d mi (pc + ln) ls (.int z :: st) h
    | _ => none)
  | .iload i => zldI (fun s => ih d mi (pc + ln) ls s h) ls i st
  | .iload_n i => zldI (fun s => ih d mi (pc + ln) ls s h) ls i.val st
  | .lload i => zldJ (fun s => ih d mi (pc + ln) ls s h) ls i st
  | .lload_n i => zldJ (fun s => ih d mi (pc + ln) ls s h) ls i.val st
  | .aload i => zldA (fun s => ih d mi (pc + ln) ls s h) ls i st
  | .aload_n i => zldA (fun s => ih d mi (pc + ln) ls s h) ls i.val st
  | .istore i => zstI (fun l s => ih d mi (pc + ln) l s h) ls i st
  | .istore_n i => zstI (fun l s => ih d mi (pc + ln) l s h) ls i.val st
  | .lstore i => zstJ (fun l s => ih d mi (pc + ln) l s h) ls i st
  | .lstore_n i => zstJ (fun l s => ih d mi (pc + ln) l s h) ls i.val st
  | .astore i => zstA (fun l s => ih d mi (pc + ln) l s h) ls i st
  | .astore_n i => zstA (fun l s => ih d mi (pc + ln) l s h) ls i.val st
  | .iinc i _ => zinc (fun l => ih d mi (pc + ln) l st h) ls i z
  | .iadd => zb2 (fun s => ih d mi (pc + ln) ls s h) (fun a b => a + b) st
  | .isub => zb2 (fun s => ih d mi (pc + ln) ls s h) (fun a b => a - b) st
  | .imul => zb2 (fun s => ih d mi (pc + ln) ls s h) (fun a b => a * b) st
  | .iand => zb2 (fun s => ih d mi (pc + ln) ls s h) (fun a b => a &&& b) st
  | .ior => zb2 (fun s => ih d mi (pc + ln) ls s h) (fun a b => a ||| b) st
  | .ixor => zb2 (fun s => ih d mi (pc + ln) ls s h) (fun a b => a ^^^ b) st
  | .ishl => zb2 (fun s => ih d mi (pc + ln) ls s h) (fun a b => a <<< (b &&& 31)) st
  | .ishr => zb2 (fun s => ih d mi (pc + ln) ls s h) (fun a b => a >>> (b &&& 31)) st
  | .iushr => zb2 (fun s => ih d mi (pc + ln) ls s h) (fun a b => (a.toUInt32 >>> (b.toUInt32 &&& Int32.toUInt32 31)).toInt32) st
  | .idiv => (match st with
    | .int y :: .int x :: r => znz y (ih d mi (pc + ln) ls (.int (x / y) :: r) h)
    | _ => none)
  | .irem => (match st with
    | .int y :: .int x :: r => znz y (ih d mi (pc + ln) ls (.int (x - x / y * y) :: r) h)
    | _ => none)
  | .ladd => zl2 (fun s => ih d mi (pc + ln) ls s h) (fun a b => a + b) st
  | .lsub => zl2 (fun s => ih d mi (pc + ln) ls s h) (fun a b => a - b) st
  | .lmul => zl2 (fun s => ih d mi (pc + ln) ls s h) (fun a b => a * b) st
  | .land => zl2 (fun s => ih d mi (pc + ln) ls s h) (fun a b => a &&& b) st
  | .lor => zl2 (fun s => ih d mi (pc + ln) ls s h) (fun a b => a ||| b) st
  | .ldiv => (match st with
    | .long y :: .long x :: r => znzl y (ih d mi (pc + ln) ls (.long (x / y) :: r) h)
    | _ => none)
  | .lcmp => (match st with
    | .long y :: .long x :: r => ih d mi (pc + ln) ls (.int (lg_cmp x y) :: r) h
    | _ => none)
  | .i2l => (match st with
    | .int x :: r => ih d mi (pc + ln) ls (.long x.toInt64 :: r) h
    | _ => none)
  | .l2i => (match st with
    | .long x :: r => ih d mi (pc + ln) ls (.int x.toInt32 :: r) h
    | _ => none)
  | .i2b => (match st with
    | .int x :: r => ih d mi (pc + ln) ls (.int x.toInt8.toInt32 :: r) h
    | _ => none)
  | .dup => (match st with
    | v :: r => cond (zc1 v) (ih d mi (pc + ln) ls (v :: v :: r) h) none
    | _ => none)
  | .dup2 => (match st with
    | v :: u :: r => cond (zc1 v && zc1 u) (ih d mi (pc + ln) ls (v :: u :: v :: u :: r) h) none
    | _ => none)
  | .pop => (match st with
    | v :: r => cond (zc1 v) (ih d mi (pc + ln) ls r h) none
    | _ => none)
  | .goto _ => ih d mi a1 ls st h
  | .ifCond c _ => zif1 (fun p s => ih d mi p ls s h) c a1 (pc + ln) st
  | .if_icmp c _ => zif2 (fun p s => ih d mi p ls s h) c a1 (pc + ln) st
  | .ifnull _ => znul (fun p s => ih d mi p ls s h) a1 (pc + ln) st
  | .ifnonnull _ => znul (fun p s => ih d mi p ls s h) (pc + ln) a1 st
  | .tableswitch .. => (match st with
    | .int x :: r => (match zat zsws a1 with
      | some (l, t) => zsw x l t (fun p => ih d mi p ls r h)
      | none => none)
    | _ => none)
  | .getfield _ => zget (fun s => ih d mi (pc + ln) ls s h) h a1 a2 st
  | .putfield _ => zput (fun s h' => ih d mi (pc + ln) ls s h') h a1 a2 z st
  | .iaload => zald E (fun s => ih d mi (pc + ln) ls s h) h st
  | .baload => zaldB (fun s => ih d mi (pc + ln) ls s h) h st
  | .laload => zaldJ (fun s => ih d mi (pc + ln) ls s h) h st
  | .aaload => zaldA (fun s => ih d mi (pc + ln) ls s h) h st
  | .iastore => zast (fun s h' => ih d mi (pc + ln) ls s h') h st
  | .bastore => zastB (fun s h' => ih d mi (pc + ln) ls s h') h st
  | .lastore => zastJ (fun s h' => ih d mi (pc + ln) ls s h') h st
  | .aastore => zastA (fun s h' => ih d mi (pc + ln) ls s h') h st
  | .arraylength => zalen E (fun s => ih d mi (pc + ln) ls s h) h st
  | .newarray _ => znewa (fun s h' => ih d mi (pc + ln) ls s h') h a1 st
  | .anewarray _ => znewa (fun s h' => ih d mi (pc + ln) ls s h') h a1 st
  | .new _ => (match a1 with
    | 0 => (match zat zcsh a2 with
      | some sl => ih d mi (pc + ln) ls (.ref h.1.length :: st) (zpush h (.inr (.inl (a2, sl))) sl.length)
      | none => none)
    | _ => cond (Nat.ble (zsum st) 8) (some (.inr a2, (h.1, h.2.1, h.2.2.1, h.2.2.2.1 + 1, h.2.2.2.2 + 6))) none)
  | .invokespecial _ => (match a1 with
    | 0 => zinv ih (ih d mi (pc + ln)) d mi pc a2 false ls st h
    | _ => zpri (ih d mi (pc + ln)) a1 ls st h)
  | .invokevirtual _ => (match a1 with
    | 0 => zinv ih (ih d mi (pc + ln)) d mi pc a2 (Nat.beq a3 0) ls st h
    | _ => zpri (ih d mi (pc + ln)) a1 ls st h)
  | .invokestatic _ => (match a1 with
    | 0 => zinv ih (ih d mi (pc + ln)) d mi pc a2 (Nat.beq a3 0) ls st h
    | _ => zpri (ih d mi (pc + ln)) a1 ls st h)
  | .ireturn => (match st with
    | [.int x] => (match zat zmi mi with
      | some (_, _, _, _, 1, _) => some (.inl (some (.int x)), h)
      | some (_, _, _, _, 2, _) => zc01 x (some (.inl (some (.int x)), h))
      | _ => none)
    | _ => none)
  | .return_ => (match st with
    | [] => (match zat zmi mi with
      | some (_, _, _, _, 0, _) => some (.inl none, h)
      | _ => none)
    | _ => none)
  | _ => none
def zbody (E : zE) (ih : zF) : zF := fun d mi pc ls st h => match zfetch mi pc with
  | none => none
  | some (ins, ln, (a1, a2, a3), z, _) => zins E ih d mi pc ls st h ln a1 a2 a3 z ins
noncomputable def zex (E : zE) (n : Nat) : zF := Nat.rec (motive := fun _ => zF) (fun _ _ _ _ _ _ => none) (fun _ ih => zbody E ih) n
theorem zex_succ (E : zE) (n : Nat) : zex E (n + 1) = zbody E (zex E n) := rfl
theorem zex_zero (E : zE) (d mi pc : Nat) (ls : zLs) (st : List Value) (h : zH) : zex E 0 d mi pc ls st h = none := rfl
end
section
/-! INVERSIONS -/
theorem zat_eq {α : Type} : ∀ (l : List α) (i : Nat), zat l i = l[i]?
  | [], i => by simp [zat]
  | a :: l, 0 => by simp [zat]
  | a :: l, i + 1 => by simp [zat, zat_eq l i]
theorem zset_eq {α : Type} : ∀ (l : List α) (i : Nat) (x : α), zset l i x = l.set i x
  | [], i, x => by simp [zset]
  | a :: l, 0, x => by simp [zset]
  | a :: l, i + 1, x => by simp [zset, zset_eq l i x]
theorem zrow_at {α : Type} (v : Nat → Nat → α) (c : Nat) (f : Nat → α) : zrow v c f c = f := by simp [zrow, Nat.beq_refl]
theorem zrow_ne {α : Type} (v : Nat → Nat → α) {c d : Nat} (f : Nat → α) (h : d ≠ c) : zrow v c f d = v d := by
  have : Nat.beq d c = false := by
    cases hb : Nat.beq d c with
    | false => rfl
    | true => exact absurd (Nat.eq_of_beq_eq_true hb) h
  simp [zrow, this]
theorem zcond {α : Type} {b : Bool} {x : Option α} {r : α} (h : cond b x none = some r) : b = true ∧ x = some r := by
  cases b with
  | true => exact ⟨rfl, h⟩
  | false => cases h
theorem zbeq {a b : Nat} (h : Nat.beq a b = true) : a = b := Nat.eq_of_beq_eq_true h
theorem zck_inv {j : Int32} {n : Nat} {r : Option zR} {q : zR} (h : zck j n r = some q) : vp_in j n ∧ r = some q := by
  unfold zck at h
  split at h
  · cases h
  · split at h
    · cases h
    · rename_i h1 h2
      exact ⟨fun z => z.elim h1 h2, h⟩
theorem zc01_inv {x : Int32} {r : Option zR} {q : zR} (h : zc01 x r = some q) : (x = 0 ∨ x = 1) ∧ r = some q := by
  unfold zc01 at h
  split at h
  · rename_i h1; exact ⟨Or.inl h1, h⟩
  · split at h
    · rename_i h1; exact ⟨Or.inr h1, h⟩
    · cases h
theorem znz_inv {x : Int32} {r : Option zR} {q : zR} (h : znz x r = some q) : ¬ x = 0 ∧ r = some q := by
  unfold znz at h
  split at h
  · cases h
  · rename_i h1; exact ⟨h1, h⟩
theorem znzl_inv {x : Int64} {r : Option zR} {q : zR} (h : znzl x r = some q) : ¬ x = 0 ∧ r = some q := by
  unfold znzl at h
  split at h
  · cases h
  · rename_i h1; exact ⟨h1, h⟩
theorem zarr_inv {h : zH} {t a : Nat} {k : Nat → Option zR} {q : zR} (e : zarr h t a k = some q) : ∃ n rf, zat h.1 a = some (.inl (t, n, rf)) ∧ k n = some q := by
  unfold zarr at e
  split at e
  · rename_i t' n rf h1
    obtain ⟨h2, h3⟩ := zcond e
    rw [zbeq h2] at h1
    exact ⟨n, rf, h1, h3⟩
  · cases e
section ZINV
variable {q : zR} {ls : zLs} {i : Nat} {st : List Value} {h : zH}
theorem zldI_inv {k : List Value → Option zR} (e : zldI k ls i st = some q) : ∃ x, zat ls i = some (some (.int x)) ∧ k (.int x :: st) = some q := by
  unfold zldI at e
  split at e
  · exact ⟨_, by assumption, e⟩
  · cases e
theorem zldJ_inv {k : List Value → Option zR} (e : zldJ k ls i st = some q) : ∃ x, zat ls i = some (some (.long x)) ∧ k (.long x :: st) = some q := by
  unfold zldJ at e
  split at e
  · exact ⟨_, by assumption, e⟩
  · cases e
theorem zldA_inv {k : List Value → Option zR} (e : zldA k ls i st = some q) : ∃ v, zat ls i = some (some v) ∧ zisA v = true ∧ k (v :: st) = some q := by
  unfold zldA at e
  split at e
  · obtain ⟨h1, h2⟩ := zcond e
    exact ⟨_, by assumption, h1, h2⟩
  · cases e
theorem zstI_inv {k : zLs → List Value → Option zR} (e : zstI k ls i st = some q) : ∃ x r, st = .int x :: r ∧ k (zstl ls i (.int x)) r = some q := by
  unfold zstI at e
  split at e
  · exact ⟨_, _, rfl, e⟩
  · cases e
theorem zstJ_inv {k : zLs → List Value → Option zR} (e : zstJ k ls i st = some q) : ∃ x r, st = .long x :: r ∧ k (zset (zstl ls i (.long x)) (i + 1) none) r = some q := by
  unfold zstJ at e
  split at e
  · exact ⟨_, _, rfl, e⟩
  · cases e
theorem zstA_inv {k : zLs → List Value → Option zR} (e : zstA k ls i st = some q) : ∃ v r, st = v :: r ∧ ((∃ x, v = .ref x) ∨ ∃ x, v = .double x) ∧ k (zstl ls i v) r = some q := by
  unfold zstA at e
  split at e
  · exact ⟨_, _, rfl, Or.inl ⟨_, rfl⟩, e⟩
  · exact ⟨_, _, rfl, Or.inr ⟨_, rfl⟩, e⟩
  · cases e
theorem zinc_inv {k : zLs → Option zR} {z : Int32} (e : zinc k ls i z = some q) : ∃ x, zat ls i = some (some (.int x)) ∧ k (zstl ls i (.int (x + z))) = some q := by
  unfold zinc at e
  split at e
  · exact ⟨_, by assumption, e⟩
  · cases e
theorem zb2_inv {k : List Value → Option zR} {f : Int32 → Int32 → Int32} (e : zb2 k f st = some q) : ∃ a b r, st = .int b :: .int a :: r ∧ k (.int (f a b) :: r) = some q := by
  unfold zb2 at e
  split at e
  · exact ⟨_, _, _, rfl, e⟩
  · cases e
theorem zl2_inv {k : List Value → Option zR} {f : Int64 → Int64 → Int64} (e : zl2 k f st = some q) : ∃ a b r, st = .long b :: .long a :: r ∧ k (.long (f a b) :: r) = some q := by
  unfold zl2 at e
  split at e
  · exact ⟨_, _, _, rfl, e⟩
  · cases e
/-- the int compare with 0 -/
def zc0 (c : ClassFile.Cond) (x : Int32) : Prop := match c with
  | .eq => x = 0
  | .ne => ¬ x = 0
  | .lt => x < 0
  | .ge => 0 ≤ x
  | .gt => 0 < x
  | .le => x ≤ 0
def zcc (c : ClassFile.Cond) (x y : Int32) : Prop := match c with
  | .eq => x = y
  | .ne => ¬ x = y
  | .lt => x < y
  | .ge => y ≤ x
  | .gt => y < x
  | .le => x ≤ y
theorem zif1_inv {k : Nat → List Value → Option zR} {c : ClassFile.Cond} {t p : Nat} (e : zif1 k c t p st = some q) : ∃ x r, st = .int x :: r ∧ (zc0 c x → k t r = some q) ∧ (¬ zc0 c x → k p r = some q) := by
  unfold zif1 at e
  split at e
  · refine ⟨_, _, rfl, ?_⟩
    cases c <;> simp only [zc0] <;> dsimp only at e <;> split at e <;> rename_i h1 <;> first | exact ⟨fun _ => e, fun z => absurd h1 z⟩ | exact ⟨fun z => absurd z h1, fun _ => e⟩ | exact ⟨fun z => absurd h1 z, fun _ => e⟩ | exact ⟨fun _ => e, fun z => absurd z h1⟩ | exact ⟨fun _ => e, fun z => absurd h1 (fun _ => z h1)⟩
  · cases e
theorem zif2_inv {k : Nat → List Value → Option zR} {c : ClassFile.Cond} {t p : Nat} (e : zif2 k c t p st = some q) : ∃ x y r, st = .int y :: .int x :: r ∧ (zcc c x y → k t r = some q) ∧ (¬ zcc c x y → k p r = some q) := by
  unfold zif2 at e
  split at e
  · refine ⟨_, _, _, rfl, ?_⟩
    cases c <;> simp only [zcc] <;> dsimp only at e <;> split at e <;> rename_i h1 <;> first | exact ⟨fun _ => e, fun z => absurd h1 z⟩ | exact ⟨fun z => absurd z h1, fun _ => e⟩ | exact ⟨fun z => absurd h1 z, fun _ => e⟩ | exact ⟨fun _ => e, fun z => absurd z h1⟩ | exact ⟨fun _ => e, fun z => absurd h1 (fun _ => z h1)⟩
  · cases e
theorem znul_inv {k : Nat → List Value → Option zR} {t p : Nat} (e : znul k t p st = some q) : (∃ r, st = .null :: r ∧ k t r = some q) ∨ ∃ a r, st = .ref a :: r ∧ k p r = some q := by
  unfold znul at e
  split at e
  · exact Or.inl ⟨_, rfl, e⟩
  · exact Or.inr ⟨_, _, rfl, e⟩
  · cases e
theorem zget_inv {k : List Value → Option zR} {ci fk : Nat} (e : zget k h ci fk st = some q) : ∃ a r sl, st = .ref a :: r ∧ zat h.1 a = some (.inr (.inl (ci, sl))) ∧ ((zat sl fk = some none ∧ k (.int (h.2.1 a fk) :: r) = some q) ∨ ∃ o, zat sl fk = some (some o) ∧ k (zrf o :: r) = some q) := by
  unfold zget at e
  split at e
  · split at e
    · rename_i c sl h1
      obtain ⟨h2, h3⟩ := zcond e
      rw [zbeq h2] at h1
      refine ⟨_, _, sl, rfl, h1, ?_⟩
      split at h3
      · exact Or.inl ⟨by assumption, h3⟩
      · exact Or.inr ⟨_, by assumption, h3⟩
      · cases h3
    · cases e
  · cases e
theorem zput_inv {k : List Value → zH → Option zR} {ci fk : Nat} {z : Int32} (e : zput k h ci fk z st = some q) :
    (∃ y a r sl, st = .int y :: .ref a :: r ∧ zat h.1 a = some (.inr (.inl (ci, sl))) ∧ zat sl fk = some none ∧ (z = 0 ∨ y = 0 ∨ y = 1) ∧ k r (zsetI h a (upd (h.2.1 a) fk y)) = some q) ∨
    ∃ b a r sl o, st = .ref b :: .ref a :: r ∧ zat h.1 a = some (.inr (.inl (ci, sl))) ∧ zat sl fk = some (some o) ∧ k r (zsetS h a (.inr (.inl (ci, zset sl fk (some (some b)))))) = some q := by
  unfold zput at e
  split at e
  · split at e
    · rename_i c sl h1
      obtain ⟨h2, h3⟩ := zcond e
      rw [zbeq h2] at h1
      split at h3
      · split at h3
        · exact Or.inl ⟨_, _, _, sl, rfl, h1, by assumption, Or.inl (by assumption), h3⟩
        · obtain ⟨h4, h5⟩ := zc01_inv h3
          exact Or.inl ⟨_, _, _, sl, rfl, h1, by assumption, Or.inr h4, h5⟩
      · cases h3
    · cases e
  · split at e
    · rename_i c sl h1
      obtain ⟨h2, h3⟩ := zcond e
      have h2 := zbeq h2
      subst h2
      split at h3
      · exact Or.inr ⟨_, _, _, sl, _, rfl, h1, by assumption, h3⟩
      · cases h3
    · cases e
  · cases e
theorem zald_inv {E : zE} {k : List Value → Option zR} (e : zald E k h st = some q) :
    (∃ j a r n rf, st = .int j :: .ref a :: r ∧ zat h.1 a = some (.inl (0, n, rf)) ∧ vp_in j n ∧ k (.int (h.2.1 a j.toNatClampNeg) :: r) = some q) ∨
    ∃ j f r, st = .int j :: .float f :: r ∧ vp_in j E.1 ∧ k (.int (E.2 j.toNatClampNeg) :: r) = some q := by
  unfold zald at e
  split at e
  · obtain ⟨n, rf, h1, h2⟩ := zarr_inv e
    obtain ⟨h3, h4⟩ := zck_inv h2
    exact Or.inl ⟨_, _, _, n, rf, rfl, h1, h3, h4⟩
  · obtain ⟨h3, h4⟩ := zck_inv e
    exact Or.inr ⟨_, _, _, rfl, h3, h4⟩
  · cases e
theorem zaldB_inv {k : List Value → Option zR} (e : zaldB k h st = some q) : ∃ j a r n rf, st = .int j :: .ref a :: r ∧ zat h.1 a = some (.inl (1, n, rf)) ∧ vp_in j n ∧ k (.int (h.2.1 a j.toNatClampNeg) :: r) = some q := by
  unfold zaldB at e
  split at e
  · obtain ⟨n, rf, h1, h2⟩ := zarr_inv e
    obtain ⟨h3, h4⟩ := zck_inv h2
    exact ⟨_, _, _, n, rf, rfl, h1, h3, h4⟩
  · cases e
theorem zaldJ_inv {k : List Value → Option zR} (e : zaldJ k h st = some q) : ∃ j a r n rf, st = .int j :: .ref a :: r ∧ zat h.1 a = some (.inl (2, n, rf)) ∧ vp_in j n ∧ k (.long (h.2.2.1 a j.toNatClampNeg) :: r) = some q := by
  unfold zaldJ at e
  split at e
  · obtain ⟨n, rf, h1, h2⟩ := zarr_inv e
    obtain ⟨h3, h4⟩ := zck_inv h2
    exact ⟨_, _, _, n, rf, rfl, h1, h3, h4⟩
  · cases e
theorem zaldA_inv {k : List Value → Option zR} (e : zaldA k h st = some q) : ∃ j a r t n rf o, st = .int j :: .ref a :: r ∧ zat h.1 a = some (.inl (t, n, rf)) ∧ 3 ≤ t ∧ vp_in j n ∧ zat rf j.toNatClampNeg = some o ∧ k (zrf o :: r) = some q := by
  unfold zaldA at e
  split at e
  · split at e
    · obtain ⟨h1, h2⟩ := zcond e
      obtain ⟨h3, h4⟩ := zck_inv h2
      split at h4
      · exact ⟨_, _, _, _, _, _, _, rfl, by assumption, Nat.le_of_ble_eq_true h1, h3, by assumption, h4⟩
      · cases h4
    · cases e
  · cases e
theorem zast_inv {k : List Value → zH → Option zR} (e : zast k h st = some q) : ∃ x j a r n rf, st = .int x :: .int j :: .ref a :: r ∧ zat h.1 a = some (.inl (0, n, rf)) ∧ vp_in j n ∧ k r (zsetI h a (upd (h.2.1 a) j.toNatClampNeg x)) = some q := by
  unfold zast at e
  split at e
  · obtain ⟨n, rf, h1, h2⟩ := zarr_inv e
    obtain ⟨h3, h4⟩ := zck_inv h2
    exact ⟨_, _, _, _, n, rf, rfl, h1, h3, h4⟩
  · cases e
theorem zastB_inv {k : List Value → zH → Option zR} (e : zastB k h st = some q) : ∃ x j a r n rf, st = .int x :: .int j :: .ref a :: r ∧ zat h.1 a = some (.inl (1, n, rf)) ∧ vp_in j n ∧ k r (zsetI h a (upd (h.2.1 a) j.toNatClampNeg x.toInt8.toInt32)) = some q := by
  unfold zastB at e
  split at e
  · obtain ⟨n, rf, h1, h2⟩ := zarr_inv e
    obtain ⟨h3, h4⟩ := zck_inv h2
    exact ⟨_, _, _, _, n, rf, rfl, h1, h3, h4⟩
  · cases e
theorem zastJ_inv {k : List Value → zH → Option zR} (e : zastJ k h st = some q) : ∃ x j a r n rf, st = .long x :: .int j :: .ref a :: r ∧ zat h.1 a = some (.inl (2, n, rf)) ∧ vp_in j n ∧ k r (zsetJ h a (vp_updL (h.2.2.1 a) j.toNatClampNeg x)) = some q := by
  unfold zastJ at e
  split at e
  · obtain ⟨n, rf, h1, h2⟩ := zarr_inv e
    obtain ⟨h3, h4⟩ := zck_inv h2
    exact ⟨_, _, _, _, n, rf, rfl, h1, h3, h4⟩
  · cases e
theorem zastA_inv {k : List Value → zH → Option zR} (e : zastA k h st = some q) : ∃ b j a r c n rf sl, st = .ref b :: .int j :: .ref a :: r ∧ zat h.1 a = some (.inl (c + 3, n, rf)) ∧ vp_in j n ∧ zat h.1 b = some (.inr (.inl (c, sl))) ∧ k r (zsetS h a (.inl (c + 3, n, zset rf j.toNatClampNeg (some b)))) = some q := by
  unfold zastA at e
  split at e
  · split at e
    · rename_i t n rf h0
      obtain ⟨h1, h2⟩ := zcond e
      obtain ⟨h3, h4⟩ := zck_inv h2
      split at h4
      · obtain ⟨h5, h6⟩ := zcond h4
        have h5 := zbeq h5
        subst h5
        exact ⟨_, _, _, _, _, _, _, _, rfl, h0, h3, by assumption, h6⟩
      · cases h4
    · cases e
  · cases e
theorem zalen_inv {E : zE} {k : List Value → Option zR} (e : zalen E k h st = some q) :
    (∃ a r t n rf, st = .ref a :: r ∧ zat h.1 a = some (.inl (t, n, rf)) ∧ k (.int (Int32.ofNat n) :: r) = some q) ∨ ∃ f r, st = .float f :: r ∧ k (.int (Int32.ofNat E.1) :: r) = some q := by
  unfold zalen at e
  split at e
  · split at e
    · exact Or.inl ⟨_, _, _, _, _, rfl, by assumption, e⟩
    · cases e
  · exact Or.inr ⟨_, _, rfl, e⟩
  · cases e
theorem znewa_inv {k : List Value → zH → Option zR} {t : Nat} (e : znewa k h t st = some q) : ∃ n r, st = .int n :: r ∧ ¬ n < 0 ∧ n.toNatClampNeg ≤ 100000 ∧ k (.ref h.1.length :: r) (zpush h (.inl (t, n.toNatClampNeg, cond (Nat.ble 3 t) (List.replicate n.toNatClampNeg none) [])) n.toNatClampNeg) = some q := by
  unfold znewa at e
  split at e
  · split at e
    · cases e
    · obtain ⟨h1, h2⟩ := zcond e
      exact ⟨_, _, rfl, by assumption, Nat.le_of_ble_eq_true h1, h2⟩
  · cases e
theorem zcopy_inv {k : List Value → zH → Option zR} (e : zcopy k h st = some q) : ∃ n dp b sp a r na ra nb rb, st = .int n :: .int dp :: .ref b :: .int sp :: .ref a :: r ∧ zat h.1 a = some (.inl (0, na, ra)) ∧ zat h.1 b = some (.inl (0, nb, rb)) ∧ ¬ sp < 0 ∧ ¬ dp < 0 ∧ ¬ n < 0 ∧
    sp.toNatClampNeg + n.toNatClampNeg ≤ na ∧ dp.toNatClampNeg + n.toNatClampNeg ≤ nb ∧ zsum r ≤ 8 ∧ k r (zsetI h b (va_cpy (h.2.1 a) (h.2.1 b) sp.toNatClampNeg dp.toNatClampNeg n.toNatClampNeg)) = some q := by
  unfold zcopy at e
  split at e
  · obtain ⟨na, ra, h1, e⟩ := zarr_inv e
    obtain ⟨nb, rb, h2, e⟩ := zarr_inv e
    split at e
    · cases e
    · split at e
      · cases e
      · split at e
        · cases e
        · obtain ⟨h3, h4⟩ := zcond e
          simp only [Bool.and_eq_true] at h3
          exact ⟨_, _, _, _, _, _, na, ra, nb, rb, rfl, h1, h2, by assumption, by assumption, by assumption, Nat.le_of_ble_eq_true h3.1.1, Nat.le_of_ble_eq_true h3.1.2, Nat.le_of_ble_eq_true h3.2, h4⟩
  · cases e
theorem zsw_inv {x : Int32} {k : Nat → Option zR} : ∀ {l : List (Int32 × Nat)} {d : Nat}, zsw x l d k = some q → (∃ t, (x, t) ∈ l ∧ k t = some q) ∨ ((∀ p ∈ l, x ≠ p.1) ∧ k d = some q)
  | [], d, e => Or.inr ⟨fun _ h => absurd h List.not_mem_nil, e⟩
  | (a, t) :: l, d, e => by
    unfold zsw at e
    split at e
    · rename_i h1
      exact Or.inl ⟨t, by rw [h1]; exact List.mem_cons_self, e⟩
    · rename_i h1
      rcases zsw_inv e with ⟨t', h2, h3⟩ | ⟨h2, h3⟩
      · exact Or.inl ⟨t', List.mem_cons_of_mem _ h2, h3⟩
      · exact Or.inr ⟨fun p hp => (List.mem_cons.mp hp).elim (fun z => by rw [z]; exact h1) (h2 p), h3⟩
theorem zpop_inv : ∀ {n : Nat} {st acc as r : List Value}, zpop n st acc = some (as, r) → as.length = acc.length + n ∧ as.reverse ++ r = acc.reverse ++ st
  | 0, st, acc, as, r, e => by
    simp only [zpop, Option.some.injEq, Prod.mk.injEq] at e
    obtain ⟨rfl, rfl⟩ := e
    exact ⟨rfl, rfl⟩
  | n + 1, [], acc, as, r, e => by cases e
  | n + 1, v :: st, acc, as, r, e => by
    obtain ⟨h1, h2⟩ := zpop_inv (show zpop n st (v :: acc) = some (as, r) from e)
    refine ⟨by rw [h1, List.length_cons]; omega, ?_⟩
    rw [h2, List.reverse_cons, List.append_assoc]
    rfl
theorem zcall_inv {r : Option zR} {kv : Option Value → zH → Option zR} {kx : Nat → zH → Option zR} (e : zcall r kv kx = some q) : (∃ v h1, r = some (.inl v, h1) ∧ kv v h1 = some q) ∨ ∃ x h1, r = some (.inr x, h1) ∧ kx x h1 = some q := by
  unfold zcall at e
  split at e
  · cases e
  · exact Or.inl ⟨_, _, rfl, e⟩
  · exact Or.inr ⟨_, _, rfl, e⟩
theorem zhand_inv {pc x t : Nat} : ∀ {l : List (Nat × Nat × Nat × Nat)}, zhand l pc x = some t → ∃ (pre suf : List (Nat × Nat × Nat × Nat)) (s e : Nat), l = pre ++ (s, e, t, x) :: suf ∧ s ≤ pc ∧ pc < e ∧ ∀ z ∈ pre, ¬ (z.1 ≤ pc ∧ pc < z.2.1 ∧ z.2.2.2 = x)
  | [], h => by cases h
  | (s, e, t', x') :: l, h => by
    unfold zhand at h
    cases hb : (Nat.ble s pc && Nat.blt pc e && Nat.beq x' x) with
    | true =>
      rw [hb] at h
      cases h
      simp only [Bool.and_eq_true] at hb
      have h3 := zbeq hb.2
      subst h3
      exact ⟨[], l, s, e, rfl, Nat.le_of_ble_eq_true hb.1.1, Nat.le_of_ble_eq_true hb.1.2, fun z hz => absurd hz List.not_mem_nil⟩
    | false =>
      rw [hb] at h
      obtain ⟨pre, suf, s', e', h1, h2, h3, h4⟩ := zhand_inv (show zhand l pc x = some t from h)
      refine ⟨(s, e, t', x') :: pre, suf, s', e', by rw [h1]; rfl, h2, h3, fun z hz => ?_⟩
      rcases List.mem_cons.mp hz with rfl | hz
      · intro ⟨k1, k2, k3⟩
        have : (Nat.ble s pc && Nat.blt pc e && Nat.beq x' x) = true := by
          simp only [Bool.and_eq_true]
          exact ⟨⟨Nat.ble_eq_true_of_le k1, Nat.ble_eq_true_of_le k2⟩, by have k4 : x' = x := k3 ; rw [k4]; exact Nat.beq_refl x⟩
        rw [hb] at this
        cases this
      · exact h4 z hz
theorem zrecv_inv {stc ci : Nat} {as : List Value} {r : Option zR} (e : zrecv h stc ci as r = some q) : r = some q ∧ (stc = 0 → ∃ k sl rest, as = .ref k :: rest ∧ zat h.1 k = some (.inr (.inl (ci, sl)))) := by
  unfold zrecv at e
  split at e
  · split at e
    · split at e
      · obtain ⟨h1, h2⟩ := zcond e
        have h1 := zbeq h1
        subst h1
        exact ⟨h2, fun _ => ⟨_, _, _, rfl, by assumption⟩⟩
      · cases e
    · cases e
  · exact ⟨e, fun z => by cases z⟩
theorem zinv_inv {ih : zF} {nx : zLs → List Value → zH → Option zR} {d mi pc j : Nat} {tx : Bool} (e : zinv ih nx d mi pc j tx ls st h = some q) :
    ∃ na mL stc ci rk kd as r d', zat zmi j = some (na, mL, stc, ci, rk, kd) ∧ as.length = na ∧ st = as.reverse ++ r ∧ zsum r ≤ 8 ∧ as.all zc1 = true ∧ (stc = 0 → ∃ k sl rest, as = .ref k :: rest ∧ zat h.1 k = some (.inr (.inl (ci, sl)))) ∧ d = d' + 1 ∧
    ((∃ v h1, ih d' j 0 (zent mL as) [] h = some (.inl v, h1) ∧ nx ls (v.toList ++ r) h1 = some q) ∨
     (tx = true ∧ kd = 0 ∧ ∃ x h1, ih d' j 0 (zent mL as) [] h = some (.inr x, h1) ∧
      ((∃ hs t, zat zhs mi = some hs ∧ zhand hs pc x = some t ∧ ih d mi t ls [.double 0] h1 = some q) ∨ ((zat zhs mi = none ∨ zat zhs mi = some []) ∧ q = (.inr x, h1))))) := by
  unfold zinv at e
  split at e
  · cases e
  · rename_i na mL stc ci rk kd h0
    split at e
    · cases e
    · rename_i as r h1
      obtain ⟨h2, e⟩ := zcond e
      simp only [Bool.and_eq_true] at h2
      obtain ⟨e, h3⟩ := zrecv_inv e
      obtain ⟨k1, k2⟩ := zpop_inv h1
      cases d with
      | zero => cases e
      | succ d' =>
        change zcall _ _ _ = some _ at e
        refine ⟨na, mL, stc, ci, rk, kd, as, r, d', h0, by simpa using k1, by simpa using k2.symm, Nat.le_of_ble_eq_true h2.1, h2.2, h3, rfl, ?_⟩
        rcases zcall_inv e with ⟨v, h4, h5, h6⟩ | ⟨x, h4, h5, h6⟩
        · exact Or.inl ⟨v, h4, h5, h6⟩
        · obtain ⟨h7, h8⟩ := zcond h6
          simp only [Bool.and_eq_true] at h7
          refine Or.inr ⟨h7.1, zbeq h7.2, x, h4, h5, ?_⟩
          split at h8
          · rename_i e1 l1 h9
            split at h8
            · exact Or.inl ⟨_, _, h9, by assumption, h8⟩
            · cases h8
          · rename_i h9
            refine Or.inr ⟨?_, (Option.some.inj h8).symm⟩
            cases hz : zat zhs mi with
            | none => exact Or.inl rfl
            | some y =>
              cases y with
              | nil => exact Or.inr rfl
              | cons a b => exact absurd hz (h9 a b)
theorem zpri_inv {nx : zLs → List Value → zH → Option zR} {kind : Nat} (e : zpri nx kind ls st h = some q) :
    (kind = 1 ∧ ∃ a r, st = .ref a :: r ∧ zsum r ≤ 8 ∧ nx ls r h = some q) ∨
    (kind = 2 ∧ ∃ x y r, st = .int y :: .int x :: r ∧ zsum r ≤ 8 ∧ nx ls (.int (if y < x then y else x) :: r) h = some q) ∨
    (kind = 3 ∧ ∃ x y r, st = .int y :: .int x :: r ∧ zsum r ≤ 8 ∧ nx ls (.int (if x < y then y else x) :: r) h = some q) ∨
    (kind = 4 ∧ ∃ i r bs, st = .retAddr i :: r ∧ zsum r ≤ 8 ∧ zat zstrs i = some bs ∧ nx ls (.int (Int32.ofNat bs.length) :: r) h = some q) ∨
    (kind = 5 ∧ ∃ j i r bs b, st = .int j :: .retAddr i :: r ∧ zsum r ≤ 8 ∧ zat zstrs i = some bs ∧ vp_in j bs.length ∧ zat bs j.toNatClampNeg = some b ∧ nx ls (.int b :: r) h = some q) ∨
    (kind = 6 ∧ zcopy (nx ls) h st = some q) := by
  unfold zpri at e
  split at e
  · split at e
    · obtain ⟨h1, h2⟩ := zcond e
      exact Or.inl ⟨rfl, _, _, rfl, Nat.le_of_ble_eq_true h1, h2⟩
    · cases e
  · split at e
    · obtain ⟨h1, h2⟩ := zcond e
      exact Or.inr (Or.inl ⟨rfl, _, _, _, rfl, Nat.le_of_ble_eq_true h1, h2⟩)
    · cases e
  · split at e
    · obtain ⟨h1, h2⟩ := zcond e
      exact Or.inr (Or.inr (Or.inl ⟨rfl, _, _, _, rfl, Nat.le_of_ble_eq_true h1, h2⟩))
    · cases e
  · split at e
    · obtain ⟨h1, h2⟩ := zcond e
      split at h2
      · exact Or.inr (Or.inr (Or.inr (Or.inl ⟨rfl, _, _, _, rfl, Nat.le_of_ble_eq_true h1, by assumption, h2⟩)))
      · cases h2
    · cases e
  · split at e
    · obtain ⟨h1, h2⟩ := zcond e
      split at h2
      · obtain ⟨h3, h4⟩ := zck_inv h2
        split at h4
        · exact Or.inr (Or.inr (Or.inr (Or.inr (Or.inl ⟨rfl, _, _, _, _, _, rfl, Nat.le_of_ble_eq_true h1, by assumption, h3, by assumption, h4⟩))))
        · cases h4
      · cases h2
    · cases e
  · exact Or.inr (Or.inr (Or.inr (Or.inr (Or.inr ⟨rfl, e⟩))))
  · cases e
end ZINV
end
section
abbrev aV : Type := Nat ⊕ Value
abbrev aLs : Type := List (Option aV)
abbrev aSt : Type := List aV
abbrev aEn : Type := List (Nat × Nat)
abbrev aT : Type := List (List (List (List Nat)))
abbrev aHp : Type := List (List (zS × aT)) × Option (Nat × (Nat → Nat → Int64) × Nat × Nat)
abbrev aFm : Type := Nat × Nat × Nat × Nat × aLs × aSt × Bool × Nat × Nat
abbrev aF : Type := Nat → aEn → List aFm → Nat → Nat → Nat → aLs → aSt → aHp → Bool
def afo (c : Nat) (k : Nat → Bool) : Bool := match c with
  | 0 => k 0
  | n + 1 => k (n + 1)
set_option maxRecDepth 100000 in
theorem afo_eq (c : Nat) (k : Nat → Bool) : afo c k = k c := by cases c <;> rfl
noncomputable def agt {α : Type} (l : List α) : Nat → Option α := List.rec (motive := fun _ => Nat → Option α) (fun _ => none) (fun a _ ih n => Nat.rec (motive := fun _ => Option α) (some a) (fun m _ => ih m) n) l
set_option maxRecDepth 100000 in
theorem agt_eq {α : Type} : ∀ (l : List α) (n : Nat), agt l n = zat l n
  | [], _ => rfl
  | _ :: _, 0 => rfl
  | _ :: l, n + 1 => agt_eq l n
noncomputable def agd {α : Type} (d : α) (l : List α) : Nat → α := List.rec (motive := fun _ => Nat → α) (fun _ => d) (fun a _ ih n => Nat.rec (motive := fun _ => α) a (fun m _ => ih m) n) l
noncomputable def asd {α : Type} (d : α) (n : Nat) (x : α) : List α → (List α → Bool) → Bool := Nat.rec (motive := fun _ => List α → (List α → Bool) → Bool)
  (fun l k => List.rec (motive := fun _ => Bool) (k [x]) (fun _ t _ => k (x :: t)) l)
  (fun _ ih l k => List.rec (motive := fun _ => Bool) (ih [] fun r => k (d :: r)) (fun a t _ => ih t fun r => k (a :: r)) l) n
def asl {α : Type} (d : α) : Nat → α → List α → List α
  | 0, x, [] => [x]
  | 0, x, _ :: t => x :: t
  | n + 1, x, [] => d :: asl d n x []
  | n + 1, x, a :: t => a :: asl d n x t
set_option maxRecDepth 100000 in
theorem asd_eq {α : Type} (d : α) (x : α) : ∀ (n : Nat) (l : List α) (k : List α → Bool), asd d n x l k = k (asl d n x l)
  | 0, [], _ => rfl
  | 0, _ :: _, _ => rfl
  | n + 1, [], k => asd_eq d x n [] (fun r => k (d :: r))
  | n + 1, a :: t, k => asd_eq d x n t (fun r => k (a :: r))
set_option maxRecDepth 100000 in
theorem agd_asl {α : Type} (d : α) (x : α) : ∀ (n : Nat) (l : List α) (j : Nat), agd d (asl d n x l) j = if j = n then x else agd d l j
  | 0, [], 0 => rfl
  | 0, [], j + 1 => rfl
  | 0, _ :: _, 0 => rfl
  | 0, _ :: _, j + 1 => rfl
  | n + 1, [], 0 => rfl
  | n + 1, [], j + 1 => by
    have := agd_asl d x n [] j
    show agd d (asl d n x []) j = _
    rw [this]
    by_cases hj : j = n
    · rw [if_pos hj, if_pos (by omega)]
    · rw [if_neg hj, if_neg (by omega)]
      rfl
  | n + 1, a :: t, 0 => rfl
  | n + 1, a :: t, j + 1 => by
    have := agd_asl d x n t j
    show agd d (asl d n x t) j = _
    rw [this]
    by_cases hj : j = n
    · rw [if_pos hj, if_pos (by omega)]
    · rw [if_neg hj, if_neg (by omega)]
      rfl
set_option maxRecDepth 100000 in
theorem asl_zset {α : Type} (d : α) (x : α) : ∀ (n : Nat) (l : List α), n < l.length → asl d n x l = zset l n x
  | _, [], h => absurd h (Nat.not_lt_zero _)
  | 0, _ :: _, _ => rfl
  | n + 1, a :: t, h => congrArg (a :: ·) (asl_zset d x n t (Nat.lt_of_succ_lt_succ h))
set_option maxRecDepth 100000 in
theorem asl_app {α : Type} (d : α) (x : α) : ∀ (l : List α), asl d l.length x l = l ++ [x]
  | [] => rfl
  | a :: t => congrArg (a :: ·) (asl_app d x t)
set_option maxRecDepth 100000 in
theorem zat_lt {α : Type} : ∀ {l : List α} {n : Nat} {x : α}, zat l n = some x → n < l.length
  | [], _, _, h => nomatch h
  | _ :: _, 0, _, _ => Nat.succ_pos _
  | _ :: _, n + 1, _, h => Nat.succ_lt_succ (zat_lt h)
set_option maxRecDepth 100000 in
theorem zat_zset {α : Type} : ∀ (l : List α) (n : Nat) (x : α) (j : Nat), n < l.length → zat (zset l n x) j = if j = n then some x else zat l j
  | [], _, _, _, h => absurd h (Nat.not_lt_zero _)
  | _ :: _, 0, _, 0, _ => rfl
  | _ :: _, 0, _, j + 1, _ => rfl
  | _ :: _, n + 1, _, 0, _ => rfl
  | _ :: l, n + 1, x, j + 1, h => by
    have := zat_zset l n x j (Nat.lt_of_succ_lt_succ h)
    show zat (zset l n x) j = _
    rw [this]
    by_cases hj : j = n
    · rw [if_pos hj, if_pos (by omega)]
    · rw [if_neg hj, if_neg (by omega)]
      rfl
set_option maxRecDepth 100000 in
theorem zat_app {α : Type} : ∀ (l : List α) (x : α) (j : Nat), zat (l ++ [x]) j = if j = l.length then some x else zat l j
  | [], _, 0 => rfl
  | [], _, j + 1 => rfl
  | _ :: _, _, 0 => rfl
  | _ :: l, x, j + 1 => by
    have := zat_app l x j
    show zat (l ++ [x]) j = _
    rw [this]
    by_cases hj : j = l.length
    · rw [if_pos hj, if_pos (by simp [hj])]
    · rw [if_neg hj, if_neg (by simp only [List.length_cons]; omega)]
      rfl
def azb (c : Nat) : Int32 := Int32.ofInt ((c : Int) - 2147483648)
def aze (x : Int32) : Nat := (x.toInt + 2147483648).toNat
def arel (V : Nat → Int32) (c : Nat) (x : Int32) : Prop := (c < 4294967296 → x.toInt + 2147483648 = (c : Int)) ∧ (4294967296 ≤ c → c < 1152921504606846976 → x = V (c / 4294967296 - 1))
def aenv (V : Nat → Int32) (env : aEn) : Prop := ∀ i lo hi, zat env i = some (lo, hi) → (lo : Int) ≤ (V i).toInt + 2147483648 ∧ (V i).toInt + 2147483648 ≤ (hi : Int)
set_option maxRecDepth 100000 in
theorem alo (x : Int32) : 0 ≤ x.toInt + 2147483648 ∧ x.toInt + 2147483648 < 4294967296 := by
  have h1 := x.le_toInt
  have h2 := x.toInt_lt
  omega
set_option maxRecDepth 100000 in
theorem arel_top (V : Nat → Int32) (x : Int32) : arel V 1152921504606846976 x := ⟨fun h => absurd h (by decide), fun _ h => absurd h (by decide)⟩
set_option maxRecDepth 100000 in
theorem arel_of {V : Nat → Int32} {c : Nat} {x : Int32} (h : x.toInt + 2147483648 = (c : Int)) : arel V c x := ⟨fun _ => h, fun h1 => by have := alo x; omega⟩
set_option maxRecDepth 100000 in
theorem arel_enc (V : Nat → Int32) (x : Int32) : arel V (aze x) x := arel_of (by have := alo x; unfold aze; omega)
set_option maxRecDepth 100000 in
theorem azb_of {c : Nat} {x : Int32} (h : x.toInt + 2147483648 = (c : Int)) : azb c = x := by
  unfold azb
  rw [← h, show x.toInt + 2147483648 - 2147483648 = x.toInt by omega]
  exact Int32.ofInt_toInt x
set_option maxRecDepth 100000 in
theorem arel_eq {V : Nat → Int32} {c : Nat} {x y : Int32} (h : arel V c x) (hc : c < 4294967296) (k : arel V c y) : x = y := Int32.toInt_inj.mp (by have := h.1 hc; have := k.1 hc; omega)
set_option maxRecDepth 100000 in
theorem arel_var (V : Nat → Int32) {i : Nat} (hi : i < 268435455) : arel V (4294967296 * (i + 1)) (V i) := by
  refine ⟨fun h => by omega, fun _ _ => ?_⟩
  rw [Nat.mul_div_cancel_left _ (by decide)]
  rfl
def aOK (E : zE) (V : Nat → Int32) : Prop := (∀ i, i < 6 → V i = E.2 i) ∧ V 6 = E.2 0 &&& 63
noncomputable def ares (env : aEn) (c : Nat) (k : Nat → Bool) : Bool := cond (Nat.blt c 4294967296) (k c) (cond (Nat.blt c 1152921504606846976) (match agt env (c / 4294967296 - 1) with
  | some (lo, hi) => cond (Nat.beq lo hi) (k lo) (k c)
  | none => k c) (k c))
set_option maxRecDepth 100000 in
theorem abl {a b : Nat} : Nat.blt a b = true ↔ a < b := ⟨fun h => Nat.le_of_ble_eq_true h, fun h => Nat.ble_eq_true_of_le h⟩
set_option maxRecDepth 100000 in
theorem abl0 {a b : Nat} (h : Nat.blt a b = false) : b ≤ a := by
  by_cases h1 : a < b
  · rw [abl.mpr h1] at h; cases h
  · omega
set_option maxRecDepth 100000 in
theorem abe {a b : Nat} : Nat.ble a b = true ↔ a ≤ b := ⟨fun h => Nat.le_of_ble_eq_true h, fun h => Nat.ble_eq_true_of_le h⟩
set_option maxRecDepth 100000 in
theorem abe0 {a b : Nat} (h : Nat.ble a b = false) : b < a := by
  by_cases h1 : a ≤ b
  · rw [abe.mpr h1] at h; cases h
  · omega
set_option maxRecDepth 100000 in
theorem abq {a b : Nat} (h : Nat.beq a b = true) : a = b := Nat.eq_of_beq_eq_true h
set_option maxRecDepth 100000 in
theorem abq0 {a b : Nat} (h : Nat.beq a b = false) : a ≠ b := Nat.ne_of_beq_eq_false h
set_option maxRecDepth 100000 in
theorem ares_s {V : Nat → Int32} {env : aEn} (he : aenv V env) {c : Nat} {x : Int32} (hr : arel V c x) {k : Nat → Bool} (h : ares env c k = true) : ∃ c', arel V c' x ∧ k c' = true := by
  unfold ares at h
  cases h1 : Nat.blt c 4294967296 with
  | true => rw [h1] at h; exact ⟨c, hr, h⟩
  | false =>
    rw [h1] at h
    cases h2 : Nat.blt c 1152921504606846976 with
    | false => rw [h2] at h; exact ⟨c, hr, h⟩
    | true =>
      rw [h2] at h
      simp only [cond_true, cond_false] at h
      split at h
      · rename_i lo hi hz
        cases h3 : Nat.beq lo hi with
        | false => rw [h3] at h; exact ⟨c, hr, h⟩
        | true =>
          rw [h3] at h
          rw [agt_eq] at hz
          have h4 := he _ _ _ hz
          have h5 := abq h3
          have h6 := hr.2 (abl0 h1) (abl.mp h2)
          subst h5
          refine ⟨lo, arel_of ?_, h⟩
          rw [h6]
          omega
      · exact ⟨c, hr, h⟩
noncomputable def aset (env : aEn) (i lo hi : Nat) (k : aEn → Bool) : Bool := afo lo fun lo => afo hi fun hi => asd (0, 4294967296) i (lo, hi) env k
set_option maxRecDepth 100000 in
theorem aset_s {V : Nat → Int32} {env : aEn} (he : aenv V env) {i lo hi : Nat} (h1 : (lo : Int) ≤ (V i).toInt + 2147483648) (h2 : (V i).toInt + 2147483648 ≤ (hi : Int)) {l0 h0 : Nat} (hz : agt env i = some (l0, h0)) {k : aEn → Bool} (h : aset env i lo hi k = true) : ∃ env', aenv V env' ∧ k env' = true := by
  unfold aset at h
  rw [afo_eq, afo_eq, asd_eq] at h
  refine ⟨_, ?_, h⟩
  rw [agt_eq] at hz
  have hlt := zat_lt hz
  rw [asl_zset _ _ _ _ hlt]
  intro j a b hj
  rw [zat_zset _ _ _ _ hlt] at hj
  by_cases hji : j = i
  · rw [if_pos hji] at hj
    cases hj
    rw [hji]
    exact ⟨h1, h2⟩
  · rw [if_neg hji] at hj
    exact he _ _ _ hj
noncomputable def avar (env : aEn) (c : Nat) (d : Bool) (k : Nat → Nat → Nat → Bool) : Bool := cond (Nat.blt c 1152921504606846976) (match agt env (c / 4294967296 - 1) with
  | some (lo, hi) => k (c / 4294967296 - 1) lo hi
  | none => d) d
set_option maxRecDepth 100000 in
theorem avar_s {env : aEn} {c : Nat} {d : Bool} {k : Nat → Nat → Nat → Bool} (h : avar env c d k = true) : d = true ∨ ∃ lo hi, agt env (c / 4294967296 - 1) = some (lo, hi) ∧ c < 1152921504606846976 ∧ k (c / 4294967296 - 1) lo hi = true := by
  unfold avar at h
  cases h2 : Nat.blt c 1152921504606846976 with
  | false => rw [h2] at h; exact Or.inl h
  | true =>
    rw [h2] at h
    simp only [cond_true] at h
    split at h
    · rename_i lo hi hz
      exact Or.inr ⟨lo, hi, hz, abl.mp h2, h⟩
    · exact Or.inl h
noncomputable def alt (env : aEn) (x y : Nat) (kt kf : aEn → Bool) : Bool :=
  cond (Nat.blt x 4294967296)
    (cond (Nat.blt y 4294967296) (cond (Nat.blt x y) (kt env) (kf env))
      (avar env y (kt env && kf env) fun i lo hi => cond (Nat.blt x hi) (aset env i (cond (Nat.ble lo x) (x + 1) lo) hi kt) true && cond (Nat.ble lo x) (aset env i lo (cond (Nat.ble hi x) hi x) kf) true))
    (cond (Nat.blt y 4294967296)
      (avar env x (kt env && kf env) fun i lo hi => cond (Nat.blt lo y) (aset env i lo (cond (Nat.blt hi y) hi (y - 1)) kt) true && cond (Nat.ble y hi) (aset env i (cond (Nat.ble y lo) lo y) hi kf) true)
      (kt env && kf env))
set_option maxRecDepth 100000 in
theorem alt_s {V : Nat → Int32} {env : aEn} (he : aenv V env) {cx cy : Nat} {x y : Int32} (hx : arel V cx x) (hy : arel V cy y) {kt kf : aEn → Bool} (h : alt env cx cy kt kf = true) : (x < y → ∃ env', aenv V env' ∧ kt env' = true) ∧ (¬ x < y → ∃ env', aenv V env' ∧ kf env' = true) := by
  have hb : ∀ {P : Prop}, (kt env && kf env) = true → (P → ∃ env', aenv V env' ∧ kt env' = true) ∧ (¬ P → ∃ env', aenv V env' ∧ kf env' = true) := by
    intro P hh
    rw [Bool.and_eq_true] at hh
    exact ⟨fun _ => ⟨env, he, hh.1⟩, fun _ => ⟨env, he, hh.2⟩⟩
  rw [Int32.lt_iff_toInt_lt]
  unfold alt at h
  have lx := alo x
  have ly := alo y
  cases h1 : Nat.blt cx 4294967296 with
  | true =>
    have e1 := hx.1 (abl.mp h1)
    rw [h1] at h
    cases h2 : Nat.blt cy 4294967296 with
    | true =>
      have e2 := hy.1 (abl.mp h2)
      rw [h2] at h
      cases h3 : Nat.blt cx cy with
      | true =>
        have e3 := abl.mp h3
        rw [h3] at h
        exact ⟨fun _ => ⟨env, he, h⟩, fun hn => by omega⟩
      | false =>
        have e3 := abl0 h3
        rw [h3] at h
        exact ⟨fun hn => by omega, fun _ => ⟨env, he, h⟩⟩
    | false =>
      rw [h2] at h
      simp only [cond_true, cond_false] at h
      rcases avar_s h with h | ⟨lo, hi, hz, hc, h⟩
      · exact hb h
      · have e2 := hy.2 (abl0 h2) hc
        rw [agt_eq] at hz
        have e3 := he _ _ _ hz
        rw [← agt_eq] at hz
        rw [← e2] at e3
        rw [Bool.and_eq_true] at h
        constructor
        · intro hlt
          have h4 := h.1
          rw [abl.mpr (show cx < hi by omega)] at h4
          refine aset_s he ?_ ?_ hz h4
          · rw [← e2]
            cases h5 : Nat.ble lo cx with
            | true => simp only [cond_true]; omega
            | false => simp only [cond_false]; omega
          · rw [← e2]; omega
        · intro hlt
          have h4 := h.2
          have h6 : Nat.ble lo cx = true := abe.mpr (by omega)
          rw [h6] at h4
          refine aset_s he ?_ ?_ hz h4
          · rw [← e2]; omega
          · rw [← e2]
            cases h5 : Nat.ble hi cx with
            | true => simp only [cond_true]; omega
            | false => simp only [cond_false]; omega
  | false =>
    rw [h1] at h
    cases h2 : Nat.blt cy 4294967296 with
    | false =>
      rw [h2] at h
      exact hb h
    | true =>
      rw [h2] at h
      have e2 := hy.1 (abl.mp h2)
      simp only [cond_true, cond_false] at h
      rcases avar_s h with h | ⟨lo, hi, hz, hc, h⟩
      · exact hb h
      · have e1 := hx.2 (abl0 h1) hc
        rw [agt_eq] at hz
        have e3 := he _ _ _ hz
        rw [← agt_eq] at hz
        rw [← e1] at e3
        rw [Bool.and_eq_true] at h
        constructor
        · intro hlt
          have h4 := h.1
          rw [abl.mpr (show lo < cy by omega)] at h4
          refine aset_s he ?_ ?_ hz h4
          · rw [← e1]; omega
          · rw [← e1]
            cases h5 : Nat.blt hi cy with
            | true => simp only [cond_true]; omega
            | false => simp only [cond_false]; omega
        · intro hlt
          have h4 := h.2
          rw [abe.mpr (show cy ≤ hi by omega)] at h4
          refine aset_s he ?_ ?_ hz h4
          · rw [← e1]
            cases h5 : Nat.ble cy lo with
            | true => simp only [cond_true]; omega
            | false => simp only [cond_false]; omega
          · rw [← e1]; omega
noncomputable def aeqv (env : aEn) (i lo hi c : Nat) (kt kf : aEn → Bool) : Bool :=
  cond (Nat.ble lo c && Nat.ble c hi) (aset env i c c kt && cond (Nat.beq lo c) (cond (Nat.blt c hi) (aset env i (c + 1) hi kf) true) (cond (Nat.beq hi c) (aset env i lo (c - 1) kf) (aset env i lo (c - 1) kf && aset env i (c + 1) hi kf))) (kf env)
noncomputable def aeq (env : aEn) (x y : Nat) (kt kf : aEn → Bool) : Bool :=
  cond (Nat.blt x 4294967296)
    (cond (Nat.blt y 4294967296) (cond (Nat.beq x y) (kt env) (kf env)) (avar env y (kt env && kf env) fun i lo hi => aeqv env i lo hi x kt kf))
    (cond (Nat.blt y 4294967296) (avar env x (kt env && kf env) fun i lo hi => aeqv env i lo hi y kt kf) (kt env && kf env))
set_option maxRecDepth 100000 in
theorem aeqv_s {V : Nat → Int32} {env : aEn} (he : aenv V env) {i lo hi c : Nat} (hz : agt env i = some (lo, hi)) {kt kf : aEn → Bool} (h : aeqv env i lo hi c kt kf = true) : ((V i).toInt + 2147483648 = (c : Int) → ∃ env', aenv V env' ∧ kt env' = true) ∧ (¬ ((V i).toInt + 2147483648 = (c : Int)) → ∃ env', aenv V env' ∧ kf env' = true) := by
  have e3 := he _ _ _ (by rw [← agt_eq]; exact hz)
  unfold aeqv at h
  cases h1 : (Nat.ble lo c && Nat.ble c hi) with
  | false =>
    rw [h1] at h
    refine ⟨fun hn => ?_, fun _ => ⟨env, he, h⟩⟩
    rw [abe.mpr (show lo ≤ c by omega), abe.mpr (show c ≤ hi by omega)] at h1
    cases h1
  | true =>
    rw [h1] at h
    simp only [cond_true, Bool.and_eq_true] at h
    rw [Bool.and_eq_true, abe, abe] at h1
    constructor
    · intro hn
      exact aset_s he (by omega) (by omega) hz h.1
    · intro hn
      have h4 := h.2
      cases h5 : Nat.beq lo c with
      | true =>
        have h6 := abq h5
        rw [h5] at h4
        rw [abl.mpr (show c < hi by omega)] at h4
        simp only [cond_true] at h4
        exact aset_s he (by omega) (by omega) hz h4
      | false =>
        rw [h5] at h4
        cases h7 : Nat.beq hi c with
        | true =>
          have h8 := abq h7
          have h9 := abq0 h5
          rw [h7] at h4
          exact aset_s he (by omega) (by omega) hz h4
        | false =>
          have h8 := abq0 h7
          have h9 := abq0 h5
          rw [h7] at h4
          simp only [cond_false, Bool.and_eq_true] at h4
          by_cases h10 : (V i).toInt + 2147483648 < (c : Int)
          · exact aset_s he (by omega) (by omega) hz h4.1
          · exact aset_s he (by omega) (by omega) hz h4.2
set_option maxRecDepth 100000 in
theorem aeq_s {V : Nat → Int32} {env : aEn} (he : aenv V env) {cx cy : Nat} {x y : Int32} (hx : arel V cx x) (hy : arel V cy y) {kt kf : aEn → Bool} (h : aeq env cx cy kt kf = true) : (x = y → ∃ env', aenv V env' ∧ kt env' = true) ∧ (¬ x = y → ∃ env', aenv V env' ∧ kf env' = true) := by
  have hb : ∀ {P : Prop}, (kt env && kf env) = true → (P → ∃ env', aenv V env' ∧ kt env' = true) ∧ (¬ P → ∃ env', aenv V env' ∧ kf env' = true) := by
    intro P hh
    rw [Bool.and_eq_true] at hh
    exact ⟨fun _ => ⟨env, he, hh.1⟩, fun _ => ⟨env, he, hh.2⟩⟩
  rw [← Int32.toInt_inj]
  unfold aeq at h
  cases h1 : Nat.blt cx 4294967296 with
  | true =>
    have e1 := hx.1 (abl.mp h1)
    rw [h1] at h
    cases h2 : Nat.blt cy 4294967296 with
    | true =>
      have e2 := hy.1 (abl.mp h2)
      rw [h2] at h
      cases h3 : Nat.beq cx cy with
      | true =>
        have e3 := abq h3
        rw [h3] at h
        exact ⟨fun _ => ⟨env, he, h⟩, fun hn => by omega⟩
      | false =>
        have e3 := abq0 h3
        rw [h3] at h
        exact ⟨fun hn => by omega, fun _ => ⟨env, he, h⟩⟩
    | false =>
      rw [h2] at h
      simp only [cond_true, cond_false] at h
      rcases avar_s h with h | ⟨lo, hi, hz, hc, h⟩
      · exact hb h
      · have e2 := hy.2 (abl0 h2) hc
        have h9 := aeqv_s he hz h
        rw [← e2] at h9
        exact ⟨fun hn => h9.1 (by omega), fun hn => h9.2 (by omega)⟩
  | false =>
    rw [h1] at h
    cases h2 : Nat.blt cy 4294967296 with
    | false =>
      rw [h2] at h
      exact hb h
    | true =>
      rw [h2] at h
      have e2 := hy.1 (abl.mp h2)
      simp only [cond_true, cond_false] at h
      rcases avar_s h with h | ⟨lo, hi, hz, hc, h⟩
      · exact hb h
      · have e1 := hx.2 (abl0 h1) hc
        have h9 := aeqv_s he hz h
        rw [← e1] at h9
        exact ⟨fun hn => h9.1 (by omega), fun hn => h9.2 (by omega)⟩
def aVR (V : Nat → Int32) : aV → Value → Prop
  | .inl c, v => ∃ x, v = .int x ∧ arel V c x
  | .inr w, v => v = w
def aSR (V : Nat → Int32) : aSt → List Value → Prop
  | [], [] => True
  | a :: l, v :: m => aVR V a v ∧ aSR V l m
  | [], _ :: _ => False
  | _ :: _, [] => False
def aoR (V : Nat → Int32) : Option aV → Option Value → Prop
  | none, _ => True
  | some a, o => ∃ v, o = some v ∧ aVR V a v
def aLR (V : Nat → Int32) : aLs → zLs → Prop
  | [], [] => True
  | a :: l, v :: m => aoR V a v ∧ aLR V l m
  | [], _ :: _ => False
  | _ :: _, [] => False
set_option maxRecDepth 100000 in
theorem aSR_ci {V : Nat → Int32} {c : Nat} {x : Int32} {a : aSt} {s : List Value} (h : arel V c x) (hs : aSR V a s) : aSR V (.inl c :: a) (.int x :: s) := ⟨⟨x, rfl, h⟩, hs⟩
set_option maxRecDepth 100000 in
theorem aSR_co {V : Nat → Int32} {w : Value} {a : aSt} {s : List Value} (hs : aSR V a s) : aSR V (.inr w :: a) (w :: s) := ⟨rfl, hs⟩
set_option maxRecDepth 100000 in
theorem aSR_cv {V : Nat → Int32} {v : aV} {w : Value} {a : aSt} {s : List Value} (h : aVR V v w) (hs : aSR V a s) : aSR V (v :: a) (w :: s) := ⟨h, hs⟩
set_option maxRecDepth 100000 in
theorem aSR_i {V : Nat → Int32} {c : Nat} {a : aSt} : ∀ {s : List Value}, aSR V (.inl c :: a) s → ∃ x r, s = .int x :: r ∧ arel V c x ∧ aSR V a r
  | [], h => nomatch h
  | _ :: r, ⟨⟨x, e, h1⟩, h2⟩ => ⟨x, r, by rw [e], h1, h2⟩
set_option maxRecDepth 100000 in
theorem aSR_o {V : Nat → Int32} {w : Value} {a : aSt} : ∀ {s : List Value}, aSR V (.inr w :: a) s → ∃ r, s = w :: r ∧ aSR V a r
  | [], h => nomatch h
  | _ :: r, ⟨e, h2⟩ => ⟨r, by rw [show _ = w from e], h2⟩
set_option maxRecDepth 100000 in
theorem aSR_v {V : Nat → Int32} {v : aV} {a : aSt} : ∀ {s : List Value}, aSR V (v :: a) s → ∃ w r, s = w :: r ∧ aVR V v w ∧ aSR V a r
  | [], h => nomatch h
  | w :: r, ⟨e, h2⟩ => ⟨w, r, rfl, e, h2⟩
set_option maxRecDepth 100000 in
theorem aSR_n {V : Nat → Int32} : ∀ {s : List Value}, aSR V [] s → s = []
  | [], _ => rfl
  | _ :: _, h => nomatch h
set_option maxRecDepth 100000 in
theorem aLR_at {V : Nat → Int32} : ∀ {a : aLs} {l : zLs} {i : Nat} {v : aV}, aLR V a l → zat a i = some (some v) → ∃ w, zat l i = some (some w) ∧ aVR V v w
  | [], _, _, _, _, h => nomatch h
  | _ :: _, [], _, _, h, _ => nomatch h
  | o :: a, p :: l, 0, v, h, e => by
    cases (Option.some.inj e)
    obtain ⟨w, e1, h1⟩ := h.1
    exact ⟨w, congrArg some e1, h1⟩
  | o :: a, p :: l, i + 1, v, h, e => aLR_at (a := a) (l := l) h.2 e
def aKl (n : Nat) (o : Option aV) : Option aV := match n with
  | 0 => (match o with
    | some (.inr (.long _)) => none
    | o => o)
  | _ + 1 => o
noncomputable def akl (n : Nat) (o : Option aV) (k : Option aV → Bool) : Bool := match n with
  | 0 => (match o with
    | some (.inr (.long _)) => k none
    | o => k o)
  | _ + 1 => k o
set_option maxRecDepth 100000 in
theorem akl_eq (n : Nat) (o : Option aV) (k : Option aV → Bool) : akl n o k = k (aKl n o) := by
  cases n with
  | zero =>
    cases o with
    | none => rfl
    | some a =>
      cases a with
      | inl c => rfl
      | inr w => cases w <;> rfl
  | succ n => rfl
noncomputable def ast (v : aV) (n : Nat) : aLs → (aLs → Bool) → Bool := Nat.rec (motive := fun _ => aLs → (aLs → Bool) → Bool)
  (fun l k => List.rec (motive := fun _ => Bool) (k []) (fun _ t _ => k (some v :: t)) l)
  (fun m ih l k => List.rec (motive := fun _ => Bool) (k []) (fun o t _ => akl m o (fun o' => ih t (fun r => k (o' :: r)))) l) n
def asl2 (v : aV) : Nat → aLs → aLs
  | _, [] => []
  | 0, _ :: t => some v :: t
  | n + 1, o :: t => aKl n o :: asl2 v n t
set_option maxRecDepth 100000 in
theorem ast_eq (v : aV) : ∀ (n : Nat) (l : aLs) (k : aLs → Bool), ast v n l k = k (asl2 v n l)
  | 0, [], _ => rfl
  | 0, _ :: _, _ => rfl
  | n + 1, [], k => rfl
  | n + 1, o :: t, k => by
    show akl n o (fun o' => ast v n t (fun r => k (o' :: r))) = _
    rw [akl_eq, ast_eq v n t]
    rfl
set_option maxRecDepth 100000 in
theorem aKl_s {V : Nat → Int32} {n : Nat} {a : Option aV} {o : Option Value} (h : aoR V a o) : aoR V (aKl n a) (zkl n o) := by
  cases n with
  | succ n => exact h
  | zero =>
    cases a with
    | none => exact trivial
    | some a =>
      obtain ⟨v, e, hv⟩ := h
      subst e
      cases a with
      | inl c =>
        obtain ⟨x, e, hx⟩ := hv
        subst e
        exact ⟨_, rfl, _, rfl, hx⟩
      | inr w =>
        have e : v = w := hv
        subst e
        cases v <;> first | exact trivial | exact ⟨_, rfl, rfl⟩
set_option maxRecDepth 100000 in
theorem ast_s {V : Nat → Int32} {v : aV} {w : Value} (hv : aVR V v w) : ∀ {n : Nat} {a : aLs} {l : zLs}, aLR V a l → aLR V (asl2 v n a) (zstl l n w)
  | 0, [], [], _ => trivial
  | _ + 1, [], [], _ => trivial
  | 0, [], _ :: _, h => nomatch h
  | _ + 1, [], _ :: _, h => nomatch h
  | 0, _ :: _, [], h => nomatch h
  | _ + 1, _ :: _, [], h => nomatch h
  | 0, _ :: a, _ :: l, h => ⟨⟨w, rfl, hv⟩, h.2⟩
  | n + 1, o :: a, p :: l, h => ⟨aKl_s h.1, ast_s hv (n := n) h.2⟩
set_option maxRecDepth 100000 in
theorem ast_si {V : Nat → Int32} {c n : Nat} {x : Int32} {a : aLs} {l : zLs} (h : arel V c x) (hl : aLR V a l) : aLR V (asl2 (.inl c) n a) (zstl l n (.int x)) := ast_s (v := .inl c) (w := .int x) ⟨x, rfl, h⟩ hl
set_option maxRecDepth 100000 in
theorem ast_so {V : Nat → Int32} {n : Nat} {w : Value} {a : aLs} {l : zLs} (hl : aLR V a l) : aLR V (asl2 (.inr w) n a) (zstl l n w) := ast_s (v := .inr w) (w := w) rfl hl
noncomputable def asu : aSt → Nat := fun l => List.rec (motive := fun _ => Nat) 0 (fun v _ ih => (match v with
  | .inl _ => 1
  | .inr w => zcw w) + ih) l
set_option maxRecDepth 100000 in
theorem asu_s {V : Nat → Int32} : ∀ {a : aSt} {s : List Value}, aSR V a s → zsum s = asu a
  | [], [], _ => rfl
  | [], _ :: _, h => nomatch h
  | _ :: _, [], h => nomatch h
  | .inl c :: a, v :: s, h => by
    obtain ⟨⟨x, e, -⟩, h2⟩ := h
    subst e
    show 1 + zsum s = 1 + asu a
    rw [asu_s h2]
  | .inr w :: a, v :: s, h => by
    obtain ⟨e, h2⟩ := h
    have e : v = w := e
    subst e
    show zcw v + zsum s = zcw v + asu a
    rw [asu_s h2]
def ac1 : aV → Bool
  | .inl _ => true
  | .inr w => zc1 w
set_option maxRecDepth 100000 in
theorem ac1_s {V : Nat → Int32} {a : aV} {v : Value} (h : aVR V a v) : zc1 v = ac1 a := by
  cases a with
  | inl c => obtain ⟨x, e, -⟩ := h; subst e; rfl
  | inr w => have e : v = w := h; subst e; rfl
set_option maxRecDepth 100000 in
theorem aal_s {V : Nat → Int32} : ∀ {a : aSt} {s : List Value}, aSR V a s → s.all zc1 = a.all ac1
  | [], [], _ => rfl
  | [], _ :: _, h => nomatch h
  | _ :: _, [], h => nomatch h
  | a :: l, v :: s, h => by
    rw [List.all_cons, List.all_cons, ac1_s h.1, aal_s h.2]
noncomputable def apop (n : Nat) : aSt → aSt → (aSt → aSt → Bool) → Bool := Nat.rec (motive := fun _ => aSt → aSt → (aSt → aSt → Bool) → Bool)
  (fun st acc k => k acc st)
  (fun _ ih st acc k => List.rec (motive := fun _ => Bool) false (fun v t _ => ih t (v :: acc) k) st) n
set_option maxRecDepth 100000 in
theorem apop_s {V : Nat → Int32} : ∀ {n : Nat} {a b : aSt} {s t : List Value} {k : aSt → aSt → Bool}, aSR V a s → aSR V b t → apop n a b k = true → ∃ as ar ss sr, zpop n s t = some (ss, sr) ∧ aSR V as ss ∧ aSR V ar sr ∧ k as ar = true
  | 0, a, b, s, t, k, h1, h2, h => ⟨b, a, t, s, rfl, h2, h1, h⟩
  | n + 1, [], _, _, _, _, _, _, h => nomatch h
  | n + 1, v :: a, b, [], t, k, h1, _, _ => nomatch h1
  | n + 1, v :: a, b, w :: s, t, k, h1, h2, h => apop_s (n := n) (a := a) (b := v :: b) (s := s) (t := w :: t) (k := k) h1.2 ⟨h1.1, h2⟩ h
noncomputable def arep (n : Nat) : (aLs → Bool) → Bool := Nat.rec (motive := fun _ => (aLs → Bool) → Bool) (fun k => k []) (fun _ ih k => ih (fun r => k (none :: r))) n
set_option maxRecDepth 100000 in
theorem arep_eq : ∀ (n : Nat) (k : aLs → Bool), arep n k = k (List.replicate n none)
  | 0, _ => rfl
  | n + 1, k => arep_eq n (fun r => k (none :: r))
noncomputable def aent (l : aSt) : Nat → (aLs → Bool) → Bool := List.rec (motive := fun _ => Nat → (aLs → Bool) → Bool) (fun n k => arep n k)
  (fun v _ ih n k => Nat.rec (motive := fun _ => Bool) false (fun m _ => ih m (fun r => k (some v :: r))) n) l
set_option maxRecDepth 100000 in
theorem aLR_rep (V : Nat → Int32) : ∀ n : Nat, aLR V (List.replicate n none) (List.replicate n none)
  | 0 => trivial
  | n + 1 => ⟨trivial, aLR_rep V n⟩
set_option maxRecDepth 100000 in
theorem aent_s {V : Nat → Int32} : ∀ {a : aSt} {s : List Value} {n : Nat} {k : aLs → Bool}, aSR V a s → aent a n k = true → ∃ l, aLR V l (zent n s) ∧ k l = true
  | [], [], n, k, _, h => ⟨List.replicate n none, aLR_rep V n, (arep_eq n k).symm.trans (show arep n k = true from h)⟩
  | [], _ :: _, _, _, h, _ => nomatch h
  | _ :: _, [], _, _, h, _ => nomatch h
  | _ :: _, _ :: _, 0, _, _, h => nomatch h
  | v :: a, w :: s, n + 1, k, h1, h => by
    obtain ⟨l, h2, h3⟩ := aent_s (a := a) (s := s) (n := n) (k := fun r => k (some v :: r)) h1.2 h
    refine ⟨some v :: l, ?_, h3⟩
    have e : zent (n + 1) (w :: s) = some w :: zent n s := by
      unfold zent
      rw [List.length_cons, Nat.add_sub_add_right]
      rfl
    rw [e]
    exact ⟨⟨w, rfl, h1.1⟩, h2⟩
noncomputable def agI (t : aT) (j : Nat) : Nat := agd 2147483648 (agd [] (agd [] (agd [] t (j / 4096)) (j / 256 % 16)) (j / 16 % 16)) (j % 16)
noncomputable def asI (t : aT) (j x : Nat) (k : aT → Bool) : Bool :=
  asd 2147483648 (j % 16) x (agd [] (agd [] (agd [] t (j / 4096)) (j / 256 % 16)) (j / 16 % 16)) fun a =>
  asd [] (j / 16 % 16) a (agd [] (agd [] t (j / 4096)) (j / 256 % 16)) fun b =>
  asd [] (j / 256 % 16) b (agd [] t (j / 4096)) fun c => asd [] (j / 4096) c t k
set_option maxRecDepth 100000 in
theorem agd_nil {α : Type} (d : α) : ∀ j, agd d ([] : List α) j = d := fun _ => rfl
set_option maxRecDepth 100000 in
theorem asI_s {t : aT} {j x : Nat} {k : aT → Bool} (h : asI t j x k = true) : ∃ t', (∀ i, agI t' i = if i = j then x else agI t i) ∧ k t' = true := by
  unfold asI at h
  rw [asd_eq, asd_eq, asd_eq, asd_eq] at h
  refine ⟨_, ?_, h⟩
  intro i
  unfold agI
  rw [agd_asl]
  by_cases h1 : i / 4096 = j / 4096
  · rw [if_pos h1, agd_asl]
    by_cases h2 : i / 256 % 16 = j / 256 % 16
    · rw [if_pos h2, agd_asl]
      by_cases h3 : i / 16 % 16 = j / 16 % 16
      · rw [if_pos h3, agd_asl]
        by_cases h4 : i % 16 = j % 16
        · rw [if_pos h4, if_pos (by omega)]
        · rw [if_neg h4, if_neg (by omega), h1, h2, h3]
      · rw [if_neg h3, if_neg (by omega), h1, h2]
    · rw [if_neg h2, if_neg (by omega), h1]
  · rw [if_neg h1, if_neg (by omega)]
noncomputable def aget (cs : List (List (zS × aT))) (a : Nat) : Option (zS × aT) := match agt cs (a / 16) with
  | some r => agt r (a % 16)
  | none => none
noncomputable def aput (cs : List (List (zS × aT))) (a : Nat) (c : zS × aT) (k : List (List (zS × aT)) → Bool) : Bool := match agt cs (a / 16) with
  | some r => asd c (a % 16) c r fun r' => asd [] (a / 16) r' cs k
  | none => false
noncomputable def apu (cs : List (List (zS × aT))) (n : Nat) (c : zS × aT) (k : List (List (zS × aT)) → Bool) : Bool := match agt cs (n / 16) with
  | some r => cond (Nat.beq r.length (n % 16)) (asd c (n % 16) c r fun r' => asd [] (n / 16) r' cs k) false
  | none => cond (Nat.beq cs.length (n / 16) && Nat.beq (n % 16) 0) (asd [] (n / 16) [c] cs k) false
set_option maxRecDepth 100000 in
theorem aget_e (cs : List (List (zS × aT))) (a : Nat) : aget cs a = (match zat cs (a / 16) with
  | some r => zat r (a % 16)
  | none => none) := by
  unfold aget
  rw [agt_eq]
  split
  · exact agt_eq _ _
  · rfl
set_option maxRecDepth 100000 in
theorem aput_s {cs : List (List (zS × aT))} {a : Nat} {c c0 : zS × aT} {k : List (List (zS × aT)) → Bool} (hg : aget cs a = some c0) (h : aput cs a c k = true) : ∃ cs', (∀ b, aget cs' b = if b = a then some c else aget cs b) ∧ k cs' = true := by
  rw [aget_e] at hg
  unfold aput at h
  rw [agt_eq] at h
  split at h
  · rename_i r hr
    rw [hr] at hg
    have hg : zat r (a % 16) = some c0 := hg
    rw [asd_eq, asd_eq] at h
    refine ⟨_, ?_, h⟩
    intro b
    rw [aget_e, aget_e, asl_zset _ _ _ _ (zat_lt hr), asl_zset _ _ _ _ (zat_lt hg), zat_zset _ _ _ _ (zat_lt hr)]
    by_cases h1 : b / 16 = a / 16
    · rw [if_pos h1]
      simp only
      rw [zat_zset _ _ _ _ (zat_lt hg), h1, hr]
      by_cases h2 : b % 16 = a % 16
      · rw [if_pos h2, if_pos (by omega)]
      · rw [if_neg h2, if_neg (by omega)]
    · rw [if_neg h1, if_neg (by omega)]
  · cases h
set_option maxRecDepth 100000 in
theorem apu_s {cs : List (List (zS × aT))} {a : Nat} {c : zS × aT} {k : List (List (zS × aT)) → Bool} (h : apu cs a c k = true) : ∃ cs', (∀ b, aget cs' b = if b = a then some c else aget cs b) ∧ k cs' = true := by
  unfold apu at h
  rw [agt_eq] at h
  split at h
  · rename_i r hr
    cases hl : Nat.beq r.length (a % 16) with
    | false => rw [hl] at h; cases h
    | true =>
      have hl2 := abq hl
      rw [hl, cond_true, asd_eq, asd_eq] at h
      refine ⟨_, ?_, h⟩
      intro b
      rw [aget_e, aget_e, asl_zset _ _ _ _ (zat_lt hr), zat_zset _ _ _ _ (zat_lt hr), ← hl2, asl_app]
      by_cases h1 : b / 16 = a / 16
      · rw [if_pos h1]
        simp only
        rw [zat_app, h1, hr]
        by_cases h2 : b % 16 = r.length
        · rw [if_pos h2, if_pos (by omega)]
        · rw [if_neg h2, if_neg (by omega)]
      · rw [if_neg h1, if_neg (by omega)]
  · rename_i hr
    cases hl : (Nat.beq cs.length (a / 16) && Nat.beq (a % 16) 0) with
    | false => rw [hl] at h; cases h
    | true =>
      rw [Bool.and_eq_true] at hl
      have hl1 := abq hl.1
      have hl2 := abq hl.2
      rw [hl.1, hl.2] at h
      simp only [Bool.and_self, cond_true] at h
      rw [asd_eq] at h
      refine ⟨_, ?_, h⟩
      intro b
      rw [aget_e, aget_e, ← hl1, asl_app, zat_app]
      by_cases h1 : b / 16 = cs.length
      · rw [if_pos h1]
        have hn : zat cs (b / 16) = none := by rw [h1, hl1]; exact hr
        rw [hn]
        by_cases h2 : b = a
        · rw [if_pos h2, show b % 16 = 0 by omega]
          rfl
        · rw [if_neg h2]
          simp only
          obtain ⟨m, hm⟩ : ∃ m, b % 16 = m + 1 := ⟨b % 16 - 1, by omega⟩
          rw [hm]
          rfl
      · rw [if_neg h1, if_neg (by omega)]
def aHR (V : Nat → Int32) (G : zH) (ah : aHp) (h : zH) : Prop :=
  (∀ k s t, aget ah.1 k = some (s, t) → s ≠ .inr (.inr ()) → zat h.1 k = some s ∧ ∀ j, arel V (agI t j) (h.2.1 k j)) ∧
  (∀ k, (aget ah.1 k = none ∨ ∃ t, aget ah.1 k = some (.inr (.inr ()), t)) → zat h.1 k = zat G.1 k ∧ h.2.1 k = G.2.1 k) ∧
  (match ah.2 with
    | none => h.1.length = G.1.length ∧ h.2.2 = G.2.2
    | some (m, J, c, q) => m = h.1.length ∧ h.2.2.1 = J ∧ h.2.2.2.1 = c ∧ h.2.2.2.2 = q)
set_option maxRecDepth 100000 in
theorem arel0 (V : Nat → Int32) : arel V 2147483648 0 := arel_of rfl
noncomputable def apsh (ah : aHp) (s : zS) (n : Nat) (k : Nat → aHp → Bool) : Bool := match ah.2 with
  | some (m, J, c, q) => apu ah.1 m (s, []) fun cs => afo (m + 1) fun m' => afo (c + 1) fun c' => afo (q + n) fun q' => k m (cs, some (m', zrow J m (fun _ => 0), c', q'))
  | none => false
section AHEAP
variable {V : Nat → Int32} {G : zH} {ah : aHp} {h : zH}
set_option maxRecDepth 100000 in
theorem apsh_s (hr : aHR V G ah h) {s : zS} {n : Nat} {k : Nat → aHp → Bool} (hs : s ≠ .inr (.inr ())) (e : apsh ah s n k = true) : ∃ ah', aHR V G ah' (zpush h s n) ∧ k h.1.length ah' = true := by
  obtain ⟨h2, h3, h4⟩ := hr
  unfold apsh at e
  split at e
  · rename_i m J c q hq
    rw [hq] at h4
    obtain ⟨g1, g2, g3, g4⟩ := h4
    subst g1
    obtain ⟨cs, hc, e⟩ := apu_s e
    rw [afo_eq, afo_eq, afo_eq] at e
    refine ⟨_, ⟨?_, ?_, ?_⟩, e⟩
    · intro k s' t hk hs'
      have hk : aget cs k = some (s', t) := hk
      rw [hc] at hk
      show zat (h.1 ++ [s]) k = _ ∧ ∀ j, arel V (agI t j) (zrow h.2.1 h.1.length (fun _ => 0) k j)
      rw [zat_app]
      by_cases hkl : k = h.1.length
      · rw [if_pos hkl] at hk ⊢
        cases hk
        refine ⟨rfl, fun j => ?_⟩
        rw [hkl, zrow_at]
        exact arel0 V
      · rw [if_neg hkl] at hk ⊢
        rw [zrow_ne _ _ hkl]
        exact h2 k s' t hk hs'
    · intro k hk
      have hk : aget cs k = none ∨ ∃ t, aget cs k = some (.inr (.inr ()), t) := hk
      rw [hc] at hk
      by_cases hkl : k = h.1.length
      · rw [if_pos hkl] at hk
        rcases hk with hk | ⟨t, hk⟩
        · cases hk
        · cases hk
          exact absurd rfl hs
      · rw [if_neg hkl] at hk
        show zat (h.1 ++ [s]) k = _ ∧ zrow h.2.1 h.1.length (fun _ => 0) k = _
        rw [zat_app, if_neg hkl, zrow_ne _ _ hkl]
        exact h3 k hk
    · refine ⟨?_, ?_, ?_, ?_⟩
      · show h.1.length + 1 = (h.1 ++ [s]).length
        rw [List.length_append]
        rfl
      · show zrow h.2.2.1 h.1.length (fun _ => 0) = zrow J h.1.length (fun _ => 0)
        rw [g2]
      · show h.2.2.2.1 + 1 = _
        rw [g3]
      · show h.2.2.2.2 + n = _
        rw [g4]
  · cases e
set_option maxRecDepth 100000 in
theorem aI_s (hr : aHR V G ah h) {a : Nat} {s : zS} {t t' : aT} (hg : aget ah.1 a = some (s, t)) (hs : s ≠ .inr (.inr ())) {f : Nat → Int32} (hf : ∀ j, arel V (agI t' j) (f j)) {k : List (List (zS × aT)) → Bool} (e : aput ah.1 a (s, t') k = true) : ∃ cs, aHR V G (cs, ah.2) (zsetI h a f) ∧ k cs = true := by
  obtain ⟨h2, h3, h4⟩ := hr
  obtain ⟨cs, hc, e⟩ := aput_s hg e
  refine ⟨cs, ⟨?_, ?_, h4⟩, e⟩
  · intro k s' t9 hk hs'
    have hk : aget cs k = some (s', t9) := hk
    rw [hc] at hk
    show zat h.1 k = _ ∧ ∀ j, arel V (agI t9 j) (zrow h.2.1 a f k j)
    by_cases hka : k = a
    · rw [if_pos hka] at hk
      cases hk
      rw [hka, zrow_at]
      exact ⟨(h2 a _ _ hg hs).1, hf⟩
    · rw [if_neg hka] at hk
      rw [zrow_ne _ _ hka]
      exact h2 k _ _ hk hs'
  · intro k hk
    have hk : aget cs k = none ∨ ∃ t, aget cs k = some (.inr (.inr ()), t) := hk
    rw [hc] at hk
    by_cases hka : k = a
    · rw [if_pos hka] at hk
      rcases hk with hk | ⟨t, hk⟩
      · cases hk
      · cases hk
        exact absurd rfl hs
    · rw [if_neg hka] at hk
      show zat h.1 k = _ ∧ zrow h.2.1 a f k = _
      rw [zrow_ne _ _ hka]
      exact h3 k hk
set_option maxRecDepth 100000 in
theorem aS_s (hr : aHR V G ah h) {a : Nat} {s s' : zS} {t : aT} (hg : aget ah.1 a = some (s, t)) (hs : s ≠ .inr (.inr ())) (hs' : s' ≠ .inr (.inr ())) {k : List (List (zS × aT)) → Bool} (e : aput ah.1 a (s', t) k = true) : ∃ cs, aHR V G (cs, ah.2) (zsetS h a s') ∧ k cs = true := by
  obtain ⟨h2, h3, h4⟩ := hr
  obtain ⟨cs, hc, e⟩ := aput_s hg e
  have hlt := zat_lt (h2 a _ _ hg hs).1
  refine ⟨cs, ⟨?_, ?_, ?_⟩, e⟩
  · intro k s9 t9 hk hs9
    have hk : aget cs k = some (s9, t9) := hk
    rw [hc] at hk
    show zat (zset h.1 a s') k = _ ∧ ∀ j, arel V (agI t9 j) (h.2.1 k j)
    rw [zat_zset _ _ _ _ hlt]
    by_cases hka : k = a
    · rw [if_pos hka] at hk
      cases hk
      rw [if_pos hka, hka]
      exact ⟨rfl, (h2 a _ _ hg hs).2⟩
    · rw [if_neg hka] at hk
      rw [if_neg hka]
      exact h2 k _ _ hk hs9
  · intro k hk
    have hk : aget cs k = none ∨ ∃ t, aget cs k = some (.inr (.inr ()), t) := hk
    rw [hc] at hk
    by_cases hka : k = a
    · rw [if_pos hka] at hk
      rcases hk with hk | ⟨t, hk⟩
      · cases hk
      · cases hk
        exact absurd rfl hs'
    · rw [if_neg hka] at hk
      show zat (zset h.1 a s') k = _ ∧ h.2.1 k = _
      rw [zat_zset _ _ _ _ hlt, if_neg hka]
      exact h3 k hk
  · show match ah.2 with
    | none => (zset h.1 a s').length = G.1.length ∧ h.2.2 = G.2.2
    | some (m, J, c, q) => m = (zset h.1 a s').length ∧ h.2.2.1 = J ∧ h.2.2.2.1 = c ∧ h.2.2.2.2 = q
    rw [zset_eq, List.length_set]
    exact h4
end AHEAP
end
section
abbrev bIv : Type := List (List (Nat × List (Int × Int)))
def ivt0 : List (Nat × List (Int × Int)) := [(1, [((-2147483648), 2147483647), ((-2147483648), 2147483647), ((-2147483648), 2147483647), ((-2147483648), 2147483647), ((-2147483648), 2147483647), ((-2147483648), 2147483647), ((-2147483648), 2147483647), ((-2147483648), 2147483647), ((-2147483648), 2147483647), ((-2147483648), 2147483647)]), (1, [((-2147483648), 2147483647), (0, 400), (0, 3), (0, 400), (0, 400), ((-2147483648), 2147483647)]), (0, [((-2147483648), 2147483647)]), (1, [((-2147483648), 2147483647), ((-2147483648), 2147483647), ((-2147483648), 2147483647)]), (1, [(0, 12), (0, 20), (0, 8), (0, 12), ((-2147483648), 2147483647), ((-2147483648), 2147483647), ((-2147483648), 2147483647), ((-2147483648), 2147483647), ((-2147483648), 2147483647)]), (0, [(0, 4)]), (0, [((-2147483648), 2147483647)]), (0, [((-2147483648), 2147483647)]), (0, [(0, 12)]), (0, [(0, 11)]), (1, [((-1), 12), (0, 400), ((-2147483648), 2147483647), ((-2147483648), 2147483647), ((-2147483648), 2147483647), ((-2147483648), 2147483647), ((-2147483648), 2147483647), ((-2147483648), 2147483647)]), (0, [((-2147483648), 2147483647)]), (0, [((-2147483648), 2147483647)]), (0, [(0, 400)]), (0, [(0, 400)]), (0, [((-2147483648), 2147483647)])]
def ivt1 : List (Nat × List (Int × Int)) := [(0, [((-2147483648), 2147483647)]), (0, [((-2147483648), 2147483647)]), (1, [((-2147483648), 2147483647), ((-2147483648), 2147483647), ((-2147483648), 2147483647), ((-2147483648), 2147483647), ((-2147483648), 2147483647), ((-2147483648), 2147483647), ((-2147483648), 2147483647), ((-2147483648), 2147483647), ((-2147483648), 2147483647), ((-2147483648), 2147483647), ((-2147483648), 2147483647), ((-2147483648), 2147483647), ((-2147483648), 2147483647)]), (0, [(0, 100)]), (0, [(0, 11)]), (0, [(0, 100)]), (0, [(0, 99)]), (0, [((-2147483648), 2147483647)]), (0, [((-2147483648), 2147483647)]), (1, [((-2147483648), 2147483647), (0, 80), (0, 79)]), (0, [((-2147483648), 2147483647)]), (1, [((-2147483648), 2147483647), ((-2147483648), 2147483647), (0, 12), (0, 11)]), (0, [((-2147483648), 2147483647)]), (0, [((-2147483648), 2147483647)]), (1, [((-2147483648), 2147483647), ((-2147483648), 2147483647), ((-2147483648), 2147483647), ((-2147483648), 2147483647), (0, 1)]), (1, [(0, 12), (0, 20), (0, 8), (0, 12), ((-2147483648), 2147483647), ((-2147483648), 2147483647), ((-2147483648), 2147483647), ((-2147483648), 2147483647), ((-2147483648), 2147483647)])]
def ivt2 : List (Nat × List (Int × Int)) := [(0, [(0, 4)]), (0, [((-2147483648), 2147483647)]), (0, [((-2147483648), 2147483647)]), (0, [(0, 12)]), (0, [(0, 11)]), (1, [((-1), 12), (0, 400), ((-2147483648), 2147483647), ((-2147483648), 2147483647), ((-2147483648), 2147483647), ((-2147483648), 2147483647), ((-2147483648), 2147483647), ((-2147483648), 2147483647)]), (0, [((-2147483648), 2147483647)]), (0, [((-2147483648), 2147483647)]), (0, [(0, 400)]), (0, [(0, 400)]), (0, [((-2147483648), 2147483647)]), (0, [((-2147483648), 2147483647)]), (1, [((-2147483648), 2147483647), ((-2147483648), 2147483647), ((-2147483648), 2147483647), ((-2147483648), 2147483647), ((-2147483648), 2147483647), ((-2147483648), 2147483647), ((-2147483648), 2147483647), ((-2147483648), 2147483647), ((-2147483648), 2147483647), ((-2147483648), 2147483647), ((-2147483648), 2147483647), ((-2147483648), 2147483647), ((-2147483648), 2147483647)]), (0, [(0, 100)]), (0, [(0, 11)]), (0, [(0, 100)])]
def ivt3 : List (Nat × List (Int × Int)) := [(0, [(0, 99)]), (0, [((-2147483648), 2147483647)]), (0, [((-2147483648), 2147483647)]), (1, [((-2147483648), 2147483647), (0, 80), (0, 79)]), (0, [((-2147483648), 2147483647)]), (1, [((-2147483648), 2147483647), ((-2147483648), 2147483647)]), (1, [((-2147483648), 2147483647), ((-2147483648), 2147483647), ((-2147483648), 2147483647), ((-2147483648), 2147483647), ((-2147483648), 2147483647), ((-2147483648), 2147483647), ((-2147483648), 2147483647), ((-2147483648), 2147483647), ((-2147483648), 2147483647), ((-2147483648), 2147483647), ((-2147483648), 2147483647), ((-2147483648), 2147483647), ((-2147483648), 2147483647)]), (0, [(0, 100)]), (0, [(0, 11)]), (0, [(0, 100)]), (0, [(0, 99)]), (0, [((-2147483648), 2147483647)]), (0, [((-2147483648), 2147483647)]), (0, [((-2147483648), 2147483647)]), (1, [((-2147483648), 2147483647), ((-2147483648), 2147483647), ((-2147483648), 2147483647), ((-2147483648), 2147483647), ((-2147483648), 2147483647), ((-2147483648), 2147483647)]), (1, [(0, 12), (0, 20), (0, 8), (0, 12), ((-2147483648), 2147483647), ((-2147483648), 2147483647), ((-2147483648), 2147483647), ((-2147483648), 2147483647), ((-2147483648), 2147483647)])]
def ivt4 : List (Nat × List (Int × Int)) := [(0, [(0, 4)]), (0, [((-2147483648), 2147483647)]), (0, [((-2147483648), 2147483647)]), (0, [(0, 12)]), (0, [(0, 11)]), (1, [((-2147483648), 2147483647), ((-2147483648), 2147483647), ((-2147483648), 2147483647), ((-2147483648), 2147483647), ((-2147483648), 2147483647), ((-2147483648), 2147483647), ((-2147483648), 2147483647), ((-2147483648), 2147483647), ((-2147483648), 2147483647), ((-2147483648), 2147483647), ((-2147483648), 2147483647), ((-2147483648), 2147483647), ((-2147483648), 2147483647)]), (0, [(0, 100)]), (0, [(0, 11)]), (0, [(0, 100)]), (0, [(0, 99)]), (0, [((-2147483648), 2147483647)]), (0, [((-2147483648), 2147483647)]), (1, [((-2147483648), 2147483647), ((-2147483648), 2147483647)]), (1, [((-1), 12), (0, 400), ((-2147483648), 2147483647), ((-2147483648), 2147483647), ((-2147483648), 2147483647), ((-2147483648), 2147483647), ((-2147483648), 2147483647), ((-2147483648), 2147483647)]), (0, [((-2147483648), 2147483647)]), (0, [((-2147483648), 2147483647)])]
def ivt5 : List (Nat × List (Int × Int)) := [(0, [(0, 400)]), (0, [(0, 400)]), (0, [((-2147483648), 2147483647)]), (0, [((-2147483648), 2147483647)]), (1, [((-2147483648), 2147483647), ((-2147483648), 2147483647), ((-2147483648), 2147483647), ((-2147483648), 2147483647), ((-2147483648), 2147483647), ((-2147483648), 2147483647), (0, 1), (0, 12), ((-2147483648), 2147483647), (0, 400), (0, 400), (0, 400), (0, 400), (0, 6), ((-2147483648), 2147483647), ((-2147483648), 2147483647), (0, 400), ((-2147483648), 2147483647), ((-2147483648), 2147483647)]), (2, []), (2, []), (2, []), (2, []), (3, []), (0, [((-128), 127)]), (0, [((-2147483648), 2147483647)]), (0, [((-2147483648), 2147483647)]), (0, [((-2147483648), 2147483647)]), (0, [((-2147483648), 2147483647)]), (1, [((-2147483648), 2147483647), ((-2147483648), 2147483647), ((-2147483648), 2147483647), ((-2147483648), 2147483647), ((-2147483648), 2147483647), ((-2147483648), 2147483647), ((-2147483648), 2147483647), ((-2147483648), 2147483647), ((-2147483648), 2147483647), ((-2147483648), 2147483647), ((-2147483648), 2147483647), ((-2147483648), 2147483647), ((-2147483648), 2147483647)])]
def ivt6 : List (Nat × List (Int × Int)) := [(0, [(0, 100)]), (0, [(0, 11)]), (0, [(0, 100)]), (0, [(0, 99)]), (0, [((-2147483648), 2147483647)]), (0, [((-2147483648), 2147483647)]), (1, [((-2147483648), 2147483647), (0, 80), (0, 79)]), (0, [((-2147483648), 2147483647)]), (1, [((-2147483648), 2147483647), ((-2147483648), 2147483647), ((-2147483648), 2147483647), ((-2147483648), 2147483647), ((-2147483648), 2147483647), ((-2147483648), 2147483647), ((-2147483648), 2147483647), ((-2147483648), 2147483647), ((-2147483648), 2147483647), ((-2147483648), 2147483647), ((-2147483648), 2147483647), ((-2147483648), 2147483647), ((-2147483648), 2147483647)]), (0, [(0, 100)]), (0, [(0, 11)]), (0, [(0, 100)]), (0, [(0, 99)]), (0, [((-2147483648), 2147483647)]), (0, [((-2147483648), 2147483647)]), (1, [((-2147483648), 2147483647), (0, 80), (0, 79)])]
def ivt7 : List (Nat × List (Int × Int)) := [(0, [((-2147483648), 2147483647)]), (1, [((-2147483648), 2147483647), ((-2147483648), 2147483647), ((-2147483648), 2147483647), ((-2147483648), 2147483647), ((-2147483648), 2147483647), ((-2147483648), 2147483647), ((-2147483648), 2147483647), ((-2147483648), 2147483647), ((-2147483648), 2147483647), ((-2147483648), 2147483647), ((-2147483648), 2147483647), ((-2147483648), 2147483647), ((-2147483648), 2147483647)]), (0, [(0, 100)]), (0, [(0, 11)]), (0, [(0, 100)]), (0, [(0, 99)]), (0, [((-2147483648), 2147483647)]), (0, [((-2147483648), 2147483647)]), (1, [((-2147483648), 2147483647), (0, 80), (0, 79)]), (0, [((-2147483648), 2147483647)]), (1, [((-2147483648), 2147483647), ((-2147483648), 2147483647), ((-2147483648), 2147483647), ((-2147483648), 2147483647), ((-2147483648), 2147483647), ((-2147483648), 2147483647), ((-2147483648), 2147483647), ((-2147483648), 2147483647), ((-2147483648), 2147483647), ((-2147483648), 2147483647), ((-2147483648), 2147483647), ((-2147483648), 2147483647), ((-2147483648), 2147483647)]), (0, [(0, 100)]), (0, [(0, 11)]), (0, [(0, 100)]), (0, [(0, 99)]), (0, [((-2147483648), 2147483647)])]
def ivt8 : List (Nat × List (Int × Int)) := [(0, [((-2147483648), 2147483647)]), (1, [((-2147483648), 2147483647), (0, 80), (0, 79)]), (0, [((-2147483648), 2147483647)]), (1, [((-2147483648), 2147483647), ((-2147483648), 2147483647), ((-2147483648), 2147483647), ((-2147483648), 2147483647), ((-2147483648), 2147483647), ((-2147483648), 2147483647), ((-2147483648), 2147483647), ((-2147483648), 2147483647), ((-2147483648), 2147483647), ((-2147483648), 2147483647), ((-2147483648), 2147483647), ((-2147483648), 2147483647), ((-2147483648), 2147483647)]), (0, [(0, 100)]), (0, [(0, 11)]), (0, [(0, 100)]), (0, [(0, 99)]), (0, [((-2147483648), 2147483647)]), (0, [((-2147483648), 2147483647)]), (1, [((-2147483648), 2147483647), (0, 80), (0, 79)]), (0, [((-2147483648), 2147483647)]), (1, [((-2147483648), 2147483647), ((-2147483648), 2147483647), ((-2147483648), 2147483647), ((-2147483648), 2147483647), ((-2147483648), 2147483647), ((-2147483648), 2147483647), ((-2147483648), 2147483647), ((-2147483648), 2147483647), ((-2147483648), 2147483647), ((-2147483648), 2147483647), ((-2147483648), 2147483647), ((-2147483648), 2147483647), ((-2147483648), 2147483647)]), (0, [(0, 100)]), (0, [(0, 11)]), (0, [(0, 100)])]
def ivt9 : List (Nat × List (Int × Int)) := [(0, [(0, 99)]), (0, [((-2147483648), 2147483647)]), (0, [((-2147483648), 2147483647)]), (1, [((-2147483648), 2147483647), (0, 80), (0, 79)]), (0, [((-2147483648), 2147483647)]), (1, [((-2147483648), 2147483647), ((-2147483648), 2147483647), ((-2147483648), 2147483647), ((-2147483648), 2147483647), ((-2147483648), 2147483647), ((-2147483648), 2147483647), ((-2147483648), 2147483647), ((-2147483648), 2147483647), ((-2147483648), 2147483647), ((-2147483648), 2147483647), ((-2147483648), 2147483647), ((-2147483648), 2147483647), ((-2147483648), 2147483647)]), (0, [(0, 100)]), (0, [(0, 11)]), (0, [(0, 100)]), (0, [(0, 99)]), (0, [((-2147483648), 2147483647)]), (0, [((-2147483648), 2147483647)]), (1, [((-2147483648), 2147483647), (0, 80), (0, 79)]), (0, [((-2147483648), 2147483647)]), (1, [((-2147483648), 2147483647), ((-2147483648), 2147483647), ((-2147483648), 2147483647), ((-2147483648), 2147483647), ((-2147483648), 2147483647), ((-2147483648), 2147483647), ((-2147483648), 2147483647), ((-2147483648), 2147483647), ((-2147483648), 2147483647), ((-2147483648), 2147483647), ((-2147483648), 2147483647), ((-2147483648), 2147483647), ((-2147483648), 2147483647)]), (0, [(0, 100)])]
def ivt10 : List (Nat × List (Int × Int)) := [(0, [(0, 11)]), (0, [(0, 100)]), (0, [(0, 99)]), (0, [((-2147483648), 2147483647)]), (0, [((-2147483648), 2147483647)]), (1, [((-2147483648), 2147483647), (0, 80), (0, 79)]), (0, [((-2147483648), 2147483647)]), (1, [((-2147483648), 2147483647), ((-2147483648), 2147483647), ((-2147483648), 2147483647), ((-2147483648), 2147483647), ((-2147483648), 2147483647), ((-2147483648), 2147483647), ((-2147483648), 2147483647), ((-2147483648), 2147483647), ((-2147483648), 2147483647), ((-2147483648), 2147483647), ((-2147483648), 2147483647), ((-2147483648), 2147483647), ((-2147483648), 2147483647)]), (0, [(0, 100)]), (0, [(0, 11)]), (0, [(0, 100)]), (0, [(0, 99)]), (0, [((-2147483648), 2147483647)]), (0, [((-2147483648), 2147483647)]), (1, [((-2147483648), 2147483647), (0, 80), (0, 79)]), (0, [((-2147483648), 2147483647)])]
def ivt11 : List (Nat × List (Int × Int)) := [(1, [((-2147483648), 2147483647), ((-2147483648), 2147483647), ((-2147483648), 2147483647), ((-2147483648), 2147483647), ((-2147483648), 2147483647), ((-2147483648), 2147483647), ((-2147483648), 2147483647), ((-2147483648), 2147483647), ((-2147483648), 2147483647), ((-2147483648), 2147483647), ((-2147483648), 2147483647), ((-2147483648), 2147483647), ((-2147483648), 2147483647)]), (0, [(0, 100)]), (0, [(0, 11)]), (0, [(0, 100)]), (0, [(0, 99)]), (0, [((-2147483648), 2147483647)]), (0, [((-2147483648), 2147483647)]), (1, [((-2147483648), 2147483647), (0, 80), (0, 79)]), (0, [((-2147483648), 2147483647)]), (1, [((-2147483648), 2147483647), ((-2147483648), 2147483647), ((-2147483648), 2147483647), ((-2147483648), 2147483647), ((-2147483648), 2147483647), ((-2147483648), 2147483647), ((-2147483648), 2147483647), ((-2147483648), 2147483647), ((-2147483648), 2147483647), ((-2147483648), 2147483647), ((-2147483648), 2147483647), ((-2147483648), 2147483647), ((-2147483648), 2147483647)]), (0, [(0, 100)]), (0, [(0, 11)]), (0, [(0, 100)]), (0, [(0, 99)]), (0, [((-2147483648), 2147483647)]), (0, [((-2147483648), 2147483647)])]
def ivt12 : List (Nat × List (Int × Int)) := [(1, [((-2147483648), 2147483647), (0, 80), (0, 79)]), (0, [((-2147483648), 2147483647)]), (1, [((-2147483648), 2147483647), ((-2147483648), 2147483647), ((-2147483648), 2147483647), ((-2147483648), 2147483647), ((-2147483648), 2147483647), ((-2147483648), 2147483647), ((-2147483648), 2147483647), ((-2147483648), 2147483647), ((-2147483648), 2147483647), ((-2147483648), 2147483647), ((-2147483648), 2147483647), ((-2147483648), 2147483647), ((-2147483648), 2147483647)]), (0, [(0, 100)]), (0, [(0, 11)]), (0, [(0, 100)]), (0, [(0, 99)]), (0, [((-2147483648), 2147483647)]), (0, [((-2147483648), 2147483647)]), (1, [((-2147483648), 2147483647), (0, 80), (0, 79)]), (0, [((-2147483648), 2147483647)])]
def ivt : List (List (Nat × List (Int × Int))) := [ivt0, ivt1, ivt2, ivt3, ivt4, ivt5, ivt6, ivt7, ivt8, ivt9, ivt10, ivt11, ivt12]
def unt0 : List (Nat × Nat) := [(1, 0), (1, 10), (0, 16), (1, 17), (1, 20), (0, 29), (0, 30), (0, 31), (0, 32), (0, 33), (1, 34), (0, 42), (0, 43), (0, 44), (0, 45), (0, 46)]
def unt1 : List (Nat × Nat) := [(0, 47), (0, 48), (1, 49), (0, 62), (0, 63), (0, 64), (0, 65), (0, 66), (0, 67), (1, 68), (0, 71), (1, 72), (0, 76), (0, 77), (1, 78), (1, 83)]
def unt2 : List (Nat × Nat) := [(0, 92), (0, 93), (0, 94), (0, 95), (0, 96), (1, 97), (0, 105), (0, 106), (0, 107), (0, 108), (0, 109), (0, 110), (1, 111), (0, 124), (0, 125), (0, 126)]
def unt3 : List (Nat × Nat) := [(0, 127), (0, 128), (0, 129), (1, 130), (0, 133), (1, 134), (1, 136), (0, 149), (0, 150), (0, 151), (0, 152), (0, 153), (0, 154), (0, 155), (1, 156), (1, 162)]
def unt4 : List (Nat × Nat) := [(0, 171), (0, 172), (0, 173), (0, 174), (0, 175), (1, 176), (0, 189), (0, 190), (0, 191), (0, 192), (0, 193), (0, 194), (1, 195), (1, 197), (0, 205), (0, 206)]
def unt5 : List (Nat × Nat) := [(0, 207), (0, 208), (0, 209), (0, 210), (1, 211), (0, 230), (0, 231), (0, 232), (0, 233), (0, 234), (0, 235), (0, 236), (0, 237), (0, 238), (0, 239), (1, 240)]
def unt6 : List (Nat × Nat) := [(0, 253), (0, 254), (0, 255), (0, 256), (0, 257), (0, 258), (1, 259), (0, 262), (1, 263), (0, 276), (0, 277), (0, 278), (0, 279), (0, 280), (0, 281), (1, 282)]
def unt7 : List (Nat × Nat) := [(0, 285), (1, 286), (0, 299), (0, 300), (0, 301), (0, 302), (0, 303), (0, 304), (1, 305), (0, 308), (1, 309), (0, 322), (0, 323), (0, 324), (0, 325), (0, 326)]
def unt8 : List (Nat × Nat) := [(0, 327), (1, 328), (0, 331), (1, 332), (0, 345), (0, 346), (0, 347), (0, 348), (0, 349), (0, 350), (1, 351), (0, 354), (1, 355), (0, 368), (0, 369), (0, 370)]
def unt9 : List (Nat × Nat) := [(0, 371), (0, 372), (0, 373), (1, 374), (0, 377), (1, 378), (0, 391), (0, 392), (0, 393), (0, 394), (0, 395), (0, 396), (1, 397), (0, 400), (1, 401), (0, 414)]
def unt10 : List (Nat × Nat) := [(0, 415), (0, 416), (0, 417), (0, 418), (0, 419), (1, 420), (0, 423), (1, 424), (0, 437), (0, 438), (0, 439), (0, 440), (0, 441), (0, 442), (1, 443), (0, 446)]
def unt11 : List (Nat × Nat) := [(1, 447), (0, 460), (0, 461), (0, 462), (0, 463), (0, 464), (0, 465), (1, 466), (0, 469), (1, 470), (0, 483), (0, 484), (0, 485), (0, 486), (0, 487), (0, 488)]
def unt12 : List (Nat × Nat) := [(1, 489), (0, 492), (1, 493), (0, 506), (0, 507), (0, 508), (0, 509), (0, 510), (0, 511), (1, 512), (0, 515)]
def unt : List (List (Nat × Nat)) := [unt0, unt1, unt2, unt3, unt4, unt5, unt6, unt7, unt8, unt9, unt10, unt11, unt12]
def ctb0 : List (zS) := [.inr (.inl (11, [some (some 1), some (some 3), some (some 18), some (some 25), some (some 27), some (some 30), some (some 53), some (some 62), some (some 76), none])), .inr (.inl (9, [some (some 2), none, none, none, none, none])), .inl (0, 400, []), .inr (.inl (2, [some (some 4), some (some 10), some (some 17)])), .inr (.inl (8, [none, none, none, none, some (some 5), some (some 6), some (some 7), some (some 8), some (some 9)])), .inl (0, 12, []), .inl (0, 12, []), .inl (0, 12, []), .inl (0, 8, []), .inl (0, 96, []), .inr (.inl (5, [none, none, some (some 11), some (some 12), some (some 13), some (some 14), some (some 15), some (some 16)])), .inl (0, 12, []), .inl (0, 12, []), .inl (0, 12, []), .inl (0, 12, []), .inl (0, 400, [])]
def ctb1 : List (zS) := [.inl (2, 32, []), .inl (0, 12, []), .inr (.inl (0, [some (some 19), some (some 20), some (some 21), some (some 22), some (some 23), some (some 24), none, none, none, none, none, none, none])), .inl (0, 12, []), .inl (0, 8, []), .inl (0, 8, []), .inl (0, 8, []), .inl (0, 96, []), .inl (0, 64, []), .inr (.inl (1, [some (some 26), none, none])), .inl (0, 400, []), .inr (.inl (7, [some (some 28), some (some 29), none, none])), .inr (.inr ()), .inr (.inr ()), .inr (.inl (4, [some (some 31), some (some 37), some (some 44), some (some 51), none])), .inr (.inl (8, [none, none, none, none, some (some 32), some (some 33), some (some 34), some (some 35), some (some 36)]))]
def ctb2 : List (zS) := [.inl (0, 12, []), .inl (0, 12, []), .inl (0, 12, []), .inl (0, 8, []), .inl (0, 96, []), .inr (.inl (5, [none, none, some (some 38), some (some 39), some (some 40), some (some 41), some (some 42), some (some 43)])), .inl (0, 12, []), .inl (0, 12, []), .inl (0, 12, []), .inl (0, 12, []), .inl (0, 400, []), .inl (2, 32, []), .inr (.inl (0, [some (some 45), some (some 46), some (some 47), some (some 48), some (some 49), some (some 50), none, none, none, none, none, none, none])), .inl (0, 12, []), .inl (0, 8, []), .inl (0, 8, [])]
def ctb3 : List (zS) := [.inl (0, 8, []), .inl (0, 96, []), .inl (0, 64, []), .inr (.inl (1, [some (some 52), none, none])), .inl (0, 400, []), .inr (.inl (10, [some (some 54), some (some 61)])), .inr (.inl (0, [some (some 55), some (some 56), some (some 57), some (some 58), some (some 59), some (some 60), none, none, none, none, none, none, none])), .inl (0, 12, []), .inl (0, 8, []), .inl (0, 8, []), .inl (0, 8, []), .inl (0, 96, []), .inl (0, 64, []), .inl (0, 12, []), .inr (.inl (3, [some (some 63), some (some 69), none, none, none, none])), .inr (.inl (8, [none, none, none, none, some (some 64), some (some 65), some (some 66), some (some 67), some (some 68)]))]
def ctb4 : List (zS) := [.inl (0, 12, []), .inl (0, 12, []), .inl (0, 12, []), .inl (0, 8, []), .inl (0, 96, []), .inr (.inl (0, [some (some 70), some (some 71), some (some 72), some (some 73), some (some 74), some (some 75), none, none, none, none, none, none, none])), .inl (0, 12, []), .inl (0, 8, []), .inl (0, 8, []), .inl (0, 8, []), .inl (0, 96, []), .inl (0, 64, []), .inr (.inl (6, [some (some 77), none])), .inr (.inl (5, [none, none, some (some 78), some (some 79), some (some 80), some (some 81), some (some 82), some (some 83)])), .inl (0, 12, []), .inl (0, 12, [])]
def ctb5 : List (zS) := [.inl (0, 12, []), .inl (0, 12, []), .inl (0, 400, []), .inl (2, 32, []), .inr (.inl (12, [none, some (some 85), some (some 86), some (some 87), some (some 88), some (some 89), none, none, some (some 90), none, none, none, none, none, none, some (some 91), none, some (some 92), some (some 93)])), .inl (0, 2475, []), .inl (0, 1626, []), .inl (0, 1626, []), .inl (0, 777, []), .inl (0, 9324, []), .inl (1, 400, []), .inl (0, 5, []), .inl (0, 400, []), .inl (0, 12, []), .inl (2, 1, [])]
def ctb : List (List (zS)) := [ctb0, ctb1, ctb2, ctb3, ctb4, ctb5]
def bWc : Nat := 85
def bw13 : List (Int × Int) := [(0, 12), (0, 20), (0, 8), (0, 12), (0, 1), ((-2147483648), 2147483647), ((-2147483648), 2147483647), ((-2147483648), 2147483647), ((-2147483648), 2147483647), ((-2147483648), 2147483647), ((-2147483648), 2147483647), (0, 80), ((-2147483648), 2147483647)]
def bw3 : List (Int × Int) := [(0, 4), (0, 99), (0, 100)]
def bw4 : List (Int × Int) := [(0, 11), (0, 100), (0, 99), (0, 12)]
def bw5 : List (Int × Int) := [(-2147483648, 2147483647), (0, 7), (0, 11), (-2147483648, 2147483647), (0, 11)]
def bw9 : List (Int × Int) := [(-2147483648, 2147483647), (-2147483648, 2147483647), (0, 400), (0, 400)]
/-- the bounds of a row of the reference's -/
noncomputable def bwinv (i : Nat) : Int × Int := cond (Nat.blt i 13) (agd (-2147483648, 2147483647) bw13 i) (cond (Nat.blt i 145) (agd (-2147483648, 2147483647) bw3 ((i - 13) % 11)) (cond (Nat.blt i 185) (0, 11)
  (cond (Nat.blt i 377) (cond (Nat.blt ((i - 185) % 24) 4) (agd (-2147483648, 2147483647) bw4 ((i - 185) % 24)) (cond (Nat.blt ((i - 185) % 24) 16) (0, 11) (-2147483648, 2147483647)))
  (cond (Nat.blt i 777) (agd (-2147483648, 2147483647) bw5 ((i - 377) % 5)) (cond (Nat.beq i 777) (0, 12) (cond (Nat.blt i 826) (agd (-2147483648, 2147483647) bw9 ((i - 778) % 4))
  (cond (Nat.blt i 1626) (cond (Nat.beq ((i - 826) % 2) 0) (-1, 14) (-2147483648, 2147483647))
  (cond (Nat.beq i 1626) (0, 12) (cond (Nat.blt i 1675) (agd (-2147483648, 2147483647) bw9 ((i - 1627) % 4)) (cond (Nat.beq ((i - 1675) % 2) 0) (-1, 14) (-2147483648, 2147483647)))))))))))
end
section
set_option maxRecDepth 100000 in
theorem bcnd {c r : Bool} (h : cond c r false = true) : c = true ∧ r = true := by
  cases c
  · cases h
  · exact ⟨rfl, h⟩
abbrev bT : Type := List (Nat × Int)
abbrev bI : Type := Int × List (Nat × Int)
abbrev bE : Type := List (Int × Int)
abbrev bC : Type := List (Int × List (Nat × Int))
noncomputable def bfo (x : Int) (k : Int → Bool) : Bool := match x with
  | .ofNat n => afo n fun n => k (.ofNat n)
  | .negSucc n => afo n fun n => k (.negSucc n)
set_option maxRecDepth 100000 in
theorem bfo_eq (x : Int) (k : Int → Bool) : bfo x k = k x := by
  cases x with
  | ofNat n => exact afo_eq n (fun n => k (.ofNat n))
  | negSucc n => exact afo_eq n (fun n => k (.negSucc n))
def bLe (a b : Int) : Bool := match b - a with
  | .ofNat _ => true
  | .negSucc _ => false
set_option maxRecDepth 100000 in
theorem bLe_iff {a b : Int} : bLe a b = true ↔ a ≤ b := by
  unfold bLe
  cases h : b - a with
  | ofNat n =>
    simp only [true_iff]
    have : (Int.ofNat n : Int) = (n : Int) := rfl
    omega
  | negSucc n =>
    simp only [Bool.false_eq_true, false_iff]
    have : (Int.negSucc n : Int) = -((n : Int) + 1) := rfl
    omega
set_option maxRecDepth 100000 in
theorem bLe_no {a b : Int} (h : bLe a b = false) : b < a := by
  by_cases h1 : a ≤ b
  · rw [bLe_iff.mpr h1] at h; cases h
  · omega
def bz0 (c : Int) : Bool := match c with
  | .ofNat 0 => true
  | .ofNat (_ + 1) => false
  | .negSucc _ => false
set_option maxRecDepth 100000 in
theorem bz0_s {c : Int} (h : bz0 c = true) : c = 0 := by
  unfold bz0 at h
  split at h
  · rfl
  · cases h
  · cases h
def bev (V : List Int) : bT → Int → Prop
  | [], s => s = 0
  | q :: l, s => ∃ v t, zat V q.1 = some v ∧ bev V l t ∧ s = q.2 * v + t
def brel (V : List Int) (f : bI) (x : Int) : Prop := ∃ s, bev V f.2 s ∧ x = f.1 + s
def benv (V : List Int) (env : bE) : Prop := V.length = env.length ∧ ∀ i lo hi, zat env i = some (lo, hi) → ∃ v, zat V i = some v ∧ lo ≤ v ∧ v ≤ hi
def bcs (V : List Int) (cs : bC) : Prop := ∀ C, C ∈ cs → ∃ x, brel V C x ∧ 0 ≤ x
def bxt (V V' : List Int) : Prop := ∃ U, V' = V ++ U
set_option maxRecDepth 100000 in
theorem bxt_refl (V : List Int) : bxt V V := ⟨[], (List.append_nil V).symm⟩
set_option maxRecDepth 100000 in
theorem bxt_trans {V V' V9 : List Int} (h : bxt V V') (h' : bxt V' V9) : bxt V V9 := by
  obtain ⟨U, rfl⟩ := h
  obtain ⟨U', rfl⟩ := h'
  exact ⟨U ++ U', List.append_assoc V U U'⟩
set_option maxRecDepth 100000 in
theorem zat_up {α : Type} : ∀ {V U : List α} {i : Nat} {v : α}, zat V i = some v → zat (V ++ U) i = some v
  | [], _, _, _, h => nomatch h
  | _ :: _, _, 0, _, h => h
  | _ :: V, U, i + 1, v, h => zat_up (V := V) (U := U) (i := i) h
set_option maxRecDepth 100000 in
theorem bxt_at {V V' : List Int} {i : Nat} {v : Int} (h : bxt V V') (e : zat V i = some v) : zat V' i = some v := by
  obtain ⟨U, rfl⟩ := h
  exact zat_up e
set_option maxRecDepth 100000 in
theorem bev_up {V V' : List Int} (h : bxt V V') : ∀ {l : bT} {s : Int}, bev V l s → bev V' l s
  | [], _, e => e
  | _ :: l, _, ⟨v, t, h1, h2, h3⟩ => ⟨v, t, bxt_at h h1, bev_up h (l := l) h2, h3⟩
set_option maxRecDepth 100000 in
theorem bev_f {V : List Int} : ∀ {l : bT} {s t : Int}, bev V l s → bev V l t → s = t
  | [], _, _, e, e' => Eq.trans e (Eq.symm e')
  | _ :: l, s, t, ⟨v, a, h1, h2, h3⟩, ⟨v', a', h1', h2', h3'⟩ => by
    rw [h1] at h1'
    cases h1'
    rw [bev_f (l := l) h2 h2'] at h3
    rw [h3, h3']
set_option maxRecDepth 100000 in
theorem brel_up {V V' : List Int} (h : bxt V V') {f : bI} {x : Int} (e : brel V f x) : brel V' f x := by
  obtain ⟨s, h1, h2⟩ := e
  exact ⟨s, bev_up h h1, h2⟩
set_option maxRecDepth 100000 in
theorem brel_f {V : List Int} {f : bI} {x y : Int} (h : brel V f x) (h' : brel V f y) : x = y := by
  obtain ⟨s, h1, h2⟩ := h
  obtain ⟨s', h1', h2'⟩ := h'
  rw [bev_f h1 h1'] at h2
  rw [h2, h2']
set_option maxRecDepth 100000 in
theorem brel_c (V : List Int) (c : Int) : brel V (c, []) c := ⟨0, rfl, (Int.add_zero c).symm⟩
set_option maxRecDepth 100000 in
theorem brel_k {V : List Int} {c x : Int} (h : brel V (c, []) x) : x = c := brel_f h (brel_c V c)
set_option maxRecDepth 100000 in
theorem brel_v {V : List Int} {i : Nat} {v : Int} (h : zat V i = some v) : brel V (0, [(i, 1)]) v := ⟨v, ⟨v, 0, h, rfl, by show v = 1 * v + 0; omega⟩, by show v = 0 + v; omega⟩
set_option maxRecDepth 100000 in
theorem bcs_up {V V' : List Int} (h : bxt V V') {cs : bC} (e : bcs V cs) : bcs V' cs := fun C hC => by
  obtain ⟨x, h1, h2⟩ := e C hC
  exact ⟨x, brel_up h h1, h2⟩
noncomputable def brg (env : bE) (k : Int → Int → Bool) (l : bT) : Int → Int → Bool := List.rec (motive := fun _ => Int → Int → Bool) (fun lo hi => bfo lo fun lo => bfo hi fun hi => k lo hi)
  (fun q _ ih lo hi => match agt env q.1 with
    | some (a, b) => (match q.2 with
      | .ofNat _ => ih (lo + q.2 * a) (hi + q.2 * b)
      | .negSucc _ => ih (lo + q.2 * b) (hi + q.2 * a))
    | none => false) l
/-- what a bound above, b, of a form's value x says of each of its variables -/
def bnq (V : List Int) (env : bE) (l : bT) (d : Int) : Prop := ∀ q, q ∈ l → ∀ a b, zat env q.1 = some (a, b) → ∃ v, zat V q.1 = some v ∧ (q.2 = 1 → b - v ≤ d) ∧ (q.2 = -1 → v - a ≤ d)
set_option maxRecDepth 100000 in
theorem brg_s {V : List Int} {env : bE} (he : benv V env) {k : Int → Int → Bool} : ∀ {l : bT} {lo hi s : Int}, bev V l s → brg env k l lo hi = true → ∃ a b, a ≤ lo + s ∧ hi + s ≤ b ∧ bnq V env l (b - hi - s) ∧ k a b = true
  | [], lo, hi, s, h, e => by
    have h : s = 0 := h
    have e : (bfo lo fun lo => bfo hi fun hi => k lo hi) = true := e
    rw [bfo_eq, bfo_eq] at e
    refine ⟨lo, hi, by omega, by omega, ?_, e⟩
    intro q hq
    cases hq
  | (i, c) :: l, lo, hi, s, ⟨v, t, h1, h2, h3⟩, e => by
    have e : (match agt env i with
      | some (a, b) => (match (generalizing := false) c with
        | .ofNat _ => brg env k l (lo + c * a) (hi + c * b)
        | .negSucc _ => brg env k l (lo + c * b) (hi + c * a))
      | none => false) = true := e
    have h3 : s = c * v + t := h3
    have h1 : zat V i = some v := h1
    split at e
    · rename_i a b hz
      rw [agt_eq] at hz
      obtain ⟨v', h4, h5, h6⟩ := he.2 _ _ _ hz
      rw [h1] at h4
      cases h4
      cases c with
      | ofNat c =>
        have hc : (0 : Int) ≤ Int.ofNat c := Int.natCast_nonneg c
        have m1 := Int.mul_le_mul_of_nonneg_left h5 hc
        have m2 := Int.mul_le_mul_of_nonneg_left h6 hc
        obtain ⟨x, y, g1, g2, g3, g4⟩ := brg_s he (l := l) h2 e
        refine ⟨x, y, by omega, by omega, ?_, g4⟩
        intro q hq a' b' hz'
        cases hq with
        | head =>
          have hz' : zat env i = some (a', b') := hz'
          rw [hz] at hz'
          cases hz'
          refine ⟨v, h1, fun hq => ?_, fun hq => ?_⟩
          · have hq : Int.ofNat c = 1 := hq
            rw [hq] at m1 m2 h3 g2
            omega
          · have hq : Int.ofNat c = -1 := hq
            rw [hq] at hc
            omega
        | tail _ hq =>
          obtain ⟨u, u1, u2, u3⟩ := g3 q hq a' b' hz'
          exact ⟨u, u1, fun hq => by have := u2 hq; omega, fun hq => by have := u3 hq; omega⟩
      | negSucc c =>
        have hc : Int.negSucc c ≤ 0 := Int.le_of_lt (Int.negSucc_lt_zero c)
        have m1 := Int.mul_le_mul_of_nonpos_left hc h5
        have m2 := Int.mul_le_mul_of_nonpos_left hc h6
        obtain ⟨x, y, g1, g2, g3, g4⟩ := brg_s he (l := l) h2 e
        refine ⟨x, y, by omega, by omega, ?_, g4⟩
        intro q hq a' b' hz'
        cases hq with
        | head =>
          have hz' : zat env i = some (a', b') := hz'
          rw [hz] at hz'
          cases hz'
          refine ⟨v, h1, fun hq => ?_, fun hq => ?_⟩
          · have hq : Int.negSucc c = 1 := hq
            rw [hq] at hc
            omega
          · have hq : Int.negSucc c = -1 := hq
            rw [hq] at m1 m2 h3 g2
            omega
        | tail _ hq =>
          obtain ⟨u, u1, u2, u3⟩ := g3 q hq a' b' hz'
          exact ⟨u, u1, fun hq => by have := u2 hq; omega, fun hq => by have := u3 hq; omega⟩
    · cases e
set_option maxRecDepth 100000 in
theorem brgf_s {V : List Int} {env : bE} (he : benv V env) {k : Int → Int → Bool} {f : bI} {x : Int} (h : brel V f x) (e : brg env k f.2 f.1 f.1 = true) : ∃ a b, a ≤ x ∧ x ≤ b ∧ bnq V env f.2 (b - x) ∧ k a b = true := by
  obtain ⟨s, h1, h2⟩ := h
  obtain ⟨a, b, g1, g2, g3, g4⟩ := brg_s he h1 e
  refine ⟨a, b, by omega, by omega, ?_, g4⟩
  rw [show b - x = b - f.1 - s by omega]
  exact g3
noncomputable def bins (i : Nat) (a : Int) (l : bT) : (bT → Bool) → Bool := List.rec (motive := fun _ => (bT → Bool) → Bool) (fun k => k [(i, a)])
  (fun q t ih k => cond (Nat.beq q.1 i) (bfo (q.2 + a) fun c => cond (bz0 c) (k t) (k ((i, c) :: t)))
    (cond (Nat.blt i q.1) (k ((i, a) :: q :: t)) (ih fun r => k (q :: r)))) l
set_option maxRecDepth 100000 in
theorem bins_s {V : List Int} {i : Nat} {a v : Int} (hv : zat V i = some v) : ∀ {l : bT} {s : Int} {k : bT → Bool}, bev V l s → bins i a l k = true → ∃ r, bev V r (a * v + s) ∧ k r = true
  | [], s, k, h, e => ⟨[(i, a)], ⟨v, 0, hv, rfl, by
      have h : s = 0 := h
      rw [h]⟩, e⟩
  | (j, b) :: l, s, k, ⟨w, t, h1, h2, h3⟩, e => by
    have h1 : zat V j = some w := h1
    have h3 : s = b * w + t := h3
    have e : cond (Nat.beq j i) (bfo (b + a) fun c => cond (bz0 c) (k l) (k ((i, c) :: l)))
      (cond (Nat.blt i j) (k ((i, a) :: (j, b) :: l)) (bins i a l fun r => k ((j, b) :: r))) = true := e
    cases hb : Nat.beq j i with
    | true =>
      rw [hb, cond_true, bfo_eq] at e
      have hb := abq hb
      subst hb
      rw [hv] at h1
      cases h1
      have e9 : a * v + s = (b + a) * v + t := by rw [h3, Int.add_mul]; omega
      cases hc : bz0 (b + a) with
      | true =>
        rw [hc, cond_true] at e
        have hc := bz0_s hc
        rw [hc, Int.zero_mul, Int.zero_add] at e9
        rw [e9]
        exact ⟨l, h2, e⟩
      | false =>
        rw [hc, cond_false] at e
        exact ⟨(j, b + a) :: l, ⟨v, t, hv, h2, e9⟩, e⟩
    | false =>
      rw [hb, cond_false] at e
      cases hc : Nat.blt i j with
      | true =>
        rw [hc, cond_true] at e
        exact ⟨(i, a) :: (j, b) :: l, ⟨v, s, hv, ⟨w, t, h1, h2, h3⟩, rfl⟩, e⟩
      | false =>
        rw [hc, cond_false] at e
        obtain ⟨r, g1, g2⟩ := bins_s hv (l := l) (k := fun r => k ((j, b) :: r)) h2 e
        exact ⟨(j, b) :: r, ⟨w, a * v + t, h1, g1, by omega⟩, g2⟩
noncomputable def badd (m : Int) (l : bT) : bT → (bT → Bool) → Bool := List.rec (motive := fun _ => bT → (bT → Bool) → Bool) (fun acc k => k acc) (fun q _ ih acc k => bfo (m * q.2) fun c => bins q.1 c acc fun acc => ih acc k) l
set_option maxRecDepth 100000 in
theorem badd_s {V : List Int} {m : Int} : ∀ {l acc : bT} {s t : Int} {k : bT → Bool}, bev V l s → bev V acc t → badd m l acc k = true → ∃ r, bev V r (m * s + t) ∧ k r = true
  | [], acc, s, t, k, h, h', e => ⟨acc, by
      have h : s = 0 := h
      rw [h, Int.mul_zero, Int.zero_add]
      exact h', e⟩
  | (j, b) :: l, acc, s, t, k, ⟨w, u, h1, h2, h3⟩, h', e => by
    have h1 : zat V j = some w := h1
    have h3 : s = b * w + u := h3
    have e : (bfo (m * b) fun c => bins j c acc fun acc => badd m l acc k) = true := e
    rw [bfo_eq] at e
    obtain ⟨r, g1, g2⟩ := bins_s (k := fun acc => badd m l acc k) h1 h' e
    obtain ⟨r', g3, g4⟩ := badd_s (l := l) (k := k) h2 g1 g2
    refine ⟨r', ?_, g4⟩
    have e9 : m * s + t = m * u + (m * b * w + t) := by rw [h3, Int.mul_add, Int.mul_assoc]; omega
    rw [e9]
    exact g3
/-- f + m g -/
noncomputable def bsum (m : Int) (g f : bI) (k : bI → Bool) : Bool := badd m g.2 f.2 fun ts => bfo (f.1 + m * g.1) fun c => k (c, ts)
set_option maxRecDepth 100000 in
theorem bsum_s {V : List Int} {m : Int} {f g : bI} {x y : Int} {k : bI → Bool} (hf : brel V f x) (hg : brel V g y) (e : bsum m g f k = true) : ∃ r, brel V r (x + m * y) ∧ k r = true := by
  obtain ⟨s, h1, h2⟩ := hf
  obtain ⟨t, h3, h4⟩ := hg
  unfold bsum at e
  obtain ⟨r, g1, g2⟩ := badd_s (k := fun ts => bfo (f.1 + m * g.1) fun c => k (c, ts)) h3 h1 e
  simp only [bfo_eq] at g2
  refine ⟨_, ⟨m * t + s, g1, ?_⟩, g2⟩
  rw [h2, h4, Int.mul_add]
  show _ = f.1 + m * g.1 + _
  omega
noncomputable def bhas (i : Nat) (l : bT) : Bool := List.rec (motive := fun _ => Bool) false (fun q _ ih => cond (Nat.beq q.1 i) true ih) l
noncomputable def bshr (l m : bT) : Bool := List.rec (motive := fun _ => Bool) false (fun q _ ih => cond (bhas q.1 m) true ih) l
/-- is a form's value at least 0? -/
noncomputable def bchk (n : Nat) (env : bE) (cs : bC) : bI → Bool := Nat.rec (motive := fun _ => bI → Bool) (fun f => brg env (fun lo _ => bLe 0 lo) f.2 f.1 f.1)
  (fun _ ih f => cond (brg env (fun lo _ => bLe 0 lo) f.2 f.1 f.1) true (List.rec (motive := fun _ => Bool) false (fun C _ r => cond (bshr C.2 f.2) (cond (bsum (-1) C f ih) true r) r) cs)) n
set_option maxRecDepth 100000 in
theorem bchk_s {V : List Int} {env : bE} (he : benv V env) {cs : bC} (hc : bcs V cs) : ∀ {n : Nat} {f : bI} {x : Int}, brel V f x → bchk n env cs f = true → 0 ≤ x
  | 0, f, x, h, e => by
    obtain ⟨a, b, h1, h2, -, h3⟩ := brgf_s he h e
    have := bLe_iff.mp h3
    omega
  | n + 1, f, x, h, e => by
    have e : cond (brg env (fun lo _ => bLe 0 lo) f.2 f.1 f.1) true (List.rec (motive := fun _ => Bool) false (fun C _ r => cond (bshr C.2 f.2) (cond (bsum (-1) C f (bchk n env cs)) true r) r) cs) = true := e
    cases h0 : brg env (fun lo _ => bLe 0 lo) f.2 f.1 f.1 with
    | true =>
      obtain ⟨a, b, h1, h2, -, h3⟩ := brgf_s he h h0
      have := bLe_iff.mp h3
      omega
    | false =>
      rw [h0, cond_false] at e
      have key : ∀ ds : bC, (∀ C, C ∈ ds → C ∈ cs) → (List.rec (motive := fun _ => Bool) false (fun C _ r => cond (bshr C.2 f.2) (cond (bsum (-1) C f (bchk n env cs)) true r) r) ds : Bool) = true → 0 ≤ x := by
        intro ds
        induction ds with
        | nil => intro _ z; cases z
        | cons C ds ih =>
          intro hs e
          have e : cond (bshr C.2 f.2) (cond (bsum (-1) C f (bchk n env cs)) true (List.rec (motive := fun _ => Bool) false (fun C _ r => cond (bshr C.2 f.2) (cond (bsum (-1) C f (bchk n env cs)) true r) r) ds)) (List.rec (motive := fun _ => Bool) false (fun C _ r => cond (bshr C.2 f.2) (cond (bsum (-1) C f (bchk n env cs)) true r) r) ds) = true := e
          have hs' : ∀ C, C ∈ ds → C ∈ cs := fun C h => hs C (List.mem_cons_of_mem _ h)
          cases h1 : bshr C.2 f.2 with
          | false => rw [h1, cond_false] at e; exact ih hs' e
          | true =>
            rw [h1, cond_true] at e
            cases h2 : bsum (-1) C f (bchk n env cs) with
            | false => rw [h2, cond_false] at e; exact ih hs' e
            | true =>
              obtain ⟨y, h3, h4⟩ := hc C (hs C List.mem_cons_self)
              obtain ⟨r, h5, h6⟩ := bsum_s h h3 h2
              have := bchk_s he hc (n := n) h5 h6
              omega
      exact key cs (fun _ h => h) e
noncomputable def bset (env : bE) (i : Nat) (lo hi : Int) (k : bE → Bool) : Bool := bfo lo fun lo => bfo hi fun hi => asd (0, 0) i (lo, hi) env k
set_option maxRecDepth 100000 in
theorem bset_s {V : List Int} {env : bE} (he : benv V env) {i : Nat} {v lo hi : Int} (hv : zat V i = some v) (h1 : lo ≤ v) (h2 : v ≤ hi) {k : bE → Bool} (h : bset env i lo hi k = true) : ∃ env', benv V env' ∧ k env' = true := by
  unfold bset at h
  rw [bfo_eq, bfo_eq, asd_eq] at h
  refine ⟨_, ?_, h⟩
  have hlt : i < env.length := by
    rw [← he.1]
    exact zat_lt hv
  rw [asl_zset _ _ _ _ hlt]
  refine ⟨by rw [he.1, zset_eq, List.length_set], ?_⟩
  intro j a b hj
  rw [zat_zset _ _ _ _ hlt] at hj
  by_cases hji : j = i
  · rw [if_pos hji] at hj
    cases hj
    rw [hji]
    exact ⟨v, hv, h1, h2⟩
  · rw [if_neg hji] at hj
    exact he.2 _ _ _ hj
def bis1 (c : Int) : Bool := match c with
  | .ofNat 0 => false
  | .ofNat 1 => true
  | .ofNat (_ + 2) => false
  | .negSucc _ => false
def bism (c : Int) : Bool := match c with
  | .ofNat _ => false
  | .negSucc 0 => true
  | .negSucc (_ + 1) => false
set_option maxRecDepth 100000 in
theorem bis1_s {c : Int} (h : bis1 c = true) : c = 1 := by
  unfold bis1 at h
  split at h
  · cases h
  · rfl
  · cases h
  · cases h
set_option maxRecDepth 100000 in
theorem bism_s {c : Int} (h : bism c = true) : c = -1 := by
  unfold bism at h
  split at h
  · cases h
  · rfl
  · cases h
def bmx (a b : Int) : Int := cond (bLe a b) b a
def bmn (a b : Int) : Int := cond (bLe a b) a b
set_option maxRecDepth 100000 in
theorem bmx_le {a b v : Int} (h1 : a ≤ v) (h2 : b ≤ v) : bmx a b ≤ v := by
  unfold bmx
  cases bLe a b
  · exact h1
  · exact h2
set_option maxRecDepth 100000 in
theorem ble_mn {a b v : Int} (h1 : v ≤ a) (h2 : v ≤ b) : v ≤ bmn a b := by
  unfold bmn
  cases bLe a b
  · exact h2
  · exact h1
noncomputable def bnar (env0 : bE) (hi : Int) (l : bT) : bE → (bE → Bool) → Bool := List.rec (motive := fun _ => bE → (bE → Bool) → Bool) (fun env k => k env)
  (fun q _ ih env k => match agt env0 q.1, agt env q.1 with
    | some (a0, b0), some (a, b) => cond (bis1 q.2) (bset env q.1 (bmx a (b0 - hi)) b fun env => ih env k) (cond (bism q.2) (bset env q.1 a (bmn b (a0 + hi)) fun env => ih env k) (ih env k))
    | _, _ => false) l
set_option maxRecDepth 100000 in
theorem bnar_s {V : List Int} {env0 : bE} {hi : Int} : ∀ {l : bT} {env : bE} {k : bE → Bool}, bnq V env0 l hi → benv V env → bnar env0 hi l env k = true → ∃ env', benv V env' ∧ k env' = true
  | [], env, k, _, he, e => ⟨env, he, e⟩
  | q :: l, env, k, hq, he, e => by
    have e : (match agt env0 q.1, agt env q.1 with
      | some (a0, b0), some (a, b) => cond (bis1 q.2) (bset env q.1 (bmx a (b0 - hi)) b fun env => bnar env0 hi l env k) (cond (bism q.2) (bset env q.1 a (bmn b (a0 + hi)) fun env => bnar env0 hi l env k) (bnar env0 hi l env k))
      | _, _ => false) = true := e
    have hq' : bnq V env0 l hi := fun p hp => hq p (List.mem_cons_of_mem _ hp)
    split at e
    · rename_i a0 b0 a b hz0 hz
      rw [agt_eq] at hz0 hz
      obtain ⟨v, h1, h2, h3⟩ := hq q List.mem_cons_self _ _ hz0
      obtain ⟨v', h4, h5, h6⟩ := he.2 _ _ _ hz
      rw [h1] at h4
      cases h4
      cases hb : bis1 q.2 with
      | true =>
        rw [hb, cond_true] at e
        have := h2 (bis1_s hb)
        obtain ⟨env', g1, g2⟩ := bset_s he h1 (bmx_le h5 (by omega)) h6 e
        exact bnar_s (l := l) hq' g1 g2
      | false =>
        rw [hb, cond_false] at e
        cases hc : bism q.2 with
        | true =>
          rw [hc, cond_true] at e
          have := h3 (bism_s hc)
          obtain ⟨env', g1, g2⟩ := bset_s he h1 h5 (ble_mn h6 (by omega)) e
          exact bnar_s (l := l) hq' g1 g2
        | false =>
          rw [hc, cond_false] at e
          exact bnar_s (l := l) hq' he e
    · cases e
def btwo (l : bT) : Bool := match l with
  | [] => false
  | [_] => false
  | _ :: _ :: _ => true
/-- on: a form's value is at least 0 -/
noncomputable def basm (env : bE) (cs : bC) (C : bI) (k : bE → bC → Bool) : Bool := brg env (fun lo hi => cond (bLe hi (-1)) true (cond (bLe 0 lo) (k env cs)
  (bsum (-1) C (-1, []) fun N => cond (bchk 1 env cs N) true (bnar env hi C.2 env fun env => cond (btwo C.2) (k env (C :: cs)) (k env cs))))) C.2 C.1 C.1
set_option maxRecDepth 100000 in
theorem basm_s {V : List Int} {env : bE} {cs : bC} (he : benv V env) (hc : bcs V cs) {C : bI} {x : Int} (hC : brel V C x) (h0 : 0 ≤ x) {k : bE → bC → Bool} (e : basm env cs C k = true) : ∃ env' cs', benv V env' ∧ bcs V cs' ∧ k env' cs' = true := by
  unfold basm at e
  obtain ⟨a, b, h1, h2, h3, e⟩ := brgf_s he hC e
  cases g1 : bLe b (-1) with
  | true =>
    have := bLe_iff.mp g1
    omega
  | false =>
    rw [g1, cond_false] at e
    cases g2 : bLe 0 a with
    | true =>
      rw [g2, cond_true] at e
      exact ⟨env, cs, he, hc, e⟩
    | false =>
      rw [g2, cond_false] at e
      obtain ⟨N, h4, e⟩ := bsum_s (brel_c V (-1)) hC e
      cases g3 : bchk 1 env cs N with
      | true =>
        have := bchk_s he hc h4 g3
        omega
      | false =>
        rw [g3, cond_false] at e
        have h5 : bnq V env C.2 b := by
          intro q hq a' b' hz
          obtain ⟨v, h6, h7, h8⟩ := h3 q hq a' b' hz
          exact ⟨v, h6, fun hq => by have := h7 hq; omega, fun hq => by have := h8 hq; omega⟩
        obtain ⟨env', h6, e⟩ := bnar_s h5 he e
        cases g4 : btwo C.2 with
        | false =>
          rw [g4, cond_false] at e
          exact ⟨env', cs, h6, hc, e⟩
        | true =>
          rw [g4, cond_true] at e
          refine ⟨env', C :: cs, h6, ?_, e⟩
          intro D hD
          cases hD with
          | head => exact ⟨x, hC, h0⟩
          | tail _ hD => exact hc D hD
end
section
abbrev bV : Type := (Int × List (Nat × Int)) ⊕ (Value ⊕ (Int × List (Nat × Int)))
abbrev bLs : Type := List (Option bV)
abbrev bSt : Type := List bV
def bVR (V : List Int) : bV → Value → Prop
  | .inl c, v => ∃ x, v = .int x ∧ brel V c x.toInt
  | .inr (.inl w), v => v = w
  | .inr (.inr c), v => ∃ x, v = .long x ∧ brel V c x.toInt
def bKR (V : List Int) : bSt → List Value → Prop
  | [], [] => True
  | a :: l, v :: m => bVR V a v ∧ bKR V l m
  | [], _ :: _ => False
  | _ :: _, [] => False
def boR (V : List Int) : Option bV → Option Value → Prop
  | none, _ => True
  | some a, o => ∃ v, o = some v ∧ bVR V a v
def bLR (V : List Int) : bLs → zLs → Prop
  | [], [] => True
  | a :: l, v :: m => boR V a v ∧ bLR V l m
  | [], _ :: _ => False
  | _ :: _, [] => False
set_option maxRecDepth 100000 in
theorem bVR_up {V V' : List Int} (h : bxt V V') {a : bV} {v : Value} (e : bVR V a v) : bVR V' a v := by
  cases a with
  | inl c => obtain ⟨x, h1, h2⟩ := e; exact ⟨x, h1, brel_up h h2⟩
  | inr w =>
    cases w with
    | inl w => exact e
    | inr c => obtain ⟨x, h1, h2⟩ := e; exact ⟨x, h1, brel_up h h2⟩
set_option maxRecDepth 100000 in
theorem bKR_up {V V' : List Int} (h : bxt V V') : ∀ {a : bSt} {s : List Value}, bKR V a s → bKR V' a s
  | [], [], _ => trivial
  | [], _ :: _, h => h.elim
  | _ :: _, [], h => h.elim
  | _ :: _, _ :: _, e => ⟨bVR_up h e.1, bKR_up h e.2⟩
set_option maxRecDepth 100000 in
theorem boR_up {V V' : List Int} (h : bxt V V') {a : Option bV} {o : Option Value} (e : boR V a o) : boR V' a o := by
  cases a with
  | none => exact trivial
  | some a => obtain ⟨v, h1, h2⟩ := e; exact ⟨v, h1, bVR_up h h2⟩
set_option maxRecDepth 100000 in
theorem bLR_up {V V' : List Int} (h : bxt V V') : ∀ {a : bLs} {l : zLs}, bLR V a l → bLR V' a l
  | [], [], _ => trivial
  | [], _ :: _, h => h.elim
  | _ :: _, [], h => h.elim
  | _ :: _, _ :: _, e => ⟨boR_up h e.1, bLR_up h e.2⟩
set_option maxRecDepth 100000 in
theorem bKR_ci {V : List Int} {c : bI} {x : Int32} {a : bSt} {s : List Value} (h : brel V c x.toInt) (hs : bKR V a s) : bKR V (.inl c :: a) (.int x :: s) := ⟨⟨x, rfl, h⟩, hs⟩
set_option maxRecDepth 100000 in
theorem bKR_cj {V : List Int} {c : bI} {x : Int64} {a : bSt} {s : List Value} (h : brel V c x.toInt) (hs : bKR V a s) : bKR V (.inr (.inr c) :: a) (.long x :: s) := ⟨⟨x, rfl, h⟩, hs⟩
set_option maxRecDepth 100000 in
theorem bKR_co {V : List Int} {w : Value} {a : bSt} {s : List Value} (hs : bKR V a s) : bKR V (.inr (.inl w) :: a) (w :: s) := ⟨rfl, hs⟩
set_option maxRecDepth 100000 in
theorem bKR_cv {V : List Int} {v : bV} {w : Value} {a : bSt} {s : List Value} (h : bVR V v w) (hs : bKR V a s) : bKR V (v :: a) (w :: s) := ⟨h, hs⟩
set_option maxRecDepth 100000 in
theorem bKR_i {V : List Int} {c : bI} {a : bSt} : ∀ {s : List Value}, bKR V (.inl c :: a) s → ∃ x r, s = .int x :: r ∧ brel V c x.toInt ∧ bKR V a r
  | [], h => nomatch h
  | _ :: r, ⟨⟨x, e, h1⟩, h2⟩ => ⟨x, r, by rw [e], h1, h2⟩
set_option maxRecDepth 100000 in
theorem bKR_j {V : List Int} {c : bI} {a : bSt} : ∀ {s : List Value}, bKR V (.inr (.inr c) :: a) s → ∃ x r, s = .long x :: r ∧ brel V c x.toInt ∧ bKR V a r
  | [], h => nomatch h
  | _ :: r, ⟨⟨x, e, h1⟩, h2⟩ => ⟨x, r, by rw [e], h1, h2⟩
set_option maxRecDepth 100000 in
theorem bKR_o {V : List Int} {w : Value} {a : bSt} : ∀ {s : List Value}, bKR V (.inr (.inl w) :: a) s → ∃ r, s = w :: r ∧ bKR V a r
  | [], h => nomatch h
  | _ :: r, ⟨e, h2⟩ => ⟨r, by rw [show _ = w from e], h2⟩
set_option maxRecDepth 100000 in
theorem bKR_v {V : List Int} {v : bV} {a : bSt} : ∀ {s : List Value}, bKR V (v :: a) s → ∃ w r, s = w :: r ∧ bVR V v w ∧ bKR V a r
  | [], h => nomatch h
  | w :: r, ⟨e, h2⟩ => ⟨w, r, rfl, e, h2⟩
set_option maxRecDepth 100000 in
theorem bKR_n {V : List Int} : ∀ {s : List Value}, bKR V [] s → s = []
  | [], _ => rfl
  | _ :: _, h => nomatch h
set_option maxRecDepth 100000 in
theorem bLR_at {V : List Int} : ∀ {a : bLs} {l : zLs} {i : Nat} {v : bV}, bLR V a l → zat a i = some (some v) → ∃ w, zat l i = some (some w) ∧ bVR V v w
  | [], _, _, _, _, h => nomatch h
  | _ :: _, [], _, _, h, _ => nomatch h
  | o :: a, p :: l, 0, v, h, e => by
    cases (Option.some.inj e)
    obtain ⟨w, e1, h1⟩ := h.1
    exact ⟨w, congrArg some e1, h1⟩
  | o :: a, p :: l, i + 1, v, h, e => bLR_at (a := a) (l := l) h.2 e
def bKl (n : Nat) (o : Option bV) : Option bV := match n with
  | 0 => (match o with
    | none => none
    | some (.inl c) => some (.inl c)
    | some (.inr (.inl (.long _))) => none
    | some (.inr (.inl w)) => some (.inr (.inl w))
    | some (.inr (.inr _)) => none)
  | _ + 1 => o
noncomputable def bkl (n : Nat) (o : Option bV) (k : Option bV → Bool) : Bool := match n with
  | 0 => (match o with
    | none => k none
    | some (.inl c) => k (some (.inl c))
    | some (.inr (.inl (.long _))) => k none
    | some (.inr (.inl w)) => k (some (.inr (.inl w)))
    | some (.inr (.inr _)) => k none)
  | _ + 1 => k o
set_option maxRecDepth 100000 in
theorem bkl_eq (n : Nat) (o : Option bV) (k : Option bV → Bool) : bkl n o k = k (bKl n o) := by
  cases n with
  | succ n => rfl
  | zero =>
    cases o with
    | none => rfl
    | some a =>
      cases a with
      | inl c => rfl
      | inr w =>
        cases w with
        | inr c => rfl
        | inl w => cases w <;> rfl
noncomputable def bst (v : bV) (n : Nat) : bLs → (bLs → Bool) → Bool := Nat.rec (motive := fun _ => bLs → (bLs → Bool) → Bool)
  (fun l k => List.rec (motive := fun _ => Bool) (k []) (fun _ t _ => k (some v :: t)) l)
  (fun m ih l k => List.rec (motive := fun _ => Bool) (k []) (fun o t _ => bkl m o (fun o' => ih t (fun r => k (o' :: r)))) l) n
def bsl2 (v : bV) : Nat → bLs → bLs
  | _, [] => []
  | 0, _ :: t => some v :: t
  | n + 1, o :: t => bKl n o :: bsl2 v n t
set_option maxRecDepth 100000 in
theorem bst_eq (v : bV) : ∀ (n : Nat) (l : bLs) (k : bLs → Bool), bst v n l k = k (bsl2 v n l)
  | 0, [], _ => rfl
  | 0, _ :: _, _ => rfl
  | n + 1, [], k => rfl
  | n + 1, o :: t, k => by
    show bkl n o (fun o' => bst v n t (fun r => k (o' :: r))) = _
    rw [bkl_eq, bst_eq v n t]
    rfl
set_option maxRecDepth 100000 in
theorem bKl_s {V : List Int} {n : Nat} {a : Option bV} {o : Option Value} (h : boR V a o) : boR V (bKl n a) (zkl n o) := by
  cases n with
  | succ n => exact h
  | zero =>
    cases a with
    | none => exact trivial
    | some a =>
      obtain ⟨v, e, hv⟩ := h
      subst e
      cases a with
      | inl c =>
        obtain ⟨x, e, hx⟩ := hv
        subst e
        exact ⟨_, rfl, _, rfl, hx⟩
      | inr w =>
        cases w with
        | inl w =>
          have e : v = w := hv
          subst e
          cases v <;> first | exact trivial | exact ⟨_, rfl, rfl⟩
        | inr c => exact trivial
set_option maxRecDepth 100000 in
theorem bst_s {V : List Int} {v : bV} {w : Value} (hv : bVR V v w) : ∀ {n : Nat} {a : bLs} {l : zLs}, bLR V a l → bLR V (bsl2 v n a) (zstl l n w)
  | 0, [], [], _ => trivial
  | _ + 1, [], [], _ => trivial
  | 0, [], _ :: _, h => nomatch h
  | _ + 1, [], _ :: _, h => nomatch h
  | 0, _ :: _, [], h => nomatch h
  | _ + 1, _ :: _, [], h => nomatch h
  | 0, _ :: a, _ :: l, h => ⟨⟨w, rfl, hv⟩, h.2⟩
  | n + 1, o :: a, p :: l, h => ⟨bKl_s h.1, bst_s hv (n := n) h.2⟩
set_option maxRecDepth 100000 in
theorem bLR_none {V : List Int} : ∀ {a : bLs} {l : zLs} {i : Nat}, bLR V a l → bLR V (zset a i none) (zset l i none)
  | [], [], _, _ => trivial
  | [], _ :: _, _, h => h.elim
  | _ :: _, [], _, h => h.elim
  | _ :: _, _ :: _, 0, h => ⟨trivial, h.2⟩
  | _ :: a, _ :: l, i + 1, h => ⟨h.1, bLR_none (a := a) (l := l) (i := i) h.2⟩
noncomputable def bsn (n : Nat) : bLs → (bLs → Bool) → Bool := Nat.rec (motive := fun _ => bLs → (bLs → Bool) → Bool)
  (fun l k => List.rec (motive := fun _ => Bool) (k []) (fun _ t _ => k (none :: t)) l)
  (fun _ ih l k => List.rec (motive := fun _ => Bool) (k []) (fun o t _ => ih t (fun r => k (o :: r))) l) n
set_option maxRecDepth 100000 in
theorem bsn_eq : ∀ (n : Nat) (l : bLs) (k : bLs → Bool), bsn n l k = k (zset l n none)
  | 0, [], _ => rfl
  | 0, _ :: _, _ => rfl
  | _ + 1, [], _ => rfl
  | n + 1, o :: t, k => bsn_eq n t (fun r => k (o :: r))
def bcw : bV → Nat
  | .inl _ => 1
  | .inr (.inl w) => zcw w
  | .inr (.inr _) => 2
set_option maxRecDepth 100000 in
theorem bcw_s {V : List Int} {a : bV} {v : Value} (h : bVR V a v) : zcw v = bcw a := by
  cases a with
  | inl c => obtain ⟨x, e, -⟩ := h; subst e; rfl
  | inr w =>
    cases w with
    | inl w => have e : v = w := h; subst e; rfl
    | inr c => obtain ⟨x, e, -⟩ := h; subst e; rfl
noncomputable def bsu : bSt → Nat := fun l => List.rec (motive := fun _ => Nat) 0 (fun v _ ih => bcw v + ih) l
set_option maxRecDepth 100000 in
theorem bsu_s {V : List Int} : ∀ {a : bSt} {s : List Value}, bKR V a s → zsum s = bsu a
  | [], [], _ => rfl
  | [], _ :: _, h => nomatch h
  | _ :: _, [], h => nomatch h
  | v :: a, w :: s, h => by
    show zcw w + zsum s = bcw v + bsu a
    rw [bsu_s h.2, bcw_s h.1]
def bc1 : bV → Bool
  | .inl _ => true
  | .inr (.inl w) => zc1 w
  | .inr (.inr _) => false
set_option maxRecDepth 100000 in
theorem bc1_s {V : List Int} {a : bV} {v : Value} (h : bVR V a v) : zc1 v = bc1 a := by
  cases a with
  | inl c => obtain ⟨x, e, -⟩ := h; subst e; rfl
  | inr w =>
    cases w with
    | inl w => have e : v = w := h; subst e; rfl
    | inr c => obtain ⟨x, e, -⟩ := h; subst e; rfl
set_option maxRecDepth 100000 in
theorem bal_s {V : List Int} : ∀ {a : bSt} {s : List Value}, bKR V a s → s.all zc1 = a.all bc1
  | [], [], _ => rfl
  | [], _ :: _, h => nomatch h
  | _ :: _, [], h => nomatch h
  | a :: l, v :: s, h => by
    rw [List.all_cons, List.all_cons, bc1_s h.1, bal_s h.2]
noncomputable def bpop (n : Nat) : bSt → bSt → (bSt → bSt → Bool) → Bool := Nat.rec (motive := fun _ => bSt → bSt → (bSt → bSt → Bool) → Bool)
  (fun st acc k => k acc st)
  (fun _ ih st acc k => List.rec (motive := fun _ => Bool) false (fun v t _ => ih t (v :: acc) k) st) n
set_option maxRecDepth 100000 in
theorem bpop_s {V : List Int} : ∀ {n : Nat} {a b : bSt} {s t : List Value} {k : bSt → bSt → Bool}, bKR V a s → bKR V b t → bpop n a b k = true → ∃ as ar ss sr, zpop n s t = some (ss, sr) ∧ bKR V as ss ∧ bKR V ar sr ∧ k as ar = true
  | 0, a, b, s, t, k, h1, h2, h => ⟨b, a, t, s, rfl, h2, h1, h⟩
  | n + 1, [], _, _, _, _, _, _, h => nomatch h
  | n + 1, v :: a, b, [], t, k, h1, _, _ => nomatch h1
  | n + 1, v :: a, b, w :: s, t, k, h1, h2, h => bpop_s (n := n) (a := a) (b := v :: b) (s := s) (t := w :: t) (k := k) h1.2 ⟨h1.1, h2⟩ h
noncomputable def brep (n : Nat) : (bLs → Bool) → Bool := Nat.rec (motive := fun _ => (bLs → Bool) → Bool) (fun k => k []) (fun _ ih k => ih (fun r => k (none :: r))) n
set_option maxRecDepth 100000 in
theorem brep_eq : ∀ (n : Nat) (k : bLs → Bool), brep n k = k (List.replicate n none)
  | 0, _ => rfl
  | n + 1, k => brep_eq n (fun r => k (none :: r))
noncomputable def bent (l : bSt) : Nat → (bLs → Bool) → Bool := List.rec (motive := fun _ => Nat → (bLs → Bool) → Bool) (fun n k => brep n k)
  (fun v _ ih n k => Nat.rec (motive := fun _ => Bool) false (fun m _ => ih m (fun r => k (some v :: r))) n) l
set_option maxRecDepth 100000 in
theorem bLR_rep (V : List Int) : ∀ n : Nat, bLR V (List.replicate n none) (List.replicate n none)
  | 0 => trivial
  | n + 1 => ⟨trivial, bLR_rep V n⟩
set_option maxRecDepth 100000 in
theorem bent_s {V : List Int} : ∀ {a : bSt} {s : List Value} {n : Nat} {k : bLs → Bool}, bKR V a s → bent a n k = true → ∃ l, bLR V l (zent n s) ∧ k l = true
  | [], [], n, k, _, h => ⟨List.replicate n none, bLR_rep V n, (brep_eq n k).symm.trans (show brep n k = true from h)⟩
  | [], _ :: _, _, _, h, _ => nomatch h
  | _ :: _, [], _, _, h, _ => nomatch h
  | _ :: _, _ :: _, 0, _, _, h => nomatch h
  | v :: a, w :: s, n + 1, k, h1, h => by
    obtain ⟨l, h2, h3⟩ := bent_s (a := a) (s := s) (n := n) (k := fun r => k (some v :: r)) h1.2 h
    refine ⟨some v :: l, ?_, h3⟩
    have e : zent (n + 1) (w :: s) = some w :: zent n s := by
      unfold zent
      rw [List.length_cons, Nat.add_sub_add_right]
      rfl
    rw [e]
    exact ⟨⟨w, rfl, h1.1⟩, h2⟩
end
section
abbrev bO : Type := List (Nat × (Int × List (Nat × Int)) × (Int × List (Nat × Int)))
abbrev bS : Type := Nat × List (Int × Int) × List (Int × List (Nat × Int)) × List (Nat × (Int × List (Nat × Int)) × (Int × List (Nat × Int))) × (Int × List (Nat × Int)) × (Int × List (Nat × Int))
abbrev bTb : Type := List (List zS)
noncomputable def bg2 {α : Type} (t : List (List α)) (c : Nat) : Option α := match agt t (c / 16) with
  | some r => agt r (c % 16)
  | none => none
/-- the bounds of the ints of a cell -/
noncomputable def biv (c k : Nat) : Int × Int := match bg2 ivt c with
  | some (0, l) => agd (-2147483648, 2147483647) l 0
  | some (1, l) => agd (-2147483648, 2147483647) l k
  | some (2, _) => bwinv k
  | some (_ + 3, _) => bwinv (k % 777)
  | none => (-2147483648, 2147483647)
/-- the unit of writes that a place belongs to -/
noncomputable def bun (c k : Nat) : Nat := match bg2 unt c with
  | some (0, u) => u
  | some (_ + 1, u) => u + k
  | none => 0
def bcv (E : zE) (h : zH) (c k : Nat) : Int32 := cond (Nat.beq c 1000000) (E.2 k) (h.2.1 c k)
def blam (f : Nat → Int32) : Prop := ∀ p : Nat, (p : Int) < (f 2).toInt → 1 ≤ (f (188 + 24 * p)).toInt
/-- a text of THE LAW: each line's steps are a sum of values of a stack that is never too low -/
def bOm (f : Nat → Int32) : Prop := (f 4).toInt = 1 → ∀ n : Nat, (n : Int) < (f 777).toInt → ∃ dep : Nat → Nat, dep (f (780 + 4 * n)).toInt.toNat = 0 ∧ ∀ i : Nat, (f (780 + 4 * n)).toInt ≤ (i : Int) → (i : Int) < (f (781 + 4 * n)).toInt →
  ((f (826 + 2 * i)).toInt ≤ 8 → dep (i + 1) = dep i + 1) ∧ ((f (826 + 2 * i)).toInt = 12 → 1 ≤ dep i ∧ dep (i + 1) = dep i) ∧ (8 < (f (826 + 2 * i)).toInt → (f (826 + 2 * i)).toInt ≠ 12 → 2 ≤ dep i ∧ dep (i + 1) + 1 = dep i)
def bHX (h : zH) : Prop := (blam (h.2.1 86) ∧ blam (h.2.1 87) ∧ blam (h.2.1 88) ∧ ∀ b : Nat, b < 12 → blam (fun k => h.2.1 89 (777 * b + k))) ∧ bOm (h.2.1 85) ∧ bOm (h.2.1 86) ∧ bOm (h.2.1 87)
/-- rows that only copies write -/
def bnx (c : Nat) : Bool := cond (Nat.blt c 86) true (Nat.blt 89 c)
/-- rows of words of THE LAW: 1012 to 1019 are none -/
def bhc (c : Nat) : Bool := cond (Nat.beq c 15) true (cond (Nat.beq c 42) true (Nat.beq c 82))
def bHI (h : zH) : Prop := (∀ c k, (biv c k).1 ≤ (h.2.1 c k).toInt ∧ (h.2.1 c k).toInt ≤ (biv c k).2) ∧ blam (h.2.1 bWc) ∧ bHX h ∧ ∀ c, bhc c = true → ∀ k, (h.2.1 c k).toInt ≤ 1011 ∨ 1020 ≤ (h.2.1 c k).toInt
set_option maxRecDepth 100000 in
theorem bW2 : (biv bWc 2).2 = 8 := rfl
set_option maxRecDepth 100000 in
theorem bW20 : (biv bWc 2).1 = 0 := rfl
set_option maxRecDepth 100000 in
theorem bWn : Nat.beq bWc 1000000 = false := rfl
set_option maxRecDepth 100000 in
theorem bWl9 : ∀ q : Nat, q < 8 → (biv bWc (188 + 24 * q)).2 = 12
  | 0, _ => rfl
  | 1, _ => rfl
  | 2, _ => rfl
  | 3, _ => rfl
  | 4, _ => rfl
  | 5, _ => rfl
  | 6, _ => rfl
  | 7, _ => rfl
  | _ + 8, h => absurd h (by omega)
set_option maxRecDepth 100000 in
theorem bWl (jn : Nat) (q : Nat) (h : q < 8) (e : jn = 188 + 24 * q) : (biv bWc jn).2 ≤ 12 := by
  rw [e, bWl9 q h]
  exact Int.le_refl _
set_option maxRecDepth 100000 in
theorem bW777 : (biv bWc 777).2 = 12 := rfl
set_option maxRecDepth 100000 in
theorem bW781 : ∀ q : Nat, q < 12 → (biv bWc (781 + 4 * q)).2 = 400
  | 0, _ => rfl
  | 1, _ => rfl
  | 2, _ => rfl
  | 3, _ => rfl
  | 4, _ => rfl
  | 5, _ => rfl
  | 6, _ => rfl
  | 7, _ => rfl
  | 8, _ => rfl
  | 9, _ => rfl
  | 10, _ => rfl
  | 11, _ => rfl
  | _ + 12, h => absurd h (by omega)
set_option maxRecDepth 100000 in
theorem bHX_w {h : zH} {c jn : Nat} {y : Int32} (hb : ∀ c k, (biv c k).1 ≤ (h.2.1 c k).toInt ∧ (h.2.1 c k).toInt ≤ (biv c k).2) (hx : bHX h) (hc : bnx c = true) (hw : c = bWc → 1626 ≤ jn ∨ (jn ≤ 776 ∧ jn ≠ 4)) : bHX (zsetI h c (upd (h.2.1 c) jn y)) := by
  have hne : ∀ d : Nat, 86 ≤ d → d ≤ 89 → (zsetI h c (upd (h.2.1 c) jn y)).2.1 d = h.2.1 d := by
    intro d h1 h2
    show zrow h.2.1 c (upd (h.2.1 c) jn y) d = h.2.1 d
    refine zrow_ne _ _ ?_
    intro z
    subst z
    unfold bnx at hc
    cases h3 : Nat.blt d 86 with
    | true => have := abl.mp h3; omega
    | false =>
      rw [h3, cond_false] at hc
      have := abl.mp hc
      omega
  obtain ⟨⟨g1, g2, g3, g4⟩, g5, g6, g7⟩ := hx
  refine ⟨⟨?_, ?_, ?_, ?_⟩, ?_, ?_, ?_⟩
  · rw [hne 86 (by omega) (by omega)]; exact g1
  · rw [hne 87 (by omega) (by omega)]; exact g2
  · rw [hne 88 (by omega) (by omega)]; exact g3
  · intro b hb
    rw [hne 89 (by omega) (by omega)]
    exact g4 b hb
  · by_cases hcw : c = bWc
    · subst hcw
      have hw := hw rfl
      show bOm (zrow h.2.1 bWc (upd (h.2.1 bWc) jn y) bWc)
      rw [zrow_at]
      have hu : ∀ k, k ≠ jn → upd (h.2.1 bWc) jn y k = h.2.1 bWc k := by
        intro k hk
        unfold upd
        rw [if_neg hk]
      have b1 := (hb bWc 777).2
      rw [bW777] at b1
      intro h4 n hn
      rw [hu 4 (by omega)] at h4
      rw [hu 777 (by omega)] at hn
      obtain ⟨dep, d1, d2⟩ := g5 h4 n hn
      have b2 := (hb bWc (781 + 4 * n)).2
      rw [bW781 n (by omega)] at b2
      refine ⟨dep, ?_, ?_⟩
      · rw [hu _ (by omega)]
        exact d1
      · intro i i1 i2
        rw [hu _ (by omega)] at i1 i2
        have i2' : (i : Int) < (h.2.1 bWc (781 + 4 * n)).toInt := i2
        have d3 := d2 i i1 i2
        rw [hu (826 + 2 * i) (by omega)]
        exact d3
    · show bOm (zrow h.2.1 c (upd (h.2.1 c) jn y) 85)
      have e9 : zrow h.2.1 c (upd (h.2.1 c) jn y) 85 = h.2.1 85 := zrow_ne h.2.1 _ (fun z => hcw z.symm)
      rw [e9]
      exact g5
  · rw [hne 86 (by omega) (by omega)]; exact g6
  · rw [hne 87 (by omega) (by omega)]; exact g7
def bTB (tb : bTb) (sh : List zS) : Prop := ∀ c s, bg2 tb c = some s → s ≠ .inr (.inr ()) → zat sh c = some s
def bOV (E : zE) (V : List Int) (ov : bO) (h : zH) : Prop := ∀ e, e ∈ ov → ∃ j : Nat, brel V e.2.1 (j : Int) ∧ brel V e.2.2 (bcv E h e.1 j).toInt
def bSS (E : zE) (tb : bTb) (W : Nat) (h0 : zH) (V : List Int) (S : bS) (h : zH) : Prop :=
  benv V S.2.1 ∧ S.1 = V.length ∧ bcs V S.2.2.1 ∧ bOV E V S.2.2.2.1 h ∧ bHI h ∧ h.1 = h0.1 ∧ bTB tb h.1 ∧
  (∀ c k, Nat.testBit W (bun c k) = false → h.2.1 c k = h0.2.1 c k) ∧
  (∃ x, brel V S.2.2.2.2.1 x ∧ (h.2.2.2.1 : Int) ≤ (h0.2.2.2.1 : Int) + x) ∧ (∃ x, brel V S.2.2.2.2.2 x ∧ (h.2.2.2.2 : Int) ≤ (h0.2.2.2.2 : Int) + x)
set_option maxRecDepth 100000 in
theorem bOV_up {E : zE} {V V' : List Int} {ov : bO} {h : zH} (hx : bxt V V') (e : bOV E V ov h) : bOV E V' ov h := fun q hq => by
  obtain ⟨j, h1, h2⟩ := e q hq
  exact ⟨j, brel_up hx h1, brel_up hx h2⟩
set_option maxRecDepth 100000 in
theorem zat_app_at {α : Type} : ∀ {V : List α} {u : α}, zat (V ++ [u]) V.length = some u
  | [], _ => rfl
  | _ :: V, _ => zat_app_at (V := V)
set_option maxRecDepth 100000 in
theorem benv_app {V : List Int} {env : bE} (he : benv V env) {lo hi x : Int} (h1 : lo ≤ x) (h2 : x ≤ hi) : benv (V ++ [x]) (env ++ [(lo, hi)]) := by
  refine ⟨by simp [he.1], ?_⟩
  intro i a b hz
  rw [zat_app] at hz
  by_cases hi : i = env.length
  · rw [if_pos hi] at hz
    cases hz
    rw [hi, ← he.1]
    exact ⟨x, zat_app_at, h1, h2⟩
  · rw [if_neg hi] at hz
    obtain ⟨v, g1, g2⟩ := he.2 _ _ _ hz
    exact ⟨v, zat_up g1, g2⟩
def bie (a b : Int) : Bool := match a, b with
  | .ofNat m, .ofNat n => Nat.beq m n
  | .negSucc m, .negSucc n => Nat.beq m n
  | .ofNat _, .negSucc _ => false
  | .negSucc _, .ofNat _ => false
set_option maxRecDepth 100000 in
theorem bie_s {a b : Int} (h : bie a b = true) : a = b := by
  cases a <;> cases b
  · exact congrArg Int.ofNat (abq h)
  · cases h
  · cases h
  · exact congrArg Int.negSucc (abq h)
noncomputable def btq (l : bT) : bT → Bool := List.rec (motive := fun _ => bT → Bool) (fun m => (match m with
  | [] => true
  | _ :: _ => false)) (fun q _ ih m => (match m with
  | [] => false
  | p :: t => cond (Nat.beq q.1 p.1) (cond (bie q.2 p.2) (ih t) false) false)) l
set_option maxRecDepth 100000 in
theorem btq_s : ∀ {l m : bT}, btq l m = true → l = m
  | [], [], _ => rfl
  | [], _ :: _, h => nomatch h
  | _ :: _, [], h => nomatch h
  | (i, a) :: l, (j, b) :: m, h => by
    have h : cond (Nat.beq i j) (cond (bie a b) (btq l m) false) false = true := h
    obtain ⟨h1, h⟩ := bcnd h
    obtain ⟨h2, h⟩ := bcnd h
    rw [abq h1, bie_s h2, btq_s h]
noncomputable def bfq (f g : bI) : Bool := cond (bie f.1 g.1) (btq f.2 g.2) false
set_option maxRecDepth 100000 in
theorem bfq_s {f g : bI} (h : bfq f g = true) : f = g := by
  obtain ⟨h1, h2⟩ := bcnd h
  obtain ⟨a, b⟩ := f
  obtain ⟨c, d⟩ := g
  rw [show a = c from bie_s h1, show b = d from btq_s h2]
section BST
variable {E : zE} {tb : bTb} {W : Nat} {h0 : zH} {V : List Int} {S : bS} {h : zH}
noncomputable def bfre (lo hi : Int) (S : bS) (k : bI → bS → Bool) : Bool := match S with
  | (nv, env, cs, ov, ca, sa) => bfo lo fun lo => bfo hi fun hi => cond (bie lo hi) (k (lo, []) (nv, env, cs, ov, ca, sa)) (asd (0, 0) nv (lo, hi) env fun env => afo (nv + 1) fun m => k (0, [(nv, 1)]) (m, env, cs, ov, ca, sa))
set_option maxRecDepth 100000 in
theorem bfre_s (hS : bSS E tb W h0 V S h) {lo hi x : Int} (h1 : lo ≤ x) (h2 : x ≤ hi) {k : bI → bS → Bool} (e : bfre lo hi S k = true) : ∃ V' f S', bxt V V' ∧ brel V' f x ∧ bSS E tb W h0 V' S' h ∧ k f S' = true := by
  obtain ⟨nv, env, cs, ov, ca, sa⟩ := S
  obtain ⟨g1, g2, g3, g4, g5, g6, g7, g8, ⟨y, g9, g10⟩, ⟨z, g11, g12⟩⟩ := hS
  unfold bfre at e
  simp only [bfo_eq, afo_eq] at e
  cases hb : bie lo hi with
  | true =>
    rw [hb, cond_true] at e
    have := bie_s hb
    have hx : x = lo := by omega
    rw [← hx] at e
    exact ⟨V, _, _, bxt_refl V, brel_c V x, ⟨g1, g2, g3, g4, g5, g6, g7, g8, ⟨y, g9, g10⟩, ⟨z, g11, g12⟩⟩, e⟩
  | false =>
    rw [hb, cond_false, asd_eq] at e
    have g2 : nv = V.length := g2
    have hl : nv = env.length := by rw [g2]; exact g1.1
    rw [hl, asl_app, ← hl] at e
    have hx : bxt V (V ++ [x]) := ⟨[x], rfl⟩
    refine ⟨V ++ [x], (0, [(nv, 1)]), (nv + 1, env ++ [(lo, hi)], cs, ov, ca, sa), hx, brel_v (i := nv) ?_, ⟨benv_app g1 h1 h2, ?_, bcs_up hx g3, bOV_up hx g4, g5, g6, g7, g8, ⟨y, brel_up hx g9, g10⟩, ⟨z, brel_up hx g11, g12⟩⟩, e⟩
    · rw [g2]
      exact zat_app_at
    · show nv + 1 = (V ++ [x]).length
      rw [g2]
      simp
noncomputable def bas (C : bI) (S : bS) (k : bS → Bool) : Bool := match S with
  | (nv, env, cs, ov, ca, sa) => basm env cs C fun env cs => k (nv, env, cs, ov, ca, sa)
set_option maxRecDepth 100000 in
theorem bas_s (hS : bSS E tb W h0 V S h) {C : bI} {x : Int} (hC : brel V C x) (hx : 0 ≤ x) {k : bS → Bool} (e : bas C S k = true) : ∃ S', bSS E tb W h0 V S' h ∧ k S' = true := by
  obtain ⟨nv, env, cs, ov, ca, sa⟩ := S
  obtain ⟨g1, g2, g3, g4⟩ := hS
  have e : basm env cs C (fun env cs => k (nv, env, cs, ov, ca, sa)) = true := e
  obtain ⟨env', cs', h1, h2, e⟩ := basm_s g1 g3 hC hx e
  exact ⟨(nv, env', cs', ov, ca, sa), ⟨h1, g2, h2, g4⟩, e⟩
noncomputable def bch (C : bI) (S : bS) : Bool := match S with
  | (_, env, cs, _, _, _) => bchk 2 env cs C
set_option maxRecDepth 100000 in
theorem bch_s (hS : bSS E tb W h0 V S h) {C : bI} {x : Int} (hC : brel V C x) (e : bch C S = true) : 0 ≤ x := by
  obtain ⟨nv, env, cs, ov, ca, sa⟩ := S
  have e : bchk 2 env cs C = true := e
  exact bchk_s hS.1 hS.2.2.1 hC e
noncomputable def brS (f : bI) (S : bS) (k : Int → Int → Bool) : Bool := match S with
  | (_, env, _, _, _, _) => brg env k f.2 f.1 f.1
set_option maxRecDepth 100000 in
theorem brS_s (hS : bSS E tb W h0 V S h) {f : bI} {x : Int} (hC : brel V f x) {k : Int → Int → Bool} (e : brS f S k = true) : ∃ a b, a ≤ x ∧ x ≤ b ∧ k a b = true := by
  obtain ⟨nv, env, cs, ov, ca, sa⟩ := S
  have e : brg env k f.2 f.1 f.1 = true := e
  obtain ⟨a, b, h1, h2, -, h3⟩ := brgf_s hS.1 hC e
  exact ⟨a, b, h1, h2, h3⟩
/-- lo ≤ f ≤ hi -/
noncomputable def bwi (f : bI) (lo hi : Int) (S : bS) : Bool := cond (brS f S fun a b => cond (bLe lo a) (bLe b hi) false) true
  (cond (bsum (-1) (lo, []) f fun g => bch g S) (bsum (-1) f (hi, []) fun g => bch g S) false)
set_option maxRecDepth 100000 in
theorem bwi_s (hS : bSS E tb W h0 V S h) {f : bI} {x lo hi : Int} (hf : brel V f x) (e : bwi f lo hi S = true) : lo ≤ x ∧ x ≤ hi := by
  unfold bwi at e
  cases hb : (brS f S fun a b => cond (bLe lo a) (bLe b hi) false) with
  | true =>
    obtain ⟨a, b, h1, h2, h3⟩ := brS_s hS hf hb
    obtain ⟨h4, h5⟩ := bcnd h3
    have := bLe_iff.mp h4
    have := bLe_iff.mp h5
    omega
  | false =>
    rw [hb, cond_false] at e
    obtain ⟨h1, h2⟩ := bcnd e
    obtain ⟨r, h3, h4⟩ := bsum_s hf (brel_c V lo) h1
    obtain ⟨r', h5, h6⟩ := bsum_s (brel_c V hi) hf h2
    have := bch_s hS h3 h4
    have := bch_s hS h5 h6
    omega
noncomputable def blk (c : Nat) (j : bI) (ov : bO) : Option bI := List.rec (motive := fun _ => Option bI) none (fun q _ ih => cond (Nat.beq q.1 c) (cond (bfq q.2.1 j) (some q.2.2) ih) ih) ov
set_option maxRecDepth 100000 in
theorem blk_s {j : bI} {jn : Nat} {c : Nat} {f : bI} (hj : brel V j (jn : Int)) : ∀ {ov : bO}, bOV E V ov h → blk c j ov = some f → brel V f (bcv E h c jn).toInt
  | [], _, e => nomatch e
  | q :: ov, hO, e => by
    have e : cond (Nat.beq q.1 c) (cond (bfq q.2.1 j) (some q.2.2) (blk c j ov)) (blk c j ov) = some f := e
    have hO' : bOV E V ov h := fun p hp => hO p (List.mem_cons_of_mem _ hp)
    cases h1 : Nat.beq q.1 c with
    | false => rw [h1, cond_false] at e; exact blk_s hj hO' e
    | true =>
      rw [h1, cond_true] at e
      cases h2 : bfq q.2.1 j with
      | false => rw [h2, cond_false] at e; exact blk_s hj hO' e
      | true =>
        rw [h2, cond_true] at e
        cases e
        obtain ⟨i, h3, h4⟩ := hO q List.mem_cons_self
        rw [bfq_s h2] at h3
        have h5 := brel_f hj h3
        have h6 : jn = i := by omega
        rw [h6, ← abq h1]
        exact h4
noncomputable def blS (c : Nat) (j : bI) (S : bS) : Option bI := match S with
  | (_, _, _, ov, _, _) => blk c j ov
/-- the value at a place, that lies within lo and hi -/
noncomputable def brd (c : Nat) (j : bI) (lo hi : Int) (S : bS) (k : bI → bS → Bool) : Bool := match blS c j S with
  | some f => k f S
  | none => bfre lo hi S fun f S => (match S with
    | (nv, env, cs, ov, ca, sa) => k f (nv, env, cs, (c, j, f) :: ov, ca, sa))
set_option maxRecDepth 100000 in
theorem brd_s (hS : bSS E tb W h0 V S h) {c jn : Nat} {j : bI} (hj : brel V j (jn : Int)) {lo hi : Int} (h1 : lo ≤ (bcv E h c jn).toInt) (h2 : (bcv E h c jn).toInt ≤ hi) {k : bI → bS → Bool} (e : brd c j lo hi S k = true) : ∃ V' f S', bxt V V' ∧ brel V' f (bcv E h c jn).toInt ∧ bSS E tb W h0 V' S' h ∧ k f S' = true := by
  unfold brd at e
  split at e
  · rename_i f hz
    obtain ⟨nv, env, cs, ov, ca, sa⟩ := S
    exact ⟨V, f, _, bxt_refl V, blk_s hj hS.2.2.2.1 hz, hS, e⟩
  · obtain ⟨V', f, S', h3, h4, h5, e⟩ := bfre_s hS h1 h2 e
    obtain ⟨nv, env, cs, ov, ca, sa⟩ := S'
    obtain ⟨g1, g2, g3, g4, g5⟩ := h5
    refine ⟨V', f, (nv, env, cs, (c, j, f) :: ov, ca, sa), h3, h4, ⟨g1, g2, g3, ?_, g5⟩, e⟩
    intro q hq
    cases hq with
    | head => exact ⟨jn, brel_up h3 hj, h4⟩
    | tail _ hq => exact g4 q hq
end BST
end
section
def bcov (w : Bool) (A B a b : Int) : Prop := match w with
  | false => A ≤ a ∧ b ≤ B
  | true => a ≤ A ∧ B ≤ b
set_option maxRecDepth 100000 in
theorem bcov_r (w : Bool) (A B : Int) : bcov w A B A B := by cases w <;> exact ⟨Int.le_refl _, Int.le_refl _⟩
set_option maxRecDepth 100000 in
theorem bcov_t {w : Bool} {A B a b x y : Int} (h : bcov w A B a b) (h' : bcov w a b x y) : bcov w A B x y := by
  cases w
  · exact ⟨Int.le_trans h.1 h'.1, Int.le_trans h'.2 h.2⟩
  · exact ⟨Int.le_trans h'.1 h.1, Int.le_trans h.2 h'.2⟩
noncomputable def bgc (w : Bool) (c : Nat) (p : Int) (A B : Int) (k : Int → Int → Bool) : Bool := match biv c p.toNat with
  | (a, b) => (match w with
    | false => bfo (bmn A a) fun A => bfo (bmx B b) fun B => k A B
    | true => bfo (bmx A a) fun A => bfo (bmn B b) fun B => k A B)
set_option maxRecDepth 100000 in
theorem bmn_l (a b : Int) : bmn a b ≤ a := by
  unfold bmn
  cases h : bLe a b
  · exact Int.le_of_lt (bLe_no h)
  · exact Int.le_refl _
set_option maxRecDepth 100000 in
theorem bmn_r (a b : Int) : bmn a b ≤ b := by
  unfold bmn
  cases h : bLe a b
  · exact Int.le_refl _
  · exact bLe_iff.mp h
set_option maxRecDepth 100000 in
theorem bmx_l (a b : Int) : a ≤ bmx a b := by
  unfold bmx
  cases h : bLe a b
  · exact Int.le_refl _
  · exact bLe_iff.mp h
set_option maxRecDepth 100000 in
theorem bmx_r (a b : Int) : b ≤ bmx a b := by
  unfold bmx
  cases h : bLe a b
  · exact Int.le_of_lt (bLe_no h)
  · exact Int.le_refl _
set_option maxRecDepth 100000 in
theorem bgc_s {w : Bool} {c : Nat} {p A B : Int} {k : Int → Int → Bool} (e : bgc w c p A B k = true) : ∃ A' B', bcov w A' B' A B ∧ bcov w A' B' (biv c p.toNat).1 (biv c p.toNat).2 ∧ k A' B' = true := by
  unfold bgc at e
  split at e
  rename_i a b hz
  rw [hz]
  split at e
  · simp only [bfo_eq] at e
    exact ⟨_, _, ⟨bmn_l _ _, bmx_l _ _⟩, ⟨bmn_r _ _, bmx_r _ _⟩, e⟩
  · simp only [bfo_eq] at e
    exact ⟨_, _, ⟨bmx_l _ _, bmn_l _ _⟩, ⟨bmx_r _ _, bmn_r _ _⟩, e⟩
abbrev bGf : Type := Int → Int → Int → (Int → Int → Bool) → Bool
/-- over all values of a form's variables within their bounds -/
noncomputable def bnm (env : bE) (G : bGf) (l : bT) : Int → Int → Int → (Int → Int → Bool) → Bool := List.rec (motive := fun _ => Int → Int → Int → (Int → Int → Bool) → Bool)
  (fun c A B k => bfo c fun c => G c A B k)
  (fun q _ ih c A B k => match agt env q.1 with
    | none => false
    | some (lo, hi) => afo ((hi - lo).toNat + 1) fun m => cond (Nat.blt m 1000) ((Nat.rec (motive := fun _ => Int → Int → Int → (Int → Int → Bool) → Bool) (fun _ A B k => k A B)
      (fun _ it v A B k => ih (c + q.2 * v) A B fun A B => bfo (v + 1) fun v => it v A B k) m : Int → Int → Int → (Int → Int → Bool) → Bool) lo A B k) false) l
noncomputable def bnmI (ih : Int → Int → Int → (Int → Int → Bool) → Bool) (c a : Int) (m : Nat) : Int → Int → Int → (Int → Int → Bool) → Bool := Nat.rec (motive := fun _ => Int → Int → Int → (Int → Int → Bool) → Bool) (fun _ A B k => k A B)
      (fun _ it v A B k => ih (c + a * v) A B fun A B => bfo (v + 1) fun v => it v A B k) m
def bGok (w : Bool) (R : Int → Int → Int → Prop) (G : bGf) : Prop := ∀ p A B k, G p A B k = true → ∃ A' B', bcov w A' B' A B ∧ R p A' B' ∧ k A' B' = true
set_option maxRecDepth 100000 in
theorem bnmI_s {w : Bool} {R : Int → Int → Int → Prop} {ih : Int → Int → Int → (Int → Int → Bool) → Bool} {c a : Int} {x : Int}
    (hm : ∀ p A B A' B', bcov w A' B' A B → R p A B → R p A' B')
    (hw : ∀ c A B k, ih c A B k = true → ∃ A' B', bcov w A' B' A B ∧ k A' B' = true)
    (hih : ∀ A B k, ih (c + a * x) A B k = true → ∃ A' B', bcov w A' B' A B ∧ R (c + a * x) A' B' ∧ k A' B' = true) :
    ∀ (m : Nat) (v A B : Int) (k : Int → Int → Bool), bnmI ih c a m v A B k = true → ∃ A' B', bcov w A' B' A B ∧ (v ≤ x → x < v + m → R (c + a * x) A' B') ∧ k A' B' = true
  | 0, v, A, B, k, e => ⟨A, B, bcov_r _ _ _, fun h1 h2 => by omega, e⟩
  | m + 1, v, A, B, k, e => by
    have e : ih (c + a * v) A B (fun A B => bfo (v + 1) fun v => bnmI ih c a m v A B k) = true := e
    by_cases hv : v = x
    · subst hv
      obtain ⟨A1, B1, h1, h2, e⟩ := hih _ _ _ e
      rw [bfo_eq] at e
      obtain ⟨A2, B2, h3, -, e⟩ := bnmI_s hm hw hih m _ _ _ _ e
      exact ⟨A2, B2, bcov_t h3 h1, fun _ _ => hm _ _ _ _ _ h3 h2, e⟩
    · obtain ⟨A1, B1, h1, e⟩ := hw _ _ _ _ e
      rw [bfo_eq] at e
      obtain ⟨A2, B2, h3, h4, e⟩ := bnmI_s hm hw hih m _ _ _ _ e
      exact ⟨A2, B2, bcov_t h3 h1, fun g1 g2 => h4 (by omega) (by omega), e⟩
set_option maxRecDepth 100000 in
theorem bnmI_w {w : Bool} {ih : Int → Int → Int → (Int → Int → Bool) → Bool} {c a : Int}
    (hw : ∀ c A B k, ih c A B k = true → ∃ A' B', bcov w A' B' A B ∧ k A' B' = true) :
    ∀ (m : Nat) (v A B : Int) (k : Int → Int → Bool), bnmI ih c a m v A B k = true → ∃ A' B', bcov w A' B' A B ∧ k A' B' = true
  | 0, v, A, B, k, e => ⟨A, B, bcov_r _ _ _, e⟩
  | m + 1, v, A, B, k, e => by
    have e : ih (c + a * v) A B (fun A B => bfo (v + 1) fun v => bnmI ih c a m v A B k) = true := e
    obtain ⟨A1, B1, h1, e⟩ := hw _ _ _ _ e
    rw [bfo_eq] at e
    obtain ⟨A2, B2, h3, e⟩ := bnmI_w hw m _ _ _ _ e
    exact ⟨A2, B2, bcov_t h3 h1, e⟩
set_option maxRecDepth 100000 in
theorem bnm_w {w : Bool} {R : Int → Int → Int → Prop} {env : bE} {G : bGf} (hG : bGok w R G) : ∀ {l : bT} {c A B : Int} {k : Int → Int → Bool}, bnm env G l c A B k = true → ∃ A' B', bcov w A' B' A B ∧ k A' B' = true
  | [], c, A, B, k, e => by
    have e : (bfo c fun c => G c A B k) = true := e
    rw [bfo_eq] at e
    obtain ⟨A', B', h1, -, h2⟩ := hG _ _ _ _ e
    exact ⟨A', B', h1, h2⟩
  | (i, a) :: l, c, A, B, k, e => by
    have e : (match agt env i with
    | none => false
    | some (lo, hi) => afo ((hi - lo).toNat + 1) fun m => cond (Nat.blt m 1000) (bnmI (bnm env G l) c a m lo A B k) false) = true := e
    split at e
    · cases e
    · rw [afo_eq] at e
      obtain ⟨-, e⟩ := bcnd e
      exact bnmI_w (fun c A B k e => bnm_w hG (l := l) e) _ _ _ _ _ e
set_option maxRecDepth 100000 in
theorem bnm_s {V : List Int} {w : Bool} {R : Int → Int → Int → Prop} {env : bE} {G : bGf} (hm : ∀ p A B A' B', bcov w A' B' A B → R p A B → R p A' B') (hG : bGok w R G) (he : benv V env) : ∀ {l : bT} {s : Int}, bev V l s → ∀ {c A B : Int} {k : Int → Int → Bool}, bnm env G l c A B k = true → ∃ A' B', bcov w A' B' A B ∧ R (c + s) A' B' ∧ k A' B' = true
  | [], s, h, c, A, B, k, e => by
    have h : s = 0 := h
    have e : (bfo c fun c => G c A B k) = true := e
    rw [bfo_eq] at e
    rw [h, Int.add_zero]
    exact hG _ _ _ _ e
  | (i, a) :: l, s, ⟨v, t, h1, h2, h3⟩, c, A, B, k, e => by
    have h1 : zat V i = some v := h1
    have h3 : s = a * v + t := h3
    have e : (match agt env i with
    | none => false
    | some (lo, hi) => afo ((hi - lo).toNat + 1) fun m => cond (Nat.blt m 1000) (bnmI (bnm env G l) c a m lo A B k) false) = true := e
    split at e
    · cases e
    · rename_i lo hi hz
      rw [agt_eq] at hz
      obtain ⟨v', h4, h5, h6⟩ := he.2 _ _ _ hz
      rw [h1] at h4
      cases h4
      rw [afo_eq] at e
      obtain ⟨-, e⟩ := bcnd e
      obtain ⟨A', B', g1, g2, g3⟩ := bnmI_s (w := w) (ih := bnm env G l) (c := c) (a := a) (R := fun p A B => R (p + t) A B) (x := v) (fun p A B A' B' h h' => hm _ _ _ _ _ h h') (fun c A B k e => bnm_w hG (l := l) e) (fun A B k e => bnm_s hm hG he (l := l) h2 e) _ _ _ _ _ e
      refine ⟨A', B', g1, ?_, g3⟩
      have := g2 h5 (by omega)
      rw [h3, ← Int.add_assoc]
      exact this
section BHP
variable {E : zE} {tb : bTb} {W : Nat} {h0 : zH} {V : List Int} {S : bS} {h : zH}
/-- bounds of all places that an index may stand for: w: of what may be written -/
noncomputable def bir (w : Bool) (c : Nat) (j : bI) (S : bS) (k : Int → Int → Bool) : Bool := match bg2 ivt c with
  | none => k (-2147483648) 2147483647
  | some (0, l) => (match agd (-2147483648, 2147483647) l 0 with
    | (a, b) => k a b)
  | some (_ + 1, _) => (match S with
    | (_, env, _, _, _, _) => bnm env (bgc w c) j.2 j.1 (cond w (-2147483648) 2147483647) (cond w 2147483647 (-2147483648)) k)
set_option maxRecDepth 100000 in
theorem bir_s (hS : bSS E tb W h0 V S h) {w : Bool} {c jn : Nat} {j : bI} (hj : brel V j (jn : Int)) {k : Int → Int → Bool} (e : bir w c j S k = true) : ∃ a b, bcov w a b (biv c jn).1 (biv c jn).2 ∧ k a b = true := by
  unfold bir at e
  split at e
  · rename_i hz
    refine ⟨_, _, ?_, e⟩
    unfold biv
    rw [hz]
    exact bcov_r _ _ _
  · rename_i l hz
    split at e
    rename_i a b hq
    refine ⟨a, b, ?_, e⟩
    unfold biv
    rw [hz]
    simp only [hq]
    exact bcov_r _ _ _
  · rename_i n l hz
    obtain ⟨nv, env, cs, ov, ca, sa⟩ := S
    obtain ⟨s, h1, h2⟩ := hj
    simp only at e
    obtain ⟨A', B', -, g2, g3⟩ := bnm_s (w := w) (R := fun p A B => bcov w A B (biv c p.toNat).1 (biv c p.toNat).2) (fun p A B A' B' g g' => bcov_t g g') (fun p A B k e => bgc_s e) hS.1 h1 e
    refine ⟨A', B', ?_, g3⟩
    rw [← h2] at g2
    exact g2
noncomputable def bmd (a : Int) (l : bT) : (bT → Bool) → Bool := List.rec (motive := fun _ => (bT → Bool) → Bool) (fun k => k []) (fun q _ ih k => bfo (q.2 / a) fun c => ih fun r => k ((q.1, c) :: r)) l
set_option maxRecDepth 100000 in
theorem bmd_s {a : Int} : ∀ {l : bT} {s : Int} {k : bT → Bool}, bev V l s → bmd a l k = true → ∃ r t, bev V r t ∧ k r = true
  | [], _, _, _, e => ⟨[], 0, rfl, e⟩
  | (i, b) :: l, s, k, ⟨v, t, h1, h2, h3⟩, e => by
    have e : (bfo (b / a) fun c => bmd a l fun r => k ((i, c) :: r)) = true := e
    rw [bfo_eq] at e
    obtain ⟨r, t', g1, g2⟩ := bmd_s (l := l) h2 e
    exact ⟨(i, b / a) :: r, b / a * v + t', ⟨v, t', h1, g1, rfl⟩, g2⟩
/-- f / a, where that is whole -/
noncomputable def bdv (a : Int) (f : bI) (k : bI → Bool) : Bool := bmd a f.2 fun ts => bfo (f.1 / a) fun c => bsum (-a) (c, ts) f fun r => cond (bfq r (0, [])) (k (c, ts)) false
set_option maxRecDepth 100000 in
theorem bdv_s {a : Int} {f : bI} {x : Int} (hf : brel V f x) {k : bI → Bool} (e : bdv a f k = true) : ∃ g y, brel V g y ∧ x = a * y ∧ k g = true := by
  obtain ⟨s, h1, h2⟩ := hf
  unfold bdv at e
  obtain ⟨ts, t, g1, e⟩ := bmd_s h1 e
  rw [bfo_eq] at e
  have g2 : brel V (f.1 / a, ts) (f.1 / a + t) := ⟨t, g1, rfl⟩
  obtain ⟨r, g3, e⟩ := bsum_s (x := x) ⟨s, h1, h2⟩ g2 e
  obtain ⟨g4, e⟩ := bcnd e
  rw [bfq_s g4] at g3
  have := brel_k g3
  refine ⟨_, _, g2, ?_, e⟩
  rw [Int.neg_mul] at this
  omega
/-- the k-th number of a row of PEOPLE, one of them: its LENGTH is at least 1 -/
noncomputable def blm (j : bI) (S : bS) : Bool := match blS bWc (2, []) S with
  | none => false
  | some n => bsum (-1) (188, []) j fun d => bdv 24 d fun p => cond (bch p S) (bsum (-1) p n fun q => bsum 1 (-1, []) q fun q => bch q S) false
set_option maxRecDepth 100000 in
theorem blS_s (hS : bSS E tb W h0 V S h) {c jn : Nat} {j f : bI} (hj : brel V j (jn : Int)) (e : blS c j S = some f) : brel V f (bcv E h c jn).toInt := by
  obtain ⟨nv, env, cs, ov, ca, sa⟩ := S
  exact blk_s hj hS.2.2.2.1 e
set_option maxRecDepth 100000 in
theorem bcv_n {c k : Nat} (hc : Nat.beq c 1000000 = false) : bcv E h c k = h.2.1 c k := by
  unfold bcv
  rw [hc]
  rfl
set_option maxRecDepth 100000 in
theorem blm_s (hS : bSS E tb W h0 V S h) {jn : Nat} {j : bI} (hj : brel V j (jn : Int)) (e : blm j S = true) : 1 ≤ (h.2.1 bWc jn).toInt := by
  unfold blm at e
  split at e
  · cases e
  · rename_i n hz
    have h1 := blS_s hS (jn := 2) (brel_c V 2) hz
    rw [bcv_n bWn] at h1
    obtain ⟨d, h2, e⟩ := bsum_s hj (brel_c V 188) e
    obtain ⟨p, y, h3, h4, e⟩ := bdv_s h2 e
    obtain ⟨h5, e⟩ := bcnd e
    have h6 := bch_s hS h3 h5
    obtain ⟨q, h7, e⟩ := bsum_s h1 h3 e
    obtain ⟨q', h8, e⟩ := bsum_s h7 (brel_c V (-1)) e
    have h9 := bch_s hS h8 e
    have h10 := hS.2.2.2.2.1.2.1 y.toNat (by omega)
    have h11 : 188 + 24 * y.toNat = jn := by omega
    rw [h11] at h10
    exact h10
/-- an int of the heap -/
noncomputable def bri (c : Nat) (j : bI) (S : bS) (k : bI → bS → Bool) : Bool := cond (Nat.beq c 1000000) false (bir false c j S fun lo hi =>
  cond (bhc c) (cond (brd c j lo 1011 S k) (brd c j 1020 hi S k) false)
  (cond (cond (Nat.beq c bWc) (cond (bie lo 0) (cond (bie hi 12) (blm j S) false) false) false) (brd c j 1 hi S k) (brd c j lo hi S k)))
set_option maxRecDepth 100000 in
theorem bri_s (hS : bSS E tb W h0 V S h) {c jn : Nat} {j : bI} (hj : brel V j (jn : Int)) {k : bI → bS → Bool} (e : bri c j S k = true) : ∃ V' f S', bxt V V' ∧ brel V' f (h.2.1 c jn).toInt ∧ bSS E tb W h0 V' S' h ∧ k f S' = true := by
  unfold bri at e
  cases hc : Nat.beq c 1000000 with
  | true => rw [hc] at e; cases e
  | false =>
    rw [hc, cond_false] at e
    obtain ⟨a, b, h1, e⟩ := bir_s hS hj e
    have h1 : a ≤ (biv c jn).1 ∧ (biv c jn).2 ≤ b := h1
    have h2 := hS.2.2.2.2.1.1 c jn
    cases hh : bhc c with
    | true =>
      rw [hh, cond_true] at e
      obtain ⟨e1, e2⟩ := bcnd e
      rcases hS.2.2.2.2.1.2.2.2 c hh jn with h3 | h3
      · rw [← bcv_n (E := E) hc]
        exact brd_s hS hj (by rw [bcv_n hc]; omega) (by rw [bcv_n hc]; omega) e1
      · rw [← bcv_n (E := E) hc]
        exact brd_s hS hj (by rw [bcv_n hc]; omega) (by rw [bcv_n hc]; omega) e2
    | false =>
      rw [hh, cond_false] at e
      rw [← bcv_n (E := E) hc]
      cases hm : (cond (Nat.beq c bWc) (cond (bie a 0) (cond (bie b 12) (blm j S) false) false) false) with
      | false =>
        rw [hm, cond_false] at e
        exact brd_s hS hj (by rw [bcv_n hc]; omega) (by rw [bcv_n hc]; omega) e
      | true =>
        rw [hm, cond_true] at e
        obtain ⟨g1, hm⟩ := bcnd hm
        obtain ⟨g2, hm⟩ := bcnd hm
        obtain ⟨g3, hm⟩ := bcnd hm
        have g4 := blm_s hS hj hm
        rw [← abq g1] at g4
        exact brd_s hS hj (by rw [bcv_n hc]; omega) (by rw [bcv_n hc]; omega) e
/-- what a write at an index leaves -/
noncomputable def bkl9 (c : Nat) (j : bI) (env : bE) (ov : bO) : (bO → Bool) → Bool := List.rec (motive := fun _ => (bO → Bool) → Bool) (fun k => k [])
  (fun q _ ih k => cond (Nat.beq q.1 c) (cond (bsum (-1) j q.2.1 fun d => brg env (fun a b => cond (bLe 1 a) true (bLe b (-1))) d.2 d.1 d.1) (ih fun r => k (q :: r)) (ih k)) (ih fun r => k (q :: r))) ov
set_option maxRecDepth 100000 in
theorem bkl9_s {env : bE} (he : benv V env) {c jn : Nat} {j : bI} (hj : brel V j (jn : Int)) (hc : Nat.beq c 1000000 = false) {y : Int32} : ∀ {ov : bO} {k : bO → Bool}, bOV E V ov h → bkl9 c j env ov k = true → ∃ ov', bOV E V ov' (zsetI h c (upd (h.2.1 c) jn y)) ∧ k ov' = true
  | [], k, _, e => ⟨[], fun q hq => absurd hq List.not_mem_nil, e⟩
  | q :: ov, k, hO, e => by
    have e : cond (Nat.beq q.1 c) (cond (bsum (-1) j q.2.1 fun d => brg env (fun a b => cond (bLe 1 a) true (bLe b (-1))) d.2 d.1 d.1) (bkl9 c j env ov fun r => k (q :: r)) (bkl9 c j env ov k)) (bkl9 c j env ov fun r => k (q :: r)) = true := e
    have hO' : bOV E V ov h := fun p hp => hO p (List.mem_cons_of_mem _ hp)
    obtain ⟨i, g1, g2⟩ := hO q List.mem_cons_self
    have keep : (¬ (q.1 = c ∧ i = jn)) → bkl9 c j env ov (fun r => k (q :: r)) = true → ∃ ov', bOV E V ov' (zsetI h c (upd (h.2.1 c) jn y)) ∧ k ov' = true := by
      intro hn e
      obtain ⟨ov', g3, g4⟩ := bkl9_s he hj hc (y := y) hO' e
      refine ⟨q :: ov', ?_, g4⟩
      intro p hp
      cases hp with
      | tail _ hp => exact g3 p hp
      | head =>
        refine ⟨i, g1, ?_⟩
        have : bcv E (zsetI h c (upd (h.2.1 c) jn y)) q.1 i = bcv E h q.1 i := by
          unfold bcv
          cases hq : Nat.beq q.1 1000000 with
          | true => rfl
          | false =>
            show zrow h.2.1 c (upd (h.2.1 c) jn y) q.1 i = h.2.1 q.1 i
            by_cases h1 : q.1 = c
            · rw [h1, zrow_at]
              unfold upd
              rw [if_neg (fun h2 => hn ⟨h1, h2⟩)]
            · rw [zrow_ne _ _ h1]
        rw [this]
        exact g2
    cases h1 : Nat.beq q.1 c with
    | false =>
      rw [h1, cond_false] at e
      refine keep (fun h2 => ?_) e
      have := abq0 h1
      exact this h2.1
    | true =>
      rw [h1, cond_true] at e
      cases h2 : (bsum (-1) j q.2.1 fun d => brg env (fun a b => cond (bLe 1 a) true (bLe b (-1))) d.2 d.1 d.1) with
      | false =>
        rw [h2, cond_false] at e
        exact bkl9_s he hj hc hO' e
      | true =>
        rw [h2, cond_true] at e
        refine keep (fun h3 => ?_) e
        obtain ⟨d, h4, h5⟩ := bsum_s g1 hj h2
        obtain ⟨a, b, h6, h7, -, h8⟩ := brgf_s he h4 h5
        rw [h3.2] at h6 h7
        cases h9 : bLe 1 a with
        | true =>
          have := bLe_iff.mp h9
          omega
        | false =>
          rw [h9, cond_false] at h8
          have := bLe_iff.mp h8
          omega
/-- does a write keep what is known of the row of the world? -/
noncomputable def bG0 : bGf := fun p A B k => cond (Nat.beq p.toNat 2) false (cond (Nat.blt p.toNat 188) (k A B) (cond (Nat.beq ((p.toNat - 188) % 24) 0) (cond (Nat.blt p.toNat 377) false (k A B)) (k A B)))
noncomputable def bn0 (j : bI) (S : bS) : Bool := match S with
  | (_, env, _, _, _, _) => bnm env bG0 j.2 j.1 0 0 fun _ _ => true
noncomputable def bwl (j v : bI) (hi : Int) (S : bS) : Bool := cond (brS j S fun a _ => bLe 1626 a) true
  (cond (brS j S fun a b => cond (bLe b 776) (cond (bLe 5 a) true (bLe b 3)) false)
  (cond (bie hi 2147483647) true
    (cond (bfq j (2, [])) (match blS bWc (2, []) S with
      | none => false
      | some n => cond (bsum (-1) n v fun d => bfq d (1, [])) (bsum 24 n (188, []) fun i => (match blS bWc i S with
        | none => false
        | some l => bsum 1 (-1, []) l fun l => bch l S)) false)
      (cond (bn0 j S) true
        (cond (cond (bsum 1 (-1, []) v fun g => bch g S) (brS j S fun a _ => bLe 3 a) false) true
          (match blS bWc (2, []) S with
            | none => false
            | some n => bsum (-24) n j fun d => bsum 1 (-185, []) d fun d => bch d S))))) false)
set_option maxRecDepth 100000 in
theorem bG0_s : bGok false (fun p _ _ => p.toNat ≠ 2 ∧ ∀ q : Nat, q < 8 → p.toNat ≠ 188 + 24 * q) bG0 := by
  intro p A B k e
  unfold bG0 at e
  cases h1 : Nat.beq p.toNat 2 with
  | true => rw [h1] at e; cases e
  | false =>
    have h1 := abq0 h1
    rw [show Nat.beq p.toNat 2 = false from by
      cases hb : Nat.beq p.toNat 2 with
      | true => exact absurd (abq hb) h1
      | false => rfl, cond_false] at e
    cases h2 : Nat.blt p.toNat 188 with
    | true =>
      rw [h2, cond_true] at e
      have := abl.mp h2
      exact ⟨A, B, bcov_r _ _ _, ⟨h1, fun q _ => by omega⟩, e⟩
    | false =>
      rw [h2, cond_false] at e
      have h2 := abl0 h2
      cases h3 : Nat.beq ((p.toNat - 188) % 24) 0 with
      | false =>
        rw [h3, cond_false] at e
        have := abq0 h3
        exact ⟨A, B, bcov_r _ _ _, ⟨h1, fun q _ => by omega⟩, e⟩
      | true =>
        rw [h3, cond_true] at e
        cases h4 : Nat.blt p.toNat 377 with
        | true => rw [h4] at e; cases e
        | false =>
          rw [h4, cond_false] at e
          have := abl0 h4
          exact ⟨A, B, bcov_r _ _ _, ⟨h1, fun q _ => by omega⟩, e⟩
set_option maxRecDepth 100000 in
theorem bwl_s (hS : bSS E tb W h0 V S h) {jn : Nat} {j v : bI} {y : Int32} {hi : Int} (hj : brel V j (jn : Int)) (hv : brel V v y.toInt) (hhi : hi ≤ (biv bWc jn).2) (e : bwl j v hi S = true) :
    blam (upd (h.2.1 bWc) jn y) ∧ (1626 ≤ jn ∨ (jn ≤ 776 ∧ jn ≠ 4)) := by
  have hI := hS.2.2.2.2.1
  have hl := hI.2.1
  have h8 : (h.2.1 bWc 2).toInt ≤ 8 := by have := (hI.1 bWc 2).2; rw [bW2] at this; exact this
  have gen : jn ≠ 2 → (∀ q : Nat, (q : Int) < (h.2.1 bWc 2).toInt → jn = 188 + 24 * q → 1 ≤ y.toInt) → blam (upd (h.2.1 bWc) jn y) := by
    intro g1 g2 p hp
    have hp : (p : Int) < (upd (h.2.1 bWc) jn y 2).toInt := hp
    unfold upd at hp ⊢
    rw [if_neg (fun z => g1 z.symm)] at hp
    by_cases hq : 188 + 24 * p = jn
    · rw [if_pos hq]
      exact g2 p hp hq.symm
    · rw [if_neg hq]
      exact hl p hp
  unfold bwl at e
  cases c1 : (brS j S fun a _ => bLe 1626 a) with
  | true =>
    obtain ⟨a, b, h1, h2, h3⟩ := brS_s hS hj c1
    have := bLe_iff.mp h3
    exact ⟨gen (by omega) (fun q hq hz => by omega), Or.inl (by omega)⟩
  | false =>
    rw [c1, cond_false] at e
    obtain ⟨c2, e⟩ := bcnd e
    obtain ⟨a, b, h1, h2, h3⟩ := brS_s hS hj c2
    obtain ⟨h4, h3⟩ := bcnd h3
    have h4 := bLe_iff.mp h4
    have h5 : jn ≠ 4 := by
      cases h6 : bLe 5 a with
      | true =>
        have := bLe_iff.mp h6
        omega
      | false =>
        rw [h6, cond_false] at h3
        have := bLe_iff.mp h3
        omega
    refine ⟨?_, Or.inr ⟨by omega, h5⟩⟩
    cases c3 : bie hi 2147483647 with
    | true =>
      have c3 := bie_s c3
      have h6 := bWl jn
      refine gen (fun z => ?_) (fun q hq hz => ?_)
      · rw [z, bW2] at hhi
        omega
      · have := h6 q (by omega) hz
        omega
    | false =>
      rw [c3, cond_false] at e
      cases c4 : bfq j (2, []) with
      | true =>
        rw [c4, cond_true] at e
        have c4 := bfq_s c4
        rw [c4] at hj
        have hj2 := brel_k hj
        have hj3 : jn = 2 := by omega
        split at e
        · cases e
        · rename_i n hz
          have g1 := blS_s hS (jn := 2) (brel_c V 2) hz
          rw [bcv_n bWn] at g1
          obtain ⟨e1, e⟩ := bcnd e
          obtain ⟨d, g2, e1⟩ := bsum_s hv g1 e1
          rw [bfq_s e1] at g2
          have g3 := brel_k g2
          obtain ⟨i, g4, e⟩ := bsum_s (brel_c V 188) g1 e
          have hnn : 0 ≤ (h.2.1 bWc 2).toInt := by have := (hI.1 bWc 2).1; rw [bW20] at this; exact this
          split at e
          · cases e
          · rename_i l hz2
            have g5 := blS_s hS (jn := 188 + 24 * (h.2.1 bWc 2).toInt.toNat) (by
              have : ((188 + 24 * (h.2.1 bWc 2).toInt.toNat : Nat) : Int) = 188 + 24 * (h.2.1 bWc 2).toInt := by omega
              rw [this]
              exact g4) hz2
            rw [bcv_n bWn] at g5
            obtain ⟨l', g6, e⟩ := bsum_s g5 (brel_c V (-1)) e
            have g7 := bch_s hS g6 e
            intro p hp
            have hp : (p : Int) < (upd (h.2.1 bWc) jn y 2).toInt := hp
            unfold upd at hp ⊢
            rw [if_pos hj3.symm] at hp
            rw [if_neg (by omega)]
            by_cases hq : (p : Int) < (h.2.1 bWc 2).toInt
            · exact hl p hq
            · have : p = (h.2.1 bWc 2).toInt.toNat := by omega
              rw [this]
              omega
      | false =>
        rw [c4, cond_false] at e
        cases c5 : bn0 j S with
        | true =>
          obtain ⟨nv, env, cs, ov, ca, sa⟩ := S
          obtain ⟨s, s1, s2⟩ := hj
          have c5 : (bnm env bG0 j.2 j.1 0 0 fun _ _ => true) = true := c5
          obtain ⟨A', B', -, g2, -⟩ := bnm_s (w := false) (R := fun p _ _ => p.toNat ≠ 2 ∧ ∀ q : Nat, q < 8 → p.toNat ≠ 188 + 24 * q) (fun p A B A' B' _ g => g) bG0_s hS.1 s1 c5
          rw [← s2] at g2
          exact gen g2.1 (fun q hq hz => absurd hz (g2.2 q (by omega)))
        | false =>
          rw [c5, cond_false] at e
          cases c6 : (cond (bsum 1 (-1, []) v fun g => bch g S) (brS j S fun a _ => bLe 3 a) false) with
          | true =>
            obtain ⟨e1, e2⟩ := bcnd c6
            obtain ⟨l', g6, e1⟩ := bsum_s hv (brel_c V (-1)) e1
            have g7 := bch_s hS g6 e1
            obtain ⟨a', b', h6, h7, h8⟩ := brS_s hS hj e2
            have := bLe_iff.mp h8
            exact gen (by omega) (fun q hq hz => by omega)
          | false =>
            rw [c6, cond_false] at e
            split at e
            · cases e
            · rename_i n hz
              have g1 := blS_s hS (jn := 2) (brel_c V 2) hz
              rw [bcv_n bWn] at g1
              obtain ⟨d, g2, e⟩ := bsum_s hj g1 e
              obtain ⟨d', g3, e⟩ := bsum_s g2 (brel_c V (-185)) e
              have g4 := bch_s hS g3 e
              have hnn : 0 ≤ (h.2.1 bWc 2).toInt := by have := (hI.1 bWc 2).1; rw [bW20] at this; exact this
              exact gen (by omega) (fun q hq hz => by omega)
noncomputable def buk (c : Nat) (j : bI) (W : Nat) : Bool := match bg2 unt c with
  | some (0, u) => Nat.testBit W u
  | some (_ + 1, u) => (match j with
    | (a, []) => Nat.testBit W (u + a.toNat)
    | (_, _ :: _) => false)
  | none => false
set_option maxRecDepth 100000 in
theorem buk_s {c jn : Nat} {j : bI} (hj : brel V j (jn : Int)) (e : buk c j W = true) : Nat.testBit W (bun c jn) = true := by
  unfold buk at e
  unfold bun
  split at e
  · rename_i u hz
    rw [hz]
    exact e
  · rename_i n u hz
    rw [hz]
    split at e
    · rename_i a
      have h1 := brel_k hj
      have h2 : jn = a.toNat := by omega
      show Nat.testBit W (u + jn) = true
      rw [h2]
      exact e
    · cases e
  · cases e
/-- a write of v at a place -/
noncomputable def bwr (W c : Nat) (j v : bI) (S : bS) (k : bS → Bool) : Bool := cond (Nat.beq c 1000000) false (cond (buk c j W) (cond (bnx c) (bir true c j S fun lo hi => cond (bwi v lo hi S)
  (cond (cond (bhc c) (brS v S fun a b => cond (bLe b 1011) true (bLe 1020 a)) (cond (Nat.beq c bWc) (bwl j v hi S) true)) (match S with
    | (nv, env, cs, ov, ca, sa) => bkl9 c j env ov fun ov => k (nv, env, cs, (c, j, v) :: ov, ca, sa)) false) false) false) false)
set_option maxRecDepth 100000 in
theorem bwr_s (hS : bSS E tb W h0 V S h) {c jn : Nat} {j v : bI} {y : Int32} (hj : brel V j (jn : Int)) (hv : brel V v y.toInt) {k : bS → Bool} (e : bwr W c j v S k = true) : ∃ S', bSS E tb W h0 V S' (zsetI h c (upd (h.2.1 c) jn y)) ∧ k S' = true := by
  unfold bwr at e
  cases hc : Nat.beq c 1000000 with
  | true => rw [hc] at e; cases e
  | false =>
    rw [hc, cond_false] at e
    obtain ⟨c1, e⟩ := bcnd e
    obtain ⟨c2, e⟩ := bcnd e
    obtain ⟨lo, hi, h1, e⟩ := bir_s hS hj e
    have h1 : (biv c jn).1 ≤ lo ∧ hi ≤ (biv c jn).2 := h1
    obtain ⟨c3, e⟩ := bcnd e
    obtain ⟨c4, e⟩ := bcnd e
    have h2 := bwi_s hS hv c3
    have h3 : c = bWc → blam (upd (h.2.1 bWc) jn y) ∧ (1626 ≤ jn ∨ (jn ≤ 776 ∧ jn ≠ 4)) := by
      intro hcw
      subst hcw
      rw [show bhc bWc = false from rfl, cond_false, show Nat.beq bWc bWc = true from Nat.beq_refl _, cond_true] at c4
      exact bwl_s hS hj hv h1.2 c4
    have h4 : bhc c = true → y.toInt ≤ 1011 ∨ 1020 ≤ y.toInt := by
      intro hh
      rw [hh, cond_true] at c4
      obtain ⟨a, b, f1, f2, f3⟩ := brS_s hS hv c4
      cases f4 : bLe b 1011 with
      | true => have := bLe_iff.mp f4; exact Or.inl (by omega)
      | false =>
        rw [f4, cond_false] at f3
        have := bLe_iff.mp f3
        exact Or.inr (by omega)
    obtain ⟨nv, env, cs, ov, ca, sa⟩ := S
    obtain ⟨g1, g2, g3, g4, g5, g6, g7, g8, g9, g10⟩ := hS
    obtain ⟨ov', f1, f2⟩ := bkl9_s (y := y) g1 hj hc g4 e
    refine ⟨(nv, env, cs, (c, j, v) :: ov', ca, sa), ⟨g1, g2, g3, ?_, ?_, g6, g7, ?_, g9, g10⟩, f2⟩
    · intro q hq
      cases hq with
      | tail _ hq => exact f1 q hq
      | head =>
        refine ⟨jn, hj, ?_⟩
        have : bcv E (zsetI h c (upd (h.2.1 c) jn y)) c jn = y := by
          rw [bcv_n hc]
          show zrow h.2.1 c (upd (h.2.1 c) jn y) c jn = y
          rw [zrow_at]
          unfold upd
          rw [if_pos rfl]
        rw [this]
        exact hv
    · refine ⟨?_, ?_, ?_, ?_⟩
      · intro c' k'
        show (biv c' k').1 ≤ (zrow h.2.1 c (upd (h.2.1 c) jn y) c' k').toInt ∧ (zrow h.2.1 c (upd (h.2.1 c) jn y) c' k').toInt ≤ (biv c' k').2
        by_cases hcc : c' = c
        · subst hcc
          rw [zrow_at]
          unfold upd
          by_cases hk : k' = jn
          · subst hk
            rw [if_pos rfl]
            omega
          · rw [if_neg hk]
            exact g5.1 c' k'
        · rw [zrow_ne _ _ hcc]
          exact g5.1 c' k'
      · by_cases hcw : bWc = c
        · subst hcw
          show blam (zrow h.2.1 bWc (upd (h.2.1 bWc) jn y) bWc)
          rw [zrow_at]
          exact (h3 rfl).1
        · show blam (zrow h.2.1 c (upd (h.2.1 c) jn y) bWc)
          rw [zrow_ne _ _ hcw]
          exact g5.2.1
      · exact bHX_w g5.1 g5.2.2.1 c2 (fun z => (h3 z).2)
      · intro c' hh k'
        by_cases hcc : c' = c
        · subst hcc
          show (zrow h.2.1 c' (upd (h.2.1 c') jn y) c' k').toInt ≤ 1011 ∨ 1020 ≤ (zrow h.2.1 c' (upd (h.2.1 c') jn y) c' k').toInt
          rw [zrow_at]
          unfold upd
          by_cases hk : k' = jn
          · subst hk
            rw [if_pos rfl]
            exact h4 hh
          · rw [if_neg hk]
            exact g5.2.2.2 c' hh k'
        · show (zrow h.2.1 c (upd (h.2.1 c) jn y) c' k').toInt ≤ 1011 ∨ 1020 ≤ (zrow h.2.1 c (upd (h.2.1 c) jn y) c' k').toInt
          rw [zrow_ne _ _ hcc]
          exact g5.2.2.2 c' hh k'
    · intro c' k' hb
      show zrow h.2.1 c (upd (h.2.1 c) jn y) c' k' = _
      by_cases hcc : c' = c
      · subst hcc
        rw [zrow_at]
        unfold upd
        by_cases hk : k' = jn
        · subst hk
          rw [buk_s hj c1] at hb
          cases hb
        · rw [if_neg hk]
          exact g8 c' k' hb
      · rw [zrow_ne _ _ hcc]
        exact g8 c' k' hb
end BHP
end
section
set_option maxRecDepth 100000 in
theorem bi32 (x : Int32) : -2147483648 ≤ x.toInt ∧ x.toInt ≤ 2147483647 := by
  have h1 := x.le_toInt
  have h2 := x.toInt_lt
  omega
set_option maxRecDepth 100000 in
theorem bi64 (x : Int64) : -9223372036854775808 ≤ x.toInt ∧ x.toInt ≤ 9223372036854775807 := by
  have h1 := x.le_toInt
  have h2 := x.toInt_lt
  omega
set_option maxRecDepth 100000 in
theorem bbm {n : Int} (h1 : -2147483648 ≤ n) (h2 : n ≤ 2147483647) : n.bmod (2 ^ 32) = n := by
  apply Int.bmod_eq_of_le <;> omega
set_option maxRecDepth 100000 in
theorem bbm64 {n : Int} (h1 : -9223372036854775808 ≤ n) (h2 : n ≤ 9223372036854775807) : n.bmod (2 ^ 64) = n := by
  apply Int.bmod_eq_of_le <;> omega
set_option maxRecDepth 100000 in
theorem bof {x : Int32} {c : Int} (h : x.toInt = c) : Int32.ofInt c = x := by
  rw [← h]
  exact Int32.ofInt_toInt x
set_option maxRecDepth 100000 in
theorem btn {x : Int32} (h : 0 ≤ x.toInt) : x.toBitVec.toNat < 2147483648 ∧ x.toInt = (x.toBitVec.toNat : Int) := by
  have h1 : x.toInt = x.toBitVec.toInt := rfl
  rw [h1] at h ⊢
  rw [BitVec.toInt_eq_toNat_cond] at h ⊢
  have h2 := x.toBitVec.isLt
  split <;> omega
set_option maxRecDepth 100000 in
theorem btn2 {x : Int32} (h : x.toBitVec.toNat < 2147483648) : x.toInt = (x.toBitVec.toNat : Int) := by
  have h1 : x.toInt = x.toBitVec.toInt := rfl
  rw [h1, BitVec.toInt_eq_toNat_cond]
  have h2 := x.toBitVec.isLt
  split <;> omega
set_option maxRecDepth 100000 in
theorem band_le (x y : Int32) (h : 0 ≤ y.toInt) : 0 ≤ (x &&& y).toInt ∧ (x &&& y).toInt ≤ y.toInt := by
  obtain ⟨h1, h2⟩ := btn h
  have h3 : (x &&& y).toBitVec.toNat = x.toBitVec.toNat &&& y.toBitVec.toNat := by
    rw [Int32.toBitVec_and, BitVec.toNat_and]
  have h4 : x.toBitVec.toNat &&& y.toBitVec.toNat ≤ y.toBitVec.toNat := Nat.and_le_right
  have h5 := btn2 (x := x &&& y) (by omega)
  omega
set_option maxRecDepth 100000 in
theorem band_le2 (x y : Int32) (h : 0 ≤ x.toInt) : 0 ≤ (x &&& y).toInt ∧ (x &&& y).toInt ≤ x.toInt := by
  obtain ⟨h1, h2⟩ := btn h
  have h3 : (x &&& y).toBitVec.toNat = x.toBitVec.toNat &&& y.toBitVec.toNat := by
    rw [Int32.toBitVec_and, BitVec.toNat_and]
  have h4 : x.toBitVec.toNat &&& y.toBitVec.toNat ≤ x.toBitVec.toNat := Nat.and_le_left
  have h5 := btn2 (x := x &&& y) (by omega)
  omega
set_option maxRecDepth 100000 in
theorem bor_le (x y : Int32) (n : Nat) (hn : n ≤ 31) (h : 0 ≤ x.toInt) (h' : 0 ≤ y.toInt) (g : x.toInt < ((2 ^ n : Nat) : Int)) (g' : y.toInt < ((2 ^ n : Nat) : Int)) : 0 ≤ (x ||| y).toInt ∧ (x ||| y).toInt < ((2 ^ n : Nat) : Int) := by
  obtain ⟨h1, h2⟩ := btn h
  obtain ⟨h3, h4⟩ := btn h'
  have h5 : (x ||| y).toBitVec.toNat = x.toBitVec.toNat ||| y.toBitVec.toNat := by
    rw [Int32.toBitVec_or, BitVec.toNat_or]
  have h6 : x.toBitVec.toNat ||| y.toBitVec.toNat < 2 ^ n := Nat.or_lt_two_pow (by omega) (by omega)
  have h7 : 2 ^ n ≤ 2 ^ 31 := Nat.pow_le_pow_right (by omega) hn
  have h8 := btn2 (x := x ||| y) (by omega)
  omega
set_option maxRecDepth 100000 in
theorem bshl1 : ∀ n : Nat, n < 31 → ((1 : Int32) <<< (Int32.ofInt (n : Int) &&& 31)).toInt = ((2 ^ n : Nat) : Int) := by decide +kernel
set_option maxRecDepth 100000 in
theorem bdiv_le {x y : Int32} {a b : Int} (hy : 1 ≤ y.toInt) (h1 : a ≤ x.toInt) (h2 : x.toInt ≤ b) (ha : 0 ≤ a) : 0 ≤ (x / y).toInt ∧ a / y.toInt ≤ (x / y).toInt ∧ (x / y).toInt ≤ b / y.toInt := by
  have h3 : (x / y).toInt = x.toInt / y.toInt := by
    rw [Int32.toInt_div_of_ne_right, Int.tdiv_eq_ediv_of_nonneg (by omega)]
    intro z
    rw [z] at hy
    exact absurd hy (by decide)
  rw [h3]
  exact ⟨Int.ediv_nonneg (by omega) (by omega), Int.ediv_le_ediv (by omega) h1, Int.ediv_le_ediv (by omega) h2⟩
set_option maxRecDepth 100000 in
theorem brem_eq {x y : Int32} (hy : 1 ≤ y.toInt) : (x - x / y * y).toInt = x.toInt.tmod y.toInt := by
  have h3 : (x / y).toInt = x.toInt.tdiv y.toInt := by
    rw [Int32.toInt_div_of_ne_right]
    intro z
    rw [z] at hy
    exact absurd hy (by decide)
  have h4 := Int.tmod_def x.toInt y.toInt
  have h5 := Int.tmod_lt_of_pos x.toInt (b := y.toInt) (by omega)
  have h6 := Int.lt_tmod_of_pos x.toInt (b := y.toInt) (by omega)
  have h7 := bi32 y
  rw [Int32.toInt_sub, Int32.toInt_mul, h3]
  have h8 : x.toInt.tdiv y.toInt * y.toInt = y.toInt * x.toInt.tdiv y.toInt := Int.mul_comm _ _
  rw [h8, Int.sub_bmod_bmod, ← h4]
  exact bbm (by omega) (by omega)
section BOPS
variable {E : zE} {tb : bTb} {W : Nat} {h0 : zH} {P : Option zR → Prop} {V : List Int} {S : bS} {als : bLs} {ls : zLs} {a : bSt} {s : List Value} {h : zH}
abbrev bFin9 (E : zE) (tb : bTb) (W : Nat) (h0 : zH) (V : List Int) (h : zH) (k : bI → bS → Bool) (x : Int) : Prop := ∃ V' f S', bxt V V' ∧ brel V' f x ∧ bSS E tb W h0 V' S' h ∧ k f S' = true
/-- the result of an addition and the like: as it is, where it stays within bounds -/
noncomputable def bw32 (f : bI) (S : bS) (k : bI → bS → Bool) : Bool := cond (bwi f (-2147483648) 2147483647 S) (k f S) (bfre (-2147483648) 2147483647 S k)
set_option maxRecDepth 100000 in
theorem bw32_s (hS : bSS E tb W h0 V S h) {f : bI} {X : Int} {x : Int32} (hf : brel V f X) (hx : -2147483648 ≤ X → X ≤ 2147483647 → x.toInt = X) {k : bI → bS → Bool} (e : bw32 f S k = true) : bFin9 E tb W h0 V h k x.toInt := by
  unfold bw32 at e
  cases hb : bwi f (-2147483648) 2147483647 S with
  | true =>
    rw [hb, cond_true] at e
    have h1 := bwi_s hS hf hb
    exact ⟨V, f, S, bxt_refl V, by rw [hx h1.1 h1.2]; exact hf, hS, e⟩
  | false =>
    rw [hb, cond_false] at e
    exact bfre_s hS (bi32 x).1 (bi32 x).2 e
set_option maxRecDepth 100000 in
theorem bfin_c {c : Int} {x : Int} (hS : bSS E tb W h0 V S h) (hx : x = c) {k : bI → bS → Bool} (e : (bfo c fun c => k (c, []) S) = true) : bFin9 E tb W h0 V h k x := by
  rw [bfo_eq] at e
  exact ⟨V, (c, []), S, bxt_refl V, by rw [hx]; exact brel_c V c, hS, e⟩
noncomputable def bo_add (b a : bI) (S : bS) (k : bI → bS → Bool) : Bool := bsum 1 b a fun f => bw32 f S k
noncomputable def bo_sub (b a : bI) (S : bS) (k : bI → bS → Bool) : Bool := bsum (-1) b a fun f => bw32 f S k
noncomputable def bo_any (_ _ : bI) (S : bS) (k : bI → bS → Bool) : Bool := bfre (-2147483648) 2147483647 S k
noncomputable def bo_mul (b a : bI) (S : bS) (k : bI → bS → Bool) : Bool := match b.2 with
  | [] => bsum b.1 a (0, []) fun f => bw32 f S k
  | _ :: _ => (match a.2 with
    | [] => bsum a.1 b (0, []) fun f => bw32 f S k
    | _ :: _ => bo_any b a S k)
noncomputable def bo_two (g : Int32 → Int32 → Int32) (r : bI → bI → bS → (bI → bS → Bool) → Bool) (b a : bI) (S : bS) (k : bI → bS → Bool) : Bool := match b.2, a.2 with
  | [], [] => bfo (g (Int32.ofInt a.1) (Int32.ofInt b.1)).toInt fun c => k (c, []) S
  | _, _ => r b a S k
noncomputable def bo_and (b a : bI) (S : bS) (k : bI → bS → Bool) : Bool := brS b S fun lb hb => brS a S fun la ha =>
  cond (bLe 0 lb) (bfre 0 hb S k) (cond (bLe 0 la) (bfre 0 ha S k) (bo_any b a S k))
noncomputable def bo_or (b a : bI) (S : bS) (k : bI → bS → Bool) : Bool := brS b S fun lb hb => brS a S fun la ha =>
  cond (cond (bLe 0 lb) (bLe 0 la) false) (afo (Nat.log2 (bmx hb ha).toNat + 1) fun n => cond (Nat.ble n 31) (cond (cond (bLe (hb + 1) (2 ^ n : Nat)) (bLe (ha + 1) (2 ^ n : Nat)) false) (bfre 0 ((2 ^ n : Nat) - 1) S k) (bo_any b a S k)) (bo_any b a S k)) (bo_any b a S k)
noncomputable def bo_shl (b a : bI) (S : bS) (k : bI → bS → Bool) : Bool := brS b S fun lb hb =>
  cond (cond (bfq a (1, [])) (cond (bLe 0 lb) (bLe hb 30) false) false) (bfre 1 ((2 ^ hb.toNat : Nat) : Int) S k) (bo_any b a S k)
set_option maxRecDepth 100000 in
theorem bo_any_s (hS : bSS E tb W h0 V S h) {a b : bI} (x : Int32) {k : bI → bS → Bool} (e : bo_any b a S k = true) : bFin9 E tb W h0 V h k x.toInt := bfre_s hS (bi32 x).1 (bi32 x).2 e
abbrev bOp (E : zE) (tb : bTb) (W : Nat) (h0 : zH) (o : bI → bI → bS → (bI → bS → Bool) → Bool) (g : Int32 → Int32 → Int32) : Prop := ∀ (V : List Int) (S : bS) (h : zH) (a b : bI) (x y : Int32) (k : bI → bS → Bool), bSS E tb W h0 V S h → brel V a x.toInt → brel V b y.toInt → o b a S k = true → bFin9 E tb W h0 V h k (g x y).toInt
set_option maxRecDepth 100000 in
theorem bo_add_s : bOp E tb W h0 bo_add (fun a b => a + b) := by
  intro V S h a b x y k hS ha hb e
  obtain ⟨f, h1, e⟩ := bsum_s ha hb e
  exact bw32_s hS h1 (fun g1 g2 => by
    show (x + y).toInt = _
    rw [Int32.toInt_add, bbm (by omega) (by omega)]
    omega) e
set_option maxRecDepth 100000 in
theorem bo_sub_s : bOp E tb W h0 bo_sub (fun a b => a - b) := by
  intro V S h a b x y k hS ha hb e
  obtain ⟨f, h1, e⟩ := bsum_s ha hb e
  exact bw32_s hS h1 (fun g1 g2 => by
    show (x - y).toInt = _
    rw [Int32.toInt_sub, bbm (by omega) (by omega)]
    omega) e
set_option maxRecDepth 100000 in
theorem bo_mul_s : bOp E tb W h0 bo_mul (fun a b => a * b) := by
  intro V S h a b x y k hS ha hb e
  unfold bo_mul at e
  split at e
  · rename_i hz
    have hb1 : y.toInt = b.1 := by
      obtain ⟨c, l⟩ := b
      have hz : l = [] := hz
      subst hz
      exact brel_k hb
    obtain ⟨f, h1, e⟩ := bsum_s (brel_c V 0) ha e
    have h2 : x.toInt * y.toInt = 0 + b.1 * x.toInt := by rw [hb1, Int.mul_comm]; omega
    exact bw32_s hS h1 (fun g1 g2 => by
      show (x * y).toInt = _
      rw [Int32.toInt_mul, h2, bbm (by omega) (by omega)]) e
  · split at e
    · rename_i hz
      have ha1 : x.toInt = a.1 := by
        obtain ⟨c, l⟩ := a
        have hz : l = [] := hz
        subst hz
        exact brel_k ha
      obtain ⟨f, h1, e⟩ := bsum_s (brel_c V 0) hb e
      have h2 : x.toInt * y.toInt = 0 + a.1 * y.toInt := by rw [ha1]; omega
      exact bw32_s hS h1 (fun g1 g2 => by
        show (x * y).toInt = _
        rw [Int32.toInt_mul, h2, bbm (by omega) (by omega)]) e
    · exact bo_any_s hS (x * y) e
set_option maxRecDepth 100000 in
theorem bo_two_s {g : Int32 → Int32 → Int32} {r : bI → bI → bS → (bI → bS → Bool) → Bool} (hr : bOp E tb W h0 r g) : bOp E tb W h0 (bo_two g r) g := by
  intro V S h a b x y k hS ha hb e
  unfold bo_two at e
  split at e
  · rename_i z1 z2
    obtain ⟨c, l⟩ := b
    obtain ⟨d, m⟩ := a
    have z1 : l = [] := z1
    have z2 : m = [] := z2
    subst z1
    subst z2
    have e1 := bof (brel_k ha)
    have e2 := bof (brel_k hb)
    exact bfin_c hS (by
      show (g x y).toInt = (g (Int32.ofInt d) (Int32.ofInt c)).toInt
      rw [e1, e2]) e
  · exact hr _ _ _ _ _ _ _ _ hS ha hb e
set_option maxRecDepth 100000 in
theorem bo_anyo_s (g : Int32 → Int32 → Int32) : bOp E tb W h0 bo_any g := by
  intro V S h a b x y k hS ha hb e
  exact bo_any_s hS (g x y) e
set_option maxRecDepth 100000 in
theorem bo_and_s : bOp E tb W h0 bo_and (fun a b => a &&& b) := by
  intro V S h a b x y k hS ha hb e
  unfold bo_and at e
  obtain ⟨lb, hb', h1, h2, e⟩ := brS_s hS hb e
  obtain ⟨la, ha', h3, h4, e⟩ := brS_s hS ha e
  cases c1 : bLe 0 lb with
  | true =>
    rw [c1, cond_true] at e
    have := bLe_iff.mp c1
    have h5 := band_le x y (by omega)
    exact bfre_s hS h5.1 (Int.le_trans h5.2 h2) e
  | false =>
    rw [c1, cond_false] at e
    cases c2 : bLe 0 la with
    | true =>
      rw [c2, cond_true] at e
      have := bLe_iff.mp c2
      have h5 := band_le2 x y (by omega)
      exact bfre_s hS h5.1 (Int.le_trans h5.2 h4) e
    | false =>
      rw [c2, cond_false] at e
      exact bo_any_s hS (x &&& y) e
set_option maxRecDepth 100000 in
theorem bo_or_s : bOp E tb W h0 bo_or (fun a b => a ||| b) := by
  intro V S h a b x y k hS ha hb e
  unfold bo_or at e
  obtain ⟨lb, hb', h1, h2, e⟩ := brS_s hS hb e
  obtain ⟨la, ha', h3, h4, e⟩ := brS_s hS ha e
  cases c1 : (cond (bLe 0 lb) (bLe 0 la) false) with
  | false =>
    rw [c1, cond_false] at e
    exact bo_any_s hS (x ||| y) e
  | true =>
    rw [c1, cond_true, afo_eq] at e
    obtain ⟨c2, c3⟩ := bcnd c1
    have c2 := bLe_iff.mp c2
    have c3 := bLe_iff.mp c3
    generalize Nat.log2 (bmx hb' ha').toNat + 1 = n at e
    cases c4 : Nat.ble n 31 with
    | false =>
      rw [c4, cond_false] at e
      exact bo_any_s hS (x ||| y) e
    | true =>
      rw [c4, cond_true] at e
      have c4 := abe.mp c4
      cases c5 : (cond (bLe (hb' + 1) (2 ^ n : Nat)) (bLe (ha' + 1) (2 ^ n : Nat)) false) with
      | false =>
        rw [c5, cond_false] at e
        exact bo_any_s hS (x ||| y) e
      | true =>
        rw [c5, cond_true] at e
        obtain ⟨c6, c7⟩ := bcnd c5
        have c6 := bLe_iff.mp c6
        have c7 := bLe_iff.mp c7
        have h5 := bor_le x y n c4 (by omega) (by omega) (by omega) (by omega)
        exact bfre_s hS h5.1 (by show (x ||| y).toInt ≤ _; omega) e
set_option maxRecDepth 100000 in
theorem bo_shl_s : bOp E tb W h0 bo_shl (fun a b => a <<< (b &&& 31)) := by
  intro V S h a b x y k hS ha hb e
  unfold bo_shl at e
  obtain ⟨lb, hb', h1, h2, e⟩ := brS_s hS hb e
  cases c1 : (cond (bfq a (1, [])) (cond (bLe 0 lb) (bLe hb' 30) false) false) with
  | false =>
    rw [c1, cond_false] at e
    exact bo_any_s hS (x <<< (y &&& 31)) e
  | true =>
    rw [c1, cond_true] at e
    obtain ⟨c2, c3⟩ := bcnd c1
    obtain ⟨c3, c4⟩ := bcnd c3
    have c3 := bLe_iff.mp c3
    have c4 := bLe_iff.mp c4
    rw [bfq_s c2] at ha
    have hx : x = 1 := Int32.toInt_inj.mp (brel_k ha)
    have hy : Int32.ofInt (y.toInt.toNat : Int) = y := bof (by omega)
    have h5 := bshl1 y.toInt.toNat (by omega)
    rw [hy] at h5
    have h6 : 2 ^ y.toInt.toNat ≤ 2 ^ hb'.toNat := Nat.pow_le_pow_right (by omega) (by omega)
    have h7 : 1 ≤ 2 ^ y.toInt.toNat := Nat.one_le_two_pow
    rw [hx]
    refine bfre_s hS ?_ ?_ e
    · show (1 : Int) ≤ ((1 : Int32) <<< (y &&& 31)).toInt
      rw [h5]
      omega
    · show ((1 : Int32) <<< (y &&& 31)).toInt ≤ _
      rw [h5]
      omega
noncomputable def bo_div (b a : bI) (S : bS) (k : bI → bS → Bool) : Bool := brS b S fun lb hb => cond (bLe 1 lb)
  (brS a S fun la ha => cond (cond (bLe 0 la) (bie lb hb) false) (bfre (la / lb) (ha / lb) S k) (bo_any b a S k)) (cond (bLe hb (-1)) (bo_any b a S k) false)
set_option maxRecDepth 100000 in
theorem bo_div_s {a b : bI} {x y : Int32} {k : bI → bS → Bool} (hS : bSS E tb W h0 V S h) (ha : brel V a x.toInt) (hb : brel V b y.toInt) (e : bo_div b a S k = true) : ¬ y = 0 ∧ bFin9 E tb W h0 V h k (x / y).toInt := by
  unfold bo_div at e
  obtain ⟨lb, hb', h1, h2, e⟩ := brS_s hS hb e
  have h9 : y.toInt ≠ 0 → ¬ y = 0 := fun z1 z2 => z1 (by rw [z2]; decide)
  cases c1 : bLe 1 lb with
  | true =>
    rw [c1, cond_true] at e
    have c1 := bLe_iff.mp c1
    obtain ⟨la, ha', h3, h4, e⟩ := brS_s hS ha e
    refine ⟨h9 (by omega), ?_⟩
    cases c2 : (cond (bLe 0 la) (bie lb hb') false) with
    | true =>
      rw [c2, cond_true] at e
      obtain ⟨c3, c4⟩ := bcnd c2
      have c3 := bLe_iff.mp c3
      have c4 := bie_s c4
      have h5 : y.toInt = lb := by omega
      have h6 := bdiv_le (x := x) (y := y) (by omega) h3 h4 c3
      rw [h5] at h6
      exact bfre_s hS h6.2.1 h6.2.2 e
    | false =>
      rw [c2, cond_false] at e
      exact bo_any_s hS (x / y) e
  | false =>
    rw [c1, cond_false] at e
    cases c2 : bLe hb' (-1) with
    | true =>
      rw [c2, cond_true] at e
      have c2 := bLe_iff.mp c2
      exact ⟨h9 (by omega), bo_any_s hS (x / y) e⟩
    | false => rw [c2] at e; cases e
noncomputable def bo_rem (b a : bI) (S : bS) (k : bI → bS → Bool) : Bool := bsum 1 (-1, []) b fun b1 => cond (bch b1 S) (brS b S fun _ hb => cond (bch a S)
    (bfre 0 (hb - 1) S fun r S => bsum (-1) r b1 fun c => bas c S fun S => k r S)
    (bfre (1 - hb) (hb - 1) S fun r S => bsum (-1) r b1 fun c => bas c S fun S => bsum 1 r b1 fun c => bas c S fun S => k r S)) false
set_option maxRecDepth 100000 in
theorem bo_rem_s {a b : bI} {x y : Int32} {k : bI → bS → Bool} (hS : bSS E tb W h0 V S h) (ha : brel V a x.toInt) (hb : brel V b y.toInt) (e : bo_rem b a S k = true) : ¬ y = 0 ∧ bFin9 E tb W h0 V h k (x - x / y * y).toInt := by
  unfold bo_rem at e
  obtain ⟨b1, h1, e⟩ := bsum_s hb (brel_c V (-1)) e
  obtain ⟨c1, e⟩ := bcnd e
  have c1 := bch_s hS h1 c1
  have hy : 1 ≤ y.toInt := by omega
  have h9 : ¬ y = 0 := fun z => by rw [z] at hy; exact absurd hy (by decide)
  refine ⟨h9, ?_⟩
  rw [brem_eq hy]
  have h5 := Int.tmod_lt_of_pos x.toInt (b := y.toInt) (by omega)
  have h6 := Int.lt_tmod_of_pos x.toInt (b := y.toInt) (by omega)
  obtain ⟨lb, hb', h2, h3, e⟩ := brS_s hS hb e
  cases c2 : bch a S with
  | true =>
    rw [c2, cond_true] at e
    have c2 := bch_s hS ha c2
    have h7 := Int.tmod_nonneg y.toInt c2
    obtain ⟨V', r, S', g1, g2, g3, e⟩ := bfre_s hS h7 (show x.toInt.tmod y.toInt ≤ hb' - 1 by omega) e
    obtain ⟨c, g4, e⟩ := bsum_s (brel_up g1 h1) g2 e
    obtain ⟨S9, g5, e⟩ := bas_s g3 g4 (by omega) e
    exact ⟨V', r, S9, g1, g2, g5, e⟩
  | false =>
    rw [c2, cond_false] at e
    obtain ⟨V', r, S', g1, g2, g3, e⟩ := bfre_s hS (show 1 - hb' ≤ x.toInt.tmod y.toInt by omega) (show x.toInt.tmod y.toInt ≤ hb' - 1 by omega) e
    obtain ⟨c, g4, e⟩ := bsum_s (brel_up g1 h1) g2 e
    obtain ⟨S9, g5, e⟩ := bas_s g3 g4 (by omega) e
    obtain ⟨c', g6, e⟩ := bsum_s (brel_up g1 h1) g2 e
    obtain ⟨S8, g7, e⟩ := bas_s g5 g6 (by omega) e
    exact ⟨V', r, S8, g1, g2, g7, e⟩
/-- f = g, or not -/
noncomputable def bq2 (f g : bI) (S : bS) (kt kf : bS → Bool) : Bool := bsum (-1) g f fun D => cond
  (bas D S fun S => bsum (-1) D (0, []) fun N => bas N S kt)
  (brS D S fun lo hi => cond (bie lo 0) (bsum 1 (-1, []) D fun C => bas C S kf) (cond (bie hi 0) (bsum (-1) D (-1, []) fun C => bas C S kf) (kf S))) false
set_option maxRecDepth 100000 in
theorem bq2_s (hS : bSS E tb W h0 V S h) {f g : bI} {x y : Int} (hf : brel V f x) (hg : brel V g y) {kt kf : bS → Bool} (e : bq2 f g S kt kf = true) : (x = y → ∃ S', bSS E tb W h0 V S' h ∧ kt S' = true) ∧ (¬ x = y → ∃ S', bSS E tb W h0 V S' h ∧ kf S' = true) := by
  unfold bq2 at e
  obtain ⟨D, h1, e⟩ := bsum_s hf hg e
  obtain ⟨e1, e2⟩ := bcnd e
  constructor
  · intro hxy
    obtain ⟨S1, g1, e1⟩ := bas_s hS h1 (by omega) e1
    obtain ⟨N, g2, e1⟩ := bsum_s (brel_c V 0) h1 e1
    exact bas_s g1 g2 (by omega) e1
  · intro hxy
    obtain ⟨lo, hi, g1, g2, e2⟩ := brS_s hS h1 e2
    cases c1 : bie lo 0 with
    | true =>
      rw [c1, cond_true] at e2
      have c1 := bie_s c1
      obtain ⟨C, g3, e2⟩ := bsum_s h1 (brel_c V (-1)) e2
      exact bas_s hS g3 (by omega) e2
    | false =>
      rw [c1, cond_false] at e2
      cases c2 : bie hi 0 with
      | true =>
        rw [c2, cond_true] at e2
        have c2 := bie_s c2
        obtain ⟨C, g3, e2⟩ := bsum_s (brel_c V (-1)) h1 e2
        exact bas_s hS g3 (by omega) e2
      | false =>
        rw [c2, cond_false] at e2
        exact ⟨S, hS, e2⟩
/-- f < g, or not -/
noncomputable def bl2 (f g : bI) (S : bS) (kt kf : bS → Bool) : Bool := bsum (-1) g f fun D => cond (bsum (-1) D (-1, []) fun C => bas C S kt) (bas D S kf) false
set_option maxRecDepth 100000 in
theorem bl2_s (hS : bSS E tb W h0 V S h) {f g : bI} {x y : Int} (hf : brel V f x) (hg : brel V g y) {kt kf : bS → Bool} (e : bl2 f g S kt kf = true) : (x < y → ∃ S', bSS E tb W h0 V S' h ∧ kt S' = true) ∧ (¬ x < y → ∃ S', bSS E tb W h0 V S' h ∧ kf S' = true) := by
  unfold bl2 at e
  obtain ⟨D, h1, e⟩ := bsum_s hf hg e
  obtain ⟨e1, e2⟩ := bcnd e
  constructor
  · intro hxy
    obtain ⟨C, g3, e1⟩ := bsum_s (brel_c V (-1)) h1 e1
    exact bas_s hS g3 (by omega) e1
  · intro hxy
    exact bas_s hS h1 (by omega) e2
end BOPS
end
section
noncomputable def b_ldI (k : bSt → Bool) (ls : bLs) (i : Nat) (st : bSt) : Bool := match agt ls i with
  | some (some (.inl c)) => k (.inl c :: st)
  | _ => false
noncomputable def b_ldJ (k : bSt → Bool) (ls : bLs) (i : Nat) (st : bSt) : Bool := match agt ls i with
  | some (some (.inr (.inr c))) => k (.inr (.inr c) :: st)
  | _ => false
noncomputable def b_ldA (k : bSt → Bool) (ls : bLs) (i : Nat) (st : bSt) : Bool := match agt ls i with
  | some (some (.inr (.inl w))) => cond (zisA w) (k (.inr (.inl w) :: st)) false
  | _ => false
noncomputable def b_stI (k : bLs → bSt → Bool) (ls : bLs) (i : Nat) (st : bSt) : Bool := match st with
  | .inl c :: r => bst (.inl c) i ls fun l => k l r
  | _ => false
noncomputable def b_stJ (k : bLs → bSt → Bool) (ls : bLs) (i : Nat) (st : bSt) : Bool := match st with
  | .inr (.inr c) :: r => bst (.inr (.inr c)) i ls fun l => afo (i + 1) fun i => bsn i l fun l => k l r
  | _ => false
noncomputable def b_stA (k : bLs → bSt → Bool) (ls : bLs) (i : Nat) (st : bSt) : Bool := match st with
  | .inr (.inl (.ref x)) :: r => bst (.inr (.inl (.ref x))) i ls fun l => k l r
  | .inr (.inl (.double x)) :: r => bst (.inr (.inl (.double x))) i ls fun l => k l r
  | _ => false
noncomputable def b_inc (k : bS → bLs → Bool) (S : bS) (ls : bLs) (i : Nat) (z : Int32) : Bool := match agt ls i with
  | some (some (.inl c)) => bfo z.toInt fun zi => bo_add (zi, []) c S fun f S => bst (.inl f) i ls fun l => k S l
  | _ => false
noncomputable def b_b2 (o : bI → bI → bS → (bI → bS → Bool) → Bool) (k : bS → bSt → Bool) (S : bS) (st : bSt) : Bool := match st with
  | .inl b :: .inl a :: r => o b a S fun f S => k S (.inl f :: r)
  | _ => false
noncomputable def b_l2 (k : bS → bSt → Bool) (S : bS) (st : bSt) : Bool := match st with
  | .inr (.inr _) :: .inr (.inr _) :: r => bfre (-9223372036854775808) 9223372036854775807 S fun f S => k S (.inr (.inr f) :: r)
  | _ => false
noncomputable def b_ldiv (k : bS → bSt → Bool) (S : bS) (st : bSt) : Bool := match st with
  | .inr (.inr y) :: .inr (.inr _) :: r => brS y S fun lo hi => cond (cond (bLe 1 lo) true (bLe hi (-1))) (bfre (-9223372036854775808) 9223372036854775807 S fun f S => k S (.inr (.inr f) :: r)) false
  | _ => false
noncomputable def b_lcmp (k : bS → bSt → Bool) (S : bS) (st : bSt) : Bool := match st with
  | .inr (.inr y) :: .inr (.inr x) :: r => bl2 y x S (fun S => k S (.inl (1, []) :: r)) (fun S => bq2 x y S (fun S => k S (.inl (0, []) :: r)) (fun S => k S (.inl (-1, []) :: r)))
  | _ => false
noncomputable def b_i2l (k : bSt → Bool) (st : bSt) : Bool := match st with
  | .inl x :: r => k (.inr (.inr x) :: r)
  | _ => false
noncomputable def b_l2i (k : bS → bSt → Bool) (S : bS) (st : bSt) : Bool := match st with
  | .inr (.inr x) :: r => bw32 x S fun f S => k S (.inl f :: r)
  | _ => false
noncomputable def b_by (x : bI) (S : bS) (k : bI → bS → Bool) : Bool := cond (bwi x (-128) 127 S) (k x S) (bfre (-128) 127 S k)
noncomputable def b_i2b (k : bS → bSt → Bool) (S : bS) (st : bSt) : Bool := match st with
  | .inl x :: r => b_by x S fun f S => k S (.inl f :: r)
  | _ => false
noncomputable def b_div (o : bI → bI → bS → (bI → bS → Bool) → Bool) (k : bS → bSt → Bool) (S : bS) (st : bSt) : Bool := match st with
  | .inl b :: .inl a :: r => o b a S fun f S => k S (.inl f :: r)
  | _ => false
noncomputable def b_if1 (k : bS → Nat → bSt → Bool) (S : bS) (c : ClassFile.Cond) (t p : Nat) (st : bSt) : Bool := match st with
  | .inl x :: r => (match c with
    | .eq => bq2 x (0, []) S (fun S => k S t r) (fun S => k S p r)
    | .ne => bq2 x (0, []) S (fun S => k S p r) (fun S => k S t r)
    | .lt => bl2 x (0, []) S (fun S => k S t r) (fun S => k S p r)
    | .ge => bl2 x (0, []) S (fun S => k S p r) (fun S => k S t r)
    | .gt => bl2 (0, []) x S (fun S => k S t r) (fun S => k S p r)
    | .le => bl2 (0, []) x S (fun S => k S p r) (fun S => k S t r))
  | _ => false
noncomputable def b_if2 (k : bS → Nat → bSt → Bool) (S : bS) (c : ClassFile.Cond) (t p : Nat) (st : bSt) : Bool := match st with
  | .inl y :: .inl x :: r => (match c with
    | .eq => bq2 x y S (fun S => k S t r) (fun S => k S p r)
    | .ne => bq2 x y S (fun S => k S p r) (fun S => k S t r)
    | .lt => bl2 x y S (fun S => k S t r) (fun S => k S p r)
    | .ge => bl2 x y S (fun S => k S p r) (fun S => k S t r)
    | .gt => bl2 y x S (fun S => k S t r) (fun S => k S p r)
    | .le => bl2 y x S (fun S => k S p r) (fun S => k S t r))
  | _ => false
noncomputable def b_nul (k : Nat → bSt → Bool) (t p : Nat) (st : bSt) : Bool := match st with
  | .inr (.inl .null) :: r => k t r
  | .inr (.inl (.ref _)) :: r => k p r
  | _ => false
noncomputable def b_get (tb : bTb) (k : bS → bSt → Bool) (S : bS) (ci fk : Nat) (st : bSt) : Bool := match st with
  | .inr (.inl (.ref a)) :: r => (match bg2 tb a with
    | some (.inr (.inl (c, sl))) => cond (Nat.beq c ci) (match agt sl fk with
      | some none => bri a (.ofNat fk, []) S fun f S => k S (.inl f :: r)
      | some (some none) => k S (.inr (.inl .null) :: r)
      | some (some (some o)) => k S (.inr (.inl (.ref o)) :: r)
      | none => false) false
    | _ => false)
  | _ => false
noncomputable def b_put (tb : bTb) (W : Nat) (k : bS → bSt → Bool) (S : bS) (ci fk : Nat) (z : Int32) (st : bSt) : Bool := match st with
  | .inl y :: .inr (.inl (.ref a)) :: r => (match bg2 tb a with
    | some (.inr (.inl (c, sl))) => cond (Nat.beq c ci) (match agt sl fk with
      | some none => cond (cond (bie z.toInt 0) true (bwi y 0 1 S)) (bwr W a (.ofNat fk, []) y S fun S => k S r) false
      | _ => false) false
    | _ => false)
  | _ => false
noncomputable def b_arr (tb : bTb) (t a : Nat) (k : Nat → Bool) : Bool := match bg2 tb a with
  | some (.inl (t', n, _)) => cond (Nat.beq t' t) (k n) false
  | _ => false
noncomputable def b_ix (j : bI) (n : Nat) (S : bS) : Bool := bfo ((n : Int) - 1) fun m => bwi j 0 m S
noncomputable def b_ald (tb : bTb) (sc : Option bI) (k : bS → bSt → Bool) (S : bS) (st : bSt) : Bool := match st with
  | .inl j :: .inr (.inl (.ref a)) :: r => b_arr tb 0 a fun n => cond (b_ix j n S) (bri a j S fun f S => k S (.inl f :: r)) false
  | .inl j :: .inr (.inl (.float _)) :: r => (match sc with
    | some N => cond (bch j S) (bsum (-1) j N fun d => bsum 1 (-1, []) d fun d => cond (bch d S) (brd 1000000 j (-2147483648) 2147483647 S fun f S => k S (.inl f :: r)) false) false
    | none => false)
  | _ => false
noncomputable def b_aldB (tb : bTb) (k : bS → bSt → Bool) (S : bS) (st : bSt) : Bool := match st with
  | .inl j :: .inr (.inl (.ref a)) :: r => b_arr tb 1 a fun n => cond (b_ix j n S) (bri a j S fun f S => k S (.inl f :: r)) false
  | _ => false
noncomputable def b_aldJ (tb : bTb) (k : bS → bSt → Bool) (S : bS) (st : bSt) : Bool := match st with
  | .inl j :: .inr (.inl (.ref a)) :: r => b_arr tb 2 a fun n => cond (b_ix j n S) (bfre (-9223372036854775808) 9223372036854775807 S fun f S => k S (.inr (.inr f) :: r)) false
  | _ => false
noncomputable def b_aldA (tb : bTb) (k : bSt → Bool) (st : bSt) : Bool := match st with
  | .inl (.ofNat j, []) :: .inr (.inl (.ref a)) :: r => (match bg2 tb a with
    | some (.inl (t, n, rf)) => cond (Nat.ble 3 t) (cond (Nat.blt j n) (match agt rf j with
      | some none => k (.inr (.inl .null) :: r)
      | some (some o) => k (.inr (.inl (.ref o)) :: r)
      | none => false) false) false
    | _ => false)
  | _ => false
noncomputable def b_ast (tb : bTb) (W : Nat) (k : bS → bSt → Bool) (S : bS) (st : bSt) : Bool := match st with
  | .inl x :: .inl j :: .inr (.inl (.ref a)) :: r => b_arr tb 0 a fun n => cond (b_ix j n S) (bwr W a j x S fun S => k S r) false
  | _ => false
noncomputable def b_astB (tb : bTb) (W : Nat) (k : bS → bSt → Bool) (S : bS) (st : bSt) : Bool := match st with
  | .inl x :: .inl j :: .inr (.inl (.ref a)) :: r => b_arr tb 1 a fun n => cond (b_ix j n S) (b_by x S fun x S => bwr W a j x S fun S => k S r) false
  | _ => false
noncomputable def b_astJ (tb : bTb) (k : bS → bSt → Bool) (S : bS) (st : bSt) : Bool := match st with
  | .inr (.inr _) :: .inl j :: .inr (.inl (.ref a)) :: r => b_arr tb 2 a fun n => cond (b_ix j n S) (k S r) false
  | _ => false
noncomputable def b_len (tb : bTb) (sc : Option bI) (k : bSt → Bool) (st : bSt) : Bool := match st with
  | .inr (.inl (.ref a)) :: r => (match bg2 tb a with
    | some (.inl (_, n, _)) => cond (Nat.blt n 2147483648) (k (.inl (.ofNat n, []) :: r)) false
    | _ => false)
  | .inr (.inl (.float _)) :: r => (match sc with
    | some N => k (.inl N :: r)
    | none => false)
  | _ => false
noncomputable def b_recv (tb : bTb) (stc ci : Nat) (as : bSt) (r : Bool) : Bool := match stc with
  | 0 => (match as with
    | .inr (.inl (.ref k)) :: _ => (match bg2 tb k with
      | some (.inr (.inl (c, _))) => cond (Nat.beq c ci) r false
      | _ => false)
    | _ => false)
  | _ + 1 => r
set_option maxRecDepth 100000 in
theorem bfin9_lift {E : zE} {tb : bTb} {W : Nat} {h0 : zH} {V : List Int} {h : zH} {k : bI → bS → Bool} {x : Int} {p : Prop} (hb : bFin9 E tb W h0 V h k x) (hk : ∀ V' f S', bxt V V' → brel V' f x → bSS E tb W h0 V' S' h → k f S' = true → p) : p := by
  obtain ⟨V', f, S', h1, h2, h3, h4⟩ := hb
  exact hk V' f S' h1 h2 h3 h4
section BIN
variable {E : zE} {tb : bTb} {W : Nat} {h0 : zH} {P : Option zR → Prop} {V : List Int} {S : bS} {als : bLs} {ls : zLs} {a : bSt} {s : List Value} {h : zH}
/-- on with a stack -/
abbrev bKS (E : zE) (tb : bTb) (W : Nat) (h0 : zH) (P : Option zR → Prop) (V : List Int) (h : zH) (k : bS → bSt → Bool) (K : List Value → Option zR) : Prop := ∀ V' S' a s, bxt V V' → bSS E tb W h0 V' S' h → bKR V' a s → k S' a = true → P (K s)
abbrev bKH (E : zE) (tb : bTb) (W : Nat) (h0 : zH) (P : Option zR → Prop) (V : List Int) (k : bS → bSt → Bool) (K : List Value → zH → Option zR) : Prop := ∀ V' S' a s h', bxt V V' → bSS E tb W h0 V' S' h' → bKR V' a s → k S' a = true → P (K s h')
set_option maxRecDepth 100000 in
theorem b_ldI_s {k : bSt → Bool} {K : List Value → Option zR} {i : Nat} (hl : bLR V als ls) (hs : bKR V a s) (hk : ∀ a s, bKR V a s → k a = true → P (K s)) (e : b_ldI k als i a = true) : P (zldI K ls i s) := by
  unfold b_ldI at e
  rw [agt_eq] at e
  split at e
  · rename_i c hc
    obtain ⟨w, h1, x, h2, h3⟩ := bLR_at hl hc
    subst h2
    unfold zldI
    rw [h1]
    exact hk _ _ (bKR_ci h3 hs) e
  · cases e
set_option maxRecDepth 100000 in
theorem b_ldJ_s {k : bSt → Bool} {K : List Value → Option zR} {i : Nat} (hl : bLR V als ls) (hs : bKR V a s) (hk : ∀ a s, bKR V a s → k a = true → P (K s)) (e : b_ldJ k als i a = true) : P (zldJ K ls i s) := by
  unfold b_ldJ at e
  rw [agt_eq] at e
  split at e
  · rename_i c hc
    obtain ⟨w, h1, x, h2, h3⟩ := bLR_at hl hc
    subst h2
    unfold zldJ
    rw [h1]
    exact hk _ _ (bKR_cj h3 hs) e
  · cases e
set_option maxRecDepth 100000 in
theorem b_ldA_s {k : bSt → Bool} {K : List Value → Option zR} {i : Nat} (hl : bLR V als ls) (hs : bKR V a s) (hk : ∀ a s, bKR V a s → k a = true → P (K s)) (e : b_ldA k als i a = true) : P (zldA K ls i s) := by
  unfold b_ldA at e
  rw [agt_eq] at e
  split at e
  · rename_i v hc
    obtain ⟨w, h1, h2⟩ := bLR_at hl hc
    have h2 : w = v := h2
    subst h2
    obtain ⟨h3, e⟩ := bcnd e
    unfold zldA
    rw [h1]
    show P (cond (zisA w) (K (w :: s)) none)
    rw [h3]
    exact hk _ _ (bKR_co hs) e
  · cases e
set_option maxRecDepth 100000 in
theorem b_stI_s {k : bLs → bSt → Bool} {K : zLs → List Value → Option zR} {i : Nat} (hl : bLR V als ls) (hs : bKR V a s) (hk : ∀ l l' a s, bLR V l l' → bKR V a s → k l a = true → P (K l' s)) (e : b_stI k als i a = true) : P (zstI K ls i s) := by
  unfold b_stI at e
  split at e
  · rename_i c r
    obtain ⟨x, r', h1, h2, h3⟩ := bKR_i hs
    subst h1
    rw [bst_eq] at e
    exact hk _ _ _ _ (bst_s (v := .inl c) (w := .int x) ⟨x, rfl, h2⟩ hl) h3 e
  · cases e
set_option maxRecDepth 100000 in
theorem b_stJ_s {k : bLs → bSt → Bool} {K : zLs → List Value → Option zR} {i : Nat} (hl : bLR V als ls) (hs : bKR V a s) (hk : ∀ l l' a s, bLR V l l' → bKR V a s → k l a = true → P (K l' s)) (e : b_stJ k als i a = true) : P (zstJ K ls i s) := by
  unfold b_stJ at e
  split at e
  · rename_i c r
    obtain ⟨x, r', h1, h2, h3⟩ := bKR_j hs
    subst h1
    rw [bst_eq, afo_eq, bsn_eq] at e
    exact hk _ _ _ _ (bLR_none (bst_s (v := .inr (.inr c)) (w := .long x) ⟨x, rfl, h2⟩ hl)) h3 e
  · cases e
set_option maxRecDepth 100000 in
theorem b_stA_s {k : bLs → bSt → Bool} {K : zLs → List Value → Option zR} {i : Nat} (hl : bLR V als ls) (hs : bKR V a s) (hk : ∀ l l' a s, bLR V l l' → bKR V a s → k l a = true → P (K l' s)) (e : b_stA k als i a = true) : P (zstA K ls i s) := by
  unfold b_stA at e
  split at e
  · obtain ⟨r, h1, h3⟩ := bKR_o hs
    subst h1
    rw [bst_eq] at e
    exact hk _ _ _ _ (bst_s (v := .inr (.inl (.ref _))) (w := .ref _) rfl hl) h3 e
  · obtain ⟨r, h1, h3⟩ := bKR_o hs
    subst h1
    rw [bst_eq] at e
    exact hk _ _ _ _ (bst_s (v := .inr (.inl (.double _))) (w := .double _) rfl hl) h3 e
  · cases e
set_option maxRecDepth 100000 in
theorem b_inc_s {k : bS → bLs → Bool} {K : zLs → Option zR} {i : Nat} {z : Int32} (hS : bSS E tb W h0 V S h) (hl : bLR V als ls) (hk : ∀ V' S' l l', bxt V V' → bSS E tb W h0 V' S' h → bLR V' l l' → k S' l = true → P (K l')) (e : b_inc k S als i z = true) : P (zinc K ls i z) := by
  unfold b_inc at e
  rw [agt_eq] at e
  split at e
  · rename_i c hc
    obtain ⟨w, h1, x, h2, h3⟩ := bLR_at hl hc
    subst h2
    unfold zinc
    rw [h1]
    rw [bfo_eq] at e
    refine bfin9_lift (bo_add_s V S h c _ x z _ hS h3 (brel_c V _) e) ?_
    intro V' f S' g1 g2 g3 e
    rw [bst_eq] at e
    exact hk _ _ _ _ g1 g3 (bst_s (v := .inl f) (w := .int (x + z)) ⟨_, rfl, g2⟩ (bLR_up g1 hl)) e
  · cases e
set_option maxRecDepth 100000 in
theorem b_b2_s {o : bI → bI → bS → (bI → bS → Bool) → Bool} {g : Int32 → Int32 → Int32} (ho : bOp E tb W h0 o g) {k : bS → bSt → Bool} {K : List Value → Option zR} (hS : bSS E tb W h0 V S h) (hs : bKR V a s) (hk : bKS E tb W h0 P V h k K) (e : b_b2 o k S a = true) : P (zb2 K g s) := by
  unfold b_b2 at e
  split at e
  · obtain ⟨y, r, h1, h2, h3⟩ := bKR_i hs
    subst h1
    obtain ⟨x, r, h1, h4, h5⟩ := bKR_i h3
    subst h1
    refine bfin9_lift (ho V S h _ _ x y _ hS h4 h2 e) ?_
    intro V' f S' g1 g2 g3 e
    exact hk _ _ _ _ g1 g3 (bKR_ci g2 (bKR_up g1 h5)) e
  · cases e
set_option maxRecDepth 100000 in
theorem b_l2_s {g : Int64 → Int64 → Int64} {k : bS → bSt → Bool} {K : List Value → Option zR} (hS : bSS E tb W h0 V S h) (hs : bKR V a s) (hk : bKS E tb W h0 P V h k K) (e : b_l2 k S a = true) : P (zl2 K g s) := by
  unfold b_l2 at e
  split at e
  · obtain ⟨y, r, h1, h2, h3⟩ := bKR_j hs
    subst h1
    obtain ⟨x, r, h1, h4, h5⟩ := bKR_j h3
    subst h1
    obtain ⟨V', f, S', g1, g2, g3, e⟩ := bfre_s hS (bi64 (g x y)).1 (bi64 (g x y)).2 e
    exact hk _ _ _ _ g1 g3 (bKR_cj g2 (bKR_up g1 h5)) e
  · cases e
set_option maxRecDepth 100000 in
theorem b_ldiv_s {k : bS → bSt → Bool} {K : List Value → Option zR} (hS : bSS E tb W h0 V S h) (hs : bKR V a s) (hk : bKS E tb W h0 P V h k K) (e : b_ldiv k S a = true) : P (match (generalizing := false) s with
    | .long y :: .long x :: r => znzl y (K (.long (x / y) :: r))
    | _ => none) := by
  unfold b_ldiv at e
  split at e
  · obtain ⟨y, r, h1, h2, h3⟩ := bKR_j hs
    subst h1
    obtain ⟨x, r, h1, h4, h5⟩ := bKR_j h3
    subst h1
    obtain ⟨lo, hi, g1, g2, e⟩ := brS_s hS h2 e
    obtain ⟨c1, e⟩ := bcnd e
    have hy : ¬ y = 0 := by
      intro z
      have z2 : y.toInt = 0 := by rw [z]; decide
      cases c2 : bLe 1 lo with
      | true => have := bLe_iff.mp c2; omega
      | false =>
        rw [c2, cond_false] at c1
        have := bLe_iff.mp c1
        omega
    simp only
    unfold znzl
    rw [if_neg hy]
    obtain ⟨V', f, S', f1, f2, f3, e⟩ := bfre_s hS (bi64 (x / y)).1 (bi64 (x / y)).2 e
    exact hk _ _ _ _ f1 f3 (bKR_cj f2 (bKR_up f1 h5)) e
  · cases e
set_option maxRecDepth 100000 in
theorem blg (x y : Int64) : (y.toInt < x.toInt → lg_cmp x y = 1) ∧ (¬ y.toInt < x.toInt → x.toInt = y.toInt → lg_cmp x y = 0) ∧ (¬ y.toInt < x.toInt → ¬ x.toInt = y.toInt → lg_cmp x y = -1) := by
  unfold lg_cmp
  have h1 : x > y ↔ y.toInt < x.toInt := Int64.lt_iff_toInt_lt
  have h2 : x = y ↔ x.toInt = y.toInt := Int64.toInt_inj.symm
  refine ⟨fun g => ?_, fun g g' => ?_, fun g g' => ?_⟩
  · rw [if_pos (h1.mpr g)]
  · rw [if_neg (fun z => g (h1.mp z)), if_pos (h2.mpr g')]
  · rw [if_neg (fun z => g (h1.mp z)), if_neg (fun z => g' (h2.mp z))]
set_option maxRecDepth 100000 in
theorem b_lcmp_s {k : bS → bSt → Bool} {K : List Value → Option zR} (hS : bSS E tb W h0 V S h) (hs : bKR V a s) (hk : bKS E tb W h0 P V h k K) (e : b_lcmp k S a = true) : P (match (generalizing := false) s with
    | .long y :: .long x :: r => K (.int (lg_cmp x y) :: r)
    | _ => none) := by
  unfold b_lcmp at e
  split at e
  · obtain ⟨y, r, h1, h2, h3⟩ := bKR_j hs
    subst h1
    obtain ⟨x, r, h1, h4, h5⟩ := bKR_j h3
    subst h1
    simp only
    have q := bl2_s hS h2 h4 e
    obtain ⟨l1, l2, l3⟩ := blg x y
    by_cases g1 : y.toInt < x.toInt
    · obtain ⟨S', g2, e⟩ := q.1 g1
      rw [l1 g1]
      exact hk _ _ _ _ (bxt_refl V) g2 (bKR_ci (brel_c V 1) h5) e
    · obtain ⟨S', g2, e⟩ := q.2 g1
      have q := bq2_s g2 h4 h2 e
      by_cases g3 : x.toInt = y.toInt
      · obtain ⟨S', g4, e⟩ := q.1 g3
        rw [l2 g1 g3]
        exact hk _ _ _ _ (bxt_refl V) g4 (bKR_ci (brel_c V 0) h5) e
      · obtain ⟨S', g4, e⟩ := q.2 g3
        rw [l3 g1 g3]
        exact hk _ _ _ _ (bxt_refl V) g4 (bKR_ci (brel_c V (-1)) h5) e
  · cases e
set_option maxRecDepth 100000 in
theorem b_l2i_s {k : bS → bSt → Bool} {K : List Value → Option zR} (hS : bSS E tb W h0 V S h) (hs : bKR V a s) (hk : bKS E tb W h0 P V h k K) (e : b_l2i k S a = true) : P (match (generalizing := false) s with
    | .long x :: r => K (.int x.toInt32 :: r)
    | _ => none) := by
  unfold b_l2i at e
  split at e
  · obtain ⟨x, r, h1, h2, h3⟩ := bKR_j hs
    subst h1
    simp only
    refine bfin9_lift (bw32_s (x := x.toInt32) hS h2 (fun g1 g2 => by rw [Int64.toInt_toInt32, bbm g1 g2]) e) ?_
    intro V' f S' g1 g2 g3 e
    exact hk _ _ _ _ g1 g3 (bKR_ci g2 (bKR_up g1 h3)) e
  · cases e
set_option maxRecDepth 100000 in
theorem b_by_s (hS : bSS E tb W h0 V S h) {c : bI} {x : Int32} (hc : brel V c x.toInt) {k : bI → bS → Bool} (e : b_by c S k = true) : bFin9 E tb W h0 V h k x.toInt8.toInt32.toInt := by
  unfold b_by at e
  have h9 : x.toInt8.toInt32.toInt = x.toInt.bmod (2 ^ 8) := by rw [Int8.toInt_toInt32, Int32.toInt_toInt8]
  cases c1 : bwi c (-128) 127 S with
  | true =>
    rw [c1, cond_true] at e
    have c1 := bwi_s hS hc c1
    refine ⟨V, c, S, bxt_refl V, ?_, hS, e⟩
    rw [h9, Int.bmod_eq_of_le (by omega) (by omega)]
    exact hc
  | false =>
    rw [c1, cond_false] at e
    have h8 := Int.le_bmod (x := x.toInt) (m := 2 ^ 8) (by omega)
    have h7 := Int.bmod_lt (x := x.toInt) (m := 2 ^ 8) (by omega)
    exact bfre_s hS (by rw [h9]; omega) (by rw [h9]; omega) e
set_option maxRecDepth 100000 in
theorem b_if1_s {k : bS → Nat → bSt → Bool} {K : Nat → List Value → Option zR} {c : ClassFile.Cond} {t p : Nat} (hS : bSS E tb W h0 V S h) (hs : bKR V a s) (hk : ∀ S' a s p, bSS E tb W h0 V S' h → bKR V a s → k S' p a = true → P (K p s)) (e : b_if1 k S c t p a = true) : P (zif1 K c t p s) := by
  unfold b_if1 at e
  split at e
  · obtain ⟨x, r, h1, h2, h3⟩ := bKR_i hs
    subst h1
    have hz : (0 : Int32).toInt = 0 := by decide
    have hlt : ∀ y z : Int32, y < z ↔ y.toInt < z.toInt := fun y z => Int32.lt_iff_toInt_lt
    have hle : ∀ y z : Int32, y ≤ z ↔ ¬ z.toInt < y.toInt := fun y z => by rw [Int32.le_iff_toInt_le]; omega
    have heq : ∀ y z : Int32, y = z ↔ y.toInt = z.toInt := fun y z => Int32.toInt_inj.symm
    have h0' : brel V (0, []) (0 : Int32).toInt := by rw [hz]; exact brel_c V 0
    unfold zif1
    cases c with
    | eq =>
      simp only at e ⊢
      have q := bq2_s hS h2 h0' e
      by_cases hc : x = 0
      · rw [if_pos hc]
        obtain ⟨S', g, e⟩ := q.1 ((heq _ _).mp hc)
        exact hk _ _ _ _ g h3 e
      · rw [if_neg hc]
        obtain ⟨S', g, e⟩ := q.2 (fun z => hc ((heq _ _).mpr z))
        exact hk _ _ _ _ g h3 e
    | ne =>
      simp only at e ⊢
      have q := bq2_s hS h2 h0' e
      by_cases hc : x = 0
      · rw [if_pos hc]
        obtain ⟨S', g, e⟩ := q.1 ((heq _ _).mp hc)
        exact hk _ _ _ _ g h3 e
      · rw [if_neg hc]
        obtain ⟨S', g, e⟩ := q.2 (fun z => hc ((heq _ _).mpr z))
        exact hk _ _ _ _ g h3 e
    | lt =>
      simp only at e ⊢
      have q := bl2_s hS h2 h0' e
      by_cases hc : x < 0
      · rw [if_pos hc]
        obtain ⟨S', g, e⟩ := q.1 ((hlt _ _).mp hc)
        exact hk _ _ _ _ g h3 e
      · rw [if_neg hc]
        obtain ⟨S', g, e⟩ := q.2 (fun z => hc ((hlt _ _).mpr z))
        exact hk _ _ _ _ g h3 e
    | ge =>
      simp only at e ⊢
      have q := bl2_s hS h2 h0' e
      by_cases hc : 0 ≤ x
      · rw [if_pos hc]
        obtain ⟨S', g, e⟩ := q.2 ((hle _ _).mp hc)
        exact hk _ _ _ _ g h3 e
      · rw [if_neg hc]
        obtain ⟨S', g, e⟩ := q.1 (Decidable.of_not_not (fun z => hc ((hle _ _).mpr z)))
        exact hk _ _ _ _ g h3 e
    | gt =>
      simp only at e ⊢
      have q := bl2_s hS h0' h2 e
      by_cases hc : 0 < x
      · rw [if_pos hc]
        obtain ⟨S', g, e⟩ := q.1 ((hlt _ _).mp hc)
        exact hk _ _ _ _ g h3 e
      · rw [if_neg hc]
        obtain ⟨S', g, e⟩ := q.2 (fun z => hc ((hlt _ _).mpr z))
        exact hk _ _ _ _ g h3 e
    | le =>
      simp only at e ⊢
      have q := bl2_s hS h0' h2 e
      by_cases hc : x ≤ 0
      · rw [if_pos hc]
        obtain ⟨S', g, e⟩ := q.2 ((hle _ _).mp hc)
        exact hk _ _ _ _ g h3 e
      · rw [if_neg hc]
        obtain ⟨S', g, e⟩ := q.1 (Decidable.of_not_not (fun z => hc ((hle _ _).mpr z)))
        exact hk _ _ _ _ g h3 e
  · cases e
set_option maxRecDepth 100000 in
theorem b_if2_s {k : bS → Nat → bSt → Bool} {K : Nat → List Value → Option zR} {c : ClassFile.Cond} {t p : Nat} (hS : bSS E tb W h0 V S h) (hs : bKR V a s) (hk : ∀ S' a s p, bSS E tb W h0 V S' h → bKR V a s → k S' p a = true → P (K p s)) (e : b_if2 k S c t p a = true) : P (zif2 K c t p s) := by
  unfold b_if2 at e
  split at e
  · obtain ⟨y, r, h1, hy, h3⟩ := bKR_i hs
    subst h1
    obtain ⟨x, r, h1, h2, h5⟩ := bKR_i h3
    subst h1
    have hlt : ∀ y z : Int32, y < z ↔ y.toInt < z.toInt := fun y z => Int32.lt_iff_toInt_lt
    have hle : ∀ y z : Int32, y ≤ z ↔ ¬ z.toInt < y.toInt := fun y z => by rw [Int32.le_iff_toInt_le]; omega
    have heq : ∀ y z : Int32, y = z ↔ y.toInt = z.toInt := fun y z => Int32.toInt_inj.symm
    unfold zif2
    cases c with
    | eq =>
      simp only at e ⊢
      have q := bq2_s hS h2 hy e
      by_cases hc : x = y
      · rw [if_pos hc]
        obtain ⟨S', g, e⟩ := q.1 ((heq _ _).mp hc)
        exact hk _ _ _ _ g h5 e
      · rw [if_neg hc]
        obtain ⟨S', g, e⟩ := q.2 (fun z => hc ((heq _ _).mpr z))
        exact hk _ _ _ _ g h5 e
    | ne =>
      simp only at e ⊢
      have q := bq2_s hS h2 hy e
      by_cases hc : x = y
      · rw [if_pos hc]
        obtain ⟨S', g, e⟩ := q.1 ((heq _ _).mp hc)
        exact hk _ _ _ _ g h5 e
      · rw [if_neg hc]
        obtain ⟨S', g, e⟩ := q.2 (fun z => hc ((heq _ _).mpr z))
        exact hk _ _ _ _ g h5 e
    | lt =>
      simp only at e ⊢
      have q := bl2_s hS h2 hy e
      by_cases hc : x < y
      · rw [if_pos hc]
        obtain ⟨S', g, e⟩ := q.1 ((hlt _ _).mp hc)
        exact hk _ _ _ _ g h5 e
      · rw [if_neg hc]
        obtain ⟨S', g, e⟩ := q.2 (fun z => hc ((hlt _ _).mpr z))
        exact hk _ _ _ _ g h5 e
    | ge =>
      simp only at e ⊢
      have q := bl2_s hS h2 hy e
      by_cases hc : y ≤ x
      · rw [if_pos hc]
        obtain ⟨S', g, e⟩ := q.2 ((hle _ _).mp hc)
        exact hk _ _ _ _ g h5 e
      · rw [if_neg hc]
        obtain ⟨S', g, e⟩ := q.1 (Decidable.of_not_not (fun z => hc ((hle _ _).mpr z)))
        exact hk _ _ _ _ g h5 e
    | gt =>
      simp only at e ⊢
      have q := bl2_s hS hy h2 e
      by_cases hc : y < x
      · rw [if_pos hc]
        obtain ⟨S', g, e⟩ := q.1 ((hlt _ _).mp hc)
        exact hk _ _ _ _ g h5 e
      · rw [if_neg hc]
        obtain ⟨S', g, e⟩ := q.2 (fun z => hc ((hlt _ _).mpr z))
        exact hk _ _ _ _ g h5 e
    | le =>
      simp only at e ⊢
      have q := bl2_s hS hy h2 e
      by_cases hc : x ≤ y
      · rw [if_pos hc]
        obtain ⟨S', g, e⟩ := q.2 ((hle _ _).mp hc)
        exact hk _ _ _ _ g h5 e
      · rw [if_neg hc]
        obtain ⟨S', g, e⟩ := q.1 (Decidable.of_not_not (fun z => hc ((hle _ _).mpr z)))
        exact hk _ _ _ _ g h5 e
  · cases e
set_option maxRecDepth 100000 in
theorem b_nul_s {k : Nat → bSt → Bool} {K : Nat → List Value → Option zR} {t p : Nat} (hs : bKR V a s) (hk : ∀ a s p, bKR V a s → k p a = true → P (K p s)) (e : b_nul k t p a = true) : P (znul K t p s) := by
  unfold b_nul at e
  split at e
  · obtain ⟨r, h1, h3⟩ := bKR_o hs
    subst h1
    exact hk _ _ _ h3 e
  · obtain ⟨r, h1, h3⟩ := bKR_o hs
    subst h1
    exact hk _ _ _ h3 e
  · cases e
set_option maxRecDepth 100000 in
theorem b_get_s {k : bS → bSt → Bool} {K : List Value → Option zR} {ci fk : Nat} (hS : bSS E tb W h0 V S h) (hs : bKR V a s) (hk : bKS E tb W h0 P V h k K) (e : b_get tb k S ci fk a = true) : P (zget K h ci fk s) := by
  unfold b_get at e
  split at e
  · obtain ⟨r, h1, h3⟩ := bKR_o hs
    subst h1
    split at e
    · rename_i c sl hg
      have h4 := hS.2.2.2.2.2.2.1 _ _ hg (by intro z; cases z)
      obtain ⟨h6, e⟩ := bcnd e
      unfold zget
      simp only
      rw [h4]
      simp only
      rw [h6, cond_true]
      rw [agt_eq] at e
      split at e <;> rename_i hz
      · rw [hz]
        obtain ⟨V', f, S', g1, g2, g3, e⟩ := bri_s hS (jn := fk) (brel_c V _) e
        exact hk _ _ _ _ g1 g3 (bKR_ci g2 (bKR_up g1 h3)) e
      · rw [hz]
        exact hk _ _ _ _ (bxt_refl V) hS (bKR_co h3) e
      · rw [hz]
        exact hk _ _ _ _ (bxt_refl V) hS (bKR_co h3) e
      · cases e
    · cases e
  · cases e
set_option maxRecDepth 100000 in
theorem b_put_s {k : bS → bSt → Bool} {K : List Value → zH → Option zR} {ci fk : Nat} {z : Int32} (hS : bSS E tb W h0 V S h) (hs : bKR V a s) (hk : bKH E tb W h0 P V k K) (e : b_put tb W k S ci fk z a = true) : P (zput K h ci fk z s) := by
  unfold b_put at e
  split at e
  · obtain ⟨y, r, h1, hy, h3⟩ := bKR_i hs
    subst h1
    obtain ⟨r, h1, h3x⟩ := bKR_o h3
    subst h1
    split at e
    · rename_i c sl hg
      have h4 := hS.2.2.2.2.2.2.1 _ _ hg (by intro z; cases z)
      obtain ⟨h6, e⟩ := bcnd e
      unfold zput
      simp only
      rw [h4]
      simp only
      rw [h6, cond_true]
      rw [agt_eq] at e
      split at e
      · rename_i hz
        rw [hz]
        simp only
        obtain ⟨c1, e⟩ := bcnd e
        obtain ⟨S', g1, e⟩ := bwr_s (y := y) hS (jn := fk) (brel_c V _) hy e
        have g2 := hk _ _ _ _ _ (bxt_refl V) g1 h3x e
        cases c2 : bie z.toInt 0 with
        | true =>
          have c2 : z = 0 := Int32.toInt_inj.mp (bie_s c2)
          rw [if_pos c2]
          exact g2
        | false =>
          rw [c2, cond_false] at c1
          have c3 := bwi_s hS hy c1
          have c4 : ∀ R : Option zR, zc01 y R = R := by
            intro R
            unfold zc01
            by_cases y0 : y = 0
            · rw [if_pos y0]
            · have y1 : y = 1 := Int32.toInt_inj.mp (by
                have z0 : (0 : Int32).toInt = 0 := by decide
                have z1 : (1 : Int32).toInt = 1 := by decide
                have : y.toInt ≠ 0 := fun q => y0 (Int32.toInt_inj.mp (by rw [q, z0]))
                omega)
              rw [if_neg y0, if_pos y1]
          split
          · exact g2
          · rw [c4]
            exact g2
      · cases e
    · cases e
  · cases e
set_option maxRecDepth 100000 in
theorem b_ix_s (hS : bSS E tb W h0 V S h) {j : bI} {x : Int32} {n : Nat} (hj : brel V j x.toInt) (e : b_ix j n S = true) : brel V j ((x.toNatClampNeg : Nat) : Int) ∧ ∀ r, zck x n r = r := by
  unfold b_ix at e
  rw [bfo_eq] at e
  have h1 := bwi_s hS hj e
  have h2 : ((x.toNatClampNeg : Nat) : Int) = x.toInt := by
    rw [← Int32.toNat_toInt]
    omega
  refine ⟨by rw [h2]; exact hj, fun r => ?_⟩
  unfold zck
  rw [if_neg, if_neg]
  · omega
  · rw [Int32.lt_iff_toInt_lt]
    have h9 : (0 : Int32).toInt = 0 := by decide
    omega
set_option maxRecDepth 100000 in
theorem b_arr_s {t c : Nat} {k : Nat → Bool} (hS : bSS E tb W h0 V S h) (e : b_arr tb t c k = true) : ∃ n, k n = true ∧ ∀ K, zarr h t c K = K n := by
  unfold b_arr at e
  split at e
  · rename_i t' n rf hg
    have h4 := hS.2.2.2.2.2.2.1 _ _ hg (by intro z; cases z)
    obtain ⟨h6, e9⟩ := bcnd e
    have h7 := abq h6
    subst h7
    refine ⟨n, e9, fun K => ?_⟩
    unfold zarr
    rw [h4]
    show cond (Nat.beq t' t') (K n) none = K n
    rw [Nat.beq_refl]
    rfl
  · cases e
set_option maxRecDepth 100000 in
theorem b_ald_s {sc : Option bI} (hsc : ∀ N, sc = some N → brel V N (E.1 : Int)) {k : bS → bSt → Bool} {K : List Value → Option zR} (hS : bSS E tb W h0 V S h) (hs : bKR V a s) (hk : bKS E tb W h0 P V h k K) (e : b_ald tb sc k S a = true) : P (zald E K h s) := by
  unfold b_ald at e
  split at e
  · obtain ⟨j, r, h1, hj, h3⟩ := bKR_i hs
    subst h1
    obtain ⟨r, h1, h3x⟩ := bKR_o h3
    subst h1
    obtain ⟨n, e, hK⟩ := b_arr_s hS e
    obtain ⟨c1, e⟩ := bcnd e
    obtain ⟨g1, g2⟩ := b_ix_s hS hj c1
    unfold zald
    simp only
    rw [hK, g2]
    obtain ⟨V', f, S', f1, f2, f3, e⟩ := bri_s hS g1 e
    exact hk _ _ _ _ f1 f3 (bKR_ci f2 (bKR_up f1 h3x)) e
  · obtain ⟨j, r, h1, hj, h3⟩ := bKR_i hs
    subst h1
    obtain ⟨r, h1, h3x⟩ := bKR_o h3
    subst h1
    split at e
    · rename_i N
      have hN := hsc N rfl
      obtain ⟨c1, e⟩ := bcnd e
      have c1 := bch_s hS hj c1
      obtain ⟨d, g1, e⟩ := bsum_s hN hj e
      obtain ⟨d', g2, e⟩ := bsum_s g1 (brel_c V (-1)) e
      obtain ⟨c2, e⟩ := bcnd e
      have c2 := bch_s hS g2 c2
      have h2 : ((j.toNatClampNeg : Nat) : Int) = j.toInt := by
        rw [← Int32.toNat_toInt]
        omega
      have hck : ∀ r, zck j E.1 r = r := by
        intro r
        unfold zck
        rw [if_neg, if_neg]
        · omega
        · rw [Int32.lt_iff_toInt_lt]
          have h9 : (0 : Int32).toInt = 0 := by decide
          omega
      unfold zald
      simp only
      rw [hck]
      have hv := bi32 (bcv E h 1000000 j.toNatClampNeg)
      obtain ⟨V', f, S', f1, f2, f3, e⟩ := brd_s (c := 1000000) (jn := j.toNatClampNeg) hS (by rw [h2]; exact hj) hv.1 hv.2 e
      exact hk _ _ _ _ f1 f3 (bKR_ci f2 (bKR_up f1 h3x)) e
    · cases e
  · cases e
set_option maxRecDepth 100000 in
theorem b_aldB_s {k : bS → bSt → Bool} {K : List Value → Option zR} (hS : bSS E tb W h0 V S h) (hs : bKR V a s) (hk : bKS E tb W h0 P V h k K) (e : b_aldB tb k S a = true) : P (zaldB K h s) := by
  unfold b_aldB at e
  split at e
  · obtain ⟨j, r, h1, hj, h3⟩ := bKR_i hs
    subst h1
    obtain ⟨r, h1, h3x⟩ := bKR_o h3
    subst h1
    obtain ⟨n, e, hK⟩ := b_arr_s hS e
    obtain ⟨c1, e⟩ := bcnd e
    obtain ⟨g1, g2⟩ := b_ix_s hS hj c1
    unfold zaldB
    simp only
    rw [hK, g2]
    obtain ⟨V', f, S', f1, f2, f3, e⟩ := bri_s hS g1 e
    exact hk _ _ _ _ f1 f3 (bKR_ci f2 (bKR_up f1 h3x)) e
  · cases e
set_option maxRecDepth 100000 in
theorem b_aldJ_s {k : bS → bSt → Bool} {K : List Value → Option zR} (hS : bSS E tb W h0 V S h) (hs : bKR V a s) (hk : bKS E tb W h0 P V h k K) (e : b_aldJ tb k S a = true) : P (zaldJ K h s) := by
  unfold b_aldJ at e
  split at e
  · rename_i y9 a9 r9
    obtain ⟨j, r, h1, hj, h3⟩ := bKR_i hs
    subst h1
    obtain ⟨r, h1, h3x⟩ := bKR_o h3
    subst h1
    obtain ⟨n, e, hK⟩ := b_arr_s hS e
    obtain ⟨c1, e⟩ := bcnd e
    obtain ⟨g1, g2⟩ := b_ix_s hS hj c1
    unfold zaldJ
    simp only
    rw [hK, g2]
    have hv := bi64 (h.2.2.1 a9 j.toNatClampNeg)
    obtain ⟨V', f, S', f1, f2, f3, e⟩ := bfre_s hS hv.1 hv.2 e
    exact hk _ _ _ _ f1 f3 (bKR_cj f2 (bKR_up f1 h3x)) e
  · cases e
set_option maxRecDepth 100000 in
theorem b_aldA_s {k : bSt → Bool} {K : List Value → Option zR} (hS : bSS E tb W h0 V S h) (hs : bKR V a s) (hk : ∀ a s, bKR V a s → k a = true → P (K s)) (e : b_aldA tb k a = true) : P (zaldA K h s) := by
  unfold b_aldA at e
  split at e
  · rename_i jn aa ar
    obtain ⟨j, r, h1, hj, h3⟩ := bKR_i hs
    subst h1
    obtain ⟨r, h1, h3x⟩ := bKR_o h3
    subst h1
    split at e
    · rename_i t n rf hg
      have h4 := hS.2.2.2.2.2.2.1 _ _ hg (by intro z; cases z)
      obtain ⟨h6, e⟩ := bcnd e
      obtain ⟨h7, e⟩ := bcnd e
      have h7 := abl.mp h7
      have h8 : j.toInt = (jn : Int) := brel_k hj
      have h9 : j.toNatClampNeg = jn := by
        rw [← Int32.toNat_toInt]
        omega
      unfold zaldA
      simp only
      rw [h4]
      simp only
      rw [h6, cond_true]
      have hck : ∀ r, zck j n r = r := by
        intro r
        unfold zck
        rw [if_neg, if_neg]
        · omega
        · rw [Int32.lt_iff_toInt_lt]
          have h9 : (0 : Int32).toInt = 0 := by decide
          omega
      rw [hck, h9]
      rw [agt_eq] at e
      split at e <;> rename_i hz
      · rw [hz]
        exact hk _ _ (bKR_co h3x) e
      · rw [hz]
        exact hk _ _ (bKR_co h3x) e
      · cases e
    · cases e
  · cases e
set_option maxRecDepth 100000 in
theorem b_ast_s {k : bS → bSt → Bool} {K : List Value → zH → Option zR} (hS : bSS E tb W h0 V S h) (hs : bKR V a s) (hk : bKH E tb W h0 P V k K) (e : b_ast tb W k S a = true) : P (zast K h s) := by
  unfold b_ast at e
  split at e
  · obtain ⟨y, r, h1, hy, h3⟩ := bKR_i hs
    subst h1
    obtain ⟨j, r, h1, hj, h4⟩ := bKR_i h3
    subst h1
    obtain ⟨r, h1, h3x⟩ := bKR_o h4
    subst h1
    obtain ⟨n, e, hK⟩ := b_arr_s hS e
    obtain ⟨c1, e⟩ := bcnd e
    obtain ⟨g1, g2⟩ := b_ix_s hS hj c1
    unfold zast
    simp only
    rw [hK, g2]
    obtain ⟨S', f1, e⟩ := bwr_s (y := y) hS g1 hy e
    exact hk _ _ _ _ _ (bxt_refl V) f1 h3x e
  · cases e
set_option maxRecDepth 100000 in
theorem b_astB_s {k : bS → bSt → Bool} {K : List Value → zH → Option zR} (hS : bSS E tb W h0 V S h) (hs : bKR V a s) (hk : bKH E tb W h0 P V k K) (e : b_astB tb W k S a = true) : P (zastB K h s) := by
  unfold b_astB at e
  split at e
  · obtain ⟨y, r, h1, hy, h3⟩ := bKR_i hs
    subst h1
    obtain ⟨j, r, h1, hj, h4⟩ := bKR_i h3
    subst h1
    obtain ⟨r, h1, h3x⟩ := bKR_o h4
    subst h1
    obtain ⟨n, e, hK⟩ := b_arr_s hS e
    obtain ⟨c1, e⟩ := bcnd e
    obtain ⟨g1, g2⟩ := b_ix_s hS hj c1
    unfold zastB
    simp only
    rw [hK, g2]
    refine bfin9_lift (b_by_s hS hy e) ?_
    intro V' f S' f1 f2 f3 e
    obtain ⟨S9, f4, e⟩ := bwr_s (y := y.toInt8.toInt32) f3 (brel_up f1 g1) f2 e
    exact hk _ _ _ _ _ f1 f4 (bKR_up f1 h3x) e
  · cases e
set_option maxRecDepth 100000 in
theorem b_astJ_s {k : bS → bSt → Bool} {K : List Value → zH → Option zR} (hS : bSS E tb W h0 V S h) (hs : bKR V a s) (hk : bKH E tb W h0 P V k K) (e : b_astJ tb k S a = true) : P (zastJ K h s) := by
  unfold b_astJ at e
  split at e
  · obtain ⟨y, r, h1, hy, h3⟩ := bKR_j hs
    subst h1
    obtain ⟨j, r, h1, hj, h4⟩ := bKR_i h3
    subst h1
    obtain ⟨r, h1, h3x⟩ := bKR_o h4
    subst h1
    obtain ⟨n, e, hK⟩ := b_arr_s hS e
    obtain ⟨c1, e⟩ := bcnd e
    obtain ⟨g1, g2⟩ := b_ix_s hS hj c1
    unfold zastJ
    simp only
    rw [hK, g2]
    exact hk _ _ _ _ _ (bxt_refl V) (show bSS E tb W h0 V S (zsetJ h _ _) from hS) h3x e
  · cases e
set_option maxRecDepth 100000 in
theorem b_len_s {sc : Option bI} (hN0 : E.1 < 2147483648) (hsc : ∀ N, sc = some N → brel V N (E.1 : Int)) {k : bSt → Bool} {K : List Value → Option zR} (hS : bSS E tb W h0 V S h) (hs : bKR V a s) (hk : ∀ a s, bKR V a s → k a = true → P (K s)) (e : b_len tb sc k a = true) : P (zalen E K h s) := by
  have hof : ∀ n : Nat, n < 2147483648 → (Int32.ofNat n).toInt = (n : Int) := by
    intro n hn
    rw [Int32.toInt_ofNat']
    exact bbm (by omega) (by omega)
  unfold b_len at e
  split at e
  · obtain ⟨r, h1, h3⟩ := bKR_o hs
    subst h1
    split at e
    · rename_i t n rf hg
      have h4 := hS.2.2.2.2.2.2.1 _ _ hg (by intro z; cases z)
      obtain ⟨h6, e⟩ := bcnd e
      have h6 := abl.mp h6
      unfold zalen
      simp only
      rw [h4]
      exact hk _ _ (bKR_ci (by rw [hof n h6]; exact brel_c V _) h3) e
    · cases e
  · obtain ⟨r, h1, h3⟩ := bKR_o hs
    subst h1
    split at e
    · rename_i N
      unfold zalen
      exact hk _ _ (bKR_ci (by rw [hof _ hN0]; exact hsc N rfl) h3) e
    · cases e
  · cases e
set_option maxRecDepth 100000 in
theorem b_recv_s {stc ci : Nat} {as : bSt} {ss : List Value} {r : Bool} {R : Option zR} (hS : bSS E tb W h0 V S h) (hs : bKR V as ss) (e : b_recv tb stc ci as r = true) : r = true ∧ zrecv h stc ci ss R = R := by
  unfold b_recv at e
  split at e
  · split at e
    · obtain ⟨r', h1, h3⟩ := bKR_o hs
      subst h1
      split at e
      · rename_i c sl hg
        have h4 := hS.2.2.2.2.2.2.1 _ _ hg (by intro z; cases z)
        obtain ⟨h6, e⟩ := bcnd e
        refine ⟨e, ?_⟩
        unfold zrecv
        simp only
        rw [h4]
        simp only
        rw [h6]
        rfl
      · cases e
    · cases e
  · exact ⟨e, rfl⟩
end BIN
end
section
abbrev bPv : Type := List (Nat × Nat × (Int × List (Nat × Int)))
abbrev bPo : Type := List (Int × Int) × List (Int × List (Nat × Int)) × Option bV × List (Nat × Nat × (Int × List (Nat × Int)))
/-- what a call does: depth, units written, cells and slots made, arguments, bounds, what holds of them, places; what is behind it -/
abbrev bSm : Type := Nat × Nat × Nat × Nat × bSt × List (Int × Int) × List (Int × List (Nat × Int)) × List (Nat × Nat × (Int × List (Nat × Int))) × List bPo
noncomputable def bsb (σ : List bI) (l : bT) : bI → (bI → Bool) → Bool := List.rec (motive := fun _ => bI → (bI → Bool) → Bool) (fun acc k => k acc)
  (fun q _ ih acc k => match agt σ q.1 with
    | some g => bsum q.2 g acc fun acc => ih acc k
    | none => false) l
def bsg (V : List Int) (σ : List bI) (Vc : List Int) : Prop := σ.length = Vc.length ∧ ∀ i g, zat σ i = some g → ∃ v, zat Vc i = some v ∧ brel V g v
set_option maxRecDepth 100000 in
theorem bsg_up {V V' : List Int} (hx : bxt V V') {σ : List bI} {Vc : List Int} (h : bsg V σ Vc) : bsg V' σ Vc := ⟨h.1, fun i g e => by
  obtain ⟨v, h1, h2⟩ := h.2 i g e
  exact ⟨v, h1, brel_up hx h2⟩⟩
set_option maxRecDepth 100000 in
theorem bsg_app {V : List Int} {σ : List bI} {Vc : List Int} (h : bsg V σ Vc) {q : bI} {y : Int} (hq : brel V q y) : bsg V (σ ++ [q]) (Vc ++ [y]) := by
  refine ⟨by simp [h.1], ?_⟩
  intro i g hz
  rw [zat_app] at hz
  by_cases hi : i = σ.length
  · rw [if_pos hi] at hz
    cases hz
    rw [hi, h.1]
    exact ⟨y, zat_app_at, hq⟩
  · rw [if_neg hi] at hz
    obtain ⟨v, g1, g2⟩ := h.2 _ _ hz
    exact ⟨v, zat_up g1, g2⟩
set_option maxRecDepth 100000 in
theorem bsb_s {V : List Int} {σ : List bI} {Vc : List Int} (h : bsg V σ Vc) : ∀ {l : bT} {acc : bI} {s t : Int} {k : bI → Bool}, bev Vc l s → brel V acc t → bsb σ l acc k = true → ∃ r, brel V r (t + s) ∧ k r = true
  | [], acc, s, t, k, h1, h2, e => ⟨acc, by
      have h1 : s = 0 := h1
      rw [h1, Int.add_zero]
      exact h2, e⟩
  | (i, a) :: l, acc, s, t, k, ⟨v, u, h1, h2, h3⟩, h4, e => by
    have h1 : zat Vc i = some v := h1
    have h3 : s = a * v + u := h3
    have e : (match agt σ i with
      | some g => bsum a g acc fun acc => bsb σ l acc k
      | none => false) = true := e
    split at e
    · rename_i g hz
      rw [agt_eq] at hz
      obtain ⟨v', g1, g2⟩ := h.2 _ _ hz
      rw [h1] at g1
      cases g1
      obtain ⟨r, g3, e⟩ := bsum_s (k := fun acc => bsb σ l acc k) h4 g2 e
      obtain ⟨r', g4, e⟩ := bsb_s h (l := l) h2 g3 e
      refine ⟨r', ?_, e⟩
      rw [h3, ← Int.add_assoc]
      exact g4
    · cases e
noncomputable def bsF (σ : List bI) (f : bI) (k : bI → Bool) : Bool := bsb σ f.2 (f.1, []) k
set_option maxRecDepth 100000 in
theorem bsF_s {V : List Int} {σ : List bI} {Vc : List Int} (h : bsg V σ Vc) {f : bI} {x : Int} {k : bI → Bool} (hf : brel Vc f x) (e : bsF σ f k = true) : ∃ r, brel V r x ∧ k r = true := by
  obtain ⟨s, h1, h2⟩ := hf
  obtain ⟨r, h3, e⟩ := bsb_s h h1 (brel_c V f.1) e
  refine ⟨r, ?_, e⟩
  rw [h2]
  exact h3
set_option maxRecDepth 100000 in
theorem bsF_b {V : List Int} {σ : List bI} {Vc : List Int} (h : bsg V σ Vc) : ∀ {l : bT} {acc : bI} {t : Int} {k : bI → Bool}, brel V acc t → bsb σ l acc k = true → ∃ s, bev Vc l s ∧ ∃ r, brel V r (t + s) ∧ k r = true
  | [], acc, t, k, h2, e => ⟨0, rfl, acc, by rw [Int.add_zero]; exact h2, e⟩
  | (i, a) :: l, acc, t, k, h4, e => by
    have e : (match agt σ i with
      | some g => bsum a g acc fun acc => bsb σ l acc k
      | none => false) = true := e
    split at e
    · rename_i g hz
      rw [agt_eq] at hz
      obtain ⟨v, g1, g2⟩ := h.2 _ _ hz
      obtain ⟨r, g3, e⟩ := bsum_s (k := fun acc => bsb σ l acc k) h4 g2 e
      obtain ⟨s, g4, r', g5, e⟩ := bsF_b h (l := l) g3 e
      refine ⟨a * v + s, ⟨v, s, g1, g4, rfl⟩, r', ?_, e⟩
      rw [← Int.add_assoc]
      exact g5
    · cases e
def bmq (l : bT) (m : Nat) : Bool := match l with
  | [] => false
  | q :: l => (match l with
    | [] => Nat.beq q.1 m
    | _ :: _ => false)
noncomputable def bmy (l : bT) (d : bI) (k : bI → Bool) : Bool := match l with
  | [] => false
  | q :: _ => bdv q.2 d k
noncomputable def bmf (m : Nat) (σ : List bI) (f g : bI) (S : bS) (k : Nat → List bI → Bool) : Bool := cond (bmq f.2 m)
  (bsum (-1) (f.1, []) g fun d => bmy f.2 d fun y => asd (0, []) m y σ fun σ => afo (m + 1) fun m => k m σ)
  (bsF σ f fun f' => bsum (-1) f' g fun d => cond (cond (bfq d (0, [])) true (cond (bch d S) (bsum (-1) d (0, []) fun d => bch d S) false)) (k m σ) false)
def bvq (w u : Value) : Bool := match w with
  | .null => (match u with
    | .null => true
    | _ => false)
  | .ref a => (match u with
    | .ref b => Nat.beq a b
    | _ => false)
  | .retAddr a => (match u with
    | .retAddr b => Nat.beq a b
    | _ => false)
  | .float a => (match u with
    | .float b => Nat.beq a.toNat b.toNat
    | _ => false)
  | .double a => (match u with
    | .double b => Nat.beq a.toNat b.toNat
    | _ => false)
  | .int _ => false
  | .long _ => false
set_option maxRecDepth 100000 in
theorem bvq_s {w u : Value} (h : bvq w u = true) : w = u := by
  cases w with
  | null => cases u <;> first | rfl | cases h
  | ref a => cases u <;> first | exact congrArg Value.ref (abq h) | cases h
  | retAddr a => cases u <;> first | exact congrArg Value.retAddr (abq h) | cases h
  | float a => cases u <;> first | exact congrArg Value.float (UInt32.toNat_inj.mp (abq h)) | cases h
  | double a => cases u <;> first | exact congrArg Value.double (UInt64.toNat_inj.mp (abq h)) | cases h
  | int a => cases h
  | long a => cases h
section BMT
variable {E : zE} {tb : bTb} {W : Nat} {h0 : zH} {V : List Int} {S : bS} {h : zH}
set_option maxRecDepth 100000 in
theorem bmf_s (hS : bSS E tb W h0 V S h) {σ : List bI} {Vc : List Int} (hσ : bsg V σ Vc) {m : Nat} (hm : m = σ.length) {f g : bI} {x : Int} (hg : brel V g x) {k : Nat → List bI → Bool} (e : bmf m σ f g S k = true) : ∃ Vc' σ', bxt Vc Vc' ∧ bsg V σ' Vc' ∧ brel Vc' f x ∧ k σ'.length σ' = true := by
  unfold bmf at e
  obtain ⟨c, l⟩ := f
  cases hb : bmq l m with
  | false =>
    rw [show bmq (c, l).2 m = false from hb, cond_false] at e
    obtain ⟨s, h1, f', h2, e⟩ := bsF_b hσ (brel_c V c) e
    obtain ⟨d, h3, e⟩ := bsum_s hg h2 e
    obtain ⟨c1, e⟩ := bcnd e
    have h4 : x = c + s := by
      cases c2 : bfq d (0, []) with
      | true =>
        rw [bfq_s c2] at h3
        have := brel_k h3
        omega
      | false =>
        rw [c2, cond_false] at c1
        obtain ⟨c3, c4⟩ := bcnd c1
        have := bch_s hS h3 c3
        obtain ⟨d', h5, c4⟩ := bsum_s (brel_c V 0) h3 c4
        have := bch_s hS h5 c4
        omega
    exact ⟨Vc, σ, bxt_refl Vc, hσ, ⟨s, h1, h4⟩, by rw [← hm]; exact e⟩
  | true =>
    rw [show bmq (c, l).2 m = true from hb, cond_true] at e
    cases l with
    | nil => cases hb
    | cons q l =>
      cases l with
      | cons p l => cases hb
      | nil =>
        have hb : Nat.beq q.1 m = true := hb
        have e : (bsum (-1) (c, []) g fun d => bdv q.2 d fun y => asd (0, []) m y σ fun σ => afo (m + 1) fun m => k m σ) = true := e
        obtain ⟨d, h1, e⟩ := bsum_s hg (brel_c V c) e
        obtain ⟨y, v, h2, h3, e⟩ := bdv_s h1 e
        rw [asd_eq, afo_eq, hm, asl_app] at e
        refine ⟨Vc ++ [v], σ ++ [y], ⟨[v], rfl⟩, bsg_app hσ h2, ?_, ?_⟩
        · refine ⟨q.2 * v, ⟨v, 0, ?_, rfl, by omega⟩, ?_⟩
          · rw [abq hb, hm, hσ.1]
            exact zat_app_at
          · show x = c + _
            omega
        · have : (σ ++ [y]).length = σ.length + 1 := by simp
          rw [this]
          exact e
noncomputable def bmv (m : Nat) (σ : List bI) (a b : bV) (S : bS) (k : Nat → List bI → Bool) : Bool := match a with
  | .inl f => (match b with
    | .inl g => bmf m σ f g S k
    | .inr _ => false)
  | .inr (.inl w) => (match b with
    | .inr (.inl u) => cond (bvq w u) (k m σ) false
    | _ => false)
  | .inr (.inr f) => (match b with
    | .inr (.inr g) => bmf m σ f g S k
    | _ => false)
set_option maxRecDepth 100000 in
theorem bmv_s (hS : bSS E tb W h0 V S h) {σ : List bI} {Vc : List Int} (hσ : bsg V σ Vc) {m : Nat} (hm : m = σ.length) {a b : bV} {w : Value} (hb : bVR V b w) {k : Nat → List bI → Bool} (e : bmv m σ a b S k = true) : ∃ Vc' σ', bxt Vc Vc' ∧ bsg V σ' Vc' ∧ bVR Vc' a w ∧ k σ'.length σ' = true := by
  unfold bmv at e
  split at e
  · split at e
    · obtain ⟨x, h1, h2⟩ := hb
      obtain ⟨Vc', σ', g1, g2, g3, g4⟩ := bmf_s hS hσ hm h2 e
      exact ⟨Vc', σ', g1, g2, ⟨x, h1, g3⟩, g4⟩
    · cases e
  · split at e
    · obtain ⟨h1, e⟩ := bcnd e
      refine ⟨Vc, σ, bxt_refl Vc, hσ, ?_, by rw [← hm]; exact e⟩
      rw [bvq_s h1]
      exact hb
    · cases e
  · split at e
    · obtain ⟨x, h1, h2⟩ := hb
      obtain ⟨Vc', σ', g1, g2, g3, g4⟩ := bmf_s hS hσ hm h2 e
      exact ⟨Vc', σ', g1, g2, ⟨x, h1, g3⟩, g4⟩
    · cases e
noncomputable def bms (S : bS) (l : bSt) : Nat → List bI → bSt → (Nat → List bI → Bool) → Bool := List.rec (motive := fun _ => Nat → List bI → bSt → (Nat → List bI → Bool) → Bool)
  (fun m σ t k => match t with
    | [] => k m σ
    | _ :: _ => false)
  (fun a _ ih m σ t k => match t with
    | [] => false
    | b :: t => bmv m σ a b S fun m σ => ih m σ t k) l
set_option maxRecDepth 100000 in
theorem bms_s (hS : bSS E tb W h0 V S h) : ∀ {l : bSt} {σ : List bI} {Vc : List Int} {m : Nat} {t : bSt} {ws : List Value} {k : Nat → List bI → Bool}, bsg V σ Vc → m = σ.length → bKR V t ws → bms S l m σ t k = true → ∃ Vc' σ', bxt Vc Vc' ∧ bsg V σ' Vc' ∧ bKR Vc' l ws ∧ k σ'.length σ' = true
  | [], σ, Vc, m, t, ws, k, hσ, hm, ht, e => by
    cases t with
    | cons b t => cases e
    | nil =>
      rw [bKR_n ht]
      exact ⟨Vc, σ, bxt_refl Vc, hσ, trivial, by rw [← hm]; exact e⟩
  | a :: l, σ, Vc, m, t, ws, k, hσ, hm, ht, e => by
    cases t with
    | nil => cases e
    | cons b t =>
      have e : (bmv m σ a b S fun m σ => bms S l m σ t k) = true := e
      obtain ⟨w, r, h1, h2, h3⟩ := bKR_v ht
      subst h1
      obtain ⟨Vc', σ', g1, g2, g3, e⟩ := bmv_s hS hσ hm h2 e
      obtain ⟨Vc9, σ9, f1, f2, f3, e⟩ := bms_s hS g2 rfl h3 e
      exact ⟨Vc9, σ9, bxt_trans g1 f1, f2, ⟨bVR_up f1 g3, f3⟩, e⟩
noncomputable def bml (S : bS) (l : bLs) : Nat → List bI → bLs → (Nat → List bI → Bool) → Bool := List.rec (motive := fun _ => Nat → List bI → bLs → (Nat → List bI → Bool) → Bool)
  (fun m σ t k => match t with
    | [] => k m σ
    | _ :: _ => false)
  (fun a _ ih m σ t k => match t with
    | [] => false
    | b :: t => (match a with
      | none => ih m σ t k
      | some a => (match b with
        | none => false
        | some b => bmv m σ a b S fun m σ => ih m σ t k))) l
set_option maxRecDepth 100000 in
theorem bml_s (hS : bSS E tb W h0 V S h) : ∀ {l : bLs} {σ : List bI} {Vc : List Int} {m : Nat} {t : bLs} {ws : zLs} {k : Nat → List bI → Bool}, bsg V σ Vc → m = σ.length → bLR V t ws → bml S l m σ t k = true → ∃ Vc' σ', bxt Vc Vc' ∧ bsg V σ' Vc' ∧ bLR Vc' l ws ∧ k σ'.length σ' = true
  | [], σ, Vc, m, t, ws, k, hσ, hm, ht, e => by
    cases t with
    | cons b t => cases e
    | nil =>
      cases ws with
      | cons w ws => exact ht.elim
      | nil => exact ⟨Vc, σ, bxt_refl Vc, hσ, trivial, by rw [← hm]; exact e⟩
  | a :: l, σ, Vc, m, t, ws, k, hσ, hm, ht, e => by
    cases t with
    | nil => cases e
    | cons b t =>
      cases ws with
      | nil => exact ht.elim
      | cons w ws =>
        have e : (match (generalizing := false) a with
          | none => bml S l m σ t k
          | some a => (match (generalizing := false) b with
            | none => false
            | some b => bmv m σ a b S fun m σ => bml S l m σ t k)) = true := e
        cases a with
        | none =>
          obtain ⟨Vc9, σ9, f1, f2, f3, e⟩ := bml_s hS hσ hm ht.2 e
          exact ⟨Vc9, σ9, f1, f2, ⟨trivial, f3⟩, e⟩
        | some a =>
          cases b with
          | none => cases e
          | some b =>
            obtain ⟨v, h1, h2⟩ := ht.1
            obtain ⟨Vc', σ', g1, g2, g3, e⟩ := bmv_s hS hσ hm h2 e
            obtain ⟨Vc9, σ9, f1, f2, f3, e⟩ := bml_s hS g2 rfl ht.2 e
            exact ⟨Vc9, σ9, bxt_trans g1 f1, f2, ⟨⟨v, h1, bVR_up f1 g3⟩, f3⟩, e⟩
def bpv (V : List Int) (l : bPv) (h : zH) : Prop := ∀ e, e ∈ l → brel V e.2.2 (h.2.1 e.1 e.2.1).toInt
set_option maxRecDepth 100000 in
theorem bpv_up {V V' : List Int} (hx : bxt V V') {l : bPv} {h : zH} (e : bpv V l h) : bpv V' l h := fun q hq => brel_up hx (e q hq)
noncomputable def bmo (l : bPv) : Nat → List bI → bS → (Nat → List bI → bS → Bool) → Bool := List.rec (motive := fun _ => Nat → List bI → bS → (Nat → List bI → bS → Bool) → Bool)
  (fun m σ S k => k m σ S)
  (fun q _ ih m σ S k => bri q.1 (.ofNat q.2.1, []) S fun g S => bmf m σ q.2.2 g S fun m σ => ih m σ S k) l
set_option maxRecDepth 100000 in
theorem bmo_s : ∀ {l : bPv} {V : List Int} {S : bS} {σ : List bI} {Vc : List Int} {m : Nat} {k : Nat → List bI → bS → Bool}, bSS E tb W h0 V S h → bsg V σ Vc → m = σ.length → bmo l m σ S k = true → ∃ V' S' Vc' σ', bxt V V' ∧ bSS E tb W h0 V' S' h ∧ bxt Vc Vc' ∧ bsg V' σ' Vc' ∧ bpv Vc' l h ∧ k σ'.length σ' S' = true
  | [], V, S, σ, Vc, m, k, hS, hσ, hm, e => ⟨V, S, Vc, σ, bxt_refl V, hS, bxt_refl Vc, hσ, fun q hq => absurd hq List.not_mem_nil, by rw [← hm]; exact e⟩
  | q :: l, V, S, σ, Vc, m, k, hS, hσ, hm, e => by
    have e : (bri q.1 (.ofNat q.2.1, []) S fun g S => bmf m σ q.2.2 g S fun m σ => bmo l m σ S k) = true := e
    obtain ⟨V', g, S', g1, g2, g3, e⟩ := bri_s hS (jn := q.2.1) (brel_c V _) e
    obtain ⟨Vc', σ', f1, f2, f3, e⟩ := bmf_s g3 (bsg_up g1 hσ) hm g2 e
    obtain ⟨V9, S9, Vc9, σ9, d1, d2, d3, d4, d5, e⟩ := bmo_s g3 f2 rfl e
    refine ⟨V9, S9, Vc9, σ9, bxt_trans g1 d1, d2, bxt_trans f1 d3, d4, ?_, e⟩
    intro p hp
    cases hp with
    | head => exact brel_up d3 f3
    | tail _ hp => exact d5 p hp
/-- all within their bounds -/
noncomputable def bck (S : bS) (l : bE) : List bI → Bool := List.rec (motive := fun _ => List bI → Bool) (fun σ => match σ with
  | [] => true
  | _ :: _ => false)
  (fun q _ ih σ => match σ with
    | [] => false
    | g :: σ => cond (bwi g q.1 q.2 S) (ih σ) false) l
set_option maxRecDepth 100000 in
theorem bck_s (hS : bSS E tb W h0 V S h) : ∀ {l : bE} {σ : List bI} {Vc : List Int}, bsg V σ Vc → bck S l σ = true → benv Vc l
  | [], σ, Vc, hσ, e => by
    cases σ with
    | cons g σ => cases e
    | nil =>
      cases Vc with
      | cons v Vc => exact absurd hσ.1 (by simp)
      | nil => exact ⟨rfl, fun i lo hi z => nomatch z⟩
  | q :: l, σ, Vc, hσ, e => by
    cases σ with
    | nil => cases e
    | cons g σ =>
      cases Vc with
      | nil => exact absurd hσ.1 (by simp)
      | cons v Vc =>
        have e : cond (bwi g q.1 q.2 S) (bck S l σ) false = true := e
        obtain ⟨h1, e⟩ := bcnd e
        obtain ⟨v', h2, h3⟩ := hσ.2 0 g rfl
        have h2 : some v = some v' := h2
        cases h2
        have h4 := bwi_s hS h3 h1
        have h5 : bsg V σ Vc := ⟨by have := hσ.1; simp at this; exact this, fun i p hp => hσ.2 (i + 1) p hp⟩
        have h6 := bck_s hS h5 e
        refine ⟨by simp [h6.1], ?_⟩
        intro i lo hi hz
        cases i with
        | zero =>
          have hz : some q = some (lo, hi) := hz
          cases hz
          exact ⟨v, rfl, h4.1, h4.2⟩
        | succ i => exact h6.2 i lo hi hz
noncomputable def bcc (S : bS) (σ : List bI) (cs : bC) : Bool := List.rec (motive := fun _ => Bool) true (fun C _ ih => cond (bsF σ C fun g => bch g S) ih false) cs
set_option maxRecDepth 100000 in
theorem bcc_s (hS : bSS E tb W h0 V S h) {σ : List bI} {Vc : List Int} (hσ : bsg V σ Vc) : ∀ {cs : bC}, bcc S σ cs = true → bcs Vc cs
  | [], _ => fun C hC => absurd hC List.not_mem_nil
  | C :: cs, e => by
    have e : cond (bsF σ C fun g => bch g S) (bcc S σ cs) false = true := e
    obtain ⟨h1, e⟩ := bcnd e
    obtain ⟨s, h2, r, h3, h4⟩ := bsF_b hσ (brel_c V C.1) h1
    have h5 := bch_s hS h3 h4
    intro D hD
    cases hD with
    | head => exact ⟨_, ⟨s, h2, rfl⟩, h5⟩
    | tail _ hD => exact bcc_s hS hσ e D hD
/-- the present places but those of units that were written -/
noncomputable def bdu (c : Nat) (j : bI) (W : Nat) : Bool := match bg2 unt c with
  | some (0, u) => Nat.testBit W u
  | some (_ + 1, u) => (match j with
    | (a, []) => Nat.testBit W (u + a.toNat)
    | (_, _ :: _) => true)
  | none => cond (Nat.beq c 1000000) false true
noncomputable def bdr (W : Nat) (ov : bO) : (bO → Bool) → Bool := List.rec (motive := fun _ => (bO → Bool) → Bool) (fun k => k [])
  (fun q _ ih k => cond (bdu q.1 q.2.1 W) (ih k) (ih fun r => k (q :: r))) ov
set_option maxRecDepth 100000 in
theorem bdr_s {V : List Int} {W : Nat} {h h' : zH} (hf : ∀ c k, Nat.testBit W (bun c k) = false → h'.2.1 c k = h.2.1 c k) : ∀ {ov : bO} {k : bO → Bool}, bOV E V ov h → bdr W ov k = true → ∃ ov', bOV E V ov' h' ∧ k ov' = true
  | [], k, _, e => ⟨[], fun q hq => absurd hq List.not_mem_nil, e⟩
  | q :: ov, k, hO, e => by
    have e : cond (bdu q.1 q.2.1 W) (bdr W ov k) (bdr W ov fun r => k (q :: r)) = true := e
    have hO' : bOV E V ov h := fun p hp => hO p (List.mem_cons_of_mem _ hp)
    cases h1 : bdu q.1 q.2.1 W with
    | true =>
      rw [h1, cond_true] at e
      exact bdr_s hf hO' e
    | false =>
      rw [h1, cond_false] at e
      obtain ⟨ov', g1, g2⟩ := bdr_s hf hO' e
      refine ⟨q :: ov', ?_, g2⟩
      intro p hp
      cases hp with
      | tail _ hp => exact g1 p hp
      | head =>
        obtain ⟨j, f1, f2⟩ := hO q List.mem_cons_self
        refine ⟨j, f1, ?_⟩
        have : bcv E h' q.1 j = bcv E h q.1 j := by
          unfold bcv
          cases hc : Nat.beq q.1 1000000 with
          | true => rfl
          | false =>
            show h'.2.1 q.1 j = h.2.1 q.1 j
            apply hf
            unfold bdu at h1
            unfold bun
            split at h1
            · rename_i u hz
              rw [hz]
              exact h1
            · rename_i n u hz
              rw [hz]
              split at h1
              · rename_i a hj
                rw [hj] at f1
                have := brel_k f1
                have h2 : j = a.toNat := by omega
                rw [h2]
                exact h1
              · cases h1
            · rw [hc] at h1
              cases h1
        rw [this]
        exact f2
end BMT
end
