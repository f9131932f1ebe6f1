section
-- ===== PART A: goes FIRST, ahead of the names: the tables' words, and 'selects' of the private methods out of them =====
/-- a private method of a class that the tables say can be made, by its rows of tables_1 -/
def lw_okq (q : MethodName × Nat) : Prop := (q.1.cls ≠ "java/lang/invoke/MethodHandle" ∧ q.1.cls ≠ "java/lang/invoke/VarHandle") ∧ Cond.instantiable q.1.cls q.2 ∈ tables_1 ∧ Cond.privateMethod q.1 ∈ tables_1 ∧ Cond.instanceMethod q.1 ∈ tables_1
theorem lw_p0 : lw_okq (⟨"SwordAttic", "isMendable", "(II)Z"⟩, 8) := ⟨⟨by decide +kernel, by decide +kernel⟩, List.mem_of_getElem? (i := 15) (by decide +kernel), List.mem_of_getElem? (i := 388) (by decide +kernel), List.mem_of_getElem? (i := 389) (by decide +kernel)⟩
theorem lw_p1 : lw_okq (⟨"SwordAttic", "isSword", "(I)Z"⟩, 8) := ⟨⟨by decide +kernel, by decide +kernel⟩, List.mem_of_getElem? (i := 15) (by decide +kernel), List.mem_of_getElem? (i := 392) (by decide +kernel), List.mem_of_getElem? (i := 393) (by decide +kernel)⟩
theorem lw_p2 : lw_okq (⟨"SwordAttic$Night", "move", "(II)V"⟩, 14) := ⟨⟨by decide +kernel, by decide +kernel⟩, List.mem_of_getElem? (i := 23) (by decide +kernel), List.mem_of_getElem? (i := 410) (by decide +kernel), List.mem_of_getElem? (i := 411) (by decide +kernel)⟩
theorem lw_p3 : lw_okq (⟨"SwordAttic$Changes", "dropFirst", "()V"⟩, 6) := ⟨⟨by decide +kernel, by decide +kernel⟩, List.mem_of_getElem? (i := 196) (by decide +kernel), List.mem_of_getElem? (i := 418) (by decide +kernel), List.mem_of_getElem? (i := 419) (by decide +kernel)⟩
theorem lw_p4 : lw_okq (⟨"SwordAttic$Tape", "readLine", "()V"⟩, 5) := ⟨⟨by decide +kernel, by decide +kernel⟩, List.mem_of_getElem? (i := 114) (by decide +kernel), List.mem_of_getElem? (i := 446) (by decide +kernel), List.mem_of_getElem? (i := 447) (by decide +kernel)⟩
theorem lw_p5 : lw_okq (⟨"SwordAttic$Tape", "readOr", "(I)V"⟩, 5) := ⟨⟨by decide +kernel, by decide +kernel⟩, List.mem_of_getElem? (i := 114) (by decide +kernel), List.mem_of_getElem? (i := 450) (by decide +kernel), List.mem_of_getElem? (i := 451) (by decide +kernel)⟩
theorem lw_p6 : lw_okq (⟨"SwordAttic$Tape", "readAnd", "(I)V"⟩, 5) := ⟨⟨by decide +kernel, by decide +kernel⟩, List.mem_of_getElem? (i := 114) (by decide +kernel), List.mem_of_getElem? (i := 454) (by decide +kernel), List.mem_of_getElem? (i := 455) (by decide +kernel)⟩
theorem lw_p7 : lw_okq (⟨"SwordAttic$Tape", "readComparison", "(I)V"⟩, 5) := ⟨⟨by decide +kernel, by decide +kernel⟩, List.mem_of_getElem? (i := 114) (by decide +kernel), List.mem_of_getElem? (i := 458) (by decide +kernel), List.mem_of_getElem? (i := 459) (by decide +kernel)⟩
theorem lw_p8 : lw_okq (⟨"SwordAttic$Tape", "readSum", "(I)V"⟩, 5) := ⟨⟨by decide +kernel, by decide +kernel⟩, List.mem_of_getElem? (i := 114) (by decide +kernel), List.mem_of_getElem? (i := 462) (by decide +kernel), List.mem_of_getElem? (i := 463) (by decide +kernel)⟩
theorem lw_p9 : lw_okq (⟨"SwordAttic$Tape", "readProduct", "(I)V"⟩, 5) := ⟨⟨by decide +kernel, by decide +kernel⟩, List.mem_of_getElem? (i := 114) (by decide +kernel), List.mem_of_getElem? (i := 466) (by decide +kernel), List.mem_of_getElem? (i := 467) (by decide +kernel)⟩
theorem lw_p10 : lw_okq (⟨"SwordAttic$Tape", "readOperand", "(I)V"⟩, 5) := ⟨⟨by decide +kernel, by decide +kernel⟩, List.mem_of_getElem? (i := 114) (by decide +kernel), List.mem_of_getElem? (i := 470) (by decide +kernel), List.mem_of_getElem? (i := 471) (by decide +kernel)⟩
theorem lw_p11 : lw_okq (⟨"SwordAttic$Tape", "next", "()I"⟩, 5) := ⟨⟨by decide +kernel, by decide +kernel⟩, List.mem_of_getElem? (i := 114) (by decide +kernel), List.mem_of_getElem? (i := 474) (by decide +kernel), List.mem_of_getElem? (i := 475) (by decide +kernel)⟩
theorem lw_p12 : lw_okq (⟨"SwordAttic$Tape", "readNumber", "()V"⟩, 5) := ⟨⟨by decide +kernel, by decide +kernel⟩, List.mem_of_getElem? (i := 114) (by decide +kernel), List.mem_of_getElem? (i := 482) (by decide +kernel), List.mem_of_getElem? (i := 483) (by decide +kernel)⟩
theorem lw_p13 : lw_okq (⟨"SwordAttic$Tape", "readOpened", "(II)V"⟩, 5) := ⟨⟨by decide +kernel, by decide +kernel⟩, List.mem_of_getElem? (i := 114) (by decide +kernel), List.mem_of_getElem? (i := 490) (by decide +kernel), List.mem_of_getElem? (i := 491) (by decide +kernel)⟩
theorem lw_p14 : lw_okq (⟨"SwordAttic$Tape", "noteFault", "()V"⟩, 5) := ⟨⟨by decide +kernel, by decide +kernel⟩, List.mem_of_getElem? (i := 114) (by decide +kernel), List.mem_of_getElem? (i := 494) (by decide +kernel), List.mem_of_getElem? (i := 495) (by decide +kernel)⟩
theorem lw_p15 : lw_okq (⟨"SwordAttic$Night", "growth", "(LSwordAttic$Law;III)I"⟩, 14) := ⟨⟨by decide +kernel, by decide +kernel⟩, List.mem_of_getElem? (i := 23) (by decide +kernel), List.mem_of_getElem? (i := 519) (by decide +kernel), List.mem_of_getElem? (i := 520) (by decide +kernel)⟩
def lw_privs_1 : List (MethodName × Nat) := [(⟨"SwordAttic", "isMendable", "(II)Z"⟩, 8), (⟨"SwordAttic", "isSword", "(I)Z"⟩, 8), (⟨"SwordAttic$Night", "move", "(II)V"⟩, 14), (⟨"SwordAttic$Changes", "dropFirst", "()V"⟩, 6), (⟨"SwordAttic$Tape", "readLine", "()V"⟩, 5), (⟨"SwordAttic$Tape", "readOr", "(I)V"⟩, 5), (⟨"SwordAttic$Tape", "readAnd", "(I)V"⟩, 5), (⟨"SwordAttic$Tape", "readComparison", "(I)V"⟩, 5), (⟨"SwordAttic$Tape", "readSum", "(I)V"⟩, 5), (⟨"SwordAttic$Tape", "readProduct", "(I)V"⟩, 5), (⟨"SwordAttic$Tape", "readOperand", "(I)V"⟩, 5), (⟨"SwordAttic$Tape", "next", "()I"⟩, 5), (⟨"SwordAttic$Tape", "readNumber", "()V"⟩, 5), (⟨"SwordAttic$Tape", "readOpened", "(II)V"⟩, 5), (⟨"SwordAttic$Tape", "noteFault", "()V"⟩, 5), (⟨"SwordAttic$Night", "growth", "(LSwordAttic$Law;III)I"⟩, 14)]
theorem lw_r1 : ∀ q ∈ lw_privs_1, lw_okq q := List.forall_mem_cons.mpr ⟨lw_p0, List.forall_mem_cons.mpr ⟨lw_p1, List.forall_mem_cons.mpr ⟨lw_p2, List.forall_mem_cons.mpr ⟨lw_p3, List.forall_mem_cons.mpr ⟨lw_p4, List.forall_mem_cons.mpr ⟨lw_p5, List.forall_mem_cons.mpr ⟨lw_p6, List.forall_mem_cons.mpr ⟨lw_p7, List.forall_mem_cons.mpr ⟨lw_p8, List.forall_mem_cons.mpr ⟨lw_p9, List.forall_mem_cons.mpr ⟨lw_p10, List.forall_mem_cons.mpr ⟨lw_p11, List.forall_mem_cons.mpr ⟨lw_p12, List.forall_mem_cons.mpr ⟨lw_p13, List.forall_mem_cons.mpr ⟨lw_p14, List.forall_mem_cons.mpr ⟨lw_p15, fun _ h => absurd h List.not_mem_nil⟩⟩⟩⟩⟩⟩⟩⟩⟩⟩⟩⟩⟩⟩⟩⟩
theorem lw_p16 : lw_okq (⟨"SwordAttic$Law", "workedOut", "()I"⟩, 6) := ⟨⟨by decide +kernel, by decide +kernel⟩, List.mem_of_getElem? (i := 87) (by decide +kernel), List.mem_of_getElem? (i := 544) (by decide +kernel), List.mem_of_getElem? (i := 545) (by decide +kernel)⟩
theorem lw_p17 : lw_okq (⟨"SwordAttic$Night", "grow", "(II)V"⟩, 14) := ⟨⟨by decide +kernel, by decide +kernel⟩, List.mem_of_getElem? (i := 23) (by decide +kernel), List.mem_of_getElem? (i := 589) (by decide +kernel), List.mem_of_getElem? (i := 590) (by decide +kernel)⟩
theorem lw_p18 : lw_okq (⟨"SwordAttic$Thought", "forgetBest", "()V"⟩, 13) := ⟨⟨by decide +kernel, by decide +kernel⟩, List.mem_of_getElem? (i := 140) (by decide +kernel), List.mem_of_getElem? (i := 631) (by decide +kernel), List.mem_of_getElem? (i := 632) (by decide +kernel)⟩
theorem lw_p19 : lw_okq (⟨"SwordAttic$Thought", "plan", "(II)V"⟩, 13) := ⟨⟨by decide +kernel, by decide +kernel⟩, List.mem_of_getElem? (i := 140) (by decide +kernel), List.mem_of_getElem? (i := 636) (by decide +kernel), List.mem_of_getElem? (i := 637) (by decide +kernel)⟩
theorem lw_p20 : lw_okq (⟨"SwordAttic$Thought", "isBetter", "(LSwordAttic$Night;)Z"⟩, 13) := ⟨⟨by decide +kernel, by decide +kernel⟩, List.mem_of_getElem? (i := 140) (by decide +kernel), List.mem_of_getElem? (i := 640) (by decide +kernel), List.mem_of_getElem? (i := 641) (by decide +kernel)⟩
theorem lw_p21 : lw_okq (⟨"SwordAttic$Night", "mindWhenTold", "(I)I"⟩, 14) := ⟨⟨by decide +kernel, by decide +kernel⟩, List.mem_of_getElem? (i := 23) (by decide +kernel), List.mem_of_getElem? (i := 667) (by decide +kernel), List.mem_of_getElem? (i := 668) (by decide +kernel)⟩
theorem lw_p22 : lw_okq (⟨"SwordAttic$Night", "isWokenByTouch", "(I)Z"⟩, 14) := ⟨⟨by decide +kernel, by decide +kernel⟩, List.mem_of_getElem? (i := 23) (by decide +kernel), List.mem_of_getElem? (i := 686) (by decide +kernel), List.mem_of_getElem? (i := 687) (by decide +kernel)⟩
theorem lw_p23 : lw_okq (⟨"SwordAttic$Thought", "leastSteps", "(III)I"⟩, 13) := ⟨⟨by decide +kernel, by decide +kernel⟩, List.mem_of_getElem? (i := 140) (by decide +kernel), List.mem_of_getElem? (i := 701) (by decide +kernel), List.mem_of_getElem? (i := 702) (by decide +kernel)⟩
theorem lw_p24 : lw_okq (⟨"SwordAttic$Thought", "leastOf", "(II)I"⟩, 13) := ⟨⟨by decide +kernel, by decide +kernel⟩, List.mem_of_getElem? (i := 140) (by decide +kernel), List.mem_of_getElem? (i := 711) (by decide +kernel), List.mem_of_getElem? (i := 712) (by decide +kernel)⟩
theorem lw_p25 : lw_okq (⟨"SwordAttic", "refusalOfBoth", "(I)I"⟩, 8) := ⟨⟨by decide +kernel, by decide +kernel⟩, List.mem_of_getElem? (i := 15) (by decide +kernel), List.mem_of_getElem? (i := 728) (by decide +kernel), List.mem_of_getElem? (i := 729) (by decide +kernel)⟩
theorem lw_p26 : lw_okq (⟨"SwordAttic$Thought", "firstWrong", "(LSwordAttic$Night;LSwordAttic$Shelf;LSwordAttic$Shelf;I)I"⟩, 13) := ⟨⟨by decide +kernel, by decide +kernel⟩, List.mem_of_getElem? (i := 140) (by decide +kernel), List.mem_of_getElem? (i := 736) (by decide +kernel), List.mem_of_getElem? (i := 737) (by decide +kernel)⟩
theorem lw_p27 : lw_okq (⟨"SwordAttic$Thought", "outcome", "(II)I"⟩, 13) := ⟨⟨by decide +kernel, by decide +kernel⟩, List.mem_of_getElem? (i := 140) (by decide +kernel), List.mem_of_getElem? (i := 786) (by decide +kernel), List.mem_of_getElem? (i := 787) (by decide +kernel)⟩
theorem lw_p28 : lw_okq (⟨"SwordAttic$Thought", "outcomeOf", "(III)I"⟩, 13) := ⟨⟨by decide +kernel, by decide +kernel⟩, List.mem_of_getElem? (i := 140) (by decide +kernel), List.mem_of_getElem? (i := 791) (by decide +kernel), List.mem_of_getElem? (i := 792) (by decide +kernel)⟩
theorem lw_p29 : lw_okq (⟨"SwordAttic$Changes", "lay", "(LSwordAttic$Night;II)V"⟩, 6) := ⟨⟨by decide +kernel, by decide +kernel⟩, List.mem_of_getElem? (i := 196) (by decide +kernel), List.mem_of_getElem? (i := 860) (by decide +kernel), List.mem_of_getElem? (i := 861) (by decide +kernel)⟩
theorem lw_p30 : lw_okq (⟨"SwordAttic$Blades", "from", "(IIII)I"⟩, 5) := ⟨⟨by decide +kernel, by decide +kernel⟩, List.mem_of_getElem? (i := 256) (by decide +kernel), List.mem_of_getElem? (i := 891) (by decide +kernel), List.mem_of_getElem? (i := 892) (by decide +kernel)⟩
theorem lw_p31 : lw_okq (⟨"SwordAttic$Blades", "run", "(III)I"⟩, 5) := ⟨⟨by decide +kernel, by decide +kernel⟩, List.mem_of_getElem? (i := 256) (by decide +kernel), List.mem_of_getElem? (i := 897) (by decide +kernel), List.mem_of_getElem? (i := 898) (by decide +kernel)⟩
def lw_privs_2 : List (MethodName × Nat) := [(⟨"SwordAttic$Law", "workedOut", "()I"⟩, 6), (⟨"SwordAttic$Night", "grow", "(II)V"⟩, 14), (⟨"SwordAttic$Thought", "forgetBest", "()V"⟩, 13), (⟨"SwordAttic$Thought", "plan", "(II)V"⟩, 13), (⟨"SwordAttic$Thought", "isBetter", "(LSwordAttic$Night;)Z"⟩, 13), (⟨"SwordAttic$Night", "mindWhenTold", "(I)I"⟩, 14), (⟨"SwordAttic$Night", "isWokenByTouch", "(I)Z"⟩, 14), (⟨"SwordAttic$Thought", "leastSteps", "(III)I"⟩, 13), (⟨"SwordAttic$Thought", "leastOf", "(II)I"⟩, 13), (⟨"SwordAttic", "refusalOfBoth", "(I)I"⟩, 8), (⟨"SwordAttic$Thought", "firstWrong", "(LSwordAttic$Night;LSwordAttic$Shelf;LSwordAttic$Shelf;I)I"⟩, 13), (⟨"SwordAttic$Thought", "outcome", "(II)I"⟩, 13), (⟨"SwordAttic$Thought", "outcomeOf", "(III)I"⟩, 13), (⟨"SwordAttic$Changes", "lay", "(LSwordAttic$Night;II)V"⟩, 6), (⟨"SwordAttic$Blades", "from", "(IIII)I"⟩, 5), (⟨"SwordAttic$Blades", "run", "(III)I"⟩, 5)]
theorem lw_r2 : ∀ q ∈ lw_privs_2, lw_okq q := List.forall_mem_cons.mpr ⟨lw_p16, List.forall_mem_cons.mpr ⟨lw_p17, List.forall_mem_cons.mpr ⟨lw_p18, List.forall_mem_cons.mpr ⟨lw_p19, List.forall_mem_cons.mpr ⟨lw_p20, List.forall_mem_cons.mpr ⟨lw_p21, List.forall_mem_cons.mpr ⟨lw_p22, List.forall_mem_cons.mpr ⟨lw_p23, List.forall_mem_cons.mpr ⟨lw_p24, List.forall_mem_cons.mpr ⟨lw_p25, List.forall_mem_cons.mpr ⟨lw_p26, List.forall_mem_cons.mpr ⟨lw_p27, List.forall_mem_cons.mpr ⟨lw_p28, List.forall_mem_cons.mpr ⟨lw_p29, List.forall_mem_cons.mpr ⟨lw_p30, List.forall_mem_cons.mpr ⟨lw_p31, fun _ h => absurd h List.not_mem_nil⟩⟩⟩⟩⟩⟩⟩⟩⟩⟩⟩⟩⟩⟩⟩⟩
theorem lw_p32 : lw_okq (⟨"SwordAttic$Blades", "own", "(III)I"⟩, 5) := ⟨⟨by decide +kernel, by decide +kernel⟩, List.mem_of_getElem? (i := 256) (by decide +kernel), List.mem_of_getElem? (i := 901) (by decide +kernel), List.mem_of_getElem? (i := 902) (by decide +kernel)⟩
theorem lw_p33 : lw_okq (⟨"SwordAttic$Blades", "above", "(IIII)I"⟩, 5) := ⟨⟨by decide +kernel, by decide +kernel⟩, List.mem_of_getElem? (i := 256) (by decide +kernel), List.mem_of_getElem? (i := 905) (by decide +kernel), List.mem_of_getElem? (i := 906) (by decide +kernel)⟩
theorem lw_p34 : lw_okq (⟨"SwordAttic", "refusalOfElement", "(II)I"⟩, 8) := ⟨⟨by decide +kernel, by decide +kernel⟩, List.mem_of_getElem? (i := 15) (by decide +kernel), List.mem_of_getElem? (i := 939) (by decide +kernel), List.mem_of_getElem? (i := 940) (by decide +kernel)⟩
theorem lw_p35 : lw_okq (⟨"SwordAtticModel", "turns", "(II)V"⟩, 42) := ⟨⟨by decide +kernel, by decide +kernel⟩, List.mem_of_getElem? (i := 977) (by decide +kernel), List.mem_of_getElem? (i := 1114) (by decide +kernel), List.mem_of_getElem? (i := 1115) (by decide +kernel)⟩
theorem lw_p36 : lw_okq (⟨"SwordAtticModel", "inCot", "(I)I"⟩, 42) := ⟨⟨by decide +kernel, by decide +kernel⟩, List.mem_of_getElem? (i := 977) (by decide +kernel), List.mem_of_getElem? (i := 1118) (by decide +kernel), List.mem_of_getElem? (i := 1119) (by decide +kernel)⟩
theorem lw_p37 : lw_okq (⟨"SwordAtticModel", "mayCome", "(JJJ)Z"⟩, 42) := ⟨⟨by decide +kernel, by decide +kernel⟩, List.mem_of_getElem? (i := 977) (by decide +kernel), List.mem_of_getElem? (i := 1130) (by decide +kernel), List.mem_of_getElem? (i := 1131) (by decide +kernel)⟩
theorem lw_p38 : lw_okq (⟨"SwordAtticModel", "adds", "(III)V"⟩, 42) := ⟨⟨by decide +kernel, by decide +kernel⟩, List.mem_of_getElem? (i := 977) (by decide +kernel), List.mem_of_getElem? (i := 1143) (by decide +kernel), List.mem_of_getElem? (i := 1144) (by decide +kernel)⟩
theorem lw_p39 : lw_okq (⟨"SwordAtticModel", "placeOf", "(II)I"⟩, 42) := ⟨⟨by decide +kernel, by decide +kernel⟩, List.mem_of_getElem? (i := 977) (by decide +kernel), List.mem_of_getElem? (i := 1160) (by decide +kernel), List.mem_of_getElem? (i := 1161) (by decide +kernel)⟩
theorem lw_p40 : lw_okq (⟨"SwordAtticModel", "isSword", "(J)Z"⟩, 42) := ⟨⟨by decide +kernel, by decide +kernel⟩, List.mem_of_getElem? (i := 977) (by decide +kernel), List.mem_of_getElem? (i := 1165) (by decide +kernel), List.mem_of_getElem? (i := 1166) (by decide +kernel)⟩
theorem lw_p41 : lw_okq (⟨"SwordAtticModel", "mayBecome", "(III)Z"⟩, 42) := ⟨⟨by decide +kernel, by decide +kernel⟩, List.mem_of_getElem? (i := 977) (by decide +kernel), List.mem_of_getElem? (i := 1170) (by decide +kernel), List.mem_of_getElem? (i := 1171) (by decide +kernel)⟩
theorem lw_p42 : lw_okq (⟨"SwordAtticModel", "becomes", "(II)I"⟩, 42) := ⟨⟨by decide +kernel, by decide +kernel⟩, List.mem_of_getElem? (i := 977) (by decide +kernel), List.mem_of_getElem? (i := 1175) (by decide +kernel), List.mem_of_getElem? (i := 1176) (by decide +kernel)⟩
theorem lw_p43 : lw_okq (⟨"SwordAtticModel", "workOut", "(II)I"⟩, 42) := ⟨⟨by decide +kernel, by decide +kernel⟩, List.mem_of_getElem? (i := 977) (by decide +kernel), List.mem_of_getElem? (i := 1192) (by decide +kernel), List.mem_of_getElem? (i := 1193) (by decide +kernel)⟩
theorem lw_p44 : lw_okq (⟨"SwordAtticModel", "either", "()I"⟩, 42) := ⟨⟨by decide +kernel, by decide +kernel⟩, List.mem_of_getElem? (i := 977) (by decide +kernel), List.mem_of_getElem? (i := 1196) (by decide +kernel), List.mem_of_getElem? (i := 1197) (by decide +kernel)⟩
theorem lw_p45 : lw_okq (⟨"SwordAtticModel", "both", "()I"⟩, 42) := ⟨⟨by decide +kernel, by decide +kernel⟩, List.mem_of_getElem? (i := 977) (by decide +kernel), List.mem_of_getElem? (i := 1200) (by decide +kernel), List.mem_of_getElem? (i := 1201) (by decide +kernel)⟩
theorem lw_p46 : lw_okq (⟨"SwordAtticModel", "compared", "()I"⟩, 42) := ⟨⟨by decide +kernel, by decide +kernel⟩, List.mem_of_getElem? (i := 977) (by decide +kernel), List.mem_of_getElem? (i := 1204) (by decide +kernel), List.mem_of_getElem? (i := 1205) (by decide +kernel)⟩
theorem lw_p47 : lw_okq (⟨"SwordAtticModel", "sums", "()I"⟩, 42) := ⟨⟨by decide +kernel, by decide +kernel⟩, List.mem_of_getElem? (i := 977) (by decide +kernel), List.mem_of_getElem? (i := 1208) (by decide +kernel), List.mem_of_getElem? (i := 1209) (by decide +kernel)⟩
def lw_privs_3 : List (MethodName × Nat) := [(⟨"SwordAttic$Blades", "own", "(III)I"⟩, 5), (⟨"SwordAttic$Blades", "above", "(IIII)I"⟩, 5), (⟨"SwordAttic", "refusalOfElement", "(II)I"⟩, 8), (⟨"SwordAtticModel", "turns", "(II)V"⟩, 42), (⟨"SwordAtticModel", "inCot", "(I)I"⟩, 42), (⟨"SwordAtticModel", "mayCome", "(JJJ)Z"⟩, 42), (⟨"SwordAtticModel", "adds", "(III)V"⟩, 42), (⟨"SwordAtticModel", "placeOf", "(II)I"⟩, 42), (⟨"SwordAtticModel", "isSword", "(J)Z"⟩, 42), (⟨"SwordAtticModel", "mayBecome", "(III)Z"⟩, 42), (⟨"SwordAtticModel", "becomes", "(II)I"⟩, 42), (⟨"SwordAtticModel", "workOut", "(II)I"⟩, 42), (⟨"SwordAtticModel", "either", "()I"⟩, 42), (⟨"SwordAtticModel", "both", "()I"⟩, 42), (⟨"SwordAtticModel", "compared", "()I"⟩, 42), (⟨"SwordAtticModel", "sums", "()I"⟩, 42)]
theorem lw_r3 : ∀ q ∈ lw_privs_3, lw_okq q := List.forall_mem_cons.mpr ⟨lw_p32, List.forall_mem_cons.mpr ⟨lw_p33, List.forall_mem_cons.mpr ⟨lw_p34, List.forall_mem_cons.mpr ⟨lw_p35, List.forall_mem_cons.mpr ⟨lw_p36, List.forall_mem_cons.mpr ⟨lw_p37, List.forall_mem_cons.mpr ⟨lw_p38, List.forall_mem_cons.mpr ⟨lw_p39, List.forall_mem_cons.mpr ⟨lw_p40, List.forall_mem_cons.mpr ⟨lw_p41, List.forall_mem_cons.mpr ⟨lw_p42, List.forall_mem_cons.mpr ⟨lw_p43, List.forall_mem_cons.mpr ⟨lw_p44, List.forall_mem_cons.mpr ⟨lw_p45, List.forall_mem_cons.mpr ⟨lw_p46, List.forall_mem_cons.mpr ⟨lw_p47, fun _ h => absurd h List.not_mem_nil⟩⟩⟩⟩⟩⟩⟩⟩⟩⟩⟩⟩⟩⟩⟩⟩
theorem lw_p48 : lw_okq (⟨"SwordAtticModel", "product", "()I"⟩, 42) := ⟨⟨by decide +kernel, by decide +kernel⟩, List.mem_of_getElem? (i := 977) (by decide +kernel), List.mem_of_getElem? (i := 1212) (by decide +kernel), List.mem_of_getElem? (i := 1213) (by decide +kernel)⟩
theorem lw_p49 : lw_okq (⟨"SwordAtticModel", "one", "()I"⟩, 42) := ⟨⟨by decide +kernel, by decide +kernel⟩, List.mem_of_getElem? (i := 977) (by decide +kernel), List.mem_of_getElem? (i := 1216) (by decide +kernel), List.mem_of_getElem? (i := 1217) (by decide +kernel)⟩
theorem lw_p50 : lw_okq (⟨"SwordAtticModel", "byteAt", "()I"⟩, 42) := ⟨⟨by decide +kernel, by decide +kernel⟩, List.mem_of_getElem? (i := 977) (by decide +kernel), List.mem_of_getElem? (i := 1220) (by decide +kernel), List.mem_of_getElem? (i := 1221) (by decide +kernel)⟩
theorem lw_p51 : lw_okq (⟨"SwordAtticModel", "wrong", "()I"⟩, 42) := ⟨⟨by decide +kernel, by decide +kernel⟩, List.mem_of_getElem? (i := 977) (by decide +kernel), List.mem_of_getElem? (i := 1224) (by decide +kernel), List.mem_of_getElem? (i := 1225) (by decide +kernel)⟩
theorem lw_p52 : lw_okq (⟨"SwordAtticModel", "takes", "(I)Z"⟩, 42) := ⟨⟨by decide +kernel, by decide +kernel⟩, List.mem_of_getElem? (i := 977) (by decide +kernel), List.mem_of_getElem? (i := 1228) (by decide +kernel), List.mem_of_getElem? (i := 1229) (by decide +kernel)⟩
theorem lw_p53 : lw_okq (⟨"SwordAtticModel", "begins", "()V"⟩, 42) := ⟨⟨by decide +kernel, by decide +kernel⟩, List.mem_of_getElem? (i := 977) (by decide +kernel), List.mem_of_getElem? (i := 1240) (by decide +kernel), List.mem_of_getElem? (i := 1241) (by decide +kernel)⟩
theorem lw_p54 : lw_okq (⟨"SwordAtticModel", "growsIn", "(I)I"⟩, 42) := ⟨⟨by decide +kernel, by decide +kernel⟩, List.mem_of_getElem? (i := 977) (by decide +kernel), List.mem_of_getElem? (i := 1244) (by decide +kernel), List.mem_of_getElem? (i := 1245) (by decide +kernel)⟩
theorem lw_p55 : lw_okq (⟨"SwordAtticModel", "awakeBeside", "(I)I"⟩, 42) := ⟨⟨by decide +kernel, by decide +kernel⟩, List.mem_of_getElem? (i := 977) (by decide +kernel), List.mem_of_getElem? (i := 1248) (by decide +kernel), List.mem_of_getElem? (i := 1249) (by decide +kernel)⟩
theorem lw_p56 : lw_okq (⟨"SwordAtticModel", "isAwake", "(I)Z"⟩, 42) := ⟨⟨by decide +kernel, by decide +kernel⟩, List.mem_of_getElem? (i := 977) (by decide +kernel), List.mem_of_getElem? (i := 1258) (by decide +kernel), List.mem_of_getElem? (i := 1259) (by decide +kernel)⟩
theorem lw_p57 : lw_okq (⟨"SwordAtticModel", "bytesIs", "(I)I"⟩, 42) := ⟨⟨by decide +kernel, by decide +kernel⟩, List.mem_of_getElem? (i := 977) (by decide +kernel), List.mem_of_getElem? (i := 1266) (by decide +kernel), List.mem_of_getElem? (i := 1267) (by decide +kernel)⟩
theorem lw_p58 : lw_okq (⟨"SwordAtticModel", "goesRound", "(II)V"⟩, 42) := ⟨⟨by decide +kernel, by decide +kernel⟩, List.mem_of_getElem? (i := 977) (by decide +kernel), List.mem_of_getElem? (i := 1271) (by decide +kernel), List.mem_of_getElem? (i := 1272) (by decide +kernel)⟩
theorem lw_p59 : lw_okq (⟨"SwordAtticModel", "hourMany", "(I)I"⟩, 42) := ⟨⟨by decide +kernel, by decide +kernel⟩, List.mem_of_getElem? (i := 977) (by decide +kernel), List.mem_of_getElem? (i := 1275) (by decide +kernel), List.mem_of_getElem? (i := 1276) (by decide +kernel)⟩
theorem lw_p60 : lw_okq (⟨"SwordAtticModel", "goesNext", "(II)V"⟩, 42) := ⟨⟨by decide +kernel, by decide +kernel⟩, List.mem_of_getElem? (i := 977) (by decide +kernel), List.mem_of_getElem? (i := 1279) (by decide +kernel), List.mem_of_getElem? (i := 1280) (by decide +kernel)⟩
theorem lw_p61 : lw_okq (⟨"SwordAtticModel", "goesHour", "()V"⟩, 42) := ⟨⟨by decide +kernel, by decide +kernel⟩, List.mem_of_getElem? (i := 977) (by decide +kernel), List.mem_of_getElem? (i := 1283) (by decide +kernel), List.mem_of_getElem? (i := 1284) (by decide +kernel)⟩
theorem lw_p62 : lw_okq (⟨"SwordAtticModel", "awakeSet", "()I"⟩, 42) := ⟨⟨by decide +kernel, by decide +kernel⟩, List.mem_of_getElem? (i := 977) (by decide +kernel), List.mem_of_getElem? (i := 1294) (by decide +kernel), List.mem_of_getElem? (i := 1295) (by decide +kernel)⟩
theorem lw_p63 : lw_okq (⟨"SwordAtticModel", "mindAll", "()I"⟩, 42) := ⟨⟨by decide +kernel, by decide +kernel⟩, List.mem_of_getElem? (i := 977) (by decide +kernel), List.mem_of_getElem? (i := 1298) (by decide +kernel), List.mem_of_getElem? (i := 1299) (by decide +kernel)⟩
def lw_privs_4 : List (MethodName × Nat) := [(⟨"SwordAtticModel", "product", "()I"⟩, 42), (⟨"SwordAtticModel", "one", "()I"⟩, 42), (⟨"SwordAtticModel", "byteAt", "()I"⟩, 42), (⟨"SwordAtticModel", "wrong", "()I"⟩, 42), (⟨"SwordAtticModel", "takes", "(I)Z"⟩, 42), (⟨"SwordAtticModel", "begins", "()V"⟩, 42), (⟨"SwordAtticModel", "growsIn", "(I)I"⟩, 42), (⟨"SwordAtticModel", "awakeBeside", "(I)I"⟩, 42), (⟨"SwordAtticModel", "isAwake", "(I)Z"⟩, 42), (⟨"SwordAtticModel", "bytesIs", "(I)I"⟩, 42), (⟨"SwordAtticModel", "goesRound", "(II)V"⟩, 42), (⟨"SwordAtticModel", "hourMany", "(I)I"⟩, 42), (⟨"SwordAtticModel", "goesNext", "(II)V"⟩, 42), (⟨"SwordAtticModel", "goesHour", "()V"⟩, 42), (⟨"SwordAtticModel", "awakeSet", "()I"⟩, 42), (⟨"SwordAtticModel", "mindAll", "()I"⟩, 42)]
theorem lw_r4 : ∀ q ∈ lw_privs_4, lw_okq q := List.forall_mem_cons.mpr ⟨lw_p48, List.forall_mem_cons.mpr ⟨lw_p49, List.forall_mem_cons.mpr ⟨lw_p50, List.forall_mem_cons.mpr ⟨lw_p51, List.forall_mem_cons.mpr ⟨lw_p52, List.forall_mem_cons.mpr ⟨lw_p53, List.forall_mem_cons.mpr ⟨lw_p54, List.forall_mem_cons.mpr ⟨lw_p55, List.forall_mem_cons.mpr ⟨lw_p56, List.forall_mem_cons.mpr ⟨lw_p57, List.forall_mem_cons.mpr ⟨lw_p58, List.forall_mem_cons.mpr ⟨lw_p59, List.forall_mem_cons.mpr ⟨lw_p60, List.forall_mem_cons.mpr ⟨lw_p61, List.forall_mem_cons.mpr ⟨lw_p62, List.forall_mem_cons.mpr ⟨lw_p63, fun _ h => absurd h List.not_mem_nil⟩⟩⟩⟩⟩⟩⟩⟩⟩⟩⟩⟩⟩⟩⟩⟩
theorem lw_p64 : lw_okq (⟨"SwordAtticModel", "triesRound", "(II)V"⟩, 42) := ⟨⟨by decide +kernel, by decide +kernel⟩, List.mem_of_getElem? (i := 977) (by decide +kernel), List.mem_of_getElem? (i := 1317) (by decide +kernel), List.mem_of_getElem? (i := 1318) (by decide +kernel)⟩
theorem lw_p65 : lw_okq (⟨"SwordAtticModel", "awakeMany", "()I"⟩, 42) := ⟨⟨by decide +kernel, by decide +kernel⟩, List.mem_of_getElem? (i := 977) (by decide +kernel), List.mem_of_getElem? (i := 1321) (by decide +kernel), List.mem_of_getElem? (i := 1322) (by decide +kernel)⟩
theorem lw_p66 : lw_okq (⟨"SwordAtticModel", "isToldAt", "(II)V"⟩, 42) := ⟨⟨by decide +kernel, by decide +kernel⟩, List.mem_of_getElem? (i := 977) (by decide +kernel), List.mem_of_getElem? (i := 1332) (by decide +kernel), List.mem_of_getElem? (i := 1333) (by decide +kernel)⟩
theorem lw_p67 : lw_okq (⟨"SwordAtticModel", "isTouched", "(I)V"⟩, 42) := ⟨⟨by decide +kernel, by decide +kernel⟩, List.mem_of_getElem? (i := 977) (by decide +kernel), List.mem_of_getElem? (i := 1340) (by decide +kernel), List.mem_of_getElem? (i := 1341) (by decide +kernel)⟩
theorem lw_p68 : lw_okq (⟨"SwordAtticModel", "touchedMany", "()I"⟩, 42) := ⟨⟨by decide +kernel, by decide +kernel⟩, List.mem_of_getElem? (i := 977) (by decide +kernel), List.mem_of_getElem? (i := 1344) (by decide +kernel), List.mem_of_getElem? (i := 1345) (by decide +kernel)⟩
theorem lw_p69 : lw_okq (⟨"SwordAtticModel", "stepsBy", "(II)I"⟩, 42) := ⟨⟨by decide +kernel, by decide +kernel⟩, List.mem_of_getElem? (i := 977) (by decide +kernel), List.mem_of_getElem? (i := 1356) (by decide +kernel), List.mem_of_getElem? (i := 1357) (by decide +kernel)⟩
theorem lw_p70 : lw_okq (⟨"SwordAtticModel", "rowsAre", "(I)I"⟩, 42) := ⟨⟨by decide +kernel, by decide +kernel⟩, List.mem_of_getElem? (i := 977) (by decide +kernel), List.mem_of_getElem? (i := 1367) (by decide +kernel), List.mem_of_getElem? (i := 1368) (by decide +kernel)⟩
theorem lw_p71 : lw_okq (⟨"SwordAtticModel", "firstFalse", "(II)I"⟩, 42) := ⟨⟨by decide +kernel, by decide +kernel⟩, List.mem_of_getElem? (i := 977) (by decide +kernel), List.mem_of_getElem? (i := 1371) (by decide +kernel), List.mem_of_getElem? (i := 1372) (by decide +kernel)⟩
theorem lw_p72 : lw_okq (⟨"SwordAtticModel", "playsFrom", "(II)I"⟩, 42) := ⟨⟨by decide +kernel, by decide +kernel⟩, List.mem_of_getElem? (i := 977) (by decide +kernel), List.mem_of_getElem? (i := 1392) (by decide +kernel), List.mem_of_getElem? (i := 1393) (by decide +kernel)⟩
theorem lw_p73 : lw_okq (⟨"SwordAtticModel", "keepsMind", "()V"⟩, 42) := ⟨⟨by decide +kernel, by decide +kernel⟩, List.mem_of_getElem? (i := 977) (by decide +kernel), List.mem_of_getElem? (i := 1407) (by decide +kernel), List.mem_of_getElem? (i := 1408) (by decide +kernel)⟩
theorem lw_p74 : lw_okq (⟨"SwordAtticModel", "isBody", "(I)Z"⟩, 42) := ⟨⟨by decide +kernel, by decide +kernel⟩, List.mem_of_getElem? (i := 977) (by decide +kernel), List.mem_of_getElem? (i := 1443) (by decide +kernel), List.mem_of_getElem? (i := 1444) (by decide +kernel)⟩
theorem lw_p75 : lw_okq (⟨"SwordAtticModel", "wakesAs", "(II)I"⟩, 42) := ⟨⟨by decide +kernel, by decide +kernel⟩, List.mem_of_getElem? (i := 977) (by decide +kernel), List.mem_of_getElem? (i := 1447) (by decide +kernel), List.mem_of_getElem? (i := 1448) (by decide +kernel)⟩
theorem lw_p76 : lw_okq (⟨"SwordAtticModel", "runs", "(I)V"⟩, 42) := ⟨⟨by decide +kernel, by decide +kernel⟩, List.mem_of_getElem? (i := 977) (by decide +kernel), List.mem_of_getElem? (i := 1451) (by decide +kernel), List.mem_of_getElem? (i := 1452) (by decide +kernel)⟩
theorem lw_p77 : lw_okq (⟨"SwordAtticModel", "hushesAs", "(II)I"⟩, 42) := ⟨⟨by decide +kernel, by decide +kernel⟩, List.mem_of_getElem? (i := 977) (by decide +kernel), List.mem_of_getElem? (i := 1455) (by decide +kernel), List.mem_of_getElem? (i := 1456) (by decide +kernel)⟩
theorem lw_p78 : lw_okq (⟨"SwordAtticModel", "criesAs", "(II)I"⟩, 42) := ⟨⟨by decide +kernel, by decide +kernel⟩, List.mem_of_getElem? (i := 977) (by decide +kernel), List.mem_of_getElem? (i := 1459) (by decide +kernel), List.mem_of_getElem? (i := 1460) (by decide +kernel)⟩
theorem lw_p79 : lw_okq (⟨"SwordAtticModel", "tellsAs", "(II)I"⟩, 42) := ⟨⟨by decide +kernel, by decide +kernel⟩, List.mem_of_getElem? (i := 977) (by decide +kernel), List.mem_of_getElem? (i := 1463) (by decide +kernel), List.mem_of_getElem? (i := 1464) (by decide +kernel)⟩
def lw_privs_5 : List (MethodName × Nat) := [(⟨"SwordAtticModel", "triesRound", "(II)V"⟩, 42), (⟨"SwordAtticModel", "awakeMany", "()I"⟩, 42), (⟨"SwordAtticModel", "isToldAt", "(II)V"⟩, 42), (⟨"SwordAtticModel", "isTouched", "(I)V"⟩, 42), (⟨"SwordAtticModel", "touchedMany", "()I"⟩, 42), (⟨"SwordAtticModel", "stepsBy", "(II)I"⟩, 42), (⟨"SwordAtticModel", "rowsAre", "(I)I"⟩, 42), (⟨"SwordAtticModel", "firstFalse", "(II)I"⟩, 42), (⟨"SwordAtticModel", "playsFrom", "(II)I"⟩, 42), (⟨"SwordAtticModel", "keepsMind", "()V"⟩, 42), (⟨"SwordAtticModel", "isBody", "(I)Z"⟩, 42), (⟨"SwordAtticModel", "wakesAs", "(II)I"⟩, 42), (⟨"SwordAtticModel", "runs", "(I)V"⟩, 42), (⟨"SwordAtticModel", "hushesAs", "(II)I"⟩, 42), (⟨"SwordAtticModel", "criesAs", "(II)I"⟩, 42), (⟨"SwordAtticModel", "tellsAs", "(II)I"⟩, 42)]
theorem lw_r5 : ∀ q ∈ lw_privs_5, lw_okq q := List.forall_mem_cons.mpr ⟨lw_p64, List.forall_mem_cons.mpr ⟨lw_p65, List.forall_mem_cons.mpr ⟨lw_p66, List.forall_mem_cons.mpr ⟨lw_p67, List.forall_mem_cons.mpr ⟨lw_p68, List.forall_mem_cons.mpr ⟨lw_p69, List.forall_mem_cons.mpr ⟨lw_p70, List.forall_mem_cons.mpr ⟨lw_p71, List.forall_mem_cons.mpr ⟨lw_p72, List.forall_mem_cons.mpr ⟨lw_p73, List.forall_mem_cons.mpr ⟨lw_p74, List.forall_mem_cons.mpr ⟨lw_p75, List.forall_mem_cons.mpr ⟨lw_p76, List.forall_mem_cons.mpr ⟨lw_p77, List.forall_mem_cons.mpr ⟨lw_p78, List.forall_mem_cons.mpr ⟨lw_p79, fun _ h => absurd h List.not_mem_nil⟩⟩⟩⟩⟩⟩⟩⟩⟩⟩⟩⟩⟩⟩⟩⟩
theorem lw_p80 : lw_okq (⟨"SwordAtticModel", "refusal", "(II)I"⟩, 42) := ⟨⟨by decide +kernel, by decide +kernel⟩, List.mem_of_getElem? (i := 977) (by decide +kernel), List.mem_of_getElem? (i := 1483) (by decide +kernel), List.mem_of_getElem? (i := 1484) (by decide +kernel)⟩
theorem lw_p81 : lw_okq (⟨"SwordAtticModel", "kindOf", "(I)I"⟩, 42) := ⟨⟨by decide +kernel, by decide +kernel⟩, List.mem_of_getElem? (i := 977) (by decide +kernel), List.mem_of_getElem? (i := 1503) (by decide +kernel), List.mem_of_getElem? (i := 1504) (by decide +kernel)⟩
theorem lw_p82 : lw_okq (⟨"SwordAtticModel", "manyAwake", "()I"⟩, 42) := ⟨⟨by decide +kernel, by decide +kernel⟩, List.mem_of_getElem? (i := 977) (by decide +kernel), List.mem_of_getElem? (i := 1514) (by decide +kernel), List.mem_of_getElem? (i := 1515) (by decide +kernel)⟩
def lw_privs_6 : List (MethodName × Nat) := [(⟨"SwordAtticModel", "refusal", "(II)I"⟩, 42), (⟨"SwordAtticModel", "kindOf", "(I)I"⟩, 42), (⟨"SwordAtticModel", "manyAwake", "()I"⟩, 42)]
theorem lw_r6 : ∀ q ∈ lw_privs_6, lw_okq q := List.forall_mem_cons.mpr ⟨lw_p80, List.forall_mem_cons.mpr ⟨lw_p81, List.forall_mem_cons.mpr ⟨lw_p82, fun _ h => absurd h List.not_mem_nil⟩⟩⟩
def lw_privs : List (MethodName × Nat) := lw_privs_1 ++ (lw_privs_2 ++ (lw_privs_3 ++ (lw_privs_4 ++ (lw_privs_5 ++ (lw_privs_6)))))
def lw_tbl : List Cond := k2_sels lw_privs ++ tables_1
theorem lw_privs_ok : ∀ q ∈ lw_privs, lw_okq q := by
  show ∀ q ∈ lw_privs_1 ++ (lw_privs_2 ++ (lw_privs_3 ++ (lw_privs_4 ++ (lw_privs_5 ++ (lw_privs_6))))), lw_okq q
  exact List.forall_mem_append.mpr ⟨lw_r1, List.forall_mem_append.mpr ⟨lw_r2, List.forall_mem_append.mpr ⟨lw_r3, List.forall_mem_append.mpr ⟨lw_r4, List.forall_mem_append.mpr ⟨lw_r5, lw_r6⟩⟩⟩⟩⟩
end
section
def RX0 : String := "SwordAttic$Blades"
def TX0 : u_T := fun k => match k with
  | 0 => ("SwordAttic$Blades", "size", "I", false)
  | 1 => ("SwordAttic$Blades", "ran", "I", false)
  | 2 => ("SwordAttic$Blades", "kinds", "[I", true)
  | 3 => ("SwordAttic$Blades", "traced", "[I", true)
  | _ => ("SwordAttic$Blades", "number", "I", false)
def tyX0 : Nat → FieldType := fun k => match k with
  | 0 => .int
  | 1 => .int
  | 2 => .array .int
  | 3 => .array .int
  | _ => .int
abbrev wsX00 : List Cond := u_ws RX0 TX0 5
theorem nmX0 : ∀ a, a < 5 → ∀ b, b < 5 → a ≠ b → (TX0 a).2.1 ≠ (TX0 b).2.1 := by decide +kernel
theorem tyX0_ok : ∀ k, k < 5 → parseFieldDescriptor (TX0 k).2.2.1 = some (tyX0 k) := by decide +kernel
abbrev cX0_init : ByteArray := prog_2_method_1_code
def yX0_init : MethodName := ⟨RX0, "<init>", "()V"⟩
abbrev cX0_add : ByteArray := prog_2_method_2_code
def yX0_add : MethodName := ⟨RX0, "add", "(I)I"⟩
abbrev cX0_isUnder : ByteArray := prog_2_method_3_code
def yX0_isUnder : MethodName := ⟨RX0, "isUnder", "(II)Z"⟩
abbrev cX0_perform : ByteArray := prog_2_method_4_code
def yX0_perform : MethodName := ⟨RX0, "perform", "(III)I"⟩
abbrev cX0_own : ByteArray := prog_2_method_5_code
def yX0_own : MethodName := ⟨RX0, "own", "(III)I"⟩
abbrev cX0_above : ByteArray := prog_2_method_6_code
def yX0_above : MethodName := ⟨RX0, "above", "(IIII)I"⟩
abbrev cX0_from : ByteArray := prog_2_method_7_code
def yX0_from : MethodName := ⟨RX0, "from", "(IIII)I"⟩
abbrev cX0_run : ByteArray := prog_2_method_8_code
def yX0_run : MethodName := ⟨RX0, "run", "(III)I"⟩
def RX1 : String := "SwordAttic$Changes"
def TX1 : u_T := fun k => match k with
  | 0 => ("SwordAttic$Changes", "size", "I", false)
  | 1 => ("SwordAttic$Changes", "done", "I", false)
  | 2 => ("SwordAttic$Changes", "numbers", "[I", true)
  | 3 => ("SwordAttic$Changes", "whats", "[I", true)
  | 4 => ("SwordAttic$Changes", "before", "[I", true)
  | _ => ("SwordAttic$Changes", "behind", "[I", true)
def tyX1 : Nat → FieldType := fun k => match k with
  | 0 => .int
  | 1 => .int
  | 2 => .array .int
  | 3 => .array .int
  | 4 => .array .int
  | _ => .array .int
abbrev wsX10 : List Cond := u_ws RX1 TX1 6
theorem nmX1 : ∀ a, a < 6 → ∀ b, b < 6 → a ≠ b → (TX1 a).2.1 ≠ (TX1 b).2.1 := by decide +kernel
theorem tyX1_ok : ∀ k, k < 6 → parseFieldDescriptor (TX1 k).2.2.1 = some (tyX1 k) := by decide +kernel
abbrev cX1_init : ByteArray := prog_3_method_1_code
def yX1_init : MethodName := ⟨RX1, "<init>", "()V"⟩
abbrev cX1_add : ByteArray := prog_3_method_2_code
def yX1_add : MethodName := ⟨RX1, "add", "(IIII)V"⟩
abbrev cX1_dropFirst : ByteArray := prog_3_method_3_code
def yX1_dropFirst : MethodName := ⟨RX1, "dropFirst", "()V"⟩
abbrev cX1_stepBack : ByteArray := prog_3_method_4_code
def yX1_stepBack : MethodName := ⟨RX1, "stepBack", "(LSwordAttic$Night;)Z"⟩
abbrev cX1_stepOn : ByteArray := prog_3_method_5_code
def yX1_stepOn : MethodName := ⟨RX1, "stepOn", "(LSwordAttic$Night;)Z"⟩
abbrev cX1_lay : ByteArray := prog_3_method_6_code
def yX1_lay : MethodName := ⟨RX1, "lay", "(LSwordAttic$Night;II)V"⟩
def RX2 : String := "SwordAttic$Deeds"
def TX2 : u_T := fun k => match k with
  | 0 => ("SwordAttic$Deeds", "hasImage", "Z", false)
  | 1 => ("SwordAttic$Deeds", "told", "[I", true)
  | 2 => ("SwordAttic$Deeds", "toldThen", "[I", true)
  | 3 => ("SwordAttic$Deeds", "mindThen", "[I", true)
  | 4 => ("SwordAttic$Deeds", "heldThen", "[I", true)
  | 5 => ("SwordAttic$Deeds", "swordsThen", "I", false)
  | 6 => ("SwordAttic$Deeds", "hourThen", "I", false)
  | _ => ("SwordAttic$Deeds", "candleThen", "I", false)
def tyX2 : Nat → FieldType := fun k => match k with
  | 0 => .boolean
  | 1 => .array .int
  | 2 => .array .int
  | 3 => .array .int
  | 4 => .array .int
  | 5 => .int
  | 6 => .int
  | _ => .int
abbrev wsX20 : List Cond := u_ws RX2 TX2 8
theorem nmX2 : ∀ a, a < 8 → ∀ b, b < 8 → a ≠ b → (TX2 a).2.1 ≠ (TX2 b).2.1 := by decide +kernel
theorem tyX2_ok : ∀ k, k < 8 → parseFieldDescriptor (TX2 k).2.2.1 = some (tyX2 k) := by decide +kernel
abbrev cX2_init : ByteArray := prog_4_method_1_code
def yX2_init : MethodName := ⟨RX2, "<init>", "()V"⟩
abbrev cX2_add : ByteArray := prog_4_method_2_code
def yX2_add : MethodName := ⟨RX2, "add", "(II)V"⟩
abbrev cX2_keepImage : ByteArray := prog_4_method_3_code
def yX2_keepImage : MethodName := ⟨RX2, "keepImage", "(LSwordAttic$Night;)V"⟩
abbrev cX2_layBack : ByteArray := prog_4_method_4_code
def yX2_layBack : MethodName := ⟨RX2, "layBack", "(LSwordAttic$Night;)V"⟩
def RX3 : String := "SwordAttic$Law"
def TX3 : u_T := fun k => match k with
  | 0 => ("SwordAttic$Law", "isTold", "Z", false)
  | 1 => ("SwordAttic$Law", "size", "I", false)
  | 2 => ("SwordAttic$Law", "ops", "[I", true)
  | 3 => ("SwordAttic$Law", "args", "[I", true)
  | 4 => ("SwordAttic$Law", "stack", "[I", true)
  | _ => ("SwordAttic$Law", "names", "[I", true)
def tyX3 : Nat → FieldType := fun k => match k with
  | 0 => .boolean
  | 1 => .int
  | 2 => .array .int
  | 3 => .array .int
  | 4 => .array .int
  | _ => .array .int
abbrev wsX30 : List Cond := u_ws RX3 TX3 6
theorem nmX3 : ∀ a, a < 6 → ∀ b, b < 6 → a ≠ b → (TX3 a).2.1 ≠ (TX3 b).2.1 := by decide +kernel
theorem tyX3_ok : ∀ k, k < 6 → parseFieldDescriptor (TX3 k).2.2.1 = some (tyX3 k) := by decide +kernel
abbrev cX3_init : ByteArray := prog_5_method_1_code
def yX3_init : MethodName := ⟨RX3, "<init>", "()V"⟩
abbrev cX3_become : ByteArray := prog_5_method_2_code
def yX3_become : MethodName := ⟨RX3, "become", "(LSwordAttic$Law;)V"⟩
abbrev cX3_add : ByteArray := prog_5_method_3_code
def yX3_add : MethodName := ⟨RX3, "add", "(II)V"⟩
abbrev cX3_growth : ByteArray := prog_5_method_4_code
def yX3_growth : MethodName := ⟨RX3, "growth", "(IIIIII)I"⟩
abbrev cX3_workedOut : ByteArray := prog_5_method_5_code
def yX3_workedOut : MethodName := ⟨RX3, "workedOut", "()I"⟩
abbrev cX3_joined : ByteArray := prog_5_method_6_code
def yX3_joined : MethodName := ⟨RX3, "joined", "(III)I"⟩
def RX4 : String := "SwordAttic$Night"
def TX4 : u_T := fun k => match k with
  | 0 => ("SwordAttic$Night", "swords", "I", false)
  | 1 => ("SwordAttic$Night", "hourNow", "I", false)
  | 2 => ("SwordAttic$Night", "sleeps", "I", false)
  | 3 => ("SwordAttic$Night", "candle", "I", false)
  | 4 => ("SwordAttic$Night", "wokenSwords", "I", false)
  | 5 => ("SwordAttic$Night", "cot", "[I", true)
  | 6 => ("SwordAttic$Night", "did", "[I", true)
  | 7 => ("SwordAttic$Night", "years", "[I", true)
  | 8 => ("SwordAttic$Night", "mind", "[I", true)
  | 9 => ("SwordAttic$Night", "held", "[I", true)
  | 10 => ("SwordAttic$Night", "inCot", "[I", true)
  | 11 => ("SwordAttic$Night", "growthInDark", "[I", true)
  | 12 => ("SwordAttic$Night", "growthInLight", "[I", true)
  | _ => ("SwordAttic$Night", "queue", "[I", true)
def tyX4 : Nat → FieldType := fun k => match k with
  | 0 => .int
  | 1 => .int
  | 2 => .int
  | 3 => .int
  | 4 => .int
  | 5 => .array .int
  | 6 => .array .int
  | 7 => .array .int
  | 8 => .array .int
  | 9 => .array .int
  | 10 => .array .int
  | 11 => .array .int
  | 12 => .array .int
  | _ => .array .int
abbrev wsX40 : List Cond := u_ws RX4 TX4 14
theorem nmX4 : ∀ a, a < 14 → ∀ b, b < 14 → a ≠ b → (TX4 a).2.1 ≠ (TX4 b).2.1 := by decide +kernel
theorem tyX4_ok : ∀ k, k < 14 → parseFieldDescriptor (TX4 k).2.2.1 = some (tyX4 k) := by decide +kernel
abbrev cX4_init : ByteArray := prog_6_method_1_code
def yX4_init : MethodName := ⟨RX4, "<init>", "()V"⟩
abbrev cX4_become : ByteArray := prog_6_method_2_code
def yX4_become : MethodName := ⟨RX4, "become", "(LSwordAttic$Night;)V"⟩
abbrev cX4_becomeInMind : ByteArray := prog_6_method_3_code
def yX4_becomeInMind : MethodName := ⟨RX4, "becomeInMind", "(LSwordAttic$Night;)V"⟩
abbrev cX4_mayCome : ByteArray := prog_6_method_4_code
def yX4_mayCome : MethodName := ⟨RX4, "mayCome", "(III)Z"⟩
abbrev cX4_add : ByteArray := prog_6_method_5_code
def yX4_add : MethodName := ⟨RX4, "add", "(III)I"⟩
abbrev cX4_addFrom : ByteArray := prog_6_method_6_code
def yX4_addFrom : MethodName := ⟨RX4, "addFrom", "(LSwordAttic$Shelf;II)I"⟩
abbrev cX4_isTakenByOther : ByteArray := prog_6_method_7_code
def yX4_isTakenByOther : MethodName := ⟨RX4, "isTakenByOther", "(II)Z"⟩
abbrev cX4_get : ByteArray := prog_6_method_8_code
def yX4_get : MethodName := ⟨RX4, "get", "(II)I"⟩
abbrev cX4_set : ByteArray := prog_6_method_9_code
def yX4_set : MethodName := ⟨RX4, "set", "(III)V"⟩
abbrev cX4_move : ByteArray := prog_6_method_10_code
def yX4_move : MethodName := ⟨RX4, "move", "(II)V"⟩
abbrev cX4_changeCots : ByteArray := prog_6_method_11_code
def yX4_changeCots : MethodName := ⟨RX4, "changeCots", "(II)V"⟩
abbrev cX4_isAwake : ByteArray := prog_6_method_12_code
def yX4_isAwake : MethodName := ⟨RX4, "isAwake", "(I)Z"⟩
abbrev cX4_awakeSwords : ByteArray := prog_6_method_13_code
def yX4_awakeSwords : MethodName := ⟨RX4, "awakeSwords", "()I"⟩
abbrev cX4_awakeCots : ByteArray := prog_6_method_14_code
def yX4_awakeCots : MethodName := ⟨RX4, "awakeCots", "()I"⟩
abbrev cX4_howManyAwake : ByteArray := prog_6_method_15_code
def yX4_howManyAwake : MethodName := ⟨RX4, "howManyAwake", "()I"⟩
abbrev cX4_mindOfAll : ByteArray := prog_6_method_16_code
def yX4_mindOfAll : MethodName := ⟨RX4, "mindOfAll", "()I"⟩
abbrev cX4_growth : ByteArray := prog_6_method_17_code
def yX4_growth : MethodName := ⟨RX4, "growth", "(LSwordAttic$Law;III)I"⟩
abbrev cX4_growthNow : ByteArray := prog_6_method_18_code
def yX4_growthNow : MethodName := ⟨RX4, "growthNow", "(LSwordAttic$Law;I)I"⟩
abbrev cX4_passHour : ByteArray := prog_6_method_19_code
def yX4_passHour : MethodName := ⟨RX4, "passHour", "(LSwordAttic$Law;I)V"⟩
abbrev cX4_grow : ByteArray := prog_6_method_20_code
def yX4_grow : MethodName := ⟨RX4, "grow", "(II)V"⟩
abbrev cX4_foresee : ByteArray := prog_6_method_21_code
def yX4_foresee : MethodName := ⟨RX4, "foresee", "(LSwordAttic$Law;)V"⟩
abbrev cX4_passHourBehind : ByteArray := prog_6_method_22_code
def yX4_passHourBehind : MethodName := ⟨RX4, "passHourBehind", "(LSwordAttic$Night;I)V"⟩
abbrev cX4_tellAt : ByteArray := prog_6_method_23_code
def yX4_tellAt : MethodName := ⟨RX4, "tellAt", "(II)V"⟩
abbrev cX4_touchFrom : ByteArray := prog_6_method_24_code
def yX4_touchFrom : MethodName := ⟨RX4, "touchFrom", "(I)I"⟩
abbrev cX4_isWokenByTouch : ByteArray := prog_6_method_25_code
def yX4_isWokenByTouch : MethodName := ⟨RX4, "isWokenByTouch", "(I)Z"⟩
abbrev cX4_mindWhenTold : ByteArray := prog_6_method_26_code
def yX4_mindWhenTold : MethodName := ⟨RX4, "mindWhenTold", "(I)I"⟩
abbrev cX4_canAllBeTold : ByteArray := prog_6_method_27_code
def yX4_canAllBeTold : MethodName := ⟨RX4, "canAllBeTold", "()Z"⟩
abbrev cX4_mindOfAllTold : ByteArray := prog_6_method_28_code
def yX4_mindOfAllTold : MethodName := ⟨RX4, "mindOfAllTold", "()I"⟩
abbrev cX4_nearestAwakeCot : ByteArray := prog_6_method_29_code
def yX4_nearestAwakeCot : MethodName := ⟨RX4, "nearestAwakeCot", "()I"⟩
abbrev cX4_pairsOf : ByteArray := prog_6_method_30_code
def yX4_pairsOf : MethodName := ⟨RX4, "pairsOf", "(I)I"⟩
abbrev cX4_mostApart : ByteArray := prog_6_method_31_code
def yX4_mostApart : MethodName := ⟨RX4, "mostApart", "()I"⟩
abbrev cX4_areApart : ByteArray := prog_6_method_32_code
def yX4_areApart : MethodName := ⟨RX4, "areApart", "(I)Z"⟩
def RX5 : String := "SwordAttic$Shelf"
def TX5 : u_T := fun k => match k with
  | 0 => ("SwordAttic$Shelf", "kind", "I", false)
  | 1 => ("SwordAttic$Shelf", "sort", "I", false)
  | 2 => ("SwordAttic$Shelf", "size", "I", false)
  | 3 => ("SwordAttic$Shelf", "elements", "[J", true)
  | _ => ("SwordAttic$Shelf", "holds", "I", false)
def tyX5 : Nat → FieldType := fun k => match k with
  | 0 => .int
  | 1 => .int
  | 2 => .int
  | 3 => .array .long
  | _ => .int
abbrev wsX50 : List Cond := u_ws RX5 TX5 5
theorem nmX5 : ∀ a, a < 5 → ∀ b, b < 5 → a ≠ b → (TX5 a).2.1 ≠ (TX5 b).2.1 := by decide +kernel
theorem tyX5_ok : ∀ k, k < 5 → parseFieldDescriptor (TX5 k).2.2.1 = some (tyX5 k) := by decide +kernel
abbrev cX5_init : ByteArray := prog_7_method_1_code
def yX5_init : MethodName := ⟨RX5, "<init>", "()V"⟩
abbrev cX5_holdsNothing : ByteArray := prog_7_method_2_code
def yX5_holdsNothing : MethodName := ⟨RX5, "holdsNothing", "()Z"⟩
abbrev cX5_holdsBlade : ByteArray := prog_7_method_3_code
def yX5_holdsBlade : MethodName := ⟨RX5, "holdsBlade", "()Z"⟩
abbrev cX5_holdsRow : ByteArray := prog_7_method_4_code
def yX5_holdsRow : MethodName := ⟨RX5, "holdsRow", "()Z"⟩
abbrev cX5_holdsBytes : ByteArray := prog_7_method_5_code
def yX5_holdsBytes : MethodName := ⟨RX5, "holdsBytes", "()Z"⟩
abbrev cX5_clear : ByteArray := prog_7_method_6_code
def yX5_clear : MethodName := ⟨RX5, "clear", "()V"⟩
abbrev cX5_holdBlade : ByteArray := prog_7_method_7_code
def yX5_holdBlade : MethodName := ⟨RX5, "holdBlade", "(I)V"⟩
abbrev cX5_holdRow : ByteArray := prog_7_method_8_code
def yX5_holdRow : MethodName := ⟨RX5, "holdRow", "(II)V"⟩
abbrev cX5_hasPlaces : ByteArray := prog_7_method_9_code
def yX5_hasPlaces : MethodName := ⟨RX5, "hasPlaces", "(II)Z"⟩
abbrev cX5_store : ByteArray := prog_7_method_10_code
def yX5_store : MethodName := ⟨RX5, "store", "(IJ)V"⟩
abbrev cX5_byteAt : ByteArray := prog_7_method_11_code
def yX5_byteAt : MethodName := ⟨RX5, "byteAt", "(I)I"⟩
abbrev cX5_hours : ByteArray := prog_7_method_12_code
def yX5_hours : MethodName := ⟨RX5, "hours", "()I"⟩
def RX6 : String := "SwordAttic$Tape"
def TX6 : u_T := fun k => match k with
  | 0 => ("SwordAttic$Tape", "size", "I", false)
  | 1 => ("SwordAttic$Tape", "draft", "LSwordAttic$Law;", true)
  | 2 => ("SwordAttic$Tape", "bytes", "[I", true)
  | 3 => ("SwordAttic$Tape", "place", "I", false)
  | _ => ("SwordAttic$Tape", "fault", "I", false)
def tyX6 : Nat → FieldType := fun k => match k with
  | 0 => .int
  | 1 => .object "SwordAttic$Law"
  | 2 => .array .int
  | 3 => .int
  | _ => .int
abbrev wsX60 : List Cond := u_ws RX6 TX6 5
theorem nmX6 : ∀ a, a < 5 → ∀ b, b < 5 → a ≠ b → (TX6 a).2.1 ≠ (TX6 b).2.1 := by decide +kernel
theorem tyX6_ok : ∀ k, k < 5 → parseFieldDescriptor (TX6 k).2.2.1 = some (tyX6 k) := by decide +kernel
abbrev cX6_init : ByteArray := prog_8_method_1_code
def yX6_init : MethodName := ⟨RX6, "<init>", "()V"⟩
abbrev cX6_add : ByteArray := prog_8_method_2_code
def yX6_add : MethodName := ⟨RX6, "add", "(I)Z"⟩
abbrev cX6_read : ByteArray := prog_8_method_3_code
def yX6_read : MethodName := ⟨RX6, "read", "()I"⟩
abbrev cX6_next : ByteArray := prog_8_method_4_code
def yX6_next : MethodName := ⟨RX6, "next", "()I"⟩
abbrev cX6_noteFault : ByteArray := prog_8_method_5_code
def yX6_noteFault : MethodName := ⟨RX6, "noteFault", "()V"⟩
abbrev cX6_readLine : ByteArray := prog_8_method_6_code
def yX6_readLine : MethodName := ⟨RX6, "readLine", "()V"⟩
abbrev cX6_readOr : ByteArray := prog_8_method_7_code
def yX6_readOr : MethodName := ⟨RX6, "readOr", "(I)V"⟩
abbrev cX6_readAnd : ByteArray := prog_8_method_8_code
def yX6_readAnd : MethodName := ⟨RX6, "readAnd", "(I)V"⟩
abbrev cX6_readComparison : ByteArray := prog_8_method_9_code
def yX6_readComparison : MethodName := ⟨RX6, "readComparison", "(I)V"⟩
abbrev cX6_readSum : ByteArray := prog_8_method_10_code
def yX6_readSum : MethodName := ⟨RX6, "readSum", "(I)V"⟩
abbrev cX6_readProduct : ByteArray := prog_8_method_11_code
def yX6_readProduct : MethodName := ⟨RX6, "readProduct", "(I)V"⟩
abbrev cX6_readOperand : ByteArray := prog_8_method_12_code
def yX6_readOperand : MethodName := ⟨RX6, "readOperand", "(I)V"⟩
abbrev cX6_readOpened : ByteArray := prog_8_method_13_code
def yX6_readOpened : MethodName := ⟨RX6, "readOpened", "(II)V"⟩
abbrev cX6_readNumber : ByteArray := prog_8_method_14_code
def yX6_readNumber : MethodName := ⟨RX6, "readNumber", "()V"⟩
abbrev cX6_nameOf : ByteArray := prog_8_method_15_code
def yX6_nameOf : MethodName := ⟨RX6, "nameOf", "(I)I"⟩
def RX7 : String := "SwordAttic$Thought"
def TX7 : u_T := fun k => match k with
  | 0 => ("SwordAttic$Thought", "fewestAwake", "I", false)
  | 1 => ("SwordAttic$Thought", "leastMind", "I", false)
  | 2 => ("SwordAttic$Thought", "bestCots", "[I", true)
  | 3 => ("SwordAttic$Thought", "fitting", "I", false)
  | 4 => ("SwordAttic$Thought", "leastFitting", "I", false)
  | 5 => ("SwordAttic$Thought", "bestPair", "I", false)
  | 6 => ("SwordAttic$Thought", "auntsFirst", "I", false)
  | 7 => ("SwordAttic$Thought", "now", "LSwordAttic$Night;", true)
  | 8 => ("SwordAttic$Thought", "law", "LSwordAttic$Law;", true)
  | 9 => ("SwordAttic$Thought", "nights", "[LSwordAttic$Night;", true)
  | 10 => ("SwordAttic$Thought", "cots", "[I", true)
  | 11 => ("SwordAttic$Thought", "stops", "[I", true)
  | _ => ("SwordAttic$Thought", "stepsTo", "[I", true)
def tyX7 : Nat → FieldType := fun k => match k with
  | 0 => .int
  | 1 => .int
  | 2 => .array .int
  | 3 => .int
  | 4 => .int
  | 5 => .int
  | 6 => .int
  | 7 => .object "SwordAttic$Night"
  | 8 => .object "SwordAttic$Law"
  | 9 => .array (.object "SwordAttic$Night")
  | 10 => .array .int
  | 11 => .array .int
  | _ => .array .int
abbrev wsX70 : List Cond := u_ws RX7 TX7 13
theorem nmX7 : ∀ a, a < 13 → ∀ b, b < 13 → a ≠ b → (TX7 a).2.1 ≠ (TX7 b).2.1 := by decide +kernel
theorem tyX7_ok : ∀ k, k < 13 → parseFieldDescriptor (TX7 k).2.2.1 = some (tyX7 k) := by decide +kernel
abbrev cX7_init : ByteArray := prog_9_method_1_code
def yX7_init : MethodName := ⟨RX7, "<init>", "(LSwordAttic$Night;LSwordAttic$Law;)V"⟩
abbrev cX7_fresh : ByteArray := prog_9_method_2_code
def yX7_fresh : MethodName := ⟨RX7, "fresh", "()LSwordAttic$Night;"⟩
abbrev cX7_behind : ByteArray := prog_9_method_3_code
def yX7_behind : MethodName := ⟨RX7, "behind", "(LSwordAttic$Shelf;I)LSwordAttic$Night;"⟩
abbrev cX7_firstCry : ByteArray := prog_9_method_4_code
def yX7_firstCry : MethodName := ⟨RX7, "firstCry", "(LSwordAttic$Shelf;II)I"⟩
abbrev cX7_firstSilence : ByteArray := prog_9_method_5_code
def yX7_firstSilence : MethodName := ⟨RX7, "firstSilence", "(LSwordAttic$Shelf;)I"⟩
abbrev cX7_planRound : ByteArray := prog_9_method_6_code
def yX7_planRound : MethodName := ⟨RX7, "planRound", "(I)V"⟩
abbrev cX7_forgetBest : ByteArray := prog_9_method_7_code
def yX7_forgetBest : MethodName := ⟨RX7, "forgetBest", "()V"⟩
abbrev cX7_plan : ByteArray := prog_9_method_8_code
def yX7_plan : MethodName := ⟨RX7, "plan", "(II)V"⟩
abbrev cX7_isBetter : ByteArray := prog_9_method_9_code
def yX7_isBetter : MethodName := ⟨RX7, "isBetter", "(LSwordAttic$Night;)Z"⟩
abbrev cX7_stepsByAll : ByteArray := prog_9_method_10_code
def yX7_stepsByAll : MethodName := ⟨RX7, "stepsByAll", "()I"⟩
abbrev cX7_leastSteps : ByteArray := prog_9_method_11_code
def yX7_leastSteps : MethodName := ⟨RX7, "leastSteps", "(III)I"⟩
abbrev cX7_leastOf : ByteArray := prog_9_method_12_code
def yX7_leastOf : MethodName := ⟨RX7, "leastOf", "(II)I"⟩
abbrev cX7_judged : ByteArray := prog_9_method_13_code
def yX7_judged : MethodName := ⟨RX7, "judged", "(LSwordAttic$Shelf;LSwordAttic$Shelf;I)I"⟩
abbrev cX7_firstWrong : ByteArray := prog_9_method_14_code
def yX7_firstWrong : MethodName := ⟨RX7, "firstWrong", "(LSwordAttic$Night;LSwordAttic$Shelf;LSwordAttic$Shelf;I)I"⟩
abbrev cX7_fit : ByteArray := prog_9_method_15_code
def yX7_fit : MethodName := ⟨RX7, "fit", "(LSwordAttic$Shelf;LSwordAttic$Shelf;II)V"⟩
abbrev cX7_deal : ByteArray := prog_9_method_16_code
def yX7_deal : MethodName := ⟨RX7, "deal", "()V"⟩
abbrev cX7_playTurns : ByteArray := prog_9_method_17_code
def yX7_playTurns : MethodName := ⟨RX7, "playTurns", "(I)I"⟩
abbrev cX7_outcome : ByteArray := prog_9_method_18_code
def yX7_outcome : MethodName := ⟨RX7, "outcome", "(II)I"⟩
abbrev cX7_outcomeOf : ByteArray := prog_9_method_19_code
def yX7_outcomeOf : MethodName := ⟨RX7, "outcomeOf", "(III)I"⟩
abbrev cX7_drawNights : ByteArray := prog_9_method_20_code
def yX7_drawNights : MethodName := ⟨RX7, "drawNights", "(IIIII)I"⟩
def RX8 : String := "SwordAttic"
def TX8 : u_T := fun k => match k with
  | 0 => ("SwordAttic", "now", "LSwordAttic$Night;", true)
  | 1 => ("SwordAttic", "law", "LSwordAttic$Law;", true)
  | 2 => ("SwordAttic", "tape", "LSwordAttic$Tape;", true)
  | 3 => ("SwordAttic", "thought", "LSwordAttic$Thought;", true)
  | 4 => ("SwordAttic", "changes", "LSwordAttic$Changes;", true)
  | 5 => ("SwordAttic", "deeds", "LSwordAttic$Deeds;", true)
  | 6 => ("SwordAttic", "blades", "LSwordAttic$Blades;", true)
  | _ => ("SwordAttic", "shelves", "[LSwordAttic$Shelf;", true)
def tyX8 : Nat → FieldType := fun k => match k with
  | 0 => .object "SwordAttic$Night"
  | 1 => .object "SwordAttic$Law"
  | 2 => .object "SwordAttic$Tape"
  | 3 => .object "SwordAttic$Thought"
  | 4 => .object "SwordAttic$Changes"
  | 5 => .object "SwordAttic$Deeds"
  | 6 => .object "SwordAttic$Blades"
  | _ => .array (.object "SwordAttic$Shelf")
abbrev wsX80 : List Cond := u_ws RX8 TX8 8
theorem nmX8 : ∀ a, a < 8 → ∀ b, b < 8 → a ≠ b → (TX8 a).2.1 ≠ (TX8 b).2.1 := by decide +kernel
theorem tyX8_ok : ∀ k, k < 8 → parseFieldDescriptor (TX8 k).2.2.1 = some (tyX8 k) := by decide +kernel
abbrev cX8_init : ByteArray := prog_1_method_1_code
def yX8_init : MethodName := ⟨RX8, "<init>", "()V"⟩
abbrev cX8_sword : ByteArray := prog_1_method_2_code
def yX8_sword : MethodName := ⟨RX8, "sword", "(II)I"⟩
abbrev cX8_swords : ByteArray := prog_1_method_3_code
def yX8_swords : MethodName := ⟨RX8, "swords", "(III)I"⟩
abbrev cX8_mend : ByteArray := prog_1_method_4_code
def yX8_mend : MethodName := ⟨RX8, "mend", "(III)I"⟩
abbrev cX8_of : ByteArray := prog_1_method_5_code
def yX8_of : MethodName := ⟨RX8, "of", "(II)I"⟩
abbrev cX8_feed : ByteArray := prog_1_method_6_code
def yX8_feed : MethodName := ⟨RX8, "feed", "(I)I"⟩
abbrev cX8_law : ByteArray := prog_1_method_7_code
def yX8_law : MethodName := ⟨RX8, "law", "()I"⟩
abbrev cX8_grows : ByteArray := prog_1_method_8_code
def yX8_grows : MethodName := ⟨RX8, "grows", "(I)I"⟩
abbrev cX8_later : ByteArray := prog_1_method_9_code
def yX8_later : MethodName := ⟨RX8, "later", "(III)I"⟩
abbrev cX8_awake : ByteArray := prog_1_method_10_code
def yX8_awake : MethodName := ⟨RX8, "awake", "(III)I"⟩
abbrev cX8_cries : ByteArray := prog_1_method_11_code
def yX8_cries : MethodName := ⟨RX8, "cries", "(III)I"⟩
abbrev cX8_asleep : ByteArray := prog_1_method_12_code
def yX8_asleep : MethodName := ⟨RX8, "asleep", "(I)I"⟩
abbrev cX8_bestRound : ByteArray := prog_1_method_13_code
def yX8_bestRound : MethodName := ⟨RX8, "bestRound", "(II)I"⟩
abbrev cX8_told : ByteArray := prog_1_method_14_code
def yX8_told : MethodName := ⟨RX8, "told", "(I)I"⟩
abbrev cX8_woken : ByteArray := prog_1_method_15_code
def yX8_woken : MethodName := ⟨RX8, "woken", "(II)I"⟩
abbrev cX8_walk : ByteArray := prog_1_method_16_code
def yX8_walk : MethodName := ⟨RX8, "walk", "(I)I"⟩
abbrev cX8_judge : ByteArray := prog_1_method_17_code
def yX8_judge : MethodName := ⟨RX8, "judge", "(II)I"⟩
abbrev cX8_fits : ByteArray := prog_1_method_18_code
def yX8_fits : MethodName := ⟨RX8, "fits", "(III)I"⟩
abbrev cX8_dealt : ByteArray := prog_1_method_19_code
def yX8_dealt : MethodName := ⟨RX8, "dealt", "(I)I"⟩
abbrev cX8_lines : ByteArray := prog_1_method_20_code
def yX8_lines : MethodName := ⟨RX8, "lines", "(I)I"⟩
abbrev cX8_byTurns : ByteArray := prog_1_method_21_code
def yX8_byTurns : MethodName := ⟨RX8, "byTurns", "(II)I"⟩
abbrev cX8_drawn : ByteArray := prog_1_method_22_code
def yX8_drawn : MethodName := ⟨RX8, "drawn", "(III)I"⟩
abbrev cX8_hour : ByteArray := prog_1_method_23_code
def yX8_hour : MethodName := ⟨RX8, "hour", "(I)I"⟩
abbrev cX8_telling : ByteArray := prog_1_method_24_code
def yX8_telling : MethodName := ⟨RX8, "telling", "(II)I"⟩
abbrev cX8_touch : ByteArray := prog_1_method_25_code
def yX8_touch : MethodName := ⟨RX8, "touch", "(I)I"⟩
abbrev cX8_hold : ByteArray := prog_1_method_26_code
def yX8_hold : MethodName := ⟨RX8, "hold", "(II)I"⟩
abbrev cX8_led : ByteArray := prog_1_method_27_code
def yX8_led : MethodName := ⟨RX8, "led", "(I)I"⟩
abbrev cX8_image : ByteArray := prog_1_method_28_code
def yX8_image : MethodName := ⟨RX8, "image", "()I"⟩
abbrev cX8_back : ByteArray := prog_1_method_29_code
def yX8_back : MethodName := ⟨RX8, "back", "()I"⟩
abbrev cX8_undo : ByteArray := prog_1_method_30_code
def yX8_undo : MethodName := ⟨RX8, "undo", "()I"⟩
abbrev cX8_redo : ByteArray := prog_1_method_31_code
def yX8_redo : MethodName := ⟨RX8, "redo", "()I"⟩
abbrev cX8_body : ByteArray := prog_1_method_32_code
def yX8_body : MethodName := ⟨RX8, "body", "(I)I"⟩
abbrev cX8_act : ByteArray := prog_1_method_33_code
def yX8_act : MethodName := ⟨RX8, "act", "(III)I"⟩
abbrev cX8_trace : ByteArray := prog_1_method_34_code
def yX8_trace : MethodName := ⟨RX8, "trace", "(I)I"⟩
abbrev cX8_keep : ByteArray := prog_1_method_35_code
def yX8_keep : MethodName := ⟨RX8, "keep", "(II)I"⟩
abbrev cX8_row : ByteArray := prog_1_method_36_code
def yX8_row : MethodName := ⟨RX8, "row", "(III)I"⟩
abbrev cX8_put : ByteArray := prog_1_method_37_code
def yX8_put : MethodName := ⟨RX8, "put", "(IIJ)I"⟩
abbrev cX8_element : ByteArray := prog_1_method_38_code
def yX8_element : MethodName := ⟨RX8, "element", "(II)J"⟩
abbrev cX8_shift : ByteArray := prog_1_method_39_code
def yX8_shift : MethodName := ⟨RX8, "shift", "(IIIII)I"⟩
abbrev cX8_taken : ByteArray := prog_1_method_40_code
def yX8_taken : MethodName := ⟨RX8, "taken", "(II)I"⟩
abbrev cX8_count : ByteArray := prog_1_method_41_code
def yX8_count : MethodName := ⟨RX8, "count", "(I)I"⟩
abbrev cX8_within : ByteArray := prog_1_method_42_code
def yX8_within : MethodName := ⟨RX8, "within", "(III)Z"⟩
abbrev cX8_heldWithin : ByteArray := prog_1_method_43_code
def yX8_heldWithin : MethodName := ⟨RX8, "heldWithin", "(III)I"⟩
abbrev cX8_isCot : ByteArray := prog_1_method_44_code
def yX8_isCot : MethodName := ⟨RX8, "isCot", "(I)Z"⟩
abbrev cX8_steps : ByteArray := prog_1_method_45_code
def yX8_steps : MethodName := ⟨RX8, "steps", "(II)I"⟩
abbrev cX8_isShelf : ByteArray := prog_1_method_46_code
def yX8_isShelf : MethodName := ⟨RX8, "isShelf", "(I)Z"⟩
abbrev cX8_areShelves : ByteArray := prog_1_method_47_code
def yX8_areShelves : MethodName := ⟨RX8, "areShelves", "(I)Z"⟩
abbrev cX8_isSword : ByteArray := prog_1_method_48_code
def yX8_isSword : MethodName := ⟨RX8, "isSword", "(I)Z"⟩
abbrev cX8_isMendable : ByteArray := prog_1_method_49_code
def yX8_isMendable : MethodName := ⟨RX8, "isMendable", "(II)Z"⟩
abbrev cX8_refusalOfBytes : ByteArray := prog_1_method_50_code
def yX8_refusalOfBytes : MethodName := ⟨RX8, "refusalOfBytes", "(LSwordAttic$Shelf;)I"⟩
abbrev cX8_refusalOfBoth : ByteArray := prog_1_method_51_code
def yX8_refusalOfBoth : MethodName := ⟨RX8, "refusalOfBoth", "(I)I"⟩
abbrev cX8_refusalOfElement : ByteArray := prog_1_method_52_code
def yX8_refusalOfElement : MethodName := ⟨RX8, "refusalOfElement", "(II)I"⟩
def RX9 : String := "SwordAtticModel"
def TX9 : u_T := fun k => match k with
  | 0 => ("SwordAtticModel", "may", "[I", true)
  | 1 => ("SwordAtticModel", "changeAt", "[I", true)
  | 2 => ("SwordAtticModel", "changeWas", "[I", true)
  | 3 => ("SwordAtticModel", "changeIs", "[I", true)
  | 4 => ("SwordAtticModel", "keptMany", "I", false)
  | 5 => ("SwordAtticModel", "done", "I", false)
  | 6 => ("SwordAtticModel", "swords", "I", false)
  | 7 => ("SwordAtticModel", "tape", "[I", true)
  | 8 => ("SwordAtticModel", "tapeMany", "I", false)
  | 9 => ("SwordAtticModel", "text", "[I", true)
  | 10 => ("SwordAtticModel", "textMany", "I", false)
  | 11 => ("SwordAtticModel", "base", "I", false)
  | 12 => ("SwordAtticModel", "at", "I", false)
  | 13 => ("SwordAtticModel", "ends", "I", false)
  | 14 => ("SwordAtticModel", "fault", "I", false)
  | 15 => ("SwordAtticModel", "opened", "I", false)
  | 16 => ("SwordAtticModel", "names", "[I", true)
  | 17 => ("SwordAtticModel", "lies", "[I", true)
  | 18 => ("SwordAtticModel", "mind", "[I", true)
  | 19 => ("SwordAtticModel", "hourThen", "I", false)
  | 20 => ("SwordAtticModel", "candle", "I", false)
  | 21 => ("SwordAtticModel", "more", "[I", true)
  | 22 => ("SwordAtticModel", "touches", "[I", true)
  | 23 => ("SwordAtticModel", "tried", "[I", true)
  | 24 => ("SwordAtticModel", "bestCots", "[I", true)
  | 25 => ("SwordAtticModel", "fewestAwake", "I", false)
  | 26 => ("SwordAtticModel", "leastMind", "I", false)
  | 27 => ("SwordAtticModel", "ledNow", "[I", true)
  | 28 => ("SwordAtticModel", "isKept", "Z", false)
  | 29 => ("SwordAtticModel", "imageMany", "I", false)
  | 30 => ("SwordAtticModel", "imageMay", "[I", true)
  | 31 => ("SwordAtticModel", "imageLed", "[I", true)
  | 32 => ("SwordAtticModel", "bodies", "I", false)
  | 33 => ("SwordAtticModel", "bodyKind", "[I", true)
  | 34 => ("SwordAtticModel", "trace", "[I", true)
  | 35 => ("SwordAtticModel", "ran", "I", false)
  | 36 => ("SwordAtticModel", "ownKind", "I", false)
  | 37 => ("SwordAtticModel", "ownNumber", "I", false)
  | 38 => ("SwordAtticModel", "shelf", "[I", true)
  | 39 => ("SwordAtticModel", "many", "[I", true)
  | 40 => ("SwordAtticModel", "items", "[J", true)
  | _ => ("SwordAtticModel", "carried", "[J", true)
def tyX9 : Nat → FieldType := fun k => match k with
  | 0 => .array .int
  | 1 => .array .int
  | 2 => .array .int
  | 3 => .array .int
  | 4 => .int
  | 5 => .int
  | 6 => .int
  | 7 => .array .int
  | 8 => .int
  | 9 => .array .int
  | 10 => .int
  | 11 => .int
  | 12 => .int
  | 13 => .int
  | 14 => .int
  | 15 => .int
  | 16 => .array .int
  | 17 => .array .int
  | 18 => .array .int
  | 19 => .int
  | 20 => .int
  | 21 => .array .int
  | 22 => .array .int
  | 23 => .array .int
  | 24 => .array .int
  | 25 => .int
  | 26 => .int
  | 27 => .array .int
  | 28 => .boolean
  | 29 => .int
  | 30 => .array .int
  | 31 => .array .int
  | 32 => .int
  | 33 => .array .int
  | 34 => .array .int
  | 35 => .int
  | 36 => .int
  | 37 => .int
  | 38 => .array .int
  | 39 => .array .int
  | 40 => .array .long
  | _ => .array .long
abbrev wsX90 : List Cond := u_ws RX9 TX9 42
theorem nmX9 : ∀ a, a < 42 → ∀ b, b < 42 → a ≠ b → (TX9 a).2.1 ≠ (TX9 b).2.1 := by decide +kernel
theorem tyX9_ok : ∀ k, k < 42 → parseFieldDescriptor (TX9 k).2.2.1 = some (tyX9 k) := by decide +kernel
abbrev cX9_within : ByteArray := prog_11_method_1_code
def yX9_within : MethodName := ⟨RX9, "within", "(JJJ)Z"⟩
abbrev cX9_isIn : ByteArray := prog_11_method_2_code
def yX9_isIn : MethodName := ⟨RX9, "isIn", "(II)Z"⟩
abbrev cX9_bitsOf : ByteArray := prog_11_method_3_code
def yX9_bitsOf : MethodName := ⟨RX9, "bitsOf", "(I)I"⟩
abbrev cX9_sizeOf : ByteArray := prog_11_method_4_code
def yX9_sizeOf : MethodName := ⟨RX9, "sizeOf", "(I)I"⟩
abbrev cX9_init : ByteArray := prog_11_method_5_code
def yX9_init : MethodName := ⟨RX9, "<init>", "()V"⟩
abbrev cX9_becomes : ByteArray := prog_11_method_6_code
def yX9_becomes : MethodName := ⟨RX9, "becomes", "(II)I"⟩
abbrev cX9_turns : ByteArray := prog_11_method_7_code
def yX9_turns : MethodName := ⟨RX9, "turns", "(II)V"⟩
abbrev cX9_undo : ByteArray := prog_11_method_8_code
def yX9_undo : MethodName := ⟨RX9, "undo", "()I"⟩
abbrev cX9_redo : ByteArray := prog_11_method_9_code
def yX9_redo : MethodName := ⟨RX9, "redo", "()I"⟩
abbrev cX9_isSword : ByteArray := prog_11_method_10_code
def yX9_isSword : MethodName := ⟨RX9, "isSword", "(J)Z"⟩
abbrev cX9_isCot : ByteArray := prog_11_method_11_code
def yX9_isCot : MethodName := ⟨RX9, "isCot", "(J)Z"⟩
abbrev cX9_inCot : ByteArray := prog_11_method_12_code
def yX9_inCot : MethodName := ⟨RX9, "inCot", "(I)I"⟩
abbrev cX9_mayCome : ByteArray := prog_11_method_13_code
def yX9_mayCome : MethodName := ⟨RX9, "mayCome", "(JJJ)Z"⟩
abbrev cX9_adds : ByteArray := prog_11_method_14_code
def yX9_adds : MethodName := ⟨RX9, "adds", "(III)V"⟩
abbrev cX9_sword : ByteArray := prog_11_method_15_code
def yX9_sword : MethodName := ⟨RX9, "sword", "(II)I"⟩
abbrev cX9_swords : ByteArray := prog_11_method_16_code
def yX9_swords : MethodName := ⟨RX9, "swords", "(III)I"⟩
abbrev cX9_placeOf : ByteArray := prog_11_method_17_code
def yX9_placeOf : MethodName := ⟨RX9, "placeOf", "(II)I"⟩
abbrev cX9_mayBecome : ByteArray := prog_11_method_18_code
def yX9_mayBecome : MethodName := ⟨RX9, "mayBecome", "(III)Z"⟩
abbrev cX9_mend : ByteArray := prog_11_method_19_code
def yX9_mend : MethodName := ⟨RX9, "mend", "(III)I"⟩
abbrev cX9_of : ByteArray := prog_11_method_20_code
def yX9_of : MethodName := ⟨RX9, "of", "(II)I"⟩
abbrev cX9_feed : ByteArray := prog_11_method_21_code
def yX9_feed : MethodName := ⟨RX9, "feed", "(I)I"⟩
abbrev cX9_byteAt : ByteArray := prog_11_method_22_code
def yX9_byteAt : MethodName := ⟨RX9, "byteAt", "()I"⟩
abbrev cX9_wrong : ByteArray := prog_11_method_23_code
def yX9_wrong : MethodName := ⟨RX9, "wrong", "()I"⟩
abbrev cX9_takes : ByteArray := prog_11_method_24_code
def yX9_takes : MethodName := ⟨RX9, "takes", "(I)Z"⟩
abbrev cX9_either : ByteArray := prog_11_method_25_code
def yX9_either : MethodName := ⟨RX9, "either", "()I"⟩
abbrev cX9_both : ByteArray := prog_11_method_26_code
def yX9_both : MethodName := ⟨RX9, "both", "()I"⟩
abbrev cX9_compared : ByteArray := prog_11_method_27_code
def yX9_compared : MethodName := ⟨RX9, "compared", "()I"⟩
abbrev cX9_sums : ByteArray := prog_11_method_28_code
def yX9_sums : MethodName := ⟨RX9, "sums", "()I"⟩
abbrev cX9_product : ByteArray := prog_11_method_29_code
def yX9_product : MethodName := ⟨RX9, "product", "()I"⟩
abbrev cX9_nameOf : ByteArray := prog_11_method_30_code
def yX9_nameOf : MethodName := ⟨RX9, "nameOf", "(I)I"⟩
abbrev cX9_one : ByteArray := prog_11_method_31_code
def yX9_one : MethodName := ⟨RX9, "one", "()I"⟩
abbrev cX9_workOut : ByteArray := prog_11_method_32_code
def yX9_workOut : MethodName := ⟨RX9, "workOut", "(II)I"⟩
abbrev cX9_law : ByteArray := prog_11_method_33_code
def yX9_law : MethodName := ⟨RX9, "law", "()I"⟩
abbrev cX9_begins : ByteArray := prog_11_method_34_code
def yX9_begins : MethodName := ⟨RX9, "begins", "()V"⟩
abbrev cX9_isAwake : ByteArray := prog_11_method_35_code
def yX9_isAwake : MethodName := ⟨RX9, "isAwake", "(I)Z"⟩
abbrev cX9_areBeside : ByteArray := prog_11_method_36_code
def yX9_areBeside : MethodName := ⟨RX9, "areBeside", "(II)Z"⟩
abbrev cX9_awakeBeside : ByteArray := prog_11_method_37_code
def yX9_awakeBeside : MethodName := ⟨RX9, "awakeBeside", "(I)I"⟩
abbrev cX9_growsIn : ByteArray := prog_11_method_38_code
def yX9_growsIn : MethodName := ⟨RX9, "growsIn", "(I)I"⟩
abbrev cX9_heldMind : ByteArray := prog_11_method_39_code
def yX9_heldMind : MethodName := ⟨RX9, "heldMind", "(I)I"⟩
abbrev cX9_goesHour : ByteArray := prog_11_method_40_code
def yX9_goesHour : MethodName := ⟨RX9, "goesHour", "()V"⟩
abbrev cX9_awakeSet : ByteArray := prog_11_method_41_code
def yX9_awakeSet : MethodName := ⟨RX9, "awakeSet", "()I"⟩
abbrev cX9_awakeMany : ByteArray := prog_11_method_42_code
def yX9_awakeMany : MethodName := ⟨RX9, "awakeMany", "()I"⟩
abbrev cX9_mindAll : ByteArray := prog_11_method_43_code
def yX9_mindAll : MethodName := ⟨RX9, "mindAll", "()I"⟩
abbrev cX9_grows : ByteArray := prog_11_method_44_code
def yX9_grows : MethodName := ⟨RX9, "grows", "(I)I"⟩
abbrev cX9_isToldAt : ByteArray := prog_11_method_45_code
def yX9_isToldAt : MethodName := ⟨RX9, "isToldAt", "(II)V"⟩
abbrev cX9_touchedMany : ByteArray := prog_11_method_46_code
def yX9_touchedMany : MethodName := ⟨RX9, "touchedMany", "()I"⟩
abbrev cX9_isTouched : ByteArray := prog_11_method_47_code
def yX9_isTouched : MethodName := ⟨RX9, "isTouched", "(I)V"⟩
abbrev cX9_bytesIs : ByteArray := prog_11_method_48_code
def yX9_bytesIs : MethodName := ⟨RX9, "bytesIs", "(I)I"⟩
abbrev cX9_hourMany : ByteArray := prog_11_method_49_code
def yX9_hourMany : MethodName := ⟨RX9, "hourMany", "(I)I"⟩
abbrev cX9_goesNext : ByteArray := prog_11_method_50_code
def yX9_goesNext : MethodName := ⟨RX9, "goesNext", "(II)V"⟩
abbrev cX9_goesRound : ByteArray := prog_11_method_51_code
def yX9_goesRound : MethodName := ⟨RX9, "goesRound", "(II)V"⟩
abbrev cX9_later : ByteArray := prog_11_method_52_code
def yX9_later : MethodName := ⟨RX9, "later", "(III)I"⟩
abbrev cX9_awake : ByteArray := prog_11_method_53_code
def yX9_awake : MethodName := ⟨RX9, "awake", "(III)I"⟩
abbrev cX9_cries : ByteArray := prog_11_method_54_code
def yX9_cries : MethodName := ⟨RX9, "cries", "(III)I"⟩
abbrev cX9_asleep : ByteArray := prog_11_method_55_code
def yX9_asleep : MethodName := ⟨RX9, "asleep", "(I)I"⟩
abbrev cX9_triesRound : ByteArray := prog_11_method_56_code
def yX9_triesRound : MethodName := ⟨RX9, "triesRound", "(II)V"⟩
abbrev cX9_bestRound : ByteArray := prog_11_method_57_code
def yX9_bestRound : MethodName := ⟨RX9, "bestRound", "(II)I"⟩
abbrev cX9_told : ByteArray := prog_11_method_58_code
def yX9_told : MethodName := ⟨RX9, "told", "(I)I"⟩
abbrev cX9_woken : ByteArray := prog_11_method_59_code
def yX9_woken : MethodName := ⟨RX9, "woken", "(II)I"⟩
abbrev cX9_stepsTo : ByteArray := prog_11_method_60_code
def yX9_stepsTo : MethodName := ⟨RX9, "stepsTo", "(II)I"⟩
abbrev cX9_stepsBy : ByteArray := prog_11_method_61_code
def yX9_stepsBy : MethodName := ⟨RX9, "stepsBy", "(II)I"⟩
abbrev cX9_walk : ByteArray := prog_11_method_62_code
def yX9_walk : MethodName := ⟨RX9, "walk", "(I)I"⟩
abbrev cX9_rowsAre : ByteArray := prog_11_method_63_code
def yX9_rowsAre : MethodName := ⟨RX9, "rowsAre", "(I)I"⟩
abbrev cX9_firstFalse : ByteArray := prog_11_method_64_code
def yX9_firstFalse : MethodName := ⟨RX9, "firstFalse", "(II)I"⟩
abbrev cX9_judge : ByteArray := prog_11_method_65_code
def yX9_judge : MethodName := ⟨RX9, "judge", "(II)I"⟩
abbrev cX9_fits : ByteArray := prog_11_method_66_code
def yX9_fits : MethodName := ⟨RX9, "fits", "(III)I"⟩
abbrev cX9_dealt : ByteArray := prog_11_method_67_code
def yX9_dealt : MethodName := ⟨RX9, "dealt", "(I)I"⟩
abbrev cX9_lines : ByteArray := prog_11_method_68_code
def yX9_lines : MethodName := ⟨RX9, "lines", "(I)I"⟩
abbrev cX9_playsFrom : ByteArray := prog_11_method_69_code
def yX9_playsFrom : MethodName := ⟨RX9, "playsFrom", "(II)I"⟩
abbrev cX9_byTurns : ByteArray := prog_11_method_70_code
def yX9_byTurns : MethodName := ⟨RX9, "byTurns", "(II)I"⟩
abbrev cX9_drawn : ByteArray := prog_11_method_71_code
def yX9_drawn : MethodName := ⟨RX9, "drawn", "(III)I"⟩
abbrev cX9_keepsMind : ByteArray := prog_11_method_72_code
def yX9_keepsMind : MethodName := ⟨RX9, "keepsMind", "()V"⟩
abbrev cX9_hour : ByteArray := prog_11_method_73_code
def yX9_hour : MethodName := ⟨RX9, "hour", "(I)I"⟩
abbrev cX9_telling : ByteArray := prog_11_method_74_code
def yX9_telling : MethodName := ⟨RX9, "telling", "(II)I"⟩
abbrev cX9_touch : ByteArray := prog_11_method_75_code
def yX9_touch : MethodName := ⟨RX9, "touch", "(I)I"⟩
abbrev cX9_hold : ByteArray := prog_11_method_76_code
def yX9_hold : MethodName := ⟨RX9, "hold", "(II)I"⟩
abbrev cX9_led : ByteArray := prog_11_method_77_code
def yX9_led : MethodName := ⟨RX9, "led", "(I)I"⟩
abbrev cX9_image : ByteArray := prog_11_method_78_code
def yX9_image : MethodName := ⟨RX9, "image", "()I"⟩
abbrev cX9_back : ByteArray := prog_11_method_79_code
def yX9_back : MethodName := ⟨RX9, "back", "()I"⟩
abbrev cX9_manyAwake : ByteArray := prog_11_method_80_code
def yX9_manyAwake : MethodName := ⟨RX9, "manyAwake", "()I"⟩
abbrev cX9_isBody : ByteArray := prog_11_method_81_code
def yX9_isBody : MethodName := ⟨RX9, "isBody", "(I)Z"⟩
abbrev cX9_kindOf : ByteArray := prog_11_method_82_code
def yX9_kindOf : MethodName := ⟨RX9, "kindOf", "(I)I"⟩
abbrev cX9_body : ByteArray := prog_11_method_83_code
def yX9_body : MethodName := ⟨RX9, "body", "(I)I"⟩
abbrev cX9_above : ByteArray := prog_11_method_84_code
def yX9_above : MethodName := ⟨RX9, "above", "(I)I"⟩
abbrev cX9_runs : ByteArray := prog_11_method_85_code
def yX9_runs : MethodName := ⟨RX9, "runs", "(I)V"⟩
abbrev cX9_wakesAs : ByteArray := prog_11_method_86_code
def yX9_wakesAs : MethodName := ⟨RX9, "wakesAs", "(II)I"⟩
abbrev cX9_hushesAs : ByteArray := prog_11_method_87_code
def yX9_hushesAs : MethodName := ⟨RX9, "hushesAs", "(II)I"⟩
abbrev cX9_criesAs : ByteArray := prog_11_method_88_code
def yX9_criesAs : MethodName := ⟨RX9, "criesAs", "(II)I"⟩
abbrev cX9_tellsAs : ByteArray := prog_11_method_89_code
def yX9_tellsAs : MethodName := ⟨RX9, "tellsAs", "(II)I"⟩
abbrev cX9_act : ByteArray := prog_11_method_90_code
def yX9_act : MethodName := ⟨RX9, "act", "(III)I"⟩
abbrev cX9_trace : ByteArray := prog_11_method_91_code
def yX9_trace : MethodName := ⟨RX9, "trace", "(I)I"⟩
abbrev cX9_isShelf : ByteArray := prog_11_method_92_code
def yX9_isShelf : MethodName := ⟨RX9, "isShelf", "(I)Z"⟩
abbrev cX9_keep : ByteArray := prog_11_method_93_code
def yX9_keep : MethodName := ⟨RX9, "keep", "(II)I"⟩
abbrev cX9_row : ByteArray := prog_11_method_94_code
def yX9_row : MethodName := ⟨RX9, "row", "(III)I"⟩
abbrev cX9_refusal : ByteArray := prog_11_method_95_code
def yX9_refusal : MethodName := ⟨RX9, "refusal", "(II)I"⟩
abbrev cX9_asSort : ByteArray := prog_11_method_96_code
def yX9_asSort : MethodName := ⟨RX9, "asSort", "(IJ)J"⟩
abbrev cX9_put : ByteArray := prog_11_method_97_code
def yX9_put : MethodName := ⟨RX9, "put", "(IIJ)I"⟩
abbrev cX9_element : ByteArray := prog_11_method_98_code
def yX9_element : MethodName := ⟨RX9, "element", "(II)J"⟩
abbrev cX9_shift : ByteArray := prog_11_method_99_code
def yX9_shift : MethodName := ⟨RX9, "shift", "(IIIII)I"⟩
abbrev cX9_taken : ByteArray := prog_11_method_100_code
def yX9_taken : MethodName := ⟨RX9, "taken", "(II)I"⟩
abbrev cX9_count : ByteArray := prog_11_method_101_code
def yX9_count : MethodName := ⟨RX9, "count", "(I)I"⟩
def RJ6 : String := "java/lang/Integer"
def TJ6 : u_T := fun k => match k with
  | _ => ("", "", "", false)
abbrev cJ6_bitCount_0f7a4 : ByteArray := prog_12_method_49_code
def yJ6_bitCount_0f7a4 : MethodName := ⟨RJ6, "bitCount", "(I)I"⟩
def RJ9 : String := "java/lang/Math"
def TJ9 : u_T := fun k => match k with
  | _ => ("", "", "", false)
abbrev cJ9_abs_0f7a4 : ByteArray := prog_13_method_59_code
def yJ9_abs_0f7a4 : MethodName := ⟨RJ9, "abs", "(I)I"⟩
abbrev cJ9_max_7cf53 : ByteArray := prog_13_method_65_code
def yJ9_max_7cf53 : MethodName := ⟨RJ9, "max", "(II)I"⟩
abbrev cJ9_min_7cf53 : ByteArray := prog_13_method_69_code
def yJ9_min_7cf53 : MethodName := ⟨RJ9, "min", "(II)I"⟩
def RJ10 : String := "java/lang/System"
def TJ10 : u_T := fun k => match k with
  | _ => ("", "", "", false)
def RL : String := "SwordAtticLaw"
abbrev cL_law : ByteArray := code
def yL_law : MethodName := ⟨RL, "law", "([I)Z"⟩
end
section
theorem dX0_init_0 : decode cX0_init 0 = .ok (.aload_n 0, 1) := by decide +kernel
theorem dX0_init_1 : decode cX0_init 1 = .ok (.invokespecial 1, 3) := by decide +kernel
theorem dX0_init_4 : decode cX0_init 4 = .ok (.aload_n 0, 1) := by decide +kernel
theorem dX0_init_5 : decode cX0_init 5 = .ok (.iconst 0, 1) := by decide +kernel
theorem dX0_init_6 : decode cX0_init 6 = .ok (.putfield 7, 3) := by decide +kernel
theorem dX0_init_9 : decode cX0_init 9 = .ok (.aload_n 0, 1) := by decide +kernel
theorem dX0_init_10 : decode cX0_init 10 = .ok (.iconst 0, 1) := by decide +kernel
theorem dX0_init_11 : decode cX0_init 11 = .ok (.putfield 13, 3) := by decide +kernel
theorem dX0_init_14 : decode cX0_init 14 = .ok (.aload_n 0, 1) := by decide +kernel
theorem dX0_init_15 : decode cX0_init 15 = .ok (.bipush 50, 2) := by decide +kernel
theorem dX0_init_17 : decode cX0_init 17 = .ok (.newarray .int, 2) := by decide +kernel
theorem dX0_init_19 : decode cX0_init 19 = .ok (.putfield 16, 3) := by decide +kernel
theorem dX0_init_22 : decode cX0_init 22 = .ok (.aload_n 0, 1) := by decide +kernel
theorem dX0_init_23 : decode cX0_init 23 = .ok (.bipush 24, 2) := by decide +kernel
theorem dX0_init_25 : decode cX0_init 25 = .ok (.newarray .int, 2) := by decide +kernel
theorem dX0_init_27 : decode cX0_init 27 = .ok (.putfield 20, 3) := by decide +kernel
theorem dX0_init_30 : decode cX0_init 30 = .ok (.aload_n 0, 1) := by decide +kernel
theorem dX0_init_31 : decode cX0_init 31 = .ok (.iconst 0, 1) := by decide +kernel
theorem dX0_init_32 : decode cX0_init 32 = .ok (.putfield 23, 3) := by decide +kernel
theorem dX0_init_35 : decode cX0_init 35 = .ok (.return_, 1) := by decide +kernel
theorem dX0_add_0 : decode cX0_add 0 = .ok (.aload_n 0, 1) := by decide +kernel
theorem dX0_add_1 : decode cX0_add 1 = .ok (.getfield 16, 3) := by decide +kernel
theorem dX0_add_4 : decode cX0_add 4 = .ok (.aload_n 0, 1) := by decide +kernel
theorem dX0_add_5 : decode cX0_add 5 = .ok (.getfield 7, 3) := by decide +kernel
theorem dX0_add_8 : decode cX0_add 8 = .ok (.iload_n 1, 1) := by decide +kernel
theorem dX0_add_9 : decode cX0_add 9 = .ok (.iastore, 1) := by decide +kernel
theorem dX0_add_10 : decode cX0_add 10 = .ok (.aload_n 0, 1) := by decide +kernel
theorem dX0_add_11 : decode cX0_add 11 = .ok (.dup, 1) := by decide +kernel
theorem dX0_add_12 : decode cX0_add 12 = .ok (.getfield 7, 3) := by decide +kernel
theorem dX0_add_15 : decode cX0_add 15 = .ok (.dup_x1, 1) := by decide +kernel
theorem dX0_add_16 : decode cX0_add 16 = .ok (.iconst 1, 1) := by decide +kernel
theorem dX0_add_17 : decode cX0_add 17 = .ok (.iadd, 1) := by decide +kernel
theorem dX0_add_18 : decode cX0_add 18 = .ok (.putfield 7, 3) := by decide +kernel
theorem dX0_add_21 : decode cX0_add 21 = .ok (.ireturn, 1) := by decide +kernel
theorem dX0_isUnder_0 : decode cX0_isUnder 0 = .ok (.iload_n 0, 1) := by decide +kernel
theorem dX0_isUnder_1 : decode cX0_isUnder 1 = .ok (.istore_n 2, 1) := by decide +kernel
theorem dX0_isUnder_2 : decode cX0_isUnder 2 = .ok (.iconst 0, 1) := by decide +kernel
theorem dX0_isUnder_3 : decode cX0_isUnder 3 = .ok (.istore_n 3, 1) := by decide +kernel
theorem dX0_isUnder_4 : decode cX0_isUnder 4 = .ok (.iload_n 3, 1) := by decide +kernel
theorem dX0_isUnder_5 : decode cX0_isUnder 5 = .ok (.bipush 8, 2) := by decide +kernel
theorem dX0_isUnder_7 : decode cX0_isUnder 7 = .ok (.if_icmp .ge 26, 3) := by decide +kernel
theorem dX0_isUnder_10 : decode cX0_isUnder 10 = .ok (.iload_n 2, 1) := by decide +kernel
theorem dX0_isUnder_11 : decode cX0_isUnder 11 = .ok (.ifCond .lt 22, 3) := by decide +kernel
theorem dX0_isUnder_14 : decode cX0_isUnder 14 = .ok (.iload_n 2, 1) := by decide +kernel
theorem dX0_isUnder_15 : decode cX0_isUnder 15 = .ok (.iload_n 1, 1) := by decide +kernel
theorem dX0_isUnder_16 : decode cX0_isUnder 16 = .ok (.if_icmp .ne 5, 3) := by decide +kernel
theorem dX0_isUnder_19 : decode cX0_isUnder 19 = .ok (.iconst 1, 1) := by decide +kernel
theorem dX0_isUnder_20 : decode cX0_isUnder 20 = .ok (.ireturn, 1) := by decide +kernel
theorem dX0_isUnder_21 : decode cX0_isUnder 21 = .ok (.getstatic 26, 3) := by decide +kernel
theorem dX0_isUnder_24 : decode cX0_isUnder 24 = .ok (.iload_n 2, 1) := by decide +kernel
theorem dX0_isUnder_25 : decode cX0_isUnder 25 = .ok (.iaload, 1) := by decide +kernel
theorem dX0_isUnder_26 : decode cX0_isUnder 26 = .ok (.istore_n 2, 1) := by decide +kernel
theorem dX0_isUnder_27 : decode cX0_isUnder 27 = .ok (.iinc 3 1, 3) := by decide +kernel
theorem dX0_isUnder_30 : decode cX0_isUnder 30 = .ok (.goto (-26), 3) := by decide +kernel
theorem dX0_isUnder_33 : decode cX0_isUnder 33 = .ok (.iconst 0, 1) := by decide +kernel
theorem dX0_isUnder_34 : decode cX0_isUnder 34 = .ok (.ireturn, 1) := by decide +kernel
theorem dX0_perform_0 : decode cX0_perform 0 = .ok (.aload_n 0, 1) := by decide +kernel
theorem dX0_perform_1 : decode cX0_perform 1 = .ok (.iconst 0, 1) := by decide +kernel
theorem dX0_perform_2 : decode cX0_perform 2 = .ok (.putfield 13, 3) := by decide +kernel
theorem dX0_perform_5 : decode cX0_perform 5 = .ok (.iload_n 1, 1) := by decide +kernel
theorem dX0_perform_6 : decode cX0_perform 6 = .ok (.iconst 0, 1) := by decide +kernel
theorem dX0_perform_7 : decode cX0_perform 7 = .ok (.aload_n 0, 1) := by decide +kernel
theorem dX0_perform_8 : decode cX0_perform 8 = .ok (.getfield 7, 3) := by decide +kernel
theorem dX0_perform_11 : decode cX0_perform 11 = .ok (.iconst 1, 1) := by decide +kernel
theorem dX0_perform_12 : decode cX0_perform 12 = .ok (.isub, 1) := by decide +kernel
theorem dX0_perform_13 : decode cX0_perform 13 = .ok (.invokestatic 29, 3) := by decide +kernel
theorem dX0_perform_16 : decode cX0_perform 16 = .ok (.ifCond .eq 12, 3) := by decide +kernel
theorem dX0_perform_19 : decode cX0_perform 19 = .ok (.iload_n 2, 1) := by decide +kernel
theorem dX0_perform_20 : decode cX0_perform 20 = .ok (.iconst 0, 1) := by decide +kernel
theorem dX0_perform_21 : decode cX0_perform 21 = .ok (.iconst 3, 1) := by decide +kernel
theorem dX0_perform_22 : decode cX0_perform 22 = .ok (.invokestatic 29, 3) := by decide +kernel
theorem dX0_perform_25 : decode cX0_perform 25 = .ok (.ifCond .ne 5, 3) := by decide +kernel
theorem dX0_perform_28 : decode cX0_perform 28 = .ok (.iconst 0, 1) := by decide +kernel
theorem dX0_perform_29 : decode cX0_perform 29 = .ok (.ireturn, 1) := by decide +kernel
theorem dX0_perform_30 : decode cX0_perform 30 = .ok (.aload_n 0, 1) := by decide +kernel
theorem dX0_perform_31 : decode cX0_perform 31 = .ok (.iload_n 1, 1) := by decide +kernel
theorem dX0_perform_32 : decode cX0_perform 32 = .ok (.putfield 23, 3) := by decide +kernel
theorem dX0_perform_35 : decode cX0_perform 35 = .ok (.aload_n 0, 1) := by decide +kernel
theorem dX0_perform_36 : decode cX0_perform 36 = .ok (.aload_n 0, 1) := by decide +kernel
theorem dX0_perform_37 : decode cX0_perform 37 = .ok (.getfield 16, 3) := by decide +kernel
theorem dX0_perform_40 : decode cX0_perform 40 = .ok (.iload_n 1, 1) := by decide +kernel
theorem dX0_perform_41 : decode cX0_perform 41 = .ok (.iaload, 1) := by decide +kernel
theorem dX0_perform_42 : decode cX0_perform 42 = .ok (.iload_n 2, 1) := by decide +kernel
theorem dX0_perform_43 : decode cX0_perform 43 = .ok (.iload_n 3, 1) := by decide +kernel
theorem dX0_perform_44 : decode cX0_perform 44 = .ok (.iconst 0, 1) := by decide +kernel
theorem dX0_perform_45 : decode cX0_perform 45 = .ok (.invokevirtual 35, 3) := by decide +kernel
theorem dX0_perform_48 : decode cX0_perform 48 = .ok (.ireturn, 1) := by decide +kernel
theorem dX0_own_0 : decode cX0_own 0 = .ok (.aload_n 0, 1) := by decide +kernel
theorem dX0_own_1 : decode cX0_own 1 = .ok (.aload_n 0, 1) := by decide +kernel
theorem dX0_own_2 : decode cX0_own 2 = .ok (.getfield 16, 3) := by decide +kernel
theorem dX0_own_5 : decode cX0_own 5 = .ok (.aload_n 0, 1) := by decide +kernel
theorem dX0_own_6 : decode cX0_own 6 = .ok (.getfield 23, 3) := by decide +kernel
theorem dX0_own_9 : decode cX0_own 9 = .ok (.iaload, 1) := by decide +kernel
theorem dX0_own_10 : decode cX0_own 10 = .ok (.iload_n 1, 1) := by decide +kernel
theorem dX0_own_11 : decode cX0_own 11 = .ok (.iload_n 2, 1) := by decide +kernel
theorem dX0_own_12 : decode cX0_own 12 = .ok (.iload_n 3, 1) := by decide +kernel
theorem dX0_own_13 : decode cX0_own 13 = .ok (.invokevirtual 35, 3) := by decide +kernel
theorem dX0_own_16 : decode cX0_own 16 = .ok (.ireturn, 1) := by decide +kernel
theorem dX0_above_0 : decode cX0_above 0 = .ok (.aload_n 0, 1) := by decide +kernel
theorem dX0_above_1 : decode cX0_above 1 = .ok (.getstatic 26, 3) := by decide +kernel
theorem dX0_above_4 : decode cX0_above 4 = .ok (.iload_n 1, 1) := by decide +kernel
theorem dX0_above_5 : decode cX0_above 5 = .ok (.iaload, 1) := by decide +kernel
theorem dX0_above_6 : decode cX0_above 6 = .ok (.iload_n 2, 1) := by decide +kernel
theorem dX0_above_7 : decode cX0_above 7 = .ok (.iload_n 3, 1) := by decide +kernel
theorem dX0_above_8 : decode cX0_above 8 = .ok (.iload 4, 2) := by decide +kernel
theorem dX0_above_10 : decode cX0_above 10 = .ok (.invokevirtual 35, 3) := by decide +kernel
theorem dX0_above_13 : decode cX0_above 13 = .ok (.ireturn, 1) := by decide +kernel
theorem dX0_from_0 : decode cX0_from 0 = .ok (.iload_n 1, 1) := by decide +kernel
theorem dX0_from_1 : decode cX0_from 1 = .ok (.istore 5, 2) := by decide +kernel
theorem dX0_from_3 : decode cX0_from 3 = .ok (.iconst 0, 1) := by decide +kernel
theorem dX0_from_4 : decode cX0_from 4 = .ok (.istore 6, 2) := by decide +kernel
theorem dX0_from_6 : decode cX0_from 6 = .ok (.iload 6, 2) := by decide +kernel
theorem dX0_from_8 : decode cX0_from 8 = .ok (.bipush 8, 2) := by decide +kernel
theorem dX0_from_10 : decode cX0_from 10 = .ok (.if_icmp .ge 62, 3) := by decide +kernel
theorem dX0_from_13 : decode cX0_from 13 = .ok (.iload 5, 2) := by decide +kernel
theorem dX0_from_15 : decode cX0_from 15 = .ok (.ifCond .lt 57, 3) := by decide +kernel
theorem dX0_from_18 : decode cX0_from 18 = .ok (.getstatic 39, 3) := by decide +kernel
theorem dX0_from_21 : decode cX0_from 21 = .ok (.iload 5, 2) := by decide +kernel
theorem dX0_from_23 : decode cX0_from 23 = .ok (.iconst 4, 1) := by decide +kernel
theorem dX0_from_24 : decode cX0_from 24 = .ok (.imul, 1) := by decide +kernel
theorem dX0_from_25 : decode cX0_from 25 = .ok (.iload_n 2, 1) := by decide +kernel
theorem dX0_from_26 : decode cX0_from 26 = .ok (.iadd, 1) := by decide +kernel
theorem dX0_from_27 : decode cX0_from 27 = .ok (.iaload, 1) := by decide +kernel
theorem dX0_from_28 : decode cX0_from 28 = .ok (.istore 7, 2) := by decide +kernel
theorem dX0_from_30 : decode cX0_from 30 = .ok (.iload 7, 2) := by decide +kernel
theorem dX0_from_32 : decode cX0_from 32 = .ok (.ifCond .eq 26, 3) := by decide +kernel
theorem dX0_from_35 : decode cX0_from 35 = .ok (.iload 4, 2) := by decide +kernel
theorem dX0_from_37 : decode cX0_from 37 = .ok (.bipush 40, 2) := by decide +kernel
theorem dX0_from_39 : decode cX0_from 39 = .ok (.if_icmp .ge 17, 3) := by decide +kernel
theorem dX0_from_42 : decode cX0_from 42 = .ok (.aload_n 0, 1) := by decide +kernel
theorem dX0_from_43 : decode cX0_from 43 = .ok (.iload 7, 2) := by decide +kernel
theorem dX0_from_45 : decode cX0_from 45 = .ok (.iload_n 3, 1) := by decide +kernel
theorem dX0_from_46 : decode cX0_from 46 = .ok (.iload 4, 2) := by decide +kernel
theorem dX0_from_48 : decode cX0_from 48 = .ok (.iconst 1, 1) := by decide +kernel
theorem dX0_from_49 : decode cX0_from 49 = .ok (.iadd, 1) := by decide +kernel
theorem dX0_from_50 : decode cX0_from 50 = .ok (.invokevirtual 42, 3) := by decide +kernel
theorem dX0_from_53 : decode cX0_from 53 = .ok (.goto 4, 3) := by decide +kernel
theorem dX0_from_56 : decode cX0_from 56 = .ok (.iconst 0, 1) := by decide +kernel
theorem dX0_from_57 : decode cX0_from 57 = .ok (.ireturn, 1) := by decide +kernel
theorem dX0_from_58 : decode cX0_from 58 = .ok (.getstatic 26, 3) := by decide +kernel
theorem dX0_from_61 : decode cX0_from 61 = .ok (.iload 5, 2) := by decide +kernel
theorem dX0_from_63 : decode cX0_from 63 = .ok (.iaload, 1) := by decide +kernel
theorem dX0_from_64 : decode cX0_from 64 = .ok (.istore 5, 2) := by decide +kernel
theorem dX0_from_66 : decode cX0_from 66 = .ok (.iinc 6 1, 3) := by decide +kernel
theorem dX0_from_69 : decode cX0_from 69 = .ok (.goto (-63), 3) := by decide +kernel
theorem dX0_from_72 : decode cX0_from 72 = .ok (.iconst 0, 1) := by decide +kernel
theorem dX0_from_73 : decode cX0_from 73 = .ok (.ireturn, 1) := by decide +kernel
theorem dX0_run_0 : decode cX0_run 0 = .ok (.aload_n 0, 1) := by decide +kernel
theorem dX0_run_1 : decode cX0_run 1 = .ok (.getfield 13, 3) := by decide +kernel
theorem dX0_run_4 : decode cX0_run 4 = .ok (.bipush 24, 2) := by decide +kernel
theorem dX0_run_6 : decode cX0_run 6 = .ok (.if_icmp .ge 13, 3) := by decide +kernel
theorem dX0_run_9 : decode cX0_run 9 = .ok (.aload_n 0, 1) := by decide +kernel
theorem dX0_run_10 : decode cX0_run 10 = .ok (.getfield 20, 3) := by decide +kernel
theorem dX0_run_13 : decode cX0_run 13 = .ok (.aload_n 0, 1) := by decide +kernel
theorem dX0_run_14 : decode cX0_run 14 = .ok (.getfield 13, 3) := by decide +kernel
theorem dX0_run_17 : decode cX0_run 17 = .ok (.iload_n 1, 1) := by decide +kernel
theorem dX0_run_18 : decode cX0_run 18 = .ok (.iastore, 1) := by decide +kernel
theorem dX0_run_19 : decode cX0_run 19 = .ok (.aload_n 0, 1) := by decide +kernel
theorem dX0_run_20 : decode cX0_run 20 = .ok (.dup, 1) := by decide +kernel
theorem dX0_run_21 : decode cX0_run 21 = .ok (.getfield 13, 3) := by decide +kernel
theorem dX0_run_24 : decode cX0_run 24 = .ok (.iconst 1, 1) := by decide +kernel
theorem dX0_run_25 : decode cX0_run 25 = .ok (.iadd, 1) := by decide +kernel
theorem dX0_run_26 : decode cX0_run 26 = .ok (.putfield 13, 3) := by decide +kernel
theorem dX0_run_29 : decode cX0_run 29 = .ok (.iload_n 1, 1) := by decide +kernel
theorem dX0_run_30 : decode cX0_run 30 = .ok (.lookupswitch 267 #[(1, 114), (2, 121), (10, 137), (11, 147), (20, 154), (30, 165), (40, 175), (41, 186), (50, 197), (60, 214), (70, 225), (80, 237), (81, 255)], 114) := by decide +kernel
theorem dX0_run_144 : decode cX0_run 144 = .ok (.iload_n 2, 1) := by decide +kernel
theorem dX0_run_145 : decode cX0_run 145 = .ok (.aload_n 0, 1) := by decide +kernel
theorem dX0_run_146 : decode cX0_run 146 = .ok (.getfield 23, 3) := by decide +kernel
theorem dX0_run_149 : decode cX0_run 149 = .ok (.iadd, 1) := by decide +kernel
theorem dX0_run_150 : decode cX0_run 150 = .ok (.ireturn, 1) := by decide +kernel
theorem dX0_run_151 : decode cX0_run 151 = .ok (.aload_n 0, 1) := by decide +kernel
theorem dX0_run_152 : decode cX0_run 152 = .ok (.iconst 1, 1) := by decide +kernel
theorem dX0_run_153 : decode cX0_run 153 = .ok (.iload_n 2, 1) := by decide +kernel
theorem dX0_run_154 : decode cX0_run 154 = .ok (.iload_n 3, 1) := by decide +kernel
theorem dX0_run_155 : decode cX0_run 155 = .ok (.invokevirtual 46, 3) := by decide +kernel
theorem dX0_run_158 : decode cX0_run 158 = .ok (.aload_n 0, 1) := by decide +kernel
theorem dX0_run_159 : decode cX0_run 159 = .ok (.iconst 2, 1) := by decide +kernel
theorem dX0_run_160 : decode cX0_run 160 = .ok (.iconst 1, 1) := by decide +kernel
theorem dX0_run_161 : decode cX0_run 161 = .ok (.iload_n 3, 1) := by decide +kernel
theorem dX0_run_162 : decode cX0_run 162 = .ok (.invokevirtual 46, 3) := by decide +kernel
theorem dX0_run_165 : decode cX0_run 165 = .ok (.isub, 1) := by decide +kernel
theorem dX0_run_166 : decode cX0_run 166 = .ok (.ireturn, 1) := by decide +kernel
theorem dX0_run_167 : decode cX0_run 167 = .ok (.aload_n 0, 1) := by decide +kernel
theorem dX0_run_168 : decode cX0_run 168 = .ok (.iconst 0, 1) := by decide +kernel
theorem dX0_run_169 : decode cX0_run 169 = .ok (.iload_n 2, 1) := by decide +kernel
theorem dX0_run_170 : decode cX0_run 170 = .ok (.iload_n 3, 1) := by decide +kernel
theorem dX0_run_171 : decode cX0_run 171 = .ok (.invokevirtual 46, 3) := by decide +kernel
theorem dX0_run_174 : decode cX0_run 174 = .ok (.iconst 2, 1) := by decide +kernel
theorem dX0_run_175 : decode cX0_run 175 = .ok (.imul, 1) := by decide +kernel
theorem dX0_run_176 : decode cX0_run 176 = .ok (.ireturn, 1) := by decide +kernel
theorem dX0_run_177 : decode cX0_run 177 = .ok (.iload_n 2, 1) := by decide +kernel
theorem dX0_run_178 : decode cX0_run 178 = .ok (.aload_n 0, 1) := by decide +kernel
theorem dX0_run_179 : decode cX0_run 179 = .ok (.getfield 23, 3) := by decide +kernel
theorem dX0_run_182 : decode cX0_run 182 = .ok (.ixor, 1) := by decide +kernel
theorem dX0_run_183 : decode cX0_run 183 = .ok (.ireturn, 1) := by decide +kernel
theorem dX0_run_184 : decode cX0_run 184 = .ok (.aload_n 0, 1) := by decide +kernel
theorem dX0_run_185 : decode cX0_run 185 = .ok (.iconst 1, 1) := by decide +kernel
theorem dX0_run_186 : decode cX0_run 186 = .ok (.iconst 0, 1) := by decide +kernel
theorem dX0_run_187 : decode cX0_run 187 = .ok (.iload_n 2, 1) := by decide +kernel
theorem dX0_run_188 : decode cX0_run 188 = .ok (.iload_n 3, 1) := by decide +kernel
theorem dX0_run_189 : decode cX0_run 189 = .ok (.invokevirtual 49, 3) := by decide +kernel
theorem dX0_run_192 : decode cX0_run 192 = .ok (.iconst 3, 1) := by decide +kernel
theorem dX0_run_193 : decode cX0_run 193 = .ok (.iadd, 1) := by decide +kernel
theorem dX0_run_194 : decode cX0_run 194 = .ok (.ireturn, 1) := by decide +kernel
theorem dX0_run_195 : decode cX0_run 195 = .ok (.aload_n 0, 1) := by decide +kernel
theorem dX0_run_196 : decode cX0_run 196 = .ok (.iconst 2, 1) := by decide +kernel
theorem dX0_run_197 : decode cX0_run 197 = .ok (.iconst 1, 1) := by decide +kernel
theorem dX0_run_198 : decode cX0_run 198 = .ok (.iload_n 2, 1) := by decide +kernel
theorem dX0_run_199 : decode cX0_run 199 = .ok (.iload_n 3, 1) := by decide +kernel
theorem dX0_run_200 : decode cX0_run 200 = .ok (.invokevirtual 49, 3) := by decide +kernel
theorem dX0_run_203 : decode cX0_run 203 = .ok (.ineg, 1) := by decide +kernel
theorem dX0_run_204 : decode cX0_run 204 = .ok (.ireturn, 1) := by decide +kernel
theorem dX0_run_205 : decode cX0_run 205 = .ok (.aload_n 0, 1) := by decide +kernel
theorem dX0_run_206 : decode cX0_run 206 = .ok (.iconst 3, 1) := by decide +kernel
theorem dX0_run_207 : decode cX0_run 207 = .ok (.iconst 2, 1) := by decide +kernel
theorem dX0_run_208 : decode cX0_run 208 = .ok (.iload_n 2, 1) := by decide +kernel
theorem dX0_run_209 : decode cX0_run 209 = .ok (.iload_n 3, 1) := by decide +kernel
theorem dX0_run_210 : decode cX0_run 210 = .ok (.invokevirtual 49, 3) := by decide +kernel
theorem dX0_run_213 : decode cX0_run 213 = .ok (.iconst 3, 1) := by decide +kernel
theorem dX0_run_214 : decode cX0_run 214 = .ok (.imul, 1) := by decide +kernel
theorem dX0_run_215 : decode cX0_run 215 = .ok (.ireturn, 1) := by decide +kernel
theorem dX0_run_216 : decode cX0_run 216 = .ok (.aload_n 0, 1) := by decide +kernel
theorem dX0_run_217 : decode cX0_run 217 = .ok (.iconst 3, 1) := by decide +kernel
theorem dX0_run_218 : decode cX0_run 218 = .ok (.iconst 1, 1) := by decide +kernel
theorem dX0_run_219 : decode cX0_run 219 = .ok (.iload_n 2, 1) := by decide +kernel
theorem dX0_run_220 : decode cX0_run 220 = .ok (.iconst 1, 1) := by decide +kernel
theorem dX0_run_221 : decode cX0_run 221 = .ok (.iadd, 1) := by decide +kernel
theorem dX0_run_222 : decode cX0_run 222 = .ok (.iload_n 3, 1) := by decide +kernel
theorem dX0_run_223 : decode cX0_run 223 = .ok (.invokevirtual 49, 3) := by decide +kernel
theorem dX0_run_226 : decode cX0_run 226 = .ok (.ireturn, 1) := by decide +kernel
theorem dX0_run_227 : decode cX0_run 227 = .ok (.aload_n 0, 1) := by decide +kernel
theorem dX0_run_228 : decode cX0_run 228 = .ok (.iconst 4, 1) := by decide +kernel
theorem dX0_run_229 : decode cX0_run 229 = .ok (.iconst 2, 1) := by decide +kernel
theorem dX0_run_230 : decode cX0_run 230 = .ok (.iload_n 2, 1) := by decide +kernel
theorem dX0_run_231 : decode cX0_run 231 = .ok (.iload_n 3, 1) := by decide +kernel
theorem dX0_run_232 : decode cX0_run 232 = .ok (.invokevirtual 49, 3) := by decide +kernel
theorem dX0_run_235 : decode cX0_run 235 = .ok (.aload_n 0, 1) := by decide +kernel
theorem dX0_run_236 : decode cX0_run 236 = .ok (.iconst 0, 1) := by decide +kernel
theorem dX0_run_237 : decode cX0_run 237 = .ok (.iconst 2, 1) := by decide +kernel
theorem dX0_run_238 : decode cX0_run 238 = .ok (.iload_n 3, 1) := by decide +kernel
theorem dX0_run_239 : decode cX0_run 239 = .ok (.invokevirtual 46, 3) := by decide +kernel
theorem dX0_run_242 : decode cX0_run 242 = .ok (.isub, 1) := by decide +kernel
theorem dX0_run_243 : decode cX0_run 243 = .ok (.ireturn, 1) := by decide +kernel
theorem dX0_run_244 : decode cX0_run 244 = .ok (.aload_n 0, 1) := by decide +kernel
theorem dX0_run_245 : decode cX0_run 245 = .ok (.iconst 5, 1) := by decide +kernel
theorem dX0_run_246 : decode cX0_run 246 = .ok (.iconst 3, 1) := by decide +kernel
theorem dX0_run_247 : decode cX0_run 247 = .ok (.iload_n 2, 1) := by decide +kernel
theorem dX0_run_248 : decode cX0_run 248 = .ok (.iload_n 3, 1) := by decide +kernel
theorem dX0_run_249 : decode cX0_run 249 = .ok (.invokevirtual 49, 3) := by decide +kernel
theorem dX0_run_252 : decode cX0_run 252 = .ok (.iconst 5, 1) := by decide +kernel
theorem dX0_run_253 : decode cX0_run 253 = .ok (.ixor, 1) := by decide +kernel
theorem dX0_run_254 : decode cX0_run 254 = .ok (.ireturn, 1) := by decide +kernel
theorem dX0_run_255 : decode cX0_run 255 = .ok (.aload_n 0, 1) := by decide +kernel
theorem dX0_run_256 : decode cX0_run 256 = .ok (.bipush 6, 2) := by decide +kernel
theorem dX0_run_258 : decode cX0_run 258 = .ok (.iconst 0, 1) := by decide +kernel
theorem dX0_run_259 : decode cX0_run 259 = .ok (.iload_n 2, 1) := by decide +kernel
theorem dX0_run_260 : decode cX0_run 260 = .ok (.iload_n 3, 1) := by decide +kernel
theorem dX0_run_261 : decode cX0_run 261 = .ok (.invokevirtual 49, 3) := by decide +kernel
theorem dX0_run_264 : decode cX0_run 264 = .ok (.iconst 2, 1) := by decide +kernel
theorem dX0_run_265 : decode cX0_run 265 = .ok (.imul, 1) := by decide +kernel
theorem dX0_run_266 : decode cX0_run 266 = .ok (.ireturn, 1) := by decide +kernel
theorem dX0_run_267 : decode cX0_run 267 = .ok (.aload_n 0, 1) := by decide +kernel
theorem dX0_run_268 : decode cX0_run 268 = .ok (.bipush 7, 2) := by decide +kernel
theorem dX0_run_270 : decode cX0_run 270 = .ok (.iconst 1, 1) := by decide +kernel
theorem dX0_run_271 : decode cX0_run 271 = .ok (.iload_n 2, 1) := by decide +kernel
theorem dX0_run_272 : decode cX0_run 272 = .ok (.iload_n 3, 1) := by decide +kernel
theorem dX0_run_273 : decode cX0_run 273 = .ok (.invokevirtual 49, 3) := by decide +kernel
theorem dX0_run_276 : decode cX0_run 276 = .ok (.aload_n 0, 1) := by decide +kernel
theorem dX0_run_277 : decode cX0_run 277 = .ok (.iconst 2, 1) := by decide +kernel
theorem dX0_run_278 : decode cX0_run 278 = .ok (.iconst 2, 1) := by decide +kernel
theorem dX0_run_279 : decode cX0_run 279 = .ok (.iload_n 3, 1) := by decide +kernel
theorem dX0_run_280 : decode cX0_run 280 = .ok (.invokevirtual 46, 3) := by decide +kernel
theorem dX0_run_283 : decode cX0_run 283 = .ok (.iadd, 1) := by decide +kernel
theorem dX0_run_284 : decode cX0_run 284 = .ok (.ireturn, 1) := by decide +kernel
theorem dX0_run_285 : decode cX0_run 285 = .ok (.aload_n 0, 1) := by decide +kernel
theorem dX0_run_286 : decode cX0_run 286 = .ok (.bipush 7, 2) := by decide +kernel
theorem dX0_run_288 : decode cX0_run 288 = .ok (.iconst 3, 1) := by decide +kernel
theorem dX0_run_289 : decode cX0_run 289 = .ok (.iload_n 2, 1) := by decide +kernel
theorem dX0_run_290 : decode cX0_run 290 = .ok (.iload_n 3, 1) := by decide +kernel
theorem dX0_run_291 : decode cX0_run 291 = .ok (.invokevirtual 49, 3) := by decide +kernel
theorem dX0_run_294 : decode cX0_run 294 = .ok (.iconst 1, 1) := by decide +kernel
theorem dX0_run_295 : decode cX0_run 295 = .ok (.isub, 1) := by decide +kernel
theorem dX0_run_296 : decode cX0_run 296 = .ok (.ireturn, 1) := by decide +kernel
theorem dX0_run_297 : decode cX0_run 297 = .ok (.iconst 0, 1) := by decide +kernel
theorem dX0_run_298 : decode cX0_run 298 = .ok (.ireturn, 1) := by decide +kernel
theorem dX1_init_0 : decode cX1_init 0 = .ok (.aload_n 0, 1) := by decide +kernel
theorem dX1_init_1 : decode cX1_init 1 = .ok (.invokespecial 3, 3) := by decide +kernel
theorem dX1_init_4 : decode cX1_init 4 = .ok (.aload_n 0, 1) := by decide +kernel
theorem dX1_init_5 : decode cX1_init 5 = .ok (.iconst 0, 1) := by decide +kernel
theorem dX1_init_6 : decode cX1_init 6 = .ok (.putfield 9, 3) := by decide +kernel
theorem dX1_init_9 : decode cX1_init 9 = .ok (.aload_n 0, 1) := by decide +kernel
theorem dX1_init_10 : decode cX1_init 10 = .ok (.iconst 0, 1) := by decide +kernel
theorem dX1_init_11 : decode cX1_init 11 = .ok (.putfield 15, 3) := by decide +kernel
theorem dX1_init_14 : decode cX1_init 14 = .ok (.aload_n 0, 1) := by decide +kernel
theorem dX1_init_15 : decode cX1_init 15 = .ok (.bipush 40, 2) := by decide +kernel
theorem dX1_init_17 : decode cX1_init 17 = .ok (.newarray .int, 2) := by decide +kernel
theorem dX1_init_19 : decode cX1_init 19 = .ok (.putfield 18, 3) := by decide +kernel
theorem dX1_init_22 : decode cX1_init 22 = .ok (.aload_n 0, 1) := by decide +kernel
theorem dX1_init_23 : decode cX1_init 23 = .ok (.bipush 40, 2) := by decide +kernel
theorem dX1_init_25 : decode cX1_init 25 = .ok (.newarray .int, 2) := by decide +kernel
theorem dX1_init_27 : decode cX1_init 27 = .ok (.putfield 22, 3) := by decide +kernel
theorem dX1_init_30 : decode cX1_init 30 = .ok (.aload_n 0, 1) := by decide +kernel
theorem dX1_init_31 : decode cX1_init 31 = .ok (.bipush 40, 2) := by decide +kernel
theorem dX1_init_33 : decode cX1_init 33 = .ok (.newarray .int, 2) := by decide +kernel
theorem dX1_init_35 : decode cX1_init 35 = .ok (.putfield 25, 3) := by decide +kernel
theorem dX1_init_38 : decode cX1_init 38 = .ok (.aload_n 0, 1) := by decide +kernel
theorem dX1_init_39 : decode cX1_init 39 = .ok (.bipush 40, 2) := by decide +kernel
theorem dX1_init_41 : decode cX1_init 41 = .ok (.newarray .int, 2) := by decide +kernel
theorem dX1_init_43 : decode cX1_init 43 = .ok (.putfield 28, 3) := by decide +kernel
theorem dX1_init_46 : decode cX1_init 46 = .ok (.return_, 1) := by decide +kernel
theorem dX1_add_0 : decode cX1_add 0 = .ok (.aload_n 0, 1) := by decide +kernel
theorem dX1_add_1 : decode cX1_add 1 = .ok (.getfield 15, 3) := by decide +kernel
theorem dX1_add_4 : decode cX1_add 4 = .ok (.bipush 40, 2) := by decide +kernel
theorem dX1_add_6 : decode cX1_add 6 = .ok (.if_icmp .lt 7, 3) := by decide +kernel
theorem dX1_add_9 : decode cX1_add 9 = .ok (.aload_n 0, 1) := by decide +kernel
theorem dX1_add_10 : decode cX1_add 10 = .ok (.invokevirtual 31, 3) := by decide +kernel
theorem dX1_add_13 : decode cX1_add 13 = .ok (.aload_n 0, 1) := by decide +kernel
theorem dX1_add_14 : decode cX1_add 14 = .ok (.getfield 18, 3) := by decide +kernel
theorem dX1_add_17 : decode cX1_add 17 = .ok (.aload_n 0, 1) := by decide +kernel
theorem dX1_add_18 : decode cX1_add 18 = .ok (.getfield 15, 3) := by decide +kernel
theorem dX1_add_21 : decode cX1_add 21 = .ok (.iload_n 1, 1) := by decide +kernel
theorem dX1_add_22 : decode cX1_add 22 = .ok (.iastore, 1) := by decide +kernel
theorem dX1_add_23 : decode cX1_add 23 = .ok (.aload_n 0, 1) := by decide +kernel
theorem dX1_add_24 : decode cX1_add 24 = .ok (.getfield 22, 3) := by decide +kernel
theorem dX1_add_27 : decode cX1_add 27 = .ok (.aload_n 0, 1) := by decide +kernel
theorem dX1_add_28 : decode cX1_add 28 = .ok (.getfield 15, 3) := by decide +kernel
theorem dX1_add_31 : decode cX1_add 31 = .ok (.iload_n 2, 1) := by decide +kernel
theorem dX1_add_32 : decode cX1_add 32 = .ok (.iastore, 1) := by decide +kernel
theorem dX1_add_33 : decode cX1_add 33 = .ok (.aload_n 0, 1) := by decide +kernel
theorem dX1_add_34 : decode cX1_add 34 = .ok (.getfield 25, 3) := by decide +kernel
theorem dX1_add_37 : decode cX1_add 37 = .ok (.aload_n 0, 1) := by decide +kernel
theorem dX1_add_38 : decode cX1_add 38 = .ok (.getfield 15, 3) := by decide +kernel
theorem dX1_add_41 : decode cX1_add 41 = .ok (.iload_n 3, 1) := by decide +kernel
theorem dX1_add_42 : decode cX1_add 42 = .ok (.iastore, 1) := by decide +kernel
theorem dX1_add_43 : decode cX1_add 43 = .ok (.aload_n 0, 1) := by decide +kernel
theorem dX1_add_44 : decode cX1_add 44 = .ok (.getfield 28, 3) := by decide +kernel
theorem dX1_add_47 : decode cX1_add 47 = .ok (.aload_n 0, 1) := by decide +kernel
theorem dX1_add_48 : decode cX1_add 48 = .ok (.getfield 15, 3) := by decide +kernel
theorem dX1_add_51 : decode cX1_add 51 = .ok (.iload 4, 2) := by decide +kernel
theorem dX1_add_53 : decode cX1_add 53 = .ok (.iastore, 1) := by decide +kernel
theorem dX1_add_54 : decode cX1_add 54 = .ok (.aload_n 0, 1) := by decide +kernel
theorem dX1_add_55 : decode cX1_add 55 = .ok (.dup, 1) := by decide +kernel
theorem dX1_add_56 : decode cX1_add 56 = .ok (.getfield 15, 3) := by decide +kernel
theorem dX1_add_59 : decode cX1_add 59 = .ok (.iconst 1, 1) := by decide +kernel
theorem dX1_add_60 : decode cX1_add 60 = .ok (.iadd, 1) := by decide +kernel
theorem dX1_add_61 : decode cX1_add 61 = .ok (.putfield 15, 3) := by decide +kernel
theorem dX1_add_64 : decode cX1_add 64 = .ok (.aload_n 0, 1) := by decide +kernel
theorem dX1_add_65 : decode cX1_add 65 = .ok (.aload_n 0, 1) := by decide +kernel
theorem dX1_add_66 : decode cX1_add 66 = .ok (.getfield 15, 3) := by decide +kernel
theorem dX1_add_69 : decode cX1_add 69 = .ok (.putfield 9, 3) := by decide +kernel
theorem dX1_add_72 : decode cX1_add 72 = .ok (.return_, 1) := by decide +kernel
theorem dX1_dropFirst_0 : decode cX1_dropFirst 0 = .ok (.aload_n 0, 1) := by decide +kernel
theorem dX1_dropFirst_1 : decode cX1_dropFirst 1 = .ok (.getfield 18, 3) := by decide +kernel
theorem dX1_dropFirst_4 : decode cX1_dropFirst 4 = .ok (.iconst 1, 1) := by decide +kernel
theorem dX1_dropFirst_5 : decode cX1_dropFirst 5 = .ok (.aload_n 0, 1) := by decide +kernel
theorem dX1_dropFirst_6 : decode cX1_dropFirst 6 = .ok (.getfield 18, 3) := by decide +kernel
theorem dX1_dropFirst_9 : decode cX1_dropFirst 9 = .ok (.iconst 0, 1) := by decide +kernel
theorem dX1_dropFirst_10 : decode cX1_dropFirst 10 = .ok (.bipush 39, 2) := by decide +kernel
theorem dX1_dropFirst_12 : decode cX1_dropFirst 12 = .ok (.invokestatic 34, 3) := by decide +kernel
theorem dX1_dropFirst_15 : decode cX1_dropFirst 15 = .ok (.aload_n 0, 1) := by decide +kernel
theorem dX1_dropFirst_16 : decode cX1_dropFirst 16 = .ok (.getfield 22, 3) := by decide +kernel
theorem dX1_dropFirst_19 : decode cX1_dropFirst 19 = .ok (.iconst 1, 1) := by decide +kernel
theorem dX1_dropFirst_20 : decode cX1_dropFirst 20 = .ok (.aload_n 0, 1) := by decide +kernel
theorem dX1_dropFirst_21 : decode cX1_dropFirst 21 = .ok (.getfield 22, 3) := by decide +kernel
theorem dX1_dropFirst_24 : decode cX1_dropFirst 24 = .ok (.iconst 0, 1) := by decide +kernel
theorem dX1_dropFirst_25 : decode cX1_dropFirst 25 = .ok (.bipush 39, 2) := by decide +kernel
theorem dX1_dropFirst_27 : decode cX1_dropFirst 27 = .ok (.invokestatic 34, 3) := by decide +kernel
theorem dX1_dropFirst_30 : decode cX1_dropFirst 30 = .ok (.aload_n 0, 1) := by decide +kernel
theorem dX1_dropFirst_31 : decode cX1_dropFirst 31 = .ok (.getfield 25, 3) := by decide +kernel
theorem dX1_dropFirst_34 : decode cX1_dropFirst 34 = .ok (.iconst 1, 1) := by decide +kernel
theorem dX1_dropFirst_35 : decode cX1_dropFirst 35 = .ok (.aload_n 0, 1) := by decide +kernel
theorem dX1_dropFirst_36 : decode cX1_dropFirst 36 = .ok (.getfield 25, 3) := by decide +kernel
theorem dX1_dropFirst_39 : decode cX1_dropFirst 39 = .ok (.iconst 0, 1) := by decide +kernel
theorem dX1_dropFirst_40 : decode cX1_dropFirst 40 = .ok (.bipush 39, 2) := by decide +kernel
theorem dX1_dropFirst_42 : decode cX1_dropFirst 42 = .ok (.invokestatic 34, 3) := by decide +kernel
theorem dX1_dropFirst_45 : decode cX1_dropFirst 45 = .ok (.aload_n 0, 1) := by decide +kernel
theorem dX1_dropFirst_46 : decode cX1_dropFirst 46 = .ok (.getfield 28, 3) := by decide +kernel
theorem dX1_dropFirst_49 : decode cX1_dropFirst 49 = .ok (.iconst 1, 1) := by decide +kernel
theorem dX1_dropFirst_50 : decode cX1_dropFirst 50 = .ok (.aload_n 0, 1) := by decide +kernel
theorem dX1_dropFirst_51 : decode cX1_dropFirst 51 = .ok (.getfield 28, 3) := by decide +kernel
theorem dX1_dropFirst_54 : decode cX1_dropFirst 54 = .ok (.iconst 0, 1) := by decide +kernel
theorem dX1_dropFirst_55 : decode cX1_dropFirst 55 = .ok (.bipush 39, 2) := by decide +kernel
theorem dX1_dropFirst_57 : decode cX1_dropFirst 57 = .ok (.invokestatic 34, 3) := by decide +kernel
theorem dX1_dropFirst_60 : decode cX1_dropFirst 60 = .ok (.aload_n 0, 1) := by decide +kernel
theorem dX1_dropFirst_61 : decode cX1_dropFirst 61 = .ok (.bipush 39, 2) := by decide +kernel
theorem dX1_dropFirst_63 : decode cX1_dropFirst 63 = .ok (.putfield 15, 3) := by decide +kernel
theorem dX1_dropFirst_66 : decode cX1_dropFirst 66 = .ok (.return_, 1) := by decide +kernel
theorem dX1_stepBack_0 : decode cX1_stepBack 0 = .ok (.aload_n 0, 1) := by decide +kernel
theorem dX1_stepBack_1 : decode cX1_stepBack 1 = .ok (.getfield 15, 3) := by decide +kernel
theorem dX1_stepBack_4 : decode cX1_stepBack 4 = .ok (.ifCond .gt 5, 3) := by decide +kernel
theorem dX1_stepBack_7 : decode cX1_stepBack 7 = .ok (.iconst 0, 1) := by decide +kernel
theorem dX1_stepBack_8 : decode cX1_stepBack 8 = .ok (.ireturn, 1) := by decide +kernel
theorem dX1_stepBack_9 : decode cX1_stepBack 9 = .ok (.aload_n 0, 1) := by decide +kernel
theorem dX1_stepBack_10 : decode cX1_stepBack 10 = .ok (.dup, 1) := by decide +kernel
theorem dX1_stepBack_11 : decode cX1_stepBack 11 = .ok (.getfield 15, 3) := by decide +kernel
theorem dX1_stepBack_14 : decode cX1_stepBack 14 = .ok (.iconst 1, 1) := by decide +kernel
theorem dX1_stepBack_15 : decode cX1_stepBack 15 = .ok (.isub, 1) := by decide +kernel
theorem dX1_stepBack_16 : decode cX1_stepBack 16 = .ok (.putfield 15, 3) := by decide +kernel
theorem dX1_stepBack_19 : decode cX1_stepBack 19 = .ok (.aload_n 0, 1) := by decide +kernel
theorem dX1_stepBack_20 : decode cX1_stepBack 20 = .ok (.aload_n 1, 1) := by decide +kernel
theorem dX1_stepBack_21 : decode cX1_stepBack 21 = .ok (.aload_n 0, 1) := by decide +kernel
theorem dX1_stepBack_22 : decode cX1_stepBack 22 = .ok (.getfield 15, 3) := by decide +kernel
theorem dX1_stepBack_25 : decode cX1_stepBack 25 = .ok (.aload_n 0, 1) := by decide +kernel
theorem dX1_stepBack_26 : decode cX1_stepBack 26 = .ok (.getfield 25, 3) := by decide +kernel
theorem dX1_stepBack_29 : decode cX1_stepBack 29 = .ok (.aload_n 0, 1) := by decide +kernel
theorem dX1_stepBack_30 : decode cX1_stepBack 30 = .ok (.getfield 15, 3) := by decide +kernel
theorem dX1_stepBack_33 : decode cX1_stepBack 33 = .ok (.iaload, 1) := by decide +kernel
theorem dX1_stepBack_34 : decode cX1_stepBack 34 = .ok (.invokevirtual 40, 3) := by decide +kernel
theorem dX1_stepBack_37 : decode cX1_stepBack 37 = .ok (.iconst 1, 1) := by decide +kernel
theorem dX1_stepBack_38 : decode cX1_stepBack 38 = .ok (.ireturn, 1) := by decide +kernel
theorem dX1_stepOn_0 : decode cX1_stepOn 0 = .ok (.aload_n 0, 1) := by decide +kernel
theorem dX1_stepOn_1 : decode cX1_stepOn 1 = .ok (.getfield 15, 3) := by decide +kernel
theorem dX1_stepOn_4 : decode cX1_stepOn 4 = .ok (.aload_n 0, 1) := by decide +kernel
theorem dX1_stepOn_5 : decode cX1_stepOn 5 = .ok (.getfield 9, 3) := by decide +kernel
theorem dX1_stepOn_8 : decode cX1_stepOn 8 = .ok (.if_icmp .lt 5, 3) := by decide +kernel
theorem dX1_stepOn_11 : decode cX1_stepOn 11 = .ok (.iconst 0, 1) := by decide +kernel
theorem dX1_stepOn_12 : decode cX1_stepOn 12 = .ok (.ireturn, 1) := by decide +kernel
theorem dX1_stepOn_13 : decode cX1_stepOn 13 = .ok (.aload_n 0, 1) := by decide +kernel
theorem dX1_stepOn_14 : decode cX1_stepOn 14 = .ok (.aload_n 1, 1) := by decide +kernel
theorem dX1_stepOn_15 : decode cX1_stepOn 15 = .ok (.aload_n 0, 1) := by decide +kernel
theorem dX1_stepOn_16 : decode cX1_stepOn 16 = .ok (.getfield 15, 3) := by decide +kernel
theorem dX1_stepOn_19 : decode cX1_stepOn 19 = .ok (.aload_n 0, 1) := by decide +kernel
theorem dX1_stepOn_20 : decode cX1_stepOn 20 = .ok (.getfield 28, 3) := by decide +kernel
theorem dX1_stepOn_23 : decode cX1_stepOn 23 = .ok (.aload_n 0, 1) := by decide +kernel
theorem dX1_stepOn_24 : decode cX1_stepOn 24 = .ok (.getfield 15, 3) := by decide +kernel
theorem dX1_stepOn_27 : decode cX1_stepOn 27 = .ok (.iaload, 1) := by decide +kernel
theorem dX1_stepOn_28 : decode cX1_stepOn 28 = .ok (.invokevirtual 40, 3) := by decide +kernel
theorem dX1_stepOn_31 : decode cX1_stepOn 31 = .ok (.aload_n 0, 1) := by decide +kernel
theorem dX1_stepOn_32 : decode cX1_stepOn 32 = .ok (.dup, 1) := by decide +kernel
theorem dX1_stepOn_33 : decode cX1_stepOn 33 = .ok (.getfield 15, 3) := by decide +kernel
theorem dX1_stepOn_36 : decode cX1_stepOn 36 = .ok (.iconst 1, 1) := by decide +kernel
theorem dX1_stepOn_37 : decode cX1_stepOn 37 = .ok (.iadd, 1) := by decide +kernel
theorem dX1_stepOn_38 : decode cX1_stepOn 38 = .ok (.putfield 15, 3) := by decide +kernel
theorem dX1_stepOn_41 : decode cX1_stepOn 41 = .ok (.iconst 1, 1) := by decide +kernel
theorem dX1_stepOn_42 : decode cX1_stepOn 42 = .ok (.ireturn, 1) := by decide +kernel
theorem dX1_lay_0 : decode cX1_lay 0 = .ok (.aload_n 0, 1) := by decide +kernel
theorem dX1_lay_1 : decode cX1_lay 1 = .ok (.getfield 22, 3) := by decide +kernel
theorem dX1_lay_4 : decode cX1_lay 4 = .ok (.iload_n 2, 1) := by decide +kernel
theorem dX1_lay_5 : decode cX1_lay 5 = .ok (.iaload, 1) := by decide +kernel
theorem dX1_lay_6 : decode cX1_lay 6 = .ok (.ifCond .ne 21, 3) := by decide +kernel
theorem dX1_lay_9 : decode cX1_lay 9 = .ok (.aload_n 1, 1) := by decide +kernel
theorem dX1_lay_10 : decode cX1_lay 10 = .ok (.iload_n 3, 1) := by decide +kernel
theorem dX1_lay_11 : decode cX1_lay 11 = .ok (.aload_n 0, 1) := by decide +kernel
theorem dX1_lay_12 : decode cX1_lay 12 = .ok (.getfield 18, 3) := by decide +kernel
theorem dX1_lay_15 : decode cX1_lay 15 = .ok (.iload_n 2, 1) := by decide +kernel
theorem dX1_lay_16 : decode cX1_lay 16 = .ok (.iaload, 1) := by decide +kernel
theorem dX1_lay_17 : decode cX1_lay 17 = .ok (.invokevirtual 44, 3) := by decide +kernel
theorem dX1_lay_20 : decode cX1_lay 20 = .ok (.ifCond .eq 7, 3) := by decide +kernel
theorem dX1_lay_23 : decode cX1_lay 23 = .ok (.iconst 1, 1) := by decide +kernel
theorem dX1_lay_24 : decode cX1_lay 24 = .ok (.goto 4, 3) := by decide +kernel
theorem dX1_lay_27 : decode cX1_lay 27 = .ok (.iconst 0, 1) := by decide +kernel
theorem dX1_lay_28 : decode cX1_lay 28 = .ok (.istore 4, 2) := by decide +kernel
theorem dX1_lay_30 : decode cX1_lay 30 = .ok (.iload 4, 2) := by decide +kernel
theorem dX1_lay_32 : decode cX1_lay 32 = .ok (.ifCond .ne 20, 3) := by decide +kernel
theorem dX1_lay_35 : decode cX1_lay 35 = .ok (.aload_n 1, 1) := by decide +kernel
theorem dX1_lay_36 : decode cX1_lay 36 = .ok (.aload_n 0, 1) := by decide +kernel
theorem dX1_lay_37 : decode cX1_lay 37 = .ok (.getfield 18, 3) := by decide +kernel
theorem dX1_lay_40 : decode cX1_lay 40 = .ok (.iload_n 2, 1) := by decide +kernel
theorem dX1_lay_41 : decode cX1_lay 41 = .ok (.iaload, 1) := by decide +kernel
theorem dX1_lay_42 : decode cX1_lay 42 = .ok (.aload_n 0, 1) := by decide +kernel
theorem dX1_lay_43 : decode cX1_lay 43 = .ok (.getfield 22, 3) := by decide +kernel
theorem dX1_lay_46 : decode cX1_lay 46 = .ok (.iload_n 2, 1) := by decide +kernel
theorem dX1_lay_47 : decode cX1_lay 47 = .ok (.iaload, 1) := by decide +kernel
theorem dX1_lay_48 : decode cX1_lay 48 = .ok (.iload_n 3, 1) := by decide +kernel
theorem dX1_lay_49 : decode cX1_lay 49 = .ok (.invokevirtual 50, 3) := by decide +kernel
theorem dX1_lay_52 : decode cX1_lay 52 = .ok (.return_, 1) := by decide +kernel
theorem dX2_init_0 : decode cX2_init 0 = .ok (.aload_n 0, 1) := by decide +kernel
theorem dX2_init_1 : decode cX2_init 1 = .ok (.invokespecial 3, 3) := by decide +kernel
theorem dX2_init_4 : decode cX2_init 4 = .ok (.aload_n 0, 1) := by decide +kernel
theorem dX2_init_5 : decode cX2_init 5 = .ok (.iconst 0, 1) := by decide +kernel
theorem dX2_init_6 : decode cX2_init 6 = .ok (.putfield 9, 3) := by decide +kernel
theorem dX2_init_9 : decode cX2_init 9 = .ok (.aload_n 0, 1) := by decide +kernel
theorem dX2_init_10 : decode cX2_init 10 = .ok (.iconst 5, 1) := by decide +kernel
theorem dX2_init_11 : decode cX2_init 11 = .ok (.newarray .int, 2) := by decide +kernel
theorem dX2_init_13 : decode cX2_init 13 = .ok (.putfield 15, 3) := by decide +kernel
theorem dX2_init_16 : decode cX2_init 16 = .ok (.aload_n 0, 1) := by decide +kernel
theorem dX2_init_17 : decode cX2_init 17 = .ok (.iconst 5, 1) := by decide +kernel
theorem dX2_init_18 : decode cX2_init 18 = .ok (.newarray .int, 2) := by decide +kernel
theorem dX2_init_20 : decode cX2_init 20 = .ok (.putfield 19, 3) := by decide +kernel
theorem dX2_init_23 : decode cX2_init 23 = .ok (.aload_n 0, 1) := by decide +kernel
theorem dX2_init_24 : decode cX2_init 24 = .ok (.bipush 10, 2) := by decide +kernel
theorem dX2_init_26 : decode cX2_init 26 = .ok (.newarray .int, 2) := by decide +kernel
theorem dX2_init_28 : decode cX2_init 28 = .ok (.putfield 22, 3) := by decide +kernel
theorem dX2_init_31 : decode cX2_init 31 = .ok (.aload_n 0, 1) := by decide +kernel
theorem dX2_init_32 : decode cX2_init 32 = .ok (.bipush 10, 2) := by decide +kernel
theorem dX2_init_34 : decode cX2_init 34 = .ok (.newarray .int, 2) := by decide +kernel
theorem dX2_init_36 : decode cX2_init 36 = .ok (.putfield 25, 3) := by decide +kernel
theorem dX2_init_39 : decode cX2_init 39 = .ok (.aload_n 0, 1) := by decide +kernel
theorem dX2_init_40 : decode cX2_init 40 = .ok (.iconst 0, 1) := by decide +kernel
theorem dX2_init_41 : decode cX2_init 41 = .ok (.putfield 28, 3) := by decide +kernel
theorem dX2_init_44 : decode cX2_init 44 = .ok (.aload_n 0, 1) := by decide +kernel
theorem dX2_init_45 : decode cX2_init 45 = .ok (.iconst 0, 1) := by decide +kernel
theorem dX2_init_46 : decode cX2_init 46 = .ok (.putfield 32, 3) := by decide +kernel
theorem dX2_init_49 : decode cX2_init 49 = .ok (.aload_n 0, 1) := by decide +kernel
theorem dX2_init_50 : decode cX2_init 50 = .ok (.iconst 0, 1) := by decide +kernel
theorem dX2_init_51 : decode cX2_init 51 = .ok (.putfield 35, 3) := by decide +kernel
theorem dX2_init_54 : decode cX2_init 54 = .ok (.return_, 1) := by decide +kernel
theorem dX2_add_0 : decode cX2_add 0 = .ok (.aload_n 0, 1) := by decide +kernel
theorem dX2_add_1 : decode cX2_add 1 = .ok (.getfield 15, 3) := by decide +kernel
theorem dX2_add_4 : decode cX2_add 4 = .ok (.iload_n 1, 1) := by decide +kernel
theorem dX2_add_5 : decode cX2_add 5 = .ok (.dup2, 1) := by decide +kernel
theorem dX2_add_6 : decode cX2_add 6 = .ok (.iaload, 1) := by decide +kernel
theorem dX2_add_7 : decode cX2_add 7 = .ok (.iload_n 2, 1) := by decide +kernel
theorem dX2_add_8 : decode cX2_add 8 = .ok (.iadd, 1) := by decide +kernel
theorem dX2_add_9 : decode cX2_add 9 = .ok (.iastore, 1) := by decide +kernel
theorem dX2_add_10 : decode cX2_add 10 = .ok (.return_, 1) := by decide +kernel
theorem dX2_keepImage_0 : decode cX2_keepImage 0 = .ok (.aload_n 0, 1) := by decide +kernel
theorem dX2_keepImage_1 : decode cX2_keepImage 1 = .ok (.iconst 1, 1) := by decide +kernel
theorem dX2_keepImage_2 : decode cX2_keepImage 2 = .ok (.putfield 9, 3) := by decide +kernel
theorem dX2_keepImage_5 : decode cX2_keepImage 5 = .ok (.aload_n 0, 1) := by decide +kernel
theorem dX2_keepImage_6 : decode cX2_keepImage 6 = .ok (.aload_n 1, 1) := by decide +kernel
theorem dX2_keepImage_7 : decode cX2_keepImage 7 = .ok (.getfield 38, 3) := by decide +kernel
theorem dX2_keepImage_10 : decode cX2_keepImage 10 = .ok (.putfield 28, 3) := by decide +kernel
theorem dX2_keepImage_13 : decode cX2_keepImage 13 = .ok (.aload_n 0, 1) := by decide +kernel
theorem dX2_keepImage_14 : decode cX2_keepImage 14 = .ok (.aload_n 1, 1) := by decide +kernel
theorem dX2_keepImage_15 : decode cX2_keepImage 15 = .ok (.getfield 43, 3) := by decide +kernel
theorem dX2_keepImage_18 : decode cX2_keepImage 18 = .ok (.putfield 32, 3) := by decide +kernel
theorem dX2_keepImage_21 : decode cX2_keepImage 21 = .ok (.aload_n 0, 1) := by decide +kernel
theorem dX2_keepImage_22 : decode cX2_keepImage 22 = .ok (.aload_n 1, 1) := by decide +kernel
theorem dX2_keepImage_23 : decode cX2_keepImage 23 = .ok (.getfield 46, 3) := by decide +kernel
theorem dX2_keepImage_26 : decode cX2_keepImage 26 = .ok (.putfield 35, 3) := by decide +kernel
theorem dX2_keepImage_29 : decode cX2_keepImage 29 = .ok (.aload_n 1, 1) := by decide +kernel
theorem dX2_keepImage_30 : decode cX2_keepImage 30 = .ok (.getfield 49, 3) := by decide +kernel
theorem dX2_keepImage_33 : decode cX2_keepImage 33 = .ok (.iconst 0, 1) := by decide +kernel
theorem dX2_keepImage_34 : decode cX2_keepImage 34 = .ok (.aload_n 0, 1) := by decide +kernel
theorem dX2_keepImage_35 : decode cX2_keepImage 35 = .ok (.getfield 22, 3) := by decide +kernel
theorem dX2_keepImage_38 : decode cX2_keepImage 38 = .ok (.iconst 0, 1) := by decide +kernel
theorem dX2_keepImage_39 : decode cX2_keepImage 39 = .ok (.aload_n 0, 1) := by decide +kernel
theorem dX2_keepImage_40 : decode cX2_keepImage 40 = .ok (.getfield 28, 3) := by decide +kernel
theorem dX2_keepImage_43 : decode cX2_keepImage 43 = .ok (.invokestatic 52, 3) := by decide +kernel
theorem dX2_keepImage_46 : decode cX2_keepImage 46 = .ok (.aload_n 1, 1) := by decide +kernel
theorem dX2_keepImage_47 : decode cX2_keepImage 47 = .ok (.getfield 58, 3) := by decide +kernel
theorem dX2_keepImage_50 : decode cX2_keepImage 50 = .ok (.iconst 0, 1) := by decide +kernel
theorem dX2_keepImage_51 : decode cX2_keepImage 51 = .ok (.aload_n 0, 1) := by decide +kernel
theorem dX2_keepImage_52 : decode cX2_keepImage 52 = .ok (.getfield 25, 3) := by decide +kernel
theorem dX2_keepImage_55 : decode cX2_keepImage 55 = .ok (.iconst 0, 1) := by decide +kernel
theorem dX2_keepImage_56 : decode cX2_keepImage 56 = .ok (.aload_n 0, 1) := by decide +kernel
theorem dX2_keepImage_57 : decode cX2_keepImage 57 = .ok (.getfield 28, 3) := by decide +kernel
theorem dX2_keepImage_60 : decode cX2_keepImage 60 = .ok (.invokestatic 52, 3) := by decide +kernel
theorem dX2_keepImage_63 : decode cX2_keepImage 63 = .ok (.aload_n 0, 1) := by decide +kernel
theorem dX2_keepImage_64 : decode cX2_keepImage 64 = .ok (.getfield 15, 3) := by decide +kernel
theorem dX2_keepImage_67 : decode cX2_keepImage 67 = .ok (.iconst 0, 1) := by decide +kernel
theorem dX2_keepImage_68 : decode cX2_keepImage 68 = .ok (.aload_n 0, 1) := by decide +kernel
theorem dX2_keepImage_69 : decode cX2_keepImage 69 = .ok (.getfield 19, 3) := by decide +kernel
theorem dX2_keepImage_72 : decode cX2_keepImage 72 = .ok (.iconst 0, 1) := by decide +kernel
theorem dX2_keepImage_73 : decode cX2_keepImage 73 = .ok (.iconst 5, 1) := by decide +kernel
theorem dX2_keepImage_74 : decode cX2_keepImage 74 = .ok (.invokestatic 52, 3) := by decide +kernel
theorem dX2_keepImage_77 : decode cX2_keepImage 77 = .ok (.return_, 1) := by decide +kernel
theorem dX2_layBack_0 : decode cX2_layBack 0 = .ok (.aload_n 1, 1) := by decide +kernel
theorem dX2_layBack_1 : decode cX2_layBack 1 = .ok (.aload_n 0, 1) := by decide +kernel
theorem dX2_layBack_2 : decode cX2_layBack 2 = .ok (.getfield 32, 3) := by decide +kernel
theorem dX2_layBack_5 : decode cX2_layBack 5 = .ok (.putfield 43, 3) := by decide +kernel
theorem dX2_layBack_8 : decode cX2_layBack 8 = .ok (.aload_n 1, 1) := by decide +kernel
theorem dX2_layBack_9 : decode cX2_layBack 9 = .ok (.aload_n 0, 1) := by decide +kernel
theorem dX2_layBack_10 : decode cX2_layBack 10 = .ok (.getfield 35, 3) := by decide +kernel
theorem dX2_layBack_13 : decode cX2_layBack 13 = .ok (.putfield 46, 3) := by decide +kernel
theorem dX2_layBack_16 : decode cX2_layBack 16 = .ok (.aload_n 0, 1) := by decide +kernel
theorem dX2_layBack_17 : decode cX2_layBack 17 = .ok (.getfield 22, 3) := by decide +kernel
theorem dX2_layBack_20 : decode cX2_layBack 20 = .ok (.iconst 0, 1) := by decide +kernel
theorem dX2_layBack_21 : decode cX2_layBack 21 = .ok (.aload_n 1, 1) := by decide +kernel
theorem dX2_layBack_22 : decode cX2_layBack 22 = .ok (.getfield 49, 3) := by decide +kernel
theorem dX2_layBack_25 : decode cX2_layBack 25 = .ok (.iconst 0, 1) := by decide +kernel
theorem dX2_layBack_26 : decode cX2_layBack 26 = .ok (.aload_n 0, 1) := by decide +kernel
theorem dX2_layBack_27 : decode cX2_layBack 27 = .ok (.getfield 28, 3) := by decide +kernel
theorem dX2_layBack_30 : decode cX2_layBack 30 = .ok (.invokestatic 52, 3) := by decide +kernel
theorem dX2_layBack_33 : decode cX2_layBack 33 = .ok (.aload_n 0, 1) := by decide +kernel
theorem dX2_layBack_34 : decode cX2_layBack 34 = .ok (.getfield 25, 3) := by decide +kernel
theorem dX2_layBack_37 : decode cX2_layBack 37 = .ok (.iconst 0, 1) := by decide +kernel
theorem dX2_layBack_38 : decode cX2_layBack 38 = .ok (.aload_n 1, 1) := by decide +kernel
theorem dX2_layBack_39 : decode cX2_layBack 39 = .ok (.getfield 58, 3) := by decide +kernel
theorem dX2_layBack_42 : decode cX2_layBack 42 = .ok (.iconst 0, 1) := by decide +kernel
theorem dX2_layBack_43 : decode cX2_layBack 43 = .ok (.aload_n 0, 1) := by decide +kernel
theorem dX2_layBack_44 : decode cX2_layBack 44 = .ok (.getfield 28, 3) := by decide +kernel
theorem dX2_layBack_47 : decode cX2_layBack 47 = .ok (.invokestatic 52, 3) := by decide +kernel
theorem dX2_layBack_50 : decode cX2_layBack 50 = .ok (.aload_n 0, 1) := by decide +kernel
theorem dX2_layBack_51 : decode cX2_layBack 51 = .ok (.getfield 19, 3) := by decide +kernel
theorem dX2_layBack_54 : decode cX2_layBack 54 = .ok (.iconst 0, 1) := by decide +kernel
theorem dX2_layBack_55 : decode cX2_layBack 55 = .ok (.aload_n 0, 1) := by decide +kernel
theorem dX2_layBack_56 : decode cX2_layBack 56 = .ok (.getfield 15, 3) := by decide +kernel
theorem dX2_layBack_59 : decode cX2_layBack 59 = .ok (.iconst 0, 1) := by decide +kernel
theorem dX2_layBack_60 : decode cX2_layBack 60 = .ok (.iconst 5, 1) := by decide +kernel
theorem dX2_layBack_61 : decode cX2_layBack 61 = .ok (.invokestatic 52, 3) := by decide +kernel
theorem dX2_layBack_64 : decode cX2_layBack 64 = .ok (.return_, 1) := by decide +kernel
theorem dX3_init_0 : decode cX3_init 0 = .ok (.aload_n 0, 1) := by decide +kernel
theorem dX3_init_1 : decode cX3_init 1 = .ok (.invokespecial 1, 3) := by decide +kernel
theorem dX3_init_4 : decode cX3_init 4 = .ok (.aload_n 0, 1) := by decide +kernel
theorem dX3_init_5 : decode cX3_init 5 = .ok (.iconst 0, 1) := by decide +kernel
theorem dX3_init_6 : decode cX3_init 6 = .ok (.putfield 7, 3) := by decide +kernel
theorem dX3_init_9 : decode cX3_init 9 = .ok (.aload_n 0, 1) := by decide +kernel
theorem dX3_init_10 : decode cX3_init 10 = .ok (.iconst 0, 1) := by decide +kernel
theorem dX3_init_11 : decode cX3_init 11 = .ok (.putfield 13, 3) := by decide +kernel
theorem dX3_init_14 : decode cX3_init 14 = .ok (.aload_n 0, 1) := by decide +kernel
theorem dX3_init_15 : decode cX3_init 15 = .ok (.sipush 128, 3) := by decide +kernel
theorem dX3_init_18 : decode cX3_init 18 = .ok (.newarray .int, 2) := by decide +kernel
theorem dX3_init_20 : decode cX3_init 20 = .ok (.putfield 17, 3) := by decide +kernel
theorem dX3_init_23 : decode cX3_init 23 = .ok (.aload_n 0, 1) := by decide +kernel
theorem dX3_init_24 : decode cX3_init 24 = .ok (.sipush 128, 3) := by decide +kernel
theorem dX3_init_27 : decode cX3_init 27 = .ok (.newarray .int, 2) := by decide +kernel
theorem dX3_init_29 : decode cX3_init 29 = .ok (.putfield 21, 3) := by decide +kernel
theorem dX3_init_32 : decode cX3_init 32 = .ok (.aload_n 0, 1) := by decide +kernel
theorem dX3_init_33 : decode cX3_init 33 = .ok (.sipush 128, 3) := by decide +kernel
theorem dX3_init_36 : decode cX3_init 36 = .ok (.newarray .int, 2) := by decide +kernel
theorem dX3_init_38 : decode cX3_init 38 = .ok (.putfield 24, 3) := by decide +kernel
theorem dX3_init_41 : decode cX3_init 41 = .ok (.aload_n 0, 1) := by decide +kernel
theorem dX3_init_42 : decode cX3_init 42 = .ok (.bipush 6, 2) := by decide +kernel
theorem dX3_init_44 : decode cX3_init 44 = .ok (.newarray .int, 2) := by decide +kernel
theorem dX3_init_46 : decode cX3_init 46 = .ok (.putfield 27, 3) := by decide +kernel
theorem dX3_init_49 : decode cX3_init 49 = .ok (.return_, 1) := by decide +kernel
theorem dX3_become_0 : decode cX3_become 0 = .ok (.aload_n 0, 1) := by decide +kernel
theorem dX3_become_1 : decode cX3_become 1 = .ok (.iconst 1, 1) := by decide +kernel
theorem dX3_become_2 : decode cX3_become 2 = .ok (.putfield 7, 3) := by decide +kernel
theorem dX3_become_5 : decode cX3_become 5 = .ok (.aload_n 0, 1) := by decide +kernel
theorem dX3_become_6 : decode cX3_become 6 = .ok (.aload_n 1, 1) := by decide +kernel
theorem dX3_become_7 : decode cX3_become 7 = .ok (.getfield 13, 3) := by decide +kernel
theorem dX3_become_10 : decode cX3_become 10 = .ok (.putfield 13, 3) := by decide +kernel
theorem dX3_become_13 : decode cX3_become 13 = .ok (.aload_n 1, 1) := by decide +kernel
theorem dX3_become_14 : decode cX3_become 14 = .ok (.getfield 17, 3) := by decide +kernel
theorem dX3_become_17 : decode cX3_become 17 = .ok (.iconst 0, 1) := by decide +kernel
theorem dX3_become_18 : decode cX3_become 18 = .ok (.aload_n 0, 1) := by decide +kernel
theorem dX3_become_19 : decode cX3_become 19 = .ok (.getfield 17, 3) := by decide +kernel
theorem dX3_become_22 : decode cX3_become 22 = .ok (.iconst 0, 1) := by decide +kernel
theorem dX3_become_23 : decode cX3_become 23 = .ok (.sipush 128, 3) := by decide +kernel
theorem dX3_become_26 : decode cX3_become 26 = .ok (.invokestatic 30, 3) := by decide +kernel
theorem dX3_become_29 : decode cX3_become 29 = .ok (.aload_n 1, 1) := by decide +kernel
theorem dX3_become_30 : decode cX3_become 30 = .ok (.getfield 21, 3) := by decide +kernel
theorem dX3_become_33 : decode cX3_become 33 = .ok (.iconst 0, 1) := by decide +kernel
theorem dX3_become_34 : decode cX3_become 34 = .ok (.aload_n 0, 1) := by decide +kernel
theorem dX3_become_35 : decode cX3_become 35 = .ok (.getfield 21, 3) := by decide +kernel
theorem dX3_become_38 : decode cX3_become 38 = .ok (.iconst 0, 1) := by decide +kernel
theorem dX3_become_39 : decode cX3_become 39 = .ok (.sipush 128, 3) := by decide +kernel
theorem dX3_become_42 : decode cX3_become 42 = .ok (.invokestatic 30, 3) := by decide +kernel
theorem dX3_become_45 : decode cX3_become 45 = .ok (.return_, 1) := by decide +kernel
theorem dX3_add_0 : decode cX3_add 0 = .ok (.aload_n 0, 1) := by decide +kernel
theorem dX3_add_1 : decode cX3_add 1 = .ok (.getfield 13, 3) := by decide +kernel
theorem dX3_add_4 : decode cX3_add 4 = .ok (.sipush 128, 3) := by decide +kernel
theorem dX3_add_7 : decode cX3_add 7 = .ok (.if_icmp .ge 33, 3) := by decide +kernel
theorem dX3_add_10 : decode cX3_add 10 = .ok (.aload_n 0, 1) := by decide +kernel
theorem dX3_add_11 : decode cX3_add 11 = .ok (.getfield 17, 3) := by decide +kernel
theorem dX3_add_14 : decode cX3_add 14 = .ok (.aload_n 0, 1) := by decide +kernel
theorem dX3_add_15 : decode cX3_add 15 = .ok (.getfield 13, 3) := by decide +kernel
theorem dX3_add_18 : decode cX3_add 18 = .ok (.iload_n 1, 1) := by decide +kernel
theorem dX3_add_19 : decode cX3_add 19 = .ok (.iastore, 1) := by decide +kernel
theorem dX3_add_20 : decode cX3_add 20 = .ok (.aload_n 0, 1) := by decide +kernel
theorem dX3_add_21 : decode cX3_add 21 = .ok (.getfield 21, 3) := by decide +kernel
theorem dX3_add_24 : decode cX3_add 24 = .ok (.aload_n 0, 1) := by decide +kernel
theorem dX3_add_25 : decode cX3_add 25 = .ok (.getfield 13, 3) := by decide +kernel
theorem dX3_add_28 : decode cX3_add 28 = .ok (.iload_n 2, 1) := by decide +kernel
theorem dX3_add_29 : decode cX3_add 29 = .ok (.iastore, 1) := by decide +kernel
theorem dX3_add_30 : decode cX3_add 30 = .ok (.aload_n 0, 1) := by decide +kernel
theorem dX3_add_31 : decode cX3_add 31 = .ok (.dup, 1) := by decide +kernel
theorem dX3_add_32 : decode cX3_add 32 = .ok (.getfield 13, 3) := by decide +kernel
theorem dX3_add_35 : decode cX3_add 35 = .ok (.iconst 1, 1) := by decide +kernel
theorem dX3_add_36 : decode cX3_add 36 = .ok (.iadd, 1) := by decide +kernel
theorem dX3_add_37 : decode cX3_add 37 = .ok (.putfield 13, 3) := by decide +kernel
theorem dX3_add_40 : decode cX3_add 40 = .ok (.return_, 1) := by decide +kernel
theorem dX3_growth_0 : decode cX3_growth 0 = .ok (.aload_n 0, 1) := by decide +kernel
theorem dX3_growth_1 : decode cX3_growth 1 = .ok (.getfield 7, 3) := by decide +kernel
theorem dX3_growth_4 : decode cX3_growth 4 = .ok (.ifCond .ne 30, 3) := by decide +kernel
theorem dX3_growth_7 : decode cX3_growth 7 = .ok (.iload_n 1, 1) := by decide +kernel
theorem dX3_growth_8 : decode cX3_growth 8 = .ok (.iconst 3, 1) := by decide +kernel
theorem dX3_growth_9 : decode cX3_growth 9 = .ok (.iload 4, 2) := by decide +kernel
theorem dX3_growth_11 : decode cX3_growth 11 = .ok (.imul, 1) := by decide +kernel
theorem dX3_growth_12 : decode cX3_growth 12 = .ok (.iadd, 1) := by decide +kernel
theorem dX3_growth_13 : decode cX3_growth 13 = .ok (.iload_n 2, 1) := by decide +kernel
theorem dX3_growth_14 : decode cX3_growth 14 = .ok (.bipush 20, 2) := by decide +kernel
theorem dX3_growth_16 : decode cX3_growth 16 = .ok (.idiv, 1) := by decide +kernel
theorem dX3_growth_17 : decode cX3_growth 17 = .ok (.isub, 1) := by decide +kernel
theorem dX3_growth_18 : decode cX3_growth 18 = .ok (.bipush 8, 2) := by decide +kernel
theorem dX3_growth_20 : decode cX3_growth 20 = .ok (.iload 5, 2) := by decide +kernel
theorem dX3_growth_22 : decode cX3_growth 22 = .ok (.imul, 1) := by decide +kernel
theorem dX3_growth_23 : decode cX3_growth 23 = .ok (.isub, 1) := by decide +kernel
theorem dX3_growth_24 : decode cX3_growth 24 = .ok (.iconst 2, 1) := by decide +kernel
theorem dX3_growth_25 : decode cX3_growth 25 = .ok (.isub, 1) := by decide +kernel
theorem dX3_growth_26 : decode cX3_growth 26 = .ok (.bipush (-20), 2) := by decide +kernel
theorem dX3_growth_28 : decode cX3_growth 28 = .ok (.bipush 20, 2) := by decide +kernel
theorem dX3_growth_30 : decode cX3_growth 30 = .ok (.invokestatic 36, 3) := by decide +kernel
theorem dX3_growth_33 : decode cX3_growth 33 = .ok (.ireturn, 1) := by decide +kernel
theorem dX3_growth_34 : decode cX3_growth 34 = .ok (.aload_n 0, 1) := by decide +kernel
theorem dX3_growth_35 : decode cX3_growth 35 = .ok (.getfield 27, 3) := by decide +kernel
theorem dX3_growth_38 : decode cX3_growth 38 = .ok (.iconst 0, 1) := by decide +kernel
theorem dX3_growth_39 : decode cX3_growth 39 = .ok (.iload_n 1, 1) := by decide +kernel
theorem dX3_growth_40 : decode cX3_growth 40 = .ok (.iastore, 1) := by decide +kernel
theorem dX3_growth_41 : decode cX3_growth 41 = .ok (.aload_n 0, 1) := by decide +kernel
theorem dX3_growth_42 : decode cX3_growth 42 = .ok (.getfield 27, 3) := by decide +kernel
theorem dX3_growth_45 : decode cX3_growth 45 = .ok (.iconst 1, 1) := by decide +kernel
theorem dX3_growth_46 : decode cX3_growth 46 = .ok (.iload_n 2, 1) := by decide +kernel
theorem dX3_growth_47 : decode cX3_growth 47 = .ok (.iastore, 1) := by decide +kernel
theorem dX3_growth_48 : decode cX3_growth 48 = .ok (.aload_n 0, 1) := by decide +kernel
theorem dX3_growth_49 : decode cX3_growth 49 = .ok (.getfield 27, 3) := by decide +kernel
theorem dX3_growth_52 : decode cX3_growth 52 = .ok (.iconst 2, 1) := by decide +kernel
theorem dX3_growth_53 : decode cX3_growth 53 = .ok (.iload_n 3, 1) := by decide +kernel
theorem dX3_growth_54 : decode cX3_growth 54 = .ok (.iastore, 1) := by decide +kernel
theorem dX3_growth_55 : decode cX3_growth 55 = .ok (.aload_n 0, 1) := by decide +kernel
theorem dX3_growth_56 : decode cX3_growth 56 = .ok (.getfield 27, 3) := by decide +kernel
theorem dX3_growth_59 : decode cX3_growth 59 = .ok (.iconst 3, 1) := by decide +kernel
theorem dX3_growth_60 : decode cX3_growth 60 = .ok (.iload 4, 2) := by decide +kernel
theorem dX3_growth_62 : decode cX3_growth 62 = .ok (.iastore, 1) := by decide +kernel
theorem dX3_growth_63 : decode cX3_growth 63 = .ok (.aload_n 0, 1) := by decide +kernel
theorem dX3_growth_64 : decode cX3_growth 64 = .ok (.getfield 27, 3) := by decide +kernel
theorem dX3_growth_67 : decode cX3_growth 67 = .ok (.iconst 4, 1) := by decide +kernel
theorem dX3_growth_68 : decode cX3_growth 68 = .ok (.iload 5, 2) := by decide +kernel
theorem dX3_growth_70 : decode cX3_growth 70 = .ok (.iastore, 1) := by decide +kernel
theorem dX3_growth_71 : decode cX3_growth 71 = .ok (.aload_n 0, 1) := by decide +kernel
theorem dX3_growth_72 : decode cX3_growth 72 = .ok (.getfield 27, 3) := by decide +kernel
theorem dX3_growth_75 : decode cX3_growth 75 = .ok (.iconst 5, 1) := by decide +kernel
theorem dX3_growth_76 : decode cX3_growth 76 = .ok (.iload 6, 2) := by decide +kernel
theorem dX3_growth_78 : decode cX3_growth 78 = .ok (.iastore, 1) := by decide +kernel
theorem dX3_growth_79 : decode cX3_growth 79 = .ok (.aload_n 0, 1) := by decide +kernel
theorem dX3_growth_80 : decode cX3_growth 80 = .ok (.invokevirtual 42, 3) := by decide +kernel
theorem dX3_growth_83 : decode cX3_growth 83 = .ok (.bipush (-20), 2) := by decide +kernel
theorem dX3_growth_85 : decode cX3_growth 85 = .ok (.bipush 20, 2) := by decide +kernel
theorem dX3_growth_87 : decode cX3_growth 87 = .ok (.invokestatic 36, 3) := by decide +kernel
theorem dX3_growth_90 : decode cX3_growth 90 = .ok (.ireturn, 1) := by decide +kernel
theorem dX3_workedOut_0 : decode cX3_workedOut 0 = .ok (.iconst 0, 1) := by decide +kernel
theorem dX3_workedOut_1 : decode cX3_workedOut 1 = .ok (.istore_n 1, 1) := by decide +kernel
theorem dX3_workedOut_2 : decode cX3_workedOut 2 = .ok (.iconst 0, 1) := by decide +kernel
theorem dX3_workedOut_3 : decode cX3_workedOut 3 = .ok (.istore_n 2, 1) := by decide +kernel
theorem dX3_workedOut_4 : decode cX3_workedOut 4 = .ok (.iload_n 2, 1) := by decide +kernel
theorem dX3_workedOut_5 : decode cX3_workedOut 5 = .ok (.aload_n 0, 1) := by decide +kernel
theorem dX3_workedOut_6 : decode cX3_workedOut 6 = .ok (.getfield 13, 3) := by decide +kernel
theorem dX3_workedOut_9 : decode cX3_workedOut 9 = .ok (.if_icmp .ge 245, 3) := by decide +kernel
theorem dX3_workedOut_12 : decode cX3_workedOut 12 = .ok (.iload_n 1, 1) := by decide +kernel
theorem dX3_workedOut_13 : decode cX3_workedOut 13 = .ok (.sipush 128, 3) := by decide +kernel
theorem dX3_workedOut_16 : decode cX3_workedOut 16 = .ok (.if_icmp .ge 238, 3) := by decide +kernel
theorem dX3_workedOut_19 : decode cX3_workedOut 19 = .ok (.aload_n 0, 1) := by decide +kernel
theorem dX3_workedOut_20 : decode cX3_workedOut 20 = .ok (.getfield 17, 3) := by decide +kernel
theorem dX3_workedOut_23 : decode cX3_workedOut 23 = .ok (.iload_n 2, 1) := by decide +kernel
theorem dX3_workedOut_24 : decode cX3_workedOut 24 = .ok (.iaload, 1) := by decide +kernel
theorem dX3_workedOut_25 : decode cX3_workedOut 25 = .ok (.istore_n 3, 1) := by decide +kernel
theorem dX3_workedOut_26 : decode cX3_workedOut 26 = .ok (.iload_n 3, 1) := by decide +kernel
theorem dX3_workedOut_27 : decode cX3_workedOut 27 = .ok (.bipush 48, 2) := by decide +kernel
theorem dX3_workedOut_29 : decode cX3_workedOut 29 = .ok (.if_icmp .ne 21, 3) := by decide +kernel
theorem dX3_workedOut_32 : decode cX3_workedOut 32 = .ok (.aload_n 0, 1) := by decide +kernel
theorem dX3_workedOut_33 : decode cX3_workedOut 33 = .ok (.getfield 24, 3) := by decide +kernel
theorem dX3_workedOut_36 : decode cX3_workedOut 36 = .ok (.iload_n 1, 1) := by decide +kernel
theorem dX3_workedOut_37 : decode cX3_workedOut 37 = .ok (.iinc 1 1, 3) := by decide +kernel
theorem dX3_workedOut_40 : decode cX3_workedOut 40 = .ok (.aload_n 0, 1) := by decide +kernel
theorem dX3_workedOut_41 : decode cX3_workedOut 41 = .ok (.getfield 21, 3) := by decide +kernel
theorem dX3_workedOut_44 : decode cX3_workedOut 44 = .ok (.iload_n 2, 1) := by decide +kernel
theorem dX3_workedOut_45 : decode cX3_workedOut 45 = .ok (.iaload, 1) := by decide +kernel
theorem dX3_workedOut_46 : decode cX3_workedOut 46 = .ok (.iastore, 1) := by decide +kernel
theorem dX3_workedOut_47 : decode cX3_workedOut 47 = .ok (.goto 201, 3) := by decide +kernel
theorem dX3_workedOut_50 : decode cX3_workedOut 50 = .ok (.iload_n 3, 1) := by decide +kernel
theorem dX3_workedOut_51 : decode cX3_workedOut 51 = .ok (.bipush 110, 2) := by decide +kernel
theorem dX3_workedOut_53 : decode cX3_workedOut 53 = .ok (.if_icmp .ne 44, 3) := by decide +kernel
theorem dX3_workedOut_56 : decode cX3_workedOut 56 = .ok (.aload_n 0, 1) := by decide +kernel
theorem dX3_workedOut_57 : decode cX3_workedOut 57 = .ok (.getfield 24, 3) := by decide +kernel
theorem dX3_workedOut_60 : decode cX3_workedOut 60 = .ok (.iload_n 1, 1) := by decide +kernel
theorem dX3_workedOut_61 : decode cX3_workedOut 61 = .ok (.iinc 1 1, 3) := by decide +kernel
theorem dX3_workedOut_64 : decode cX3_workedOut 64 = .ok (.aload_n 0, 1) := by decide +kernel
theorem dX3_workedOut_65 : decode cX3_workedOut 65 = .ok (.getfield 21, 3) := by decide +kernel
theorem dX3_workedOut_68 : decode cX3_workedOut 68 = .ok (.iload_n 2, 1) := by decide +kernel
theorem dX3_workedOut_69 : decode cX3_workedOut 69 = .ok (.iaload, 1) := by decide +kernel
theorem dX3_workedOut_70 : decode cX3_workedOut 70 = .ok (.iconst 0, 1) := by decide +kernel
theorem dX3_workedOut_71 : decode cX3_workedOut 71 = .ok (.iconst 5, 1) := by decide +kernel
theorem dX3_workedOut_72 : decode cX3_workedOut 72 = .ok (.invokestatic 46, 3) := by decide +kernel
theorem dX3_workedOut_75 : decode cX3_workedOut 75 = .ok (.ifCond .eq 17, 3) := by decide +kernel
theorem dX3_workedOut_78 : decode cX3_workedOut 78 = .ok (.aload_n 0, 1) := by decide +kernel
theorem dX3_workedOut_79 : decode cX3_workedOut 79 = .ok (.getfield 27, 3) := by decide +kernel
theorem dX3_workedOut_82 : decode cX3_workedOut 82 = .ok (.aload_n 0, 1) := by decide +kernel
theorem dX3_workedOut_83 : decode cX3_workedOut 83 = .ok (.getfield 21, 3) := by decide +kernel
theorem dX3_workedOut_86 : decode cX3_workedOut 86 = .ok (.iload_n 2, 1) := by decide +kernel
theorem dX3_workedOut_87 : decode cX3_workedOut 87 = .ok (.iaload, 1) := by decide +kernel
theorem dX3_workedOut_88 : decode cX3_workedOut 88 = .ok (.iaload, 1) := by decide +kernel
theorem dX3_workedOut_89 : decode cX3_workedOut 89 = .ok (.goto 4, 3) := by decide +kernel
theorem dX3_workedOut_92 : decode cX3_workedOut 92 = .ok (.iconst 0, 1) := by decide +kernel
theorem dX3_workedOut_93 : decode cX3_workedOut 93 = .ok (.iastore, 1) := by decide +kernel
theorem dX3_workedOut_94 : decode cX3_workedOut 94 = .ok (.goto 154, 3) := by decide +kernel
theorem dX3_workedOut_97 : decode cX3_workedOut 97 = .ok (.iload_n 1, 1) := by decide +kernel
theorem dX3_workedOut_98 : decode cX3_workedOut 98 = .ok (.iconst 1, 1) := by decide +kernel
theorem dX3_workedOut_99 : decode cX3_workedOut 99 = .ok (.if_icmp .ge 5, 3) := by decide +kernel
theorem dX3_workedOut_102 : decode cX3_workedOut 102 = .ok (.iconst 0, 1) := by decide +kernel
theorem dX3_workedOut_103 : decode cX3_workedOut 103 = .ok (.ireturn, 1) := by decide +kernel
theorem dX3_workedOut_104 : decode cX3_workedOut 104 = .ok (.iload_n 3, 1) := by decide +kernel
theorem dX3_workedOut_105 : decode cX3_workedOut 105 = .ok (.bipush 59, 2) := by decide +kernel
theorem dX3_workedOut_107 : decode cX3_workedOut 107 = .ok (.if_icmp .ne 12, 3) := by decide +kernel
theorem dX3_workedOut_110 : decode cX3_workedOut 110 = .ok (.aload_n 0, 1) := by decide +kernel
theorem dX3_workedOut_111 : decode cX3_workedOut 111 = .ok (.getfield 24, 3) := by decide +kernel
theorem dX3_workedOut_114 : decode cX3_workedOut 114 = .ok (.iload_n 1, 1) := by decide +kernel
theorem dX3_workedOut_115 : decode cX3_workedOut 115 = .ok (.iconst 1, 1) := by decide +kernel
theorem dX3_workedOut_116 : decode cX3_workedOut 116 = .ok (.isub, 1) := by decide +kernel
theorem dX3_workedOut_117 : decode cX3_workedOut 117 = .ok (.iaload, 1) := by decide +kernel
theorem dX3_workedOut_118 : decode cX3_workedOut 118 = .ok (.ireturn, 1) := by decide +kernel
theorem dX3_workedOut_119 : decode cX3_workedOut 119 = .ok (.iload_n 3, 1) := by decide +kernel
theorem dX3_workedOut_120 : decode cX3_workedOut 120 = .ok (.bipush 63, 2) := by decide +kernel
theorem dX3_workedOut_122 : decode cX3_workedOut 122 = .ok (.if_icmp .ne 33, 3) := by decide +kernel
theorem dX3_workedOut_125 : decode cX3_workedOut 125 = .ok (.iinc 1 (-1), 3) := by decide +kernel
theorem dX3_workedOut_128 : decode cX3_workedOut 128 = .ok (.aload_n 0, 1) := by decide +kernel
theorem dX3_workedOut_129 : decode cX3_workedOut 129 = .ok (.getfield 24, 3) := by decide +kernel
theorem dX3_workedOut_132 : decode cX3_workedOut 132 = .ok (.iload_n 1, 1) := by decide +kernel
theorem dX3_workedOut_133 : decode cX3_workedOut 133 = .ok (.iaload, 1) := by decide +kernel
theorem dX3_workedOut_134 : decode cX3_workedOut 134 = .ok (.ifCond .ne 16, 3) := by decide +kernel
theorem dX3_workedOut_137 : decode cX3_workedOut 137 = .ok (.iload_n 2, 1) := by decide +kernel
theorem dX3_workedOut_138 : decode cX3_workedOut 138 = .ok (.aload_n 0, 1) := by decide +kernel
theorem dX3_workedOut_139 : decode cX3_workedOut 139 = .ok (.getfield 21, 3) := by decide +kernel
theorem dX3_workedOut_142 : decode cX3_workedOut 142 = .ok (.iload_n 2, 1) := by decide +kernel
theorem dX3_workedOut_143 : decode cX3_workedOut 143 = .ok (.iaload, 1) := by decide +kernel
theorem dX3_workedOut_144 : decode cX3_workedOut 144 = .ok (.invokestatic 50, 3) := by decide +kernel
theorem dX3_workedOut_147 : decode cX3_workedOut 147 = .ok (.goto 4, 3) := by decide +kernel
theorem dX3_workedOut_150 : decode cX3_workedOut 150 = .ok (.iload_n 2, 1) := by decide +kernel
theorem dX3_workedOut_151 : decode cX3_workedOut 151 = .ok (.istore_n 2, 1) := by decide +kernel
theorem dX3_workedOut_152 : decode cX3_workedOut 152 = .ok (.goto 96, 3) := by decide +kernel
theorem dX3_workedOut_155 : decode cX3_workedOut 155 = .ok (.iload_n 3, 1) := by decide +kernel
theorem dX3_workedOut_156 : decode cX3_workedOut 156 = .ok (.bipush 126, 2) := by decide +kernel
theorem dX3_workedOut_158 : decode cX3_workedOut 158 = .ok (.if_icmp .ne 23, 3) := by decide +kernel
theorem dX3_workedOut_161 : decode cX3_workedOut 161 = .ok (.aload_n 0, 1) := by decide +kernel
theorem dX3_workedOut_162 : decode cX3_workedOut 162 = .ok (.getfield 24, 3) := by decide +kernel
theorem dX3_workedOut_165 : decode cX3_workedOut 165 = .ok (.iload_n 1, 1) := by decide +kernel
theorem dX3_workedOut_166 : decode cX3_workedOut 166 = .ok (.iconst 1, 1) := by decide +kernel
theorem dX3_workedOut_167 : decode cX3_workedOut 167 = .ok (.isub, 1) := by decide +kernel
theorem dX3_workedOut_168 : decode cX3_workedOut 168 = .ok (.aload_n 0, 1) := by decide +kernel
theorem dX3_workedOut_169 : decode cX3_workedOut 169 = .ok (.getfield 24, 3) := by decide +kernel
theorem dX3_workedOut_172 : decode cX3_workedOut 172 = .ok (.iload_n 1, 1) := by decide +kernel
theorem dX3_workedOut_173 : decode cX3_workedOut 173 = .ok (.iconst 1, 1) := by decide +kernel
theorem dX3_workedOut_174 : decode cX3_workedOut 174 = .ok (.isub, 1) := by decide +kernel
theorem dX3_workedOut_175 : decode cX3_workedOut 175 = .ok (.iaload, 1) := by decide +kernel
theorem dX3_workedOut_176 : decode cX3_workedOut 176 = .ok (.ineg, 1) := by decide +kernel
theorem dX3_workedOut_177 : decode cX3_workedOut 177 = .ok (.iastore, 1) := by decide +kernel
theorem dX3_workedOut_178 : decode cX3_workedOut 178 = .ok (.goto 70, 3) := by decide +kernel
theorem dX3_workedOut_181 : decode cX3_workedOut 181 = .ok (.iload_n 3, 1) := by decide +kernel
theorem dX3_workedOut_182 : decode cX3_workedOut 182 = .ok (.bipush 33, 2) := by decide +kernel
theorem dX3_workedOut_184 : decode cX3_workedOut 184 = .ok (.if_icmp .ne 30, 3) := by decide +kernel
theorem dX3_workedOut_187 : decode cX3_workedOut 187 = .ok (.aload_n 0, 1) := by decide +kernel
theorem dX3_workedOut_188 : decode cX3_workedOut 188 = .ok (.getfield 24, 3) := by decide +kernel
theorem dX3_workedOut_191 : decode cX3_workedOut 191 = .ok (.iload_n 1, 1) := by decide +kernel
theorem dX3_workedOut_192 : decode cX3_workedOut 192 = .ok (.iconst 1, 1) := by decide +kernel
theorem dX3_workedOut_193 : decode cX3_workedOut 193 = .ok (.isub, 1) := by decide +kernel
theorem dX3_workedOut_194 : decode cX3_workedOut 194 = .ok (.aload_n 0, 1) := by decide +kernel
theorem dX3_workedOut_195 : decode cX3_workedOut 195 = .ok (.getfield 24, 3) := by decide +kernel
theorem dX3_workedOut_198 : decode cX3_workedOut 198 = .ok (.iload_n 1, 1) := by decide +kernel
theorem dX3_workedOut_199 : decode cX3_workedOut 199 = .ok (.iconst 1, 1) := by decide +kernel
theorem dX3_workedOut_200 : decode cX3_workedOut 200 = .ok (.isub, 1) := by decide +kernel
theorem dX3_workedOut_201 : decode cX3_workedOut 201 = .ok (.iaload, 1) := by decide +kernel
theorem dX3_workedOut_202 : decode cX3_workedOut 202 = .ok (.ifCond .ne 7, 3) := by decide +kernel
theorem dX3_workedOut_205 : decode cX3_workedOut 205 = .ok (.iconst 1, 1) := by decide +kernel
theorem dX3_workedOut_206 : decode cX3_workedOut 206 = .ok (.goto 4, 3) := by decide +kernel
theorem dX3_workedOut_209 : decode cX3_workedOut 209 = .ok (.iconst 0, 1) := by decide +kernel
theorem dX3_workedOut_210 : decode cX3_workedOut 210 = .ok (.iastore, 1) := by decide +kernel
theorem dX3_workedOut_211 : decode cX3_workedOut 211 = .ok (.goto 37, 3) := by decide +kernel
theorem dX3_workedOut_214 : decode cX3_workedOut 214 = .ok (.iload_n 1, 1) := by decide +kernel
theorem dX3_workedOut_215 : decode cX3_workedOut 215 = .ok (.iconst 2, 1) := by decide +kernel
theorem dX3_workedOut_216 : decode cX3_workedOut 216 = .ok (.if_icmp .lt 32, 3) := by decide +kernel
theorem dX3_workedOut_219 : decode cX3_workedOut 219 = .ok (.iinc 1 (-1), 3) := by decide +kernel
theorem dX3_workedOut_222 : decode cX3_workedOut 222 = .ok (.aload_n 0, 1) := by decide +kernel
theorem dX3_workedOut_223 : decode cX3_workedOut 223 = .ok (.getfield 24, 3) := by decide +kernel
theorem dX3_workedOut_226 : decode cX3_workedOut 226 = .ok (.iload_n 1, 1) := by decide +kernel
theorem dX3_workedOut_227 : decode cX3_workedOut 227 = .ok (.iconst 1, 1) := by decide +kernel
theorem dX3_workedOut_228 : decode cX3_workedOut 228 = .ok (.isub, 1) := by decide +kernel
theorem dX3_workedOut_229 : decode cX3_workedOut 229 = .ok (.iload_n 3, 1) := by decide +kernel
theorem dX3_workedOut_230 : decode cX3_workedOut 230 = .ok (.aload_n 0, 1) := by decide +kernel
theorem dX3_workedOut_231 : decode cX3_workedOut 231 = .ok (.getfield 24, 3) := by decide +kernel
theorem dX3_workedOut_234 : decode cX3_workedOut 234 = .ok (.iload_n 1, 1) := by decide +kernel
theorem dX3_workedOut_235 : decode cX3_workedOut 235 = .ok (.iconst 1, 1) := by decide +kernel
theorem dX3_workedOut_236 : decode cX3_workedOut 236 = .ok (.isub, 1) := by decide +kernel
theorem dX3_workedOut_237 : decode cX3_workedOut 237 = .ok (.iaload, 1) := by decide +kernel
theorem dX3_workedOut_238 : decode cX3_workedOut 238 = .ok (.aload_n 0, 1) := by decide +kernel
theorem dX3_workedOut_239 : decode cX3_workedOut 239 = .ok (.getfield 24, 3) := by decide +kernel
theorem dX3_workedOut_242 : decode cX3_workedOut 242 = .ok (.iload_n 1, 1) := by decide +kernel
theorem dX3_workedOut_243 : decode cX3_workedOut 243 = .ok (.iaload, 1) := by decide +kernel
theorem dX3_workedOut_244 : decode cX3_workedOut 244 = .ok (.invokestatic 56, 3) := by decide +kernel
theorem dX3_workedOut_247 : decode cX3_workedOut 247 = .ok (.iastore, 1) := by decide +kernel
theorem dX3_workedOut_248 : decode cX3_workedOut 248 = .ok (.iinc 2 1, 3) := by decide +kernel
theorem dX3_workedOut_251 : decode cX3_workedOut 251 = .ok (.goto (-247), 3) := by decide +kernel
theorem dX3_workedOut_254 : decode cX3_workedOut 254 = .ok (.iconst 0, 1) := by decide +kernel
theorem dX3_workedOut_255 : decode cX3_workedOut 255 = .ok (.ireturn, 1) := by decide +kernel
theorem dX3_joined_0 : decode cX3_joined 0 = .ok (.iload_n 0, 1) := by decide +kernel
theorem dX3_joined_1 : decode cX3_joined 1 = .ok (.tableswitch 202 37 62 #[143, 188, 202, 202, 202, 127, 119, 202, 123, 202, 131, 202, 202, 202, 202, 202, 202, 202, 202, 202, 202, 202, 202, 155, 166, 177], 119) := by decide +kernel
theorem dX3_joined_120 : decode cX3_joined 120 = .ok (.iload_n 1, 1) := by decide +kernel
theorem dX3_joined_121 : decode cX3_joined 121 = .ok (.iload_n 2, 1) := by decide +kernel
theorem dX3_joined_122 : decode cX3_joined 122 = .ok (.iadd, 1) := by decide +kernel
theorem dX3_joined_123 : decode cX3_joined 123 = .ok (.ireturn, 1) := by decide +kernel
theorem dX3_joined_124 : decode cX3_joined 124 = .ok (.iload_n 1, 1) := by decide +kernel
theorem dX3_joined_125 : decode cX3_joined 125 = .ok (.iload_n 2, 1) := by decide +kernel
theorem dX3_joined_126 : decode cX3_joined 126 = .ok (.isub, 1) := by decide +kernel
theorem dX3_joined_127 : decode cX3_joined 127 = .ok (.ireturn, 1) := by decide +kernel
theorem dX3_joined_128 : decode cX3_joined 128 = .ok (.iload_n 1, 1) := by decide +kernel
theorem dX3_joined_129 : decode cX3_joined 129 = .ok (.iload_n 2, 1) := by decide +kernel
theorem dX3_joined_130 : decode cX3_joined 130 = .ok (.imul, 1) := by decide +kernel
theorem dX3_joined_131 : decode cX3_joined 131 = .ok (.ireturn, 1) := by decide +kernel
theorem dX3_joined_132 : decode cX3_joined 132 = .ok (.iload_n 2, 1) := by decide +kernel
theorem dX3_joined_133 : decode cX3_joined 133 = .ok (.ifCond .ne 7, 3) := by decide +kernel
theorem dX3_joined_136 : decode cX3_joined 136 = .ok (.iconst 0, 1) := by decide +kernel
theorem dX3_joined_137 : decode cX3_joined 137 = .ok (.goto 6, 3) := by decide +kernel
theorem dX3_joined_140 : decode cX3_joined 140 = .ok (.iload_n 1, 1) := by decide +kernel
theorem dX3_joined_141 : decode cX3_joined 141 = .ok (.iload_n 2, 1) := by decide +kernel
theorem dX3_joined_142 : decode cX3_joined 142 = .ok (.idiv, 1) := by decide +kernel
theorem dX3_joined_143 : decode cX3_joined 143 = .ok (.ireturn, 1) := by decide +kernel
theorem dX3_joined_144 : decode cX3_joined 144 = .ok (.iload_n 2, 1) := by decide +kernel
theorem dX3_joined_145 : decode cX3_joined 145 = .ok (.ifCond .ne 7, 3) := by decide +kernel
theorem dX3_joined_148 : decode cX3_joined 148 = .ok (.iconst 0, 1) := by decide +kernel
theorem dX3_joined_149 : decode cX3_joined 149 = .ok (.goto 6, 3) := by decide +kernel
theorem dX3_joined_152 : decode cX3_joined 152 = .ok (.iload_n 1, 1) := by decide +kernel
theorem dX3_joined_153 : decode cX3_joined 153 = .ok (.iload_n 2, 1) := by decide +kernel
theorem dX3_joined_154 : decode cX3_joined 154 = .ok (.irem, 1) := by decide +kernel
theorem dX3_joined_155 : decode cX3_joined 155 = .ok (.ireturn, 1) := by decide +kernel
theorem dX3_joined_156 : decode cX3_joined 156 = .ok (.iload_n 1, 1) := by decide +kernel
theorem dX3_joined_157 : decode cX3_joined 157 = .ok (.iload_n 2, 1) := by decide +kernel
theorem dX3_joined_158 : decode cX3_joined 158 = .ok (.if_icmp .ge 7, 3) := by decide +kernel
theorem dX3_joined_161 : decode cX3_joined 161 = .ok (.iconst 1, 1) := by decide +kernel
theorem dX3_joined_162 : decode cX3_joined 162 = .ok (.goto 4, 3) := by decide +kernel
theorem dX3_joined_165 : decode cX3_joined 165 = .ok (.iconst 0, 1) := by decide +kernel
theorem dX3_joined_166 : decode cX3_joined 166 = .ok (.ireturn, 1) := by decide +kernel
theorem dX3_joined_167 : decode cX3_joined 167 = .ok (.iload_n 1, 1) := by decide +kernel
theorem dX3_joined_168 : decode cX3_joined 168 = .ok (.iload_n 2, 1) := by decide +kernel
theorem dX3_joined_169 : decode cX3_joined 169 = .ok (.if_icmp .ne 7, 3) := by decide +kernel
theorem dX3_joined_172 : decode cX3_joined 172 = .ok (.iconst 1, 1) := by decide +kernel
theorem dX3_joined_173 : decode cX3_joined 173 = .ok (.goto 4, 3) := by decide +kernel
theorem dX3_joined_176 : decode cX3_joined 176 = .ok (.iconst 0, 1) := by decide +kernel
theorem dX3_joined_177 : decode cX3_joined 177 = .ok (.ireturn, 1) := by decide +kernel
theorem dX3_joined_178 : decode cX3_joined 178 = .ok (.iload_n 1, 1) := by decide +kernel
theorem dX3_joined_179 : decode cX3_joined 179 = .ok (.iload_n 2, 1) := by decide +kernel
theorem dX3_joined_180 : decode cX3_joined 180 = .ok (.if_icmp .le 7, 3) := by decide +kernel
theorem dX3_joined_183 : decode cX3_joined 183 = .ok (.iconst 1, 1) := by decide +kernel
theorem dX3_joined_184 : decode cX3_joined 184 = .ok (.goto 4, 3) := by decide +kernel
theorem dX3_joined_187 : decode cX3_joined 187 = .ok (.iconst 0, 1) := by decide +kernel
theorem dX3_joined_188 : decode cX3_joined 188 = .ok (.ireturn, 1) := by decide +kernel
theorem dX3_joined_189 : decode cX3_joined 189 = .ok (.iload_n 1, 1) := by decide +kernel
theorem dX3_joined_190 : decode cX3_joined 190 = .ok (.ifCond .eq 11, 3) := by decide +kernel
theorem dX3_joined_193 : decode cX3_joined 193 = .ok (.iload_n 2, 1) := by decide +kernel
theorem dX3_joined_194 : decode cX3_joined 194 = .ok (.ifCond .eq 7, 3) := by decide +kernel
theorem dX3_joined_197 : decode cX3_joined 197 = .ok (.iconst 1, 1) := by decide +kernel
theorem dX3_joined_198 : decode cX3_joined 198 = .ok (.goto 4, 3) := by decide +kernel
theorem dX3_joined_201 : decode cX3_joined 201 = .ok (.iconst 0, 1) := by decide +kernel
theorem dX3_joined_202 : decode cX3_joined 202 = .ok (.ireturn, 1) := by decide +kernel
theorem dX3_joined_203 : decode cX3_joined 203 = .ok (.iload_n 1, 1) := by decide +kernel
theorem dX3_joined_204 : decode cX3_joined 204 = .ok (.ifCond .ne 7, 3) := by decide +kernel
theorem dX3_joined_207 : decode cX3_joined 207 = .ok (.iload_n 2, 1) := by decide +kernel
theorem dX3_joined_208 : decode cX3_joined 208 = .ok (.ifCond .eq 7, 3) := by decide +kernel
theorem dX3_joined_211 : decode cX3_joined 211 = .ok (.iconst 1, 1) := by decide +kernel
theorem dX3_joined_212 : decode cX3_joined 212 = .ok (.goto 4, 3) := by decide +kernel
theorem dX3_joined_215 : decode cX3_joined 215 = .ok (.iconst 0, 1) := by decide +kernel
theorem dX3_joined_216 : decode cX3_joined 216 = .ok (.ireturn, 1) := by decide +kernel
theorem dX4_init_0 : decode cX4_init 0 = .ok (.aload_n 0, 1) := by decide +kernel
theorem dX4_init_1 : decode cX4_init 1 = .ok (.invokespecial 3, 3) := by decide +kernel
theorem dX4_init_4 : decode cX4_init 4 = .ok (.aload_n 0, 1) := by decide +kernel
theorem dX4_init_5 : decode cX4_init 5 = .ok (.iconst 0, 1) := by decide +kernel
theorem dX4_init_6 : decode cX4_init 6 = .ok (.putfield 9, 3) := by decide +kernel
theorem dX4_init_9 : decode cX4_init 9 = .ok (.aload_n 0, 1) := by decide +kernel
theorem dX4_init_10 : decode cX4_init 10 = .ok (.iconst 0, 1) := by decide +kernel
theorem dX4_init_11 : decode cX4_init 11 = .ok (.putfield 15, 3) := by decide +kernel
theorem dX4_init_14 : decode cX4_init 14 = .ok (.aload_n 0, 1) := by decide +kernel
theorem dX4_init_15 : decode cX4_init 15 = .ok (.bipush 10, 2) := by decide +kernel
theorem dX4_init_17 : decode cX4_init 17 = .ok (.putfield 18, 3) := by decide +kernel
theorem dX4_init_20 : decode cX4_init 20 = .ok (.aload_n 0, 1) := by decide +kernel
theorem dX4_init_21 : decode cX4_init 21 = .ok (.iconst 0, 1) := by decide +kernel
theorem dX4_init_22 : decode cX4_init 22 = .ok (.putfield 21, 3) := by decide +kernel
theorem dX4_init_25 : decode cX4_init 25 = .ok (.aload_n 0, 1) := by decide +kernel
theorem dX4_init_26 : decode cX4_init 26 = .ok (.iconst 0, 1) := by decide +kernel
theorem dX4_init_27 : decode cX4_init 27 = .ok (.putfield 24, 3) := by decide +kernel
theorem dX4_init_30 : decode cX4_init 30 = .ok (.aload_n 0, 1) := by decide +kernel
theorem dX4_init_31 : decode cX4_init 31 = .ok (.bipush 10, 2) := by decide +kernel
theorem dX4_init_33 : decode cX4_init 33 = .ok (.newarray .int, 2) := by decide +kernel
theorem dX4_init_35 : decode cX4_init 35 = .ok (.putfield 27, 3) := by decide +kernel
theorem dX4_init_38 : decode cX4_init 38 = .ok (.aload_n 0, 1) := by decide +kernel
theorem dX4_init_39 : decode cX4_init 39 = .ok (.bipush 10, 2) := by decide +kernel
theorem dX4_init_41 : decode cX4_init 41 = .ok (.newarray .int, 2) := by decide +kernel
theorem dX4_init_43 : decode cX4_init 43 = .ok (.putfield 31, 3) := by decide +kernel
theorem dX4_init_46 : decode cX4_init 46 = .ok (.aload_n 0, 1) := by decide +kernel
theorem dX4_init_47 : decode cX4_init 47 = .ok (.bipush 10, 2) := by decide +kernel
theorem dX4_init_49 : decode cX4_init 49 = .ok (.newarray .int, 2) := by decide +kernel
theorem dX4_init_51 : decode cX4_init 51 = .ok (.putfield 34, 3) := by decide +kernel
theorem dX4_init_54 : decode cX4_init 54 = .ok (.aload_n 0, 1) := by decide +kernel
theorem dX4_init_55 : decode cX4_init 55 = .ok (.bipush 10, 2) := by decide +kernel
theorem dX4_init_57 : decode cX4_init 57 = .ok (.newarray .int, 2) := by decide +kernel
theorem dX4_init_59 : decode cX4_init 59 = .ok (.putfield 37, 3) := by decide +kernel
theorem dX4_init_62 : decode cX4_init 62 = .ok (.aload_n 0, 1) := by decide +kernel
theorem dX4_init_63 : decode cX4_init 63 = .ok (.bipush 10, 2) := by decide +kernel
theorem dX4_init_65 : decode cX4_init 65 = .ok (.newarray .int, 2) := by decide +kernel
theorem dX4_init_67 : decode cX4_init 67 = .ok (.putfield 40, 3) := by decide +kernel
theorem dX4_init_70 : decode cX4_init 70 = .ok (.aload_n 0, 1) := by decide +kernel
theorem dX4_init_71 : decode cX4_init 71 = .ok (.bipush 12, 2) := by decide +kernel
theorem dX4_init_73 : decode cX4_init 73 = .ok (.newarray .int, 2) := by decide +kernel
theorem dX4_init_75 : decode cX4_init 75 = .ok (.putfield 43, 3) := by decide +kernel
theorem dX4_init_78 : decode cX4_init 78 = .ok (.aload_n 0, 1) := by decide +kernel
theorem dX4_init_79 : decode cX4_init 79 = .ok (.bipush 10, 2) := by decide +kernel
theorem dX4_init_81 : decode cX4_init 81 = .ok (.newarray .int, 2) := by decide +kernel
theorem dX4_init_83 : decode cX4_init 83 = .ok (.putfield 46, 3) := by decide +kernel
theorem dX4_init_86 : decode cX4_init 86 = .ok (.aload_n 0, 1) := by decide +kernel
theorem dX4_init_87 : decode cX4_init 87 = .ok (.bipush 10, 2) := by decide +kernel
theorem dX4_init_89 : decode cX4_init 89 = .ok (.newarray .int, 2) := by decide +kernel
theorem dX4_init_91 : decode cX4_init 91 = .ok (.putfield 49, 3) := by decide +kernel
theorem dX4_init_94 : decode cX4_init 94 = .ok (.aload_n 0, 1) := by decide +kernel
theorem dX4_init_95 : decode cX4_init 95 = .ok (.bipush 12, 2) := by decide +kernel
theorem dX4_init_97 : decode cX4_init 97 = .ok (.newarray .int, 2) := by decide +kernel
theorem dX4_init_99 : decode cX4_init 99 = .ok (.putfield 52, 3) := by decide +kernel
theorem dX4_init_102 : decode cX4_init 102 = .ok (.iconst 0, 1) := by decide +kernel
theorem dX4_init_103 : decode cX4_init 103 = .ok (.istore_n 1, 1) := by decide +kernel
theorem dX4_init_104 : decode cX4_init 104 = .ok (.iload_n 1, 1) := by decide +kernel
theorem dX4_init_105 : decode cX4_init 105 = .ok (.bipush 12, 2) := by decide +kernel
theorem dX4_init_107 : decode cX4_init 107 = .ok (.if_icmp .ge 16, 3) := by decide +kernel
theorem dX4_init_110 : decode cX4_init 110 = .ok (.aload_n 0, 1) := by decide +kernel
theorem dX4_init_111 : decode cX4_init 111 = .ok (.getfield 43, 3) := by decide +kernel
theorem dX4_init_114 : decode cX4_init 114 = .ok (.iload_n 1, 1) := by decide +kernel
theorem dX4_init_115 : decode cX4_init 115 = .ok (.iconst (-1), 1) := by decide +kernel
theorem dX4_init_116 : decode cX4_init 116 = .ok (.iastore, 1) := by decide +kernel
theorem dX4_init_117 : decode cX4_init 117 = .ok (.iinc 1 1, 3) := by decide +kernel
theorem dX4_init_120 : decode cX4_init 120 = .ok (.goto (-16), 3) := by decide +kernel
theorem dX4_init_123 : decode cX4_init 123 = .ok (.return_, 1) := by decide +kernel
theorem dX4_become_0 : decode cX4_become 0 = .ok (.aload_n 0, 1) := by decide +kernel
theorem dX4_become_1 : decode cX4_become 1 = .ok (.aload_n 1, 1) := by decide +kernel
theorem dX4_become_2 : decode cX4_become 2 = .ok (.getfield 9, 3) := by decide +kernel
theorem dX4_become_5 : decode cX4_become 5 = .ok (.putfield 9, 3) := by decide +kernel
theorem dX4_become_8 : decode cX4_become 8 = .ok (.aload_n 0, 1) := by decide +kernel
theorem dX4_become_9 : decode cX4_become 9 = .ok (.aload_n 1, 1) := by decide +kernel
theorem dX4_become_10 : decode cX4_become 10 = .ok (.getfield 18, 3) := by decide +kernel
theorem dX4_become_13 : decode cX4_become 13 = .ok (.putfield 18, 3) := by decide +kernel
theorem dX4_become_16 : decode cX4_become 16 = .ok (.aload_n 0, 1) := by decide +kernel
theorem dX4_become_17 : decode cX4_become 17 = .ok (.aload_n 1, 1) := by decide +kernel
theorem dX4_become_18 : decode cX4_become 18 = .ok (.getfield 21, 3) := by decide +kernel
theorem dX4_become_21 : decode cX4_become 21 = .ok (.putfield 21, 3) := by decide +kernel
theorem dX4_become_24 : decode cX4_become 24 = .ok (.aload_n 1, 1) := by decide +kernel
theorem dX4_become_25 : decode cX4_become 25 = .ok (.getfield 27, 3) := by decide +kernel
theorem dX4_become_28 : decode cX4_become 28 = .ok (.iconst 0, 1) := by decide +kernel
theorem dX4_become_29 : decode cX4_become 29 = .ok (.aload_n 0, 1) := by decide +kernel
theorem dX4_become_30 : decode cX4_become 30 = .ok (.getfield 27, 3) := by decide +kernel
theorem dX4_become_33 : decode cX4_become 33 = .ok (.iconst 0, 1) := by decide +kernel
theorem dX4_become_34 : decode cX4_become 34 = .ok (.bipush 10, 2) := by decide +kernel
theorem dX4_become_36 : decode cX4_become 36 = .ok (.invokestatic 55, 3) := by decide +kernel
theorem dX4_become_39 : decode cX4_become 39 = .ok (.aload_n 1, 1) := by decide +kernel
theorem dX4_become_40 : decode cX4_become 40 = .ok (.getfield 31, 3) := by decide +kernel
theorem dX4_become_43 : decode cX4_become 43 = .ok (.iconst 0, 1) := by decide +kernel
theorem dX4_become_44 : decode cX4_become 44 = .ok (.aload_n 0, 1) := by decide +kernel
theorem dX4_become_45 : decode cX4_become 45 = .ok (.getfield 31, 3) := by decide +kernel
theorem dX4_become_48 : decode cX4_become 48 = .ok (.iconst 0, 1) := by decide +kernel
theorem dX4_become_49 : decode cX4_become 49 = .ok (.bipush 10, 2) := by decide +kernel
theorem dX4_become_51 : decode cX4_become 51 = .ok (.invokestatic 55, 3) := by decide +kernel
theorem dX4_become_54 : decode cX4_become 54 = .ok (.aload_n 1, 1) := by decide +kernel
theorem dX4_become_55 : decode cX4_become 55 = .ok (.getfield 34, 3) := by decide +kernel
theorem dX4_become_58 : decode cX4_become 58 = .ok (.iconst 0, 1) := by decide +kernel
theorem dX4_become_59 : decode cX4_become 59 = .ok (.aload_n 0, 1) := by decide +kernel
theorem dX4_become_60 : decode cX4_become 60 = .ok (.getfield 34, 3) := by decide +kernel
theorem dX4_become_63 : decode cX4_become 63 = .ok (.iconst 0, 1) := by decide +kernel
theorem dX4_become_64 : decode cX4_become 64 = .ok (.bipush 10, 2) := by decide +kernel
theorem dX4_become_66 : decode cX4_become 66 = .ok (.invokestatic 55, 3) := by decide +kernel
theorem dX4_become_69 : decode cX4_become 69 = .ok (.aload_n 1, 1) := by decide +kernel
theorem dX4_become_70 : decode cX4_become 70 = .ok (.getfield 40, 3) := by decide +kernel
theorem dX4_become_73 : decode cX4_become 73 = .ok (.iconst 0, 1) := by decide +kernel
theorem dX4_become_74 : decode cX4_become 74 = .ok (.aload_n 0, 1) := by decide +kernel
theorem dX4_become_75 : decode cX4_become 75 = .ok (.getfield 40, 3) := by decide +kernel
theorem dX4_become_78 : decode cX4_become 78 = .ok (.iconst 0, 1) := by decide +kernel
theorem dX4_become_79 : decode cX4_become 79 = .ok (.bipush 10, 2) := by decide +kernel
theorem dX4_become_81 : decode cX4_become 81 = .ok (.invokestatic 55, 3) := by decide +kernel
theorem dX4_become_84 : decode cX4_become 84 = .ok (.aload_n 1, 1) := by decide +kernel
theorem dX4_become_85 : decode cX4_become 85 = .ok (.getfield 43, 3) := by decide +kernel
theorem dX4_become_88 : decode cX4_become 88 = .ok (.iconst 0, 1) := by decide +kernel
theorem dX4_become_89 : decode cX4_become 89 = .ok (.aload_n 0, 1) := by decide +kernel
theorem dX4_become_90 : decode cX4_become 90 = .ok (.getfield 43, 3) := by decide +kernel
theorem dX4_become_93 : decode cX4_become 93 = .ok (.iconst 0, 1) := by decide +kernel
theorem dX4_become_94 : decode cX4_become 94 = .ok (.bipush 12, 2) := by decide +kernel
theorem dX4_become_96 : decode cX4_become 96 = .ok (.invokestatic 55, 3) := by decide +kernel
theorem dX4_become_99 : decode cX4_become 99 = .ok (.aload_n 0, 1) := by decide +kernel
theorem dX4_become_100 : decode cX4_become 100 = .ok (.aload_n 1, 1) := by decide +kernel
theorem dX4_become_101 : decode cX4_become 101 = .ok (.invokevirtual 61, 3) := by decide +kernel
theorem dX4_become_104 : decode cX4_become 104 = .ok (.return_, 1) := by decide +kernel
theorem dX4_becomeInMind_0 : decode cX4_becomeInMind 0 = .ok (.aload_n 0, 1) := by decide +kernel
theorem dX4_becomeInMind_1 : decode cX4_becomeInMind 1 = .ok (.aload_n 1, 1) := by decide +kernel
theorem dX4_becomeInMind_2 : decode cX4_becomeInMind 2 = .ok (.getfield 15, 3) := by decide +kernel
theorem dX4_becomeInMind_5 : decode cX4_becomeInMind 5 = .ok (.putfield 15, 3) := by decide +kernel
theorem dX4_becomeInMind_8 : decode cX4_becomeInMind 8 = .ok (.aload_n 1, 1) := by decide +kernel
theorem dX4_becomeInMind_9 : decode cX4_becomeInMind 9 = .ok (.getfield 37, 3) := by decide +kernel
theorem dX4_becomeInMind_12 : decode cX4_becomeInMind 12 = .ok (.iconst 0, 1) := by decide +kernel
theorem dX4_becomeInMind_13 : decode cX4_becomeInMind 13 = .ok (.aload_n 0, 1) := by decide +kernel
theorem dX4_becomeInMind_14 : decode cX4_becomeInMind 14 = .ok (.getfield 37, 3) := by decide +kernel
theorem dX4_becomeInMind_17 : decode cX4_becomeInMind 17 = .ok (.iconst 0, 1) := by decide +kernel
theorem dX4_becomeInMind_18 : decode cX4_becomeInMind 18 = .ok (.bipush 10, 2) := by decide +kernel
theorem dX4_becomeInMind_20 : decode cX4_becomeInMind 20 = .ok (.invokestatic 55, 3) := by decide +kernel
theorem dX4_becomeInMind_23 : decode cX4_becomeInMind 23 = .ok (.return_, 1) := by decide +kernel
theorem dX4_mayCome_0 : decode cX4_mayCome 0 = .ok (.iload_n 1, 1) := by decide +kernel
theorem dX4_mayCome_1 : decode cX4_mayCome 1 = .ok (.invokestatic 65, 3) := by decide +kernel
theorem dX4_mayCome_4 : decode cX4_mayCome 4 = .ok (.ifCond .eq 36, 3) := by decide +kernel
theorem dX4_mayCome_7 : decode cX4_mayCome 7 = .ok (.aload_n 0, 1) := by decide +kernel
theorem dX4_mayCome_8 : decode cX4_mayCome 8 = .ok (.getfield 43, 3) := by decide +kernel
theorem dX4_mayCome_11 : decode cX4_mayCome 11 = .ok (.iload_n 1, 1) := by decide +kernel
theorem dX4_mayCome_12 : decode cX4_mayCome 12 = .ok (.iaload, 1) := by decide +kernel
theorem dX4_mayCome_13 : decode cX4_mayCome 13 = .ok (.ifCond .ge 27, 3) := by decide +kernel
theorem dX4_mayCome_16 : decode cX4_mayCome 16 = .ok (.iload_n 2, 1) := by decide +kernel
theorem dX4_mayCome_17 : decode cX4_mayCome 17 = .ok (.iconst 0, 1) := by decide +kernel
theorem dX4_mayCome_18 : decode cX4_mayCome 18 = .ok (.bipush 9, 2) := by decide +kernel
theorem dX4_mayCome_20 : decode cX4_mayCome 20 = .ok (.invokestatic 69, 3) := by decide +kernel
theorem dX4_mayCome_23 : decode cX4_mayCome 23 = .ok (.ifCond .eq 17, 3) := by decide +kernel
theorem dX4_mayCome_26 : decode cX4_mayCome 26 = .ok (.iload_n 3, 1) := by decide +kernel
theorem dX4_mayCome_27 : decode cX4_mayCome 27 = .ok (.iconst 0, 1) := by decide +kernel
theorem dX4_mayCome_28 : decode cX4_mayCome 28 = .ok (.bipush 99, 2) := by decide +kernel
theorem dX4_mayCome_30 : decode cX4_mayCome 30 = .ok (.invokestatic 69, 3) := by decide +kernel
theorem dX4_mayCome_33 : decode cX4_mayCome 33 = .ok (.ifCond .eq 7, 3) := by decide +kernel
theorem dX4_mayCome_36 : decode cX4_mayCome 36 = .ok (.iconst 1, 1) := by decide +kernel
theorem dX4_mayCome_37 : decode cX4_mayCome 37 = .ok (.goto 4, 3) := by decide +kernel
theorem dX4_mayCome_40 : decode cX4_mayCome 40 = .ok (.iconst 0, 1) := by decide +kernel
theorem dX4_mayCome_41 : decode cX4_mayCome 41 = .ok (.ireturn, 1) := by decide +kernel
theorem dX4_add_0 : decode cX4_add 0 = .ok (.aload_n 0, 1) := by decide +kernel
theorem dX4_add_1 : decode cX4_add 1 = .ok (.dup, 1) := by decide +kernel
theorem dX4_add_2 : decode cX4_add 2 = .ok (.getfield 9, 3) := by decide +kernel
theorem dX4_add_5 : decode cX4_add 5 = .ok (.dup_x1, 1) := by decide +kernel
theorem dX4_add_6 : decode cX4_add 6 = .ok (.iconst 1, 1) := by decide +kernel
theorem dX4_add_7 : decode cX4_add 7 = .ok (.iadd, 1) := by decide +kernel
theorem dX4_add_8 : decode cX4_add 8 = .ok (.putfield 9, 3) := by decide +kernel
theorem dX4_add_11 : decode cX4_add 11 = .ok (.istore 4, 2) := by decide +kernel
theorem dX4_add_13 : decode cX4_add 13 = .ok (.aload_n 0, 1) := by decide +kernel
theorem dX4_add_14 : decode cX4_add 14 = .ok (.getfield 27, 3) := by decide +kernel
theorem dX4_add_17 : decode cX4_add 17 = .ok (.iload 4, 2) := by decide +kernel
theorem dX4_add_19 : decode cX4_add 19 = .ok (.iload_n 1, 1) := by decide +kernel
theorem dX4_add_20 : decode cX4_add 20 = .ok (.iastore, 1) := by decide +kernel
theorem dX4_add_21 : decode cX4_add 21 = .ok (.aload_n 0, 1) := by decide +kernel
theorem dX4_add_22 : decode cX4_add 22 = .ok (.getfield 31, 3) := by decide +kernel
theorem dX4_add_25 : decode cX4_add 25 = .ok (.iload 4, 2) := by decide +kernel
theorem dX4_add_27 : decode cX4_add 27 = .ok (.iload_n 2, 1) := by decide +kernel
theorem dX4_add_28 : decode cX4_add 28 = .ok (.iastore, 1) := by decide +kernel
theorem dX4_add_29 : decode cX4_add 29 = .ok (.aload_n 0, 1) := by decide +kernel
theorem dX4_add_30 : decode cX4_add 30 = .ok (.getfield 34, 3) := by decide +kernel
theorem dX4_add_33 : decode cX4_add 33 = .ok (.iload 4, 2) := by decide +kernel
theorem dX4_add_35 : decode cX4_add 35 = .ok (.iload_n 3, 1) := by decide +kernel
theorem dX4_add_36 : decode cX4_add 36 = .ok (.iastore, 1) := by decide +kernel
theorem dX4_add_37 : decode cX4_add 37 = .ok (.aload_n 0, 1) := by decide +kernel
theorem dX4_add_38 : decode cX4_add 38 = .ok (.getfield 37, 3) := by decide +kernel
theorem dX4_add_41 : decode cX4_add 41 = .ok (.iload 4, 2) := by decide +kernel
theorem dX4_add_43 : decode cX4_add 43 = .ok (.bipush 20, 2) := by decide +kernel
theorem dX4_add_45 : decode cX4_add 45 = .ok (.iastore, 1) := by decide +kernel
theorem dX4_add_46 : decode cX4_add 46 = .ok (.aload_n 0, 1) := by decide +kernel
theorem dX4_add_47 : decode cX4_add 47 = .ok (.getfield 40, 3) := by decide +kernel
theorem dX4_add_50 : decode cX4_add 50 = .ok (.iload 4, 2) := by decide +kernel
theorem dX4_add_52 : decode cX4_add 52 = .ok (.iconst 0, 1) := by decide +kernel
theorem dX4_add_53 : decode cX4_add 53 = .ok (.iastore, 1) := by decide +kernel
theorem dX4_add_54 : decode cX4_add 54 = .ok (.aload_n 0, 1) := by decide +kernel
theorem dX4_add_55 : decode cX4_add 55 = .ok (.getfield 43, 3) := by decide +kernel
theorem dX4_add_58 : decode cX4_add 58 = .ok (.iload_n 1, 1) := by decide +kernel
theorem dX4_add_59 : decode cX4_add 59 = .ok (.iload 4, 2) := by decide +kernel
theorem dX4_add_61 : decode cX4_add 61 = .ok (.iastore, 1) := by decide +kernel
theorem dX4_add_62 : decode cX4_add 62 = .ok (.iload 4, 2) := by decide +kernel
theorem dX4_add_64 : decode cX4_add 64 = .ok (.ireturn, 1) := by decide +kernel
theorem dX4_addFrom_0 : decode cX4_addFrom 0 = .ok (.iconst 0, 1) := by decide +kernel
theorem dX4_addFrom_1 : decode cX4_addFrom 1 = .ok (.istore 4, 2) := by decide +kernel
theorem dX4_addFrom_3 : decode cX4_addFrom 3 = .ok (.iload 4, 2) := by decide +kernel
theorem dX4_addFrom_5 : decode cX4_addFrom 5 = .ok (.iload_n 3, 1) := by decide +kernel
theorem dX4_addFrom_6 : decode cX4_addFrom 6 = .ok (.if_icmp .ge 98, 3) := by decide +kernel
theorem dX4_addFrom_9 : decode cX4_addFrom 9 = .ok (.aload_n 0, 1) := by decide +kernel
theorem dX4_addFrom_10 : decode cX4_addFrom 10 = .ok (.getfield 9, 3) := by decide +kernel
theorem dX4_addFrom_13 : decode cX4_addFrom 13 = .ok (.bipush 10, 2) := by decide +kernel
theorem dX4_addFrom_15 : decode cX4_addFrom 15 = .ok (.if_icmp .ge 89, 3) := by decide +kernel
theorem dX4_addFrom_18 : decode cX4_addFrom 18 = .ok (.iload_n 2, 1) := by decide +kernel
theorem dX4_addFrom_19 : decode cX4_addFrom 19 = .ok (.iconst 3, 1) := by decide +kernel
theorem dX4_addFrom_20 : decode cX4_addFrom 20 = .ok (.iload 4, 2) := by decide +kernel
theorem dX4_addFrom_22 : decode cX4_addFrom 22 = .ok (.imul, 1) := by decide +kernel
theorem dX4_addFrom_23 : decode cX4_addFrom 23 = .ok (.iadd, 1) := by decide +kernel
theorem dX4_addFrom_24 : decode cX4_addFrom 24 = .ok (.istore 5, 2) := by decide +kernel
theorem dX4_addFrom_26 : decode cX4_addFrom 26 = .ok (.aload_n 1, 1) := by decide +kernel
theorem dX4_addFrom_27 : decode cX4_addFrom 27 = .ok (.iload 5, 2) := by decide +kernel
theorem dX4_addFrom_29 : decode cX4_addFrom 29 = .ok (.iconst 3, 1) := by decide +kernel
theorem dX4_addFrom_30 : decode cX4_addFrom 30 = .ok (.invokevirtual 73, 3) := by decide +kernel
theorem dX4_addFrom_33 : decode cX4_addFrom 33 = .ok (.ifCond .ne 6, 3) := by decide +kernel
theorem dX4_addFrom_36 : decode cX4_addFrom 36 = .ok (.goto 68, 3) := by decide +kernel
theorem dX4_addFrom_39 : decode cX4_addFrom 39 = .ok (.aload_n 0, 1) := by decide +kernel
theorem dX4_addFrom_40 : decode cX4_addFrom 40 = .ok (.aload_n 1, 1) := by decide +kernel
theorem dX4_addFrom_41 : decode cX4_addFrom 41 = .ok (.iload 5, 2) := by decide +kernel
theorem dX4_addFrom_43 : decode cX4_addFrom 43 = .ok (.invokevirtual 79, 3) := by decide +kernel
theorem dX4_addFrom_46 : decode cX4_addFrom 46 = .ok (.aload_n 1, 1) := by decide +kernel
theorem dX4_addFrom_47 : decode cX4_addFrom 47 = .ok (.iload 5, 2) := by decide +kernel
theorem dX4_addFrom_49 : decode cX4_addFrom 49 = .ok (.iconst 1, 1) := by decide +kernel
theorem dX4_addFrom_50 : decode cX4_addFrom 50 = .ok (.iadd, 1) := by decide +kernel
theorem dX4_addFrom_51 : decode cX4_addFrom 51 = .ok (.invokevirtual 79, 3) := by decide +kernel
theorem dX4_addFrom_54 : decode cX4_addFrom 54 = .ok (.aload_n 1, 1) := by decide +kernel
theorem dX4_addFrom_55 : decode cX4_addFrom 55 = .ok (.iload 5, 2) := by decide +kernel
theorem dX4_addFrom_57 : decode cX4_addFrom 57 = .ok (.iconst 2, 1) := by decide +kernel
theorem dX4_addFrom_58 : decode cX4_addFrom 58 = .ok (.iadd, 1) := by decide +kernel
theorem dX4_addFrom_59 : decode cX4_addFrom 59 = .ok (.invokevirtual 79, 3) := by decide +kernel
theorem dX4_addFrom_62 : decode cX4_addFrom 62 = .ok (.invokevirtual 83, 3) := by decide +kernel
theorem dX4_addFrom_65 : decode cX4_addFrom 65 = .ok (.ifCond .ne 6, 3) := by decide +kernel
theorem dX4_addFrom_68 : decode cX4_addFrom 68 = .ok (.goto 36, 3) := by decide +kernel
theorem dX4_addFrom_71 : decode cX4_addFrom 71 = .ok (.aload_n 0, 1) := by decide +kernel
theorem dX4_addFrom_72 : decode cX4_addFrom 72 = .ok (.aload_n 1, 1) := by decide +kernel
theorem dX4_addFrom_73 : decode cX4_addFrom 73 = .ok (.iload 5, 2) := by decide +kernel
theorem dX4_addFrom_75 : decode cX4_addFrom 75 = .ok (.invokevirtual 79, 3) := by decide +kernel
theorem dX4_addFrom_78 : decode cX4_addFrom 78 = .ok (.aload_n 1, 1) := by decide +kernel
theorem dX4_addFrom_79 : decode cX4_addFrom 79 = .ok (.iload 5, 2) := by decide +kernel
theorem dX4_addFrom_81 : decode cX4_addFrom 81 = .ok (.iconst 1, 1) := by decide +kernel
theorem dX4_addFrom_82 : decode cX4_addFrom 82 = .ok (.iadd, 1) := by decide +kernel
theorem dX4_addFrom_83 : decode cX4_addFrom 83 = .ok (.invokevirtual 79, 3) := by decide +kernel
theorem dX4_addFrom_86 : decode cX4_addFrom 86 = .ok (.aload_n 1, 1) := by decide +kernel
theorem dX4_addFrom_87 : decode cX4_addFrom 87 = .ok (.iload 5, 2) := by decide +kernel
theorem dX4_addFrom_89 : decode cX4_addFrom 89 = .ok (.iconst 2, 1) := by decide +kernel
theorem dX4_addFrom_90 : decode cX4_addFrom 90 = .ok (.iadd, 1) := by decide +kernel
theorem dX4_addFrom_91 : decode cX4_addFrom 91 = .ok (.invokevirtual 79, 3) := by decide +kernel
theorem dX4_addFrom_94 : decode cX4_addFrom 94 = .ok (.invokevirtual 86, 3) := by decide +kernel
theorem dX4_addFrom_97 : decode cX4_addFrom 97 = .ok (.pop, 1) := by decide +kernel
theorem dX4_addFrom_98 : decode cX4_addFrom 98 = .ok (.iinc 4 1, 3) := by decide +kernel
theorem dX4_addFrom_101 : decode cX4_addFrom 101 = .ok (.goto (-98), 3) := by decide +kernel
theorem dX4_addFrom_104 : decode cX4_addFrom 104 = .ok (.iload 4, 2) := by decide +kernel
theorem dX4_addFrom_106 : decode cX4_addFrom 106 = .ok (.ireturn, 1) := by decide +kernel
theorem dX4_isTakenByOther_0 : decode cX4_isTakenByOther 0 = .ok (.aload_n 0, 1) := by decide +kernel
theorem dX4_isTakenByOther_1 : decode cX4_isTakenByOther 1 = .ok (.getfield 43, 3) := by decide +kernel
theorem dX4_isTakenByOther_4 : decode cX4_isTakenByOther 4 = .ok (.iload_n 1, 1) := by decide +kernel
theorem dX4_isTakenByOther_5 : decode cX4_isTakenByOther 5 = .ok (.iaload, 1) := by decide +kernel
theorem dX4_isTakenByOther_6 : decode cX4_isTakenByOther 6 = .ok (.ifCond .lt 17, 3) := by decide +kernel
theorem dX4_isTakenByOther_9 : decode cX4_isTakenByOther 9 = .ok (.aload_n 0, 1) := by decide +kernel
theorem dX4_isTakenByOther_10 : decode cX4_isTakenByOther 10 = .ok (.getfield 43, 3) := by decide +kernel
theorem dX4_isTakenByOther_13 : decode cX4_isTakenByOther 13 = .ok (.iload_n 1, 1) := by decide +kernel
theorem dX4_isTakenByOther_14 : decode cX4_isTakenByOther 14 = .ok (.iaload, 1) := by decide +kernel
theorem dX4_isTakenByOther_15 : decode cX4_isTakenByOther 15 = .ok (.iload_n 2, 1) := by decide +kernel
theorem dX4_isTakenByOther_16 : decode cX4_isTakenByOther 16 = .ok (.if_icmp .eq 7, 3) := by decide +kernel
theorem dX4_isTakenByOther_19 : decode cX4_isTakenByOther 19 = .ok (.iconst 1, 1) := by decide +kernel
theorem dX4_isTakenByOther_20 : decode cX4_isTakenByOther 20 = .ok (.goto 4, 3) := by decide +kernel
theorem dX4_isTakenByOther_23 : decode cX4_isTakenByOther 23 = .ok (.iconst 0, 1) := by decide +kernel
theorem dX4_isTakenByOther_24 : decode cX4_isTakenByOther 24 = .ok (.ireturn, 1) := by decide +kernel
theorem dX4_get_0 : decode cX4_get 0 = .ok (.iload_n 2, 1) := by decide +kernel
theorem dX4_get_1 : decode cX4_get 1 = .ok (.tableswitch 88 0 6 #[43, 50, 57, 64, 71, 78, 83], 43) := by decide +kernel
theorem dX4_get_44 : decode cX4_get 44 = .ok (.aload_n 0, 1) := by decide +kernel
theorem dX4_get_45 : decode cX4_get 45 = .ok (.getfield 27, 3) := by decide +kernel
theorem dX4_get_48 : decode cX4_get 48 = .ok (.iload_n 1, 1) := by decide +kernel
theorem dX4_get_49 : decode cX4_get 49 = .ok (.iaload, 1) := by decide +kernel
theorem dX4_get_50 : decode cX4_get 50 = .ok (.ireturn, 1) := by decide +kernel
theorem dX4_get_51 : decode cX4_get 51 = .ok (.aload_n 0, 1) := by decide +kernel
theorem dX4_get_52 : decode cX4_get 52 = .ok (.getfield 31, 3) := by decide +kernel
theorem dX4_get_55 : decode cX4_get 55 = .ok (.iload_n 1, 1) := by decide +kernel
theorem dX4_get_56 : decode cX4_get 56 = .ok (.iaload, 1) := by decide +kernel
theorem dX4_get_57 : decode cX4_get 57 = .ok (.ireturn, 1) := by decide +kernel
theorem dX4_get_58 : decode cX4_get 58 = .ok (.aload_n 0, 1) := by decide +kernel
theorem dX4_get_59 : decode cX4_get 59 = .ok (.getfield 34, 3) := by decide +kernel
theorem dX4_get_62 : decode cX4_get 62 = .ok (.iload_n 1, 1) := by decide +kernel
theorem dX4_get_63 : decode cX4_get 63 = .ok (.iaload, 1) := by decide +kernel
theorem dX4_get_64 : decode cX4_get 64 = .ok (.ireturn, 1) := by decide +kernel
theorem dX4_get_65 : decode cX4_get 65 = .ok (.aload_n 0, 1) := by decide +kernel
theorem dX4_get_66 : decode cX4_get 66 = .ok (.getfield 37, 3) := by decide +kernel
theorem dX4_get_69 : decode cX4_get 69 = .ok (.iload_n 1, 1) := by decide +kernel
theorem dX4_get_70 : decode cX4_get 70 = .ok (.iaload, 1) := by decide +kernel
theorem dX4_get_71 : decode cX4_get 71 = .ok (.ireturn, 1) := by decide +kernel
theorem dX4_get_72 : decode cX4_get 72 = .ok (.aload_n 0, 1) := by decide +kernel
theorem dX4_get_73 : decode cX4_get 73 = .ok (.getfield 40, 3) := by decide +kernel
theorem dX4_get_76 : decode cX4_get 76 = .ok (.iload_n 1, 1) := by decide +kernel
theorem dX4_get_77 : decode cX4_get 77 = .ok (.iaload, 1) := by decide +kernel
theorem dX4_get_78 : decode cX4_get 78 = .ok (.ireturn, 1) := by decide +kernel
theorem dX4_get_79 : decode cX4_get 79 = .ok (.aload_n 0, 1) := by decide +kernel
theorem dX4_get_80 : decode cX4_get 80 = .ok (.getfield 15, 3) := by decide +kernel
theorem dX4_get_83 : decode cX4_get 83 = .ok (.ireturn, 1) := by decide +kernel
theorem dX4_get_84 : decode cX4_get 84 = .ok (.aload_n 0, 1) := by decide +kernel
theorem dX4_get_85 : decode cX4_get 85 = .ok (.getfield 18, 3) := by decide +kernel
theorem dX4_get_88 : decode cX4_get 88 = .ok (.ireturn, 1) := by decide +kernel
theorem dX4_get_89 : decode cX4_get 89 = .ok (.aload_n 0, 1) := by decide +kernel
theorem dX4_get_90 : decode cX4_get 90 = .ok (.getfield 21, 3) := by decide +kernel
theorem dX4_get_93 : decode cX4_get 93 = .ok (.ireturn, 1) := by decide +kernel
theorem dX4_set_0 : decode cX4_set 0 = .ok (.iload_n 2, 1) := by decide +kernel
theorem dX4_set_1 : decode cX4_set 1 = .ok (.tableswitch 108 0 6 #[43, 52, 62, 72, 82, 92, 100], 43) := by decide +kernel
theorem dX4_set_44 : decode cX4_set 44 = .ok (.aload_n 0, 1) := by decide +kernel
theorem dX4_set_45 : decode cX4_set 45 = .ok (.iload_n 1, 1) := by decide +kernel
theorem dX4_set_46 : decode cX4_set 46 = .ok (.iload_n 3, 1) := by decide +kernel
theorem dX4_set_47 : decode cX4_set 47 = .ok (.invokevirtual 90, 3) := by decide +kernel
theorem dX4_set_50 : decode cX4_set 50 = .ok (.goto 64, 3) := by decide +kernel
theorem dX4_set_53 : decode cX4_set 53 = .ok (.aload_n 0, 1) := by decide +kernel
theorem dX4_set_54 : decode cX4_set 54 = .ok (.getfield 31, 3) := by decide +kernel
theorem dX4_set_57 : decode cX4_set 57 = .ok (.iload_n 1, 1) := by decide +kernel
theorem dX4_set_58 : decode cX4_set 58 = .ok (.iload_n 3, 1) := by decide +kernel
theorem dX4_set_59 : decode cX4_set 59 = .ok (.iastore, 1) := by decide +kernel
theorem dX4_set_60 : decode cX4_set 60 = .ok (.goto 54, 3) := by decide +kernel
theorem dX4_set_63 : decode cX4_set 63 = .ok (.aload_n 0, 1) := by decide +kernel
theorem dX4_set_64 : decode cX4_set 64 = .ok (.getfield 34, 3) := by decide +kernel
theorem dX4_set_67 : decode cX4_set 67 = .ok (.iload_n 1, 1) := by decide +kernel
theorem dX4_set_68 : decode cX4_set 68 = .ok (.iload_n 3, 1) := by decide +kernel
theorem dX4_set_69 : decode cX4_set 69 = .ok (.iastore, 1) := by decide +kernel
theorem dX4_set_70 : decode cX4_set 70 = .ok (.goto 44, 3) := by decide +kernel
theorem dX4_set_73 : decode cX4_set 73 = .ok (.aload_n 0, 1) := by decide +kernel
theorem dX4_set_74 : decode cX4_set 74 = .ok (.getfield 37, 3) := by decide +kernel
theorem dX4_set_77 : decode cX4_set 77 = .ok (.iload_n 1, 1) := by decide +kernel
theorem dX4_set_78 : decode cX4_set 78 = .ok (.iload_n 3, 1) := by decide +kernel
theorem dX4_set_79 : decode cX4_set 79 = .ok (.iastore, 1) := by decide +kernel
theorem dX4_set_80 : decode cX4_set 80 = .ok (.goto 34, 3) := by decide +kernel
theorem dX4_set_83 : decode cX4_set 83 = .ok (.aload_n 0, 1) := by decide +kernel
theorem dX4_set_84 : decode cX4_set 84 = .ok (.getfield 40, 3) := by decide +kernel
theorem dX4_set_87 : decode cX4_set 87 = .ok (.iload_n 1, 1) := by decide +kernel
theorem dX4_set_88 : decode cX4_set 88 = .ok (.iload_n 3, 1) := by decide +kernel
theorem dX4_set_89 : decode cX4_set 89 = .ok (.iastore, 1) := by decide +kernel
theorem dX4_set_90 : decode cX4_set 90 = .ok (.goto 24, 3) := by decide +kernel
theorem dX4_set_93 : decode cX4_set 93 = .ok (.aload_n 0, 1) := by decide +kernel
theorem dX4_set_94 : decode cX4_set 94 = .ok (.iload_n 3, 1) := by decide +kernel
theorem dX4_set_95 : decode cX4_set 95 = .ok (.putfield 15, 3) := by decide +kernel
theorem dX4_set_98 : decode cX4_set 98 = .ok (.goto 16, 3) := by decide +kernel
theorem dX4_set_101 : decode cX4_set 101 = .ok (.aload_n 0, 1) := by decide +kernel
theorem dX4_set_102 : decode cX4_set 102 = .ok (.iload_n 3, 1) := by decide +kernel
theorem dX4_set_103 : decode cX4_set 103 = .ok (.putfield 18, 3) := by decide +kernel
theorem dX4_set_106 : decode cX4_set 106 = .ok (.goto 8, 3) := by decide +kernel
theorem dX4_set_109 : decode cX4_set 109 = .ok (.aload_n 0, 1) := by decide +kernel
theorem dX4_set_110 : decode cX4_set 110 = .ok (.iload_n 3, 1) := by decide +kernel
theorem dX4_set_111 : decode cX4_set 111 = .ok (.putfield 21, 3) := by decide +kernel
theorem dX4_set_114 : decode cX4_set 114 = .ok (.return_, 1) := by decide +kernel
theorem dX4_move_0 : decode cX4_move 0 = .ok (.aload_n 0, 1) := by decide +kernel
theorem dX4_move_1 : decode cX4_move 1 = .ok (.getfield 43, 3) := by decide +kernel
theorem dX4_move_4 : decode cX4_move 4 = .ok (.aload_n 0, 1) := by decide +kernel
theorem dX4_move_5 : decode cX4_move 5 = .ok (.getfield 27, 3) := by decide +kernel
theorem dX4_move_8 : decode cX4_move 8 = .ok (.iload_n 1, 1) := by decide +kernel
theorem dX4_move_9 : decode cX4_move 9 = .ok (.iaload, 1) := by decide +kernel
theorem dX4_move_10 : decode cX4_move 10 = .ok (.iconst (-1), 1) := by decide +kernel
theorem dX4_move_11 : decode cX4_move 11 = .ok (.iastore, 1) := by decide +kernel
theorem dX4_move_12 : decode cX4_move 12 = .ok (.aload_n 0, 1) := by decide +kernel
theorem dX4_move_13 : decode cX4_move 13 = .ok (.getfield 27, 3) := by decide +kernel
theorem dX4_move_16 : decode cX4_move 16 = .ok (.iload_n 1, 1) := by decide +kernel
theorem dX4_move_17 : decode cX4_move 17 = .ok (.iload_n 2, 1) := by decide +kernel
theorem dX4_move_18 : decode cX4_move 18 = .ok (.iastore, 1) := by decide +kernel
theorem dX4_move_19 : decode cX4_move 19 = .ok (.aload_n 0, 1) := by decide +kernel
theorem dX4_move_20 : decode cX4_move 20 = .ok (.getfield 43, 3) := by decide +kernel
theorem dX4_move_23 : decode cX4_move 23 = .ok (.iload_n 2, 1) := by decide +kernel
theorem dX4_move_24 : decode cX4_move 24 = .ok (.iload_n 1, 1) := by decide +kernel
theorem dX4_move_25 : decode cX4_move 25 = .ok (.iastore, 1) := by decide +kernel
theorem dX4_move_26 : decode cX4_move 26 = .ok (.return_, 1) := by decide +kernel
theorem dX4_changeCots_0 : decode cX4_changeCots 0 = .ok (.aload_n 0, 1) := by decide +kernel
theorem dX4_changeCots_1 : decode cX4_changeCots 1 = .ok (.getfield 43, 3) := by decide +kernel
theorem dX4_changeCots_4 : decode cX4_changeCots 4 = .ok (.iload_n 1, 1) := by decide +kernel
theorem dX4_changeCots_5 : decode cX4_changeCots 5 = .ok (.iaload, 1) := by decide +kernel
theorem dX4_changeCots_6 : decode cX4_changeCots 6 = .ok (.istore_n 3, 1) := by decide +kernel
theorem dX4_changeCots_7 : decode cX4_changeCots 7 = .ok (.aload_n 0, 1) := by decide +kernel
theorem dX4_changeCots_8 : decode cX4_changeCots 8 = .ok (.getfield 43, 3) := by decide +kernel
theorem dX4_changeCots_11 : decode cX4_changeCots 11 = .ok (.iload_n 2, 1) := by decide +kernel
theorem dX4_changeCots_12 : decode cX4_changeCots 12 = .ok (.iaload, 1) := by decide +kernel
theorem dX4_changeCots_13 : decode cX4_changeCots 13 = .ok (.istore 4, 2) := by decide +kernel
theorem dX4_changeCots_15 : decode cX4_changeCots 15 = .ok (.aload_n 0, 1) := by decide +kernel
theorem dX4_changeCots_16 : decode cX4_changeCots 16 = .ok (.getfield 43, 3) := by decide +kernel
theorem dX4_changeCots_19 : decode cX4_changeCots 19 = .ok (.iload_n 1, 1) := by decide +kernel
theorem dX4_changeCots_20 : decode cX4_changeCots 20 = .ok (.iload 4, 2) := by decide +kernel
theorem dX4_changeCots_22 : decode cX4_changeCots 22 = .ok (.iastore, 1) := by decide +kernel
theorem dX4_changeCots_23 : decode cX4_changeCots 23 = .ok (.aload_n 0, 1) := by decide +kernel
theorem dX4_changeCots_24 : decode cX4_changeCots 24 = .ok (.getfield 43, 3) := by decide +kernel
theorem dX4_changeCots_27 : decode cX4_changeCots 27 = .ok (.iload_n 2, 1) := by decide +kernel
theorem dX4_changeCots_28 : decode cX4_changeCots 28 = .ok (.iload_n 3, 1) := by decide +kernel
theorem dX4_changeCots_29 : decode cX4_changeCots 29 = .ok (.iastore, 1) := by decide +kernel
theorem dX4_changeCots_30 : decode cX4_changeCots 30 = .ok (.iload_n 3, 1) := by decide +kernel
theorem dX4_changeCots_31 : decode cX4_changeCots 31 = .ok (.ifCond .lt 10, 3) := by decide +kernel
theorem dX4_changeCots_34 : decode cX4_changeCots 34 = .ok (.aload_n 0, 1) := by decide +kernel
theorem dX4_changeCots_35 : decode cX4_changeCots 35 = .ok (.getfield 27, 3) := by decide +kernel
theorem dX4_changeCots_38 : decode cX4_changeCots 38 = .ok (.iload_n 3, 1) := by decide +kernel
theorem dX4_changeCots_39 : decode cX4_changeCots 39 = .ok (.iload_n 2, 1) := by decide +kernel
theorem dX4_changeCots_40 : decode cX4_changeCots 40 = .ok (.iastore, 1) := by decide +kernel
theorem dX4_changeCots_41 : decode cX4_changeCots 41 = .ok (.iload 4, 2) := by decide +kernel
theorem dX4_changeCots_43 : decode cX4_changeCots 43 = .ok (.ifCond .lt 11, 3) := by decide +kernel
theorem dX4_changeCots_46 : decode cX4_changeCots 46 = .ok (.aload_n 0, 1) := by decide +kernel
theorem dX4_changeCots_47 : decode cX4_changeCots 47 = .ok (.getfield 27, 3) := by decide +kernel
theorem dX4_changeCots_50 : decode cX4_changeCots 50 = .ok (.iload 4, 2) := by decide +kernel
theorem dX4_changeCots_52 : decode cX4_changeCots 52 = .ok (.iload_n 1, 1) := by decide +kernel
theorem dX4_changeCots_53 : decode cX4_changeCots 53 = .ok (.iastore, 1) := by decide +kernel
theorem dX4_changeCots_54 : decode cX4_changeCots 54 = .ok (.return_, 1) := by decide +kernel
theorem dX4_isAwake_0 : decode cX4_isAwake 0 = .ok (.aload_n 0, 1) := by decide +kernel
theorem dX4_isAwake_1 : decode cX4_isAwake 1 = .ok (.getfield 37, 3) := by decide +kernel
theorem dX4_isAwake_4 : decode cX4_isAwake 4 = .ok (.iload_n 1, 1) := by decide +kernel
theorem dX4_isAwake_5 : decode cX4_isAwake 5 = .ok (.iaload, 1) := by decide +kernel
theorem dX4_isAwake_6 : decode cX4_isAwake 6 = .ok (.aload_n 0, 1) := by decide +kernel
theorem dX4_isAwake_7 : decode cX4_isAwake 7 = .ok (.getfield 18, 3) := by decide +kernel
theorem dX4_isAwake_10 : decode cX4_isAwake 10 = .ok (.if_icmp .le 7, 3) := by decide +kernel
theorem dX4_isAwake_13 : decode cX4_isAwake 13 = .ok (.iconst 1, 1) := by decide +kernel
theorem dX4_isAwake_14 : decode cX4_isAwake 14 = .ok (.goto 4, 3) := by decide +kernel
theorem dX4_isAwake_17 : decode cX4_isAwake 17 = .ok (.iconst 0, 1) := by decide +kernel
theorem dX4_isAwake_18 : decode cX4_isAwake 18 = .ok (.ireturn, 1) := by decide +kernel
theorem dX4_awakeSwords_0 : decode cX4_awakeSwords 0 = .ok (.iconst 0, 1) := by decide +kernel
theorem dX4_awakeSwords_1 : decode cX4_awakeSwords 1 = .ok (.istore_n 1, 1) := by decide +kernel
theorem dX4_awakeSwords_2 : decode cX4_awakeSwords 2 = .ok (.iconst 0, 1) := by decide +kernel
theorem dX4_awakeSwords_3 : decode cX4_awakeSwords 3 = .ok (.istore_n 2, 1) := by decide +kernel
theorem dX4_awakeSwords_4 : decode cX4_awakeSwords 4 = .ok (.iload_n 2, 1) := by decide +kernel
theorem dX4_awakeSwords_5 : decode cX4_awakeSwords 5 = .ok (.aload_n 0, 1) := by decide +kernel
theorem dX4_awakeSwords_6 : decode cX4_awakeSwords 6 = .ok (.getfield 9, 3) := by decide +kernel
theorem dX4_awakeSwords_9 : decode cX4_awakeSwords 9 = .ok (.if_icmp .ge 27, 3) := by decide +kernel
theorem dX4_awakeSwords_12 : decode cX4_awakeSwords 12 = .ok (.iload_n 1, 1) := by decide +kernel
theorem dX4_awakeSwords_13 : decode cX4_awakeSwords 13 = .ok (.aload_n 0, 1) := by decide +kernel
theorem dX4_awakeSwords_14 : decode cX4_awakeSwords 14 = .ok (.iload_n 2, 1) := by decide +kernel
theorem dX4_awakeSwords_15 : decode cX4_awakeSwords 15 = .ok (.invokevirtual 94, 3) := by decide +kernel
theorem dX4_awakeSwords_18 : decode cX4_awakeSwords 18 = .ok (.ifCond .eq 9, 3) := by decide +kernel
theorem dX4_awakeSwords_21 : decode cX4_awakeSwords 21 = .ok (.iconst 1, 1) := by decide +kernel
theorem dX4_awakeSwords_22 : decode cX4_awakeSwords 22 = .ok (.iload_n 2, 1) := by decide +kernel
theorem dX4_awakeSwords_23 : decode cX4_awakeSwords 23 = .ok (.ishl, 1) := by decide +kernel
theorem dX4_awakeSwords_24 : decode cX4_awakeSwords 24 = .ok (.goto 4, 3) := by decide +kernel
theorem dX4_awakeSwords_27 : decode cX4_awakeSwords 27 = .ok (.iconst 0, 1) := by decide +kernel
theorem dX4_awakeSwords_28 : decode cX4_awakeSwords 28 = .ok (.ior, 1) := by decide +kernel
theorem dX4_awakeSwords_29 : decode cX4_awakeSwords 29 = .ok (.istore_n 1, 1) := by decide +kernel
theorem dX4_awakeSwords_30 : decode cX4_awakeSwords 30 = .ok (.iinc 2 1, 3) := by decide +kernel
theorem dX4_awakeSwords_33 : decode cX4_awakeSwords 33 = .ok (.goto (-29), 3) := by decide +kernel
theorem dX4_awakeSwords_36 : decode cX4_awakeSwords 36 = .ok (.iload_n 1, 1) := by decide +kernel
theorem dX4_awakeSwords_37 : decode cX4_awakeSwords 37 = .ok (.ireturn, 1) := by decide +kernel
theorem dX4_awakeCots_0 : decode cX4_awakeCots 0 = .ok (.iconst 0, 1) := by decide +kernel
theorem dX4_awakeCots_1 : decode cX4_awakeCots 1 = .ok (.istore_n 1, 1) := by decide +kernel
theorem dX4_awakeCots_2 : decode cX4_awakeCots 2 = .ok (.iconst 0, 1) := by decide +kernel
theorem dX4_awakeCots_3 : decode cX4_awakeCots 3 = .ok (.istore_n 2, 1) := by decide +kernel
theorem dX4_awakeCots_4 : decode cX4_awakeCots 4 = .ok (.iload_n 2, 1) := by decide +kernel
theorem dX4_awakeCots_5 : decode cX4_awakeCots 5 = .ok (.aload_n 0, 1) := by decide +kernel
theorem dX4_awakeCots_6 : decode cX4_awakeCots 6 = .ok (.getfield 9, 3) := by decide +kernel
theorem dX4_awakeCots_9 : decode cX4_awakeCots 9 = .ok (.if_icmp .ge 32, 3) := by decide +kernel
theorem dX4_awakeCots_12 : decode cX4_awakeCots 12 = .ok (.iload_n 1, 1) := by decide +kernel
theorem dX4_awakeCots_13 : decode cX4_awakeCots 13 = .ok (.aload_n 0, 1) := by decide +kernel
theorem dX4_awakeCots_14 : decode cX4_awakeCots 14 = .ok (.iload_n 2, 1) := by decide +kernel
theorem dX4_awakeCots_15 : decode cX4_awakeCots 15 = .ok (.invokevirtual 94, 3) := by decide +kernel
theorem dX4_awakeCots_18 : decode cX4_awakeCots 18 = .ok (.ifCond .eq 14, 3) := by decide +kernel
theorem dX4_awakeCots_21 : decode cX4_awakeCots 21 = .ok (.iconst 1, 1) := by decide +kernel
theorem dX4_awakeCots_22 : decode cX4_awakeCots 22 = .ok (.aload_n 0, 1) := by decide +kernel
theorem dX4_awakeCots_23 : decode cX4_awakeCots 23 = .ok (.getfield 27, 3) := by decide +kernel
theorem dX4_awakeCots_26 : decode cX4_awakeCots 26 = .ok (.iload_n 2, 1) := by decide +kernel
theorem dX4_awakeCots_27 : decode cX4_awakeCots 27 = .ok (.iaload, 1) := by decide +kernel
theorem dX4_awakeCots_28 : decode cX4_awakeCots 28 = .ok (.ishl, 1) := by decide +kernel
theorem dX4_awakeCots_29 : decode cX4_awakeCots 29 = .ok (.goto 4, 3) := by decide +kernel
theorem dX4_awakeCots_32 : decode cX4_awakeCots 32 = .ok (.iconst 0, 1) := by decide +kernel
theorem dX4_awakeCots_33 : decode cX4_awakeCots 33 = .ok (.ior, 1) := by decide +kernel
theorem dX4_awakeCots_34 : decode cX4_awakeCots 34 = .ok (.istore_n 1, 1) := by decide +kernel
theorem dX4_awakeCots_35 : decode cX4_awakeCots 35 = .ok (.iinc 2 1, 3) := by decide +kernel
theorem dX4_awakeCots_38 : decode cX4_awakeCots 38 = .ok (.goto (-34), 3) := by decide +kernel
theorem dX4_awakeCots_41 : decode cX4_awakeCots 41 = .ok (.iload_n 1, 1) := by decide +kernel
theorem dX4_awakeCots_42 : decode cX4_awakeCots 42 = .ok (.ireturn, 1) := by decide +kernel
theorem dX4_howManyAwake_0 : decode cX4_howManyAwake 0 = .ok (.aload_n 0, 1) := by decide +kernel
theorem dX4_howManyAwake_1 : decode cX4_howManyAwake 1 = .ok (.invokevirtual 97, 3) := by decide +kernel
theorem dX4_howManyAwake_4 : decode cX4_howManyAwake 4 = .ok (.invokestatic 101, 3) := by decide +kernel
theorem dX4_howManyAwake_7 : decode cX4_howManyAwake 7 = .ok (.ireturn, 1) := by decide +kernel
theorem dX4_mindOfAll_0 : decode cX4_mindOfAll 0 = .ok (.iconst 0, 1) := by decide +kernel
theorem dX4_mindOfAll_1 : decode cX4_mindOfAll 1 = .ok (.istore_n 1, 1) := by decide +kernel
theorem dX4_mindOfAll_2 : decode cX4_mindOfAll 2 = .ok (.iconst 0, 1) := by decide +kernel
theorem dX4_mindOfAll_3 : decode cX4_mindOfAll 3 = .ok (.istore_n 2, 1) := by decide +kernel
theorem dX4_mindOfAll_4 : decode cX4_mindOfAll 4 = .ok (.iload_n 2, 1) := by decide +kernel
theorem dX4_mindOfAll_5 : decode cX4_mindOfAll 5 = .ok (.aload_n 0, 1) := by decide +kernel
theorem dX4_mindOfAll_6 : decode cX4_mindOfAll 6 = .ok (.getfield 9, 3) := by decide +kernel
theorem dX4_mindOfAll_9 : decode cX4_mindOfAll 9 = .ok (.if_icmp .ge 18, 3) := by decide +kernel
theorem dX4_mindOfAll_12 : decode cX4_mindOfAll 12 = .ok (.iload_n 1, 1) := by decide +kernel
theorem dX4_mindOfAll_13 : decode cX4_mindOfAll 13 = .ok (.aload_n 0, 1) := by decide +kernel
theorem dX4_mindOfAll_14 : decode cX4_mindOfAll 14 = .ok (.getfield 37, 3) := by decide +kernel
theorem dX4_mindOfAll_17 : decode cX4_mindOfAll 17 = .ok (.iload_n 2, 1) := by decide +kernel
theorem dX4_mindOfAll_18 : decode cX4_mindOfAll 18 = .ok (.iaload, 1) := by decide +kernel
theorem dX4_mindOfAll_19 : decode cX4_mindOfAll 19 = .ok (.iadd, 1) := by decide +kernel
theorem dX4_mindOfAll_20 : decode cX4_mindOfAll 20 = .ok (.istore_n 1, 1) := by decide +kernel
theorem dX4_mindOfAll_21 : decode cX4_mindOfAll 21 = .ok (.iinc 2 1, 3) := by decide +kernel
theorem dX4_mindOfAll_24 : decode cX4_mindOfAll 24 = .ok (.goto (-20), 3) := by decide +kernel
theorem dX4_mindOfAll_27 : decode cX4_mindOfAll 27 = .ok (.iload_n 1, 1) := by decide +kernel
theorem dX4_mindOfAll_28 : decode cX4_mindOfAll 28 = .ok (.ireturn, 1) := by decide +kernel
theorem dX4_growth_0 : decode cX4_growth 0 = .ok (.iload_n 3, 1) := by decide +kernel
theorem dX4_growth_1 : decode cX4_growth 1 = .ok (.getstatic 106, 3) := by decide +kernel
theorem dX4_growth_4 : decode cX4_growth 4 = .ok (.aload_n 0, 1) := by decide +kernel
theorem dX4_growth_5 : decode cX4_growth 5 = .ok (.getfield 27, 3) := by decide +kernel
theorem dX4_growth_8 : decode cX4_growth 8 = .ok (.iload_n 2, 1) := by decide +kernel
theorem dX4_growth_9 : decode cX4_growth 9 = .ok (.iaload, 1) := by decide +kernel
theorem dX4_growth_10 : decode cX4_growth 10 = .ok (.iaload, 1) := by decide +kernel
theorem dX4_growth_11 : decode cX4_growth 11 = .ok (.iand, 1) := by decide +kernel
theorem dX4_growth_12 : decode cX4_growth 12 = .ok (.invokestatic 101, 3) := by decide +kernel
theorem dX4_growth_15 : decode cX4_growth 15 = .ok (.istore 5, 2) := by decide +kernel
theorem dX4_growth_17 : decode cX4_growth 17 = .ok (.aload_n 1, 1) := by decide +kernel
theorem dX4_growth_18 : decode cX4_growth 18 = .ok (.aload_n 0, 1) := by decide +kernel
theorem dX4_growth_19 : decode cX4_growth 19 = .ok (.getfield 31, 3) := by decide +kernel
theorem dX4_growth_22 : decode cX4_growth 22 = .ok (.iload_n 2, 1) := by decide +kernel
theorem dX4_growth_23 : decode cX4_growth 23 = .ok (.iaload, 1) := by decide +kernel
theorem dX4_growth_24 : decode cX4_growth 24 = .ok (.aload_n 0, 1) := by decide +kernel
theorem dX4_growth_25 : decode cX4_growth 25 = .ok (.getfield 34, 3) := by decide +kernel
theorem dX4_growth_28 : decode cX4_growth 28 = .ok (.iload_n 2, 1) := by decide +kernel
theorem dX4_growth_29 : decode cX4_growth 29 = .ok (.iaload, 1) := by decide +kernel
theorem dX4_growth_30 : decode cX4_growth 30 = .ok (.aload_n 0, 1) := by decide +kernel
theorem dX4_growth_31 : decode cX4_growth 31 = .ok (.getfield 37, 3) := by decide +kernel
theorem dX4_growth_34 : decode cX4_growth 34 = .ok (.iload_n 2, 1) := by decide +kernel
theorem dX4_growth_35 : decode cX4_growth 35 = .ok (.iaload, 1) := by decide +kernel
theorem dX4_growth_36 : decode cX4_growth 36 = .ok (.iload 5, 2) := by decide +kernel
theorem dX4_growth_38 : decode cX4_growth 38 = .ok (.iload 4, 2) := by decide +kernel
theorem dX4_growth_40 : decode cX4_growth 40 = .ok (.aload_n 0, 1) := by decide +kernel
theorem dX4_growth_41 : decode cX4_growth 41 = .ok (.getfield 15, 3) := by decide +kernel
theorem dX4_growth_44 : decode cX4_growth 44 = .ok (.invokevirtual 109, 3) := by decide +kernel
theorem dX4_growth_47 : decode cX4_growth 47 = .ok (.ireturn, 1) := by decide +kernel
theorem dX4_growthNow_0 : decode cX4_growthNow 0 = .ok (.aload_n 0, 1) := by decide +kernel
theorem dX4_growthNow_1 : decode cX4_growthNow 1 = .ok (.aload_n 1, 1) := by decide +kernel
theorem dX4_growthNow_2 : decode cX4_growthNow 2 = .ok (.iload_n 2, 1) := by decide +kernel
theorem dX4_growthNow_3 : decode cX4_growthNow 3 = .ok (.aload_n 0, 1) := by decide +kernel
theorem dX4_growthNow_4 : decode cX4_growthNow 4 = .ok (.invokevirtual 115, 3) := by decide +kernel
theorem dX4_growthNow_7 : decode cX4_growthNow 7 = .ok (.aload_n 0, 1) := by decide +kernel
theorem dX4_growthNow_8 : decode cX4_growthNow 8 = .ok (.getfield 27, 3) := by decide +kernel
theorem dX4_growthNow_11 : decode cX4_growthNow 11 = .ok (.iload_n 2, 1) := by decide +kernel
theorem dX4_growthNow_12 : decode cX4_growthNow 12 = .ok (.iaload, 1) := by decide +kernel
theorem dX4_growthNow_13 : decode cX4_growthNow 13 = .ok (.aload_n 0, 1) := by decide +kernel
theorem dX4_growthNow_14 : decode cX4_growthNow 14 = .ok (.getfield 21, 3) := by decide +kernel
theorem dX4_growthNow_17 : decode cX4_growthNow 17 = .ok (.if_icmp .ne 7, 3) := by decide +kernel
theorem dX4_growthNow_20 : decode cX4_growthNow 20 = .ok (.iconst 1, 1) := by decide +kernel
theorem dX4_growthNow_21 : decode cX4_growthNow 21 = .ok (.goto 4, 3) := by decide +kernel
theorem dX4_growthNow_24 : decode cX4_growthNow 24 = .ok (.iconst 0, 1) := by decide +kernel
theorem dX4_growthNow_25 : decode cX4_growthNow 25 = .ok (.invokevirtual 118, 3) := by decide +kernel
theorem dX4_growthNow_28 : decode cX4_growthNow 28 = .ok (.ireturn, 1) := by decide +kernel
theorem dX4_passHour_0 : decode cX4_passHour 0 = .ok (.aload_n 0, 1) := by decide +kernel
theorem dX4_passHour_1 : decode cX4_passHour 1 = .ok (.invokevirtual 115, 3) := by decide +kernel
theorem dX4_passHour_4 : decode cX4_passHour 4 = .ok (.istore_n 3, 1) := by decide +kernel
theorem dX4_passHour_5 : decode cX4_passHour 5 = .ok (.iconst 0, 1) := by decide +kernel
theorem dX4_passHour_6 : decode cX4_passHour 6 = .ok (.istore 4, 2) := by decide +kernel
theorem dX4_passHour_8 : decode cX4_passHour 8 = .ok (.iload 4, 2) := by decide +kernel
theorem dX4_passHour_10 : decode cX4_passHour 10 = .ok (.aload_n 0, 1) := by decide +kernel
theorem dX4_passHour_11 : decode cX4_passHour 11 = .ok (.getfield 9, 3) := by decide +kernel
theorem dX4_passHour_14 : decode cX4_passHour 14 = .ok (.if_icmp .ge 40, 3) := by decide +kernel
theorem dX4_passHour_17 : decode cX4_passHour 17 = .ok (.aload_n 0, 1) := by decide +kernel
theorem dX4_passHour_18 : decode cX4_passHour 18 = .ok (.getfield 46, 3) := by decide +kernel
theorem dX4_passHour_21 : decode cX4_passHour 21 = .ok (.iload 4, 2) := by decide +kernel
theorem dX4_passHour_23 : decode cX4_passHour 23 = .ok (.aload_n 0, 1) := by decide +kernel
theorem dX4_passHour_24 : decode cX4_passHour 24 = .ok (.aload_n 1, 1) := by decide +kernel
theorem dX4_passHour_25 : decode cX4_passHour 25 = .ok (.iload 4, 2) := by decide +kernel
theorem dX4_passHour_27 : decode cX4_passHour 27 = .ok (.iload_n 3, 1) := by decide +kernel
theorem dX4_passHour_28 : decode cX4_passHour 28 = .ok (.aload_n 0, 1) := by decide +kernel
theorem dX4_passHour_29 : decode cX4_passHour 29 = .ok (.getfield 27, 3) := by decide +kernel
theorem dX4_passHour_32 : decode cX4_passHour 32 = .ok (.iload 4, 2) := by decide +kernel
theorem dX4_passHour_34 : decode cX4_passHour 34 = .ok (.iaload, 1) := by decide +kernel
theorem dX4_passHour_35 : decode cX4_passHour 35 = .ok (.iload_n 2, 1) := by decide +kernel
theorem dX4_passHour_36 : decode cX4_passHour 36 = .ok (.if_icmp .ne 7, 3) := by decide +kernel
theorem dX4_passHour_39 : decode cX4_passHour 39 = .ok (.iconst 1, 1) := by decide +kernel
theorem dX4_passHour_40 : decode cX4_passHour 40 = .ok (.goto 4, 3) := by decide +kernel
theorem dX4_passHour_43 : decode cX4_passHour 43 = .ok (.iconst 0, 1) := by decide +kernel
theorem dX4_passHour_44 : decode cX4_passHour 44 = .ok (.invokevirtual 118, 3) := by decide +kernel
theorem dX4_passHour_47 : decode cX4_passHour 47 = .ok (.iastore, 1) := by decide +kernel
theorem dX4_passHour_48 : decode cX4_passHour 48 = .ok (.iinc 4 1, 3) := by decide +kernel
theorem dX4_passHour_51 : decode cX4_passHour 51 = .ok (.goto (-43), 3) := by decide +kernel
theorem dX4_passHour_54 : decode cX4_passHour 54 = .ok (.iconst 0, 1) := by decide +kernel
theorem dX4_passHour_55 : decode cX4_passHour 55 = .ok (.istore 4, 2) := by decide +kernel
theorem dX4_passHour_57 : decode cX4_passHour 57 = .ok (.iload 4, 2) := by decide +kernel
theorem dX4_passHour_59 : decode cX4_passHour 59 = .ok (.aload_n 0, 1) := by decide +kernel
theorem dX4_passHour_60 : decode cX4_passHour 60 = .ok (.getfield 9, 3) := by decide +kernel
theorem dX4_passHour_63 : decode cX4_passHour 63 = .ok (.if_icmp .ge 22, 3) := by decide +kernel
theorem dX4_passHour_66 : decode cX4_passHour 66 = .ok (.aload_n 0, 1) := by decide +kernel
theorem dX4_passHour_67 : decode cX4_passHour 67 = .ok (.iload 4, 2) := by decide +kernel
theorem dX4_passHour_69 : decode cX4_passHour 69 = .ok (.aload_n 0, 1) := by decide +kernel
theorem dX4_passHour_70 : decode cX4_passHour 70 = .ok (.getfield 46, 3) := by decide +kernel
theorem dX4_passHour_73 : decode cX4_passHour 73 = .ok (.iload 4, 2) := by decide +kernel
theorem dX4_passHour_75 : decode cX4_passHour 75 = .ok (.iaload, 1) := by decide +kernel
theorem dX4_passHour_76 : decode cX4_passHour 76 = .ok (.invokevirtual 121, 3) := by decide +kernel
theorem dX4_passHour_79 : decode cX4_passHour 79 = .ok (.iinc 4 1, 3) := by decide +kernel
theorem dX4_passHour_82 : decode cX4_passHour 82 = .ok (.goto (-25), 3) := by decide +kernel
theorem dX4_passHour_85 : decode cX4_passHour 85 = .ok (.aload_n 0, 1) := by decide +kernel
theorem dX4_passHour_86 : decode cX4_passHour 86 = .ok (.aload_n 0, 1) := by decide +kernel
theorem dX4_passHour_87 : decode cX4_passHour 87 = .ok (.getfield 15, 3) := by decide +kernel
theorem dX4_passHour_90 : decode cX4_passHour 90 = .ok (.iconst 1, 1) := by decide +kernel
theorem dX4_passHour_91 : decode cX4_passHour 91 = .ok (.iadd, 1) := by decide +kernel
theorem dX4_passHour_92 : decode cX4_passHour 92 = .ok (.bipush 12, 2) := by decide +kernel
theorem dX4_passHour_94 : decode cX4_passHour 94 = .ok (.irem, 1) := by decide +kernel
theorem dX4_passHour_95 : decode cX4_passHour 95 = .ok (.putfield 15, 3) := by decide +kernel
theorem dX4_passHour_98 : decode cX4_passHour 98 = .ok (.return_, 1) := by decide +kernel
theorem dX4_grow_0 : decode cX4_grow 0 = .ok (.aload_n 0, 1) := by decide +kernel
theorem dX4_grow_1 : decode cX4_grow 1 = .ok (.getfield 37, 3) := by decide +kernel
theorem dX4_grow_4 : decode cX4_grow 4 = .ok (.iload_n 1, 1) := by decide +kernel
theorem dX4_grow_5 : decode cX4_grow 5 = .ok (.aload_n 0, 1) := by decide +kernel
theorem dX4_grow_6 : decode cX4_grow 6 = .ok (.getfield 37, 3) := by decide +kernel
theorem dX4_grow_9 : decode cX4_grow 9 = .ok (.iload_n 1, 1) := by decide +kernel
theorem dX4_grow_10 : decode cX4_grow 10 = .ok (.iaload, 1) := by decide +kernel
theorem dX4_grow_11 : decode cX4_grow 11 = .ok (.iload_n 2, 1) := by decide +kernel
theorem dX4_grow_12 : decode cX4_grow 12 = .ok (.iadd, 1) := by decide +kernel
theorem dX4_grow_13 : decode cX4_grow 13 = .ok (.iconst 3, 1) := by decide +kernel
theorem dX4_grow_14 : decode cX4_grow 14 = .ok (.aload_n 0, 1) := by decide +kernel
theorem dX4_grow_15 : decode cX4_grow 15 = .ok (.getfield 40, 3) := by decide +kernel
theorem dX4_grow_18 : decode cX4_grow 18 = .ok (.iload_n 1, 1) := by decide +kernel
theorem dX4_grow_19 : decode cX4_grow 19 = .ok (.iaload, 1) := by decide +kernel
theorem dX4_grow_20 : decode cX4_grow 20 = .ok (.imul, 1) := by decide +kernel
theorem dX4_grow_21 : decode cX4_grow 21 = .ok (.isub, 1) := by decide +kernel
theorem dX4_grow_22 : decode cX4_grow 22 = .ok (.iconst 0, 1) := by decide +kernel
theorem dX4_grow_23 : decode cX4_grow 23 = .ok (.bipush 99, 2) := by decide +kernel
theorem dX4_grow_25 : decode cX4_grow 25 = .ok (.invokestatic 124, 3) := by decide +kernel
theorem dX4_grow_28 : decode cX4_grow 28 = .ok (.iastore, 1) := by decide +kernel
theorem dX4_grow_29 : decode cX4_grow 29 = .ok (.return_, 1) := by decide +kernel
theorem dX4_foresee_0 : decode cX4_foresee 0 = .ok (.aload_n 0, 1) := by decide +kernel
theorem dX4_foresee_1 : decode cX4_foresee 1 = .ok (.invokevirtual 115, 3) := by decide +kernel
theorem dX4_foresee_4 : decode cX4_foresee 4 = .ok (.istore_n 2, 1) := by decide +kernel
theorem dX4_foresee_5 : decode cX4_foresee 5 = .ok (.iconst 0, 1) := by decide +kernel
theorem dX4_foresee_6 : decode cX4_foresee 6 = .ok (.istore_n 3, 1) := by decide +kernel
theorem dX4_foresee_7 : decode cX4_foresee 7 = .ok (.iload_n 3, 1) := by decide +kernel
theorem dX4_foresee_8 : decode cX4_foresee 8 = .ok (.aload_n 0, 1) := by decide +kernel
theorem dX4_foresee_9 : decode cX4_foresee 9 = .ok (.getfield 9, 3) := by decide +kernel
theorem dX4_foresee_12 : decode cX4_foresee 12 = .ok (.if_icmp .ge 37, 3) := by decide +kernel
theorem dX4_foresee_15 : decode cX4_foresee 15 = .ok (.aload_n 0, 1) := by decide +kernel
theorem dX4_foresee_16 : decode cX4_foresee 16 = .ok (.getfield 46, 3) := by decide +kernel
theorem dX4_foresee_19 : decode cX4_foresee 19 = .ok (.iload_n 3, 1) := by decide +kernel
theorem dX4_foresee_20 : decode cX4_foresee 20 = .ok (.aload_n 0, 1) := by decide +kernel
theorem dX4_foresee_21 : decode cX4_foresee 21 = .ok (.aload_n 1, 1) := by decide +kernel
theorem dX4_foresee_22 : decode cX4_foresee 22 = .ok (.iload_n 3, 1) := by decide +kernel
theorem dX4_foresee_23 : decode cX4_foresee 23 = .ok (.iload_n 2, 1) := by decide +kernel
theorem dX4_foresee_24 : decode cX4_foresee 24 = .ok (.iconst 0, 1) := by decide +kernel
theorem dX4_foresee_25 : decode cX4_foresee 25 = .ok (.invokevirtual 118, 3) := by decide +kernel
theorem dX4_foresee_28 : decode cX4_foresee 28 = .ok (.iastore, 1) := by decide +kernel
theorem dX4_foresee_29 : decode cX4_foresee 29 = .ok (.aload_n 0, 1) := by decide +kernel
theorem dX4_foresee_30 : decode cX4_foresee 30 = .ok (.getfield 49, 3) := by decide +kernel
theorem dX4_foresee_33 : decode cX4_foresee 33 = .ok (.iload_n 3, 1) := by decide +kernel
theorem dX4_foresee_34 : decode cX4_foresee 34 = .ok (.aload_n 0, 1) := by decide +kernel
theorem dX4_foresee_35 : decode cX4_foresee 35 = .ok (.aload_n 1, 1) := by decide +kernel
theorem dX4_foresee_36 : decode cX4_foresee 36 = .ok (.iload_n 3, 1) := by decide +kernel
theorem dX4_foresee_37 : decode cX4_foresee 37 = .ok (.iload_n 2, 1) := by decide +kernel
theorem dX4_foresee_38 : decode cX4_foresee 38 = .ok (.iconst 1, 1) := by decide +kernel
theorem dX4_foresee_39 : decode cX4_foresee 39 = .ok (.invokevirtual 118, 3) := by decide +kernel
theorem dX4_foresee_42 : decode cX4_foresee 42 = .ok (.iastore, 1) := by decide +kernel
theorem dX4_foresee_43 : decode cX4_foresee 43 = .ok (.iinc 3 1, 3) := by decide +kernel
theorem dX4_foresee_46 : decode cX4_foresee 46 = .ok (.goto (-39), 3) := by decide +kernel
theorem dX4_foresee_49 : decode cX4_foresee 49 = .ok (.return_, 1) := by decide +kernel
theorem dX4_passHourBehind_0 : decode cX4_passHourBehind 0 = .ok (.aload_n 0, 1) := by decide +kernel
theorem dX4_passHourBehind_1 : decode cX4_passHourBehind 1 = .ok (.aload_n 1, 1) := by decide +kernel
theorem dX4_passHourBehind_2 : decode cX4_passHourBehind 2 = .ok (.invokevirtual 61, 3) := by decide +kernel
theorem dX4_passHourBehind_5 : decode cX4_passHourBehind 5 = .ok (.iconst 0, 1) := by decide +kernel
theorem dX4_passHourBehind_6 : decode cX4_passHourBehind 6 = .ok (.istore_n 3, 1) := by decide +kernel
theorem dX4_passHourBehind_7 : decode cX4_passHourBehind 7 = .ok (.iload_n 3, 1) := by decide +kernel
theorem dX4_passHourBehind_8 : decode cX4_passHourBehind 8 = .ok (.aload_n 0, 1) := by decide +kernel
theorem dX4_passHourBehind_9 : decode cX4_passHourBehind 9 = .ok (.getfield 9, 3) := by decide +kernel
theorem dX4_passHourBehind_12 : decode cX4_passHourBehind 12 = .ok (.if_icmp .ge 39, 3) := by decide +kernel
theorem dX4_passHourBehind_15 : decode cX4_passHourBehind 15 = .ok (.aload_n 0, 1) := by decide +kernel
theorem dX4_passHourBehind_16 : decode cX4_passHourBehind 16 = .ok (.iload_n 3, 1) := by decide +kernel
theorem dX4_passHourBehind_17 : decode cX4_passHourBehind 17 = .ok (.aload_n 0, 1) := by decide +kernel
theorem dX4_passHourBehind_18 : decode cX4_passHourBehind 18 = .ok (.getfield 27, 3) := by decide +kernel
theorem dX4_passHourBehind_21 : decode cX4_passHourBehind 21 = .ok (.iload_n 3, 1) := by decide +kernel
theorem dX4_passHourBehind_22 : decode cX4_passHourBehind 22 = .ok (.iaload, 1) := by decide +kernel
theorem dX4_passHourBehind_23 : decode cX4_passHourBehind 23 = .ok (.iload_n 2, 1) := by decide +kernel
theorem dX4_passHourBehind_24 : decode cX4_passHourBehind 24 = .ok (.if_icmp .ne 12, 3) := by decide +kernel
theorem dX4_passHourBehind_27 : decode cX4_passHourBehind 27 = .ok (.aload_n 1, 1) := by decide +kernel
theorem dX4_passHourBehind_28 : decode cX4_passHourBehind 28 = .ok (.getfield 49, 3) := by decide +kernel
theorem dX4_passHourBehind_31 : decode cX4_passHourBehind 31 = .ok (.iload_n 3, 1) := by decide +kernel
theorem dX4_passHourBehind_32 : decode cX4_passHourBehind 32 = .ok (.iaload, 1) := by decide +kernel
theorem dX4_passHourBehind_33 : decode cX4_passHourBehind 33 = .ok (.goto 9, 3) := by decide +kernel
theorem dX4_passHourBehind_36 : decode cX4_passHourBehind 36 = .ok (.aload_n 1, 1) := by decide +kernel
theorem dX4_passHourBehind_37 : decode cX4_passHourBehind 37 = .ok (.getfield 46, 3) := by decide +kernel
theorem dX4_passHourBehind_40 : decode cX4_passHourBehind 40 = .ok (.iload_n 3, 1) := by decide +kernel
theorem dX4_passHourBehind_41 : decode cX4_passHourBehind 41 = .ok (.iaload, 1) := by decide +kernel
theorem dX4_passHourBehind_42 : decode cX4_passHourBehind 42 = .ok (.invokevirtual 121, 3) := by decide +kernel
theorem dX4_passHourBehind_45 : decode cX4_passHourBehind 45 = .ok (.iinc 3 1, 3) := by decide +kernel
theorem dX4_passHourBehind_48 : decode cX4_passHourBehind 48 = .ok (.goto (-41), 3) := by decide +kernel
theorem dX4_passHourBehind_51 : decode cX4_passHourBehind 51 = .ok (.aload_n 0, 1) := by decide +kernel
theorem dX4_passHourBehind_52 : decode cX4_passHourBehind 52 = .ok (.aload_n 0, 1) := by decide +kernel
theorem dX4_passHourBehind_53 : decode cX4_passHourBehind 53 = .ok (.getfield 15, 3) := by decide +kernel
theorem dX4_passHourBehind_56 : decode cX4_passHourBehind 56 = .ok (.iconst 1, 1) := by decide +kernel
theorem dX4_passHourBehind_57 : decode cX4_passHourBehind 57 = .ok (.iadd, 1) := by decide +kernel
theorem dX4_passHourBehind_58 : decode cX4_passHourBehind 58 = .ok (.bipush 12, 2) := by decide +kernel
theorem dX4_passHourBehind_60 : decode cX4_passHourBehind 60 = .ok (.irem, 1) := by decide +kernel
theorem dX4_passHourBehind_61 : decode cX4_passHourBehind 61 = .ok (.putfield 15, 3) := by decide +kernel
theorem dX4_passHourBehind_64 : decode cX4_passHourBehind 64 = .ok (.return_, 1) := by decide +kernel
theorem dX4_tellAt_0 : decode cX4_tellAt 0 = .ok (.aload_n 0, 1) := by decide +kernel
theorem dX4_tellAt_1 : decode cX4_tellAt 1 = .ok (.getfield 43, 3) := by decide +kernel
theorem dX4_tellAt_4 : decode cX4_tellAt 4 = .ok (.iload_n 1, 1) := by decide +kernel
theorem dX4_tellAt_5 : decode cX4_tellAt 5 = .ok (.iaload, 1) := by decide +kernel
theorem dX4_tellAt_6 : decode cX4_tellAt 6 = .ok (.istore_n 3, 1) := by decide +kernel
theorem dX4_tellAt_7 : decode cX4_tellAt 7 = .ok (.iload_n 3, 1) := by decide +kernel
theorem dX4_tellAt_8 : decode cX4_tellAt 8 = .ok (.ifCond .ge 4, 3) := by decide +kernel
theorem dX4_tellAt_11 : decode cX4_tellAt 11 = .ok (.return_, 1) := by decide +kernel
theorem dX4_tellAt_12 : decode cX4_tellAt 12 = .ok (.aload_n 0, 1) := by decide +kernel
theorem dX4_tellAt_13 : decode cX4_tellAt 13 = .ok (.getfield 31, 3) := by decide +kernel
theorem dX4_tellAt_16 : decode cX4_tellAt 16 = .ok (.iload_n 3, 1) := by decide +kernel
theorem dX4_tellAt_17 : decode cX4_tellAt 17 = .ok (.iaload, 1) := by decide +kernel
theorem dX4_tellAt_18 : decode cX4_tellAt 18 = .ok (.iload_n 2, 1) := by decide +kernel
theorem dX4_tellAt_19 : decode cX4_tellAt 19 = .ok (.if_icmp .gt 16, 3) := by decide +kernel
theorem dX4_tellAt_22 : decode cX4_tellAt 22 = .ok (.aload_n 0, 1) := by decide +kernel
theorem dX4_tellAt_23 : decode cX4_tellAt 23 = .ok (.getfield 37, 3) := by decide +kernel
theorem dX4_tellAt_26 : decode cX4_tellAt 26 = .ok (.iload_n 3, 1) := by decide +kernel
theorem dX4_tellAt_27 : decode cX4_tellAt 27 = .ok (.iaload, 1) := by decide +kernel
theorem dX4_tellAt_28 : decode cX4_tellAt 28 = .ok (.iconst 2, 1) := by decide +kernel
theorem dX4_tellAt_29 : decode cX4_tellAt 29 = .ok (.iload_n 2, 1) := by decide +kernel
theorem dX4_tellAt_30 : decode cX4_tellAt 30 = .ok (.imul, 1) := by decide +kernel
theorem dX4_tellAt_31 : decode cX4_tellAt 31 = .ok (.isub, 1) := by decide +kernel
theorem dX4_tellAt_32 : decode cX4_tellAt 32 = .ok (.goto 11, 3) := by decide +kernel
theorem dX4_tellAt_35 : decode cX4_tellAt 35 = .ok (.aload_n 0, 1) := by decide +kernel
theorem dX4_tellAt_36 : decode cX4_tellAt 36 = .ok (.getfield 37, 3) := by decide +kernel
theorem dX4_tellAt_39 : decode cX4_tellAt 39 = .ok (.iload_n 3, 1) := by decide +kernel
theorem dX4_tellAt_40 : decode cX4_tellAt 40 = .ok (.iaload, 1) := by decide +kernel
theorem dX4_tellAt_41 : decode cX4_tellAt 41 = .ok (.iload_n 2, 1) := by decide +kernel
theorem dX4_tellAt_42 : decode cX4_tellAt 42 = .ok (.iadd, 1) := by decide +kernel
theorem dX4_tellAt_43 : decode cX4_tellAt 43 = .ok (.istore 4, 2) := by decide +kernel
theorem dX4_tellAt_45 : decode cX4_tellAt 45 = .ok (.aload_n 0, 1) := by decide +kernel
theorem dX4_tellAt_46 : decode cX4_tellAt 46 = .ok (.getfield 37, 3) := by decide +kernel
theorem dX4_tellAt_49 : decode cX4_tellAt 49 = .ok (.iload_n 3, 1) := by decide +kernel
theorem dX4_tellAt_50 : decode cX4_tellAt 50 = .ok (.iload 4, 2) := by decide +kernel
theorem dX4_tellAt_52 : decode cX4_tellAt 52 = .ok (.iconst 0, 1) := by decide +kernel
theorem dX4_tellAt_53 : decode cX4_tellAt 53 = .ok (.bipush 99, 2) := by decide +kernel
theorem dX4_tellAt_55 : decode cX4_tellAt 55 = .ok (.invokestatic 124, 3) := by decide +kernel
theorem dX4_tellAt_58 : decode cX4_tellAt 58 = .ok (.iastore, 1) := by decide +kernel
theorem dX4_tellAt_59 : decode cX4_tellAt 59 = .ok (.return_, 1) := by decide +kernel
theorem dX4_touchFrom_0 : decode cX4_touchFrom 0 = .ok (.aload_n 0, 1) := by decide +kernel
theorem dX4_touchFrom_1 : decode cX4_touchFrom 1 = .ok (.iconst 0, 1) := by decide +kernel
theorem dX4_touchFrom_2 : decode cX4_touchFrom 2 = .ok (.putfield 24, 3) := by decide +kernel
theorem dX4_touchFrom_5 : decode cX4_touchFrom 5 = .ok (.iconst 0, 1) := by decide +kernel
theorem dX4_touchFrom_6 : decode cX4_touchFrom 6 = .ok (.istore_n 2, 1) := by decide +kernel
theorem dX4_touchFrom_7 : decode cX4_touchFrom 7 = .ok (.iconst 1, 1) := by decide +kernel
theorem dX4_touchFrom_8 : decode cX4_touchFrom 8 = .ok (.iload_n 1, 1) := by decide +kernel
theorem dX4_touchFrom_9 : decode cX4_touchFrom 9 = .ok (.ishl, 1) := by decide +kernel
theorem dX4_touchFrom_10 : decode cX4_touchFrom 10 = .ok (.istore_n 3, 1) := by decide +kernel
theorem dX4_touchFrom_11 : decode cX4_touchFrom 11 = .ok (.aload_n 0, 1) := by decide +kernel
theorem dX4_touchFrom_12 : decode cX4_touchFrom 12 = .ok (.getfield 43, 3) := by decide +kernel
theorem dX4_touchFrom_15 : decode cX4_touchFrom 15 = .ok (.iload_n 1, 1) := by decide +kernel
theorem dX4_touchFrom_16 : decode cX4_touchFrom 16 = .ok (.iaload, 1) := by decide +kernel
theorem dX4_touchFrom_17 : decode cX4_touchFrom 17 = .ok (.ifCond .lt 13, 3) := by decide +kernel
theorem dX4_touchFrom_20 : decode cX4_touchFrom 20 = .ok (.aload_n 0, 1) := by decide +kernel
theorem dX4_touchFrom_21 : decode cX4_touchFrom 21 = .ok (.getfield 52, 3) := by decide +kernel
theorem dX4_touchFrom_24 : decode cX4_touchFrom 24 = .ok (.iload_n 2, 1) := by decide +kernel
theorem dX4_touchFrom_25 : decode cX4_touchFrom 25 = .ok (.iinc 2 1, 3) := by decide +kernel
theorem dX4_touchFrom_28 : decode cX4_touchFrom 28 = .ok (.iload_n 1, 1) := by decide +kernel
theorem dX4_touchFrom_29 : decode cX4_touchFrom 29 = .ok (.iastore, 1) := by decide +kernel
theorem dX4_touchFrom_30 : decode cX4_touchFrom 30 = .ok (.iconst 0, 1) := by decide +kernel
theorem dX4_touchFrom_31 : decode cX4_touchFrom 31 = .ok (.istore 4, 2) := by decide +kernel
theorem dX4_touchFrom_33 : decode cX4_touchFrom 33 = .ok (.iload 4, 2) := by decide +kernel
theorem dX4_touchFrom_35 : decode cX4_touchFrom 35 = .ok (.iload_n 2, 1) := by decide +kernel
theorem dX4_touchFrom_36 : decode cX4_touchFrom 36 = .ok (.if_icmp .ge 122, 3) := by decide +kernel
theorem dX4_touchFrom_39 : decode cX4_touchFrom 39 = .ok (.iload 4, 2) := by decide +kernel
theorem dX4_touchFrom_41 : decode cX4_touchFrom 41 = .ok (.bipush 12, 2) := by decide +kernel
theorem dX4_touchFrom_43 : decode cX4_touchFrom 43 = .ok (.if_icmp .ge 115, 3) := by decide +kernel
theorem dX4_touchFrom_46 : decode cX4_touchFrom 46 = .ok (.aload_n 0, 1) := by decide +kernel
theorem dX4_touchFrom_47 : decode cX4_touchFrom 47 = .ok (.getfield 52, 3) := by decide +kernel
theorem dX4_touchFrom_50 : decode cX4_touchFrom 50 = .ok (.iload 4, 2) := by decide +kernel
theorem dX4_touchFrom_52 : decode cX4_touchFrom 52 = .ok (.iaload, 1) := by decide +kernel
theorem dX4_touchFrom_53 : decode cX4_touchFrom 53 = .ok (.istore 5, 2) := by decide +kernel
theorem dX4_touchFrom_55 : decode cX4_touchFrom 55 = .ok (.aload_n 0, 1) := by decide +kernel
theorem dX4_touchFrom_56 : decode cX4_touchFrom 56 = .ok (.aload_n 0, 1) := by decide +kernel
theorem dX4_touchFrom_57 : decode cX4_touchFrom 57 = .ok (.getfield 43, 3) := by decide +kernel
theorem dX4_touchFrom_60 : decode cX4_touchFrom 60 = .ok (.iload 5, 2) := by decide +kernel
theorem dX4_touchFrom_62 : decode cX4_touchFrom 62 = .ok (.iaload, 1) := by decide +kernel
theorem dX4_touchFrom_63 : decode cX4_touchFrom 63 = .ok (.invokevirtual 127, 3) := by decide +kernel
theorem dX4_touchFrom_66 : decode cX4_touchFrom 66 = .ok (.ifCond .ne 6, 3) := by decide +kernel
theorem dX4_touchFrom_69 : decode cX4_touchFrom 69 = .ok (.goto 83, 3) := by decide +kernel
theorem dX4_touchFrom_72 : decode cX4_touchFrom 72 = .ok (.iconst 0, 1) := by decide +kernel
theorem dX4_touchFrom_73 : decode cX4_touchFrom 73 = .ok (.istore 6, 2) := by decide +kernel
theorem dX4_touchFrom_75 : decode cX4_touchFrom 75 = .ok (.iload 6, 2) := by decide +kernel
theorem dX4_touchFrom_77 : decode cX4_touchFrom 77 = .ok (.bipush 12, 2) := by decide +kernel
theorem dX4_touchFrom_79 : decode cX4_touchFrom 79 = .ok (.if_icmp .ge 73, 3) := by decide +kernel
theorem dX4_touchFrom_82 : decode cX4_touchFrom 82 = .ok (.getstatic 106, 3) := by decide +kernel
theorem dX4_touchFrom_85 : decode cX4_touchFrom 85 = .ok (.iload 5, 2) := by decide +kernel
theorem dX4_touchFrom_87 : decode cX4_touchFrom 87 = .ok (.iaload, 1) := by decide +kernel
theorem dX4_touchFrom_88 : decode cX4_touchFrom 88 = .ok (.iload_n 3, 1) := by decide +kernel
theorem dX4_touchFrom_89 : decode cX4_touchFrom 89 = .ok (.iconst (-1), 1) := by decide +kernel
end
section
theorem dX4_touchFrom_90 : decode cX4_touchFrom 90 = .ok (.ixor, 1) := by decide +kernel
theorem dX4_touchFrom_91 : decode cX4_touchFrom 91 = .ok (.iand, 1) := by decide +kernel
theorem dX4_touchFrom_92 : decode cX4_touchFrom 92 = .ok (.iconst 1, 1) := by decide +kernel
theorem dX4_touchFrom_93 : decode cX4_touchFrom 93 = .ok (.iload 6, 2) := by decide +kernel
theorem dX4_touchFrom_95 : decode cX4_touchFrom 95 = .ok (.ishl, 1) := by decide +kernel
theorem dX4_touchFrom_96 : decode cX4_touchFrom 96 = .ok (.iand, 1) := by decide +kernel
theorem dX4_touchFrom_97 : decode cX4_touchFrom 97 = .ok (.ifCond .eq 7, 3) := by decide +kernel
theorem dX4_touchFrom_100 : decode cX4_touchFrom 100 = .ok (.iconst 1, 1) := by decide +kernel
theorem dX4_touchFrom_101 : decode cX4_touchFrom 101 = .ok (.goto 4, 3) := by decide +kernel
theorem dX4_touchFrom_104 : decode cX4_touchFrom 104 = .ok (.iconst 0, 1) := by decide +kernel
theorem dX4_touchFrom_105 : decode cX4_touchFrom 105 = .ok (.istore 7, 2) := by decide +kernel
theorem dX4_touchFrom_107 : decode cX4_touchFrom 107 = .ok (.iload 7, 2) := by decide +kernel
theorem dX4_touchFrom_109 : decode cX4_touchFrom 109 = .ok (.ifCond .eq 37, 3) := by decide +kernel
theorem dX4_touchFrom_112 : decode cX4_touchFrom 112 = .ok (.aload_n 0, 1) := by decide +kernel
theorem dX4_touchFrom_113 : decode cX4_touchFrom 113 = .ok (.getfield 43, 3) := by decide +kernel
theorem dX4_touchFrom_116 : decode cX4_touchFrom 116 = .ok (.iload 6, 2) := by decide +kernel
theorem dX4_touchFrom_118 : decode cX4_touchFrom 118 = .ok (.iaload, 1) := by decide +kernel
theorem dX4_touchFrom_119 : decode cX4_touchFrom 119 = .ok (.ifCond .lt 27, 3) := by decide +kernel
theorem dX4_touchFrom_122 : decode cX4_touchFrom 122 = .ok (.iload_n 2, 1) := by decide +kernel
theorem dX4_touchFrom_123 : decode cX4_touchFrom 123 = .ok (.bipush 12, 2) := by decide +kernel
theorem dX4_touchFrom_125 : decode cX4_touchFrom 125 = .ok (.if_icmp .ge 21, 3) := by decide +kernel
theorem dX4_touchFrom_128 : decode cX4_touchFrom 128 = .ok (.aload_n 0, 1) := by decide +kernel
theorem dX4_touchFrom_129 : decode cX4_touchFrom 129 = .ok (.getfield 52, 3) := by decide +kernel
theorem dX4_touchFrom_132 : decode cX4_touchFrom 132 = .ok (.iload_n 2, 1) := by decide +kernel
theorem dX4_touchFrom_133 : decode cX4_touchFrom 133 = .ok (.iinc 2 1, 3) := by decide +kernel
theorem dX4_touchFrom_136 : decode cX4_touchFrom 136 = .ok (.iload 6, 2) := by decide +kernel
theorem dX4_touchFrom_138 : decode cX4_touchFrom 138 = .ok (.iastore, 1) := by decide +kernel
theorem dX4_touchFrom_139 : decode cX4_touchFrom 139 = .ok (.iload_n 3, 1) := by decide +kernel
theorem dX4_touchFrom_140 : decode cX4_touchFrom 140 = .ok (.iconst 1, 1) := by decide +kernel
theorem dX4_touchFrom_141 : decode cX4_touchFrom 141 = .ok (.iload 6, 2) := by decide +kernel
theorem dX4_touchFrom_143 : decode cX4_touchFrom 143 = .ok (.ishl, 1) := by decide +kernel
theorem dX4_touchFrom_144 : decode cX4_touchFrom 144 = .ok (.ior, 1) := by decide +kernel
theorem dX4_touchFrom_145 : decode cX4_touchFrom 145 = .ok (.istore_n 3, 1) := by decide +kernel
theorem dX4_touchFrom_146 : decode cX4_touchFrom 146 = .ok (.iinc 6 1, 3) := by decide +kernel
theorem dX4_touchFrom_149 : decode cX4_touchFrom 149 = .ok (.goto (-74), 3) := by decide +kernel
theorem dX4_touchFrom_152 : decode cX4_touchFrom 152 = .ok (.iinc 4 1, 3) := by decide +kernel
theorem dX4_touchFrom_155 : decode cX4_touchFrom 155 = .ok (.goto (-122), 3) := by decide +kernel
theorem dX4_touchFrom_158 : decode cX4_touchFrom 158 = .ok (.iload_n 2, 1) := by decide +kernel
theorem dX4_touchFrom_159 : decode cX4_touchFrom 159 = .ok (.ireturn, 1) := by decide +kernel
theorem dX4_isWokenByTouch_0 : decode cX4_isWokenByTouch 0 = .ok (.aload_n 0, 1) := by decide +kernel
theorem dX4_isWokenByTouch_1 : decode cX4_isWokenByTouch 1 = .ok (.iload_n 1, 1) := by decide +kernel
theorem dX4_isWokenByTouch_2 : decode cX4_isWokenByTouch 2 = .ok (.invokevirtual 94, 3) := by decide +kernel
theorem dX4_isWokenByTouch_5 : decode cX4_isWokenByTouch 5 = .ok (.istore_n 2, 1) := by decide +kernel
theorem dX4_isWokenByTouch_6 : decode cX4_isWokenByTouch 6 = .ok (.aload_n 0, 1) := by decide +kernel
theorem dX4_isWokenByTouch_7 : decode cX4_isWokenByTouch 7 = .ok (.getfield 37, 3) := by decide +kernel
theorem dX4_isWokenByTouch_10 : decode cX4_isWokenByTouch 10 = .ok (.iload_n 1, 1) := by decide +kernel
theorem dX4_isWokenByTouch_11 : decode cX4_isWokenByTouch 11 = .ok (.bipush 99, 2) := by decide +kernel
theorem dX4_isWokenByTouch_13 : decode cX4_isWokenByTouch 13 = .ok (.aload_n 0, 1) := by decide +kernel
theorem dX4_isWokenByTouch_14 : decode cX4_isWokenByTouch 14 = .ok (.getfield 37, 3) := by decide +kernel
theorem dX4_isWokenByTouch_17 : decode cX4_isWokenByTouch 17 = .ok (.iload_n 1, 1) := by decide +kernel
theorem dX4_isWokenByTouch_18 : decode cX4_isWokenByTouch 18 = .ok (.iaload, 1) := by decide +kernel
theorem dX4_isWokenByTouch_19 : decode cX4_isWokenByTouch 19 = .ok (.bipush 15, 2) := by decide +kernel
theorem dX4_isWokenByTouch_21 : decode cX4_isWokenByTouch 21 = .ok (.iadd, 1) := by decide +kernel
theorem dX4_isWokenByTouch_22 : decode cX4_isWokenByTouch 22 = .ok (.invokestatic 130, 3) := by decide +kernel
theorem dX4_isWokenByTouch_25 : decode cX4_isWokenByTouch 25 = .ok (.iastore, 1) := by decide +kernel
theorem dX4_isWokenByTouch_26 : decode cX4_isWokenByTouch 26 = .ok (.iload_n 2, 1) := by decide +kernel
theorem dX4_isWokenByTouch_27 : decode cX4_isWokenByTouch 27 = .ok (.ifCond .ne 15, 3) := by decide +kernel
theorem dX4_isWokenByTouch_30 : decode cX4_isWokenByTouch 30 = .ok (.aload_n 0, 1) := by decide +kernel
theorem dX4_isWokenByTouch_31 : decode cX4_isWokenByTouch 31 = .ok (.iload_n 1, 1) := by decide +kernel
theorem dX4_isWokenByTouch_32 : decode cX4_isWokenByTouch 32 = .ok (.invokevirtual 94, 3) := by decide +kernel
theorem dX4_isWokenByTouch_35 : decode cX4_isWokenByTouch 35 = .ok (.ifCond .eq 7, 3) := by decide +kernel
theorem dX4_isWokenByTouch_38 : decode cX4_isWokenByTouch 38 = .ok (.iconst 1, 1) := by decide +kernel
theorem dX4_isWokenByTouch_39 : decode cX4_isWokenByTouch 39 = .ok (.goto 4, 3) := by decide +kernel
theorem dX4_isWokenByTouch_42 : decode cX4_isWokenByTouch 42 = .ok (.iconst 0, 1) := by decide +kernel
theorem dX4_isWokenByTouch_43 : decode cX4_isWokenByTouch 43 = .ok (.istore_n 3, 1) := by decide +kernel
theorem dX4_isWokenByTouch_44 : decode cX4_isWokenByTouch 44 = .ok (.aload_n 0, 1) := by decide +kernel
theorem dX4_isWokenByTouch_45 : decode cX4_isWokenByTouch 45 = .ok (.dup, 1) := by decide +kernel
theorem dX4_isWokenByTouch_46 : decode cX4_isWokenByTouch 46 = .ok (.getfield 24, 3) := by decide +kernel
theorem dX4_isWokenByTouch_49 : decode cX4_isWokenByTouch 49 = .ok (.iload_n 3, 1) := by decide +kernel
theorem dX4_isWokenByTouch_50 : decode cX4_isWokenByTouch 50 = .ok (.ifCond .eq 9, 3) := by decide +kernel
theorem dX4_isWokenByTouch_53 : decode cX4_isWokenByTouch 53 = .ok (.iconst 1, 1) := by decide +kernel
theorem dX4_isWokenByTouch_54 : decode cX4_isWokenByTouch 54 = .ok (.iload_n 1, 1) := by decide +kernel
theorem dX4_isWokenByTouch_55 : decode cX4_isWokenByTouch 55 = .ok (.ishl, 1) := by decide +kernel
theorem dX4_isWokenByTouch_56 : decode cX4_isWokenByTouch 56 = .ok (.goto 4, 3) := by decide +kernel
theorem dX4_isWokenByTouch_59 : decode cX4_isWokenByTouch 59 = .ok (.iconst 0, 1) := by decide +kernel
theorem dX4_isWokenByTouch_60 : decode cX4_isWokenByTouch 60 = .ok (.ior, 1) := by decide +kernel
theorem dX4_isWokenByTouch_61 : decode cX4_isWokenByTouch 61 = .ok (.putfield 24, 3) := by decide +kernel
theorem dX4_isWokenByTouch_64 : decode cX4_isWokenByTouch 64 = .ok (.iload_n 3, 1) := by decide +kernel
theorem dX4_isWokenByTouch_65 : decode cX4_isWokenByTouch 65 = .ok (.ireturn, 1) := by decide +kernel
theorem dX4_mindWhenTold_0 : decode cX4_mindWhenTold 0 = .ok (.iconst 0, 1) := by decide +kernel
theorem dX4_mindWhenTold_1 : decode cX4_mindWhenTold 1 = .ok (.aload_n 0, 1) := by decide +kernel
theorem dX4_mindWhenTold_2 : decode cX4_mindWhenTold 2 = .ok (.getfield 37, 3) := by decide +kernel
theorem dX4_mindWhenTold_5 : decode cX4_mindWhenTold 5 = .ok (.iload_n 1, 1) := by decide +kernel
theorem dX4_mindWhenTold_6 : decode cX4_mindWhenTold 6 = .ok (.iaload, 1) := by decide +kernel
theorem dX4_mindWhenTold_7 : decode cX4_mindWhenTold 7 = .ok (.bipush 18, 2) := by decide +kernel
theorem dX4_mindWhenTold_9 : decode cX4_mindWhenTold 9 = .ok (.isub, 1) := by decide +kernel
theorem dX4_mindWhenTold_10 : decode cX4_mindWhenTold 10 = .ok (.invokestatic 136, 3) := by decide +kernel
theorem dX4_mindWhenTold_13 : decode cX4_mindWhenTold 13 = .ok (.ireturn, 1) := by decide +kernel
theorem dX4_canAllBeTold_0 : decode cX4_canAllBeTold 0 = .ok (.iconst 0, 1) := by decide +kernel
theorem dX4_canAllBeTold_1 : decode cX4_canAllBeTold 1 = .ok (.istore_n 1, 1) := by decide +kernel
theorem dX4_canAllBeTold_2 : decode cX4_canAllBeTold 2 = .ok (.iload_n 1, 1) := by decide +kernel
theorem dX4_canAllBeTold_3 : decode cX4_canAllBeTold 3 = .ok (.aload_n 0, 1) := by decide +kernel
theorem dX4_canAllBeTold_4 : decode cX4_canAllBeTold 4 = .ok (.getfield 9, 3) := by decide +kernel
theorem dX4_canAllBeTold_7 : decode cX4_canAllBeTold 7 = .ok (.if_icmp .ge 31, 3) := by decide +kernel
theorem dX4_canAllBeTold_10 : decode cX4_canAllBeTold 10 = .ok (.aload_n 0, 1) := by decide +kernel
theorem dX4_canAllBeTold_11 : decode cX4_canAllBeTold 11 = .ok (.iload_n 1, 1) := by decide +kernel
theorem dX4_canAllBeTold_12 : decode cX4_canAllBeTold 12 = .ok (.invokevirtual 94, 3) := by decide +kernel
theorem dX4_canAllBeTold_15 : decode cX4_canAllBeTold 15 = .ok (.ifCond .eq 17, 3) := by decide +kernel
theorem dX4_canAllBeTold_18 : decode cX4_canAllBeTold 18 = .ok (.aload_n 0, 1) := by decide +kernel
theorem dX4_canAllBeTold_19 : decode cX4_canAllBeTold 19 = .ok (.iload_n 1, 1) := by decide +kernel
theorem dX4_canAllBeTold_20 : decode cX4_canAllBeTold 20 = .ok (.invokevirtual 139, 3) := by decide +kernel
theorem dX4_canAllBeTold_23 : decode cX4_canAllBeTold 23 = .ok (.aload_n 0, 1) := by decide +kernel
theorem dX4_canAllBeTold_24 : decode cX4_canAllBeTold 24 = .ok (.getfield 18, 3) := by decide +kernel
theorem dX4_canAllBeTold_27 : decode cX4_canAllBeTold 27 = .ok (.if_icmp .le 5, 3) := by decide +kernel
theorem dX4_canAllBeTold_30 : decode cX4_canAllBeTold 30 = .ok (.iconst 0, 1) := by decide +kernel
theorem dX4_canAllBeTold_31 : decode cX4_canAllBeTold 31 = .ok (.ireturn, 1) := by decide +kernel
theorem dX4_canAllBeTold_32 : decode cX4_canAllBeTold 32 = .ok (.iinc 1 1, 3) := by decide +kernel
theorem dX4_canAllBeTold_35 : decode cX4_canAllBeTold 35 = .ok (.goto (-33), 3) := by decide +kernel
theorem dX4_canAllBeTold_38 : decode cX4_canAllBeTold 38 = .ok (.iconst 1, 1) := by decide +kernel
theorem dX4_canAllBeTold_39 : decode cX4_canAllBeTold 39 = .ok (.ireturn, 1) := by decide +kernel
theorem dX4_mindOfAllTold_0 : decode cX4_mindOfAllTold 0 = .ok (.iconst 0, 1) := by decide +kernel
theorem dX4_mindOfAllTold_1 : decode cX4_mindOfAllTold 1 = .ok (.istore_n 1, 1) := by decide +kernel
theorem dX4_mindOfAllTold_2 : decode cX4_mindOfAllTold 2 = .ok (.iconst 0, 1) := by decide +kernel
theorem dX4_mindOfAllTold_3 : decode cX4_mindOfAllTold 3 = .ok (.istore_n 2, 1) := by decide +kernel
theorem dX4_mindOfAllTold_4 : decode cX4_mindOfAllTold 4 = .ok (.iload_n 2, 1) := by decide +kernel
theorem dX4_mindOfAllTold_5 : decode cX4_mindOfAllTold 5 = .ok (.aload_n 0, 1) := by decide +kernel
theorem dX4_mindOfAllTold_6 : decode cX4_mindOfAllTold 6 = .ok (.getfield 9, 3) := by decide +kernel
theorem dX4_mindOfAllTold_9 : decode cX4_mindOfAllTold 9 = .ok (.if_icmp .ge 34, 3) := by decide +kernel
theorem dX4_mindOfAllTold_12 : decode cX4_mindOfAllTold 12 = .ok (.iload_n 1, 1) := by decide +kernel
theorem dX4_mindOfAllTold_13 : decode cX4_mindOfAllTold 13 = .ok (.aload_n 0, 1) := by decide +kernel
theorem dX4_mindOfAllTold_14 : decode cX4_mindOfAllTold 14 = .ok (.iload_n 2, 1) := by decide +kernel
theorem dX4_mindOfAllTold_15 : decode cX4_mindOfAllTold 15 = .ok (.invokevirtual 94, 3) := by decide +kernel
theorem dX4_mindOfAllTold_18 : decode cX4_mindOfAllTold 18 = .ok (.ifCond .eq 11, 3) := by decide +kernel
theorem dX4_mindOfAllTold_21 : decode cX4_mindOfAllTold 21 = .ok (.aload_n 0, 1) := by decide +kernel
theorem dX4_mindOfAllTold_22 : decode cX4_mindOfAllTold 22 = .ok (.iload_n 2, 1) := by decide +kernel
theorem dX4_mindOfAllTold_23 : decode cX4_mindOfAllTold 23 = .ok (.invokevirtual 139, 3) := by decide +kernel
theorem dX4_mindOfAllTold_26 : decode cX4_mindOfAllTold 26 = .ok (.goto 9, 3) := by decide +kernel
theorem dX4_mindOfAllTold_29 : decode cX4_mindOfAllTold 29 = .ok (.aload_n 0, 1) := by decide +kernel
theorem dX4_mindOfAllTold_30 : decode cX4_mindOfAllTold 30 = .ok (.getfield 37, 3) := by decide +kernel
theorem dX4_mindOfAllTold_33 : decode cX4_mindOfAllTold 33 = .ok (.iload_n 2, 1) := by decide +kernel
theorem dX4_mindOfAllTold_34 : decode cX4_mindOfAllTold 34 = .ok (.iaload, 1) := by decide +kernel
theorem dX4_mindOfAllTold_35 : decode cX4_mindOfAllTold 35 = .ok (.iadd, 1) := by decide +kernel
theorem dX4_mindOfAllTold_36 : decode cX4_mindOfAllTold 36 = .ok (.istore_n 1, 1) := by decide +kernel
theorem dX4_mindOfAllTold_37 : decode cX4_mindOfAllTold 37 = .ok (.iinc 2 1, 3) := by decide +kernel
theorem dX4_mindOfAllTold_40 : decode cX4_mindOfAllTold 40 = .ok (.goto (-36), 3) := by decide +kernel
theorem dX4_mindOfAllTold_43 : decode cX4_mindOfAllTold 43 = .ok (.iload_n 1, 1) := by decide +kernel
theorem dX4_mindOfAllTold_44 : decode cX4_mindOfAllTold 44 = .ok (.ireturn, 1) := by decide +kernel
theorem dX4_nearestAwakeCot_0 : decode cX4_nearestAwakeCot 0 = .ok (.iconst (-1), 1) := by decide +kernel
theorem dX4_nearestAwakeCot_1 : decode cX4_nearestAwakeCot 1 = .ok (.istore_n 1, 1) := by decide +kernel
theorem dX4_nearestAwakeCot_2 : decode cX4_nearestAwakeCot 2 = .ok (.iconst 0, 1) := by decide +kernel
theorem dX4_nearestAwakeCot_3 : decode cX4_nearestAwakeCot 3 = .ok (.istore_n 2, 1) := by decide +kernel
theorem dX4_nearestAwakeCot_4 : decode cX4_nearestAwakeCot 4 = .ok (.iload_n 2, 1) := by decide +kernel
theorem dX4_nearestAwakeCot_5 : decode cX4_nearestAwakeCot 5 = .ok (.bipush 12, 2) := by decide +kernel
theorem dX4_nearestAwakeCot_7 : decode cX4_nearestAwakeCot 7 = .ok (.if_icmp .ge 66, 3) := by decide +kernel
theorem dX4_nearestAwakeCot_10 : decode cX4_nearestAwakeCot 10 = .ok (.aload_n 0, 1) := by decide +kernel
theorem dX4_nearestAwakeCot_11 : decode cX4_nearestAwakeCot 11 = .ok (.getfield 43, 3) := by decide +kernel
theorem dX4_nearestAwakeCot_14 : decode cX4_nearestAwakeCot 14 = .ok (.iload_n 2, 1) := by decide +kernel
theorem dX4_nearestAwakeCot_15 : decode cX4_nearestAwakeCot 15 = .ok (.iaload, 1) := by decide +kernel
theorem dX4_nearestAwakeCot_16 : decode cX4_nearestAwakeCot 16 = .ok (.ifCond .lt 20, 3) := by decide +kernel
theorem dX4_nearestAwakeCot_19 : decode cX4_nearestAwakeCot 19 = .ok (.aload_n 0, 1) := by decide +kernel
theorem dX4_nearestAwakeCot_20 : decode cX4_nearestAwakeCot 20 = .ok (.aload_n 0, 1) := by decide +kernel
theorem dX4_nearestAwakeCot_21 : decode cX4_nearestAwakeCot 21 = .ok (.getfield 43, 3) := by decide +kernel
theorem dX4_nearestAwakeCot_24 : decode cX4_nearestAwakeCot 24 = .ok (.iload_n 2, 1) := by decide +kernel
theorem dX4_nearestAwakeCot_25 : decode cX4_nearestAwakeCot 25 = .ok (.iaload, 1) := by decide +kernel
theorem dX4_nearestAwakeCot_26 : decode cX4_nearestAwakeCot 26 = .ok (.invokevirtual 94, 3) := by decide +kernel
theorem dX4_nearestAwakeCot_29 : decode cX4_nearestAwakeCot 29 = .ok (.ifCond .eq 7, 3) := by decide +kernel
theorem dX4_nearestAwakeCot_32 : decode cX4_nearestAwakeCot 32 = .ok (.iconst 1, 1) := by decide +kernel
theorem dX4_nearestAwakeCot_33 : decode cX4_nearestAwakeCot 33 = .ok (.goto 4, 3) := by decide +kernel
theorem dX4_nearestAwakeCot_36 : decode cX4_nearestAwakeCot 36 = .ok (.iconst 0, 1) := by decide +kernel
theorem dX4_nearestAwakeCot_37 : decode cX4_nearestAwakeCot 37 = .ok (.istore_n 3, 1) := by decide +kernel
theorem dX4_nearestAwakeCot_38 : decode cX4_nearestAwakeCot 38 = .ok (.iload_n 3, 1) := by decide +kernel
theorem dX4_nearestAwakeCot_39 : decode cX4_nearestAwakeCot 39 = .ok (.ifCond .eq 28, 3) := by decide +kernel
theorem dX4_nearestAwakeCot_42 : decode cX4_nearestAwakeCot 42 = .ok (.iload_n 1, 1) := by decide +kernel
theorem dX4_nearestAwakeCot_43 : decode cX4_nearestAwakeCot 43 = .ok (.ifCond .lt 22, 3) := by decide +kernel
theorem dX4_nearestAwakeCot_46 : decode cX4_nearestAwakeCot 46 = .ok (.aload_n 0, 1) := by decide +kernel
theorem dX4_nearestAwakeCot_47 : decode cX4_nearestAwakeCot 47 = .ok (.getfield 21, 3) := by decide +kernel
theorem dX4_nearestAwakeCot_50 : decode cX4_nearestAwakeCot 50 = .ok (.iload_n 2, 1) := by decide +kernel
theorem dX4_nearestAwakeCot_51 : decode cX4_nearestAwakeCot 51 = .ok (.invokestatic 142, 3) := by decide +kernel
theorem dX4_nearestAwakeCot_54 : decode cX4_nearestAwakeCot 54 = .ok (.aload_n 0, 1) := by decide +kernel
theorem dX4_nearestAwakeCot_55 : decode cX4_nearestAwakeCot 55 = .ok (.getfield 21, 3) := by decide +kernel
theorem dX4_nearestAwakeCot_58 : decode cX4_nearestAwakeCot 58 = .ok (.iload_n 1, 1) := by decide +kernel
theorem dX4_nearestAwakeCot_59 : decode cX4_nearestAwakeCot 59 = .ok (.invokestatic 142, 3) := by decide +kernel
theorem dX4_nearestAwakeCot_62 : decode cX4_nearestAwakeCot 62 = .ok (.if_icmp .ge 5, 3) := by decide +kernel
theorem dX4_nearestAwakeCot_65 : decode cX4_nearestAwakeCot 65 = .ok (.iload_n 2, 1) := by decide +kernel
theorem dX4_nearestAwakeCot_66 : decode cX4_nearestAwakeCot 66 = .ok (.istore_n 1, 1) := by decide +kernel
theorem dX4_nearestAwakeCot_67 : decode cX4_nearestAwakeCot 67 = .ok (.iinc 2 1, 3) := by decide +kernel
theorem dX4_nearestAwakeCot_70 : decode cX4_nearestAwakeCot 70 = .ok (.goto (-66), 3) := by decide +kernel
theorem dX4_nearestAwakeCot_73 : decode cX4_nearestAwakeCot 73 = .ok (.iload_n 1, 1) := by decide +kernel
theorem dX4_nearestAwakeCot_74 : decode cX4_nearestAwakeCot 74 = .ok (.ireturn, 1) := by decide +kernel
theorem dX4_pairsOf_0 : decode cX4_pairsOf 0 = .ok (.iconst 0, 1) := by decide +kernel
theorem dX4_pairsOf_1 : decode cX4_pairsOf 1 = .ok (.istore_n 2, 1) := by decide +kernel
theorem dX4_pairsOf_2 : decode cX4_pairsOf 2 = .ok (.iconst 0, 1) := by decide +kernel
theorem dX4_pairsOf_3 : decode cX4_pairsOf 3 = .ok (.istore_n 3, 1) := by decide +kernel
theorem dX4_pairsOf_4 : decode cX4_pairsOf 4 = .ok (.iload_n 3, 1) := by decide +kernel
theorem dX4_pairsOf_5 : decode cX4_pairsOf 5 = .ok (.aload_n 0, 1) := by decide +kernel
theorem dX4_pairsOf_6 : decode cX4_pairsOf 6 = .ok (.getfield 9, 3) := by decide +kernel
theorem dX4_pairsOf_9 : decode cX4_pairsOf 9 = .ok (.if_icmp .ge 90, 3) := by decide +kernel
theorem dX4_pairsOf_12 : decode cX4_pairsOf 12 = .ok (.iload_n 3, 1) := by decide +kernel
theorem dX4_pairsOf_13 : decode cX4_pairsOf 13 = .ok (.iconst 1, 1) := by decide +kernel
theorem dX4_pairsOf_14 : decode cX4_pairsOf 14 = .ok (.iadd, 1) := by decide +kernel
theorem dX4_pairsOf_15 : decode cX4_pairsOf 15 = .ok (.istore 4, 2) := by decide +kernel
theorem dX4_pairsOf_17 : decode cX4_pairsOf 17 = .ok (.iload 4, 2) := by decide +kernel
theorem dX4_pairsOf_19 : decode cX4_pairsOf 19 = .ok (.aload_n 0, 1) := by decide +kernel
theorem dX4_pairsOf_20 : decode cX4_pairsOf 20 = .ok (.getfield 9, 3) := by decide +kernel
theorem dX4_pairsOf_23 : decode cX4_pairsOf 23 = .ok (.if_icmp .ge 70, 3) := by decide +kernel
theorem dX4_pairsOf_26 : decode cX4_pairsOf 26 = .ok (.getstatic 106, 3) := by decide +kernel
theorem dX4_pairsOf_29 : decode cX4_pairsOf 29 = .ok (.aload_n 0, 1) := by decide +kernel
theorem dX4_pairsOf_30 : decode cX4_pairsOf 30 = .ok (.getfield 27, 3) := by decide +kernel
theorem dX4_pairsOf_33 : decode cX4_pairsOf 33 = .ok (.iload_n 3, 1) := by decide +kernel
theorem dX4_pairsOf_34 : decode cX4_pairsOf 34 = .ok (.iaload, 1) := by decide +kernel
theorem dX4_pairsOf_35 : decode cX4_pairsOf 35 = .ok (.iaload, 1) := by decide +kernel
theorem dX4_pairsOf_36 : decode cX4_pairsOf 36 = .ok (.iconst 1, 1) := by decide +kernel
theorem dX4_pairsOf_37 : decode cX4_pairsOf 37 = .ok (.aload_n 0, 1) := by decide +kernel
theorem dX4_pairsOf_38 : decode cX4_pairsOf 38 = .ok (.getfield 27, 3) := by decide +kernel
theorem dX4_pairsOf_41 : decode cX4_pairsOf 41 = .ok (.iload 4, 2) := by decide +kernel
theorem dX4_pairsOf_43 : decode cX4_pairsOf 43 = .ok (.iaload, 1) := by decide +kernel
theorem dX4_pairsOf_44 : decode cX4_pairsOf 44 = .ok (.ishl, 1) := by decide +kernel
theorem dX4_pairsOf_45 : decode cX4_pairsOf 45 = .ok (.iand, 1) := by decide +kernel
theorem dX4_pairsOf_46 : decode cX4_pairsOf 46 = .ok (.ifCond .eq 7, 3) := by decide +kernel
theorem dX4_pairsOf_49 : decode cX4_pairsOf 49 = .ok (.iconst 1, 1) := by decide +kernel
theorem dX4_pairsOf_50 : decode cX4_pairsOf 50 = .ok (.goto 4, 3) := by decide +kernel
theorem dX4_pairsOf_53 : decode cX4_pairsOf 53 = .ok (.iconst 0, 1) := by decide +kernel
theorem dX4_pairsOf_54 : decode cX4_pairsOf 54 = .ok (.istore 5, 2) := by decide +kernel
theorem dX4_pairsOf_56 : decode cX4_pairsOf 56 = .ok (.iload_n 2, 1) := by decide +kernel
theorem dX4_pairsOf_57 : decode cX4_pairsOf 57 = .ok (.iload 5, 2) := by decide +kernel
theorem dX4_pairsOf_59 : decode cX4_pairsOf 59 = .ok (.ifCond .eq 25, 3) := by decide +kernel
theorem dX4_pairsOf_62 : decode cX4_pairsOf 62 = .ok (.aload_n 0, 1) := by decide +kernel
theorem dX4_pairsOf_63 : decode cX4_pairsOf 63 = .ok (.getfield 31, 3) := by decide +kernel
theorem dX4_pairsOf_66 : decode cX4_pairsOf 66 = .ok (.iload_n 3, 1) := by decide +kernel
theorem dX4_pairsOf_67 : decode cX4_pairsOf 67 = .ok (.iaload, 1) := by decide +kernel
theorem dX4_pairsOf_68 : decode cX4_pairsOf 68 = .ok (.aload_n 0, 1) := by decide +kernel
theorem dX4_pairsOf_69 : decode cX4_pairsOf 69 = .ok (.getfield 31, 3) := by decide +kernel
theorem dX4_pairsOf_72 : decode cX4_pairsOf 72 = .ok (.iload 4, 2) := by decide +kernel
theorem dX4_pairsOf_74 : decode cX4_pairsOf 74 = .ok (.iaload, 1) := by decide +kernel
theorem dX4_pairsOf_75 : decode cX4_pairsOf 75 = .ok (.iadd, 1) := by decide +kernel
theorem dX4_pairsOf_76 : decode cX4_pairsOf 76 = .ok (.iload_n 1, 1) := by decide +kernel
theorem dX4_pairsOf_77 : decode cX4_pairsOf 77 = .ok (.if_icmp .lt 7, 3) := by decide +kernel
theorem dX4_pairsOf_80 : decode cX4_pairsOf 80 = .ok (.iconst 1, 1) := by decide +kernel
theorem dX4_pairsOf_81 : decode cX4_pairsOf 81 = .ok (.goto 4, 3) := by decide +kernel
theorem dX4_pairsOf_84 : decode cX4_pairsOf 84 = .ok (.iconst 0, 1) := by decide +kernel
theorem dX4_pairsOf_85 : decode cX4_pairsOf 85 = .ok (.iadd, 1) := by decide +kernel
theorem dX4_pairsOf_86 : decode cX4_pairsOf 86 = .ok (.istore_n 2, 1) := by decide +kernel
theorem dX4_pairsOf_87 : decode cX4_pairsOf 87 = .ok (.iinc 4 1, 3) := by decide +kernel
theorem dX4_pairsOf_90 : decode cX4_pairsOf 90 = .ok (.goto (-73), 3) := by decide +kernel
theorem dX4_pairsOf_93 : decode cX4_pairsOf 93 = .ok (.iinc 3 1, 3) := by decide +kernel
theorem dX4_pairsOf_96 : decode cX4_pairsOf 96 = .ok (.goto (-92), 3) := by decide +kernel
theorem dX4_pairsOf_99 : decode cX4_pairsOf 99 = .ok (.iload_n 2, 1) := by decide +kernel
theorem dX4_pairsOf_100 : decode cX4_pairsOf 100 = .ok (.ireturn, 1) := by decide +kernel
theorem dX4_mostApart_0 : decode cX4_mostApart 0 = .ok (.iconst 0, 1) := by decide +kernel
theorem dX4_mostApart_1 : decode cX4_mostApart 1 = .ok (.istore_n 1, 1) := by decide +kernel
theorem dX4_mostApart_2 : decode cX4_mostApart 2 = .ok (.iconst 0, 1) := by decide +kernel
theorem dX4_mostApart_3 : decode cX4_mostApart 3 = .ok (.istore_n 2, 1) := by decide +kernel
theorem dX4_mostApart_4 : decode cX4_mostApart 4 = .ok (.iload_n 2, 1) := by decide +kernel
theorem dX4_mostApart_5 : decode cX4_mostApart 5 = .ok (.aload_n 0, 1) := by decide +kernel
theorem dX4_mostApart_6 : decode cX4_mostApart 6 = .ok (.getfield 9, 3) := by decide +kernel
theorem dX4_mostApart_9 : decode cX4_mostApart 9 = .ok (.if_icmp .ge 20, 3) := by decide +kernel
theorem dX4_mostApart_12 : decode cX4_mostApart 12 = .ok (.iload_n 1, 1) := by decide +kernel
theorem dX4_mostApart_13 : decode cX4_mostApart 13 = .ok (.iconst 1, 1) := by decide +kernel
theorem dX4_mostApart_14 : decode cX4_mostApart 14 = .ok (.aload_n 0, 1) := by decide +kernel
theorem dX4_mostApart_15 : decode cX4_mostApart 15 = .ok (.getfield 27, 3) := by decide +kernel
theorem dX4_mostApart_18 : decode cX4_mostApart 18 = .ok (.iload_n 2, 1) := by decide +kernel
theorem dX4_mostApart_19 : decode cX4_mostApart 19 = .ok (.iaload, 1) := by decide +kernel
theorem dX4_mostApart_20 : decode cX4_mostApart 20 = .ok (.ishl, 1) := by decide +kernel
theorem dX4_mostApart_21 : decode cX4_mostApart 21 = .ok (.ior, 1) := by decide +kernel
theorem dX4_mostApart_22 : decode cX4_mostApart 22 = .ok (.istore_n 1, 1) := by decide +kernel
theorem dX4_mostApart_23 : decode cX4_mostApart 23 = .ok (.iinc 2 1, 3) := by decide +kernel
theorem dX4_mostApart_26 : decode cX4_mostApart 26 = .ok (.goto (-22), 3) := by decide +kernel
theorem dX4_mostApart_29 : decode cX4_mostApart 29 = .ok (.iconst 0, 1) := by decide +kernel
theorem dX4_mostApart_30 : decode cX4_mostApart 30 = .ok (.istore_n 2, 1) := by decide +kernel
theorem dX4_mostApart_31 : decode cX4_mostApart 31 = .ok (.iconst 1, 1) := by decide +kernel
theorem dX4_mostApart_32 : decode cX4_mostApart 32 = .ok (.istore_n 3, 1) := by decide +kernel
theorem dX4_mostApart_33 : decode cX4_mostApart 33 = .ok (.iload_n 3, 1) := by decide +kernel
theorem dX4_mostApart_34 : decode cX4_mostApart 34 = .ok (.sipush 4096, 3) := by decide +kernel
theorem dX4_mostApart_37 : decode cX4_mostApart 37 = .ok (.if_icmp .ge 49, 3) := by decide +kernel
theorem dX4_mostApart_40 : decode cX4_mostApart 40 = .ok (.iload_n 3, 1) := by decide +kernel
theorem dX4_mostApart_41 : decode cX4_mostApart 41 = .ok (.iload_n 1, 1) := by decide +kernel
theorem dX4_mostApart_42 : decode cX4_mostApart 42 = .ok (.iconst (-1), 1) := by decide +kernel
theorem dX4_mostApart_43 : decode cX4_mostApart 43 = .ok (.ixor, 1) := by decide +kernel
theorem dX4_mostApart_44 : decode cX4_mostApart 44 = .ok (.iand, 1) := by decide +kernel
theorem dX4_mostApart_45 : decode cX4_mostApart 45 = .ok (.ifCond .ne 7, 3) := by decide +kernel
theorem dX4_mostApart_48 : decode cX4_mostApart 48 = .ok (.iconst 1, 1) := by decide +kernel
theorem dX4_mostApart_49 : decode cX4_mostApart 49 = .ok (.goto 4, 3) := by decide +kernel
theorem dX4_mostApart_52 : decode cX4_mostApart 52 = .ok (.iconst 0, 1) := by decide +kernel
theorem dX4_mostApart_53 : decode cX4_mostApart 53 = .ok (.istore 4, 2) := by decide +kernel
theorem dX4_mostApart_55 : decode cX4_mostApart 55 = .ok (.iload 4, 2) := by decide +kernel
theorem dX4_mostApart_57 : decode cX4_mostApart 57 = .ok (.ifCond .eq 23, 3) := by decide +kernel
theorem dX4_mostApart_60 : decode cX4_mostApart 60 = .ok (.iload_n 3, 1) := by decide +kernel
theorem dX4_mostApart_61 : decode cX4_mostApart 61 = .ok (.invokestatic 145, 3) := by decide +kernel
theorem dX4_mostApart_64 : decode cX4_mostApart 64 = .ok (.ifCond .eq 16, 3) := by decide +kernel
theorem dX4_mostApart_67 : decode cX4_mostApart 67 = .ok (.iload_n 3, 1) := by decide +kernel
theorem dX4_mostApart_68 : decode cX4_mostApart 68 = .ok (.invokestatic 101, 3) := by decide +kernel
theorem dX4_mostApart_71 : decode cX4_mostApart 71 = .ok (.iload_n 2, 1) := by decide +kernel
theorem dX4_mostApart_72 : decode cX4_mostApart 72 = .ok (.invokestatic 101, 3) := by decide +kernel
theorem dX4_mostApart_75 : decode cX4_mostApart 75 = .ok (.if_icmp .le 5, 3) := by decide +kernel
theorem dX4_mostApart_78 : decode cX4_mostApart 78 = .ok (.iload_n 3, 1) := by decide +kernel
theorem dX4_mostApart_79 : decode cX4_mostApart 79 = .ok (.istore_n 2, 1) := by decide +kernel
theorem dX4_mostApart_80 : decode cX4_mostApart 80 = .ok (.iinc 3 1, 3) := by decide +kernel
theorem dX4_mostApart_83 : decode cX4_mostApart 83 = .ok (.goto (-50), 3) := by decide +kernel
theorem dX4_mostApart_86 : decode cX4_mostApart 86 = .ok (.iload_n 2, 1) := by decide +kernel
theorem dX4_mostApart_87 : decode cX4_mostApart 87 = .ok (.ireturn, 1) := by decide +kernel
theorem dX4_areApart_0 : decode cX4_areApart 0 = .ok (.bipush 32, 2) := by decide +kernel
theorem dX4_areApart_2 : decode cX4_areApart 2 = .ok (.istore_n 1, 1) := by decide +kernel
theorem dX4_areApart_3 : decode cX4_areApart 3 = .ok (.iload_n 0, 1) := by decide +kernel
theorem dX4_areApart_4 : decode cX4_areApart 4 = .ok (.iload_n 0, 1) := by decide +kernel
theorem dX4_areApart_5 : decode cX4_areApart 5 = .ok (.bipush 6, 2) := by decide +kernel
theorem dX4_areApart_7 : decode cX4_areApart 7 = .ok (.ishr, 1) := by decide +kernel
theorem dX4_areApart_8 : decode cX4_areApart 8 = .ok (.iand, 1) := by decide +kernel
theorem dX4_areApart_9 : decode cX4_areApart 9 = .ok (.ifCond .ne 19, 3) := by decide +kernel
theorem dX4_areApart_12 : decode cX4_areApart 12 = .ok (.iload_n 0, 1) := by decide +kernel
theorem dX4_areApart_13 : decode cX4_areApart 13 = .ok (.iload_n 0, 1) := by decide +kernel
theorem dX4_areApart_14 : decode cX4_areApart 14 = .ok (.iconst 1, 1) := by decide +kernel
theorem dX4_areApart_15 : decode cX4_areApart 15 = .ok (.ishr, 1) := by decide +kernel
theorem dX4_areApart_16 : decode cX4_areApart 16 = .ok (.iand, 1) := by decide +kernel
theorem dX4_areApart_17 : decode cX4_areApart 17 = .ok (.iload_n 1, 1) := by decide +kernel
theorem dX4_areApart_18 : decode cX4_areApart 18 = .ok (.iconst (-1), 1) := by decide +kernel
theorem dX4_areApart_19 : decode cX4_areApart 19 = .ok (.ixor, 1) := by decide +kernel
theorem dX4_areApart_20 : decode cX4_areApart 20 = .ok (.iand, 1) := by decide +kernel
theorem dX4_areApart_21 : decode cX4_areApart 21 = .ok (.ifCond .ne 7, 3) := by decide +kernel
theorem dX4_areApart_24 : decode cX4_areApart 24 = .ok (.iconst 1, 1) := by decide +kernel
theorem dX4_areApart_25 : decode cX4_areApart 25 = .ok (.goto 4, 3) := by decide +kernel
theorem dX4_areApart_28 : decode cX4_areApart 28 = .ok (.iconst 0, 1) := by decide +kernel
theorem dX4_areApart_29 : decode cX4_areApart 29 = .ok (.ireturn, 1) := by decide +kernel
theorem dX5_init_0 : decode cX5_init 0 = .ok (.aload_n 0, 1) := by decide +kernel
theorem dX5_init_1 : decode cX5_init 1 = .ok (.invokespecial 3, 3) := by decide +kernel
theorem dX5_init_4 : decode cX5_init 4 = .ok (.aload_n 0, 1) := by decide +kernel
theorem dX5_init_5 : decode cX5_init 5 = .ok (.iconst 0, 1) := by decide +kernel
theorem dX5_init_6 : decode cX5_init 6 = .ok (.putfield 9, 3) := by decide +kernel
theorem dX5_init_9 : decode cX5_init 9 = .ok (.aload_n 0, 1) := by decide +kernel
theorem dX5_init_10 : decode cX5_init 10 = .ok (.iconst 0, 1) := by decide +kernel
theorem dX5_init_11 : decode cX5_init 11 = .ok (.putfield 15, 3) := by decide +kernel
theorem dX5_init_14 : decode cX5_init 14 = .ok (.aload_n 0, 1) := by decide +kernel
theorem dX5_init_15 : decode cX5_init 15 = .ok (.iconst 0, 1) := by decide +kernel
theorem dX5_init_16 : decode cX5_init 16 = .ok (.putfield 18, 3) := by decide +kernel
theorem dX5_init_19 : decode cX5_init 19 = .ok (.aload_n 0, 1) := by decide +kernel
theorem dX5_init_20 : decode cX5_init 20 = .ok (.bipush 60, 2) := by decide +kernel
theorem dX5_init_22 : decode cX5_init 22 = .ok (.newarray .long, 2) := by decide +kernel
theorem dX5_init_24 : decode cX5_init 24 = .ok (.putfield 21, 3) := by decide +kernel
theorem dX5_init_27 : decode cX5_init 27 = .ok (.aload_n 0, 1) := by decide +kernel
theorem dX5_init_28 : decode cX5_init 28 = .ok (.iconst 0, 1) := by decide +kernel
theorem dX5_init_29 : decode cX5_init 29 = .ok (.putfield 25, 3) := by decide +kernel
theorem dX5_init_32 : decode cX5_init 32 = .ok (.return_, 1) := by decide +kernel
theorem dX5_holdsNothing_0 : decode cX5_holdsNothing 0 = .ok (.aload_n 0, 1) := by decide +kernel
theorem dX5_holdsNothing_1 : decode cX5_holdsNothing 1 = .ok (.getfield 25, 3) := by decide +kernel
theorem dX5_holdsNothing_4 : decode cX5_holdsNothing 4 = .ok (.ifCond .ne 7, 3) := by decide +kernel
theorem dX5_holdsNothing_7 : decode cX5_holdsNothing 7 = .ok (.iconst 1, 1) := by decide +kernel
theorem dX5_holdsNothing_8 : decode cX5_holdsNothing 8 = .ok (.goto 4, 3) := by decide +kernel
theorem dX5_holdsNothing_11 : decode cX5_holdsNothing 11 = .ok (.iconst 0, 1) := by decide +kernel
theorem dX5_holdsNothing_12 : decode cX5_holdsNothing 12 = .ok (.ireturn, 1) := by decide +kernel
theorem dX5_holdsBlade_0 : decode cX5_holdsBlade 0 = .ok (.aload_n 0, 1) := by decide +kernel
theorem dX5_holdsBlade_1 : decode cX5_holdsBlade 1 = .ok (.getfield 25, 3) := by decide +kernel
theorem dX5_holdsBlade_4 : decode cX5_holdsBlade 4 = .ok (.iconst 1, 1) := by decide +kernel
theorem dX5_holdsBlade_5 : decode cX5_holdsBlade 5 = .ok (.if_icmp .ne 7, 3) := by decide +kernel
theorem dX5_holdsBlade_8 : decode cX5_holdsBlade 8 = .ok (.iconst 1, 1) := by decide +kernel
theorem dX5_holdsBlade_9 : decode cX5_holdsBlade 9 = .ok (.goto 4, 3) := by decide +kernel
theorem dX5_holdsBlade_12 : decode cX5_holdsBlade 12 = .ok (.iconst 0, 1) := by decide +kernel
theorem dX5_holdsBlade_13 : decode cX5_holdsBlade 13 = .ok (.ireturn, 1) := by decide +kernel
theorem dX5_holdsRow_0 : decode cX5_holdsRow 0 = .ok (.aload_n 0, 1) := by decide +kernel
theorem dX5_holdsRow_1 : decode cX5_holdsRow 1 = .ok (.getfield 25, 3) := by decide +kernel
theorem dX5_holdsRow_4 : decode cX5_holdsRow 4 = .ok (.iconst 2, 1) := by decide +kernel
theorem dX5_holdsRow_5 : decode cX5_holdsRow 5 = .ok (.if_icmp .ne 7, 3) := by decide +kernel
theorem dX5_holdsRow_8 : decode cX5_holdsRow 8 = .ok (.iconst 1, 1) := by decide +kernel
theorem dX5_holdsRow_9 : decode cX5_holdsRow 9 = .ok (.goto 4, 3) := by decide +kernel
theorem dX5_holdsRow_12 : decode cX5_holdsRow 12 = .ok (.iconst 0, 1) := by decide +kernel
theorem dX5_holdsRow_13 : decode cX5_holdsRow 13 = .ok (.ireturn, 1) := by decide +kernel
theorem dX5_holdsBytes_0 : decode cX5_holdsBytes 0 = .ok (.aload_n 0, 1) := by decide +kernel
theorem dX5_holdsBytes_1 : decode cX5_holdsBytes 1 = .ok (.getfield 25, 3) := by decide +kernel
theorem dX5_holdsBytes_4 : decode cX5_holdsBytes 4 = .ok (.iconst 2, 1) := by decide +kernel
theorem dX5_holdsBytes_5 : decode cX5_holdsBytes 5 = .ok (.if_icmp .ne 14, 3) := by decide +kernel
theorem dX5_holdsBytes_8 : decode cX5_holdsBytes 8 = .ok (.aload_n 0, 1) := by decide +kernel
theorem dX5_holdsBytes_9 : decode cX5_holdsBytes 9 = .ok (.getfield 15, 3) := by decide +kernel
theorem dX5_holdsBytes_12 : decode cX5_holdsBytes 12 = .ok (.ifCond .ne 7, 3) := by decide +kernel
theorem dX5_holdsBytes_15 : decode cX5_holdsBytes 15 = .ok (.iconst 1, 1) := by decide +kernel
theorem dX5_holdsBytes_16 : decode cX5_holdsBytes 16 = .ok (.goto 4, 3) := by decide +kernel
theorem dX5_holdsBytes_19 : decode cX5_holdsBytes 19 = .ok (.iconst 0, 1) := by decide +kernel
theorem dX5_holdsBytes_20 : decode cX5_holdsBytes 20 = .ok (.ireturn, 1) := by decide +kernel
theorem dX5_clear_0 : decode cX5_clear 0 = .ok (.aload_n 0, 1) := by decide +kernel
theorem dX5_clear_1 : decode cX5_clear 1 = .ok (.iconst 0, 1) := by decide +kernel
theorem dX5_clear_2 : decode cX5_clear 2 = .ok (.putfield 25, 3) := by decide +kernel
theorem dX5_clear_5 : decode cX5_clear 5 = .ok (.return_, 1) := by decide +kernel
theorem dX5_holdBlade_0 : decode cX5_holdBlade 0 = .ok (.aload_n 0, 1) := by decide +kernel
theorem dX5_holdBlade_1 : decode cX5_holdBlade 1 = .ok (.iconst 1, 1) := by decide +kernel
theorem dX5_holdBlade_2 : decode cX5_holdBlade 2 = .ok (.putfield 25, 3) := by decide +kernel
theorem dX5_holdBlade_5 : decode cX5_holdBlade 5 = .ok (.aload_n 0, 1) := by decide +kernel
theorem dX5_holdBlade_6 : decode cX5_holdBlade 6 = .ok (.iload_n 1, 1) := by decide +kernel
theorem dX5_holdBlade_7 : decode cX5_holdBlade 7 = .ok (.putfield 9, 3) := by decide +kernel
theorem dX5_holdBlade_10 : decode cX5_holdBlade 10 = .ok (.return_, 1) := by decide +kernel
theorem dX5_holdRow_0 : decode cX5_holdRow 0 = .ok (.aload_n 0, 1) := by decide +kernel
theorem dX5_holdRow_1 : decode cX5_holdRow 1 = .ok (.iconst 2, 1) := by decide +kernel
theorem dX5_holdRow_2 : decode cX5_holdRow 2 = .ok (.putfield 25, 3) := by decide +kernel
theorem dX5_holdRow_5 : decode cX5_holdRow 5 = .ok (.aload_n 0, 1) := by decide +kernel
theorem dX5_holdRow_6 : decode cX5_holdRow 6 = .ok (.iload_n 1, 1) := by decide +kernel
theorem dX5_holdRow_7 : decode cX5_holdRow 7 = .ok (.putfield 15, 3) := by decide +kernel
theorem dX5_holdRow_10 : decode cX5_holdRow 10 = .ok (.aload_n 0, 1) := by decide +kernel
theorem dX5_holdRow_11 : decode cX5_holdRow 11 = .ok (.iload_n 2, 1) := by decide +kernel
theorem dX5_holdRow_12 : decode cX5_holdRow 12 = .ok (.putfield 18, 3) := by decide +kernel
theorem dX5_holdRow_15 : decode cX5_holdRow 15 = .ok (.iconst 0, 1) := by decide +kernel
theorem dX5_holdRow_16 : decode cX5_holdRow 16 = .ok (.istore_n 3, 1) := by decide +kernel
theorem dX5_holdRow_17 : decode cX5_holdRow 17 = .ok (.iload_n 3, 1) := by decide +kernel
theorem dX5_holdRow_18 : decode cX5_holdRow 18 = .ok (.bipush 60, 2) := by decide +kernel
theorem dX5_holdRow_20 : decode cX5_holdRow 20 = .ok (.if_icmp .ge 16, 3) := by decide +kernel
theorem dX5_holdRow_23 : decode cX5_holdRow 23 = .ok (.aload_n 0, 1) := by decide +kernel
theorem dX5_holdRow_24 : decode cX5_holdRow 24 = .ok (.getfield 21, 3) := by decide +kernel
theorem dX5_holdRow_27 : decode cX5_holdRow 27 = .ok (.iload_n 3, 1) := by decide +kernel
theorem dX5_holdRow_28 : decode cX5_holdRow 28 = .ok (.lconst 0, 1) := by decide +kernel
theorem dX5_holdRow_29 : decode cX5_holdRow 29 = .ok (.lastore, 1) := by decide +kernel
theorem dX5_holdRow_30 : decode cX5_holdRow 30 = .ok (.iinc 3 1, 3) := by decide +kernel
theorem dX5_holdRow_33 : decode cX5_holdRow 33 = .ok (.goto (-16), 3) := by decide +kernel
theorem dX5_holdRow_36 : decode cX5_holdRow 36 = .ok (.return_, 1) := by decide +kernel
theorem dX5_hasPlaces_0 : decode cX5_hasPlaces 0 = .ok (.iload_n 1, 1) := by decide +kernel
theorem dX5_hasPlaces_1 : decode cX5_hasPlaces 1 = .ok (.ifCond .lt 25, 3) := by decide +kernel
theorem dX5_hasPlaces_4 : decode cX5_hasPlaces 4 = .ok (.iload_n 2, 1) := by decide +kernel
theorem dX5_hasPlaces_5 : decode cX5_hasPlaces 5 = .ok (.ifCond .lt 21, 3) := by decide +kernel
theorem dX5_hasPlaces_8 : decode cX5_hasPlaces 8 = .ok (.iload_n 1, 1) := by decide +kernel
theorem dX5_hasPlaces_9 : decode cX5_hasPlaces 9 = .ok (.i2l, 1) := by decide +kernel
theorem dX5_hasPlaces_10 : decode cX5_hasPlaces 10 = .ok (.iload_n 2, 1) := by decide +kernel
theorem dX5_hasPlaces_11 : decode cX5_hasPlaces 11 = .ok (.i2l, 1) := by decide +kernel
theorem dX5_hasPlaces_12 : decode cX5_hasPlaces 12 = .ok (.ladd, 1) := by decide +kernel
theorem dX5_hasPlaces_13 : decode cX5_hasPlaces 13 = .ok (.aload_n 0, 1) := by decide +kernel
theorem dX5_hasPlaces_14 : decode cX5_hasPlaces 14 = .ok (.getfield 18, 3) := by decide +kernel
theorem dX5_hasPlaces_17 : decode cX5_hasPlaces 17 = .ok (.i2l, 1) := by decide +kernel
theorem dX5_hasPlaces_18 : decode cX5_hasPlaces 18 = .ok (.lcmp, 1) := by decide +kernel
theorem dX5_hasPlaces_19 : decode cX5_hasPlaces 19 = .ok (.ifCond .gt 7, 3) := by decide +kernel
theorem dX5_hasPlaces_22 : decode cX5_hasPlaces 22 = .ok (.iconst 1, 1) := by decide +kernel
theorem dX5_hasPlaces_23 : decode cX5_hasPlaces 23 = .ok (.goto 4, 3) := by decide +kernel
theorem dX5_hasPlaces_26 : decode cX5_hasPlaces 26 = .ok (.iconst 0, 1) := by decide +kernel
theorem dX5_hasPlaces_27 : decode cX5_hasPlaces 27 = .ok (.ireturn, 1) := by decide +kernel
theorem dX5_store_0 : decode cX5_store 0 = .ok (.aload_n 0, 1) := by decide +kernel
theorem dX5_store_1 : decode cX5_store 1 = .ok (.getfield 15, 3) := by decide +kernel
theorem dX5_store_4 : decode cX5_store 4 = .ok (.tableswitch 80 0 3 #[32, 45, 58, 70], 32) := by decide +kernel
theorem dX5_store_36 : decode cX5_store 36 = .ok (.aload_n 0, 1) := by decide +kernel
theorem dX5_store_37 : decode cX5_store 37 = .ok (.getfield 21, 3) := by decide +kernel
theorem dX5_store_40 : decode cX5_store 40 = .ok (.iload_n 1, 1) := by decide +kernel
theorem dX5_store_41 : decode cX5_store 41 = .ok (.lload_n 2, 1) := by decide +kernel
theorem dX5_store_42 : decode cX5_store 42 = .ok (.l2i, 1) := by decide +kernel
theorem dX5_store_43 : decode cX5_store 43 = .ok (.i2b, 1) := by decide +kernel
theorem dX5_store_44 : decode cX5_store 44 = .ok (.i2l, 1) := by decide +kernel
theorem dX5_store_45 : decode cX5_store 45 = .ok (.lastore, 1) := by decide +kernel
theorem dX5_store_46 : decode cX5_store 46 = .ok (.goto 55, 3) := by decide +kernel
theorem dX5_store_49 : decode cX5_store 49 = .ok (.aload_n 0, 1) := by decide +kernel
theorem dX5_store_50 : decode cX5_store 50 = .ok (.getfield 21, 3) := by decide +kernel
theorem dX5_store_53 : decode cX5_store 53 = .ok (.iload_n 1, 1) := by decide +kernel
theorem dX5_store_54 : decode cX5_store 54 = .ok (.lload_n 2, 1) := by decide +kernel
theorem dX5_store_55 : decode cX5_store 55 = .ok (.l2i, 1) := by decide +kernel
theorem dX5_store_56 : decode cX5_store 56 = .ok (.i2s, 1) := by decide +kernel
theorem dX5_store_57 : decode cX5_store 57 = .ok (.i2l, 1) := by decide +kernel
theorem dX5_store_58 : decode cX5_store 58 = .ok (.lastore, 1) := by decide +kernel
theorem dX5_store_59 : decode cX5_store 59 = .ok (.goto 42, 3) := by decide +kernel
theorem dX5_store_62 : decode cX5_store 62 = .ok (.aload_n 0, 1) := by decide +kernel
theorem dX5_store_63 : decode cX5_store 63 = .ok (.getfield 21, 3) := by decide +kernel
theorem dX5_store_66 : decode cX5_store 66 = .ok (.iload_n 1, 1) := by decide +kernel
theorem dX5_store_67 : decode cX5_store 67 = .ok (.lload_n 2, 1) := by decide +kernel
theorem dX5_store_68 : decode cX5_store 68 = .ok (.l2i, 1) := by decide +kernel
theorem dX5_store_69 : decode cX5_store 69 = .ok (.i2l, 1) := by decide +kernel
theorem dX5_store_70 : decode cX5_store 70 = .ok (.lastore, 1) := by decide +kernel
theorem dX5_store_71 : decode cX5_store 71 = .ok (.goto 30, 3) := by decide +kernel
theorem dX5_store_74 : decode cX5_store 74 = .ok (.aload_n 0, 1) := by decide +kernel
theorem dX5_store_75 : decode cX5_store 75 = .ok (.getfield 21, 3) := by decide +kernel
theorem dX5_store_78 : decode cX5_store 78 = .ok (.iload_n 1, 1) := by decide +kernel
theorem dX5_store_79 : decode cX5_store 79 = .ok (.lload_n 2, 1) := by decide +kernel
theorem dX5_store_80 : decode cX5_store 80 = .ok (.lastore, 1) := by decide +kernel
theorem dX5_store_81 : decode cX5_store 81 = .ok (.goto 20, 3) := by decide +kernel
theorem dX5_store_84 : decode cX5_store 84 = .ok (.aload_n 0, 1) := by decide +kernel
theorem dX5_store_85 : decode cX5_store 85 = .ok (.getfield 21, 3) := by decide +kernel
theorem dX5_store_88 : decode cX5_store 88 = .ok (.iload_n 1, 1) := by decide +kernel
theorem dX5_store_89 : decode cX5_store 89 = .ok (.lload_n 2, 1) := by decide +kernel
theorem dX5_store_90 : decode cX5_store 90 = .ok (.lconst 0, 1) := by decide +kernel
theorem dX5_store_91 : decode cX5_store 91 = .ok (.lcmp, 1) := by decide +kernel
theorem dX5_store_92 : decode cX5_store 92 = .ok (.ifCond .eq 7, 3) := by decide +kernel
theorem dX5_store_95 : decode cX5_store 95 = .ok (.lconst 1, 1) := by decide +kernel
theorem dX5_store_96 : decode cX5_store 96 = .ok (.goto 4, 3) := by decide +kernel
theorem dX5_store_99 : decode cX5_store 99 = .ok (.lconst 0, 1) := by decide +kernel
theorem dX5_store_100 : decode cX5_store 100 = .ok (.lastore, 1) := by decide +kernel
theorem dX5_store_101 : decode cX5_store 101 = .ok (.return_, 1) := by decide +kernel
theorem dX5_byteAt_0 : decode cX5_byteAt 0 = .ok (.aload_n 0, 1) := by decide +kernel
theorem dX5_byteAt_1 : decode cX5_byteAt 1 = .ok (.iload_n 1, 1) := by decide +kernel
theorem dX5_byteAt_2 : decode cX5_byteAt 2 = .ok (.iconst 1, 1) := by decide +kernel
theorem dX5_byteAt_3 : decode cX5_byteAt 3 = .ok (.invokevirtual 28, 3) := by decide +kernel
theorem dX5_byteAt_6 : decode cX5_byteAt 6 = .ok (.ifCond .eq 13, 3) := by decide +kernel
theorem dX5_byteAt_9 : decode cX5_byteAt 9 = .ok (.aload_n 0, 1) := by decide +kernel
theorem dX5_byteAt_10 : decode cX5_byteAt 10 = .ok (.getfield 21, 3) := by decide +kernel
theorem dX5_byteAt_13 : decode cX5_byteAt 13 = .ok (.iload_n 1, 1) := by decide +kernel
theorem dX5_byteAt_14 : decode cX5_byteAt 14 = .ok (.laload, 1) := by decide +kernel
theorem dX5_byteAt_15 : decode cX5_byteAt 15 = .ok (.l2i, 1) := by decide +kernel
theorem dX5_byteAt_16 : decode cX5_byteAt 16 = .ok (.goto 4, 3) := by decide +kernel
theorem dX5_byteAt_19 : decode cX5_byteAt 19 = .ok (.iconst (-1), 1) := by decide +kernel
theorem dX5_byteAt_20 : decode cX5_byteAt 20 = .ok (.ireturn, 1) := by decide +kernel
theorem dX5_hours_0 : decode cX5_hours 0 = .ok (.iconst 0, 1) := by decide +kernel
theorem dX5_hours_1 : decode cX5_hours 1 = .ok (.istore_n 1, 1) := by decide +kernel
theorem dX5_hours_2 : decode cX5_hours 2 = .ok (.iload_n 1, 1) := by decide +kernel
theorem dX5_hours_3 : decode cX5_hours 3 = .ok (.bipush 24, 2) := by decide +kernel
theorem dX5_hours_5 : decode cX5_hours 5 = .ok (.if_icmp .ge 30, 3) := by decide +kernel
theorem dX5_hours_8 : decode cX5_hours 8 = .ok (.iload_n 1, 1) := by decide +kernel
theorem dX5_hours_9 : decode cX5_hours 9 = .ok (.aload_n 0, 1) := by decide +kernel
theorem dX5_hours_10 : decode cX5_hours 10 = .ok (.getfield 18, 3) := by decide +kernel
theorem dX5_hours_13 : decode cX5_hours 13 = .ok (.if_icmp .ge 22, 3) := by decide +kernel
theorem dX5_hours_16 : decode cX5_hours 16 = .ok (.aload_n 0, 1) := by decide +kernel
theorem dX5_hours_17 : decode cX5_hours 17 = .ok (.getfield 21, 3) := by decide +kernel
theorem dX5_hours_20 : decode cX5_hours 20 = .ok (.iload_n 1, 1) := by decide +kernel
theorem dX5_hours_21 : decode cX5_hours 21 = .ok (.laload, 1) := by decide +kernel
theorem dX5_hours_22 : decode cX5_hours 22 = .ok (.l2i, 1) := by decide +kernel
theorem dX5_hours_23 : decode cX5_hours 23 = .ok (.invokestatic 32, 3) := by decide +kernel
theorem dX5_hours_26 : decode cX5_hours 26 = .ok (.ifCond .eq 9, 3) := by decide +kernel
theorem dX5_hours_29 : decode cX5_hours 29 = .ok (.iinc 1 1, 3) := by decide +kernel
theorem dX5_hours_32 : decode cX5_hours 32 = .ok (.goto (-30), 3) := by decide +kernel
theorem dX5_hours_35 : decode cX5_hours 35 = .ok (.iload_n 1, 1) := by decide +kernel
theorem dX5_hours_36 : decode cX5_hours 36 = .ok (.ireturn, 1) := by decide +kernel
theorem dX6_init_0 : decode cX6_init 0 = .ok (.aload_n 0, 1) := by decide +kernel
theorem dX6_init_1 : decode cX6_init 1 = .ok (.invokespecial 1, 3) := by decide +kernel
theorem dX6_init_4 : decode cX6_init 4 = .ok (.aload_n 0, 1) := by decide +kernel
theorem dX6_init_5 : decode cX6_init 5 = .ok (.iconst 0, 1) := by decide +kernel
theorem dX6_init_6 : decode cX6_init 6 = .ok (.putfield 7, 3) := by decide +kernel
theorem dX6_init_9 : decode cX6_init 9 = .ok (.aload_n 0, 1) := by decide +kernel
theorem dX6_init_10 : decode cX6_init 10 = .ok (.new 13, 3) := by decide +kernel
theorem dX6_init_13 : decode cX6_init 13 = .ok (.dup, 1) := by decide +kernel
theorem dX6_init_14 : decode cX6_init 14 = .ok (.invokespecial 15, 3) := by decide +kernel
theorem dX6_init_17 : decode cX6_init 17 = .ok (.putfield 16, 3) := by decide +kernel
theorem dX6_init_20 : decode cX6_init 20 = .ok (.aload_n 0, 1) := by decide +kernel
theorem dX6_init_21 : decode cX6_init 21 = .ok (.bipush 120, 2) := by decide +kernel
theorem dX6_init_23 : decode cX6_init 23 = .ok (.newarray .int, 2) := by decide +kernel
theorem dX6_init_25 : decode cX6_init 25 = .ok (.putfield 20, 3) := by decide +kernel
theorem dX6_init_28 : decode cX6_init 28 = .ok (.aload_n 0, 1) := by decide +kernel
theorem dX6_init_29 : decode cX6_init 29 = .ok (.iconst 0, 1) := by decide +kernel
theorem dX6_init_30 : decode cX6_init 30 = .ok (.putfield 24, 3) := by decide +kernel
theorem dX6_init_33 : decode cX6_init 33 = .ok (.aload_n 0, 1) := by decide +kernel
theorem dX6_init_34 : decode cX6_init 34 = .ok (.iconst (-1), 1) := by decide +kernel
theorem dX6_init_35 : decode cX6_init 35 = .ok (.putfield 27, 3) := by decide +kernel
theorem dX6_init_38 : decode cX6_init 38 = .ok (.return_, 1) := by decide +kernel
theorem dX6_add_0 : decode cX6_add 0 = .ok (.aload_n 0, 1) := by decide +kernel
theorem dX6_add_1 : decode cX6_add 1 = .ok (.getfield 7, 3) := by decide +kernel
theorem dX6_add_4 : decode cX6_add 4 = .ok (.bipush 120, 2) := by decide +kernel
theorem dX6_add_6 : decode cX6_add 6 = .ok (.if_icmp .lt 5, 3) := by decide +kernel
theorem dX6_add_9 : decode cX6_add 9 = .ok (.iconst 0, 1) := by decide +kernel
theorem dX6_add_10 : decode cX6_add 10 = .ok (.ireturn, 1) := by decide +kernel
theorem dX6_add_11 : decode cX6_add 11 = .ok (.aload_n 0, 1) := by decide +kernel
theorem dX6_add_12 : decode cX6_add 12 = .ok (.getfield 20, 3) := by decide +kernel
theorem dX6_add_15 : decode cX6_add 15 = .ok (.aload_n 0, 1) := by decide +kernel
theorem dX6_add_16 : decode cX6_add 16 = .ok (.dup, 1) := by decide +kernel
theorem dX6_add_17 : decode cX6_add 17 = .ok (.getfield 7, 3) := by decide +kernel
theorem dX6_add_20 : decode cX6_add 20 = .ok (.dup_x1, 1) := by decide +kernel
theorem dX6_add_21 : decode cX6_add 21 = .ok (.iconst 1, 1) := by decide +kernel
theorem dX6_add_22 : decode cX6_add 22 = .ok (.iadd, 1) := by decide +kernel
theorem dX6_add_23 : decode cX6_add 23 = .ok (.putfield 7, 3) := by decide +kernel
theorem dX6_add_26 : decode cX6_add 26 = .ok (.iload_n 1, 1) := by decide +kernel
theorem dX6_add_27 : decode cX6_add 27 = .ok (.iastore, 1) := by decide +kernel
theorem dX6_add_28 : decode cX6_add 28 = .ok (.iconst 1, 1) := by decide +kernel
theorem dX6_add_29 : decode cX6_add 29 = .ok (.ireturn, 1) := by decide +kernel
theorem dX6_read_0 : decode cX6_read 0 = .ok (.aload_n 0, 1) := by decide +kernel
theorem dX6_read_1 : decode cX6_read 1 = .ok (.iconst 0, 1) := by decide +kernel
theorem dX6_read_2 : decode cX6_read 2 = .ok (.putfield 24, 3) := by decide +kernel
theorem dX6_read_5 : decode cX6_read 5 = .ok (.aload_n 0, 1) := by decide +kernel
theorem dX6_read_6 : decode cX6_read 6 = .ok (.iconst (-1), 1) := by decide +kernel
theorem dX6_read_7 : decode cX6_read 7 = .ok (.putfield 27, 3) := by decide +kernel
theorem dX6_read_10 : decode cX6_read 10 = .ok (.aload_n 0, 1) := by decide +kernel
theorem dX6_read_11 : decode cX6_read 11 = .ok (.getfield 16, 3) := by decide +kernel
theorem dX6_read_14 : decode cX6_read 14 = .ok (.iconst 0, 1) := by decide +kernel
theorem dX6_read_15 : decode cX6_read 15 = .ok (.putfield 30, 3) := by decide +kernel
theorem dX6_read_18 : decode cX6_read 18 = .ok (.aload_n 0, 1) := by decide +kernel
theorem dX6_read_19 : decode cX6_read 19 = .ok (.invokevirtual 31, 3) := by decide +kernel
theorem dX6_read_22 : decode cX6_read 22 = .ok (.iconst 0, 1) := by decide +kernel
theorem dX6_read_23 : decode cX6_read 23 = .ok (.istore_n 1, 1) := by decide +kernel
theorem dX6_read_24 : decode cX6_read 24 = .ok (.iload_n 1, 1) := by decide +kernel
theorem dX6_read_25 : decode cX6_read 25 = .ok (.bipush 120, 2) := by decide +kernel
theorem dX6_read_27 : decode cX6_read 27 = .ok (.if_icmp .ge 32, 3) := by decide +kernel
theorem dX6_read_30 : decode cX6_read 30 = .ok (.aload_n 0, 1) := by decide +kernel
theorem dX6_read_31 : decode cX6_read 31 = .ok (.invokevirtual 34, 3) := by decide +kernel
theorem dX6_read_34 : decode cX6_read 34 = .ok (.bipush 59, 2) := by decide +kernel
theorem dX6_read_36 : decode cX6_read 36 = .ok (.if_icmp .ne 23, 3) := by decide +kernel
theorem dX6_read_39 : decode cX6_read 39 = .ok (.aload_n 0, 1) := by decide +kernel
theorem dX6_read_40 : decode cX6_read 40 = .ok (.dup, 1) := by decide +kernel
theorem dX6_read_41 : decode cX6_read 41 = .ok (.getfield 24, 3) := by decide +kernel
theorem dX6_read_44 : decode cX6_read 44 = .ok (.iconst 1, 1) := by decide +kernel
theorem dX6_read_45 : decode cX6_read 45 = .ok (.iadd, 1) := by decide +kernel
theorem dX6_read_46 : decode cX6_read 46 = .ok (.putfield 24, 3) := by decide +kernel
theorem dX6_read_49 : decode cX6_read 49 = .ok (.aload_n 0, 1) := by decide +kernel
theorem dX6_read_50 : decode cX6_read 50 = .ok (.invokevirtual 31, 3) := by decide +kernel
theorem dX6_read_53 : decode cX6_read 53 = .ok (.iinc 1 1, 3) := by decide +kernel
theorem dX6_read_56 : decode cX6_read 56 = .ok (.goto (-32), 3) := by decide +kernel
theorem dX6_read_59 : decode cX6_read 59 = .ok (.aload_n 0, 1) := by decide +kernel
theorem dX6_read_60 : decode cX6_read 60 = .ok (.getfield 24, 3) := by decide +kernel
theorem dX6_read_63 : decode cX6_read 63 = .ok (.aload_n 0, 1) := by decide +kernel
theorem dX6_read_64 : decode cX6_read 64 = .ok (.getfield 7, 3) := by decide +kernel
theorem dX6_read_67 : decode cX6_read 67 = .ok (.if_icmp .ge 7, 3) := by decide +kernel
theorem dX6_read_70 : decode cX6_read 70 = .ok (.aload_n 0, 1) := by decide +kernel
theorem dX6_read_71 : decode cX6_read 71 = .ok (.invokevirtual 38, 3) := by decide +kernel
theorem dX6_read_74 : decode cX6_read 74 = .ok (.aload_n 0, 1) := by decide +kernel
theorem dX6_read_75 : decode cX6_read 75 = .ok (.getfield 27, 3) := by decide +kernel
theorem dX6_read_78 : decode cX6_read 78 = .ok (.ireturn, 1) := by decide +kernel
theorem dX6_next_0 : decode cX6_next 0 = .ok (.aload_n 0, 1) := by decide +kernel
theorem dX6_next_1 : decode cX6_next 1 = .ok (.getfield 27, 3) := by decide +kernel
theorem dX6_next_4 : decode cX6_next 4 = .ok (.ifCond .ge 32, 3) := by decide +kernel
theorem dX6_next_7 : decode cX6_next 7 = .ok (.aload_n 0, 1) := by decide +kernel
theorem dX6_next_8 : decode cX6_next 8 = .ok (.getfield 24, 3) := by decide +kernel
theorem dX6_next_11 : decode cX6_next 11 = .ok (.iconst 0, 1) := by decide +kernel
theorem dX6_next_12 : decode cX6_next 12 = .ok (.aload_n 0, 1) := by decide +kernel
theorem dX6_next_13 : decode cX6_next 13 = .ok (.getfield 7, 3) := by decide +kernel
theorem dX6_next_16 : decode cX6_next 16 = .ok (.iconst 1, 1) := by decide +kernel
theorem dX6_next_17 : decode cX6_next 17 = .ok (.isub, 1) := by decide +kernel
theorem dX6_next_18 : decode cX6_next 18 = .ok (.invokestatic 41, 3) := by decide +kernel
theorem dX6_next_21 : decode cX6_next 21 = .ok (.ifCond .eq 15, 3) := by decide +kernel
theorem dX6_next_24 : decode cX6_next 24 = .ok (.aload_n 0, 1) := by decide +kernel
theorem dX6_next_25 : decode cX6_next 25 = .ok (.getfield 20, 3) := by decide +kernel
theorem dX6_next_28 : decode cX6_next 28 = .ok (.aload_n 0, 1) := by decide +kernel
theorem dX6_next_29 : decode cX6_next 29 = .ok (.getfield 24, 3) := by decide +kernel
theorem dX6_next_32 : decode cX6_next 32 = .ok (.iaload, 1) := by decide +kernel
theorem dX6_next_33 : decode cX6_next 33 = .ok (.goto 4, 3) := by decide +kernel
theorem dX6_next_36 : decode cX6_next 36 = .ok (.iconst (-1), 1) := by decide +kernel
theorem dX6_next_37 : decode cX6_next 37 = .ok (.ireturn, 1) := by decide +kernel
theorem dX6_noteFault_0 : decode cX6_noteFault 0 = .ok (.aload_n 0, 1) := by decide +kernel
theorem dX6_noteFault_1 : decode cX6_noteFault 1 = .ok (.getfield 27, 3) := by decide +kernel
theorem dX6_noteFault_4 : decode cX6_noteFault 4 = .ok (.ifCond .ge 11, 3) := by decide +kernel
theorem dX6_noteFault_7 : decode cX6_noteFault 7 = .ok (.aload_n 0, 1) := by decide +kernel
theorem dX6_noteFault_8 : decode cX6_noteFault 8 = .ok (.aload_n 0, 1) := by decide +kernel
theorem dX6_noteFault_9 : decode cX6_noteFault 9 = .ok (.getfield 24, 3) := by decide +kernel
theorem dX6_noteFault_12 : decode cX6_noteFault 12 = .ok (.putfield 27, 3) := by decide +kernel
theorem dX6_noteFault_15 : decode cX6_noteFault 15 = .ok (.return_, 1) := by decide +kernel
theorem dX6_readLine_0 : decode cX6_readLine 0 = .ok (.aload_n 0, 1) := by decide +kernel
theorem dX6_readLine_1 : decode cX6_readLine 1 = .ok (.iconst 0, 1) := by decide +kernel
theorem dX6_readLine_2 : decode cX6_readLine 2 = .ok (.invokevirtual 47, 3) := by decide +kernel
theorem dX6_readLine_5 : decode cX6_readLine 5 = .ok (.iconst (-1), 1) := by decide +kernel
theorem dX6_readLine_6 : decode cX6_readLine 6 = .ok (.istore_n 1, 1) := by decide +kernel
theorem dX6_readLine_7 : decode cX6_readLine 7 = .ok (.aload_n 0, 1) := by decide +kernel
theorem dX6_readLine_8 : decode cX6_readLine 8 = .ok (.invokevirtual 34, 3) := by decide +kernel
theorem dX6_readLine_11 : decode cX6_readLine 11 = .ok (.bipush 63, 2) := by decide +kernel
theorem dX6_readLine_13 : decode cX6_readLine 13 = .ok (.if_icmp .ne 36, 3) := by decide +kernel
theorem dX6_readLine_16 : decode cX6_readLine 16 = .ok (.aload_n 0, 1) := by decide +kernel
theorem dX6_readLine_17 : decode cX6_readLine 17 = .ok (.dup, 1) := by decide +kernel
theorem dX6_readLine_18 : decode cX6_readLine 18 = .ok (.getfield 24, 3) := by decide +kernel
theorem dX6_readLine_21 : decode cX6_readLine 21 = .ok (.iconst 1, 1) := by decide +kernel
theorem dX6_readLine_22 : decode cX6_readLine 22 = .ok (.iadd, 1) := by decide +kernel
theorem dX6_readLine_23 : decode cX6_readLine 23 = .ok (.putfield 24, 3) := by decide +kernel
theorem dX6_readLine_26 : decode cX6_readLine 26 = .ok (.aload_n 0, 1) := by decide +kernel
theorem dX6_readLine_27 : decode cX6_readLine 27 = .ok (.getfield 16, 3) := by decide +kernel
theorem dX6_readLine_30 : decode cX6_readLine 30 = .ok (.getfield 30, 3) := by decide +kernel
theorem dX6_readLine_33 : decode cX6_readLine 33 = .ok (.istore_n 1, 1) := by decide +kernel
theorem dX6_readLine_34 : decode cX6_readLine 34 = .ok (.aload_n 0, 1) := by decide +kernel
theorem dX6_readLine_35 : decode cX6_readLine 35 = .ok (.getfield 16, 3) := by decide +kernel
theorem dX6_readLine_38 : decode cX6_readLine 38 = .ok (.bipush 63, 2) := by decide +kernel
theorem dX6_readLine_40 : decode cX6_readLine 40 = .ok (.iconst 0, 1) := by decide +kernel
theorem dX6_readLine_41 : decode cX6_readLine 41 = .ok (.invokevirtual 51, 3) := by decide +kernel
theorem dX6_readLine_44 : decode cX6_readLine 44 = .ok (.aload_n 0, 1) := by decide +kernel
theorem dX6_readLine_45 : decode cX6_readLine 45 = .ok (.iconst 0, 1) := by decide +kernel
theorem dX6_readLine_46 : decode cX6_readLine 46 = .ok (.invokevirtual 47, 3) := by decide +kernel
theorem dX6_readLine_49 : decode cX6_readLine 49 = .ok (.iload_n 1, 1) := by decide +kernel
theorem dX6_readLine_50 : decode cX6_readLine 50 = .ok (.iconst 0, 1) := by decide +kernel
theorem dX6_readLine_51 : decode cX6_readLine 51 = .ok (.bipush 127, 2) := by decide +kernel
theorem dX6_readLine_53 : decode cX6_readLine 53 = .ok (.invokestatic 41, 3) := by decide +kernel
theorem dX6_readLine_56 : decode cX6_readLine 56 = .ok (.ifCond .eq 19, 3) := by decide +kernel
theorem dX6_readLine_59 : decode cX6_readLine 59 = .ok (.aload_n 0, 1) := by decide +kernel
theorem dX6_readLine_60 : decode cX6_readLine 60 = .ok (.getfield 16, 3) := by decide +kernel
theorem dX6_readLine_63 : decode cX6_readLine 63 = .ok (.getfield 55, 3) := by decide +kernel
theorem dX6_readLine_66 : decode cX6_readLine 66 = .ok (.iload_n 1, 1) := by decide +kernel
theorem dX6_readLine_67 : decode cX6_readLine 67 = .ok (.aload_n 0, 1) := by decide +kernel
theorem dX6_readLine_68 : decode cX6_readLine 68 = .ok (.getfield 16, 3) := by decide +kernel
theorem dX6_readLine_71 : decode cX6_readLine 71 = .ok (.getfield 30, 3) := by decide +kernel
theorem dX6_readLine_74 : decode cX6_readLine 74 = .ok (.iastore, 1) := by decide +kernel
theorem dX6_readLine_75 : decode cX6_readLine 75 = .ok (.aload_n 0, 1) := by decide +kernel
theorem dX6_readLine_76 : decode cX6_readLine 76 = .ok (.getfield 16, 3) := by decide +kernel
theorem dX6_readLine_79 : decode cX6_readLine 79 = .ok (.bipush 59, 2) := by decide +kernel
theorem dX6_readLine_81 : decode cX6_readLine 81 = .ok (.iconst 0, 1) := by decide +kernel
theorem dX6_readLine_82 : decode cX6_readLine 82 = .ok (.invokevirtual 51, 3) := by decide +kernel
theorem dX6_readLine_85 : decode cX6_readLine 85 = .ok (.return_, 1) := by decide +kernel
theorem dX6_readOr_0 : decode cX6_readOr 0 = .ok (.aload_n 0, 1) := by decide +kernel
theorem dX6_readOr_1 : decode cX6_readOr 1 = .ok (.iload_n 1, 1) := by decide +kernel
theorem dX6_readOr_2 : decode cX6_readOr 2 = .ok (.invokevirtual 58, 3) := by decide +kernel
theorem dX6_readOr_5 : decode cX6_readOr 5 = .ok (.iconst 0, 1) := by decide +kernel
theorem dX6_readOr_6 : decode cX6_readOr 6 = .ok (.istore_n 2, 1) := by decide +kernel
theorem dX6_readOr_7 : decode cX6_readOr 7 = .ok (.iload_n 2, 1) := by decide +kernel
theorem dX6_readOr_8 : decode cX6_readOr 8 = .ok (.bipush 120, 2) := by decide +kernel
theorem dX6_readOr_10 : decode cX6_readOr 10 = .ok (.if_icmp .ge 43, 3) := by decide +kernel
theorem dX6_readOr_13 : decode cX6_readOr 13 = .ok (.aload_n 0, 1) := by decide +kernel
theorem dX6_readOr_14 : decode cX6_readOr 14 = .ok (.invokevirtual 34, 3) := by decide +kernel
theorem dX6_readOr_17 : decode cX6_readOr 17 = .ok (.bipush 124, 2) := by decide +kernel
theorem dX6_readOr_19 : decode cX6_readOr 19 = .ok (.if_icmp .ne 34, 3) := by decide +kernel
theorem dX6_readOr_22 : decode cX6_readOr 22 = .ok (.aload_n 0, 1) := by decide +kernel
theorem dX6_readOr_23 : decode cX6_readOr 23 = .ok (.dup, 1) := by decide +kernel
theorem dX6_readOr_24 : decode cX6_readOr 24 = .ok (.getfield 24, 3) := by decide +kernel
theorem dX6_readOr_27 : decode cX6_readOr 27 = .ok (.iconst 1, 1) := by decide +kernel
theorem dX6_readOr_28 : decode cX6_readOr 28 = .ok (.iadd, 1) := by decide +kernel
theorem dX6_readOr_29 : decode cX6_readOr 29 = .ok (.putfield 24, 3) := by decide +kernel
theorem dX6_readOr_32 : decode cX6_readOr 32 = .ok (.aload_n 0, 1) := by decide +kernel
theorem dX6_readOr_33 : decode cX6_readOr 33 = .ok (.iload_n 1, 1) := by decide +kernel
theorem dX6_readOr_34 : decode cX6_readOr 34 = .ok (.invokevirtual 58, 3) := by decide +kernel
theorem dX6_readOr_37 : decode cX6_readOr 37 = .ok (.aload_n 0, 1) := by decide +kernel
theorem dX6_readOr_38 : decode cX6_readOr 38 = .ok (.getfield 16, 3) := by decide +kernel
theorem dX6_readOr_41 : decode cX6_readOr 41 = .ok (.bipush 124, 2) := by decide +kernel
theorem dX6_readOr_43 : decode cX6_readOr 43 = .ok (.iconst 0, 1) := by decide +kernel
theorem dX6_readOr_44 : decode cX6_readOr 44 = .ok (.invokevirtual 51, 3) := by decide +kernel
theorem dX6_readOr_47 : decode cX6_readOr 47 = .ok (.iinc 2 1, 3) := by decide +kernel
theorem dX6_readOr_50 : decode cX6_readOr 50 = .ok (.goto (-43), 3) := by decide +kernel
theorem dX6_readOr_53 : decode cX6_readOr 53 = .ok (.return_, 1) := by decide +kernel
theorem dX6_readAnd_0 : decode cX6_readAnd 0 = .ok (.aload_n 0, 1) := by decide +kernel
theorem dX6_readAnd_1 : decode cX6_readAnd 1 = .ok (.iload_n 1, 1) := by decide +kernel
theorem dX6_readAnd_2 : decode cX6_readAnd 2 = .ok (.invokevirtual 61, 3) := by decide +kernel
theorem dX6_readAnd_5 : decode cX6_readAnd 5 = .ok (.iconst 0, 1) := by decide +kernel
theorem dX6_readAnd_6 : decode cX6_readAnd 6 = .ok (.istore_n 2, 1) := by decide +kernel
theorem dX6_readAnd_7 : decode cX6_readAnd 7 = .ok (.iload_n 2, 1) := by decide +kernel
theorem dX6_readAnd_8 : decode cX6_readAnd 8 = .ok (.bipush 120, 2) := by decide +kernel
theorem dX6_readAnd_10 : decode cX6_readAnd 10 = .ok (.if_icmp .ge 43, 3) := by decide +kernel
theorem dX6_readAnd_13 : decode cX6_readAnd 13 = .ok (.aload_n 0, 1) := by decide +kernel
theorem dX6_readAnd_14 : decode cX6_readAnd 14 = .ok (.invokevirtual 34, 3) := by decide +kernel
theorem dX6_readAnd_17 : decode cX6_readAnd 17 = .ok (.bipush 38, 2) := by decide +kernel
theorem dX6_readAnd_19 : decode cX6_readAnd 19 = .ok (.if_icmp .ne 34, 3) := by decide +kernel
theorem dX6_readAnd_22 : decode cX6_readAnd 22 = .ok (.aload_n 0, 1) := by decide +kernel
theorem dX6_readAnd_23 : decode cX6_readAnd 23 = .ok (.dup, 1) := by decide +kernel
theorem dX6_readAnd_24 : decode cX6_readAnd 24 = .ok (.getfield 24, 3) := by decide +kernel
theorem dX6_readAnd_27 : decode cX6_readAnd 27 = .ok (.iconst 1, 1) := by decide +kernel
theorem dX6_readAnd_28 : decode cX6_readAnd 28 = .ok (.iadd, 1) := by decide +kernel
theorem dX6_readAnd_29 : decode cX6_readAnd 29 = .ok (.putfield 24, 3) := by decide +kernel
theorem dX6_readAnd_32 : decode cX6_readAnd 32 = .ok (.aload_n 0, 1) := by decide +kernel
theorem dX6_readAnd_33 : decode cX6_readAnd 33 = .ok (.iload_n 1, 1) := by decide +kernel
theorem dX6_readAnd_34 : decode cX6_readAnd 34 = .ok (.invokevirtual 61, 3) := by decide +kernel
theorem dX6_readAnd_37 : decode cX6_readAnd 37 = .ok (.aload_n 0, 1) := by decide +kernel
theorem dX6_readAnd_38 : decode cX6_readAnd 38 = .ok (.getfield 16, 3) := by decide +kernel
theorem dX6_readAnd_41 : decode cX6_readAnd 41 = .ok (.bipush 38, 2) := by decide +kernel
theorem dX6_readAnd_43 : decode cX6_readAnd 43 = .ok (.iconst 0, 1) := by decide +kernel
theorem dX6_readAnd_44 : decode cX6_readAnd 44 = .ok (.invokevirtual 51, 3) := by decide +kernel
theorem dX6_readAnd_47 : decode cX6_readAnd 47 = .ok (.iinc 2 1, 3) := by decide +kernel
theorem dX6_readAnd_50 : decode cX6_readAnd 50 = .ok (.goto (-43), 3) := by decide +kernel
theorem dX6_readAnd_53 : decode cX6_readAnd 53 = .ok (.return_, 1) := by decide +kernel
theorem dX6_readComparison_0 : decode cX6_readComparison 0 = .ok (.aload_n 0, 1) := by decide +kernel
theorem dX6_readComparison_1 : decode cX6_readComparison 1 = .ok (.iload_n 1, 1) := by decide +kernel
theorem dX6_readComparison_2 : decode cX6_readComparison 2 = .ok (.invokevirtual 64, 3) := by decide +kernel
theorem dX6_readComparison_5 : decode cX6_readComparison 5 = .ok (.aload_n 0, 1) := by decide +kernel
theorem dX6_readComparison_6 : decode cX6_readComparison 6 = .ok (.invokevirtual 34, 3) := by decide +kernel
theorem dX6_readComparison_9 : decode cX6_readComparison 9 = .ok (.istore_n 2, 1) := by decide +kernel
theorem dX6_readComparison_10 : decode cX6_readComparison 10 = .ok (.iload_n 2, 1) := by decide +kernel
theorem dX6_readComparison_11 : decode cX6_readComparison 11 = .ok (.bipush 60, 2) := by decide +kernel
theorem dX6_readComparison_13 : decode cX6_readComparison 13 = .ok (.if_icmp .eq 15, 3) := by decide +kernel
theorem dX6_readComparison_16 : decode cX6_readComparison 16 = .ok (.iload_n 2, 1) := by decide +kernel
theorem dX6_readComparison_17 : decode cX6_readComparison 17 = .ok (.bipush 61, 2) := by decide +kernel
theorem dX6_readComparison_19 : decode cX6_readComparison 19 = .ok (.if_icmp .eq 9, 3) := by decide +kernel
theorem dX6_readComparison_22 : decode cX6_readComparison 22 = .ok (.iload_n 2, 1) := by decide +kernel
theorem dX6_readComparison_23 : decode cX6_readComparison 23 = .ok (.bipush 62, 2) := by decide +kernel
theorem dX6_readComparison_25 : decode cX6_readComparison 25 = .ok (.if_icmp .ne 27, 3) := by decide +kernel
theorem dX6_readComparison_28 : decode cX6_readComparison 28 = .ok (.aload_n 0, 1) := by decide +kernel
theorem dX6_readComparison_29 : decode cX6_readComparison 29 = .ok (.dup, 1) := by decide +kernel
theorem dX6_readComparison_30 : decode cX6_readComparison 30 = .ok (.getfield 24, 3) := by decide +kernel
theorem dX6_readComparison_33 : decode cX6_readComparison 33 = .ok (.iconst 1, 1) := by decide +kernel
theorem dX6_readComparison_34 : decode cX6_readComparison 34 = .ok (.iadd, 1) := by decide +kernel
theorem dX6_readComparison_35 : decode cX6_readComparison 35 = .ok (.putfield 24, 3) := by decide +kernel
theorem dX6_readComparison_38 : decode cX6_readComparison 38 = .ok (.aload_n 0, 1) := by decide +kernel
theorem dX6_readComparison_39 : decode cX6_readComparison 39 = .ok (.iload_n 1, 1) := by decide +kernel
theorem dX6_readComparison_40 : decode cX6_readComparison 40 = .ok (.invokevirtual 64, 3) := by decide +kernel
theorem dX6_readComparison_43 : decode cX6_readComparison 43 = .ok (.aload_n 0, 1) := by decide +kernel
theorem dX6_readComparison_44 : decode cX6_readComparison 44 = .ok (.getfield 16, 3) := by decide +kernel
theorem dX6_readComparison_47 : decode cX6_readComparison 47 = .ok (.iload_n 2, 1) := by decide +kernel
theorem dX6_readComparison_48 : decode cX6_readComparison 48 = .ok (.iconst 0, 1) := by decide +kernel
theorem dX6_readComparison_49 : decode cX6_readComparison 49 = .ok (.invokevirtual 51, 3) := by decide +kernel
theorem dX6_readComparison_52 : decode cX6_readComparison 52 = .ok (.return_, 1) := by decide +kernel
theorem dX6_readSum_0 : decode cX6_readSum 0 = .ok (.aload_n 0, 1) := by decide +kernel
theorem dX6_readSum_1 : decode cX6_readSum 1 = .ok (.iload_n 1, 1) := by decide +kernel
theorem dX6_readSum_2 : decode cX6_readSum 2 = .ok (.invokevirtual 67, 3) := by decide +kernel
theorem dX6_readSum_5 : decode cX6_readSum 5 = .ok (.iconst 0, 1) := by decide +kernel
theorem dX6_readSum_6 : decode cX6_readSum 6 = .ok (.istore_n 2, 1) := by decide +kernel
theorem dX6_readSum_7 : decode cX6_readSum 7 = .ok (.iload_n 2, 1) := by decide +kernel
theorem dX6_readSum_8 : decode cX6_readSum 8 = .ok (.bipush 120, 2) := by decide +kernel
theorem dX6_readSum_10 : decode cX6_readSum 10 = .ok (.if_icmp .ge 56, 3) := by decide +kernel
theorem dX6_readSum_13 : decode cX6_readSum 13 = .ok (.aload_n 0, 1) := by decide +kernel
theorem dX6_readSum_14 : decode cX6_readSum 14 = .ok (.invokevirtual 34, 3) := by decide +kernel
theorem dX6_readSum_17 : decode cX6_readSum 17 = .ok (.bipush 43, 2) := by decide +kernel
theorem dX6_readSum_19 : decode cX6_readSum 19 = .ok (.if_icmp .eq 12, 3) := by decide +kernel
theorem dX6_readSum_22 : decode cX6_readSum 22 = .ok (.aload_n 0, 1) := by decide +kernel
theorem dX6_readSum_23 : decode cX6_readSum 23 = .ok (.invokevirtual 34, 3) := by decide +kernel
theorem dX6_readSum_26 : decode cX6_readSum 26 = .ok (.bipush 45, 2) := by decide +kernel
theorem dX6_readSum_28 : decode cX6_readSum 28 = .ok (.if_icmp .ne 38, 3) := by decide +kernel
theorem dX6_readSum_31 : decode cX6_readSum 31 = .ok (.aload_n 0, 1) := by decide +kernel
theorem dX6_readSum_32 : decode cX6_readSum 32 = .ok (.invokevirtual 34, 3) := by decide +kernel
theorem dX6_readSum_35 : decode cX6_readSum 35 = .ok (.istore_n 3, 1) := by decide +kernel
theorem dX6_readSum_36 : decode cX6_readSum 36 = .ok (.aload_n 0, 1) := by decide +kernel
theorem dX6_readSum_37 : decode cX6_readSum 37 = .ok (.dup, 1) := by decide +kernel
theorem dX6_readSum_38 : decode cX6_readSum 38 = .ok (.getfield 24, 3) := by decide +kernel
theorem dX6_readSum_41 : decode cX6_readSum 41 = .ok (.iconst 1, 1) := by decide +kernel
theorem dX6_readSum_42 : decode cX6_readSum 42 = .ok (.iadd, 1) := by decide +kernel
theorem dX6_readSum_43 : decode cX6_readSum 43 = .ok (.putfield 24, 3) := by decide +kernel
theorem dX6_readSum_46 : decode cX6_readSum 46 = .ok (.aload_n 0, 1) := by decide +kernel
theorem dX6_readSum_47 : decode cX6_readSum 47 = .ok (.iload_n 1, 1) := by decide +kernel
theorem dX6_readSum_48 : decode cX6_readSum 48 = .ok (.invokevirtual 67, 3) := by decide +kernel
theorem dX6_readSum_51 : decode cX6_readSum 51 = .ok (.aload_n 0, 1) := by decide +kernel
theorem dX6_readSum_52 : decode cX6_readSum 52 = .ok (.getfield 16, 3) := by decide +kernel
theorem dX6_readSum_55 : decode cX6_readSum 55 = .ok (.iload_n 3, 1) := by decide +kernel
theorem dX6_readSum_56 : decode cX6_readSum 56 = .ok (.iconst 0, 1) := by decide +kernel
theorem dX6_readSum_57 : decode cX6_readSum 57 = .ok (.invokevirtual 51, 3) := by decide +kernel
theorem dX6_readSum_60 : decode cX6_readSum 60 = .ok (.iinc 2 1, 3) := by decide +kernel
theorem dX6_readSum_63 : decode cX6_readSum 63 = .ok (.goto (-56), 3) := by decide +kernel
theorem dX6_readSum_66 : decode cX6_readSum 66 = .ok (.return_, 1) := by decide +kernel
theorem dX6_readProduct_0 : decode cX6_readProduct 0 = .ok (.aload_n 0, 1) := by decide +kernel
theorem dX6_readProduct_1 : decode cX6_readProduct 1 = .ok (.iload_n 1, 1) := by decide +kernel
theorem dX6_readProduct_2 : decode cX6_readProduct 2 = .ok (.invokevirtual 70, 3) := by decide +kernel
theorem dX6_readProduct_5 : decode cX6_readProduct 5 = .ok (.iconst 0, 1) := by decide +kernel
theorem dX6_readProduct_6 : decode cX6_readProduct 6 = .ok (.istore_n 2, 1) := by decide +kernel
theorem dX6_readProduct_7 : decode cX6_readProduct 7 = .ok (.iload_n 2, 1) := by decide +kernel
theorem dX6_readProduct_8 : decode cX6_readProduct 8 = .ok (.bipush 120, 2) := by decide +kernel
theorem dX6_readProduct_10 : decode cX6_readProduct 10 = .ok (.if_icmp .ge 65, 3) := by decide +kernel
theorem dX6_readProduct_13 : decode cX6_readProduct 13 = .ok (.aload_n 0, 1) := by decide +kernel
theorem dX6_readProduct_14 : decode cX6_readProduct 14 = .ok (.invokevirtual 34, 3) := by decide +kernel
theorem dX6_readProduct_17 : decode cX6_readProduct 17 = .ok (.bipush 42, 2) := by decide +kernel
theorem dX6_readProduct_19 : decode cX6_readProduct 19 = .ok (.if_icmp .eq 21, 3) := by decide +kernel
theorem dX6_readProduct_22 : decode cX6_readProduct 22 = .ok (.aload_n 0, 1) := by decide +kernel
theorem dX6_readProduct_23 : decode cX6_readProduct 23 = .ok (.invokevirtual 34, 3) := by decide +kernel
theorem dX6_readProduct_26 : decode cX6_readProduct 26 = .ok (.bipush 47, 2) := by decide +kernel
theorem dX6_readProduct_28 : decode cX6_readProduct 28 = .ok (.if_icmp .eq 12, 3) := by decide +kernel
theorem dX6_readProduct_31 : decode cX6_readProduct 31 = .ok (.aload_n 0, 1) := by decide +kernel
theorem dX6_readProduct_32 : decode cX6_readProduct 32 = .ok (.invokevirtual 34, 3) := by decide +kernel
theorem dX6_readProduct_35 : decode cX6_readProduct 35 = .ok (.bipush 37, 2) := by decide +kernel
theorem dX6_readProduct_37 : decode cX6_readProduct 37 = .ok (.if_icmp .ne 38, 3) := by decide +kernel
theorem dX6_readProduct_40 : decode cX6_readProduct 40 = .ok (.aload_n 0, 1) := by decide +kernel
theorem dX6_readProduct_41 : decode cX6_readProduct 41 = .ok (.invokevirtual 34, 3) := by decide +kernel
theorem dX6_readProduct_44 : decode cX6_readProduct 44 = .ok (.istore_n 3, 1) := by decide +kernel
theorem dX6_readProduct_45 : decode cX6_readProduct 45 = .ok (.aload_n 0, 1) := by decide +kernel
theorem dX6_readProduct_46 : decode cX6_readProduct 46 = .ok (.dup, 1) := by decide +kernel
theorem dX6_readProduct_47 : decode cX6_readProduct 47 = .ok (.getfield 24, 3) := by decide +kernel
theorem dX6_readProduct_50 : decode cX6_readProduct 50 = .ok (.iconst 1, 1) := by decide +kernel
theorem dX6_readProduct_51 : decode cX6_readProduct 51 = .ok (.iadd, 1) := by decide +kernel
theorem dX6_readProduct_52 : decode cX6_readProduct 52 = .ok (.putfield 24, 3) := by decide +kernel
theorem dX6_readProduct_55 : decode cX6_readProduct 55 = .ok (.aload_n 0, 1) := by decide +kernel
theorem dX6_readProduct_56 : decode cX6_readProduct 56 = .ok (.iload_n 1, 1) := by decide +kernel
theorem dX6_readProduct_57 : decode cX6_readProduct 57 = .ok (.invokevirtual 70, 3) := by decide +kernel
theorem dX6_readProduct_60 : decode cX6_readProduct 60 = .ok (.aload_n 0, 1) := by decide +kernel
theorem dX6_readProduct_61 : decode cX6_readProduct 61 = .ok (.getfield 16, 3) := by decide +kernel
theorem dX6_readProduct_64 : decode cX6_readProduct 64 = .ok (.iload_n 3, 1) := by decide +kernel
theorem dX6_readProduct_65 : decode cX6_readProduct 65 = .ok (.iconst 0, 1) := by decide +kernel
theorem dX6_readProduct_66 : decode cX6_readProduct 66 = .ok (.invokevirtual 51, 3) := by decide +kernel
theorem dX6_readProduct_69 : decode cX6_readProduct 69 = .ok (.iinc 2 1, 3) := by decide +kernel
theorem dX6_readProduct_72 : decode cX6_readProduct 72 = .ok (.goto (-65), 3) := by decide +kernel
theorem dX6_readProduct_75 : decode cX6_readProduct 75 = .ok (.return_, 1) := by decide +kernel
theorem dX6_readOperand_0 : decode cX6_readOperand 0 = .ok (.aload_n 0, 1) := by decide +kernel
theorem dX6_readOperand_1 : decode cX6_readOperand 1 = .ok (.invokevirtual 34, 3) := by decide +kernel
theorem dX6_readOperand_4 : decode cX6_readOperand 4 = .ok (.istore_n 2, 1) := by decide +kernel
theorem dX6_readOperand_5 : decode cX6_readOperand 5 = .ok (.iload_n 2, 1) := by decide +kernel
theorem dX6_readOperand_6 : decode cX6_readOperand 6 = .ok (.invokestatic 73, 3) := by decide +kernel
theorem dX6_readOperand_9 : decode cX6_readOperand 9 = .ok (.istore_n 3, 1) := by decide +kernel
theorem dX6_readOperand_10 : decode cX6_readOperand 10 = .ok (.iload_n 2, 1) := by decide +kernel
theorem dX6_readOperand_11 : decode cX6_readOperand 11 = .ok (.bipush 40, 2) := by decide +kernel
theorem dX6_readOperand_13 : decode cX6_readOperand 13 = .ok (.if_icmp .eq 15, 3) := by decide +kernel
theorem dX6_readOperand_16 : decode cX6_readOperand 16 = .ok (.iload_n 2, 1) := by decide +kernel
theorem dX6_readOperand_17 : decode cX6_readOperand 17 = .ok (.bipush 33, 2) := by decide +kernel
theorem dX6_readOperand_19 : decode cX6_readOperand 19 = .ok (.if_icmp .eq 9, 3) := by decide +kernel
theorem dX6_readOperand_22 : decode cX6_readOperand 22 = .ok (.iload_n 2, 1) := by decide +kernel
theorem dX6_readOperand_23 : decode cX6_readOperand 23 = .ok (.bipush 45, 2) := by decide +kernel
theorem dX6_readOperand_25 : decode cX6_readOperand 25 = .ok (.if_icmp .ne 7, 3) := by decide +kernel
theorem dX6_readOperand_28 : decode cX6_readOperand 28 = .ok (.iconst 1, 1) := by decide +kernel
theorem dX6_readOperand_29 : decode cX6_readOperand 29 = .ok (.goto 4, 3) := by decide +kernel
theorem dX6_readOperand_32 : decode cX6_readOperand 32 = .ok (.iconst 0, 1) := by decide +kernel
theorem dX6_readOperand_33 : decode cX6_readOperand 33 = .ok (.istore 4, 2) := by decide +kernel
theorem dX6_readOperand_35 : decode cX6_readOperand 35 = .ok (.iload_n 2, 1) := by decide +kernel
theorem dX6_readOperand_36 : decode cX6_readOperand 36 = .ok (.bipush 48, 2) := by decide +kernel
theorem dX6_readOperand_38 : decode cX6_readOperand 38 = .ok (.bipush 57, 2) := by decide +kernel
theorem dX6_readOperand_40 : decode cX6_readOperand 40 = .ok (.invokestatic 41, 3) := by decide +kernel
theorem dX6_readOperand_43 : decode cX6_readOperand 43 = .ok (.ifCond .eq 10, 3) := by decide +kernel
theorem dX6_readOperand_46 : decode cX6_readOperand 46 = .ok (.aload_n 0, 1) := by decide +kernel
theorem dX6_readOperand_47 : decode cX6_readOperand 47 = .ok (.invokevirtual 77, 3) := by decide +kernel
theorem dX6_readOperand_50 : decode cX6_readOperand 50 = .ok (.goto 66, 3) := by decide +kernel
theorem dX6_readOperand_53 : decode cX6_readOperand 53 = .ok (.iload_n 3, 1) := by decide +kernel
theorem dX6_readOperand_54 : decode cX6_readOperand 54 = .ok (.ifCond .lt 26, 3) := by decide +kernel
theorem dX6_readOperand_57 : decode cX6_readOperand 57 = .ok (.aload_n 0, 1) := by decide +kernel
theorem dX6_readOperand_58 : decode cX6_readOperand 58 = .ok (.dup, 1) := by decide +kernel
theorem dX6_readOperand_59 : decode cX6_readOperand 59 = .ok (.getfield 24, 3) := by decide +kernel
theorem dX6_readOperand_62 : decode cX6_readOperand 62 = .ok (.iconst 1, 1) := by decide +kernel
theorem dX6_readOperand_63 : decode cX6_readOperand 63 = .ok (.iadd, 1) := by decide +kernel
theorem dX6_readOperand_64 : decode cX6_readOperand 64 = .ok (.putfield 24, 3) := by decide +kernel
theorem dX6_readOperand_67 : decode cX6_readOperand 67 = .ok (.aload_n 0, 1) := by decide +kernel
theorem dX6_readOperand_68 : decode cX6_readOperand 68 = .ok (.getfield 16, 3) := by decide +kernel
theorem dX6_readOperand_71 : decode cX6_readOperand 71 = .ok (.bipush 110, 2) := by decide +kernel
theorem dX6_readOperand_73 : decode cX6_readOperand 73 = .ok (.iload_n 3, 1) := by decide +kernel
theorem dX6_readOperand_74 : decode cX6_readOperand 74 = .ok (.invokevirtual 51, 3) := by decide +kernel
theorem dX6_readOperand_77 : decode cX6_readOperand 77 = .ok (.goto 39, 3) := by decide +kernel
theorem dX6_readOperand_80 : decode cX6_readOperand 80 = .ok (.iload 4, 2) := by decide +kernel
theorem dX6_readOperand_82 : decode cX6_readOperand 82 = .ok (.ifCond .eq 30, 3) := by decide +kernel
theorem dX6_readOperand_85 : decode cX6_readOperand 85 = .ok (.iload_n 1, 1) := by decide +kernel
theorem dX6_readOperand_86 : decode cX6_readOperand 86 = .ok (.bipush 6, 2) := by decide +kernel
theorem dX6_readOperand_88 : decode cX6_readOperand 88 = .ok (.if_icmp .ge 24, 3) := by decide +kernel
theorem dX6_readOperand_91 : decode cX6_readOperand 91 = .ok (.aload_n 0, 1) := by decide +kernel
theorem dX6_readOperand_92 : decode cX6_readOperand 92 = .ok (.dup, 1) := by decide +kernel
theorem dX6_readOperand_93 : decode cX6_readOperand 93 = .ok (.getfield 24, 3) := by decide +kernel
theorem dX6_readOperand_96 : decode cX6_readOperand 96 = .ok (.iconst 1, 1) := by decide +kernel
theorem dX6_readOperand_97 : decode cX6_readOperand 97 = .ok (.iadd, 1) := by decide +kernel
theorem dX6_readOperand_98 : decode cX6_readOperand 98 = .ok (.putfield 24, 3) := by decide +kernel
theorem dX6_readOperand_101 : decode cX6_readOperand 101 = .ok (.aload_n 0, 1) := by decide +kernel
theorem dX6_readOperand_102 : decode cX6_readOperand 102 = .ok (.iload_n 2, 1) := by decide +kernel
theorem dX6_readOperand_103 : decode cX6_readOperand 103 = .ok (.iload_n 1, 1) := by decide +kernel
theorem dX6_readOperand_104 : decode cX6_readOperand 104 = .ok (.iconst 1, 1) := by decide +kernel
theorem dX6_readOperand_105 : decode cX6_readOperand 105 = .ok (.iadd, 1) := by decide +kernel
theorem dX6_readOperand_106 : decode cX6_readOperand 106 = .ok (.invokevirtual 80, 3) := by decide +kernel
theorem dX6_readOperand_109 : decode cX6_readOperand 109 = .ok (.goto 7, 3) := by decide +kernel
theorem dX6_readOperand_112 : decode cX6_readOperand 112 = .ok (.aload_n 0, 1) := by decide +kernel
theorem dX6_readOperand_113 : decode cX6_readOperand 113 = .ok (.invokevirtual 38, 3) := by decide +kernel
theorem dX6_readOperand_116 : decode cX6_readOperand 116 = .ok (.return_, 1) := by decide +kernel
theorem dX6_readOpened_0 : decode cX6_readOpened 0 = .ok (.iload_n 1, 1) := by decide +kernel
theorem dX6_readOpened_1 : decode cX6_readOpened 1 = .ok (.bipush 40, 2) := by decide +kernel
theorem dX6_readOpened_3 : decode cX6_readOpened 3 = .ok (.if_icmp .eq 30, 3) := by decide +kernel
theorem dX6_readOpened_6 : decode cX6_readOpened 6 = .ok (.aload_n 0, 1) := by decide +kernel
theorem dX6_readOpened_7 : decode cX6_readOpened 7 = .ok (.iload_n 2, 1) := by decide +kernel
theorem dX6_readOpened_8 : decode cX6_readOpened 8 = .ok (.invokevirtual 70, 3) := by decide +kernel
theorem dX6_readOpened_11 : decode cX6_readOpened 11 = .ok (.aload_n 0, 1) := by decide +kernel
theorem dX6_readOpened_12 : decode cX6_readOpened 12 = .ok (.getfield 16, 3) := by decide +kernel
theorem dX6_readOpened_15 : decode cX6_readOpened 15 = .ok (.iload_n 1, 1) := by decide +kernel
theorem dX6_readOpened_16 : decode cX6_readOpened 16 = .ok (.bipush 33, 2) := by decide +kernel
theorem dX6_readOpened_18 : decode cX6_readOpened 18 = .ok (.if_icmp .ne 8, 3) := by decide +kernel
theorem dX6_readOpened_21 : decode cX6_readOpened 21 = .ok (.bipush 33, 2) := by decide +kernel
theorem dX6_readOpened_23 : decode cX6_readOpened 23 = .ok (.goto 5, 3) := by decide +kernel
theorem dX6_readOpened_26 : decode cX6_readOpened 26 = .ok (.bipush 126, 2) := by decide +kernel
theorem dX6_readOpened_28 : decode cX6_readOpened 28 = .ok (.iconst 0, 1) := by decide +kernel
theorem dX6_readOpened_29 : decode cX6_readOpened 29 = .ok (.invokevirtual 51, 3) := by decide +kernel
theorem dX6_readOpened_32 : decode cX6_readOpened 32 = .ok (.return_, 1) := by decide +kernel
theorem dX6_readOpened_33 : decode cX6_readOpened 33 = .ok (.aload_n 0, 1) := by decide +kernel
theorem dX6_readOpened_34 : decode cX6_readOpened 34 = .ok (.iload_n 2, 1) := by decide +kernel
theorem dX6_readOpened_35 : decode cX6_readOpened 35 = .ok (.invokevirtual 47, 3) := by decide +kernel
theorem dX6_readOpened_38 : decode cX6_readOpened 38 = .ok (.aload_n 0, 1) := by decide +kernel
theorem dX6_readOpened_39 : decode cX6_readOpened 39 = .ok (.invokevirtual 34, 3) := by decide +kernel
theorem dX6_readOpened_42 : decode cX6_readOpened 42 = .ok (.bipush 41, 2) := by decide +kernel
theorem dX6_readOpened_44 : decode cX6_readOpened 44 = .ok (.if_icmp .ne 16, 3) := by decide +kernel
theorem dX6_readOpened_47 : decode cX6_readOpened 47 = .ok (.aload_n 0, 1) := by decide +kernel
theorem dX6_readOpened_48 : decode cX6_readOpened 48 = .ok (.dup, 1) := by decide +kernel
theorem dX6_readOpened_49 : decode cX6_readOpened 49 = .ok (.getfield 24, 3) := by decide +kernel
theorem dX6_readOpened_52 : decode cX6_readOpened 52 = .ok (.iconst 1, 1) := by decide +kernel
theorem dX6_readOpened_53 : decode cX6_readOpened 53 = .ok (.iadd, 1) := by decide +kernel
theorem dX6_readOpened_54 : decode cX6_readOpened 54 = .ok (.putfield 24, 3) := by decide +kernel
theorem dX6_readOpened_57 : decode cX6_readOpened 57 = .ok (.goto 7, 3) := by decide +kernel
theorem dX6_readOpened_60 : decode cX6_readOpened 60 = .ok (.aload_n 0, 1) := by decide +kernel
theorem dX6_readOpened_61 : decode cX6_readOpened 61 = .ok (.invokevirtual 38, 3) := by decide +kernel
theorem dX6_readOpened_64 : decode cX6_readOpened 64 = .ok (.return_, 1) := by decide +kernel
theorem dX6_readNumber_0 : decode cX6_readNumber 0 = .ok (.iconst 0, 1) := by decide +kernel
theorem dX6_readNumber_1 : decode cX6_readNumber 1 = .ok (.istore_n 1, 1) := by decide +kernel
theorem dX6_readNumber_2 : decode cX6_readNumber 2 = .ok (.iconst 0, 1) := by decide +kernel
theorem dX6_readNumber_3 : decode cX6_readNumber 3 = .ok (.istore_n 2, 1) := by decide +kernel
theorem dX6_readNumber_4 : decode cX6_readNumber 4 = .ok (.iload_n 2, 1) := by decide +kernel
theorem dX6_readNumber_5 : decode cX6_readNumber 5 = .ok (.iconst 4, 1) := by decide +kernel
theorem dX6_readNumber_6 : decode cX6_readNumber 6 = .ok (.if_icmp .ge 46, 3) := by decide +kernel
theorem dX6_readNumber_9 : decode cX6_readNumber 9 = .ok (.aload_n 0, 1) := by decide +kernel
theorem dX6_readNumber_10 : decode cX6_readNumber 10 = .ok (.invokevirtual 34, 3) := by decide +kernel
theorem dX6_readNumber_13 : decode cX6_readNumber 13 = .ok (.bipush 48, 2) := by decide +kernel
theorem dX6_readNumber_15 : decode cX6_readNumber 15 = .ok (.bipush 57, 2) := by decide +kernel
theorem dX6_readNumber_17 : decode cX6_readNumber 17 = .ok (.invokestatic 41, 3) := by decide +kernel
theorem dX6_readNumber_20 : decode cX6_readNumber 20 = .ok (.ifCond .eq 32, 3) := by decide +kernel
theorem dX6_readNumber_23 : decode cX6_readNumber 23 = .ok (.iload_n 1, 1) := by decide +kernel
theorem dX6_readNumber_24 : decode cX6_readNumber 24 = .ok (.bipush 10, 2) := by decide +kernel
theorem dX6_readNumber_26 : decode cX6_readNumber 26 = .ok (.imul, 1) := by decide +kernel
theorem dX6_readNumber_27 : decode cX6_readNumber 27 = .ok (.aload_n 0, 1) := by decide +kernel
theorem dX6_readNumber_28 : decode cX6_readNumber 28 = .ok (.invokevirtual 34, 3) := by decide +kernel
theorem dX6_readNumber_31 : decode cX6_readNumber 31 = .ok (.iadd, 1) := by decide +kernel
theorem dX6_readNumber_32 : decode cX6_readNumber 32 = .ok (.bipush 48, 2) := by decide +kernel
theorem dX6_readNumber_34 : decode cX6_readNumber 34 = .ok (.isub, 1) := by decide +kernel
theorem dX6_readNumber_35 : decode cX6_readNumber 35 = .ok (.istore_n 1, 1) := by decide +kernel
theorem dX6_readNumber_36 : decode cX6_readNumber 36 = .ok (.aload_n 0, 1) := by decide +kernel
theorem dX6_readNumber_37 : decode cX6_readNumber 37 = .ok (.dup, 1) := by decide +kernel
theorem dX6_readNumber_38 : decode cX6_readNumber 38 = .ok (.getfield 24, 3) := by decide +kernel
theorem dX6_readNumber_41 : decode cX6_readNumber 41 = .ok (.iconst 1, 1) := by decide +kernel
theorem dX6_readNumber_42 : decode cX6_readNumber 42 = .ok (.iadd, 1) := by decide +kernel
theorem dX6_readNumber_43 : decode cX6_readNumber 43 = .ok (.putfield 24, 3) := by decide +kernel
theorem dX6_readNumber_46 : decode cX6_readNumber 46 = .ok (.iinc 2 1, 3) := by decide +kernel
theorem dX6_readNumber_49 : decode cX6_readNumber 49 = .ok (.goto (-45), 3) := by decide +kernel
theorem dX6_readNumber_52 : decode cX6_readNumber 52 = .ok (.aload_n 0, 1) := by decide +kernel
theorem dX6_readNumber_53 : decode cX6_readNumber 53 = .ok (.getfield 16, 3) := by decide +kernel
theorem dX6_readNumber_56 : decode cX6_readNumber 56 = .ok (.bipush 48, 2) := by decide +kernel
theorem dX6_readNumber_58 : decode cX6_readNumber 58 = .ok (.iload_n 1, 1) := by decide +kernel
theorem dX6_readNumber_59 : decode cX6_readNumber 59 = .ok (.invokevirtual 51, 3) := by decide +kernel
theorem dX6_readNumber_62 : decode cX6_readNumber 62 = .ok (.return_, 1) := by decide +kernel
theorem dX6_nameOf_0 : decode cX6_nameOf 0 = .ok (.iload_n 0, 1) := by decide +kernel
theorem dX6_nameOf_1 : decode cX6_nameOf 1 = .ok (.lookupswitch 71 #[(98, 65), (99, 67), (100, 59), (109, 63), (116, 69), (121, 61)], 59) := by decide +kernel
theorem dX6_nameOf_60 : decode cX6_nameOf 60 = .ok (.iconst 0, 1) := by decide +kernel
theorem dX6_nameOf_61 : decode cX6_nameOf 61 = .ok (.ireturn, 1) := by decide +kernel
theorem dX6_nameOf_62 : decode cX6_nameOf 62 = .ok (.iconst 1, 1) := by decide +kernel
theorem dX6_nameOf_63 : decode cX6_nameOf 63 = .ok (.ireturn, 1) := by decide +kernel
theorem dX6_nameOf_64 : decode cX6_nameOf 64 = .ok (.iconst 2, 1) := by decide +kernel
theorem dX6_nameOf_65 : decode cX6_nameOf 65 = .ok (.ireturn, 1) := by decide +kernel
theorem dX6_nameOf_66 : decode cX6_nameOf 66 = .ok (.iconst 3, 1) := by decide +kernel
theorem dX6_nameOf_67 : decode cX6_nameOf 67 = .ok (.ireturn, 1) := by decide +kernel
theorem dX6_nameOf_68 : decode cX6_nameOf 68 = .ok (.iconst 4, 1) := by decide +kernel
theorem dX6_nameOf_69 : decode cX6_nameOf 69 = .ok (.ireturn, 1) := by decide +kernel
theorem dX6_nameOf_70 : decode cX6_nameOf 70 = .ok (.iconst 5, 1) := by decide +kernel
theorem dX6_nameOf_71 : decode cX6_nameOf 71 = .ok (.ireturn, 1) := by decide +kernel
theorem dX6_nameOf_72 : decode cX6_nameOf 72 = .ok (.iconst (-1), 1) := by decide +kernel
theorem dX6_nameOf_73 : decode cX6_nameOf 73 = .ok (.ireturn, 1) := by decide +kernel
theorem dX7_init_0 : decode cX7_init 0 = .ok (.aload_n 0, 1) := by decide +kernel
theorem dX7_init_1 : decode cX7_init 1 = .ok (.invokespecial 3, 3) := by decide +kernel
theorem dX7_init_4 : decode cX7_init 4 = .ok (.aload_n 0, 1) := by decide +kernel
theorem dX7_init_5 : decode cX7_init 5 = .ok (.iconst 0, 1) := by decide +kernel
theorem dX7_init_6 : decode cX7_init 6 = .ok (.putfield 9, 3) := by decide +kernel
theorem dX7_init_9 : decode cX7_init 9 = .ok (.aload_n 0, 1) := by decide +kernel
theorem dX7_init_10 : decode cX7_init 10 = .ok (.iconst 0, 1) := by decide +kernel
theorem dX7_init_11 : decode cX7_init 11 = .ok (.putfield 15, 3) := by decide +kernel
theorem dX7_init_14 : decode cX7_init 14 = .ok (.aload_n 0, 1) := by decide +kernel
theorem dX7_init_15 : decode cX7_init 15 = .ok (.iconst 3, 1) := by decide +kernel
theorem dX7_init_16 : decode cX7_init 16 = .ok (.newarray .int, 2) := by decide +kernel
theorem dX7_init_18 : decode cX7_init 18 = .ok (.putfield 18, 3) := by decide +kernel
theorem dX7_init_21 : decode cX7_init 21 = .ok (.aload_n 0, 1) := by decide +kernel
theorem dX7_init_22 : decode cX7_init 22 = .ok (.iconst 0, 1) := by decide +kernel
theorem dX7_init_23 : decode cX7_init 23 = .ok (.putfield 22, 3) := by decide +kernel
theorem dX7_init_26 : decode cX7_init 26 = .ok (.aload_n 0, 1) := by decide +kernel
theorem dX7_init_27 : decode cX7_init 27 = .ok (.iconst 0, 1) := by decide +kernel
theorem dX7_init_28 : decode cX7_init 28 = .ok (.putfield 25, 3) := by decide +kernel
theorem dX7_init_31 : decode cX7_init 31 = .ok (.aload_n 0, 1) := by decide +kernel
theorem dX7_init_32 : decode cX7_init 32 = .ok (.iconst 0, 1) := by decide +kernel
theorem dX7_init_33 : decode cX7_init 33 = .ok (.putfield 28, 3) := by decide +kernel
theorem dX7_init_36 : decode cX7_init 36 = .ok (.aload_n 0, 1) := by decide +kernel
theorem dX7_init_37 : decode cX7_init 37 = .ok (.iconst 0, 1) := by decide +kernel
theorem dX7_init_38 : decode cX7_init 38 = .ok (.putfield 31, 3) := by decide +kernel
theorem dX7_init_41 : decode cX7_init 41 = .ok (.aload_n 0, 1) := by decide +kernel
theorem dX7_init_42 : decode cX7_init 42 = .ok (.iconst 5, 1) := by decide +kernel
theorem dX7_init_43 : decode cX7_init 43 = .ok (.anewarray 34, 3) := by decide +kernel
theorem dX7_init_46 : decode cX7_init 46 = .ok (.putfield 36, 3) := by decide +kernel
theorem dX7_init_49 : decode cX7_init 49 = .ok (.aload_n 0, 1) := by decide +kernel
theorem dX7_init_50 : decode cX7_init 50 = .ok (.iconst 3, 1) := by decide +kernel
theorem dX7_init_51 : decode cX7_init 51 = .ok (.newarray .int, 2) := by decide +kernel
theorem dX7_init_53 : decode cX7_init 53 = .ok (.putfield 40, 3) := by decide +kernel
theorem dX7_init_56 : decode cX7_init 56 = .ok (.aload_n 0, 1) := by decide +kernel
theorem dX7_init_57 : decode cX7_init 57 = .ok (.bipush 6, 2) := by decide +kernel
theorem dX7_init_59 : decode cX7_init 59 = .ok (.newarray .int, 2) := by decide +kernel
theorem dX7_init_61 : decode cX7_init 61 = .ok (.putfield 43, 3) := by decide +kernel
theorem dX7_init_64 : decode cX7_init 64 = .ok (.aload_n 0, 1) := by decide +kernel
theorem dX7_init_65 : decode cX7_init 65 = .ok (.sipush 384, 3) := by decide +kernel
theorem dX7_init_68 : decode cX7_init 68 = .ok (.newarray .int, 2) := by decide +kernel
theorem dX7_init_70 : decode cX7_init 70 = .ok (.putfield 46, 3) := by decide +kernel
theorem dX7_init_73 : decode cX7_init 73 = .ok (.aload_n 0, 1) := by decide +kernel
theorem dX7_init_74 : decode cX7_init 74 = .ok (.aload_n 1, 1) := by decide +kernel
theorem dX7_init_75 : decode cX7_init 75 = .ok (.putfield 49, 3) := by decide +kernel
theorem dX7_init_78 : decode cX7_init 78 = .ok (.aload_n 0, 1) := by decide +kernel
theorem dX7_init_79 : decode cX7_init 79 = .ok (.aload_n 2, 1) := by decide +kernel
theorem dX7_init_80 : decode cX7_init 80 = .ok (.putfield 53, 3) := by decide +kernel
theorem dX7_init_83 : decode cX7_init 83 = .ok (.iconst 0, 1) := by decide +kernel
theorem dX7_init_84 : decode cX7_init 84 = .ok (.istore_n 3, 1) := by decide +kernel
theorem dX7_init_85 : decode cX7_init 85 = .ok (.iload_n 3, 1) := by decide +kernel
theorem dX7_init_86 : decode cX7_init 86 = .ok (.iconst 4, 1) := by decide +kernel
theorem dX7_init_87 : decode cX7_init 87 = .ok (.if_icmp .gt 22, 3) := by decide +kernel
theorem dX7_init_90 : decode cX7_init 90 = .ok (.aload_n 0, 1) := by decide +kernel
theorem dX7_init_91 : decode cX7_init 91 = .ok (.getfield 36, 3) := by decide +kernel
theorem dX7_init_94 : decode cX7_init 94 = .ok (.iload_n 3, 1) := by decide +kernel
theorem dX7_init_95 : decode cX7_init 95 = .ok (.new 34, 3) := by decide +kernel
theorem dX7_init_98 : decode cX7_init 98 = .ok (.dup, 1) := by decide +kernel
theorem dX7_init_99 : decode cX7_init 99 = .ok (.invokespecial 57, 3) := by decide +kernel
theorem dX7_init_102 : decode cX7_init 102 = .ok (.aastore, 1) := by decide +kernel
theorem dX7_init_103 : decode cX7_init 103 = .ok (.iinc 3 1, 3) := by decide +kernel
theorem dX7_init_106 : decode cX7_init 106 = .ok (.goto (-21), 3) := by decide +kernel
theorem dX7_init_109 : decode cX7_init 109 = .ok (.return_, 1) := by decide +kernel
theorem dX7_fresh_0 : decode cX7_fresh 0 = .ok (.aload_n 0, 1) := by decide +kernel
theorem dX7_fresh_1 : decode cX7_fresh 1 = .ok (.getfield 36, 3) := by decide +kernel
theorem dX7_fresh_4 : decode cX7_fresh 4 = .ok (.iconst 0, 1) := by decide +kernel
theorem dX7_fresh_5 : decode cX7_fresh 5 = .ok (.aaload, 1) := by decide +kernel
theorem dX7_fresh_6 : decode cX7_fresh 6 = .ok (.aload_n 0, 1) := by decide +kernel
theorem dX7_fresh_7 : decode cX7_fresh 7 = .ok (.getfield 49, 3) := by decide +kernel
theorem dX7_fresh_10 : decode cX7_fresh 10 = .ok (.invokevirtual 58, 3) := by decide +kernel
theorem dX7_fresh_13 : decode cX7_fresh 13 = .ok (.aload_n 0, 1) := by decide +kernel
theorem dX7_fresh_14 : decode cX7_fresh 14 = .ok (.getfield 36, 3) := by decide +kernel
theorem dX7_fresh_17 : decode cX7_fresh 17 = .ok (.iconst 0, 1) := by decide +kernel
theorem dX7_fresh_18 : decode cX7_fresh 18 = .ok (.aaload, 1) := by decide +kernel
theorem dX7_fresh_19 : decode cX7_fresh 19 = .ok (.areturn, 1) := by decide +kernel
theorem dX7_behind_0 : decode cX7_behind 0 = .ok (.aload_n 0, 1) := by decide +kernel
theorem dX7_behind_1 : decode cX7_behind 1 = .ok (.invokevirtual 62, 3) := by decide +kernel
theorem dX7_behind_4 : decode cX7_behind 4 = .ok (.astore_n 3, 1) := by decide +kernel
theorem dX7_behind_5 : decode cX7_behind 5 = .ok (.iload_n 2, 1) := by decide +kernel
theorem dX7_behind_6 : decode cX7_behind 6 = .ok (.aload_n 1, 1) := by decide +kernel
theorem dX7_behind_7 : decode cX7_behind 7 = .ok (.invokevirtual 66, 3) := by decide +kernel
theorem dX7_behind_10 : decode cX7_behind 10 = .ok (.invokestatic 72, 3) := by decide +kernel
theorem dX7_behind_13 : decode cX7_behind 13 = .ok (.istore 4, 2) := by decide +kernel
theorem dX7_behind_15 : decode cX7_behind 15 = .ok (.iconst 0, 1) := by decide +kernel
theorem dX7_behind_16 : decode cX7_behind 16 = .ok (.istore 5, 2) := by decide +kernel
theorem dX7_behind_18 : decode cX7_behind 18 = .ok (.iload 5, 2) := by decide +kernel
theorem dX7_behind_20 : decode cX7_behind 20 = .ok (.iload 4, 2) := by decide +kernel
theorem dX7_behind_22 : decode cX7_behind 22 = .ok (.if_icmp .ge 23, 3) := by decide +kernel
theorem dX7_behind_25 : decode cX7_behind 25 = .ok (.aload_n 3, 1) := by decide +kernel
theorem dX7_behind_26 : decode cX7_behind 26 = .ok (.aload_n 0, 1) := by decide +kernel
theorem dX7_behind_27 : decode cX7_behind 27 = .ok (.getfield 53, 3) := by decide +kernel
theorem dX7_behind_30 : decode cX7_behind 30 = .ok (.aload_n 1, 1) := by decide +kernel
theorem dX7_behind_31 : decode cX7_behind 31 = .ok (.iload 5, 2) := by decide +kernel
theorem dX7_behind_33 : decode cX7_behind 33 = .ok (.invokevirtual 78, 3) := by decide +kernel
theorem dX7_behind_36 : decode cX7_behind 36 = .ok (.invokevirtual 82, 3) := by decide +kernel
theorem dX7_behind_39 : decode cX7_behind 39 = .ok (.iinc 5 1, 3) := by decide +kernel
theorem dX7_behind_42 : decode cX7_behind 42 = .ok (.goto (-24), 3) := by decide +kernel
theorem dX7_behind_45 : decode cX7_behind 45 = .ok (.aload_n 3, 1) := by decide +kernel
theorem dX7_behind_46 : decode cX7_behind 46 = .ok (.areturn, 1) := by decide +kernel
theorem dX7_firstCry_0 : decode cX7_firstCry 0 = .ok (.aload_n 0, 1) := by decide +kernel
theorem dX7_firstCry_1 : decode cX7_firstCry 1 = .ok (.invokevirtual 62, 3) := by decide +kernel
theorem dX7_firstCry_4 : decode cX7_firstCry 4 = .ok (.astore 4, 2) := by decide +kernel
theorem dX7_firstCry_6 : decode cX7_firstCry 6 = .ok (.aload_n 1, 1) := by decide +kernel
theorem dX7_firstCry_7 : decode cX7_firstCry 7 = .ok (.invokevirtual 66, 3) := by decide +kernel
theorem dX7_firstCry_10 : decode cX7_firstCry 10 = .ok (.istore 5, 2) := by decide +kernel
theorem dX7_firstCry_12 : decode cX7_firstCry 12 = .ok (.iconst 0, 1) := by decide +kernel
theorem dX7_firstCry_13 : decode cX7_firstCry 13 = .ok (.istore 6, 2) := by decide +kernel
theorem dX7_firstCry_15 : decode cX7_firstCry 15 = .ok (.iload 6, 2) := by decide +kernel
theorem dX7_firstCry_17 : decode cX7_firstCry 17 = .ok (.iload 5, 2) := by decide +kernel
theorem dX7_firstCry_19 : decode cX7_firstCry 19 = .ok (.if_icmp .ge 51, 3) := by decide +kernel
theorem dX7_firstCry_22 : decode cX7_firstCry 22 = .ok (.aload 4, 2) := by decide +kernel
theorem dX7_firstCry_24 : decode cX7_firstCry 24 = .ok (.getfield 86, 3) := by decide +kernel
theorem dX7_firstCry_27 : decode cX7_firstCry 27 = .ok (.iload_n 2, 1) := by decide +kernel
theorem dX7_firstCry_28 : decode cX7_firstCry 28 = .ok (.iaload, 1) := by decide +kernel
theorem dX7_firstCry_29 : decode cX7_firstCry 29 = .ok (.iload_n 3, 1) := by decide +kernel
theorem dX7_firstCry_30 : decode cX7_firstCry 30 = .ok (.if_icmp .ge 40, 3) := by decide +kernel
theorem dX7_firstCry_33 : decode cX7_firstCry 33 = .ok (.aload 4, 2) := by decide +kernel
theorem dX7_firstCry_35 : decode cX7_firstCry 35 = .ok (.aload_n 0, 1) := by decide +kernel
theorem dX7_firstCry_36 : decode cX7_firstCry 36 = .ok (.getfield 53, 3) := by decide +kernel
theorem dX7_firstCry_39 : decode cX7_firstCry 39 = .ok (.aload_n 1, 1) := by decide +kernel
theorem dX7_firstCry_40 : decode cX7_firstCry 40 = .ok (.iload 6, 2) := by decide +kernel
theorem dX7_firstCry_42 : decode cX7_firstCry 42 = .ok (.invokevirtual 78, 3) := by decide +kernel
theorem dX7_firstCry_45 : decode cX7_firstCry 45 = .ok (.invokevirtual 82, 3) := by decide +kernel
theorem dX7_firstCry_48 : decode cX7_firstCry 48 = .ok (.aload 4, 2) := by decide +kernel
theorem dX7_firstCry_50 : decode cX7_firstCry 50 = .ok (.getfield 86, 3) := by decide +kernel
theorem dX7_firstCry_53 : decode cX7_firstCry 53 = .ok (.iload_n 2, 1) := by decide +kernel
theorem dX7_firstCry_54 : decode cX7_firstCry 54 = .ok (.iaload, 1) := by decide +kernel
theorem dX7_firstCry_55 : decode cX7_firstCry 55 = .ok (.iload_n 3, 1) := by decide +kernel
theorem dX7_firstCry_56 : decode cX7_firstCry 56 = .ok (.if_icmp .lt 8, 3) := by decide +kernel
theorem dX7_firstCry_59 : decode cX7_firstCry 59 = .ok (.iload 6, 2) := by decide +kernel
theorem dX7_firstCry_61 : decode cX7_firstCry 61 = .ok (.iconst 1, 1) := by decide +kernel
theorem dX7_firstCry_62 : decode cX7_firstCry 62 = .ok (.iadd, 1) := by decide +kernel
theorem dX7_firstCry_63 : decode cX7_firstCry 63 = .ok (.ireturn, 1) := by decide +kernel
theorem dX7_firstCry_64 : decode cX7_firstCry 64 = .ok (.iinc 6 1, 3) := by decide +kernel
theorem dX7_firstCry_67 : decode cX7_firstCry 67 = .ok (.goto (-52), 3) := by decide +kernel
theorem dX7_firstCry_70 : decode cX7_firstCry 70 = .ok (.aload 4, 2) := by decide +kernel
theorem dX7_firstCry_72 : decode cX7_firstCry 72 = .ok (.getfield 86, 3) := by decide +kernel
theorem dX7_firstCry_75 : decode cX7_firstCry 75 = .ok (.iload_n 2, 1) := by decide +kernel
theorem dX7_firstCry_76 : decode cX7_firstCry 76 = .ok (.iaload, 1) := by decide +kernel
theorem dX7_firstCry_77 : decode cX7_firstCry 77 = .ok (.iload_n 3, 1) := by decide +kernel
theorem dX7_firstCry_78 : decode cX7_firstCry 78 = .ok (.if_icmp .lt 7, 3) := by decide +kernel
theorem dX7_firstCry_81 : decode cX7_firstCry 81 = .ok (.iconst 0, 1) := by decide +kernel
theorem dX7_firstCry_82 : decode cX7_firstCry 82 = .ok (.goto 5, 3) := by decide +kernel
theorem dX7_firstCry_85 : decode cX7_firstCry 85 = .ok (.bipush (-2), 2) := by decide +kernel
theorem dX7_firstCry_87 : decode cX7_firstCry 87 = .ok (.ireturn, 1) := by decide +kernel
theorem dX7_firstSilence_0 : decode cX7_firstSilence 0 = .ok (.aload_n 0, 1) := by decide +kernel
theorem dX7_firstSilence_1 : decode cX7_firstSilence 1 = .ok (.invokevirtual 62, 3) := by decide +kernel
theorem dX7_firstSilence_4 : decode cX7_firstSilence 4 = .ok (.astore_n 2, 1) := by decide +kernel
theorem dX7_firstSilence_5 : decode cX7_firstSilence 5 = .ok (.aload_n 1, 1) := by decide +kernel
theorem dX7_firstSilence_6 : decode cX7_firstSilence 6 = .ok (.invokevirtual 66, 3) := by decide +kernel
theorem dX7_firstSilence_9 : decode cX7_firstSilence 9 = .ok (.istore_n 3, 1) := by decide +kernel
theorem dX7_firstSilence_10 : decode cX7_firstSilence 10 = .ok (.iconst 0, 1) := by decide +kernel
theorem dX7_firstSilence_11 : decode cX7_firstSilence 11 = .ok (.istore 4, 2) := by decide +kernel
theorem dX7_firstSilence_13 : decode cX7_firstSilence 13 = .ok (.iload 4, 2) := by decide +kernel
theorem dX7_firstSilence_15 : decode cX7_firstSilence 15 = .ok (.iload_n 3, 1) := by decide +kernel
theorem dX7_firstSilence_16 : decode cX7_firstSilence 16 = .ok (.if_icmp .ge 42, 3) := by decide +kernel
theorem dX7_firstSilence_19 : decode cX7_firstSilence 19 = .ok (.aload_n 2, 1) := by decide +kernel
theorem dX7_firstSilence_20 : decode cX7_firstSilence 20 = .ok (.invokevirtual 89, 3) := by decide +kernel
theorem dX7_firstSilence_23 : decode cX7_firstSilence 23 = .ok (.ifCond .eq 35, 3) := by decide +kernel
theorem dX7_firstSilence_26 : decode cX7_firstSilence 26 = .ok (.aload_n 2, 1) := by decide +kernel
theorem dX7_firstSilence_27 : decode cX7_firstSilence 27 = .ok (.aload_n 0, 1) := by decide +kernel
theorem dX7_firstSilence_28 : decode cX7_firstSilence 28 = .ok (.getfield 53, 3) := by decide +kernel
theorem dX7_firstSilence_31 : decode cX7_firstSilence 31 = .ok (.aload_n 1, 1) := by decide +kernel
theorem dX7_firstSilence_32 : decode cX7_firstSilence 32 = .ok (.iload 4, 2) := by decide +kernel
theorem dX7_firstSilence_34 : decode cX7_firstSilence 34 = .ok (.invokevirtual 78, 3) := by decide +kernel
theorem dX7_firstSilence_37 : decode cX7_firstSilence 37 = .ok (.invokevirtual 82, 3) := by decide +kernel
theorem dX7_firstSilence_40 : decode cX7_firstSilence 40 = .ok (.aload_n 2, 1) := by decide +kernel
theorem dX7_firstSilence_41 : decode cX7_firstSilence 41 = .ok (.invokevirtual 89, 3) := by decide +kernel
theorem dX7_firstSilence_44 : decode cX7_firstSilence 44 = .ok (.ifCond .ne 8, 3) := by decide +kernel
theorem dX7_firstSilence_47 : decode cX7_firstSilence 47 = .ok (.iload 4, 2) := by decide +kernel
theorem dX7_firstSilence_49 : decode cX7_firstSilence 49 = .ok (.iconst 1, 1) := by decide +kernel
theorem dX7_firstSilence_50 : decode cX7_firstSilence 50 = .ok (.iadd, 1) := by decide +kernel
theorem dX7_firstSilence_51 : decode cX7_firstSilence 51 = .ok (.ireturn, 1) := by decide +kernel
theorem dX7_firstSilence_52 : decode cX7_firstSilence 52 = .ok (.iinc 4 1, 3) := by decide +kernel
theorem dX7_firstSilence_55 : decode cX7_firstSilence 55 = .ok (.goto (-42), 3) := by decide +kernel
theorem dX7_firstSilence_58 : decode cX7_firstSilence 58 = .ok (.aload_n 2, 1) := by decide +kernel
theorem dX7_firstSilence_59 : decode cX7_firstSilence 59 = .ok (.invokevirtual 89, 3) := by decide +kernel
theorem dX7_firstSilence_62 : decode cX7_firstSilence 62 = .ok (.ifCond .ne 7, 3) := by decide +kernel
theorem dX7_firstSilence_65 : decode cX7_firstSilence 65 = .ok (.iconst 0, 1) := by decide +kernel
theorem dX7_firstSilence_66 : decode cX7_firstSilence 66 = .ok (.goto 5, 3) := by decide +kernel
theorem dX7_firstSilence_69 : decode cX7_firstSilence 69 = .ok (.bipush (-2), 2) := by decide +kernel
theorem dX7_firstSilence_71 : decode cX7_firstSilence 71 = .ok (.ireturn, 1) := by decide +kernel
theorem dX7_planRound_0 : decode cX7_planRound 0 = .ok (.aload_n 0, 1) := by decide +kernel
theorem dX7_planRound_1 : decode cX7_planRound 1 = .ok (.invokevirtual 92, 3) := by decide +kernel
theorem dX7_planRound_4 : decode cX7_planRound 4 = .ok (.iconst 0, 1) := by decide +kernel
theorem dX7_planRound_5 : decode cX7_planRound 5 = .ok (.istore_n 2, 1) := by decide +kernel
theorem dX7_planRound_6 : decode cX7_planRound 6 = .ok (.iload_n 2, 1) := by decide +kernel
theorem dX7_planRound_7 : decode cX7_planRound 7 = .ok (.iload_n 1, 1) := by decide +kernel
theorem dX7_planRound_8 : decode cX7_planRound 8 = .ok (.if_icmp .gt 22, 3) := by decide +kernel
theorem dX7_planRound_11 : decode cX7_planRound 11 = .ok (.aload_n 0, 1) := by decide +kernel
theorem dX7_planRound_12 : decode cX7_planRound 12 = .ok (.getfield 36, 3) := by decide +kernel
theorem dX7_planRound_15 : decode cX7_planRound 15 = .ok (.iload_n 2, 1) := by decide +kernel
theorem dX7_planRound_16 : decode cX7_planRound 16 = .ok (.aaload, 1) := by decide +kernel
theorem dX7_planRound_17 : decode cX7_planRound 17 = .ok (.aload_n 0, 1) := by decide +kernel
theorem dX7_planRound_18 : decode cX7_planRound 18 = .ok (.getfield 49, 3) := by decide +kernel
theorem dX7_planRound_21 : decode cX7_planRound 21 = .ok (.invokevirtual 58, 3) := by decide +kernel
theorem dX7_planRound_24 : decode cX7_planRound 24 = .ok (.iinc 2 1, 3) := by decide +kernel
theorem dX7_planRound_27 : decode cX7_planRound 27 = .ok (.goto (-21), 3) := by decide +kernel
theorem dX7_planRound_30 : decode cX7_planRound 30 = .ok (.aload_n 0, 1) := by decide +kernel
theorem dX7_planRound_31 : decode cX7_planRound 31 = .ok (.iconst 0, 1) := by decide +kernel
theorem dX7_planRound_32 : decode cX7_planRound 32 = .ok (.iload_n 1, 1) := by decide +kernel
theorem dX7_planRound_33 : decode cX7_planRound 33 = .ok (.invokevirtual 95, 3) := by decide +kernel
theorem dX7_planRound_36 : decode cX7_planRound 36 = .ok (.return_, 1) := by decide +kernel
theorem dX7_forgetBest_0 : decode cX7_forgetBest 0 = .ok (.aload_n 0, 1) := by decide +kernel
theorem dX7_forgetBest_1 : decode cX7_forgetBest 1 = .ok (.ldc 99, 2) := by decide +kernel
theorem dX7_forgetBest_3 : decode cX7_forgetBest 3 = .ok (.putfield 9, 3) := by decide +kernel
theorem dX7_forgetBest_6 : decode cX7_forgetBest 6 = .ok (.aload_n 0, 1) := by decide +kernel
theorem dX7_forgetBest_7 : decode cX7_forgetBest 7 = .ok (.ldc 99, 2) := by decide +kernel
theorem dX7_forgetBest_9 : decode cX7_forgetBest 9 = .ok (.putfield 15, 3) := by decide +kernel
theorem dX7_forgetBest_12 : decode cX7_forgetBest 12 = .ok (.return_, 1) := by decide +kernel
theorem dX7_plan_0 : decode cX7_plan 0 = .ok (.aload_n 0, 1) := by decide +kernel
theorem dX7_plan_1 : decode cX7_plan 1 = .ok (.getfield 36, 3) := by decide +kernel
theorem dX7_plan_4 : decode cX7_plan 4 = .ok (.iload_n 1, 1) := by decide +kernel
theorem dX7_plan_5 : decode cX7_plan 5 = .ok (.aaload, 1) := by decide +kernel
theorem dX7_plan_6 : decode cX7_plan 6 = .ok (.astore_n 3, 1) := by decide +kernel
theorem dX7_plan_7 : decode cX7_plan 7 = .ok (.iload_n 1, 1) := by decide +kernel
theorem dX7_plan_8 : decode cX7_plan 8 = .ok (.iload_n 2, 1) := by decide +kernel
theorem dX7_plan_9 : decode cX7_plan 9 = .ok (.if_icmp .lt 26, 3) := by decide +kernel
theorem dX7_plan_12 : decode cX7_plan 12 = .ok (.aload_n 0, 1) := by decide +kernel
theorem dX7_plan_13 : decode cX7_plan 13 = .ok (.aload_n 3, 1) := by decide +kernel
theorem dX7_plan_14 : decode cX7_plan 14 = .ok (.invokevirtual 100, 3) := by decide +kernel
theorem dX7_plan_17 : decode cX7_plan 17 = .ok (.ifCond .eq 17, 3) := by decide +kernel
theorem dX7_plan_20 : decode cX7_plan 20 = .ok (.aload_n 0, 1) := by decide +kernel
theorem dX7_plan_21 : decode cX7_plan 21 = .ok (.getfield 40, 3) := by decide +kernel
theorem dX7_plan_24 : decode cX7_plan 24 = .ok (.iconst 0, 1) := by decide +kernel
theorem dX7_plan_25 : decode cX7_plan 25 = .ok (.aload_n 0, 1) := by decide +kernel
theorem dX7_plan_26 : decode cX7_plan 26 = .ok (.getfield 18, 3) := by decide +kernel
theorem dX7_plan_29 : decode cX7_plan 29 = .ok (.iconst 0, 1) := by decide +kernel
theorem dX7_plan_30 : decode cX7_plan 30 = .ok (.iconst 3, 1) := by decide +kernel
theorem dX7_plan_31 : decode cX7_plan 31 = .ok (.invokestatic 104, 3) := by decide +kernel
theorem dX7_plan_34 : decode cX7_plan 34 = .ok (.return_, 1) := by decide +kernel
theorem dX7_plan_35 : decode cX7_plan 35 = .ok (.aload_n 3, 1) := by decide +kernel
theorem dX7_plan_36 : decode cX7_plan 36 = .ok (.aload_n 0, 1) := by decide +kernel
theorem dX7_plan_37 : decode cX7_plan 37 = .ok (.getfield 53, 3) := by decide +kernel
theorem dX7_plan_40 : decode cX7_plan 40 = .ok (.invokevirtual 110, 3) := by decide +kernel
theorem dX7_plan_43 : decode cX7_plan 43 = .ok (.iconst 0, 1) := by decide +kernel
theorem dX7_plan_44 : decode cX7_plan 44 = .ok (.istore 4, 2) := by decide +kernel
theorem dX7_plan_46 : decode cX7_plan 46 = .ok (.iconst 0, 1) := by decide +kernel
theorem dX7_plan_47 : decode cX7_plan 47 = .ok (.istore 5, 2) := by decide +kernel
theorem dX7_plan_49 : decode cX7_plan 49 = .ok (.iload 5, 2) := by decide +kernel
theorem dX7_plan_51 : decode cX7_plan 51 = .ok (.bipush 12, 2) := by decide +kernel
theorem dX7_plan_53 : decode cX7_plan 53 = .ok (.if_icmp .ge 79, 3) := by decide +kernel
theorem dX7_plan_56 : decode cX7_plan 56 = .ok (.aload_n 3, 1) := by decide +kernel
theorem dX7_plan_57 : decode cX7_plan 57 = .ok (.getfield 114, 3) := by decide +kernel
theorem dX7_plan_60 : decode cX7_plan 60 = .ok (.iload 5, 2) := by decide +kernel
theorem dX7_plan_62 : decode cX7_plan 62 = .ok (.iaload, 1) := by decide +kernel
theorem dX7_plan_63 : decode cX7_plan 63 = .ok (.ifCond .ge 11, 3) := by decide +kernel
theorem dX7_plan_66 : decode cX7_plan 66 = .ok (.iload 4, 2) := by decide +kernel
theorem dX7_plan_68 : decode cX7_plan 68 = .ok (.ifCond .eq 6, 3) := by decide +kernel
theorem dX7_plan_71 : decode cX7_plan 71 = .ok (.goto 55, 3) := by decide +kernel
theorem dX7_plan_74 : decode cX7_plan 74 = .ok (.iload 4, 2) := by decide +kernel
theorem dX7_plan_76 : decode cX7_plan 76 = .ok (.ifCond .ne 13, 3) := by decide +kernel
theorem dX7_plan_79 : decode cX7_plan 79 = .ok (.aload_n 3, 1) := by decide +kernel
theorem dX7_plan_80 : decode cX7_plan 80 = .ok (.getfield 114, 3) := by decide +kernel
theorem dX7_plan_83 : decode cX7_plan 83 = .ok (.iload 5, 2) := by decide +kernel
theorem dX7_plan_85 : decode cX7_plan 85 = .ok (.iaload, 1) := by decide +kernel
theorem dX7_plan_86 : decode cX7_plan 86 = .ok (.ifCond .ge 7, 3) := by decide +kernel
theorem dX7_plan_89 : decode cX7_plan 89 = .ok (.iconst 1, 1) := by decide +kernel
theorem dX7_plan_90 : decode cX7_plan 90 = .ok (.goto 4, 3) := by decide +kernel
theorem dX7_plan_93 : decode cX7_plan 93 = .ok (.iconst 0, 1) := by decide +kernel
theorem dX7_plan_94 : decode cX7_plan 94 = .ok (.istore 4, 2) := by decide +kernel
theorem dX7_plan_96 : decode cX7_plan 96 = .ok (.aload_n 0, 1) := by decide +kernel
theorem dX7_plan_97 : decode cX7_plan 97 = .ok (.getfield 40, 3) := by decide +kernel
theorem dX7_plan_100 : decode cX7_plan 100 = .ok (.iload_n 1, 1) := by decide +kernel
theorem dX7_plan_101 : decode cX7_plan 101 = .ok (.iload 5, 2) := by decide +kernel
theorem dX7_plan_103 : decode cX7_plan 103 = .ok (.iastore, 1) := by decide +kernel
theorem dX7_plan_104 : decode cX7_plan 104 = .ok (.aload_n 0, 1) := by decide +kernel
theorem dX7_plan_105 : decode cX7_plan 105 = .ok (.getfield 36, 3) := by decide +kernel
theorem dX7_plan_108 : decode cX7_plan 108 = .ok (.iload_n 1, 1) := by decide +kernel
theorem dX7_plan_109 : decode cX7_plan 109 = .ok (.iconst 1, 1) := by decide +kernel
theorem dX7_plan_110 : decode cX7_plan 110 = .ok (.iadd, 1) := by decide +kernel
theorem dX7_plan_111 : decode cX7_plan 111 = .ok (.aaload, 1) := by decide +kernel
theorem dX7_plan_112 : decode cX7_plan 112 = .ok (.aload_n 3, 1) := by decide +kernel
theorem dX7_plan_113 : decode cX7_plan 113 = .ok (.iload 5, 2) := by decide +kernel
theorem dX7_plan_115 : decode cX7_plan 115 = .ok (.invokevirtual 117, 3) := by decide +kernel
theorem dX7_plan_118 : decode cX7_plan 118 = .ok (.aload_n 0, 1) := by decide +kernel
theorem dX7_plan_119 : decode cX7_plan 119 = .ok (.iload_n 1, 1) := by decide +kernel
theorem dX7_plan_120 : decode cX7_plan 120 = .ok (.iconst 1, 1) := by decide +kernel
theorem dX7_plan_121 : decode cX7_plan 121 = .ok (.iadd, 1) := by decide +kernel
theorem dX7_plan_122 : decode cX7_plan 122 = .ok (.iload_n 2, 1) := by decide +kernel
theorem dX7_plan_123 : decode cX7_plan 123 = .ok (.invokevirtual 95, 3) := by decide +kernel
theorem dX7_plan_126 : decode cX7_plan 126 = .ok (.iinc 5 1, 3) := by decide +kernel
theorem dX7_plan_129 : decode cX7_plan 129 = .ok (.goto (-80), 3) := by decide +kernel
theorem dX7_plan_132 : decode cX7_plan 132 = .ok (.return_, 1) := by decide +kernel
theorem dX7_isBetter_0 : decode cX7_isBetter 0 = .ok (.aload_n 1, 1) := by decide +kernel
theorem dX7_isBetter_1 : decode cX7_isBetter 1 = .ok (.invokevirtual 121, 3) := by decide +kernel
theorem dX7_isBetter_4 : decode cX7_isBetter 4 = .ok (.istore_n 2, 1) := by decide +kernel
theorem dX7_isBetter_5 : decode cX7_isBetter 5 = .ok (.aload_n 1, 1) := by decide +kernel
theorem dX7_isBetter_6 : decode cX7_isBetter 6 = .ok (.invokevirtual 124, 3) := by decide +kernel
theorem dX7_isBetter_9 : decode cX7_isBetter 9 = .ok (.istore_n 3, 1) := by decide +kernel
theorem dX7_isBetter_10 : decode cX7_isBetter 10 = .ok (.iload_n 2, 1) := by decide +kernel
theorem dX7_isBetter_11 : decode cX7_isBetter 11 = .ok (.aload_n 0, 1) := by decide +kernel
theorem dX7_isBetter_12 : decode cX7_isBetter 12 = .ok (.getfield 9, 3) := by decide +kernel
theorem dX7_isBetter_15 : decode cX7_isBetter 15 = .ok (.if_icmp .gt 19, 3) := by decide +kernel
theorem dX7_isBetter_18 : decode cX7_isBetter 18 = .ok (.iload_n 2, 1) := by decide +kernel
theorem dX7_isBetter_19 : decode cX7_isBetter 19 = .ok (.aload_n 0, 1) := by decide +kernel
theorem dX7_isBetter_20 : decode cX7_isBetter 20 = .ok (.getfield 9, 3) := by decide +kernel
theorem dX7_isBetter_23 : decode cX7_isBetter 23 = .ok (.if_icmp .ne 13, 3) := by decide +kernel
theorem dX7_isBetter_26 : decode cX7_isBetter 26 = .ok (.iload_n 3, 1) := by decide +kernel
theorem dX7_isBetter_27 : decode cX7_isBetter 27 = .ok (.aload_n 0, 1) := by decide +kernel
theorem dX7_isBetter_28 : decode cX7_isBetter 28 = .ok (.getfield 15, 3) := by decide +kernel
theorem dX7_isBetter_31 : decode cX7_isBetter 31 = .ok (.if_icmp .lt 5, 3) := by decide +kernel
theorem dX7_isBetter_34 : decode cX7_isBetter 34 = .ok (.iconst 0, 1) := by decide +kernel
theorem dX7_isBetter_35 : decode cX7_isBetter 35 = .ok (.ireturn, 1) := by decide +kernel
theorem dX7_isBetter_36 : decode cX7_isBetter 36 = .ok (.aload_n 0, 1) := by decide +kernel
theorem dX7_isBetter_37 : decode cX7_isBetter 37 = .ok (.iload_n 2, 1) := by decide +kernel
theorem dX7_isBetter_38 : decode cX7_isBetter 38 = .ok (.putfield 9, 3) := by decide +kernel
theorem dX7_isBetter_41 : decode cX7_isBetter 41 = .ok (.aload_n 0, 1) := by decide +kernel
theorem dX7_isBetter_42 : decode cX7_isBetter 42 = .ok (.iload_n 3, 1) := by decide +kernel
theorem dX7_isBetter_43 : decode cX7_isBetter 43 = .ok (.putfield 15, 3) := by decide +kernel
theorem dX7_isBetter_46 : decode cX7_isBetter 46 = .ok (.iconst 1, 1) := by decide +kernel
theorem dX7_isBetter_47 : decode cX7_isBetter 47 = .ok (.ireturn, 1) := by decide +kernel
theorem dX7_stepsByAll_0 : decode cX7_stepsByAll 0 = .ok (.aload_n 0, 1) := by decide +kernel
theorem dX7_stepsByAll_1 : decode cX7_stepsByAll 1 = .ok (.getfield 49, 3) := by decide +kernel
theorem dX7_stepsByAll_4 : decode cX7_stepsByAll 4 = .ok (.invokevirtual 127, 3) := by decide +kernel
theorem dX7_stepsByAll_7 : decode cX7_stepsByAll 7 = .ok (.istore_n 1, 1) := by decide +kernel
theorem dX7_stepsByAll_8 : decode cX7_stepsByAll 8 = .ok (.iload_n 1, 1) := by decide +kernel
theorem dX7_stepsByAll_9 : decode cX7_stepsByAll 9 = .ok (.invokestatic 130, 3) := by decide +kernel
theorem dX7_stepsByAll_12 : decode cX7_stepsByAll 12 = .ok (.bipush 6, 2) := by decide +kernel
theorem dX7_stepsByAll_14 : decode cX7_stepsByAll 14 = .ok (.if_icmp .le 6, 3) := by decide +kernel
theorem dX7_stepsByAll_17 : decode cX7_stepsByAll 17 = .ok (.bipush (-5), 2) := by decide +kernel
theorem dX7_stepsByAll_19 : decode cX7_stepsByAll 19 = .ok (.ireturn, 1) := by decide +kernel
theorem dX7_stepsByAll_20 : decode cX7_stepsByAll 20 = .ok (.iconst 0, 1) := by decide +kernel
theorem dX7_stepsByAll_21 : decode cX7_stepsByAll 21 = .ok (.istore_n 2, 1) := by decide +kernel
theorem dX7_stepsByAll_22 : decode cX7_stepsByAll 22 = .ok (.iconst 0, 1) := by decide +kernel
theorem dX7_stepsByAll_23 : decode cX7_stepsByAll 23 = .ok (.istore_n 3, 1) := by decide +kernel
theorem dX7_stepsByAll_24 : decode cX7_stepsByAll 24 = .ok (.iload_n 3, 1) := by decide +kernel
theorem dX7_stepsByAll_25 : decode cX7_stepsByAll 25 = .ok (.bipush 12, 2) := by decide +kernel
theorem dX7_stepsByAll_27 : decode cX7_stepsByAll 27 = .ok (.if_icmp .ge 33, 3) := by decide +kernel
theorem dX7_stepsByAll_30 : decode cX7_stepsByAll 30 = .ok (.iload_n 1, 1) := by decide +kernel
theorem dX7_stepsByAll_31 : decode cX7_stepsByAll 31 = .ok (.iconst 1, 1) := by decide +kernel
theorem dX7_stepsByAll_32 : decode cX7_stepsByAll 32 = .ok (.iload_n 3, 1) := by decide +kernel
theorem dX7_stepsByAll_33 : decode cX7_stepsByAll 33 = .ok (.ishl, 1) := by decide +kernel
theorem dX7_stepsByAll_34 : decode cX7_stepsByAll 34 = .ok (.iand, 1) := by decide +kernel
theorem dX7_stepsByAll_35 : decode cX7_stepsByAll 35 = .ok (.ifCond .eq 19, 3) := by decide +kernel
theorem dX7_stepsByAll_38 : decode cX7_stepsByAll 38 = .ok (.iload_n 2, 1) := by decide +kernel
theorem dX7_stepsByAll_39 : decode cX7_stepsByAll 39 = .ok (.bipush 6, 2) := by decide +kernel
theorem dX7_stepsByAll_41 : decode cX7_stepsByAll 41 = .ok (.if_icmp .ge 13, 3) := by decide +kernel
theorem dX7_stepsByAll_44 : decode cX7_stepsByAll 44 = .ok (.aload_n 0, 1) := by decide +kernel
theorem dX7_stepsByAll_45 : decode cX7_stepsByAll 45 = .ok (.getfield 43, 3) := by decide +kernel
theorem dX7_stepsByAll_48 : decode cX7_stepsByAll 48 = .ok (.iload_n 2, 1) := by decide +kernel
theorem dX7_stepsByAll_49 : decode cX7_stepsByAll 49 = .ok (.iinc 2 1, 3) := by decide +kernel
theorem dX7_stepsByAll_52 : decode cX7_stepsByAll 52 = .ok (.iload_n 3, 1) := by decide +kernel
theorem dX7_stepsByAll_53 : decode cX7_stepsByAll 53 = .ok (.iastore, 1) := by decide +kernel
theorem dX7_stepsByAll_54 : decode cX7_stepsByAll 54 = .ok (.iinc 3 1, 3) := by decide +kernel
theorem dX7_stepsByAll_57 : decode cX7_stepsByAll 57 = .ok (.goto (-33), 3) := by decide +kernel
theorem dX7_stepsByAll_60 : decode cX7_stepsByAll 60 = .ok (.iload_n 2, 1) := by decide +kernel
theorem dX7_stepsByAll_61 : decode cX7_stepsByAll 61 = .ok (.ifCond .ne 5, 3) := by decide +kernel
theorem dX7_stepsByAll_64 : decode cX7_stepsByAll 64 = .ok (.iconst 0, 1) := by decide +kernel
theorem dX7_stepsByAll_65 : decode cX7_stepsByAll 65 = .ok (.ireturn, 1) := by decide +kernel
theorem dX7_stepsByAll_66 : decode cX7_stepsByAll 66 = .ok (.iconst 1, 1) := by decide +kernel
theorem dX7_stepsByAll_67 : decode cX7_stepsByAll 67 = .ok (.iload_n 2, 1) := by decide +kernel
theorem dX7_stepsByAll_68 : decode cX7_stepsByAll 68 = .ok (.ishl, 1) := by decide +kernel
theorem dX7_stepsByAll_69 : decode cX7_stepsByAll 69 = .ok (.iconst 1, 1) := by decide +kernel
theorem dX7_stepsByAll_70 : decode cX7_stepsByAll 70 = .ok (.isub, 1) := by decide +kernel
theorem dX7_stepsByAll_71 : decode cX7_stepsByAll 71 = .ok (.istore_n 3, 1) := by decide +kernel
theorem dX7_stepsByAll_72 : decode cX7_stepsByAll 72 = .ok (.iconst 1, 1) := by decide +kernel
theorem dX7_stepsByAll_73 : decode cX7_stepsByAll 73 = .ok (.istore 4, 2) := by decide +kernel
theorem dX7_stepsByAll_75 : decode cX7_stepsByAll 75 = .ok (.iload 4, 2) := by decide +kernel
theorem dX7_stepsByAll_77 : decode cX7_stepsByAll 77 = .ok (.iload_n 3, 1) := by decide +kernel
theorem dX7_stepsByAll_78 : decode cX7_stepsByAll 78 = .ok (.if_icmp .gt 46, 3) := by decide +kernel
theorem dX7_stepsByAll_81 : decode cX7_stepsByAll 81 = .ok (.iconst 0, 1) := by decide +kernel
theorem dX7_stepsByAll_82 : decode cX7_stepsByAll 82 = .ok (.istore 5, 2) := by decide +kernel
theorem dX7_stepsByAll_84 : decode cX7_stepsByAll 84 = .ok (.iload 5, 2) := by decide +kernel
theorem dX7_stepsByAll_86 : decode cX7_stepsByAll 86 = .ok (.iload_n 2, 1) := by decide +kernel
theorem dX7_stepsByAll_87 : decode cX7_stepsByAll 87 = .ok (.if_icmp .ge 31, 3) := by decide +kernel
theorem dX7_stepsByAll_90 : decode cX7_stepsByAll 90 = .ok (.aload_n 0, 1) := by decide +kernel
theorem dX7_stepsByAll_91 : decode cX7_stepsByAll 91 = .ok (.getfield 46, 3) := by decide +kernel
theorem dX7_stepsByAll_94 : decode cX7_stepsByAll 94 = .ok (.iload 4, 2) := by decide +kernel
theorem dX7_stepsByAll_96 : decode cX7_stepsByAll 96 = .ok (.bipush 6, 2) := by decide +kernel
theorem dX7_stepsByAll_98 : decode cX7_stepsByAll 98 = .ok (.imul, 1) := by decide +kernel
theorem dX7_stepsByAll_99 : decode cX7_stepsByAll 99 = .ok (.iload 5, 2) := by decide +kernel
theorem dX7_stepsByAll_101 : decode cX7_stepsByAll 101 = .ok (.iadd, 1) := by decide +kernel
theorem dX7_stepsByAll_102 : decode cX7_stepsByAll 102 = .ok (.aload_n 0, 1) := by decide +kernel
theorem dX7_stepsByAll_103 : decode cX7_stepsByAll 103 = .ok (.iload 4, 2) := by decide +kernel
theorem dX7_stepsByAll_105 : decode cX7_stepsByAll 105 = .ok (.iload 5, 2) := by decide +kernel
theorem dX7_stepsByAll_107 : decode cX7_stepsByAll 107 = .ok (.iload_n 2, 1) := by decide +kernel
theorem dX7_stepsByAll_108 : decode cX7_stepsByAll 108 = .ok (.invokevirtual 135, 3) := by decide +kernel
theorem dX7_stepsByAll_111 : decode cX7_stepsByAll 111 = .ok (.iastore, 1) := by decide +kernel
theorem dX7_stepsByAll_112 : decode cX7_stepsByAll 112 = .ok (.iinc 5 1, 3) := by decide +kernel
theorem dX7_stepsByAll_115 : decode cX7_stepsByAll 115 = .ok (.goto (-31), 3) := by decide +kernel
theorem dX7_stepsByAll_118 : decode cX7_stepsByAll 118 = .ok (.iinc 4 1, 3) := by decide +kernel
theorem dX7_stepsByAll_121 : decode cX7_stepsByAll 121 = .ok (.goto (-46), 3) := by decide +kernel
theorem dX7_stepsByAll_124 : decode cX7_stepsByAll 124 = .ok (.aload_n 0, 1) := by decide +kernel
theorem dX7_stepsByAll_125 : decode cX7_stepsByAll 125 = .ok (.iload_n 3, 1) := by decide +kernel
theorem dX7_stepsByAll_126 : decode cX7_stepsByAll 126 = .ok (.iload_n 2, 1) := by decide +kernel
theorem dX7_stepsByAll_127 : decode cX7_stepsByAll 127 = .ok (.invokevirtual 139, 3) := by decide +kernel
theorem dX7_stepsByAll_130 : decode cX7_stepsByAll 130 = .ok (.ireturn, 1) := by decide +kernel
theorem dX7_leastSteps_0 : decode cX7_leastSteps 0 = .ok (.iload_n 1, 1) := by decide +kernel
theorem dX7_leastSteps_1 : decode cX7_leastSteps 1 = .ok (.iconst 1, 1) := by decide +kernel
theorem dX7_leastSteps_2 : decode cX7_leastSteps 2 = .ok (.iload_n 2, 1) := by decide +kernel
theorem dX7_leastSteps_3 : decode cX7_leastSteps 3 = .ok (.ishl, 1) := by decide +kernel
theorem dX7_leastSteps_4 : decode cX7_leastSteps 4 = .ok (.iconst (-1), 1) := by decide +kernel
theorem dX7_leastSteps_5 : decode cX7_leastSteps 5 = .ok (.ixor, 1) := by decide +kernel
theorem dX7_leastSteps_6 : decode cX7_leastSteps 6 = .ok (.iand, 1) := by decide +kernel
theorem dX7_leastSteps_7 : decode cX7_leastSteps 7 = .ok (.istore 4, 2) := by decide +kernel
theorem dX7_leastSteps_9 : decode cX7_leastSteps 9 = .ok (.iload 4, 2) := by decide +kernel
theorem dX7_leastSteps_11 : decode cX7_leastSteps 11 = .ok (.iload_n 1, 1) := by decide +kernel
theorem dX7_leastSteps_12 : decode cX7_leastSteps 12 = .ok (.if_icmp .ne 6, 3) := by decide +kernel
theorem dX7_leastSteps_15 : decode cX7_leastSteps 15 = .ok (.ldc 99, 2) := by decide +kernel
theorem dX7_leastSteps_17 : decode cX7_leastSteps 17 = .ok (.ireturn, 1) := by decide +kernel
theorem dX7_leastSteps_18 : decode cX7_leastSteps 18 = .ok (.iload 4, 2) := by decide +kernel
theorem dX7_leastSteps_20 : decode cX7_leastSteps 20 = .ok (.ifCond .ne 20, 3) := by decide +kernel
theorem dX7_leastSteps_23 : decode cX7_leastSteps 23 = .ok (.aload_n 0, 1) := by decide +kernel
theorem dX7_leastSteps_24 : decode cX7_leastSteps 24 = .ok (.getfield 49, 3) := by decide +kernel
theorem dX7_leastSteps_27 : decode cX7_leastSteps 27 = .ok (.getfield 142, 3) := by decide +kernel
theorem dX7_leastSteps_30 : decode cX7_leastSteps 30 = .ok (.aload_n 0, 1) := by decide +kernel
theorem dX7_leastSteps_31 : decode cX7_leastSteps 31 = .ok (.getfield 43, 3) := by decide +kernel
theorem dX7_leastSteps_34 : decode cX7_leastSteps 34 = .ok (.iload_n 2, 1) := by decide +kernel
theorem dX7_leastSteps_35 : decode cX7_leastSteps 35 = .ok (.iaload, 1) := by decide +kernel
theorem dX7_leastSteps_36 : decode cX7_leastSteps 36 = .ok (.invokestatic 145, 3) := by decide +kernel
theorem dX7_leastSteps_39 : decode cX7_leastSteps 39 = .ok (.ireturn, 1) := by decide +kernel
theorem dX7_leastSteps_40 : decode cX7_leastSteps 40 = .ok (.ldc 99, 2) := by decide +kernel
theorem dX7_leastSteps_42 : decode cX7_leastSteps 42 = .ok (.istore 5, 2) := by decide +kernel
theorem dX7_leastSteps_44 : decode cX7_leastSteps 44 = .ok (.iconst 0, 1) := by decide +kernel
theorem dX7_leastSteps_45 : decode cX7_leastSteps 45 = .ok (.istore 6, 2) := by decide +kernel
theorem dX7_leastSteps_47 : decode cX7_leastSteps 47 = .ok (.iload 6, 2) := by decide +kernel
theorem dX7_leastSteps_49 : decode cX7_leastSteps 49 = .ok (.iload_n 3, 1) := by decide +kernel
theorem dX7_leastSteps_50 : decode cX7_leastSteps 50 = .ok (.if_icmp .ge 46, 3) := by decide +kernel
theorem dX7_leastSteps_53 : decode cX7_leastSteps 53 = .ok (.iload 5, 2) := by decide +kernel
theorem dX7_leastSteps_55 : decode cX7_leastSteps 55 = .ok (.aload_n 0, 1) := by decide +kernel
theorem dX7_leastSteps_56 : decode cX7_leastSteps 56 = .ok (.getfield 46, 3) := by decide +kernel
theorem dX7_leastSteps_59 : decode cX7_leastSteps 59 = .ok (.iload 4, 2) := by decide +kernel
theorem dX7_leastSteps_61 : decode cX7_leastSteps 61 = .ok (.bipush 6, 2) := by decide +kernel
theorem dX7_leastSteps_63 : decode cX7_leastSteps 63 = .ok (.imul, 1) := by decide +kernel
theorem dX7_leastSteps_64 : decode cX7_leastSteps 64 = .ok (.iload 6, 2) := by decide +kernel
theorem dX7_leastSteps_66 : decode cX7_leastSteps 66 = .ok (.iadd, 1) := by decide +kernel
theorem dX7_leastSteps_67 : decode cX7_leastSteps 67 = .ok (.iaload, 1) := by decide +kernel
theorem dX7_leastSteps_68 : decode cX7_leastSteps 68 = .ok (.aload_n 0, 1) := by decide +kernel
theorem dX7_leastSteps_69 : decode cX7_leastSteps 69 = .ok (.getfield 43, 3) := by decide +kernel
theorem dX7_leastSteps_72 : decode cX7_leastSteps 72 = .ok (.iload 6, 2) := by decide +kernel
theorem dX7_leastSteps_74 : decode cX7_leastSteps 74 = .ok (.iaload, 1) := by decide +kernel
theorem dX7_leastSteps_75 : decode cX7_leastSteps 75 = .ok (.aload_n 0, 1) := by decide +kernel
theorem dX7_leastSteps_76 : decode cX7_leastSteps 76 = .ok (.getfield 43, 3) := by decide +kernel
theorem dX7_leastSteps_79 : decode cX7_leastSteps 79 = .ok (.iload_n 2, 1) := by decide +kernel
theorem dX7_leastSteps_80 : decode cX7_leastSteps 80 = .ok (.iaload, 1) := by decide +kernel
theorem dX7_leastSteps_81 : decode cX7_leastSteps 81 = .ok (.invokestatic 145, 3) := by decide +kernel
theorem dX7_leastSteps_84 : decode cX7_leastSteps 84 = .ok (.iadd, 1) := by decide +kernel
theorem dX7_leastSteps_85 : decode cX7_leastSteps 85 = .ok (.invokestatic 72, 3) := by decide +kernel
theorem dX7_leastSteps_88 : decode cX7_leastSteps 88 = .ok (.istore 5, 2) := by decide +kernel
theorem dX7_leastSteps_90 : decode cX7_leastSteps 90 = .ok (.iinc 6 1, 3) := by decide +kernel
theorem dX7_leastSteps_93 : decode cX7_leastSteps 93 = .ok (.goto (-46), 3) := by decide +kernel
theorem dX7_leastSteps_96 : decode cX7_leastSteps 96 = .ok (.iload 5, 2) := by decide +kernel
theorem dX7_leastSteps_98 : decode cX7_leastSteps 98 = .ok (.ireturn, 1) := by decide +kernel
theorem dX7_leastOf_0 : decode cX7_leastOf 0 = .ok (.ldc 99, 2) := by decide +kernel
theorem dX7_leastOf_2 : decode cX7_leastOf 2 = .ok (.istore_n 3, 1) := by decide +kernel
theorem dX7_leastOf_3 : decode cX7_leastOf 3 = .ok (.iconst 0, 1) := by decide +kernel
theorem dX7_leastOf_4 : decode cX7_leastOf 4 = .ok (.istore 4, 2) := by decide +kernel
theorem dX7_leastOf_6 : decode cX7_leastOf 6 = .ok (.iload 4, 2) := by decide +kernel
theorem dX7_leastOf_8 : decode cX7_leastOf 8 = .ok (.iload_n 2, 1) := by decide +kernel
theorem dX7_leastOf_9 : decode cX7_leastOf 9 = .ok (.if_icmp .ge 26, 3) := by decide +kernel
theorem dX7_leastOf_12 : decode cX7_leastOf 12 = .ok (.iload_n 3, 1) := by decide +kernel
theorem dX7_leastOf_13 : decode cX7_leastOf 13 = .ok (.aload_n 0, 1) := by decide +kernel
theorem dX7_leastOf_14 : decode cX7_leastOf 14 = .ok (.getfield 46, 3) := by decide +kernel
theorem dX7_leastOf_17 : decode cX7_leastOf 17 = .ok (.iload_n 1, 1) := by decide +kernel
theorem dX7_leastOf_18 : decode cX7_leastOf 18 = .ok (.bipush 6, 2) := by decide +kernel
theorem dX7_leastOf_20 : decode cX7_leastOf 20 = .ok (.imul, 1) := by decide +kernel
theorem dX7_leastOf_21 : decode cX7_leastOf 21 = .ok (.iload 4, 2) := by decide +kernel
theorem dX7_leastOf_23 : decode cX7_leastOf 23 = .ok (.iadd, 1) := by decide +kernel
theorem dX7_leastOf_24 : decode cX7_leastOf 24 = .ok (.iaload, 1) := by decide +kernel
theorem dX7_leastOf_25 : decode cX7_leastOf 25 = .ok (.invokestatic 72, 3) := by decide +kernel
theorem dX7_leastOf_28 : decode cX7_leastOf 28 = .ok (.istore_n 3, 1) := by decide +kernel
theorem dX7_leastOf_29 : decode cX7_leastOf 29 = .ok (.iinc 4 1, 3) := by decide +kernel
theorem dX7_leastOf_32 : decode cX7_leastOf 32 = .ok (.goto (-26), 3) := by decide +kernel
theorem dX7_leastOf_35 : decode cX7_leastOf 35 = .ok (.iload_n 3, 1) := by decide +kernel
theorem dX7_leastOf_36 : decode cX7_leastOf 36 = .ok (.ireturn, 1) := by decide +kernel
theorem dX7_judged_0 : decode cX7_judged 0 = .ok (.aload_n 0, 1) := by decide +kernel
theorem dX7_judged_1 : decode cX7_judged 1 = .ok (.aload_n 0, 1) := by decide +kernel
theorem dX7_judged_2 : decode cX7_judged 2 = .ok (.invokevirtual 62, 3) := by decide +kernel
theorem dX7_judged_5 : decode cX7_judged 5 = .ok (.aload_n 1, 1) := by decide +kernel
theorem dX7_judged_6 : decode cX7_judged 6 = .ok (.aload_n 2, 1) := by decide +kernel
theorem dX7_judged_7 : decode cX7_judged 7 = .ok (.iload_n 3, 1) := by decide +kernel
theorem dX7_judged_8 : decode cX7_judged 8 = .ok (.invokevirtual 148, 3) := by decide +kernel
theorem dX7_judged_11 : decode cX7_judged 11 = .ok (.ireturn, 1) := by decide +kernel
theorem dX7_firstWrong_0 : decode cX7_firstWrong 0 = .ok (.aload_n 2, 1) := by decide +kernel
theorem dX7_firstWrong_1 : decode cX7_firstWrong 1 = .ok (.invokevirtual 66, 3) := by decide +kernel
theorem dX7_firstWrong_4 : decode cX7_firstWrong 4 = .ok (.istore 5, 2) := by decide +kernel
theorem dX7_firstWrong_6 : decode cX7_firstWrong 6 = .ok (.iconst 0, 1) := by decide +kernel
theorem dX7_firstWrong_7 : decode cX7_firstWrong 7 = .ok (.istore 6, 2) := by decide +kernel
theorem dX7_firstWrong_9 : decode cX7_firstWrong 9 = .ok (.iload 6, 2) := by decide +kernel
theorem dX7_firstWrong_11 : decode cX7_firstWrong 11 = .ok (.aload_n 3, 1) := by decide +kernel
theorem dX7_firstWrong_12 : decode cX7_firstWrong 12 = .ok (.getfield 152, 3) := by decide +kernel
theorem dX7_firstWrong_15 : decode cX7_firstWrong 15 = .ok (.if_icmp .ge 59, 3) := by decide +kernel
theorem dX7_firstWrong_18 : decode cX7_firstWrong 18 = .ok (.iload 6, 2) := by decide +kernel
theorem dX7_firstWrong_20 : decode cX7_firstWrong 20 = .ok (.iload 5, 2) := by decide +kernel
theorem dX7_firstWrong_22 : decode cX7_firstWrong 22 = .ok (.if_icmp .le 6, 3) := by decide +kernel
theorem dX7_firstWrong_25 : decode cX7_firstWrong 25 = .ok (.iload 6, 2) := by decide +kernel
theorem dX7_firstWrong_27 : decode cX7_firstWrong 27 = .ok (.ireturn, 1) := by decide +kernel
theorem dX7_firstWrong_28 : decode cX7_firstWrong 28 = .ok (.iload 6, 2) := by decide +kernel
theorem dX7_firstWrong_30 : decode cX7_firstWrong 30 = .ok (.ifCond .le 19, 3) := by decide +kernel
theorem dX7_firstWrong_33 : decode cX7_firstWrong 33 = .ok (.aload_n 1, 1) := by decide +kernel
theorem dX7_firstWrong_34 : decode cX7_firstWrong 34 = .ok (.aload_n 0, 1) := by decide +kernel
theorem dX7_firstWrong_35 : decode cX7_firstWrong 35 = .ok (.getfield 53, 3) := by decide +kernel
theorem dX7_firstWrong_38 : decode cX7_firstWrong 38 = .ok (.aload_n 2, 1) := by decide +kernel
theorem dX7_firstWrong_39 : decode cX7_firstWrong 39 = .ok (.iload 6, 2) := by decide +kernel
theorem dX7_firstWrong_41 : decode cX7_firstWrong 41 = .ok (.iconst 1, 1) := by decide +kernel
theorem dX7_firstWrong_42 : decode cX7_firstWrong 42 = .ok (.isub, 1) := by decide +kernel
theorem dX7_firstWrong_43 : decode cX7_firstWrong 43 = .ok (.invokevirtual 78, 3) := by decide +kernel
theorem dX7_firstWrong_46 : decode cX7_firstWrong 46 = .ok (.invokevirtual 82, 3) := by decide +kernel
theorem dX7_firstWrong_49 : decode cX7_firstWrong 49 = .ok (.aload_n 3, 1) := by decide +kernel
theorem dX7_firstWrong_50 : decode cX7_firstWrong 50 = .ok (.iload 6, 2) := by decide +kernel
theorem dX7_firstWrong_52 : decode cX7_firstWrong 52 = .ok (.invokevirtual 78, 3) := by decide +kernel
theorem dX7_firstWrong_55 : decode cX7_firstWrong 55 = .ok (.aload_n 1, 1) := by decide +kernel
theorem dX7_firstWrong_56 : decode cX7_firstWrong 56 = .ok (.getfield 86, 3) := by decide +kernel
theorem dX7_firstWrong_59 : decode cX7_firstWrong 59 = .ok (.iload 4, 2) := by decide +kernel
theorem dX7_firstWrong_61 : decode cX7_firstWrong 61 = .ok (.iaload, 1) := by decide +kernel
theorem dX7_firstWrong_62 : decode cX7_firstWrong 62 = .ok (.if_icmp .eq 6, 3) := by decide +kernel
theorem dX7_firstWrong_65 : decode cX7_firstWrong 65 = .ok (.iload 6, 2) := by decide +kernel
theorem dX7_firstWrong_67 : decode cX7_firstWrong 67 = .ok (.ireturn, 1) := by decide +kernel
theorem dX7_firstWrong_68 : decode cX7_firstWrong 68 = .ok (.iinc 6 1, 3) := by decide +kernel
theorem dX7_firstWrong_71 : decode cX7_firstWrong 71 = .ok (.goto (-62), 3) := by decide +kernel
theorem dX7_firstWrong_74 : decode cX7_firstWrong 74 = .ok (.bipush (-2), 2) := by decide +kernel
theorem dX7_firstWrong_76 : decode cX7_firstWrong 76 = .ok (.ireturn, 1) := by decide +kernel
theorem dX7_fit_0 : decode cX7_fit 0 = .ok (.aload_n 0, 1) := by decide +kernel
theorem dX7_fit_1 : decode cX7_fit 1 = .ok (.iconst 0, 1) := by decide +kernel
theorem dX7_fit_2 : decode cX7_fit 2 = .ok (.putfield 22, 3) := by decide +kernel
theorem dX7_fit_5 : decode cX7_fit 5 = .ok (.aload_n 0, 1) := by decide +kernel
theorem dX7_fit_6 : decode cX7_fit 6 = .ok (.bipush (-2), 2) := by decide +kernel
theorem dX7_fit_8 : decode cX7_fit 8 = .ok (.putfield 25, 3) := by decide +kernel
theorem dX7_fit_11 : decode cX7_fit 11 = .ok (.iconst 0, 1) := by decide +kernel
theorem dX7_fit_12 : decode cX7_fit 12 = .ok (.istore 5, 2) := by decide +kernel
theorem dX7_fit_14 : decode cX7_fit 14 = .ok (.iload 5, 2) := by decide +kernel
theorem dX7_fit_16 : decode cX7_fit 16 = .ok (.getstatic 155, 3) := by decide +kernel
theorem dX7_fit_19 : decode cX7_fit 19 = .ok (.iload 4, 2) := by decide +kernel
theorem dX7_fit_21 : decode cX7_fit 21 = .ok (.iaload, 1) := by decide +kernel
theorem dX7_fit_22 : decode cX7_fit 22 = .ok (.if_icmp .gt 75, 3) := by decide +kernel
theorem dX7_fit_25 : decode cX7_fit 25 = .ok (.aload_n 0, 1) := by decide +kernel
theorem dX7_fit_26 : decode cX7_fit 26 = .ok (.invokevirtual 62, 3) := by decide +kernel
theorem dX7_fit_29 : decode cX7_fit 29 = .ok (.astore 6, 2) := by decide +kernel
theorem dX7_fit_31 : decode cX7_fit 31 = .ok (.aload 6, 2) := by decide +kernel
theorem dX7_fit_33 : decode cX7_fit 33 = .ok (.iload_n 3, 1) := by decide +kernel
theorem dX7_fit_34 : decode cX7_fit 34 = .ok (.bipush 10, 2) := by decide +kernel
theorem dX7_fit_36 : decode cX7_fit 36 = .ok (.irem, 1) := by decide +kernel
theorem dX7_fit_37 : decode cX7_fit 37 = .ok (.iload 4, 2) := by decide +kernel
theorem dX7_fit_39 : decode cX7_fit 39 = .ok (.iload 5, 2) := by decide +kernel
theorem dX7_fit_41 : decode cX7_fit 41 = .ok (.invokevirtual 158, 3) := by decide +kernel
theorem dX7_fit_44 : decode cX7_fit 44 = .ok (.aload_n 0, 1) := by decide +kernel
theorem dX7_fit_45 : decode cX7_fit 45 = .ok (.aload 6, 2) := by decide +kernel
theorem dX7_fit_47 : decode cX7_fit 47 = .ok (.aload_n 1, 1) := by decide +kernel
theorem dX7_fit_48 : decode cX7_fit 48 = .ok (.aload_n 2, 1) := by decide +kernel
theorem dX7_fit_49 : decode cX7_fit 49 = .ok (.iload_n 3, 1) := by decide +kernel
theorem dX7_fit_50 : decode cX7_fit 50 = .ok (.bipush 10, 2) := by decide +kernel
theorem dX7_fit_52 : decode cX7_fit 52 = .ok (.idiv, 1) := by decide +kernel
theorem dX7_fit_53 : decode cX7_fit 53 = .ok (.invokevirtual 148, 3) := by decide +kernel
theorem dX7_fit_56 : decode cX7_fit 56 = .ok (.bipush (-2), 2) := by decide +kernel
theorem dX7_fit_58 : decode cX7_fit 58 = .ok (.if_icmp .ne 33, 3) := by decide +kernel
theorem dX7_fit_61 : decode cX7_fit 61 = .ok (.aload_n 0, 1) := by decide +kernel
theorem dX7_fit_62 : decode cX7_fit 62 = .ok (.aload_n 0, 1) := by decide +kernel
theorem dX7_fit_63 : decode cX7_fit 63 = .ok (.getfield 22, 3) := by decide +kernel
theorem dX7_fit_66 : decode cX7_fit 66 = .ok (.ifCond .ne 8, 3) := by decide +kernel
theorem dX7_fit_69 : decode cX7_fit 69 = .ok (.iload 5, 2) := by decide +kernel
theorem dX7_fit_71 : decode cX7_fit 71 = .ok (.goto 7, 3) := by decide +kernel
theorem dX7_fit_74 : decode cX7_fit 74 = .ok (.aload_n 0, 1) := by decide +kernel
theorem dX7_fit_75 : decode cX7_fit 75 = .ok (.getfield 25, 3) := by decide +kernel
theorem dX7_fit_78 : decode cX7_fit 78 = .ok (.putfield 25, 3) := by decide +kernel
theorem dX7_fit_81 : decode cX7_fit 81 = .ok (.aload_n 0, 1) := by decide +kernel
theorem dX7_fit_82 : decode cX7_fit 82 = .ok (.dup, 1) := by decide +kernel
theorem dX7_fit_83 : decode cX7_fit 83 = .ok (.getfield 22, 3) := by decide +kernel
theorem dX7_fit_86 : decode cX7_fit 86 = .ok (.iconst 1, 1) := by decide +kernel
theorem dX7_fit_87 : decode cX7_fit 87 = .ok (.iadd, 1) := by decide +kernel
theorem dX7_fit_88 : decode cX7_fit 88 = .ok (.putfield 22, 3) := by decide +kernel
theorem dX7_fit_91 : decode cX7_fit 91 = .ok (.iinc 5 1, 3) := by decide +kernel
theorem dX7_fit_94 : decode cX7_fit 94 = .ok (.goto (-80), 3) := by decide +kernel
theorem dX7_fit_97 : decode cX7_fit 97 = .ok (.return_, 1) := by decide +kernel
theorem dX7_deal_0 : decode cX7_deal 0 = .ok (.aload_n 0, 1) := by decide +kernel
theorem dX7_deal_1 : decode cX7_deal 1 = .ok (.invokevirtual 92, 3) := by decide +kernel
theorem dX7_deal_4 : decode cX7_deal 4 = .ok (.aload_n 0, 1) := by decide +kernel
theorem dX7_deal_5 : decode cX7_deal 5 = .ok (.invokevirtual 62, 3) := by decide +kernel
theorem dX7_deal_8 : decode cX7_deal 8 = .ok (.astore_n 1, 1) := by decide +kernel
theorem dX7_deal_9 : decode cX7_deal 9 = .ok (.aload_n 1, 1) := by decide +kernel
theorem dX7_deal_10 : decode cX7_deal 10 = .ok (.aload_n 0, 1) := by decide +kernel
theorem dX7_deal_11 : decode cX7_deal 11 = .ok (.getfield 53, 3) := by decide +kernel
theorem dX7_deal_14 : decode cX7_deal 14 = .ok (.iconst (-1), 1) := by decide +kernel
theorem dX7_deal_15 : decode cX7_deal 15 = .ok (.invokevirtual 82, 3) := by decide +kernel
theorem dX7_deal_18 : decode cX7_deal 18 = .ok (.aload_n 0, 1) := by decide +kernel
theorem dX7_deal_19 : decode cX7_deal 19 = .ok (.aload_n 1, 1) := by decide +kernel
theorem dX7_deal_20 : decode cX7_deal 20 = .ok (.invokevirtual 100, 3) := by decide +kernel
theorem dX7_deal_23 : decode cX7_deal 23 = .ok (.pop, 1) := by decide +kernel
theorem dX7_deal_24 : decode cX7_deal 24 = .ok (.aload_n 0, 1) := by decide +kernel
theorem dX7_deal_25 : decode cX7_deal 25 = .ok (.bipush (-9), 2) := by decide +kernel
theorem dX7_deal_27 : decode cX7_deal 27 = .ok (.putfield 28, 3) := by decide +kernel
theorem dX7_deal_30 : decode cX7_deal 30 = .ok (.iconst 0, 1) := by decide +kernel
theorem dX7_deal_31 : decode cX7_deal 31 = .ok (.istore_n 2, 1) := by decide +kernel
theorem dX7_deal_32 : decode cX7_deal 32 = .ok (.iload_n 2, 1) := by decide +kernel
theorem dX7_deal_33 : decode cX7_deal 33 = .ok (.bipush 12, 2) := by decide +kernel
theorem dX7_deal_35 : decode cX7_deal 35 = .ok (.if_icmp .ge 73, 3) := by decide +kernel
theorem dX7_deal_38 : decode cX7_deal 38 = .ok (.iload_n 2, 1) := by decide +kernel
theorem dX7_deal_39 : decode cX7_deal 39 = .ok (.iconst 1, 1) := by decide +kernel
theorem dX7_deal_40 : decode cX7_deal 40 = .ok (.iadd, 1) := by decide +kernel
theorem dX7_deal_41 : decode cX7_deal 41 = .ok (.istore_n 3, 1) := by decide +kernel
theorem dX7_deal_42 : decode cX7_deal 42 = .ok (.iload_n 3, 1) := by decide +kernel
theorem dX7_deal_43 : decode cX7_deal 43 = .ok (.bipush 12, 2) := by decide +kernel
theorem dX7_deal_45 : decode cX7_deal 45 = .ok (.if_icmp .ge 57, 3) := by decide +kernel
theorem dX7_deal_48 : decode cX7_deal 48 = .ok (.aload_n 1, 1) := by decide +kernel
theorem dX7_deal_49 : decode cX7_deal 49 = .ok (.aload_n 0, 1) := by decide +kernel
theorem dX7_deal_50 : decode cX7_deal 50 = .ok (.getfield 49, 3) := by decide +kernel
theorem dX7_deal_53 : decode cX7_deal 53 = .ok (.invokevirtual 58, 3) := by decide +kernel
theorem dX7_deal_56 : decode cX7_deal 56 = .ok (.aload_n 1, 1) := by decide +kernel
theorem dX7_deal_57 : decode cX7_deal 57 = .ok (.iload_n 2, 1) := by decide +kernel
theorem dX7_deal_58 : decode cX7_deal 58 = .ok (.iload_n 3, 1) := by decide +kernel
theorem dX7_deal_59 : decode cX7_deal 59 = .ok (.invokevirtual 162, 3) := by decide +kernel
theorem dX7_deal_62 : decode cX7_deal 62 = .ok (.aload_n 1, 1) := by decide +kernel
theorem dX7_deal_63 : decode cX7_deal 63 = .ok (.aload_n 0, 1) := by decide +kernel
theorem dX7_deal_64 : decode cX7_deal 64 = .ok (.getfield 53, 3) := by decide +kernel
theorem dX7_deal_67 : decode cX7_deal 67 = .ok (.iconst (-1), 1) := by decide +kernel
theorem dX7_deal_68 : decode cX7_deal 68 = .ok (.invokevirtual 82, 3) := by decide +kernel
theorem dX7_deal_71 : decode cX7_deal 71 = .ok (.aload_n 0, 1) := by decide +kernel
theorem dX7_deal_72 : decode cX7_deal 72 = .ok (.aload_n 0, 1) := by decide +kernel
theorem dX7_deal_73 : decode cX7_deal 73 = .ok (.aload_n 1, 1) := by decide +kernel
theorem dX7_deal_74 : decode cX7_deal 74 = .ok (.invokevirtual 100, 3) := by decide +kernel
theorem dX7_deal_77 : decode cX7_deal 77 = .ok (.ifCond .eq 12, 3) := by decide +kernel
theorem dX7_deal_80 : decode cX7_deal 80 = .ok (.bipush 12, 2) := by decide +kernel
theorem dX7_deal_82 : decode cX7_deal 82 = .ok (.iload_n 2, 1) := by decide +kernel
theorem dX7_deal_83 : decode cX7_deal 83 = .ok (.imul, 1) := by decide +kernel
theorem dX7_deal_84 : decode cX7_deal 84 = .ok (.iload_n 3, 1) := by decide +kernel
theorem dX7_deal_85 : decode cX7_deal 85 = .ok (.iadd, 1) := by decide +kernel
theorem dX7_deal_86 : decode cX7_deal 86 = .ok (.goto 7, 3) := by decide +kernel
theorem dX7_deal_89 : decode cX7_deal 89 = .ok (.aload_n 0, 1) := by decide +kernel
theorem dX7_deal_90 : decode cX7_deal 90 = .ok (.getfield 28, 3) := by decide +kernel
theorem dX7_deal_93 : decode cX7_deal 93 = .ok (.putfield 28, 3) := by decide +kernel
theorem dX7_deal_96 : decode cX7_deal 96 = .ok (.iinc 3 1, 3) := by decide +kernel
theorem dX7_deal_99 : decode cX7_deal 99 = .ok (.goto (-57), 3) := by decide +kernel
theorem dX7_deal_102 : decode cX7_deal 102 = .ok (.iinc 2 1, 3) := by decide +kernel
theorem dX7_deal_105 : decode cX7_deal 105 = .ok (.goto (-73), 3) := by decide +kernel
theorem dX7_deal_108 : decode cX7_deal 108 = .ok (.return_, 1) := by decide +kernel
theorem dX7_playTurns_0 : decode cX7_playTurns 0 = .ok (.iconst 0, 1) := by decide +kernel
theorem dX7_playTurns_1 : decode cX7_playTurns 1 = .ok (.istore_n 2, 1) := by decide +kernel
theorem dX7_playTurns_2 : decode cX7_playTurns 2 = .ok (.iload_n 2, 1) := by decide +kernel
theorem dX7_playTurns_3 : decode cX7_playTurns 3 = .ok (.iload_n 1, 1) := by decide +kernel
theorem dX7_playTurns_4 : decode cX7_playTurns 4 = .ok (.if_icmp .gt 22, 3) := by decide +kernel
theorem dX7_playTurns_7 : decode cX7_playTurns 7 = .ok (.aload_n 0, 1) := by decide +kernel
theorem dX7_playTurns_8 : decode cX7_playTurns 8 = .ok (.getfield 36, 3) := by decide +kernel
theorem dX7_playTurns_11 : decode cX7_playTurns 11 = .ok (.iload_n 2, 1) := by decide +kernel
theorem dX7_playTurns_12 : decode cX7_playTurns 12 = .ok (.aaload, 1) := by decide +kernel
theorem dX7_playTurns_13 : decode cX7_playTurns 13 = .ok (.aload_n 0, 1) := by decide +kernel
theorem dX7_playTurns_14 : decode cX7_playTurns 14 = .ok (.getfield 49, 3) := by decide +kernel
theorem dX7_playTurns_17 : decode cX7_playTurns 17 = .ok (.invokevirtual 58, 3) := by decide +kernel
theorem dX7_playTurns_20 : decode cX7_playTurns 20 = .ok (.iinc 2 1, 3) := by decide +kernel
theorem dX7_playTurns_23 : decode cX7_playTurns 23 = .ok (.goto (-21), 3) := by decide +kernel
theorem dX7_playTurns_26 : decode cX7_playTurns 26 = .ok (.aload_n 0, 1) := by decide +kernel
theorem dX7_playTurns_27 : decode cX7_playTurns 27 = .ok (.iconst 0, 1) := by decide +kernel
theorem dX7_playTurns_28 : decode cX7_playTurns 28 = .ok (.iload_n 1, 1) := by decide +kernel
theorem dX7_playTurns_29 : decode cX7_playTurns 29 = .ok (.invokevirtual 165, 3) := by decide +kernel
theorem dX7_playTurns_32 : decode cX7_playTurns 32 = .ok (.ireturn, 1) := by decide +kernel
theorem dX7_outcome_0 : decode cX7_outcome 0 = .ok (.aload_n 0, 1) := by decide +kernel
theorem dX7_outcome_1 : decode cX7_outcome 1 = .ok (.getfield 36, 3) := by decide +kernel
theorem dX7_outcome_4 : decode cX7_outcome 4 = .ok (.iload_n 1, 1) := by decide +kernel
theorem dX7_outcome_5 : decode cX7_outcome 5 = .ok (.aaload, 1) := by decide +kernel
theorem dX7_outcome_6 : decode cX7_outcome 6 = .ok (.astore_n 3, 1) := by decide +kernel
theorem dX7_outcome_7 : decode cX7_outcome 7 = .ok (.iload_n 1, 1) := by decide +kernel
theorem dX7_outcome_8 : decode cX7_outcome 8 = .ok (.iload_n 2, 1) := by decide +kernel
theorem dX7_outcome_9 : decode cX7_outcome 9 = .ok (.if_icmp .lt 8, 3) := by decide +kernel
theorem dX7_outcome_12 : decode cX7_outcome 12 = .ok (.aload_n 3, 1) := by decide +kernel
theorem dX7_outcome_13 : decode cX7_outcome 13 = .ok (.invokevirtual 121, 3) := by decide +kernel
theorem dX7_outcome_16 : decode cX7_outcome 16 = .ok (.ireturn, 1) := by decide +kernel
theorem dX7_outcome_17 : decode cX7_outcome 17 = .ok (.iload_n 1, 1) := by decide +kernel
theorem dX7_outcome_18 : decode cX7_outcome 18 = .ok (.iconst 2, 1) := by decide +kernel
theorem dX7_outcome_19 : decode cX7_outcome 19 = .ok (.irem, 1) := by decide +kernel
theorem dX7_outcome_20 : decode cX7_outcome 20 = .ok (.ifCond .ne 7, 3) := by decide +kernel
theorem dX7_outcome_23 : decode cX7_outcome 23 = .ok (.iconst 1, 1) := by decide +kernel
theorem dX7_outcome_24 : decode cX7_outcome 24 = .ok (.goto 4, 3) := by decide +kernel
theorem dX7_outcome_27 : decode cX7_outcome 27 = .ok (.iconst 0, 1) := by decide +kernel
theorem dX7_outcome_28 : decode cX7_outcome 28 = .ok (.istore 4, 2) := by decide +kernel
theorem dX7_outcome_30 : decode cX7_outcome 30 = .ok (.iload 4, 2) := by decide +kernel
theorem dX7_outcome_32 : decode cX7_outcome 32 = .ok (.ifCond .eq 7, 3) := by decide +kernel
theorem dX7_outcome_35 : decode cX7_outcome 35 = .ok (.iconst 0, 1) := by decide +kernel
theorem dX7_outcome_36 : decode cX7_outcome 36 = .ok (.goto 5, 3) := by decide +kernel
theorem dX7_outcome_39 : decode cX7_outcome 39 = .ok (.bipush 6, 2) := by decide +kernel
theorem dX7_outcome_41 : decode cX7_outcome 41 = .ok (.istore 5, 2) := by decide +kernel
theorem dX7_outcome_43 : decode cX7_outcome 43 = .ok (.bipush 12, 2) := by decide +kernel
theorem dX7_outcome_45 : decode cX7_outcome 45 = .ok (.istore 6, 2) := by decide +kernel
theorem dX7_outcome_47 : decode cX7_outcome 47 = .ok (.aload_n 0, 1) := by decide +kernel
theorem dX7_outcome_48 : decode cX7_outcome 48 = .ok (.getfield 36, 3) := by decide +kernel
theorem dX7_outcome_51 : decode cX7_outcome 51 = .ok (.iload_n 1, 1) := by decide +kernel
theorem dX7_outcome_52 : decode cX7_outcome 52 = .ok (.iconst 1, 1) := by decide +kernel
theorem dX7_outcome_53 : decode cX7_outcome 53 = .ok (.iadd, 1) := by decide +kernel
theorem dX7_outcome_54 : decode cX7_outcome 54 = .ok (.aaload, 1) := by decide +kernel
theorem dX7_outcome_55 : decode cX7_outcome 55 = .ok (.aload_n 3, 1) := by decide +kernel
theorem dX7_outcome_56 : decode cX7_outcome 56 = .ok (.invokevirtual 168, 3) := by decide +kernel
theorem dX7_outcome_59 : decode cX7_outcome 59 = .ok (.aload_n 0, 1) := by decide +kernel
theorem dX7_outcome_60 : decode cX7_outcome 60 = .ok (.iload_n 1, 1) := by decide +kernel
theorem dX7_outcome_61 : decode cX7_outcome 61 = .ok (.iconst 1, 1) := by decide +kernel
theorem dX7_outcome_62 : decode cX7_outcome 62 = .ok (.iadd, 1) := by decide +kernel
theorem dX7_outcome_63 : decode cX7_outcome 63 = .ok (.iload_n 2, 1) := by decide +kernel
theorem dX7_outcome_64 : decode cX7_outcome 64 = .ok (.invokevirtual 165, 3) := by decide +kernel
theorem dX7_outcome_67 : decode cX7_outcome 67 = .ok (.istore 7, 2) := by decide +kernel
theorem dX7_outcome_69 : decode cX7_outcome 69 = .ok (.iload 5, 2) := by decide +kernel
theorem dX7_outcome_71 : decode cX7_outcome 71 = .ok (.istore 8, 2) := by decide +kernel
theorem dX7_outcome_73 : decode cX7_outcome 73 = .ok (.iload 8, 2) := by decide +kernel
theorem dX7_outcome_75 : decode cX7_outcome 75 = .ok (.iload 5, 2) := by decide +kernel
theorem dX7_outcome_77 : decode cX7_outcome 77 = .ok (.bipush 6, 2) := by decide +kernel
theorem dX7_outcome_79 : decode cX7_outcome 79 = .ok (.iadd, 1) := by decide +kernel
theorem dX7_outcome_80 : decode cX7_outcome 80 = .ok (.if_icmp .ge 62, 3) := by decide +kernel
theorem dX7_outcome_83 : decode cX7_outcome 83 = .ok (.aload_n 3, 1) := by decide +kernel
theorem dX7_outcome_84 : decode cX7_outcome 84 = .ok (.getfield 114, 3) := by decide +kernel
theorem dX7_outcome_87 : decode cX7_outcome 87 = .ok (.iload 8, 2) := by decide +kernel
theorem dX7_outcome_89 : decode cX7_outcome 89 = .ok (.iaload, 1) := by decide +kernel
theorem dX7_outcome_90 : decode cX7_outcome 90 = .ok (.ifCond .ge 6, 3) := by decide +kernel
theorem dX7_outcome_93 : decode cX7_outcome 93 = .ok (.goto 43, 3) := by decide +kernel
theorem dX7_outcome_96 : decode cX7_outcome 96 = .ok (.aload_n 0, 1) := by decide +kernel
theorem dX7_outcome_97 : decode cX7_outcome 97 = .ok (.iload_n 1, 1) := by decide +kernel
theorem dX7_outcome_98 : decode cX7_outcome 98 = .ok (.iload_n 2, 1) := by decide +kernel
theorem dX7_outcome_99 : decode cX7_outcome 99 = .ok (.iload 8, 2) := by decide +kernel
theorem dX7_outcome_101 : decode cX7_outcome 101 = .ok (.invokevirtual 171, 3) := by decide +kernel
theorem dX7_outcome_104 : decode cX7_outcome 104 = .ok (.istore 9, 2) := by decide +kernel
theorem dX7_outcome_106 : decode cX7_outcome 106 = .ok (.iload 4, 2) := by decide +kernel
theorem dX7_outcome_108 : decode cX7_outcome 108 = .ok (.ifCond .eq 13, 3) := by decide +kernel
theorem dX7_outcome_111 : decode cX7_outcome 111 = .ok (.iload 9, 2) := by decide +kernel
theorem dX7_outcome_113 : decode cX7_outcome 113 = .ok (.iload 7, 2) := by decide +kernel
theorem dX7_outcome_115 : decode cX7_outcome 115 = .ok (.if_icmp .ge 21, 3) := by decide +kernel
theorem dX7_outcome_118 : decode cX7_outcome 118 = .ok (.goto 10, 3) := by decide +kernel
theorem dX7_outcome_121 : decode cX7_outcome 121 = .ok (.iload 9, 2) := by decide +kernel
theorem dX7_outcome_123 : decode cX7_outcome 123 = .ok (.iload 7, 2) := by decide +kernel
theorem dX7_outcome_125 : decode cX7_outcome 125 = .ok (.if_icmp .le 11, 3) := by decide +kernel
theorem dX7_outcome_128 : decode cX7_outcome 128 = .ok (.iload 9, 2) := by decide +kernel
theorem dX7_outcome_130 : decode cX7_outcome 130 = .ok (.istore 7, 2) := by decide +kernel
theorem dX7_outcome_132 : decode cX7_outcome 132 = .ok (.iload 8, 2) := by decide +kernel
theorem dX7_outcome_134 : decode cX7_outcome 134 = .ok (.istore 6, 2) := by decide +kernel
theorem dX7_outcome_136 : decode cX7_outcome 136 = .ok (.iinc 8 1, 3) := by decide +kernel
theorem dX7_outcome_139 : decode cX7_outcome 139 = .ok (.goto (-66), 3) := by decide +kernel
theorem dX7_outcome_142 : decode cX7_outcome 142 = .ok (.aload_n 0, 1) := by decide +kernel
theorem dX7_outcome_143 : decode cX7_outcome 143 = .ok (.iload 6, 2) := by decide +kernel
theorem dX7_outcome_145 : decode cX7_outcome 145 = .ok (.putfield 31, 3) := by decide +kernel
theorem dX7_outcome_148 : decode cX7_outcome 148 = .ok (.iload 7, 2) := by decide +kernel
theorem dX7_outcome_150 : decode cX7_outcome 150 = .ok (.ireturn, 1) := by decide +kernel
theorem dX7_outcomeOf_0 : decode cX7_outcomeOf 0 = .ok (.aload_n 0, 1) := by decide +kernel
theorem dX7_outcomeOf_1 : decode cX7_outcomeOf 1 = .ok (.getfield 36, 3) := by decide +kernel
theorem dX7_outcomeOf_4 : decode cX7_outcomeOf 4 = .ok (.iload_n 1, 1) := by decide +kernel
theorem dX7_outcomeOf_5 : decode cX7_outcomeOf 5 = .ok (.iconst 1, 1) := by decide +kernel
theorem dX7_outcomeOf_6 : decode cX7_outcomeOf 6 = .ok (.iadd, 1) := by decide +kernel
theorem dX7_outcomeOf_7 : decode cX7_outcomeOf 7 = .ok (.aaload, 1) := by decide +kernel
theorem dX7_outcomeOf_8 : decode cX7_outcomeOf 8 = .ok (.astore 4, 2) := by decide +kernel
theorem dX7_outcomeOf_10 : decode cX7_outcomeOf 10 = .ok (.aload 4, 2) := by decide +kernel
theorem dX7_outcomeOf_12 : decode cX7_outcomeOf 12 = .ok (.aload_n 0, 1) := by decide +kernel
theorem dX7_outcomeOf_13 : decode cX7_outcomeOf 13 = .ok (.getfield 36, 3) := by decide +kernel
theorem dX7_outcomeOf_16 : decode cX7_outcomeOf 16 = .ok (.iload_n 1, 1) := by decide +kernel
theorem dX7_outcomeOf_17 : decode cX7_outcomeOf 17 = .ok (.aaload, 1) := by decide +kernel
theorem dX7_outcomeOf_18 : decode cX7_outcomeOf 18 = .ok (.invokevirtual 168, 3) := by decide +kernel
theorem dX7_outcomeOf_21 : decode cX7_outcomeOf 21 = .ok (.iload_n 1, 1) := by decide +kernel
end
section
theorem dX7_outcomeOf_22 : decode cX7_outcomeOf 22 = .ok (.iconst 2, 1) := by decide +kernel
theorem dX7_outcomeOf_23 : decode cX7_outcomeOf 23 = .ok (.irem, 1) := by decide +kernel
theorem dX7_outcomeOf_24 : decode cX7_outcomeOf 24 = .ok (.ifCond .ne 13, 3) := by decide +kernel
theorem dX7_outcomeOf_27 : decode cX7_outcomeOf 27 = .ok (.aload 4, 2) := by decide +kernel
theorem dX7_outcomeOf_29 : decode cX7_outcomeOf 29 = .ok (.iload_n 3, 1) := by decide +kernel
theorem dX7_outcomeOf_30 : decode cX7_outcomeOf 30 = .ok (.iconst 4, 1) := by decide +kernel
theorem dX7_outcomeOf_31 : decode cX7_outcomeOf 31 = .ok (.invokevirtual 174, 3) := by decide +kernel
theorem dX7_outcomeOf_34 : decode cX7_outcomeOf 34 = .ok (.goto 10, 3) := by decide +kernel
theorem dX7_outcomeOf_37 : decode cX7_outcomeOf 37 = .ok (.aload 4, 2) := by decide +kernel
theorem dX7_outcomeOf_39 : decode cX7_outcomeOf 39 = .ok (.iload_n 3, 1) := by decide +kernel
theorem dX7_outcomeOf_40 : decode cX7_outcomeOf 40 = .ok (.invokevirtual 177, 3) := by decide +kernel
theorem dX7_outcomeOf_43 : decode cX7_outcomeOf 43 = .ok (.pop, 1) := by decide +kernel
theorem dX7_outcomeOf_44 : decode cX7_outcomeOf 44 = .ok (.aload_n 0, 1) := by decide +kernel
theorem dX7_outcomeOf_45 : decode cX7_outcomeOf 45 = .ok (.iload_n 1, 1) := by decide +kernel
theorem dX7_outcomeOf_46 : decode cX7_outcomeOf 46 = .ok (.iconst 1, 1) := by decide +kernel
theorem dX7_outcomeOf_47 : decode cX7_outcomeOf 47 = .ok (.iadd, 1) := by decide +kernel
theorem dX7_outcomeOf_48 : decode cX7_outcomeOf 48 = .ok (.iload_n 2, 1) := by decide +kernel
theorem dX7_outcomeOf_49 : decode cX7_outcomeOf 49 = .ok (.invokevirtual 165, 3) := by decide +kernel
theorem dX7_outcomeOf_52 : decode cX7_outcomeOf 52 = .ok (.ireturn, 1) := by decide +kernel
theorem dX7_drawNights_0 : decode cX7_drawNights 0 = .ok (.iload_n 1, 1) := by decide +kernel
theorem dX7_drawNights_1 : decode cX7_drawNights 1 = .ok (.istore 6, 2) := by decide +kernel
theorem dX7_drawNights_3 : decode cX7_drawNights 3 = .ok (.iconst 0, 1) := by decide +kernel
theorem dX7_drawNights_4 : decode cX7_drawNights 4 = .ok (.istore 7, 2) := by decide +kernel
theorem dX7_drawNights_6 : decode cX7_drawNights 6 = .ok (.aload_n 0, 1) := by decide +kernel
theorem dX7_drawNights_7 : decode cX7_drawNights 7 = .ok (.invokevirtual 62, 3) := by decide +kernel
theorem dX7_drawNights_10 : decode cX7_drawNights 10 = .ok (.astore 8, 2) := by decide +kernel
theorem dX7_drawNights_12 : decode cX7_drawNights 12 = .ok (.iconst 0, 1) := by decide +kernel
theorem dX7_drawNights_13 : decode cX7_drawNights 13 = .ok (.istore 9, 2) := by decide +kernel
theorem dX7_drawNights_15 : decode cX7_drawNights 15 = .ok (.iload 9, 2) := by decide +kernel
theorem dX7_drawNights_17 : decode cX7_drawNights 17 = .ok (.iload_n 2, 1) := by decide +kernel
theorem dX7_drawNights_18 : decode cX7_drawNights 18 = .ok (.if_icmp .ge 114, 3) := by decide +kernel
theorem dX7_drawNights_21 : decode cX7_drawNights 21 = .ok (.aload 8, 2) := by decide +kernel
theorem dX7_drawNights_23 : decode cX7_drawNights 23 = .ok (.aload_n 0, 1) := by decide +kernel
theorem dX7_drawNights_24 : decode cX7_drawNights 24 = .ok (.getfield 49, 3) := by decide +kernel
theorem dX7_drawNights_27 : decode cX7_drawNights 27 = .ok (.invokevirtual 168, 3) := by decide +kernel
theorem dX7_drawNights_30 : decode cX7_drawNights 30 = .ok (.iconst 0, 1) := by decide +kernel
theorem dX7_drawNights_31 : decode cX7_drawNights 31 = .ok (.istore 10, 2) := by decide +kernel
theorem dX7_drawNights_33 : decode cX7_drawNights 33 = .ok (.iload 10, 2) := by decide +kernel
theorem dX7_drawNights_35 : decode cX7_drawNights 35 = .ok (.iload_n 3, 1) := by decide +kernel
theorem dX7_drawNights_36 : decode cX7_drawNights 36 = .ok (.if_icmp .ge 64, 3) := by decide +kernel
theorem dX7_drawNights_39 : decode cX7_drawNights 39 = .ok (.iload 6, 2) := by decide +kernel
theorem dX7_drawNights_41 : decode cX7_drawNights 41 = .ok (.ldc 180, 2) := by decide +kernel
theorem dX7_drawNights_43 : decode cX7_drawNights 43 = .ok (.imul, 1) := by decide +kernel
theorem dX7_drawNights_44 : decode cX7_drawNights 44 = .ok (.sipush 12345, 3) := by decide +kernel
theorem dX7_drawNights_47 : decode cX7_drawNights 47 = .ok (.iadd, 1) := by decide +kernel
theorem dX7_drawNights_48 : decode cX7_drawNights 48 = .ok (.istore 6, 2) := by decide +kernel
theorem dX7_drawNights_50 : decode cX7_drawNights 50 = .ok (.iload 6, 2) := by decide +kernel
theorem dX7_drawNights_52 : decode cX7_drawNights 52 = .ok (.bipush 20, 2) := by decide +kernel
theorem dX7_drawNights_54 : decode cX7_drawNights 54 = .ok (.iushr, 1) := by decide +kernel
theorem dX7_drawNights_55 : decode cX7_drawNights 55 = .ok (.bipush 12, 2) := by decide +kernel
theorem dX7_drawNights_57 : decode cX7_drawNights 57 = .ok (.irem, 1) := by decide +kernel
theorem dX7_drawNights_58 : decode cX7_drawNights 58 = .ok (.iload 4, 2) := by decide +kernel
theorem dX7_drawNights_60 : decode cX7_drawNights 60 = .ok (.if_icmp .ge 17, 3) := by decide +kernel
theorem dX7_drawNights_63 : decode cX7_drawNights 63 = .ok (.aload 8, 2) := by decide +kernel
theorem dX7_drawNights_65 : decode cX7_drawNights 65 = .ok (.iload 6, 2) := by decide +kernel
theorem dX7_drawNights_67 : decode cX7_drawNights 67 = .ok (.bipush 16, 2) := by decide +kernel
theorem dX7_drawNights_69 : decode cX7_drawNights 69 = .ok (.iushr, 1) := by decide +kernel
theorem dX7_drawNights_70 : decode cX7_drawNights 70 = .ok (.bipush 12, 2) := by decide +kernel
theorem dX7_drawNights_72 : decode cX7_drawNights 72 = .ok (.irem, 1) := by decide +kernel
theorem dX7_drawNights_73 : decode cX7_drawNights 73 = .ok (.invokevirtual 177, 3) := by decide +kernel
theorem dX7_drawNights_76 : decode cX7_drawNights 76 = .ok (.pop, 1) := by decide +kernel
theorem dX7_drawNights_77 : decode cX7_drawNights 77 = .ok (.aload 8, 2) := by decide +kernel
theorem dX7_drawNights_79 : decode cX7_drawNights 79 = .ok (.aload_n 0, 1) := by decide +kernel
theorem dX7_drawNights_80 : decode cX7_drawNights 80 = .ok (.getfield 53, 3) := by decide +kernel
theorem dX7_drawNights_83 : decode cX7_drawNights 83 = .ok (.iload 6, 2) := by decide +kernel
theorem dX7_drawNights_85 : decode cX7_drawNights 85 = .ok (.bipush 8, 2) := by decide +kernel
theorem dX7_drawNights_87 : decode cX7_drawNights 87 = .ok (.iushr, 1) := by decide +kernel
theorem dX7_drawNights_88 : decode cX7_drawNights 88 = .ok (.bipush 12, 2) := by decide +kernel
theorem dX7_drawNights_90 : decode cX7_drawNights 90 = .ok (.irem, 1) := by decide +kernel
theorem dX7_drawNights_91 : decode cX7_drawNights 91 = .ok (.invokevirtual 82, 3) := by decide +kernel
theorem dX7_drawNights_94 : decode cX7_drawNights 94 = .ok (.iinc 10 1, 3) := by decide +kernel
theorem dX7_drawNights_97 : decode cX7_drawNights 97 = .ok (.goto (-64), 3) := by decide +kernel
theorem dX7_drawNights_100 : decode cX7_drawNights 100 = .ok (.iload 7, 2) := by decide +kernel
theorem dX7_drawNights_102 : decode cX7_drawNights 102 = .ok (.iload 5, 2) := by decide +kernel
theorem dX7_drawNights_104 : decode cX7_drawNights 104 = .ok (.ifCond .ge 11, 3) := by decide +kernel
theorem dX7_drawNights_107 : decode cX7_drawNights 107 = .ok (.aload 8, 2) := by decide +kernel
theorem dX7_drawNights_109 : decode cX7_drawNights 109 = .ok (.invokevirtual 121, 3) := by decide +kernel
theorem dX7_drawNights_112 : decode cX7_drawNights 112 = .ok (.goto 11, 3) := by decide +kernel
theorem dX7_drawNights_115 : decode cX7_drawNights 115 = .ok (.aload 8, 2) := by decide +kernel
theorem dX7_drawNights_117 : decode cX7_drawNights 117 = .ok (.getfield 86, 3) := by decide +kernel
theorem dX7_drawNights_120 : decode cX7_drawNights 120 = .ok (.iload 5, 2) := by decide +kernel
theorem dX7_drawNights_122 : decode cX7_drawNights 122 = .ok (.iaload, 1) := by decide +kernel
theorem dX7_drawNights_123 : decode cX7_drawNights 123 = .ok (.iadd, 1) := by decide +kernel
theorem dX7_drawNights_124 : decode cX7_drawNights 124 = .ok (.istore 7, 2) := by decide +kernel
theorem dX7_drawNights_126 : decode cX7_drawNights 126 = .ok (.iinc 9 1, 3) := by decide +kernel
theorem dX7_drawNights_129 : decode cX7_drawNights 129 = .ok (.goto (-114), 3) := by decide +kernel
theorem dX7_drawNights_132 : decode cX7_drawNights 132 = .ok (.iload 7, 2) := by decide +kernel
theorem dX7_drawNights_134 : decode cX7_drawNights 134 = .ok (.ireturn, 1) := by decide +kernel
theorem dX8_init_0 : decode cX8_init 0 = .ok (.aload_n 0, 1) := by decide +kernel
theorem dX8_init_1 : decode cX8_init 1 = .ok (.invokespecial 1, 3) := by decide +kernel
theorem dX8_init_4 : decode cX8_init 4 = .ok (.aload_n 0, 1) := by decide +kernel
theorem dX8_init_5 : decode cX8_init 5 = .ok (.new 7, 3) := by decide +kernel
theorem dX8_init_8 : decode cX8_init 8 = .ok (.dup, 1) := by decide +kernel
theorem dX8_init_9 : decode cX8_init 9 = .ok (.invokespecial 9, 3) := by decide +kernel
theorem dX8_init_12 : decode cX8_init 12 = .ok (.putfield 10, 3) := by decide +kernel
theorem dX8_init_15 : decode cX8_init 15 = .ok (.aload_n 0, 1) := by decide +kernel
theorem dX8_init_16 : decode cX8_init 16 = .ok (.new 16, 3) := by decide +kernel
theorem dX8_init_19 : decode cX8_init 19 = .ok (.dup, 1) := by decide +kernel
theorem dX8_init_20 : decode cX8_init 20 = .ok (.invokespecial 18, 3) := by decide +kernel
theorem dX8_init_23 : decode cX8_init 23 = .ok (.putfield 19, 3) := by decide +kernel
theorem dX8_init_26 : decode cX8_init 26 = .ok (.aload_n 0, 1) := by decide +kernel
theorem dX8_init_27 : decode cX8_init 27 = .ok (.new 23, 3) := by decide +kernel
theorem dX8_init_30 : decode cX8_init 30 = .ok (.dup, 1) := by decide +kernel
theorem dX8_init_31 : decode cX8_init 31 = .ok (.invokespecial 25, 3) := by decide +kernel
theorem dX8_init_34 : decode cX8_init 34 = .ok (.putfield 26, 3) := by decide +kernel
theorem dX8_init_37 : decode cX8_init 37 = .ok (.aload_n 0, 1) := by decide +kernel
theorem dX8_init_38 : decode cX8_init 38 = .ok (.new 30, 3) := by decide +kernel
theorem dX8_init_41 : decode cX8_init 41 = .ok (.dup, 1) := by decide +kernel
theorem dX8_init_42 : decode cX8_init 42 = .ok (.aload_n 0, 1) := by decide +kernel
theorem dX8_init_43 : decode cX8_init 43 = .ok (.getfield 10, 3) := by decide +kernel
theorem dX8_init_46 : decode cX8_init 46 = .ok (.aload_n 0, 1) := by decide +kernel
theorem dX8_init_47 : decode cX8_init 47 = .ok (.getfield 19, 3) := by decide +kernel
theorem dX8_init_50 : decode cX8_init 50 = .ok (.invokespecial 32, 3) := by decide +kernel
theorem dX8_init_53 : decode cX8_init 53 = .ok (.putfield 35, 3) := by decide +kernel
theorem dX8_init_56 : decode cX8_init 56 = .ok (.aload_n 0, 1) := by decide +kernel
theorem dX8_init_57 : decode cX8_init 57 = .ok (.new 39, 3) := by decide +kernel
theorem dX8_init_60 : decode cX8_init 60 = .ok (.dup, 1) := by decide +kernel
theorem dX8_init_61 : decode cX8_init 61 = .ok (.invokespecial 41, 3) := by decide +kernel
theorem dX8_init_64 : decode cX8_init 64 = .ok (.putfield 42, 3) := by decide +kernel
theorem dX8_init_67 : decode cX8_init 67 = .ok (.aload_n 0, 1) := by decide +kernel
theorem dX8_init_68 : decode cX8_init 68 = .ok (.new 46, 3) := by decide +kernel
theorem dX8_init_71 : decode cX8_init 71 = .ok (.dup, 1) := by decide +kernel
theorem dX8_init_72 : decode cX8_init 72 = .ok (.invokespecial 48, 3) := by decide +kernel
theorem dX8_init_75 : decode cX8_init 75 = .ok (.putfield 49, 3) := by decide +kernel
theorem dX8_init_78 : decode cX8_init 78 = .ok (.aload_n 0, 1) := by decide +kernel
theorem dX8_init_79 : decode cX8_init 79 = .ok (.new 53, 3) := by decide +kernel
theorem dX8_init_82 : decode cX8_init 82 = .ok (.dup, 1) := by decide +kernel
theorem dX8_init_83 : decode cX8_init 83 = .ok (.invokespecial 55, 3) := by decide +kernel
theorem dX8_init_86 : decode cX8_init 86 = .ok (.putfield 56, 3) := by decide +kernel
theorem dX8_init_89 : decode cX8_init 89 = .ok (.aload_n 0, 1) := by decide +kernel
theorem dX8_init_90 : decode cX8_init 90 = .ok (.bipush 6, 2) := by decide +kernel
theorem dX8_init_92 : decode cX8_init 92 = .ok (.anewarray 60, 3) := by decide +kernel
theorem dX8_init_95 : decode cX8_init 95 = .ok (.putfield 62, 3) := by decide +kernel
theorem dX8_init_98 : decode cX8_init 98 = .ok (.iconst 0, 1) := by decide +kernel
theorem dX8_init_99 : decode cX8_init 99 = .ok (.istore_n 1, 1) := by decide +kernel
theorem dX8_init_100 : decode cX8_init 100 = .ok (.iload_n 1, 1) := by decide +kernel
theorem dX8_init_101 : decode cX8_init 101 = .ok (.bipush 6, 2) := by decide +kernel
theorem dX8_init_103 : decode cX8_init 103 = .ok (.if_icmp .ge 22, 3) := by decide +kernel
theorem dX8_init_106 : decode cX8_init 106 = .ok (.aload_n 0, 1) := by decide +kernel
theorem dX8_init_107 : decode cX8_init 107 = .ok (.getfield 62, 3) := by decide +kernel
theorem dX8_init_110 : decode cX8_init 110 = .ok (.iload_n 1, 1) := by decide +kernel
theorem dX8_init_111 : decode cX8_init 111 = .ok (.new 60, 3) := by decide +kernel
theorem dX8_init_114 : decode cX8_init 114 = .ok (.dup, 1) := by decide +kernel
theorem dX8_init_115 : decode cX8_init 115 = .ok (.invokespecial 66, 3) := by decide +kernel
theorem dX8_init_118 : decode cX8_init 118 = .ok (.aastore, 1) := by decide +kernel
theorem dX8_init_119 : decode cX8_init 119 = .ok (.iinc 1 1, 3) := by decide +kernel
theorem dX8_init_122 : decode cX8_init 122 = .ok (.goto (-22), 3) := by decide +kernel
theorem dX8_init_125 : decode cX8_init 125 = .ok (.return_, 1) := by decide +kernel
theorem dX8_sword_0 : decode cX8_sword 0 = .ok (.aload_n 0, 1) := by decide +kernel
theorem dX8_sword_1 : decode cX8_sword 1 = .ok (.getfield 10, 3) := by decide +kernel
theorem dX8_sword_4 : decode cX8_sword 4 = .ok (.iload_n 1, 1) := by decide +kernel
theorem dX8_sword_5 : decode cX8_sword 5 = .ok (.iload_n 2, 1) := by decide +kernel
theorem dX8_sword_6 : decode cX8_sword 6 = .ok (.iconst 0, 1) := by decide +kernel
theorem dX8_sword_7 : decode cX8_sword 7 = .ok (.invokevirtual 67, 3) := by decide +kernel
theorem dX8_sword_10 : decode cX8_sword 10 = .ok (.ifCond .ne 5, 3) := by decide +kernel
theorem dX8_sword_13 : decode cX8_sword 13 = .ok (.iconst (-1), 1) := by decide +kernel
theorem dX8_sword_14 : decode cX8_sword 14 = .ok (.ireturn, 1) := by decide +kernel
theorem dX8_sword_15 : decode cX8_sword 15 = .ok (.aload_n 0, 1) := by decide +kernel
theorem dX8_sword_16 : decode cX8_sword 16 = .ok (.getfield 10, 3) := by decide +kernel
theorem dX8_sword_19 : decode cX8_sword 19 = .ok (.getfield 71, 3) := by decide +kernel
theorem dX8_sword_22 : decode cX8_sword 22 = .ok (.bipush 10, 2) := by decide +kernel
theorem dX8_sword_24 : decode cX8_sword 24 = .ok (.if_icmp .ge 17, 3) := by decide +kernel
theorem dX8_sword_27 : decode cX8_sword 27 = .ok (.aload_n 0, 1) := by decide +kernel
theorem dX8_sword_28 : decode cX8_sword 28 = .ok (.getfield 10, 3) := by decide +kernel
theorem dX8_sword_31 : decode cX8_sword 31 = .ok (.iload_n 1, 1) := by decide +kernel
theorem dX8_sword_32 : decode cX8_sword 32 = .ok (.iload_n 2, 1) := by decide +kernel
theorem dX8_sword_33 : decode cX8_sword 33 = .ok (.bipush 50, 2) := by decide +kernel
theorem dX8_sword_35 : decode cX8_sword 35 = .ok (.invokevirtual 75, 3) := by decide +kernel
theorem dX8_sword_38 : decode cX8_sword 38 = .ok (.goto 5, 3) := by decide +kernel
theorem dX8_sword_41 : decode cX8_sword 41 = .ok (.bipush (-3), 2) := by decide +kernel
theorem dX8_sword_43 : decode cX8_sword 43 = .ok (.ireturn, 1) := by decide +kernel
theorem dX8_swords_0 : decode cX8_swords 0 = .ok (.iload_n 1, 1) := by decide +kernel
theorem dX8_swords_1 : decode cX8_swords 1 = .ok (.invokestatic 79, 3) := by decide +kernel
theorem dX8_swords_4 : decode cX8_swords 4 = .ok (.ifCond .eq 13, 3) := by decide +kernel
theorem dX8_swords_7 : decode cX8_swords 7 = .ok (.iload_n 3, 1) := by decide +kernel
theorem dX8_swords_8 : decode cX8_swords 8 = .ok (.iconst 1, 1) := by decide +kernel
theorem dX8_swords_9 : decode cX8_swords 9 = .ok (.bipush 10, 2) := by decide +kernel
theorem dX8_swords_11 : decode cX8_swords 11 = .ok (.invokestatic 83, 3) := by decide +kernel
theorem dX8_swords_14 : decode cX8_swords 14 = .ok (.ifCond .ne 5, 3) := by decide +kernel
theorem dX8_swords_17 : decode cX8_swords 17 = .ok (.iconst (-1), 1) := by decide +kernel
theorem dX8_swords_18 : decode cX8_swords 18 = .ok (.ireturn, 1) := by decide +kernel
theorem dX8_swords_19 : decode cX8_swords 19 = .ok (.aload_n 0, 1) := by decide +kernel
theorem dX8_swords_20 : decode cX8_swords 20 = .ok (.getfield 62, 3) := by decide +kernel
theorem dX8_swords_23 : decode cX8_swords 23 = .ok (.iload_n 1, 1) := by decide +kernel
theorem dX8_swords_24 : decode cX8_swords 24 = .ok (.aaload, 1) := by decide +kernel
theorem dX8_swords_25 : decode cX8_swords 25 = .ok (.astore 4, 2) := by decide +kernel
theorem dX8_swords_27 : decode cX8_swords 27 = .ok (.aload 4, 2) := by decide +kernel
theorem dX8_swords_29 : decode cX8_swords 29 = .ok (.invokevirtual 86, 3) := by decide +kernel
theorem dX8_swords_32 : decode cX8_swords 32 = .ok (.ifCond .eq 5, 3) := by decide +kernel
theorem dX8_swords_35 : decode cX8_swords 35 = .ok (.iconst 0, 1) := by decide +kernel
theorem dX8_swords_36 : decode cX8_swords 36 = .ok (.ireturn, 1) := by decide +kernel
theorem dX8_swords_37 : decode cX8_swords 37 = .ok (.aload 4, 2) := by decide +kernel
theorem dX8_swords_39 : decode cX8_swords 39 = .ok (.invokevirtual 90, 3) := by decide +kernel
theorem dX8_swords_42 : decode cX8_swords 42 = .ok (.ifCond .eq 17, 3) := by decide +kernel
theorem dX8_swords_45 : decode cX8_swords 45 = .ok (.aload_n 0, 1) := by decide +kernel
theorem dX8_swords_46 : decode cX8_swords 46 = .ok (.getfield 10, 3) := by decide +kernel
theorem dX8_swords_49 : decode cX8_swords 49 = .ok (.aload 4, 2) := by decide +kernel
theorem dX8_swords_51 : decode cX8_swords 51 = .ok (.iload_n 2, 1) := by decide +kernel
theorem dX8_swords_52 : decode cX8_swords 52 = .ok (.iload_n 3, 1) := by decide +kernel
theorem dX8_swords_53 : decode cX8_swords 53 = .ok (.invokevirtual 93, 3) := by decide +kernel
theorem dX8_swords_56 : decode cX8_swords 56 = .ok (.goto 5, 3) := by decide +kernel
theorem dX8_swords_59 : decode cX8_swords 59 = .ok (.bipush (-12), 2) := by decide +kernel
theorem dX8_swords_61 : decode cX8_swords 61 = .ok (.ireturn, 1) := by decide +kernel
theorem dX8_mend_0 : decode cX8_mend 0 = .ok (.aload_n 0, 1) := by decide +kernel
theorem dX8_mend_1 : decode cX8_mend 1 = .ok (.iload_n 1, 1) := by decide +kernel
theorem dX8_mend_2 : decode cX8_mend 2 = .ok (.iload_n 2, 1) := by decide +kernel
theorem dX8_mend_3 : decode cX8_mend 3 = .ok (.invokevirtual 97, 3) := by decide +kernel
theorem dX8_mend_6 : decode cX8_mend 6 = .ok (.ifCond .eq 16, 3) := by decide +kernel
theorem dX8_mend_9 : decode cX8_mend 9 = .ok (.iload_n 3, 1) := by decide +kernel
theorem dX8_mend_10 : decode cX8_mend 10 = .ok (.iconst 0, 1) := by decide +kernel
theorem dX8_mend_11 : decode cX8_mend 11 = .ok (.getstatic 101, 3) := by decide +kernel
theorem dX8_mend_14 : decode cX8_mend 14 = .ok (.iload_n 2, 1) := by decide +kernel
theorem dX8_mend_15 : decode cX8_mend 15 = .ok (.iaload, 1) := by decide +kernel
theorem dX8_mend_16 : decode cX8_mend 16 = .ok (.invokestatic 83, 3) := by decide +kernel
theorem dX8_mend_19 : decode cX8_mend 19 = .ok (.ifCond .ne 5, 3) := by decide +kernel
theorem dX8_mend_22 : decode cX8_mend 22 = .ok (.iconst (-1), 1) := by decide +kernel
theorem dX8_mend_23 : decode cX8_mend 23 = .ok (.ireturn, 1) := by decide +kernel
theorem dX8_mend_24 : decode cX8_mend 24 = .ok (.iload_n 2, 1) := by decide +kernel
theorem dX8_mend_25 : decode cX8_mend 25 = .ok (.ifCond .ne 17, 3) := by decide +kernel
theorem dX8_mend_28 : decode cX8_mend 28 = .ok (.aload_n 0, 1) := by decide +kernel
theorem dX8_mend_29 : decode cX8_mend 29 = .ok (.getfield 10, 3) := by decide +kernel
theorem dX8_mend_32 : decode cX8_mend 32 = .ok (.iload_n 3, 1) := by decide +kernel
theorem dX8_mend_33 : decode cX8_mend 33 = .ok (.iload_n 1, 1) := by decide +kernel
theorem dX8_mend_34 : decode cX8_mend 34 = .ok (.invokevirtual 105, 3) := by decide +kernel
theorem dX8_mend_37 : decode cX8_mend 37 = .ok (.ifCond .eq 5, 3) := by decide +kernel
theorem dX8_mend_40 : decode cX8_mend 40 = .ok (.iconst (-1), 1) := by decide +kernel
theorem dX8_mend_41 : decode cX8_mend 41 = .ok (.ireturn, 1) := by decide +kernel
theorem dX8_mend_42 : decode cX8_mend 42 = .ok (.aload_n 0, 1) := by decide +kernel
theorem dX8_mend_43 : decode cX8_mend 43 = .ok (.getfield 10, 3) := by decide +kernel
theorem dX8_mend_46 : decode cX8_mend 46 = .ok (.iload_n 1, 1) := by decide +kernel
theorem dX8_mend_47 : decode cX8_mend 47 = .ok (.iload_n 2, 1) := by decide +kernel
theorem dX8_mend_48 : decode cX8_mend 48 = .ok (.invokevirtual 108, 3) := by decide +kernel
theorem dX8_mend_51 : decode cX8_mend 51 = .ok (.istore 4, 2) := by decide +kernel
theorem dX8_mend_53 : decode cX8_mend 53 = .ok (.iload 4, 2) := by decide +kernel
theorem dX8_mend_55 : decode cX8_mend 55 = .ok (.iload_n 3, 1) := by decide +kernel
theorem dX8_mend_56 : decode cX8_mend 56 = .ok (.if_icmp .eq 25, 3) := by decide +kernel
theorem dX8_mend_59 : decode cX8_mend 59 = .ok (.aload_n 0, 1) := by decide +kernel
theorem dX8_mend_60 : decode cX8_mend 60 = .ok (.getfield 10, 3) := by decide +kernel
theorem dX8_mend_63 : decode cX8_mend 63 = .ok (.iload_n 1, 1) := by decide +kernel
theorem dX8_mend_64 : decode cX8_mend 64 = .ok (.iload_n 2, 1) := by decide +kernel
theorem dX8_mend_65 : decode cX8_mend 65 = .ok (.iload_n 3, 1) := by decide +kernel
theorem dX8_mend_66 : decode cX8_mend 66 = .ok (.invokevirtual 112, 3) := by decide +kernel
theorem dX8_mend_69 : decode cX8_mend 69 = .ok (.aload_n 0, 1) := by decide +kernel
theorem dX8_mend_70 : decode cX8_mend 70 = .ok (.getfield 42, 3) := by decide +kernel
theorem dX8_mend_73 : decode cX8_mend 73 = .ok (.iload_n 1, 1) := by decide +kernel
theorem dX8_mend_74 : decode cX8_mend 74 = .ok (.iload_n 2, 1) := by decide +kernel
theorem dX8_mend_75 : decode cX8_mend 75 = .ok (.iload 4, 2) := by decide +kernel
theorem dX8_mend_77 : decode cX8_mend 77 = .ok (.iload_n 3, 1) := by decide +kernel
theorem dX8_mend_78 : decode cX8_mend 78 = .ok (.invokevirtual 116, 3) := by decide +kernel
theorem dX8_mend_81 : decode cX8_mend 81 = .ok (.iload 4, 2) := by decide +kernel
theorem dX8_mend_83 : decode cX8_mend 83 = .ok (.ireturn, 1) := by decide +kernel
theorem dX8_of_0 : decode cX8_of 0 = .ok (.iload_n 2, 1) := by decide +kernel
theorem dX8_of_1 : decode cX8_of 1 = .ok (.bipush 8, 2) := by decide +kernel
theorem dX8_of_3 : decode cX8_of 3 = .ok (.if_icmp .ne 41, 3) := by decide +kernel
theorem dX8_of_6 : decode cX8_of 6 = .ok (.iload_n 1, 1) := by decide +kernel
theorem dX8_of_7 : decode cX8_of 7 = .ok (.invokestatic 119, 3) := by decide +kernel
theorem dX8_of_10 : decode cX8_of 10 = .ok (.ifCond .eq 32, 3) := by decide +kernel
theorem dX8_of_13 : decode cX8_of 13 = .ok (.aload_n 0, 1) := by decide +kernel
theorem dX8_of_14 : decode cX8_of 14 = .ok (.getfield 10, 3) := by decide +kernel
theorem dX8_of_17 : decode cX8_of 17 = .ok (.getfield 122, 3) := by decide +kernel
theorem dX8_of_20 : decode cX8_of 20 = .ok (.iload_n 1, 1) := by decide +kernel
theorem dX8_of_21 : decode cX8_of 21 = .ok (.iaload, 1) := by decide +kernel
theorem dX8_of_22 : decode cX8_of 22 = .ok (.ifCond .ge 8, 3) := by decide +kernel
theorem dX8_of_25 : decode cX8_of 25 = .ok (.bipush (-2), 2) := by decide +kernel
theorem dX8_of_27 : decode cX8_of 27 = .ok (.goto 16, 3) := by decide +kernel
theorem dX8_of_30 : decode cX8_of 30 = .ok (.aload_n 0, 1) := by decide +kernel
theorem dX8_of_31 : decode cX8_of 31 = .ok (.getfield 10, 3) := by decide +kernel
theorem dX8_of_34 : decode cX8_of 34 = .ok (.getfield 122, 3) := by decide +kernel
theorem dX8_of_37 : decode cX8_of 37 = .ok (.iload_n 1, 1) := by decide +kernel
theorem dX8_of_38 : decode cX8_of 38 = .ok (.iaload, 1) := by decide +kernel
theorem dX8_of_39 : decode cX8_of 39 = .ok (.goto 4, 3) := by decide +kernel
theorem dX8_of_42 : decode cX8_of 42 = .ok (.iconst (-1), 1) := by decide +kernel
theorem dX8_of_43 : decode cX8_of 43 = .ok (.ireturn, 1) := by decide +kernel
theorem dX8_of_44 : decode cX8_of 44 = .ok (.aload_n 0, 1) := by decide +kernel
theorem dX8_of_45 : decode cX8_of 45 = .ok (.iload_n 1, 1) := by decide +kernel
theorem dX8_of_46 : decode cX8_of 46 = .ok (.iload_n 2, 1) := by decide +kernel
theorem dX8_of_47 : decode cX8_of 47 = .ok (.invokevirtual 97, 3) := by decide +kernel
theorem dX8_of_50 : decode cX8_of 50 = .ok (.ifCond .eq 15, 3) := by decide +kernel
theorem dX8_of_53 : decode cX8_of 53 = .ok (.aload_n 0, 1) := by decide +kernel
theorem dX8_of_54 : decode cX8_of 54 = .ok (.getfield 10, 3) := by decide +kernel
theorem dX8_of_57 : decode cX8_of 57 = .ok (.iload_n 1, 1) := by decide +kernel
theorem dX8_of_58 : decode cX8_of 58 = .ok (.iload_n 2, 1) := by decide +kernel
theorem dX8_of_59 : decode cX8_of 59 = .ok (.invokevirtual 108, 3) := by decide +kernel
theorem dX8_of_62 : decode cX8_of 62 = .ok (.goto 4, 3) := by decide +kernel
theorem dX8_of_65 : decode cX8_of 65 = .ok (.iconst (-1), 1) := by decide +kernel
theorem dX8_of_66 : decode cX8_of 66 = .ok (.ireturn, 1) := by decide +kernel
theorem dX8_feed_0 : decode cX8_feed 0 = .ok (.iload_n 1, 1) := by decide +kernel
theorem dX8_feed_1 : decode cX8_feed 1 = .ok (.iconst 0, 1) := by decide +kernel
theorem dX8_feed_2 : decode cX8_feed 2 = .ok (.sipush 255, 3) := by decide +kernel
theorem dX8_feed_5 : decode cX8_feed 5 = .ok (.invokestatic 83, 3) := by decide +kernel
theorem dX8_feed_8 : decode cX8_feed 8 = .ok (.ifCond .ne 5, 3) := by decide +kernel
theorem dX8_feed_11 : decode cX8_feed 11 = .ok (.iconst (-1), 1) := by decide +kernel
theorem dX8_feed_12 : decode cX8_feed 12 = .ok (.ireturn, 1) := by decide +kernel
theorem dX8_feed_13 : decode cX8_feed 13 = .ok (.aload_n 0, 1) := by decide +kernel
theorem dX8_feed_14 : decode cX8_feed 14 = .ok (.getfield 26, 3) := by decide +kernel
theorem dX8_feed_17 : decode cX8_feed 17 = .ok (.iload_n 1, 1) := by decide +kernel
theorem dX8_feed_18 : decode cX8_feed 18 = .ok (.invokevirtual 125, 3) := by decide +kernel
theorem dX8_feed_21 : decode cX8_feed 21 = .ok (.ifCond .eq 13, 3) := by decide +kernel
theorem dX8_feed_24 : decode cX8_feed 24 = .ok (.aload_n 0, 1) := by decide +kernel
theorem dX8_feed_25 : decode cX8_feed 25 = .ok (.getfield 26, 3) := by decide +kernel
theorem dX8_feed_28 : decode cX8_feed 28 = .ok (.getfield 127, 3) := by decide +kernel
theorem dX8_feed_31 : decode cX8_feed 31 = .ok (.goto 5, 3) := by decide +kernel
theorem dX8_feed_34 : decode cX8_feed 34 = .ok (.bipush (-3), 2) := by decide +kernel
theorem dX8_feed_36 : decode cX8_feed 36 = .ok (.ireturn, 1) := by decide +kernel
theorem dX8_law_0 : decode cX8_law 0 = .ok (.aload_n 0, 1) := by decide +kernel
theorem dX8_law_1 : decode cX8_law 1 = .ok (.getfield 26, 3) := by decide +kernel
theorem dX8_law_4 : decode cX8_law 4 = .ok (.invokevirtual 130, 3) := by decide +kernel
theorem dX8_law_7 : decode cX8_law 7 = .ok (.istore_n 1, 1) := by decide +kernel
theorem dX8_law_8 : decode cX8_law 8 = .ok (.aload_n 0, 1) := by decide +kernel
theorem dX8_law_9 : decode cX8_law 9 = .ok (.getfield 26, 3) := by decide +kernel
theorem dX8_law_12 : decode cX8_law 12 = .ok (.iconst 0, 1) := by decide +kernel
theorem dX8_law_13 : decode cX8_law 13 = .ok (.putfield 127, 3) := by decide +kernel
theorem dX8_law_16 : decode cX8_law 16 = .ok (.iload_n 1, 1) := by decide +kernel
theorem dX8_law_17 : decode cX8_law 17 = .ok (.ifCond .lt 8, 3) := by decide +kernel
theorem dX8_law_20 : decode cX8_law 20 = .ok (.bipush (-100), 2) := by decide +kernel
theorem dX8_law_22 : decode cX8_law 22 = .ok (.iload_n 1, 1) := by decide +kernel
theorem dX8_law_23 : decode cX8_law 23 = .ok (.isub, 1) := by decide +kernel
theorem dX8_law_24 : decode cX8_law 24 = .ok (.ireturn, 1) := by decide +kernel
theorem dX8_law_25 : decode cX8_law 25 = .ok (.aload_n 0, 1) := by decide +kernel
theorem dX8_law_26 : decode cX8_law 26 = .ok (.getfield 19, 3) := by decide +kernel
theorem dX8_law_29 : decode cX8_law 29 = .ok (.aload_n 0, 1) := by decide +kernel
theorem dX8_law_30 : decode cX8_law 30 = .ok (.getfield 26, 3) := by decide +kernel
theorem dX8_law_33 : decode cX8_law 33 = .ok (.getfield 134, 3) := by decide +kernel
theorem dX8_law_36 : decode cX8_law 36 = .ok (.invokevirtual 137, 3) := by decide +kernel
theorem dX8_law_39 : decode cX8_law 39 = .ok (.iconst 1, 1) := by decide +kernel
theorem dX8_law_40 : decode cX8_law 40 = .ok (.ireturn, 1) := by decide +kernel
theorem dX8_grows_0 : decode cX8_grows 0 = .ok (.aload_n 0, 1) := by decide +kernel
theorem dX8_grows_1 : decode cX8_grows 1 = .ok (.iload_n 1, 1) := by decide +kernel
theorem dX8_grows_2 : decode cX8_grows 2 = .ok (.invokevirtual 141, 3) := by decide +kernel
theorem dX8_grows_5 : decode cX8_grows 5 = .ok (.ifCond .eq 18, 3) := by decide +kernel
theorem dX8_grows_8 : decode cX8_grows 8 = .ok (.aload_n 0, 1) := by decide +kernel
theorem dX8_grows_9 : decode cX8_grows 9 = .ok (.getfield 10, 3) := by decide +kernel
theorem dX8_grows_12 : decode cX8_grows 12 = .ok (.aload_n 0, 1) := by decide +kernel
theorem dX8_grows_13 : decode cX8_grows 13 = .ok (.getfield 19, 3) := by decide +kernel
theorem dX8_grows_16 : decode cX8_grows 16 = .ok (.iload_n 1, 1) := by decide +kernel
theorem dX8_grows_17 : decode cX8_grows 17 = .ok (.invokevirtual 144, 3) := by decide +kernel
theorem dX8_grows_20 : decode cX8_grows 20 = .ok (.goto 5, 3) := by decide +kernel
theorem dX8_grows_23 : decode cX8_grows 23 = .ok (.ldc 148, 2) := by decide +kernel
theorem dX8_grows_25 : decode cX8_grows 25 = .ok (.ireturn, 1) := by decide +kernel
theorem dX8_later_0 : decode cX8_later 0 = .ok (.iload_n 1, 1) := by decide +kernel
theorem dX8_later_1 : decode cX8_later 1 = .ok (.invokestatic 79, 3) := by decide +kernel
theorem dX8_later_4 : decode cX8_later 4 = .ok (.ifCond .eq 21, 3) := by decide +kernel
theorem dX8_later_7 : decode cX8_later 7 = .ok (.iload_n 2, 1) := by decide +kernel
theorem dX8_later_8 : decode cX8_later 8 = .ok (.iconst 0, 1) := by decide +kernel
theorem dX8_later_9 : decode cX8_later 9 = .ok (.bipush 24, 2) := by decide +kernel
theorem dX8_later_11 : decode cX8_later 11 = .ok (.invokestatic 83, 3) := by decide +kernel
theorem dX8_later_14 : decode cX8_later 14 = .ok (.ifCond .eq 11, 3) := by decide +kernel
theorem dX8_later_17 : decode cX8_later 17 = .ok (.aload_n 0, 1) := by decide +kernel
theorem dX8_later_18 : decode cX8_later 18 = .ok (.iload_n 3, 1) := by decide +kernel
theorem dX8_later_19 : decode cX8_later 19 = .ok (.invokevirtual 141, 3) := by decide +kernel
theorem dX8_later_22 : decode cX8_later 22 = .ok (.ifCond .ne 5, 3) := by decide +kernel
theorem dX8_later_25 : decode cX8_later 25 = .ok (.iconst (-1), 1) := by decide +kernel
theorem dX8_later_26 : decode cX8_later 26 = .ok (.ireturn, 1) := by decide +kernel
theorem dX8_later_27 : decode cX8_later 27 = .ok (.aload_n 0, 1) := by decide +kernel
theorem dX8_later_28 : decode cX8_later 28 = .ok (.getfield 62, 3) := by decide +kernel
theorem dX8_later_31 : decode cX8_later 31 = .ok (.iload_n 1, 1) := by decide +kernel
theorem dX8_later_32 : decode cX8_later 32 = .ok (.aaload, 1) := by decide +kernel
theorem dX8_later_33 : decode cX8_later 33 = .ok (.invokestatic 149, 3) := by decide +kernel
theorem dX8_later_36 : decode cX8_later 36 = .ok (.istore 4, 2) := by decide +kernel
theorem dX8_later_38 : decode cX8_later 38 = .ok (.iload 4, 2) := by decide +kernel
theorem dX8_later_40 : decode cX8_later 40 = .ok (.ifCond .eq 8, 3) := by decide +kernel
theorem dX8_later_43 : decode cX8_later 43 = .ok (.iload 4, 2) := by decide +kernel
theorem dX8_later_45 : decode cX8_later 45 = .ok (.goto 22, 3) := by decide +kernel
theorem dX8_later_48 : decode cX8_later 48 = .ok (.aload_n 0, 1) := by decide +kernel
theorem dX8_later_49 : decode cX8_later 49 = .ok (.getfield 35, 3) := by decide +kernel
theorem dX8_later_52 : decode cX8_later 52 = .ok (.aload_n 0, 1) := by decide +kernel
theorem dX8_later_53 : decode cX8_later 53 = .ok (.getfield 62, 3) := by decide +kernel
theorem dX8_later_56 : decode cX8_later 56 = .ok (.iload_n 1, 1) := by decide +kernel
theorem dX8_later_57 : decode cX8_later 57 = .ok (.aaload, 1) := by decide +kernel
theorem dX8_later_58 : decode cX8_later 58 = .ok (.iload_n 2, 1) := by decide +kernel
theorem dX8_later_59 : decode cX8_later 59 = .ok (.invokevirtual 153, 3) := by decide +kernel
theorem dX8_later_62 : decode cX8_later 62 = .ok (.getfield 157, 3) := by decide +kernel
theorem dX8_later_65 : decode cX8_later 65 = .ok (.iload_n 3, 1) := by decide +kernel
theorem dX8_later_66 : decode cX8_later 66 = .ok (.iaload, 1) := by decide +kernel
theorem dX8_later_67 : decode cX8_later 67 = .ok (.ireturn, 1) := by decide +kernel
theorem dX8_awake_0 : decode cX8_awake 0 = .ok (.iload_n 1, 1) := by decide +kernel
theorem dX8_awake_1 : decode cX8_awake 1 = .ok (.invokestatic 79, 3) := by decide +kernel
theorem dX8_awake_4 : decode cX8_awake 4 = .ok (.ifCond .eq 22, 3) := by decide +kernel
theorem dX8_awake_7 : decode cX8_awake 7 = .ok (.iload_n 2, 1) := by decide +kernel
theorem dX8_awake_8 : decode cX8_awake 8 = .ok (.iconst 0, 1) := by decide +kernel
theorem dX8_awake_9 : decode cX8_awake 9 = .ok (.bipush 24, 2) := by decide +kernel
theorem dX8_awake_11 : decode cX8_awake 11 = .ok (.invokestatic 83, 3) := by decide +kernel
theorem dX8_awake_14 : decode cX8_awake 14 = .ok (.ifCond .eq 12, 3) := by decide +kernel
theorem dX8_awake_17 : decode cX8_awake 17 = .ok (.iload_n 3, 1) := by decide +kernel
theorem dX8_awake_18 : decode cX8_awake 18 = .ok (.iconst 0, 1) := by decide +kernel
theorem dX8_awake_19 : decode cX8_awake 19 = .ok (.iconst 1, 1) := by decide +kernel
theorem dX8_awake_20 : decode cX8_awake 20 = .ok (.invokestatic 83, 3) := by decide +kernel
theorem dX8_awake_23 : decode cX8_awake 23 = .ok (.ifCond .ne 5, 3) := by decide +kernel
theorem dX8_awake_26 : decode cX8_awake 26 = .ok (.iconst (-1), 1) := by decide +kernel
theorem dX8_awake_27 : decode cX8_awake 27 = .ok (.ireturn, 1) := by decide +kernel
theorem dX8_awake_28 : decode cX8_awake 28 = .ok (.aload_n 0, 1) := by decide +kernel
theorem dX8_awake_29 : decode cX8_awake 29 = .ok (.getfield 62, 3) := by decide +kernel
theorem dX8_awake_32 : decode cX8_awake 32 = .ok (.iload_n 1, 1) := by decide +kernel
theorem dX8_awake_33 : decode cX8_awake 33 = .ok (.aaload, 1) := by decide +kernel
theorem dX8_awake_34 : decode cX8_awake 34 = .ok (.invokestatic 149, 3) := by decide +kernel
theorem dX8_awake_37 : decode cX8_awake 37 = .ok (.istore 4, 2) := by decide +kernel
theorem dX8_awake_39 : decode cX8_awake 39 = .ok (.iload 4, 2) := by decide +kernel
theorem dX8_awake_41 : decode cX8_awake 41 = .ok (.ifCond .eq 6, 3) := by decide +kernel
theorem dX8_awake_44 : decode cX8_awake 44 = .ok (.iload 4, 2) := by decide +kernel
theorem dX8_awake_46 : decode cX8_awake 46 = .ok (.ireturn, 1) := by decide +kernel
theorem dX8_awake_47 : decode cX8_awake 47 = .ok (.aload_n 0, 1) := by decide +kernel
theorem dX8_awake_48 : decode cX8_awake 48 = .ok (.getfield 35, 3) := by decide +kernel
theorem dX8_awake_51 : decode cX8_awake 51 = .ok (.aload_n 0, 1) := by decide +kernel
theorem dX8_awake_52 : decode cX8_awake 52 = .ok (.getfield 62, 3) := by decide +kernel
theorem dX8_awake_55 : decode cX8_awake 55 = .ok (.iload_n 1, 1) := by decide +kernel
theorem dX8_awake_56 : decode cX8_awake 56 = .ok (.aaload, 1) := by decide +kernel
theorem dX8_awake_57 : decode cX8_awake 57 = .ok (.iload_n 2, 1) := by decide +kernel
theorem dX8_awake_58 : decode cX8_awake 58 = .ok (.invokevirtual 153, 3) := by decide +kernel
theorem dX8_awake_61 : decode cX8_awake 61 = .ok (.astore 5, 2) := by decide +kernel
theorem dX8_awake_63 : decode cX8_awake 63 = .ok (.iload_n 3, 1) := by decide +kernel
theorem dX8_awake_64 : decode cX8_awake 64 = .ok (.ifCond .ne 11, 3) := by decide +kernel
theorem dX8_awake_67 : decode cX8_awake 67 = .ok (.aload 5, 2) := by decide +kernel
theorem dX8_awake_69 : decode cX8_awake 69 = .ok (.invokevirtual 160, 3) := by decide +kernel
theorem dX8_awake_72 : decode cX8_awake 72 = .ok (.goto 8, 3) := by decide +kernel
theorem dX8_awake_75 : decode cX8_awake 75 = .ok (.aload 5, 2) := by decide +kernel
theorem dX8_awake_77 : decode cX8_awake 77 = .ok (.invokevirtual 163, 3) := by decide +kernel
theorem dX8_awake_80 : decode cX8_awake 80 = .ok (.ireturn, 1) := by decide +kernel
theorem dX8_cries_0 : decode cX8_cries 0 = .ok (.iload_n 1, 1) := by decide +kernel
theorem dX8_cries_1 : decode cX8_cries 1 = .ok (.invokestatic 79, 3) := by decide +kernel
theorem dX8_cries_4 : decode cX8_cries 4 = .ok (.ifCond .eq 21, 3) := by decide +kernel
theorem dX8_cries_7 : decode cX8_cries 7 = .ok (.aload_n 0, 1) := by decide +kernel
theorem dX8_cries_8 : decode cX8_cries 8 = .ok (.iload_n 2, 1) := by decide +kernel
theorem dX8_cries_9 : decode cX8_cries 9 = .ok (.invokevirtual 141, 3) := by decide +kernel
theorem dX8_cries_12 : decode cX8_cries 12 = .ok (.ifCond .eq 13, 3) := by decide +kernel
theorem dX8_cries_15 : decode cX8_cries 15 = .ok (.iload_n 3, 1) := by decide +kernel
theorem dX8_cries_16 : decode cX8_cries 16 = .ok (.iconst 0, 1) := by decide +kernel
theorem dX8_cries_17 : decode cX8_cries 17 = .ok (.bipush 99, 2) := by decide +kernel
theorem dX8_cries_19 : decode cX8_cries 19 = .ok (.invokestatic 83, 3) := by decide +kernel
theorem dX8_cries_22 : decode cX8_cries 22 = .ok (.ifCond .ne 5, 3) := by decide +kernel
theorem dX8_cries_25 : decode cX8_cries 25 = .ok (.iconst (-1), 1) := by decide +kernel
theorem dX8_cries_26 : decode cX8_cries 26 = .ok (.ireturn, 1) := by decide +kernel
theorem dX8_cries_27 : decode cX8_cries 27 = .ok (.aload_n 0, 1) := by decide +kernel
theorem dX8_cries_28 : decode cX8_cries 28 = .ok (.getfield 62, 3) := by decide +kernel
theorem dX8_cries_31 : decode cX8_cries 31 = .ok (.iload_n 1, 1) := by decide +kernel
theorem dX8_cries_32 : decode cX8_cries 32 = .ok (.aaload, 1) := by decide +kernel
theorem dX8_cries_33 : decode cX8_cries 33 = .ok (.invokestatic 149, 3) := by decide +kernel
theorem dX8_cries_36 : decode cX8_cries 36 = .ok (.istore 4, 2) := by decide +kernel
theorem dX8_cries_38 : decode cX8_cries 38 = .ok (.iload 4, 2) := by decide +kernel
theorem dX8_cries_40 : decode cX8_cries 40 = .ok (.ifCond .eq 8, 3) := by decide +kernel
theorem dX8_cries_43 : decode cX8_cries 43 = .ok (.iload 4, 2) := by decide +kernel
theorem dX8_cries_45 : decode cX8_cries 45 = .ok (.goto 18, 3) := by decide +kernel
theorem dX8_cries_48 : decode cX8_cries 48 = .ok (.aload_n 0, 1) := by decide +kernel
theorem dX8_cries_49 : decode cX8_cries 49 = .ok (.getfield 35, 3) := by decide +kernel
theorem dX8_cries_52 : decode cX8_cries 52 = .ok (.aload_n 0, 1) := by decide +kernel
theorem dX8_cries_53 : decode cX8_cries 53 = .ok (.getfield 62, 3) := by decide +kernel
theorem dX8_cries_56 : decode cX8_cries 56 = .ok (.iload_n 1, 1) := by decide +kernel
theorem dX8_cries_57 : decode cX8_cries 57 = .ok (.aaload, 1) := by decide +kernel
theorem dX8_cries_58 : decode cX8_cries 58 = .ok (.iload_n 2, 1) := by decide +kernel
theorem dX8_cries_59 : decode cX8_cries 59 = .ok (.iload_n 3, 1) := by decide +kernel
theorem dX8_cries_60 : decode cX8_cries 60 = .ok (.invokevirtual 166, 3) := by decide +kernel
theorem dX8_cries_63 : decode cX8_cries 63 = .ok (.ireturn, 1) := by decide +kernel
theorem dX8_asleep_0 : decode cX8_asleep 0 = .ok (.iload_n 1, 1) := by decide +kernel
theorem dX8_asleep_1 : decode cX8_asleep 1 = .ok (.invokestatic 79, 3) := by decide +kernel
theorem dX8_asleep_4 : decode cX8_asleep 4 = .ok (.ifCond .ne 5, 3) := by decide +kernel
theorem dX8_asleep_7 : decode cX8_asleep 7 = .ok (.iconst (-1), 1) := by decide +kernel
theorem dX8_asleep_8 : decode cX8_asleep 8 = .ok (.ireturn, 1) := by decide +kernel
theorem dX8_asleep_9 : decode cX8_asleep 9 = .ok (.aload_n 0, 1) := by decide +kernel
theorem dX8_asleep_10 : decode cX8_asleep 10 = .ok (.getfield 62, 3) := by decide +kernel
theorem dX8_asleep_13 : decode cX8_asleep 13 = .ok (.iload_n 1, 1) := by decide +kernel
theorem dX8_asleep_14 : decode cX8_asleep 14 = .ok (.aaload, 1) := by decide +kernel
theorem dX8_asleep_15 : decode cX8_asleep 15 = .ok (.invokestatic 149, 3) := by decide +kernel
theorem dX8_asleep_18 : decode cX8_asleep 18 = .ok (.istore_n 2, 1) := by decide +kernel
theorem dX8_asleep_19 : decode cX8_asleep 19 = .ok (.iload_n 2, 1) := by decide +kernel
theorem dX8_asleep_20 : decode cX8_asleep 20 = .ok (.ifCond .eq 7, 3) := by decide +kernel
theorem dX8_asleep_23 : decode cX8_asleep 23 = .ok (.iload_n 2, 1) := by decide +kernel
theorem dX8_asleep_24 : decode cX8_asleep 24 = .ok (.goto 16, 3) := by decide +kernel
theorem dX8_asleep_27 : decode cX8_asleep 27 = .ok (.aload_n 0, 1) := by decide +kernel
theorem dX8_asleep_28 : decode cX8_asleep 28 = .ok (.getfield 35, 3) := by decide +kernel
theorem dX8_asleep_31 : decode cX8_asleep 31 = .ok (.aload_n 0, 1) := by decide +kernel
theorem dX8_asleep_32 : decode cX8_asleep 32 = .ok (.getfield 62, 3) := by decide +kernel
theorem dX8_asleep_35 : decode cX8_asleep 35 = .ok (.iload_n 1, 1) := by decide +kernel
theorem dX8_asleep_36 : decode cX8_asleep 36 = .ok (.aaload, 1) := by decide +kernel
theorem dX8_asleep_37 : decode cX8_asleep 37 = .ok (.invokevirtual 169, 3) := by decide +kernel
theorem dX8_asleep_40 : decode cX8_asleep 40 = .ok (.ireturn, 1) := by decide +kernel
theorem dX8_bestRound_0 : decode cX8_bestRound 0 = .ok (.iload_n 1, 1) := by decide +kernel
theorem dX8_bestRound_1 : decode cX8_bestRound 1 = .ok (.iconst 0, 1) := by decide +kernel
theorem dX8_bestRound_2 : decode cX8_bestRound 2 = .ok (.iconst 3, 1) := by decide +kernel
theorem dX8_bestRound_3 : decode cX8_bestRound 3 = .ok (.invokestatic 83, 3) := by decide +kernel
theorem dX8_bestRound_6 : decode cX8_bestRound 6 = .ok (.ifCond .eq 15, 3) := by decide +kernel
theorem dX8_bestRound_9 : decode cX8_bestRound 9 = .ok (.iload_n 2, 1) := by decide +kernel
theorem dX8_bestRound_10 : decode cX8_bestRound 10 = .ok (.bipush (-2), 2) := by decide +kernel
theorem dX8_bestRound_12 : decode cX8_bestRound 12 = .ok (.iload_n 1, 1) := by decide +kernel
theorem dX8_bestRound_13 : decode cX8_bestRound 13 = .ok (.iconst 1, 1) := by decide +kernel
theorem dX8_bestRound_14 : decode cX8_bestRound 14 = .ok (.isub, 1) := by decide +kernel
theorem dX8_bestRound_15 : decode cX8_bestRound 15 = .ok (.invokestatic 83, 3) := by decide +kernel
theorem dX8_bestRound_18 : decode cX8_bestRound 18 = .ok (.ifCond .ne 5, 3) := by decide +kernel
theorem dX8_bestRound_21 : decode cX8_bestRound 21 = .ok (.iconst (-1), 1) := by decide +kernel
theorem dX8_bestRound_22 : decode cX8_bestRound 22 = .ok (.ireturn, 1) := by decide +kernel
theorem dX8_bestRound_23 : decode cX8_bestRound 23 = .ok (.aload_n 0, 1) := by decide +kernel
theorem dX8_bestRound_24 : decode cX8_bestRound 24 = .ok (.getfield 35, 3) := by decide +kernel
theorem dX8_bestRound_27 : decode cX8_bestRound 27 = .ok (.iload_n 1, 1) := by decide +kernel
theorem dX8_bestRound_28 : decode cX8_bestRound 28 = .ok (.invokevirtual 172, 3) := by decide +kernel
theorem dX8_bestRound_31 : decode cX8_bestRound 31 = .ok (.iload_n 2, 1) := by decide +kernel
theorem dX8_bestRound_32 : decode cX8_bestRound 32 = .ok (.iconst (-1), 1) := by decide +kernel
theorem dX8_bestRound_33 : decode cX8_bestRound 33 = .ok (.if_icmp .ne 11, 3) := by decide +kernel
theorem dX8_bestRound_36 : decode cX8_bestRound 36 = .ok (.aload_n 0, 1) := by decide +kernel
theorem dX8_bestRound_37 : decode cX8_bestRound 37 = .ok (.getfield 35, 3) := by decide +kernel
theorem dX8_bestRound_40 : decode cX8_bestRound 40 = .ok (.getfield 176, 3) := by decide +kernel
theorem dX8_bestRound_43 : decode cX8_bestRound 43 = .ok (.ireturn, 1) := by decide +kernel
theorem dX8_bestRound_44 : decode cX8_bestRound 44 = .ok (.iload_n 2, 1) := by decide +kernel
theorem dX8_bestRound_45 : decode cX8_bestRound 45 = .ok (.bipush (-2), 2) := by decide +kernel
theorem dX8_bestRound_47 : decode cX8_bestRound 47 = .ok (.if_icmp .ne 13, 3) := by decide +kernel
theorem dX8_bestRound_50 : decode cX8_bestRound 50 = .ok (.aload_n 0, 1) := by decide +kernel
theorem dX8_bestRound_51 : decode cX8_bestRound 51 = .ok (.getfield 35, 3) := by decide +kernel
theorem dX8_bestRound_54 : decode cX8_bestRound 54 = .ok (.getfield 179, 3) := by decide +kernel
theorem dX8_bestRound_57 : decode cX8_bestRound 57 = .ok (.goto 12, 3) := by decide +kernel
theorem dX8_bestRound_60 : decode cX8_bestRound 60 = .ok (.aload_n 0, 1) := by decide +kernel
theorem dX8_bestRound_61 : decode cX8_bestRound 61 = .ok (.getfield 35, 3) := by decide +kernel
theorem dX8_bestRound_64 : decode cX8_bestRound 64 = .ok (.getfield 182, 3) := by decide +kernel
theorem dX8_bestRound_67 : decode cX8_bestRound 67 = .ok (.iload_n 2, 1) := by decide +kernel
theorem dX8_bestRound_68 : decode cX8_bestRound 68 = .ok (.iaload, 1) := by decide +kernel
theorem dX8_bestRound_69 : decode cX8_bestRound 69 = .ok (.ireturn, 1) := by decide +kernel
theorem dX8_told_0 : decode cX8_told 0 = .ok (.iload_n 1, 1) := by decide +kernel
theorem dX8_told_1 : decode cX8_told 1 = .ok (.iconst 0, 1) := by decide +kernel
theorem dX8_told_2 : decode cX8_told 2 = .ok (.iconst 1, 1) := by decide +kernel
theorem dX8_told_3 : decode cX8_told 3 = .ok (.invokestatic 83, 3) := by decide +kernel
theorem dX8_told_6 : decode cX8_told 6 = .ok (.ifCond .ne 5, 3) := by decide +kernel
theorem dX8_told_9 : decode cX8_told 9 = .ok (.iconst (-1), 1) := by decide +kernel
theorem dX8_told_10 : decode cX8_told 10 = .ok (.ireturn, 1) := by decide +kernel
theorem dX8_told_11 : decode cX8_told 11 = .ok (.aload_n 0, 1) := by decide +kernel
theorem dX8_told_12 : decode cX8_told 12 = .ok (.getfield 10, 3) := by decide +kernel
theorem dX8_told_15 : decode cX8_told 15 = .ok (.invokevirtual 185, 3) := by decide +kernel
theorem dX8_told_18 : decode cX8_told 18 = .ok (.ifCond .eq 27, 3) := by decide +kernel
theorem dX8_told_21 : decode cX8_told 21 = .ok (.iload_n 1, 1) := by decide +kernel
theorem dX8_told_22 : decode cX8_told 22 = .ok (.ifCond .ne 13, 3) := by decide +kernel
theorem dX8_told_25 : decode cX8_told 25 = .ok (.aload_n 0, 1) := by decide +kernel
theorem dX8_told_26 : decode cX8_told 26 = .ok (.getfield 10, 3) := by decide +kernel
theorem dX8_told_29 : decode cX8_told 29 = .ok (.invokevirtual 188, 3) := by decide +kernel
theorem dX8_told_32 : decode cX8_told 32 = .ok (.goto 15, 3) := by decide +kernel
theorem dX8_told_35 : decode cX8_told 35 = .ok (.aload_n 0, 1) := by decide +kernel
theorem dX8_told_36 : decode cX8_told 36 = .ok (.getfield 10, 3) := by decide +kernel
theorem dX8_told_39 : decode cX8_told 39 = .ok (.invokevirtual 191, 3) := by decide +kernel
theorem dX8_told_42 : decode cX8_told 42 = .ok (.goto 5, 3) := by decide +kernel
theorem dX8_told_45 : decode cX8_told 45 = .ok (.bipush (-2), 2) := by decide +kernel
theorem dX8_told_47 : decode cX8_told 47 = .ok (.ireturn, 1) := by decide +kernel
theorem dX8_woken_0 : decode cX8_woken 0 = .ok (.iload_n 1, 1) := by decide +kernel
theorem dX8_woken_1 : decode cX8_woken 1 = .ok (.invokestatic 119, 3) := by decide +kernel
theorem dX8_woken_4 : decode cX8_woken 4 = .ok (.ifCond .eq 12, 3) := by decide +kernel
theorem dX8_woken_7 : decode cX8_woken 7 = .ok (.iload_n 2, 1) := by decide +kernel
theorem dX8_woken_8 : decode cX8_woken 8 = .ok (.iconst 0, 1) := by decide +kernel
theorem dX8_woken_9 : decode cX8_woken 9 = .ok (.iconst 1, 1) := by decide +kernel
theorem dX8_woken_10 : decode cX8_woken 10 = .ok (.invokestatic 83, 3) := by decide +kernel
theorem dX8_woken_13 : decode cX8_woken 13 = .ok (.ifCond .ne 5, 3) := by decide +kernel
theorem dX8_woken_16 : decode cX8_woken 16 = .ok (.iconst (-1), 1) := by decide +kernel
theorem dX8_woken_17 : decode cX8_woken 17 = .ok (.ireturn, 1) := by decide +kernel
theorem dX8_woken_18 : decode cX8_woken 18 = .ok (.aload_n 0, 1) := by decide +kernel
theorem dX8_woken_19 : decode cX8_woken 19 = .ok (.getfield 35, 3) := by decide +kernel
theorem dX8_woken_22 : decode cX8_woken 22 = .ok (.invokevirtual 194, 3) := by decide +kernel
theorem dX8_woken_25 : decode cX8_woken 25 = .ok (.astore_n 3, 1) := by decide +kernel
theorem dX8_woken_26 : decode cX8_woken 26 = .ok (.aload_n 3, 1) := by decide +kernel
theorem dX8_woken_27 : decode cX8_woken 27 = .ok (.iload_n 1, 1) := by decide +kernel
theorem dX8_woken_28 : decode cX8_woken 28 = .ok (.invokevirtual 198, 3) := by decide +kernel
theorem dX8_woken_31 : decode cX8_woken 31 = .ok (.istore 4, 2) := by decide +kernel
theorem dX8_woken_33 : decode cX8_woken 33 = .ok (.iload_n 2, 1) := by decide +kernel
theorem dX8_woken_34 : decode cX8_woken 34 = .ok (.ifCond .ne 10, 3) := by decide +kernel
theorem dX8_woken_37 : decode cX8_woken 37 = .ok (.aload_n 3, 1) := by decide +kernel
theorem dX8_woken_38 : decode cX8_woken 38 = .ok (.getfield 202, 3) := by decide +kernel
theorem dX8_woken_41 : decode cX8_woken 41 = .ok (.goto 5, 3) := by decide +kernel
theorem dX8_woken_44 : decode cX8_woken 44 = .ok (.iload 4, 2) := by decide +kernel
theorem dX8_woken_46 : decode cX8_woken 46 = .ok (.ireturn, 1) := by decide +kernel
theorem dX8_walk_0 : decode cX8_walk 0 = .ok (.iload_n 1, 1) := by decide +kernel
theorem dX8_walk_1 : decode cX8_walk 1 = .ok (.iconst 0, 1) := by decide +kernel
theorem dX8_walk_2 : decode cX8_walk 2 = .ok (.iconst 2, 1) := by decide +kernel
theorem dX8_walk_3 : decode cX8_walk 3 = .ok (.invokestatic 83, 3) := by decide +kernel
theorem dX8_walk_6 : decode cX8_walk 6 = .ok (.ifCond .ne 5, 3) := by decide +kernel
theorem dX8_walk_9 : decode cX8_walk 9 = .ok (.iconst (-1), 1) := by decide +kernel
theorem dX8_walk_10 : decode cX8_walk 10 = .ok (.ireturn, 1) := by decide +kernel
theorem dX8_walk_11 : decode cX8_walk 11 = .ok (.iload_n 1, 1) := by decide +kernel
theorem dX8_walk_12 : decode cX8_walk 12 = .ok (.iconst 2, 1) := by decide +kernel
theorem dX8_walk_13 : decode cX8_walk 13 = .ok (.if_icmp .ne 11, 3) := by decide +kernel
theorem dX8_walk_16 : decode cX8_walk 16 = .ok (.aload_n 0, 1) := by decide +kernel
theorem dX8_walk_17 : decode cX8_walk 17 = .ok (.getfield 35, 3) := by decide +kernel
theorem dX8_walk_20 : decode cX8_walk 20 = .ok (.invokevirtual 205, 3) := by decide +kernel
theorem dX8_walk_23 : decode cX8_walk 23 = .ok (.ireturn, 1) := by decide +kernel
theorem dX8_walk_24 : decode cX8_walk 24 = .ok (.aload_n 0, 1) := by decide +kernel
theorem dX8_walk_25 : decode cX8_walk 25 = .ok (.getfield 10, 3) := by decide +kernel
theorem dX8_walk_28 : decode cX8_walk 28 = .ok (.invokevirtual 208, 3) := by decide +kernel
theorem dX8_walk_31 : decode cX8_walk 31 = .ok (.istore_n 2, 1) := by decide +kernel
theorem dX8_walk_32 : decode cX8_walk 32 = .ok (.iload_n 2, 1) := by decide +kernel
theorem dX8_walk_33 : decode cX8_walk 33 = .ok (.ifCond .ge 6, 3) := by decide +kernel
theorem dX8_walk_36 : decode cX8_walk 36 = .ok (.bipush (-2), 2) := by decide +kernel
theorem dX8_walk_38 : decode cX8_walk 38 = .ok (.ireturn, 1) := by decide +kernel
theorem dX8_walk_39 : decode cX8_walk 39 = .ok (.iload_n 1, 1) := by decide +kernel
theorem dX8_walk_40 : decode cX8_walk 40 = .ok (.ifCond .ne 17, 3) := by decide +kernel
theorem dX8_walk_43 : decode cX8_walk 43 = .ok (.aload_n 0, 1) := by decide +kernel
theorem dX8_walk_44 : decode cX8_walk 44 = .ok (.getfield 10, 3) := by decide +kernel
theorem dX8_walk_47 : decode cX8_walk 47 = .ok (.getfield 211, 3) := by decide +kernel
theorem dX8_walk_50 : decode cX8_walk 50 = .ok (.iload_n 2, 1) := by decide +kernel
theorem dX8_walk_51 : decode cX8_walk 51 = .ok (.invokestatic 214, 3) := by decide +kernel
theorem dX8_walk_54 : decode cX8_walk 54 = .ok (.goto 4, 3) := by decide +kernel
theorem dX8_walk_57 : decode cX8_walk 57 = .ok (.iload_n 2, 1) := by decide +kernel
theorem dX8_walk_58 : decode cX8_walk 58 = .ok (.ireturn, 1) := by decide +kernel
theorem dX8_judge_0 : decode cX8_judge 0 = .ok (.iload_n 1, 1) := by decide +kernel
theorem dX8_judge_1 : decode cX8_judge 1 = .ok (.invokestatic 217, 3) := by decide +kernel
theorem dX8_judge_4 : decode cX8_judge 4 = .ok (.ifCond .eq 11, 3) := by decide +kernel
theorem dX8_judge_7 : decode cX8_judge 7 = .ok (.aload_n 0, 1) := by decide +kernel
theorem dX8_judge_8 : decode cX8_judge 8 = .ok (.iload_n 2, 1) := by decide +kernel
theorem dX8_judge_9 : decode cX8_judge 9 = .ok (.invokevirtual 141, 3) := by decide +kernel
theorem dX8_judge_12 : decode cX8_judge 12 = .ok (.ifCond .ne 5, 3) := by decide +kernel
theorem dX8_judge_15 : decode cX8_judge 15 = .ok (.iconst (-1), 1) := by decide +kernel
theorem dX8_judge_16 : decode cX8_judge 16 = .ok (.ireturn, 1) := by decide +kernel
theorem dX8_judge_17 : decode cX8_judge 17 = .ok (.aload_n 0, 1) := by decide +kernel
theorem dX8_judge_18 : decode cX8_judge 18 = .ok (.iload_n 1, 1) := by decide +kernel
theorem dX8_judge_19 : decode cX8_judge 19 = .ok (.invokevirtual 220, 3) := by decide +kernel
theorem dX8_judge_22 : decode cX8_judge 22 = .ok (.istore_n 3, 1) := by decide +kernel
theorem dX8_judge_23 : decode cX8_judge 23 = .ok (.iload_n 3, 1) := by decide +kernel
theorem dX8_judge_24 : decode cX8_judge 24 = .ok (.ifCond .eq 7, 3) := by decide +kernel
theorem dX8_judge_27 : decode cX8_judge 27 = .ok (.iload_n 3, 1) := by decide +kernel
theorem dX8_judge_28 : decode cX8_judge 28 = .ok (.goto 29, 3) := by decide +kernel
theorem dX8_judge_31 : decode cX8_judge 31 = .ok (.aload_n 0, 1) := by decide +kernel
theorem dX8_judge_32 : decode cX8_judge 32 = .ok (.getfield 35, 3) := by decide +kernel
theorem dX8_judge_35 : decode cX8_judge 35 = .ok (.aload_n 0, 1) := by decide +kernel
theorem dX8_judge_36 : decode cX8_judge 36 = .ok (.getfield 62, 3) := by decide +kernel
theorem dX8_judge_39 : decode cX8_judge 39 = .ok (.iload_n 1, 1) := by decide +kernel
theorem dX8_judge_40 : decode cX8_judge 40 = .ok (.bipush 10, 2) := by decide +kernel
theorem dX8_judge_42 : decode cX8_judge 42 = .ok (.idiv, 1) := by decide +kernel
theorem dX8_judge_43 : decode cX8_judge 43 = .ok (.aaload, 1) := by decide +kernel
theorem dX8_judge_44 : decode cX8_judge 44 = .ok (.aload_n 0, 1) := by decide +kernel
theorem dX8_judge_45 : decode cX8_judge 45 = .ok (.getfield 62, 3) := by decide +kernel
theorem dX8_judge_48 : decode cX8_judge 48 = .ok (.iload_n 1, 1) := by decide +kernel
theorem dX8_judge_49 : decode cX8_judge 49 = .ok (.bipush 10, 2) := by decide +kernel
theorem dX8_judge_51 : decode cX8_judge 51 = .ok (.irem, 1) := by decide +kernel
theorem dX8_judge_52 : decode cX8_judge 52 = .ok (.aaload, 1) := by decide +kernel
theorem dX8_judge_53 : decode cX8_judge 53 = .ok (.iload_n 2, 1) := by decide +kernel
theorem dX8_judge_54 : decode cX8_judge 54 = .ok (.invokevirtual 223, 3) := by decide +kernel
theorem dX8_judge_57 : decode cX8_judge 57 = .ok (.ireturn, 1) := by decide +kernel
theorem dX8_fits_0 : decode cX8_fits 0 = .ok (.iload_n 1, 1) := by decide +kernel
theorem dX8_fits_1 : decode cX8_fits 1 = .ok (.invokestatic 217, 3) := by decide +kernel
theorem dX8_fits_4 : decode cX8_fits 4 = .ok (.ifCond .eq 38, 3) := by decide +kernel
theorem dX8_fits_7 : decode cX8_fits 7 = .ok (.iload_n 2, 1) := by decide +kernel
theorem dX8_fits_8 : decode cX8_fits 8 = .ok (.ifCond .lt 34, 3) := by decide +kernel
theorem dX8_fits_11 : decode cX8_fits 11 = .ok (.aload_n 0, 1) := by decide +kernel
theorem dX8_fits_12 : decode cX8_fits 12 = .ok (.iload_n 2, 1) := by decide +kernel
theorem dX8_fits_13 : decode cX8_fits 13 = .ok (.bipush 10, 2) := by decide +kernel
theorem dX8_fits_15 : decode cX8_fits 15 = .ok (.idiv, 1) := by decide +kernel
theorem dX8_fits_16 : decode cX8_fits 16 = .ok (.invokevirtual 141, 3) := by decide +kernel
theorem dX8_fits_19 : decode cX8_fits 19 = .ok (.ifCond .eq 23, 3) := by decide +kernel
theorem dX8_fits_22 : decode cX8_fits 22 = .ok (.aload_n 0, 1) := by decide +kernel
theorem dX8_fits_23 : decode cX8_fits 23 = .ok (.iload_n 2, 1) := by decide +kernel
theorem dX8_fits_24 : decode cX8_fits 24 = .ok (.bipush 10, 2) := by decide +kernel
theorem dX8_fits_26 : decode cX8_fits 26 = .ok (.irem, 1) := by decide +kernel
theorem dX8_fits_27 : decode cX8_fits 27 = .ok (.invokevirtual 141, 3) := by decide +kernel
theorem dX8_fits_30 : decode cX8_fits 30 = .ok (.ifCond .eq 12, 3) := by decide +kernel
theorem dX8_fits_33 : decode cX8_fits 33 = .ok (.iload_n 3, 1) := by decide +kernel
theorem dX8_fits_34 : decode cX8_fits 34 = .ok (.iconst 0, 1) := by decide +kernel
theorem dX8_fits_35 : decode cX8_fits 35 = .ok (.iconst 3, 1) := by decide +kernel
theorem dX8_fits_36 : decode cX8_fits 36 = .ok (.invokestatic 83, 3) := by decide +kernel
theorem dX8_fits_39 : decode cX8_fits 39 = .ok (.ifCond .ne 5, 3) := by decide +kernel
theorem dX8_fits_42 : decode cX8_fits 42 = .ok (.iconst (-1), 1) := by decide +kernel
theorem dX8_fits_43 : decode cX8_fits 43 = .ok (.ireturn, 1) := by decide +kernel
theorem dX8_fits_44 : decode cX8_fits 44 = .ok (.aload_n 0, 1) := by decide +kernel
theorem dX8_fits_45 : decode cX8_fits 45 = .ok (.iload_n 1, 1) := by decide +kernel
theorem dX8_fits_46 : decode cX8_fits 46 = .ok (.invokevirtual 220, 3) := by decide +kernel
theorem dX8_fits_49 : decode cX8_fits 49 = .ok (.istore 4, 2) := by decide +kernel
theorem dX8_fits_51 : decode cX8_fits 51 = .ok (.iload 4, 2) := by decide +kernel
theorem dX8_fits_53 : decode cX8_fits 53 = .ok (.ifCond .eq 6, 3) := by decide +kernel
theorem dX8_fits_56 : decode cX8_fits 56 = .ok (.iload 4, 2) := by decide +kernel
theorem dX8_fits_58 : decode cX8_fits 58 = .ok (.ireturn, 1) := by decide +kernel
theorem dX8_fits_59 : decode cX8_fits 59 = .ok (.aload_n 0, 1) := by decide +kernel
theorem dX8_fits_60 : decode cX8_fits 60 = .ok (.getfield 35, 3) := by decide +kernel
theorem dX8_fits_63 : decode cX8_fits 63 = .ok (.aload_n 0, 1) := by decide +kernel
theorem dX8_fits_64 : decode cX8_fits 64 = .ok (.getfield 62, 3) := by decide +kernel
theorem dX8_fits_67 : decode cX8_fits 67 = .ok (.iload_n 1, 1) := by decide +kernel
theorem dX8_fits_68 : decode cX8_fits 68 = .ok (.bipush 10, 2) := by decide +kernel
theorem dX8_fits_70 : decode cX8_fits 70 = .ok (.idiv, 1) := by decide +kernel
theorem dX8_fits_71 : decode cX8_fits 71 = .ok (.aaload, 1) := by decide +kernel
theorem dX8_fits_72 : decode cX8_fits 72 = .ok (.aload_n 0, 1) := by decide +kernel
theorem dX8_fits_73 : decode cX8_fits 73 = .ok (.getfield 62, 3) := by decide +kernel
theorem dX8_fits_76 : decode cX8_fits 76 = .ok (.iload_n 1, 1) := by decide +kernel
theorem dX8_fits_77 : decode cX8_fits 77 = .ok (.bipush 10, 2) := by decide +kernel
theorem dX8_fits_79 : decode cX8_fits 79 = .ok (.irem, 1) := by decide +kernel
theorem dX8_fits_80 : decode cX8_fits 80 = .ok (.aaload, 1) := by decide +kernel
theorem dX8_fits_81 : decode cX8_fits 81 = .ok (.iload_n 2, 1) := by decide +kernel
theorem dX8_fits_82 : decode cX8_fits 82 = .ok (.iload_n 3, 1) := by decide +kernel
theorem dX8_fits_83 : decode cX8_fits 83 = .ok (.iconst 2, 1) := by decide +kernel
theorem dX8_fits_84 : decode cX8_fits 84 = .ok (.if_icmp .ge 7, 3) := by decide +kernel
theorem dX8_fits_87 : decode cX8_fits 87 = .ok (.iconst 1, 1) := by decide +kernel
theorem dX8_fits_88 : decode cX8_fits 88 = .ok (.goto 4, 3) := by decide +kernel
theorem dX8_fits_91 : decode cX8_fits 91 = .ok (.iconst 2, 1) := by decide +kernel
theorem dX8_fits_92 : decode cX8_fits 92 = .ok (.invokevirtual 227, 3) := by decide +kernel
theorem dX8_fits_95 : decode cX8_fits 95 = .ok (.iload_n 3, 1) := by decide +kernel
theorem dX8_fits_96 : decode cX8_fits 96 = .ok (.iconst 2, 1) := by decide +kernel
theorem dX8_fits_97 : decode cX8_fits 97 = .ok (.irem, 1) := by decide +kernel
theorem dX8_fits_98 : decode cX8_fits 98 = .ok (.ifCond .ne 13, 3) := by decide +kernel
theorem dX8_fits_101 : decode cX8_fits 101 = .ok (.aload_n 0, 1) := by decide +kernel
theorem dX8_fits_102 : decode cX8_fits 102 = .ok (.getfield 35, 3) := by decide +kernel
theorem dX8_fits_105 : decode cX8_fits 105 = .ok (.getfield 231, 3) := by decide +kernel
theorem dX8_fits_108 : decode cX8_fits 108 = .ok (.goto 10, 3) := by decide +kernel
theorem dX8_fits_111 : decode cX8_fits 111 = .ok (.aload_n 0, 1) := by decide +kernel
theorem dX8_fits_112 : decode cX8_fits 112 = .ok (.getfield 35, 3) := by decide +kernel
theorem dX8_fits_115 : decode cX8_fits 115 = .ok (.getfield 234, 3) := by decide +kernel
theorem dX8_fits_118 : decode cX8_fits 118 = .ok (.ireturn, 1) := by decide +kernel
theorem dX8_dealt_0 : decode cX8_dealt 0 = .ok (.iload_n 1, 1) := by decide +kernel
theorem dX8_dealt_1 : decode cX8_dealt 1 = .ok (.iconst 0, 1) := by decide +kernel
theorem dX8_dealt_2 : decode cX8_dealt 2 = .ok (.iconst 1, 1) := by decide +kernel
theorem dX8_dealt_3 : decode cX8_dealt 3 = .ok (.invokestatic 83, 3) := by decide +kernel
theorem dX8_dealt_6 : decode cX8_dealt 6 = .ok (.ifCond .ne 5, 3) := by decide +kernel
theorem dX8_dealt_9 : decode cX8_dealt 9 = .ok (.iconst (-1), 1) := by decide +kernel
theorem dX8_dealt_10 : decode cX8_dealt 10 = .ok (.ireturn, 1) := by decide +kernel
theorem dX8_dealt_11 : decode cX8_dealt 11 = .ok (.aload_n 0, 1) := by decide +kernel
theorem dX8_dealt_12 : decode cX8_dealt 12 = .ok (.getfield 35, 3) := by decide +kernel
theorem dX8_dealt_15 : decode cX8_dealt 15 = .ok (.invokevirtual 237, 3) := by decide +kernel
theorem dX8_dealt_18 : decode cX8_dealt 18 = .ok (.iload_n 1, 1) := by decide +kernel
theorem dX8_dealt_19 : decode cX8_dealt 19 = .ok (.ifCond .ne 13, 3) := by decide +kernel
theorem dX8_dealt_22 : decode cX8_dealt 22 = .ok (.aload_n 0, 1) := by decide +kernel
theorem dX8_dealt_23 : decode cX8_dealt 23 = .ok (.getfield 35, 3) := by decide +kernel
theorem dX8_dealt_26 : decode cX8_dealt 26 = .ok (.getfield 176, 3) := by decide +kernel
theorem dX8_dealt_29 : decode cX8_dealt 29 = .ok (.goto 10, 3) := by decide +kernel
theorem dX8_dealt_32 : decode cX8_dealt 32 = .ok (.aload_n 0, 1) := by decide +kernel
theorem dX8_dealt_33 : decode cX8_dealt 33 = .ok (.getfield 35, 3) := by decide +kernel
theorem dX8_dealt_36 : decode cX8_dealt 36 = .ok (.getfield 240, 3) := by decide +kernel
theorem dX8_dealt_39 : decode cX8_dealt 39 = .ok (.ireturn, 1) := by decide +kernel
theorem dX8_lines_0 : decode cX8_lines 0 = .ok (.iload_n 1, 1) := by decide +kernel
theorem dX8_lines_1 : decode cX8_lines 1 = .ok (.bipush (-2), 2) := by decide +kernel
theorem dX8_lines_3 : decode cX8_lines 3 = .ok (.bipush 18, 2) := by decide +kernel
theorem dX8_lines_5 : decode cX8_lines 5 = .ok (.invokestatic 83, 3) := by decide +kernel
theorem dX8_lines_8 : decode cX8_lines 8 = .ok (.ifCond .ne 5, 3) := by decide +kernel
theorem dX8_lines_11 : decode cX8_lines 11 = .ok (.iconst (-1), 1) := by decide +kernel
theorem dX8_lines_12 : decode cX8_lines 12 = .ok (.ireturn, 1) := by decide +kernel
theorem dX8_lines_13 : decode cX8_lines 13 = .ok (.iload_n 1, 1) := by decide +kernel
theorem dX8_lines_14 : decode cX8_lines 14 = .ok (.ifCond .lt 12, 3) := by decide +kernel
theorem dX8_lines_17 : decode cX8_lines 17 = .ok (.aload_n 0, 1) := by decide +kernel
theorem dX8_lines_18 : decode cX8_lines 18 = .ok (.getfield 10, 3) := by decide +kernel
theorem dX8_lines_21 : decode cX8_lines 21 = .ok (.iload_n 1, 1) := by decide +kernel
theorem dX8_lines_22 : decode cX8_lines 22 = .ok (.invokevirtual 243, 3) := by decide +kernel
theorem dX8_lines_25 : decode cX8_lines 25 = .ok (.ireturn, 1) := by decide +kernel
theorem dX8_lines_26 : decode cX8_lines 26 = .ok (.aload_n 0, 1) := by decide +kernel
theorem dX8_lines_27 : decode cX8_lines 27 = .ok (.getfield 10, 3) := by decide +kernel
theorem dX8_lines_30 : decode cX8_lines 30 = .ok (.invokevirtual 246, 3) := by decide +kernel
theorem dX8_lines_33 : decode cX8_lines 33 = .ok (.istore_n 2, 1) := by decide +kernel
theorem dX8_lines_34 : decode cX8_lines 34 = .ok (.iload_n 1, 1) := by decide +kernel
theorem dX8_lines_35 : decode cX8_lines 35 = .ok (.iconst (-1), 1) := by decide +kernel
theorem dX8_lines_36 : decode cX8_lines 36 = .ok (.if_icmp .ne 10, 3) := by decide +kernel
theorem dX8_lines_39 : decode cX8_lines 39 = .ok (.iload_n 2, 1) := by decide +kernel
theorem dX8_lines_40 : decode cX8_lines 40 = .ok (.invokestatic 249, 3) := by decide +kernel
theorem dX8_lines_43 : decode cX8_lines 43 = .ok (.goto 4, 3) := by decide +kernel
theorem dX8_lines_46 : decode cX8_lines 46 = .ok (.iload_n 2, 1) := by decide +kernel
theorem dX8_lines_47 : decode cX8_lines 47 = .ok (.ireturn, 1) := by decide +kernel
theorem dX8_byTurns_0 : decode cX8_byTurns 0 = .ok (.iload_n 1, 1) := by decide +kernel
theorem dX8_byTurns_1 : decode cX8_byTurns 1 = .ok (.iconst 1, 1) := by decide +kernel
theorem dX8_byTurns_2 : decode cX8_byTurns 2 = .ok (.iconst 4, 1) := by decide +kernel
theorem dX8_byTurns_3 : decode cX8_byTurns 3 = .ok (.invokestatic 83, 3) := by decide +kernel
theorem dX8_byTurns_6 : decode cX8_byTurns 6 = .ok (.ifCond .eq 12, 3) := by decide +kernel
theorem dX8_byTurns_9 : decode cX8_byTurns 9 = .ok (.iload_n 2, 1) := by decide +kernel
theorem dX8_byTurns_10 : decode cX8_byTurns 10 = .ok (.iconst 0, 1) := by decide +kernel
theorem dX8_byTurns_11 : decode cX8_byTurns 11 = .ok (.iconst 1, 1) := by decide +kernel
theorem dX8_byTurns_12 : decode cX8_byTurns 12 = .ok (.invokestatic 83, 3) := by decide +kernel
theorem dX8_byTurns_15 : decode cX8_byTurns 15 = .ok (.ifCond .ne 5, 3) := by decide +kernel
theorem dX8_byTurns_18 : decode cX8_byTurns 18 = .ok (.iconst (-1), 1) := by decide +kernel
theorem dX8_byTurns_19 : decode cX8_byTurns 19 = .ok (.ireturn, 1) := by decide +kernel
theorem dX8_byTurns_20 : decode cX8_byTurns 20 = .ok (.aload_n 0, 1) := by decide +kernel
theorem dX8_byTurns_21 : decode cX8_byTurns 21 = .ok (.getfield 35, 3) := by decide +kernel
theorem dX8_byTurns_24 : decode cX8_byTurns 24 = .ok (.iload_n 1, 1) := by decide +kernel
theorem dX8_byTurns_25 : decode cX8_byTurns 25 = .ok (.invokevirtual 254, 3) := by decide +kernel
theorem dX8_byTurns_28 : decode cX8_byTurns 28 = .ok (.istore_n 3, 1) := by decide +kernel
theorem dX8_byTurns_29 : decode cX8_byTurns 29 = .ok (.iload_n 2, 1) := by decide +kernel
theorem dX8_byTurns_30 : decode cX8_byTurns 30 = .ok (.ifCond .ne 7, 3) := by decide +kernel
theorem dX8_byTurns_33 : decode cX8_byTurns 33 = .ok (.iload_n 3, 1) := by decide +kernel
theorem dX8_byTurns_34 : decode cX8_byTurns 34 = .ok (.goto 10, 3) := by decide +kernel
theorem dX8_byTurns_37 : decode cX8_byTurns 37 = .ok (.aload_n 0, 1) := by decide +kernel
theorem dX8_byTurns_38 : decode cX8_byTurns 38 = .ok (.getfield 35, 3) := by decide +kernel
theorem dX8_byTurns_41 : decode cX8_byTurns 41 = .ok (.getfield 257, 3) := by decide +kernel
theorem dX8_byTurns_44 : decode cX8_byTurns 44 = .ok (.ireturn, 1) := by decide +kernel
theorem dX8_drawn_0 : decode cX8_drawn 0 = .ok (.iload_n 2, 1) := by decide +kernel
theorem dX8_drawn_1 : decode cX8_drawn 1 = .ok (.sipush 10000, 3) := by decide +kernel
theorem dX8_drawn_4 : decode cX8_drawn 4 = .ok (.idiv, 1) := by decide +kernel
theorem dX8_drawn_5 : decode cX8_drawn 5 = .ok (.istore 4, 2) := by decide +kernel
theorem dX8_drawn_7 : decode cX8_drawn 7 = .ok (.iload_n 2, 1) := by decide +kernel
theorem dX8_drawn_8 : decode cX8_drawn 8 = .ok (.bipush 100, 2) := by decide +kernel
theorem dX8_drawn_10 : decode cX8_drawn 10 = .ok (.idiv, 1) := by decide +kernel
theorem dX8_drawn_11 : decode cX8_drawn 11 = .ok (.bipush 100, 2) := by decide +kernel
theorem dX8_drawn_13 : decode cX8_drawn 13 = .ok (.irem, 1) := by decide +kernel
theorem dX8_drawn_14 : decode cX8_drawn 14 = .ok (.istore 5, 2) := by decide +kernel
theorem dX8_drawn_16 : decode cX8_drawn 16 = .ok (.iload_n 2, 1) := by decide +kernel
theorem dX8_drawn_17 : decode cX8_drawn 17 = .ok (.bipush 100, 2) := by decide +kernel
theorem dX8_drawn_19 : decode cX8_drawn 19 = .ok (.irem, 1) := by decide +kernel
theorem dX8_drawn_20 : decode cX8_drawn 20 = .ok (.istore 6, 2) := by decide +kernel
theorem dX8_drawn_22 : decode cX8_drawn 22 = .ok (.iload 4, 2) := by decide +kernel
theorem dX8_drawn_24 : decode cX8_drawn 24 = .ok (.iconst 1, 1) := by decide +kernel
theorem dX8_drawn_25 : decode cX8_drawn 25 = .ok (.bipush 30, 2) := by decide +kernel
theorem dX8_drawn_27 : decode cX8_drawn 27 = .ok (.invokestatic 83, 3) := by decide +kernel
theorem dX8_drawn_30 : decode cX8_drawn 30 = .ok (.ifCond .eq 25, 3) := by decide +kernel
theorem dX8_drawn_33 : decode cX8_drawn 33 = .ok (.iload 5, 2) := by decide +kernel
theorem dX8_drawn_35 : decode cX8_drawn 35 = .ok (.iconst 1, 1) := by decide +kernel
theorem dX8_drawn_36 : decode cX8_drawn 36 = .ok (.bipush 24, 2) := by decide +kernel
theorem dX8_drawn_38 : decode cX8_drawn 38 = .ok (.invokestatic 83, 3) := by decide +kernel
theorem dX8_drawn_41 : decode cX8_drawn 41 = .ok (.ifCond .eq 14, 3) := by decide +kernel
theorem dX8_drawn_44 : decode cX8_drawn 44 = .ok (.iload 6, 2) := by decide +kernel
theorem dX8_drawn_46 : decode cX8_drawn 46 = .ok (.iconst 0, 1) := by decide +kernel
theorem dX8_drawn_47 : decode cX8_drawn 47 = .ok (.bipush 12, 2) := by decide +kernel
theorem dX8_drawn_49 : decode cX8_drawn 49 = .ok (.invokestatic 83, 3) := by decide +kernel
theorem dX8_drawn_52 : decode cX8_drawn 52 = .ok (.ifCond .ne 5, 3) := by decide +kernel
theorem dX8_drawn_55 : decode cX8_drawn 55 = .ok (.iconst (-1), 1) := by decide +kernel
theorem dX8_drawn_56 : decode cX8_drawn 56 = .ok (.ireturn, 1) := by decide +kernel
theorem dX8_drawn_57 : decode cX8_drawn 57 = .ok (.iload_n 3, 1) := by decide +kernel
theorem dX8_drawn_58 : decode cX8_drawn 58 = .ok (.iconst (-1), 1) := by decide +kernel
theorem dX8_drawn_59 : decode cX8_drawn 59 = .ok (.if_icmp .eq 13, 3) := by decide +kernel
theorem dX8_drawn_62 : decode cX8_drawn 62 = .ok (.aload_n 0, 1) := by decide +kernel
theorem dX8_drawn_63 : decode cX8_drawn 63 = .ok (.iload_n 3, 1) := by decide +kernel
theorem dX8_drawn_64 : decode cX8_drawn 64 = .ok (.invokevirtual 141, 3) := by decide +kernel
theorem dX8_drawn_67 : decode cX8_drawn 67 = .ok (.ifCond .ne 5, 3) := by decide +kernel
theorem dX8_drawn_70 : decode cX8_drawn 70 = .ok (.iconst (-1), 1) := by decide +kernel
theorem dX8_drawn_71 : decode cX8_drawn 71 = .ok (.ireturn, 1) := by decide +kernel
theorem dX8_drawn_72 : decode cX8_drawn 72 = .ok (.aload_n 0, 1) := by decide +kernel
theorem dX8_drawn_73 : decode cX8_drawn 73 = .ok (.getfield 35, 3) := by decide +kernel
theorem dX8_drawn_76 : decode cX8_drawn 76 = .ok (.iload_n 1, 1) := by decide +kernel
theorem dX8_drawn_77 : decode cX8_drawn 77 = .ok (.iload 4, 2) := by decide +kernel
theorem dX8_drawn_79 : decode cX8_drawn 79 = .ok (.iload 5, 2) := by decide +kernel
theorem dX8_drawn_81 : decode cX8_drawn 81 = .ok (.iload 6, 2) := by decide +kernel
theorem dX8_drawn_83 : decode cX8_drawn 83 = .ok (.iload_n 3, 1) := by decide +kernel
theorem dX8_drawn_84 : decode cX8_drawn 84 = .ok (.invokevirtual 260, 3) := by decide +kernel
theorem dX8_drawn_87 : decode cX8_drawn 87 = .ok (.ireturn, 1) := by decide +kernel
theorem dX8_hour_0 : decode cX8_hour 0 = .ok (.iload_n 1, 1) := by decide +kernel
theorem dX8_hour_1 : decode cX8_hour 1 = .ok (.invokestatic 119, 3) := by decide +kernel
theorem dX8_hour_4 : decode cX8_hour 4 = .ok (.ifCond .ne 5, 3) := by decide +kernel
theorem dX8_hour_7 : decode cX8_hour 7 = .ok (.iconst (-1), 1) := by decide +kernel
theorem dX8_hour_8 : decode cX8_hour 8 = .ok (.ireturn, 1) := by decide +kernel
theorem dX8_hour_9 : decode cX8_hour 9 = .ok (.aload_n 0, 1) := by decide +kernel
theorem dX8_hour_10 : decode cX8_hour 10 = .ok (.getfield 10, 3) := by decide +kernel
theorem dX8_hour_13 : decode cX8_hour 13 = .ok (.invokevirtual 160, 3) := by decide +kernel
theorem dX8_hour_16 : decode cX8_hour 16 = .ok (.istore_n 2, 1) := by decide +kernel
theorem dX8_hour_17 : decode cX8_hour 17 = .ok (.aload_n 0, 1) := by decide +kernel
theorem dX8_hour_18 : decode cX8_hour 18 = .ok (.getfield 10, 3) := by decide +kernel
theorem dX8_hour_21 : decode cX8_hour 21 = .ok (.iload_n 1, 1) := by decide +kernel
theorem dX8_hour_22 : decode cX8_hour 22 = .ok (.putfield 211, 3) := by decide +kernel
theorem dX8_hour_25 : decode cX8_hour 25 = .ok (.aload_n 0, 1) := by decide +kernel
theorem dX8_hour_26 : decode cX8_hour 26 = .ok (.getfield 10, 3) := by decide +kernel
theorem dX8_hour_29 : decode cX8_hour 29 = .ok (.aload_n 0, 1) := by decide +kernel
theorem dX8_hour_30 : decode cX8_hour 30 = .ok (.getfield 19, 3) := by decide +kernel
theorem dX8_hour_33 : decode cX8_hour 33 = .ok (.iload_n 1, 1) := by decide +kernel
theorem dX8_hour_34 : decode cX8_hour 34 = .ok (.invokevirtual 264, 3) := by decide +kernel
theorem dX8_hour_37 : decode cX8_hour 37 = .ok (.aload_n 0, 1) := by decide +kernel
theorem dX8_hour_38 : decode cX8_hour 38 = .ok (.getfield 10, 3) := by decide +kernel
theorem dX8_hour_41 : decode cX8_hour 41 = .ok (.invokevirtual 160, 3) := by decide +kernel
theorem dX8_hour_44 : decode cX8_hour 44 = .ok (.istore_n 3, 1) := by decide +kernel
theorem dX8_hour_45 : decode cX8_hour 45 = .ok (.aload_n 0, 1) := by decide +kernel
theorem dX8_hour_46 : decode cX8_hour 46 = .ok (.getfield 49, 3) := by decide +kernel
theorem dX8_hour_49 : decode cX8_hour 49 = .ok (.iconst 0, 1) := by decide +kernel
theorem dX8_hour_50 : decode cX8_hour 50 = .ok (.iconst 1, 1) := by decide +kernel
theorem dX8_hour_51 : decode cX8_hour 51 = .ok (.invokevirtual 268, 3) := by decide +kernel
theorem dX8_hour_54 : decode cX8_hour 54 = .ok (.aload_n 0, 1) := by decide +kernel
theorem dX8_hour_55 : decode cX8_hour 55 = .ok (.getfield 49, 3) := by decide +kernel
theorem dX8_hour_58 : decode cX8_hour 58 = .ok (.iconst 4, 1) := by decide +kernel
theorem dX8_hour_59 : decode cX8_hour 59 = .ok (.iload_n 3, 1) := by decide +kernel
theorem dX8_hour_60 : decode cX8_hour 60 = .ok (.iload_n 2, 1) := by decide +kernel
theorem dX8_hour_61 : decode cX8_hour 61 = .ok (.iconst (-1), 1) := by decide +kernel
theorem dX8_hour_62 : decode cX8_hour 62 = .ok (.ixor, 1) := by decide +kernel
theorem dX8_hour_63 : decode cX8_hour 63 = .ok (.iand, 1) := by decide +kernel
theorem dX8_hour_64 : decode cX8_hour 64 = .ok (.invokestatic 249, 3) := by decide +kernel
theorem dX8_hour_67 : decode cX8_hour 67 = .ok (.invokevirtual 268, 3) := by decide +kernel
theorem dX8_hour_70 : decode cX8_hour 70 = .ok (.iload_n 3, 1) := by decide +kernel
theorem dX8_hour_71 : decode cX8_hour 71 = .ok (.invokestatic 249, 3) := by decide +kernel
theorem dX8_hour_74 : decode cX8_hour 74 = .ok (.ireturn, 1) := by decide +kernel
theorem dX8_telling_0 : decode cX8_telling 0 = .ok (.iload_n 1, 1) := by decide +kernel
theorem dX8_telling_1 : decode cX8_telling 1 = .ok (.invokestatic 119, 3) := by decide +kernel
theorem dX8_telling_4 : decode cX8_telling 4 = .ok (.ifCond .eq 13, 3) := by decide +kernel
theorem dX8_telling_7 : decode cX8_telling 7 = .ok (.iload_n 2, 1) := by decide +kernel
theorem dX8_telling_8 : decode cX8_telling 8 = .ok (.iconst 0, 1) := by decide +kernel
theorem dX8_telling_9 : decode cX8_telling 9 = .ok (.bipush 9, 2) := by decide +kernel
theorem dX8_telling_11 : decode cX8_telling 11 = .ok (.invokestatic 83, 3) := by decide +kernel
theorem dX8_telling_14 : decode cX8_telling 14 = .ok (.ifCond .ne 5, 3) := by decide +kernel
theorem dX8_telling_17 : decode cX8_telling 17 = .ok (.iconst (-1), 1) := by decide +kernel
theorem dX8_telling_18 : decode cX8_telling 18 = .ok (.ireturn, 1) := by decide +kernel
theorem dX8_telling_19 : decode cX8_telling 19 = .ok (.aload_n 0, 1) := by decide +kernel
theorem dX8_telling_20 : decode cX8_telling 20 = .ok (.getfield 10, 3) := by decide +kernel
theorem dX8_telling_23 : decode cX8_telling 23 = .ok (.getfield 122, 3) := by decide +kernel
theorem dX8_telling_26 : decode cX8_telling 26 = .ok (.iload_n 1, 1) := by decide +kernel
theorem dX8_telling_27 : decode cX8_telling 27 = .ok (.iaload, 1) := by decide +kernel
theorem dX8_telling_28 : decode cX8_telling 28 = .ok (.istore_n 3, 1) := by decide +kernel
theorem dX8_telling_29 : decode cX8_telling 29 = .ok (.aload_n 0, 1) := by decide +kernel
theorem dX8_telling_30 : decode cX8_telling 30 = .ok (.iload_n 3, 1) := by decide +kernel
theorem dX8_telling_31 : decode cX8_telling 31 = .ok (.invokevirtual 141, 3) := by decide +kernel
theorem dX8_telling_34 : decode cX8_telling 34 = .ok (.ifCond .ne 6, 3) := by decide +kernel
theorem dX8_telling_37 : decode cX8_telling 37 = .ok (.bipush (-5), 2) := by decide +kernel
theorem dX8_telling_39 : decode cX8_telling 39 = .ok (.ireturn, 1) := by decide +kernel
theorem dX8_telling_40 : decode cX8_telling 40 = .ok (.aload_n 0, 1) := by decide +kernel
theorem dX8_telling_41 : decode cX8_telling 41 = .ok (.getfield 10, 3) := by decide +kernel
theorem dX8_telling_44 : decode cX8_telling 44 = .ok (.iload_n 1, 1) := by decide +kernel
theorem dX8_telling_45 : decode cX8_telling 45 = .ok (.iload_n 2, 1) := by decide +kernel
theorem dX8_telling_46 : decode cX8_telling 46 = .ok (.invokevirtual 271, 3) := by decide +kernel
theorem dX8_telling_49 : decode cX8_telling 49 = .ok (.aload_n 0, 1) := by decide +kernel
theorem dX8_telling_50 : decode cX8_telling 50 = .ok (.getfield 49, 3) := by decide +kernel
theorem dX8_telling_53 : decode cX8_telling 53 = .ok (.iconst 1, 1) := by decide +kernel
theorem dX8_telling_54 : decode cX8_telling 54 = .ok (.iconst 1, 1) := by decide +kernel
theorem dX8_telling_55 : decode cX8_telling 55 = .ok (.invokevirtual 268, 3) := by decide +kernel
theorem dX8_telling_58 : decode cX8_telling 58 = .ok (.aload_n 0, 1) := by decide +kernel
theorem dX8_telling_59 : decode cX8_telling 59 = .ok (.getfield 10, 3) := by decide +kernel
theorem dX8_telling_62 : decode cX8_telling 62 = .ok (.getfield 157, 3) := by decide +kernel
theorem dX8_telling_65 : decode cX8_telling 65 = .ok (.iload_n 3, 1) := by decide +kernel
theorem dX8_telling_66 : decode cX8_telling 66 = .ok (.iaload, 1) := by decide +kernel
theorem dX8_telling_67 : decode cX8_telling 67 = .ok (.ireturn, 1) := by decide +kernel
theorem dX8_touch_0 : decode cX8_touch 0 = .ok (.iload_n 1, 1) := by decide +kernel
theorem dX8_touch_1 : decode cX8_touch 1 = .ok (.invokestatic 119, 3) := by decide +kernel
theorem dX8_touch_4 : decode cX8_touch 4 = .ok (.ifCond .ne 5, 3) := by decide +kernel
theorem dX8_touch_7 : decode cX8_touch 7 = .ok (.iconst (-1), 1) := by decide +kernel
theorem dX8_touch_8 : decode cX8_touch 8 = .ok (.ireturn, 1) := by decide +kernel
theorem dX8_touch_9 : decode cX8_touch 9 = .ok (.aload_n 0, 1) := by decide +kernel
theorem dX8_touch_10 : decode cX8_touch 10 = .ok (.getfield 10, 3) := by decide +kernel
theorem dX8_touch_13 : decode cX8_touch 13 = .ok (.getfield 122, 3) := by decide +kernel
theorem dX8_touch_16 : decode cX8_touch 16 = .ok (.iload_n 1, 1) := by decide +kernel
theorem dX8_touch_17 : decode cX8_touch 17 = .ok (.iaload, 1) := by decide +kernel
theorem dX8_touch_18 : decode cX8_touch 18 = .ok (.ifCond .ge 6, 3) := by decide +kernel
theorem dX8_touch_21 : decode cX8_touch 21 = .ok (.bipush (-5), 2) := by decide +kernel
theorem dX8_touch_23 : decode cX8_touch 23 = .ok (.ireturn, 1) := by decide +kernel
theorem dX8_touch_24 : decode cX8_touch 24 = .ok (.aload_n 0, 1) := by decide +kernel
theorem dX8_touch_25 : decode cX8_touch 25 = .ok (.getfield 10, 3) := by decide +kernel
theorem dX8_touch_28 : decode cX8_touch 28 = .ok (.iload_n 1, 1) := by decide +kernel
theorem dX8_touch_29 : decode cX8_touch 29 = .ok (.invokevirtual 198, 3) := by decide +kernel
theorem dX8_touch_32 : decode cX8_touch 32 = .ok (.pop, 1) := by decide +kernel
theorem dX8_touch_33 : decode cX8_touch 33 = .ok (.aload_n 0, 1) := by decide +kernel
theorem dX8_touch_34 : decode cX8_touch 34 = .ok (.getfield 10, 3) := by decide +kernel
theorem dX8_touch_37 : decode cX8_touch 37 = .ok (.getfield 202, 3) := by decide +kernel
theorem dX8_touch_40 : decode cX8_touch 40 = .ok (.invokestatic 249, 3) := by decide +kernel
theorem dX8_touch_43 : decode cX8_touch 43 = .ok (.istore_n 2, 1) := by decide +kernel
theorem dX8_touch_44 : decode cX8_touch 44 = .ok (.aload_n 0, 1) := by decide +kernel
theorem dX8_touch_45 : decode cX8_touch 45 = .ok (.getfield 49, 3) := by decide +kernel
theorem dX8_touch_48 : decode cX8_touch 48 = .ok (.iconst 2, 1) := by decide +kernel
theorem dX8_touch_49 : decode cX8_touch 49 = .ok (.iconst 1, 1) := by decide +kernel
theorem dX8_touch_50 : decode cX8_touch 50 = .ok (.invokevirtual 268, 3) := by decide +kernel
theorem dX8_touch_53 : decode cX8_touch 53 = .ok (.aload_n 0, 1) := by decide +kernel
theorem dX8_touch_54 : decode cX8_touch 54 = .ok (.getfield 49, 3) := by decide +kernel
theorem dX8_touch_57 : decode cX8_touch 57 = .ok (.iconst 3, 1) := by decide +kernel
theorem dX8_touch_58 : decode cX8_touch 58 = .ok (.iload_n 2, 1) := by decide +kernel
theorem dX8_touch_59 : decode cX8_touch 59 = .ok (.invokevirtual 268, 3) := by decide +kernel
theorem dX8_touch_62 : decode cX8_touch 62 = .ok (.iload_n 2, 1) := by decide +kernel
theorem dX8_touch_63 : decode cX8_touch 63 = .ok (.ireturn, 1) := by decide +kernel
theorem dX8_hold_0 : decode cX8_hold 0 = .ok (.aload_n 0, 1) := by decide +kernel
theorem dX8_hold_1 : decode cX8_hold 1 = .ok (.iload_n 1, 1) := by decide +kernel
theorem dX8_hold_2 : decode cX8_hold 2 = .ok (.invokevirtual 141, 3) := by decide +kernel
theorem dX8_hold_5 : decode cX8_hold 5 = .ok (.ifCond .eq 12, 3) := by decide +kernel
theorem dX8_hold_8 : decode cX8_hold 8 = .ok (.iload_n 2, 1) := by decide +kernel
theorem dX8_hold_9 : decode cX8_hold 9 = .ok (.iconst 0, 1) := by decide +kernel
theorem dX8_hold_10 : decode cX8_hold 10 = .ok (.iconst 1, 1) := by decide +kernel
theorem dX8_hold_11 : decode cX8_hold 11 = .ok (.invokestatic 83, 3) := by decide +kernel
theorem dX8_hold_14 : decode cX8_hold 14 = .ok (.ifCond .ne 5, 3) := by decide +kernel
theorem dX8_hold_17 : decode cX8_hold 17 = .ok (.iconst (-1), 1) := by decide +kernel
theorem dX8_hold_18 : decode cX8_hold 18 = .ok (.ireturn, 1) := by decide +kernel
theorem dX8_hold_19 : decode cX8_hold 19 = .ok (.aload_n 0, 1) := by decide +kernel
theorem dX8_hold_20 : decode cX8_hold 20 = .ok (.getfield 10, 3) := by decide +kernel
theorem dX8_hold_23 : decode cX8_hold 23 = .ok (.getfield 274, 3) := by decide +kernel
theorem dX8_hold_26 : decode cX8_hold 26 = .ok (.iload_n 1, 1) := by decide +kernel
theorem dX8_hold_27 : decode cX8_hold 27 = .ok (.iaload, 1) := by decide +kernel
theorem dX8_hold_28 : decode cX8_hold 28 = .ok (.istore_n 3, 1) := by decide +kernel
theorem dX8_hold_29 : decode cX8_hold 29 = .ok (.aload_n 0, 1) := by decide +kernel
theorem dX8_hold_30 : decode cX8_hold 30 = .ok (.getfield 10, 3) := by decide +kernel
theorem dX8_hold_33 : decode cX8_hold 33 = .ok (.getfield 274, 3) := by decide +kernel
theorem dX8_hold_36 : decode cX8_hold 36 = .ok (.iload_n 1, 1) := by decide +kernel
theorem dX8_hold_37 : decode cX8_hold 37 = .ok (.iload_n 2, 1) := by decide +kernel
theorem dX8_hold_38 : decode cX8_hold 38 = .ok (.iastore, 1) := by decide +kernel
theorem dX8_hold_39 : decode cX8_hold 39 = .ok (.iload_n 3, 1) := by decide +kernel
theorem dX8_hold_40 : decode cX8_hold 40 = .ok (.ireturn, 1) := by decide +kernel
theorem dX8_led_0 : decode cX8_led 0 = .ok (.iload_n 1, 1) := by decide +kernel
theorem dX8_led_1 : decode cX8_led 1 = .ok (.iconst 0, 1) := by decide +kernel
theorem dX8_led_2 : decode cX8_led 2 = .ok (.iconst 4, 1) := by decide +kernel
theorem dX8_led_3 : decode cX8_led 3 = .ok (.invokestatic 83, 3) := by decide +kernel
theorem dX8_led_6 : decode cX8_led 6 = .ok (.ifCond .eq 15, 3) := by decide +kernel
theorem dX8_led_9 : decode cX8_led 9 = .ok (.aload_n 0, 1) := by decide +kernel
theorem dX8_led_10 : decode cX8_led 10 = .ok (.getfield 49, 3) := by decide +kernel
theorem dX8_led_13 : decode cX8_led 13 = .ok (.getfield 277, 3) := by decide +kernel
theorem dX8_led_16 : decode cX8_led 16 = .ok (.iload_n 1, 1) := by decide +kernel
theorem dX8_led_17 : decode cX8_led 17 = .ok (.iaload, 1) := by decide +kernel
theorem dX8_led_18 : decode cX8_led 18 = .ok (.goto 4, 3) := by decide +kernel
theorem dX8_led_21 : decode cX8_led 21 = .ok (.iconst (-1), 1) := by decide +kernel
theorem dX8_led_22 : decode cX8_led 22 = .ok (.ireturn, 1) := by decide +kernel
theorem dX8_image_0 : decode cX8_image 0 = .ok (.aload_n 0, 1) := by decide +kernel
theorem dX8_image_1 : decode cX8_image 1 = .ok (.getfield 49, 3) := by decide +kernel
theorem dX8_image_4 : decode cX8_image 4 = .ok (.aload_n 0, 1) := by decide +kernel
theorem dX8_image_5 : decode cX8_image 5 = .ok (.getfield 10, 3) := by decide +kernel
theorem dX8_image_8 : decode cX8_image 8 = .ok (.invokevirtual 280, 3) := by decide +kernel
theorem dX8_image_11 : decode cX8_image 11 = .ok (.aload_n 0, 1) := by decide +kernel
theorem dX8_image_12 : decode cX8_image 12 = .ok (.getfield 49, 3) := by decide +kernel
theorem dX8_image_15 : decode cX8_image 15 = .ok (.getfield 277, 3) := by decide +kernel
theorem dX8_image_18 : decode cX8_image 18 = .ok (.iconst 0, 1) := by decide +kernel
theorem dX8_image_19 : decode cX8_image 19 = .ok (.iaload, 1) := by decide +kernel
theorem dX8_image_20 : decode cX8_image 20 = .ok (.ireturn, 1) := by decide +kernel
theorem dX8_back_0 : decode cX8_back 0 = .ok (.aload_n 0, 1) := by decide +kernel
theorem dX8_back_1 : decode cX8_back 1 = .ok (.getfield 49, 3) := by decide +kernel
theorem dX8_back_4 : decode cX8_back 4 = .ok (.getfield 284, 3) := by decide +kernel
theorem dX8_back_7 : decode cX8_back 7 = .ok (.ifCond .ne 6, 3) := by decide +kernel
theorem dX8_back_10 : decode cX8_back 10 = .ok (.bipush (-5), 2) := by decide +kernel
theorem dX8_back_12 : decode cX8_back 12 = .ok (.ireturn, 1) := by decide +kernel
theorem dX8_back_13 : decode cX8_back 13 = .ok (.aload_n 0, 1) := by decide +kernel
theorem dX8_back_14 : decode cX8_back 14 = .ok (.getfield 49, 3) := by decide +kernel
theorem dX8_back_17 : decode cX8_back 17 = .ok (.aload_n 0, 1) := by decide +kernel
theorem dX8_back_18 : decode cX8_back 18 = .ok (.getfield 10, 3) := by decide +kernel
theorem dX8_back_21 : decode cX8_back 21 = .ok (.invokevirtual 288, 3) := by decide +kernel
theorem dX8_back_24 : decode cX8_back 24 = .ok (.aload_n 0, 1) := by decide +kernel
theorem dX8_back_25 : decode cX8_back 25 = .ok (.getfield 49, 3) := by decide +kernel
theorem dX8_back_28 : decode cX8_back 28 = .ok (.getfield 277, 3) := by decide +kernel
theorem dX8_back_31 : decode cX8_back 31 = .ok (.iconst 0, 1) := by decide +kernel
theorem dX8_back_32 : decode cX8_back 32 = .ok (.iaload, 1) := by decide +kernel
theorem dX8_back_33 : decode cX8_back 33 = .ok (.ireturn, 1) := by decide +kernel
theorem dX8_undo_0 : decode cX8_undo 0 = .ok (.aload_n 0, 1) := by decide +kernel
theorem dX8_undo_1 : decode cX8_undo 1 = .ok (.getfield 42, 3) := by decide +kernel
theorem dX8_undo_4 : decode cX8_undo 4 = .ok (.aload_n 0, 1) := by decide +kernel
theorem dX8_undo_5 : decode cX8_undo 5 = .ok (.getfield 10, 3) := by decide +kernel
theorem dX8_undo_8 : decode cX8_undo 8 = .ok (.invokevirtual 291, 3) := by decide +kernel
theorem dX8_undo_11 : decode cX8_undo 11 = .ok (.ifCond .eq 13, 3) := by decide +kernel
theorem dX8_undo_14 : decode cX8_undo 14 = .ok (.aload_n 0, 1) := by decide +kernel
theorem dX8_undo_15 : decode cX8_undo 15 = .ok (.getfield 42, 3) := by decide +kernel
theorem dX8_undo_18 : decode cX8_undo 18 = .ok (.getfield 295, 3) := by decide +kernel
theorem dX8_undo_21 : decode cX8_undo 21 = .ok (.goto 5, 3) := by decide +kernel
theorem dX8_undo_24 : decode cX8_undo 24 = .ok (.bipush (-5), 2) := by decide +kernel
theorem dX8_undo_26 : decode cX8_undo 26 = .ok (.ireturn, 1) := by decide +kernel
theorem dX8_redo_0 : decode cX8_redo 0 = .ok (.aload_n 0, 1) := by decide +kernel
theorem dX8_redo_1 : decode cX8_redo 1 = .ok (.getfield 42, 3) := by decide +kernel
theorem dX8_redo_4 : decode cX8_redo 4 = .ok (.aload_n 0, 1) := by decide +kernel
theorem dX8_redo_5 : decode cX8_redo 5 = .ok (.getfield 10, 3) := by decide +kernel
theorem dX8_redo_8 : decode cX8_redo 8 = .ok (.invokevirtual 298, 3) := by decide +kernel
theorem dX8_redo_11 : decode cX8_redo 11 = .ok (.ifCond .eq 21, 3) := by decide +kernel
theorem dX8_redo_14 : decode cX8_redo 14 = .ok (.aload_n 0, 1) := by decide +kernel
theorem dX8_redo_15 : decode cX8_redo 15 = .ok (.getfield 42, 3) := by decide +kernel
theorem dX8_redo_18 : decode cX8_redo 18 = .ok (.getfield 301, 3) := by decide +kernel
theorem dX8_redo_21 : decode cX8_redo 21 = .ok (.aload_n 0, 1) := by decide +kernel
theorem dX8_redo_22 : decode cX8_redo 22 = .ok (.getfield 42, 3) := by decide +kernel
theorem dX8_redo_25 : decode cX8_redo 25 = .ok (.getfield 295, 3) := by decide +kernel
theorem dX8_redo_28 : decode cX8_redo 28 = .ok (.isub, 1) := by decide +kernel
theorem dX8_redo_29 : decode cX8_redo 29 = .ok (.goto 5, 3) := by decide +kernel
theorem dX8_redo_32 : decode cX8_redo 32 = .ok (.bipush (-5), 2) := by decide +kernel
theorem dX8_redo_34 : decode cX8_redo 34 = .ok (.ireturn, 1) := by decide +kernel
theorem dX8_body_0 : decode cX8_body 0 = .ok (.iload_n 1, 1) := by decide +kernel
theorem dX8_body_1 : decode cX8_body 1 = .ok (.iconst 0, 1) := by decide +kernel
theorem dX8_body_2 : decode cX8_body 2 = .ok (.bipush 7, 2) := by decide +kernel
theorem dX8_body_4 : decode cX8_body 4 = .ok (.invokestatic 83, 3) := by decide +kernel
theorem dX8_body_7 : decode cX8_body 7 = .ok (.ifCond .ne 5, 3) := by decide +kernel
theorem dX8_body_10 : decode cX8_body 10 = .ok (.iconst (-1), 1) := by decide +kernel
theorem dX8_body_11 : decode cX8_body 11 = .ok (.ireturn, 1) := by decide +kernel
theorem dX8_body_12 : decode cX8_body 12 = .ok (.aload_n 0, 1) := by decide +kernel
theorem dX8_body_13 : decode cX8_body 13 = .ok (.getfield 56, 3) := by decide +kernel
theorem dX8_body_16 : decode cX8_body 16 = .ok (.getfield 302, 3) := by decide +kernel
theorem dX8_body_19 : decode cX8_body 19 = .ok (.bipush 50, 2) := by decide +kernel
theorem dX8_body_21 : decode cX8_body 21 = .ok (.if_icmp .ge 14, 3) := by decide +kernel
theorem dX8_body_24 : decode cX8_body 24 = .ok (.aload_n 0, 1) := by decide +kernel
theorem dX8_body_25 : decode cX8_body 25 = .ok (.getfield 56, 3) := by decide +kernel
theorem dX8_body_28 : decode cX8_body 28 = .ok (.iload_n 1, 1) := by decide +kernel
theorem dX8_body_29 : decode cX8_body 29 = .ok (.invokevirtual 303, 3) := by decide +kernel
theorem dX8_body_32 : decode cX8_body 32 = .ok (.goto 5, 3) := by decide +kernel
theorem dX8_body_35 : decode cX8_body 35 = .ok (.bipush (-3), 2) := by decide +kernel
theorem dX8_body_37 : decode cX8_body 37 = .ok (.ireturn, 1) := by decide +kernel
theorem dX8_act_0 : decode cX8_act 0 = .ok (.aload_n 0, 1) := by decide +kernel
theorem dX8_act_1 : decode cX8_act 1 = .ok (.getfield 56, 3) := by decide +kernel
theorem dX8_act_4 : decode cX8_act 4 = .ok (.iload_n 1, 1) := by decide +kernel
theorem dX8_act_5 : decode cX8_act 5 = .ok (.iload_n 2, 1) := by decide +kernel
theorem dX8_act_6 : decode cX8_act 6 = .ok (.iload_n 3, 1) := by decide +kernel
theorem dX8_act_7 : decode cX8_act 7 = .ok (.invokevirtual 305, 3) := by decide +kernel
theorem dX8_act_10 : decode cX8_act 10 = .ok (.ireturn, 1) := by decide +kernel
theorem dX8_trace_0 : decode cX8_trace 0 = .ok (.iload_n 1, 1) := by decide +kernel
theorem dX8_trace_1 : decode cX8_trace 1 = .ok (.iconst 0, 1) := by decide +kernel
theorem dX8_trace_2 : decode cX8_trace 2 = .ok (.aload_n 0, 1) := by decide +kernel
theorem dX8_trace_3 : decode cX8_trace 3 = .ok (.getfield 56, 3) := by decide +kernel
theorem dX8_trace_6 : decode cX8_trace 6 = .ok (.getfield 308, 3) := by decide +kernel
theorem dX8_trace_9 : decode cX8_trace 9 = .ok (.bipush 24, 2) := by decide +kernel
theorem dX8_trace_11 : decode cX8_trace 11 = .ok (.invokestatic 311, 3) := by decide +kernel
theorem dX8_trace_14 : decode cX8_trace 14 = .ok (.iconst 1, 1) := by decide +kernel
theorem dX8_trace_15 : decode cX8_trace 15 = .ok (.isub, 1) := by decide +kernel
theorem dX8_trace_16 : decode cX8_trace 16 = .ok (.invokestatic 83, 3) := by decide +kernel
theorem dX8_trace_19 : decode cX8_trace 19 = .ok (.ifCond .eq 15, 3) := by decide +kernel
theorem dX8_trace_22 : decode cX8_trace 22 = .ok (.aload_n 0, 1) := by decide +kernel
theorem dX8_trace_23 : decode cX8_trace 23 = .ok (.getfield 56, 3) := by decide +kernel
theorem dX8_trace_26 : decode cX8_trace 26 = .ok (.getfield 316, 3) := by decide +kernel
theorem dX8_trace_29 : decode cX8_trace 29 = .ok (.iload_n 1, 1) := by decide +kernel
theorem dX8_trace_30 : decode cX8_trace 30 = .ok (.iaload, 1) := by decide +kernel
theorem dX8_trace_31 : decode cX8_trace 31 = .ok (.goto 4, 3) := by decide +kernel
theorem dX8_trace_34 : decode cX8_trace 34 = .ok (.iconst (-1), 1) := by decide +kernel
theorem dX8_trace_35 : decode cX8_trace 35 = .ok (.ireturn, 1) := by decide +kernel
theorem dX8_keep_0 : decode cX8_keep 0 = .ok (.iload_n 1, 1) := by decide +kernel
theorem dX8_keep_1 : decode cX8_keep 1 = .ok (.invokestatic 79, 3) := by decide +kernel
theorem dX8_keep_4 : decode cX8_keep 4 = .ok (.ifCond .eq 20, 3) := by decide +kernel
theorem dX8_keep_7 : decode cX8_keep 7 = .ok (.iload_n 2, 1) := by decide +kernel
theorem dX8_keep_8 : decode cX8_keep 8 = .ok (.iconst (-1), 1) := by decide +kernel
theorem dX8_keep_9 : decode cX8_keep 9 = .ok (.aload_n 0, 1) := by decide +kernel
theorem dX8_keep_10 : decode cX8_keep 10 = .ok (.getfield 56, 3) := by decide +kernel
theorem dX8_keep_13 : decode cX8_keep 13 = .ok (.getfield 302, 3) := by decide +kernel
theorem dX8_keep_16 : decode cX8_keep 16 = .ok (.iconst 1, 1) := by decide +kernel
theorem dX8_keep_17 : decode cX8_keep 17 = .ok (.isub, 1) := by decide +kernel
theorem dX8_keep_18 : decode cX8_keep 18 = .ok (.invokestatic 83, 3) := by decide +kernel
theorem dX8_keep_21 : decode cX8_keep 21 = .ok (.ifCond .ne 5, 3) := by decide +kernel
theorem dX8_keep_24 : decode cX8_keep 24 = .ok (.iconst (-1), 1) := by decide +kernel
theorem dX8_keep_25 : decode cX8_keep 25 = .ok (.ireturn, 1) := by decide +kernel
theorem dX8_keep_26 : decode cX8_keep 26 = .ok (.iload_n 2, 1) := by decide +kernel
theorem dX8_keep_27 : decode cX8_keep 27 = .ok (.ifCond .ge 15, 3) := by decide +kernel
theorem dX8_keep_30 : decode cX8_keep 30 = .ok (.aload_n 0, 1) := by decide +kernel
theorem dX8_keep_31 : decode cX8_keep 31 = .ok (.getfield 62, 3) := by decide +kernel
theorem dX8_keep_34 : decode cX8_keep 34 = .ok (.iload_n 1, 1) := by decide +kernel
theorem dX8_keep_35 : decode cX8_keep 35 = .ok (.aaload, 1) := by decide +kernel
theorem dX8_keep_36 : decode cX8_keep 36 = .ok (.invokevirtual 319, 3) := by decide +kernel
theorem dX8_keep_39 : decode cX8_keep 39 = .ok (.goto 21, 3) := by decide +kernel
theorem dX8_keep_42 : decode cX8_keep 42 = .ok (.aload_n 0, 1) := by decide +kernel
theorem dX8_keep_43 : decode cX8_keep 43 = .ok (.getfield 62, 3) := by decide +kernel
theorem dX8_keep_46 : decode cX8_keep 46 = .ok (.iload_n 1, 1) := by decide +kernel
theorem dX8_keep_47 : decode cX8_keep 47 = .ok (.aaload, 1) := by decide +kernel
theorem dX8_keep_48 : decode cX8_keep 48 = .ok (.aload_n 0, 1) := by decide +kernel
theorem dX8_keep_49 : decode cX8_keep 49 = .ok (.getfield 56, 3) := by decide +kernel
theorem dX8_keep_52 : decode cX8_keep 52 = .ok (.getfield 322, 3) := by decide +kernel
theorem dX8_keep_55 : decode cX8_keep 55 = .ok (.iload_n 2, 1) := by decide +kernel
theorem dX8_keep_56 : decode cX8_keep 56 = .ok (.iaload, 1) := by decide +kernel
theorem dX8_keep_57 : decode cX8_keep 57 = .ok (.invokevirtual 325, 3) := by decide +kernel
theorem dX8_keep_60 : decode cX8_keep 60 = .ok (.iconst 1, 1) := by decide +kernel
theorem dX8_keep_61 : decode cX8_keep 61 = .ok (.ireturn, 1) := by decide +kernel
theorem dX8_row_0 : decode cX8_row 0 = .ok (.iload_n 1, 1) := by decide +kernel
theorem dX8_row_1 : decode cX8_row 1 = .ok (.invokestatic 79, 3) := by decide +kernel
theorem dX8_row_4 : decode cX8_row 4 = .ok (.ifCond .eq 18, 3) := by decide +kernel
theorem dX8_row_7 : decode cX8_row 7 = .ok (.iload_n 2, 1) := by decide +kernel
theorem dX8_row_8 : decode cX8_row 8 = .ok (.iconst 0, 1) := by decide +kernel
theorem dX8_row_9 : decode cX8_row 9 = .ok (.iconst 4, 1) := by decide +kernel
theorem dX8_row_10 : decode cX8_row 10 = .ok (.invokestatic 83, 3) := by decide +kernel
theorem dX8_row_13 : decode cX8_row 13 = .ok (.ifCond .eq 9, 3) := by decide +kernel
theorem dX8_row_16 : decode cX8_row 16 = .ok (.iload_n 3, 1) := by decide +kernel
theorem dX8_row_17 : decode cX8_row 17 = .ok (.bipush 60, 2) := by decide +kernel
theorem dX8_row_19 : decode cX8_row 19 = .ok (.if_icmp .le 5, 3) := by decide +kernel
theorem dX8_row_22 : decode cX8_row 22 = .ok (.iconst (-1), 1) := by decide +kernel
theorem dX8_row_23 : decode cX8_row 23 = .ok (.ireturn, 1) := by decide +kernel
theorem dX8_row_24 : decode cX8_row 24 = .ok (.iload_n 3, 1) := by decide +kernel
theorem dX8_row_25 : decode cX8_row 25 = .ok (.ifCond .ge 6, 3) := by decide +kernel
theorem dX8_row_28 : decode cX8_row 28 = .ok (.bipush (-14), 2) := by decide +kernel
theorem dX8_row_30 : decode cX8_row 30 = .ok (.ireturn, 1) := by decide +kernel
theorem dX8_row_31 : decode cX8_row 31 = .ok (.aload_n 0, 1) := by decide +kernel
theorem dX8_row_32 : decode cX8_row 32 = .ok (.getfield 62, 3) := by decide +kernel
theorem dX8_row_35 : decode cX8_row 35 = .ok (.iload_n 1, 1) := by decide +kernel
theorem dX8_row_36 : decode cX8_row 36 = .ok (.aaload, 1) := by decide +kernel
theorem dX8_row_37 : decode cX8_row 37 = .ok (.iload_n 2, 1) := by decide +kernel
theorem dX8_row_38 : decode cX8_row 38 = .ok (.iload_n 3, 1) := by decide +kernel
theorem dX8_row_39 : decode cX8_row 39 = .ok (.invokevirtual 328, 3) := by decide +kernel
theorem dX8_row_42 : decode cX8_row 42 = .ok (.iconst 1, 1) := by decide +kernel
theorem dX8_row_43 : decode cX8_row 43 = .ok (.ireturn, 1) := by decide +kernel
theorem dX8_put_0 : decode cX8_put 0 = .ok (.aload_n 0, 1) := by decide +kernel
theorem dX8_put_1 : decode cX8_put 1 = .ok (.iload_n 1, 1) := by decide +kernel
theorem dX8_put_2 : decode cX8_put 2 = .ok (.iload_n 2, 1) := by decide +kernel
theorem dX8_put_3 : decode cX8_put 3 = .ok (.invokevirtual 331, 3) := by decide +kernel
theorem dX8_put_6 : decode cX8_put 6 = .ok (.istore 5, 2) := by decide +kernel
theorem dX8_put_8 : decode cX8_put 8 = .ok (.iload 5, 2) := by decide +kernel
theorem dX8_put_10 : decode cX8_put 10 = .ok (.ifCond .eq 6, 3) := by decide +kernel
theorem dX8_put_13 : decode cX8_put 13 = .ok (.iload 5, 2) := by decide +kernel
theorem dX8_put_15 : decode cX8_put 15 = .ok (.ireturn, 1) := by decide +kernel
theorem dX8_put_16 : decode cX8_put 16 = .ok (.aload_n 0, 1) := by decide +kernel
theorem dX8_put_17 : decode cX8_put 17 = .ok (.getfield 62, 3) := by decide +kernel
theorem dX8_put_20 : decode cX8_put 20 = .ok (.iload_n 1, 1) := by decide +kernel
theorem dX8_put_21 : decode cX8_put 21 = .ok (.aaload, 1) := by decide +kernel
theorem dX8_put_22 : decode cX8_put 22 = .ok (.iload_n 2, 1) := by decide +kernel
theorem dX8_put_23 : decode cX8_put 23 = .ok (.lload_n 3, 1) := by decide +kernel
theorem dX8_put_24 : decode cX8_put 24 = .ok (.invokevirtual 334, 3) := by decide +kernel
theorem dX8_put_27 : decode cX8_put 27 = .ok (.iconst 1, 1) := by decide +kernel
theorem dX8_put_28 : decode cX8_put 28 = .ok (.ireturn, 1) := by decide +kernel
theorem dX8_element_0 : decode cX8_element 0 = .ok (.aload_n 0, 1) := by decide +kernel
theorem dX8_element_1 : decode cX8_element 1 = .ok (.iload_n 1, 1) := by decide +kernel
theorem dX8_element_2 : decode cX8_element 2 = .ok (.iload_n 2, 1) := by decide +kernel
theorem dX8_element_3 : decode cX8_element 3 = .ok (.invokevirtual 331, 3) := by decide +kernel
theorem dX8_element_6 : decode cX8_element 6 = .ok (.ifCond .eq 9, 3) := by decide +kernel
theorem dX8_element_9 : decode cX8_element 9 = .ok (.ldc2_w 340, 3) := by decide +kernel
theorem dX8_element_12 : decode cX8_element 12 = .ok (.goto 14, 3) := by decide +kernel
theorem dX8_element_15 : decode cX8_element 15 = .ok (.aload_n 0, 1) := by decide +kernel
theorem dX8_element_16 : decode cX8_element 16 = .ok (.getfield 62, 3) := by decide +kernel
theorem dX8_element_19 : decode cX8_element 19 = .ok (.iload_n 1, 1) := by decide +kernel
theorem dX8_element_20 : decode cX8_element 20 = .ok (.aaload, 1) := by decide +kernel
theorem dX8_element_21 : decode cX8_element 21 = .ok (.getfield 342, 3) := by decide +kernel
theorem dX8_element_24 : decode cX8_element 24 = .ok (.iload_n 2, 1) := by decide +kernel
theorem dX8_element_25 : decode cX8_element 25 = .ok (.laload, 1) := by decide +kernel
theorem dX8_element_26 : decode cX8_element 26 = .ok (.lreturn, 1) := by decide +kernel
theorem dX8_shift_0 : decode cX8_shift 0 = .ok (.iload_n 1, 1) := by decide +kernel
theorem dX8_shift_1 : decode cX8_shift 1 = .ok (.invokestatic 79, 3) := by decide +kernel
theorem dX8_shift_4 : decode cX8_shift 4 = .ok (.ifCond .eq 10, 3) := by decide +kernel
theorem dX8_shift_7 : decode cX8_shift 7 = .ok (.iload_n 3, 1) := by decide +kernel
theorem dX8_shift_8 : decode cX8_shift 8 = .ok (.invokestatic 79, 3) := by decide +kernel
theorem dX8_shift_11 : decode cX8_shift 11 = .ok (.ifCond .ne 5, 3) := by decide +kernel
theorem dX8_shift_14 : decode cX8_shift 14 = .ok (.iconst (-1), 1) := by decide +kernel
theorem dX8_shift_15 : decode cX8_shift 15 = .ok (.ireturn, 1) := by decide +kernel
theorem dX8_shift_16 : decode cX8_shift 16 = .ok (.aload_n 0, 1) := by decide +kernel
theorem dX8_shift_17 : decode cX8_shift 17 = .ok (.getfield 62, 3) := by decide +kernel
theorem dX8_shift_20 : decode cX8_shift 20 = .ok (.iload_n 1, 1) := by decide +kernel
theorem dX8_shift_21 : decode cX8_shift 21 = .ok (.aaload, 1) := by decide +kernel
theorem dX8_shift_22 : decode cX8_shift 22 = .ok (.astore 6, 2) := by decide +kernel
theorem dX8_shift_24 : decode cX8_shift 24 = .ok (.aload_n 0, 1) := by decide +kernel
theorem dX8_shift_25 : decode cX8_shift 25 = .ok (.getfield 62, 3) := by decide +kernel
theorem dX8_shift_28 : decode cX8_shift 28 = .ok (.iload_n 3, 1) := by decide +kernel
theorem dX8_shift_29 : decode cX8_shift 29 = .ok (.aaload, 1) := by decide +kernel
theorem dX8_shift_30 : decode cX8_shift 30 = .ok (.astore 7, 2) := by decide +kernel
theorem dX8_shift_32 : decode cX8_shift 32 = .ok (.aload 6, 2) := by decide +kernel
theorem dX8_shift_34 : decode cX8_shift 34 = .ok (.invokevirtual 86, 3) := by decide +kernel
theorem dX8_shift_37 : decode cX8_shift 37 = .ok (.ifCond .ne 11, 3) := by decide +kernel
theorem dX8_shift_40 : decode cX8_shift 40 = .ok (.aload 7, 2) := by decide +kernel
theorem dX8_shift_42 : decode cX8_shift 42 = .ok (.invokevirtual 86, 3) := by decide +kernel
theorem dX8_shift_45 : decode cX8_shift 45 = .ok (.ifCond .eq 6, 3) := by decide +kernel
theorem dX8_shift_48 : decode cX8_shift 48 = .ok (.bipush (-11), 2) := by decide +kernel
theorem dX8_shift_50 : decode cX8_shift 50 = .ok (.ireturn, 1) := by decide +kernel
theorem dX8_shift_51 : decode cX8_shift 51 = .ok (.aload 6, 2) := by decide +kernel
theorem dX8_shift_53 : decode cX8_shift 53 = .ok (.invokevirtual 346, 3) := by decide +kernel
theorem dX8_shift_56 : decode cX8_shift 56 = .ok (.ifCond .eq 24, 3) := by decide +kernel
theorem dX8_shift_59 : decode cX8_shift 59 = .ok (.aload 7, 2) := by decide +kernel
theorem dX8_shift_61 : decode cX8_shift 61 = .ok (.invokevirtual 346, 3) := by decide +kernel
theorem dX8_shift_64 : decode cX8_shift 64 = .ok (.ifCond .eq 16, 3) := by decide +kernel
theorem dX8_shift_67 : decode cX8_shift 67 = .ok (.aload 6, 2) := by decide +kernel
theorem dX8_shift_69 : decode cX8_shift 69 = .ok (.getfield 349, 3) := by decide +kernel
theorem dX8_shift_72 : decode cX8_shift 72 = .ok (.aload 7, 2) := by decide +kernel
theorem dX8_shift_74 : decode cX8_shift 74 = .ok (.getfield 349, 3) := by decide +kernel
theorem dX8_shift_77 : decode cX8_shift 77 = .ok (.if_icmp .eq 6, 3) := by decide +kernel
theorem dX8_shift_80 : decode cX8_shift 80 = .ok (.bipush (-12), 2) := by decide +kernel
theorem dX8_shift_82 : decode cX8_shift 82 = .ok (.ireturn, 1) := by decide +kernel
theorem dX8_shift_83 : decode cX8_shift 83 = .ok (.aload 6, 2) := by decide +kernel
theorem dX8_shift_85 : decode cX8_shift 85 = .ok (.iload_n 2, 1) := by decide +kernel
theorem dX8_shift_86 : decode cX8_shift 86 = .ok (.iload 5, 2) := by decide +kernel
theorem dX8_shift_88 : decode cX8_shift 88 = .ok (.invokevirtual 352, 3) := by decide +kernel
theorem dX8_shift_91 : decode cX8_shift 91 = .ok (.ifCond .eq 15, 3) := by decide +kernel
theorem dX8_shift_94 : decode cX8_shift 94 = .ok (.aload 7, 2) := by decide +kernel
theorem dX8_shift_96 : decode cX8_shift 96 = .ok (.iload 4, 2) := by decide +kernel
theorem dX8_shift_98 : decode cX8_shift 98 = .ok (.iload 5, 2) := by decide +kernel
theorem dX8_shift_100 : decode cX8_shift 100 = .ok (.invokevirtual 352, 3) := by decide +kernel
theorem dX8_shift_103 : decode cX8_shift 103 = .ok (.ifCond .ne 6, 3) := by decide +kernel
theorem dX8_shift_106 : decode cX8_shift 106 = .ok (.bipush (-13), 2) := by decide +kernel
theorem dX8_shift_108 : decode cX8_shift 108 = .ok (.ireturn, 1) := by decide +kernel
theorem dX8_shift_109 : decode cX8_shift 109 = .ok (.aload 6, 2) := by decide +kernel
theorem dX8_shift_111 : decode cX8_shift 111 = .ok (.getfield 342, 3) := by decide +kernel
theorem dX8_shift_114 : decode cX8_shift 114 = .ok (.iload_n 2, 1) := by decide +kernel
theorem dX8_shift_115 : decode cX8_shift 115 = .ok (.aload 7, 2) := by decide +kernel
theorem dX8_shift_117 : decode cX8_shift 117 = .ok (.getfield 342, 3) := by decide +kernel
theorem dX8_shift_120 : decode cX8_shift 120 = .ok (.iload 4, 2) := by decide +kernel
theorem dX8_shift_122 : decode cX8_shift 122 = .ok (.iload 5, 2) := by decide +kernel
theorem dX8_shift_124 : decode cX8_shift 124 = .ok (.invokestatic 355, 3) := by decide +kernel
theorem dX8_shift_127 : decode cX8_shift 127 = .ok (.iload 5, 2) := by decide +kernel
theorem dX8_shift_129 : decode cX8_shift 129 = .ok (.ireturn, 1) := by decide +kernel
theorem dX8_taken_0 : decode cX8_taken 0 = .ok (.iload_n 1, 1) := by decide +kernel
theorem dX8_taken_1 : decode cX8_taken 1 = .ok (.invokestatic 79, 3) := by decide +kernel
theorem dX8_taken_4 : decode cX8_taken 4 = .ok (.ifCond .eq 13, 3) := by decide +kernel
theorem dX8_taken_7 : decode cX8_taken 7 = .ok (.iload_n 2, 1) := by decide +kernel
theorem dX8_taken_8 : decode cX8_taken 8 = .ok (.iconst 0, 1) := by decide +kernel
theorem dX8_taken_9 : decode cX8_taken 9 = .ok (.bipush 7, 2) := by decide +kernel
theorem dX8_taken_11 : decode cX8_taken 11 = .ok (.invokestatic 83, 3) := by decide +kernel
theorem dX8_taken_14 : decode cX8_taken 14 = .ok (.ifCond .ne 5, 3) := by decide +kernel
theorem dX8_taken_17 : decode cX8_taken 17 = .ok (.iconst (-1), 1) := by decide +kernel
theorem dX8_taken_18 : decode cX8_taken 18 = .ok (.ireturn, 1) := by decide +kernel
theorem dX8_taken_19 : decode cX8_taken 19 = .ok (.aload_n 0, 1) := by decide +kernel
theorem dX8_taken_20 : decode cX8_taken 20 = .ok (.getfield 62, 3) := by decide +kernel
theorem dX8_taken_23 : decode cX8_taken 23 = .ok (.iload_n 1, 1) := by decide +kernel
theorem dX8_taken_24 : decode cX8_taken 24 = .ok (.aaload, 1) := by decide +kernel
theorem dX8_taken_25 : decode cX8_taken 25 = .ok (.astore_n 3, 1) := by decide +kernel
theorem dX8_taken_26 : decode cX8_taken 26 = .ok (.aload_n 3, 1) := by decide +kernel
theorem dX8_taken_27 : decode cX8_taken 27 = .ok (.invokevirtual 86, 3) := by decide +kernel
theorem dX8_taken_30 : decode cX8_taken 30 = .ok (.ifCond .eq 6, 3) := by decide +kernel
theorem dX8_taken_33 : decode cX8_taken 33 = .ok (.bipush (-11), 2) := by decide +kernel
theorem dX8_taken_35 : decode cX8_taken 35 = .ok (.ireturn, 1) := by decide +kernel
theorem dX8_taken_36 : decode cX8_taken 36 = .ok (.aload_n 3, 1) := by decide +kernel
theorem dX8_taken_37 : decode cX8_taken 37 = .ok (.invokevirtual 361, 3) := by decide +kernel
theorem dX8_taken_40 : decode cX8_taken 40 = .ok (.ifCond .eq 21, 3) := by decide +kernel
theorem dX8_taken_43 : decode cX8_taken 43 = .ok (.aload_n 3, 1) := by decide +kernel
theorem dX8_taken_44 : decode cX8_taken 44 = .ok (.getfield 364, 3) := by decide +kernel
theorem dX8_taken_47 : decode cX8_taken 47 = .ok (.iload_n 2, 1) := by decide +kernel
theorem dX8_taken_48 : decode cX8_taken 48 = .ok (.invokestatic 367, 3) := by decide +kernel
theorem dX8_taken_51 : decode cX8_taken 51 = .ok (.ifCond .eq 10, 3) := by decide +kernel
theorem dX8_taken_54 : decode cX8_taken 54 = .ok (.aload_n 3, 1) := by decide +kernel
theorem dX8_taken_55 : decode cX8_taken 55 = .ok (.getfield 364, 3) := by decide +kernel
theorem dX8_taken_58 : decode cX8_taken 58 = .ok (.goto 5, 3) := by decide +kernel
theorem dX8_taken_61 : decode cX8_taken 61 = .ok (.bipush (-12), 2) := by decide +kernel
theorem dX8_taken_63 : decode cX8_taken 63 = .ok (.ireturn, 1) := by decide +kernel
theorem dX8_count_0 : decode cX8_count 0 = .ok (.iload_n 1, 1) := by decide +kernel
theorem dX8_count_1 : decode cX8_count 1 = .ok (.tableswitch 87 0 5 #[39, 47, 55, 63, 71, 79], 39) := by decide +kernel
theorem dX8_count_40 : decode cX8_count 40 = .ok (.aload_n 0, 1) := by decide +kernel
theorem dX8_count_41 : decode cX8_count 41 = .ok (.getfield 10, 3) := by decide +kernel
theorem dX8_count_44 : decode cX8_count 44 = .ok (.getfield 71, 3) := by decide +kernel
theorem dX8_count_47 : decode cX8_count 47 = .ok (.ireturn, 1) := by decide +kernel
theorem dX8_count_48 : decode cX8_count 48 = .ok (.aload_n 0, 1) := by decide +kernel
theorem dX8_count_49 : decode cX8_count 49 = .ok (.getfield 10, 3) := by decide +kernel
theorem dX8_count_52 : decode cX8_count 52 = .ok (.invokevirtual 188, 3) := by decide +kernel
theorem dX8_count_55 : decode cX8_count 55 = .ok (.ireturn, 1) := by decide +kernel
theorem dX8_count_56 : decode cX8_count 56 = .ok (.aload_n 0, 1) := by decide +kernel
theorem dX8_count_57 : decode cX8_count 57 = .ok (.getfield 26, 3) := by decide +kernel
theorem dX8_count_60 : decode cX8_count 60 = .ok (.getfield 127, 3) := by decide +kernel
theorem dX8_count_63 : decode cX8_count 63 = .ok (.ireturn, 1) := by decide +kernel
theorem dX8_count_64 : decode cX8_count 64 = .ok (.aload_n 0, 1) := by decide +kernel
theorem dX8_count_65 : decode cX8_count 65 = .ok (.getfield 42, 3) := by decide +kernel
theorem dX8_count_68 : decode cX8_count 68 = .ok (.getfield 295, 3) := by decide +kernel
theorem dX8_count_71 : decode cX8_count 71 = .ok (.ireturn, 1) := by decide +kernel
theorem dX8_count_72 : decode cX8_count 72 = .ok (.aload_n 0, 1) := by decide +kernel
theorem dX8_count_73 : decode cX8_count 73 = .ok (.getfield 56, 3) := by decide +kernel
theorem dX8_count_76 : decode cX8_count 76 = .ok (.getfield 302, 3) := by decide +kernel
theorem dX8_count_79 : decode cX8_count 79 = .ok (.ireturn, 1) := by decide +kernel
theorem dX8_count_80 : decode cX8_count 80 = .ok (.aload_n 0, 1) := by decide +kernel
theorem dX8_count_81 : decode cX8_count 81 = .ok (.getfield 56, 3) := by decide +kernel
theorem dX8_count_84 : decode cX8_count 84 = .ok (.getfield 308, 3) := by decide +kernel
theorem dX8_count_87 : decode cX8_count 87 = .ok (.ireturn, 1) := by decide +kernel
theorem dX8_count_88 : decode cX8_count 88 = .ok (.iconst (-1), 1) := by decide +kernel
theorem dX8_count_89 : decode cX8_count 89 = .ok (.ireturn, 1) := by decide +kernel
theorem dX8_within_0 : decode cX8_within 0 = .ok (.iload_n 0, 1) := by decide +kernel
theorem dX8_within_1 : decode cX8_within 1 = .ok (.iload_n 1, 1) := by decide +kernel
theorem dX8_within_2 : decode cX8_within 2 = .ok (.if_icmp .lt 12, 3) := by decide +kernel
theorem dX8_within_5 : decode cX8_within 5 = .ok (.iload_n 0, 1) := by decide +kernel
theorem dX8_within_6 : decode cX8_within 6 = .ok (.iload_n 2, 1) := by decide +kernel
theorem dX8_within_7 : decode cX8_within 7 = .ok (.if_icmp .gt 7, 3) := by decide +kernel
theorem dX8_within_10 : decode cX8_within 10 = .ok (.iconst 1, 1) := by decide +kernel
theorem dX8_within_11 : decode cX8_within 11 = .ok (.goto 4, 3) := by decide +kernel
theorem dX8_within_14 : decode cX8_within 14 = .ok (.iconst 0, 1) := by decide +kernel
theorem dX8_within_15 : decode cX8_within 15 = .ok (.ireturn, 1) := by decide +kernel
theorem dX8_heldWithin_0 : decode cX8_heldWithin 0 = .ok (.iload_n 1, 1) := by decide +kernel
theorem dX8_heldWithin_1 : decode cX8_heldWithin 1 = .ok (.iload_n 2, 1) := by decide +kernel
theorem dX8_heldWithin_2 : decode cX8_heldWithin 2 = .ok (.iload_n 0, 1) := by decide +kernel
theorem dX8_heldWithin_3 : decode cX8_heldWithin 3 = .ok (.invokestatic 311, 3) := by decide +kernel
theorem dX8_heldWithin_6 : decode cX8_heldWithin 6 = .ok (.invokestatic 370, 3) := by decide +kernel
theorem dX8_heldWithin_9 : decode cX8_heldWithin 9 = .ok (.ireturn, 1) := by decide +kernel
theorem dX8_isCot_0 : decode cX8_isCot 0 = .ok (.iload_n 0, 1) := by decide +kernel
theorem dX8_isCot_1 : decode cX8_isCot 1 = .ok (.iconst 0, 1) := by decide +kernel
theorem dX8_isCot_2 : decode cX8_isCot 2 = .ok (.bipush 11, 2) := by decide +kernel
theorem dX8_isCot_4 : decode cX8_isCot 4 = .ok (.invokestatic 83, 3) := by decide +kernel
theorem dX8_isCot_7 : decode cX8_isCot 7 = .ok (.ireturn, 1) := by decide +kernel
theorem dX8_steps_0 : decode cX8_steps 0 = .ok (.iload_n 0, 1) := by decide +kernel
theorem dX8_steps_1 : decode cX8_steps 1 = .ok (.bipush 6, 2) := by decide +kernel
theorem dX8_steps_3 : decode cX8_steps 3 = .ok (.irem, 1) := by decide +kernel
theorem dX8_steps_4 : decode cX8_steps 4 = .ok (.iload_n 1, 1) := by decide +kernel
theorem dX8_steps_5 : decode cX8_steps 5 = .ok (.bipush 6, 2) := by decide +kernel
theorem dX8_steps_7 : decode cX8_steps 7 = .ok (.irem, 1) := by decide +kernel
theorem dX8_steps_8 : decode cX8_steps 8 = .ok (.isub, 1) := by decide +kernel
theorem dX8_steps_9 : decode cX8_steps 9 = .ok (.invokestatic 373, 3) := by decide +kernel
theorem dX8_steps_12 : decode cX8_steps 12 = .ok (.iload_n 0, 1) := by decide +kernel
theorem dX8_steps_13 : decode cX8_steps 13 = .ok (.bipush 6, 2) := by decide +kernel
theorem dX8_steps_15 : decode cX8_steps 15 = .ok (.idiv, 1) := by decide +kernel
theorem dX8_steps_16 : decode cX8_steps 16 = .ok (.iload_n 1, 1) := by decide +kernel
theorem dX8_steps_17 : decode cX8_steps 17 = .ok (.bipush 6, 2) := by decide +kernel
theorem dX8_steps_19 : decode cX8_steps 19 = .ok (.idiv, 1) := by decide +kernel
theorem dX8_steps_20 : decode cX8_steps 20 = .ok (.isub, 1) := by decide +kernel
theorem dX8_steps_21 : decode cX8_steps 21 = .ok (.invokestatic 373, 3) := by decide +kernel
theorem dX8_steps_24 : decode cX8_steps 24 = .ok (.iadd, 1) := by decide +kernel
theorem dX8_steps_25 : decode cX8_steps 25 = .ok (.ireturn, 1) := by decide +kernel
theorem dX8_isShelf_0 : decode cX8_isShelf 0 = .ok (.iload_n 0, 1) := by decide +kernel
theorem dX8_isShelf_1 : decode cX8_isShelf 1 = .ok (.iconst 0, 1) := by decide +kernel
theorem dX8_isShelf_2 : decode cX8_isShelf 2 = .ok (.iconst 5, 1) := by decide +kernel
theorem dX8_isShelf_3 : decode cX8_isShelf 3 = .ok (.invokestatic 83, 3) := by decide +kernel
theorem dX8_isShelf_6 : decode cX8_isShelf 6 = .ok (.ireturn, 1) := by decide +kernel
theorem dX8_areShelves_0 : decode cX8_areShelves 0 = .ok (.iload_n 0, 1) := by decide +kernel
theorem dX8_areShelves_1 : decode cX8_areShelves 1 = .ok (.ifCond .lt 27, 3) := by decide +kernel
theorem dX8_areShelves_4 : decode cX8_areShelves 4 = .ok (.iload_n 0, 1) := by decide +kernel
theorem dX8_areShelves_5 : decode cX8_areShelves 5 = .ok (.bipush 10, 2) := by decide +kernel
theorem dX8_areShelves_7 : decode cX8_areShelves 7 = .ok (.idiv, 1) := by decide +kernel
theorem dX8_areShelves_8 : decode cX8_areShelves 8 = .ok (.invokestatic 79, 3) := by decide +kernel
theorem dX8_areShelves_11 : decode cX8_areShelves 11 = .ok (.ifCond .eq 17, 3) := by decide +kernel
theorem dX8_areShelves_14 : decode cX8_areShelves 14 = .ok (.iload_n 0, 1) := by decide +kernel
theorem dX8_areShelves_15 : decode cX8_areShelves 15 = .ok (.bipush 10, 2) := by decide +kernel
theorem dX8_areShelves_17 : decode cX8_areShelves 17 = .ok (.irem, 1) := by decide +kernel
theorem dX8_areShelves_18 : decode cX8_areShelves 18 = .ok (.invokestatic 79, 3) := by decide +kernel
theorem dX8_areShelves_21 : decode cX8_areShelves 21 = .ok (.ifCond .eq 7, 3) := by decide +kernel
theorem dX8_areShelves_24 : decode cX8_areShelves 24 = .ok (.iconst 1, 1) := by decide +kernel
theorem dX8_areShelves_25 : decode cX8_areShelves 25 = .ok (.goto 4, 3) := by decide +kernel
theorem dX8_areShelves_28 : decode cX8_areShelves 28 = .ok (.iconst 0, 1) := by decide +kernel
theorem dX8_areShelves_29 : decode cX8_areShelves 29 = .ok (.ireturn, 1) := by decide +kernel
theorem dX8_isSword_0 : decode cX8_isSword 0 = .ok (.iload_n 1, 1) := by decide +kernel
theorem dX8_isSword_1 : decode cX8_isSword 1 = .ok (.iconst 0, 1) := by decide +kernel
theorem dX8_isSword_2 : decode cX8_isSword 2 = .ok (.aload_n 0, 1) := by decide +kernel
theorem dX8_isSword_3 : decode cX8_isSword 3 = .ok (.getfield 10, 3) := by decide +kernel
theorem dX8_isSword_6 : decode cX8_isSword 6 = .ok (.getfield 71, 3) := by decide +kernel
theorem dX8_isSword_9 : decode cX8_isSword 9 = .ok (.iconst 1, 1) := by decide +kernel
theorem dX8_isSword_10 : decode cX8_isSword 10 = .ok (.isub, 1) := by decide +kernel
theorem dX8_isSword_11 : decode cX8_isSword 11 = .ok (.invokestatic 83, 3) := by decide +kernel
theorem dX8_isSword_14 : decode cX8_isSword 14 = .ok (.ireturn, 1) := by decide +kernel
theorem dX8_isMendable_0 : decode cX8_isMendable 0 = .ok (.iload_n 2, 1) := by decide +kernel
theorem dX8_isMendable_1 : decode cX8_isMendable 1 = .ok (.iconst 0, 1) := by decide +kernel
theorem dX8_isMendable_2 : decode cX8_isMendable 2 = .ok (.iconst 4, 1) := by decide +kernel
theorem dX8_isMendable_3 : decode cX8_isMendable 3 = .ok (.invokestatic 83, 3) := by decide +kernel
theorem dX8_isMendable_6 : decode cX8_isMendable 6 = .ok (.ifCond .eq 11, 3) := by decide +kernel
theorem dX8_isMendable_9 : decode cX8_isMendable 9 = .ok (.aload_n 0, 1) := by decide +kernel
theorem dX8_isMendable_10 : decode cX8_isMendable 10 = .ok (.iload_n 1, 1) := by decide +kernel
theorem dX8_isMendable_11 : decode cX8_isMendable 11 = .ok (.invokevirtual 141, 3) := by decide +kernel
theorem dX8_isMendable_14 : decode cX8_isMendable 14 = .ok (.goto 22, 3) := by decide +kernel
theorem dX8_isMendable_17 : decode cX8_isMendable 17 = .ok (.iload_n 2, 1) := by decide +kernel
theorem dX8_isMendable_18 : decode cX8_isMendable 18 = .ok (.iconst 5, 1) := by decide +kernel
theorem dX8_isMendable_19 : decode cX8_isMendable 19 = .ok (.bipush 7, 2) := by decide +kernel
theorem dX8_isMendable_21 : decode cX8_isMendable 21 = .ok (.invokestatic 83, 3) := by decide +kernel
theorem dX8_isMendable_24 : decode cX8_isMendable 24 = .ok (.ifCond .eq 11, 3) := by decide +kernel
theorem dX8_isMendable_27 : decode cX8_isMendable 27 = .ok (.iload_n 1, 1) := by decide +kernel
theorem dX8_isMendable_28 : decode cX8_isMendable 28 = .ok (.ifCond .ne 7, 3) := by decide +kernel
theorem dX8_isMendable_31 : decode cX8_isMendable 31 = .ok (.iconst 1, 1) := by decide +kernel
theorem dX8_isMendable_32 : decode cX8_isMendable 32 = .ok (.goto 4, 3) := by decide +kernel
theorem dX8_isMendable_35 : decode cX8_isMendable 35 = .ok (.iconst 0, 1) := by decide +kernel
theorem dX8_isMendable_36 : decode cX8_isMendable 36 = .ok (.ireturn, 1) := by decide +kernel
theorem dX8_refusalOfBytes_0 : decode cX8_refusalOfBytes 0 = .ok (.aload_n 0, 1) := by decide +kernel
theorem dX8_refusalOfBytes_1 : decode cX8_refusalOfBytes 1 = .ok (.invokevirtual 86, 3) := by decide +kernel
theorem dX8_refusalOfBytes_4 : decode cX8_refusalOfBytes 4 = .ok (.ifCond .eq 6, 3) := by decide +kernel
theorem dX8_refusalOfBytes_7 : decode cX8_refusalOfBytes 7 = .ok (.bipush (-11), 2) := by decide +kernel
theorem dX8_refusalOfBytes_9 : decode cX8_refusalOfBytes 9 = .ok (.ireturn, 1) := by decide +kernel
theorem dX8_refusalOfBytes_10 : decode cX8_refusalOfBytes 10 = .ok (.aload_n 0, 1) := by decide +kernel
theorem dX8_refusalOfBytes_11 : decode cX8_refusalOfBytes 11 = .ok (.invokevirtual 90, 3) := by decide +kernel
theorem dX8_refusalOfBytes_14 : decode cX8_refusalOfBytes 14 = .ok (.ifCond .eq 7, 3) := by decide +kernel
theorem dX8_refusalOfBytes_17 : decode cX8_refusalOfBytes 17 = .ok (.iconst 0, 1) := by decide +kernel
theorem dX8_refusalOfBytes_18 : decode cX8_refusalOfBytes 18 = .ok (.goto 5, 3) := by decide +kernel
theorem dX8_refusalOfBytes_21 : decode cX8_refusalOfBytes 21 = .ok (.bipush (-12), 2) := by decide +kernel
theorem dX8_refusalOfBytes_23 : decode cX8_refusalOfBytes 23 = .ok (.ireturn, 1) := by decide +kernel
theorem dX8_refusalOfBoth_0 : decode cX8_refusalOfBoth 0 = .ok (.aload_n 0, 1) := by decide +kernel
theorem dX8_refusalOfBoth_1 : decode cX8_refusalOfBoth 1 = .ok (.getfield 62, 3) := by decide +kernel
theorem dX8_refusalOfBoth_4 : decode cX8_refusalOfBoth 4 = .ok (.iload_n 1, 1) := by decide +kernel
theorem dX8_refusalOfBoth_5 : decode cX8_refusalOfBoth 5 = .ok (.bipush 10, 2) := by decide +kernel
theorem dX8_refusalOfBoth_7 : decode cX8_refusalOfBoth 7 = .ok (.idiv, 1) := by decide +kernel
theorem dX8_refusalOfBoth_8 : decode cX8_refusalOfBoth 8 = .ok (.aaload, 1) := by decide +kernel
theorem dX8_refusalOfBoth_9 : decode cX8_refusalOfBoth 9 = .ok (.invokestatic 149, 3) := by decide +kernel
theorem dX8_refusalOfBoth_12 : decode cX8_refusalOfBoth 12 = .ok (.istore_n 2, 1) := by decide +kernel
theorem dX8_refusalOfBoth_13 : decode cX8_refusalOfBoth 13 = .ok (.iload_n 2, 1) := by decide +kernel
theorem dX8_refusalOfBoth_14 : decode cX8_refusalOfBoth 14 = .ok (.ifCond .eq 7, 3) := by decide +kernel
theorem dX8_refusalOfBoth_17 : decode cX8_refusalOfBoth 17 = .ok (.iload_n 2, 1) := by decide +kernel
theorem dX8_refusalOfBoth_18 : decode cX8_refusalOfBoth 18 = .ok (.goto 15, 3) := by decide +kernel
theorem dX8_refusalOfBoth_21 : decode cX8_refusalOfBoth 21 = .ok (.aload_n 0, 1) := by decide +kernel
theorem dX8_refusalOfBoth_22 : decode cX8_refusalOfBoth 22 = .ok (.getfield 62, 3) := by decide +kernel
theorem dX8_refusalOfBoth_25 : decode cX8_refusalOfBoth 25 = .ok (.iload_n 1, 1) := by decide +kernel
theorem dX8_refusalOfBoth_26 : decode cX8_refusalOfBoth 26 = .ok (.bipush 10, 2) := by decide +kernel
theorem dX8_refusalOfBoth_28 : decode cX8_refusalOfBoth 28 = .ok (.irem, 1) := by decide +kernel
theorem dX8_refusalOfBoth_29 : decode cX8_refusalOfBoth 29 = .ok (.aaload, 1) := by decide +kernel
theorem dX8_refusalOfBoth_30 : decode cX8_refusalOfBoth 30 = .ok (.invokestatic 149, 3) := by decide +kernel
theorem dX8_refusalOfBoth_33 : decode cX8_refusalOfBoth 33 = .ok (.ireturn, 1) := by decide +kernel
theorem dX8_refusalOfElement_0 : decode cX8_refusalOfElement 0 = .ok (.iload_n 1, 1) := by decide +kernel
theorem dX8_refusalOfElement_1 : decode cX8_refusalOfElement 1 = .ok (.invokestatic 79, 3) := by decide +kernel
theorem dX8_refusalOfElement_4 : decode cX8_refusalOfElement 4 = .ok (.ifCond .ne 5, 3) := by decide +kernel
theorem dX8_refusalOfElement_7 : decode cX8_refusalOfElement 7 = .ok (.iconst (-1), 1) := by decide +kernel
theorem dX8_refusalOfElement_8 : decode cX8_refusalOfElement 8 = .ok (.ireturn, 1) := by decide +kernel
theorem dX8_refusalOfElement_9 : decode cX8_refusalOfElement 9 = .ok (.aload_n 0, 1) := by decide +kernel
theorem dX8_refusalOfElement_10 : decode cX8_refusalOfElement 10 = .ok (.getfield 62, 3) := by decide +kernel
theorem dX8_refusalOfElement_13 : decode cX8_refusalOfElement 13 = .ok (.iload_n 1, 1) := by decide +kernel
theorem dX8_refusalOfElement_14 : decode cX8_refusalOfElement 14 = .ok (.aaload, 1) := by decide +kernel
theorem dX8_refusalOfElement_15 : decode cX8_refusalOfElement 15 = .ok (.astore_n 3, 1) := by decide +kernel
theorem dX8_refusalOfElement_16 : decode cX8_refusalOfElement 16 = .ok (.aload_n 3, 1) := by decide +kernel
theorem dX8_refusalOfElement_17 : decode cX8_refusalOfElement 17 = .ok (.invokevirtual 86, 3) := by decide +kernel
theorem dX8_refusalOfElement_20 : decode cX8_refusalOfElement 20 = .ok (.ifCond .eq 6, 3) := by decide +kernel
theorem dX8_refusalOfElement_23 : decode cX8_refusalOfElement 23 = .ok (.bipush (-11), 2) := by decide +kernel
theorem dX8_refusalOfElement_25 : decode cX8_refusalOfElement 25 = .ok (.ireturn, 1) := by decide +kernel
theorem dX8_refusalOfElement_26 : decode cX8_refusalOfElement 26 = .ok (.aload_n 3, 1) := by decide +kernel
theorem dX8_refusalOfElement_27 : decode cX8_refusalOfElement 27 = .ok (.invokevirtual 346, 3) := by decide +kernel
theorem dX8_refusalOfElement_30 : decode cX8_refusalOfElement 30 = .ok (.ifCond .ne 6, 3) := by decide +kernel
theorem dX8_refusalOfElement_33 : decode cX8_refusalOfElement 33 = .ok (.bipush (-12), 2) := by decide +kernel
theorem dX8_refusalOfElement_35 : decode cX8_refusalOfElement 35 = .ok (.ireturn, 1) := by decide +kernel
theorem dX8_refusalOfElement_36 : decode cX8_refusalOfElement 36 = .ok (.aload_n 3, 1) := by decide +kernel
theorem dX8_refusalOfElement_37 : decode cX8_refusalOfElement 37 = .ok (.iload_n 2, 1) := by decide +kernel
theorem dX8_refusalOfElement_38 : decode cX8_refusalOfElement 38 = .ok (.iconst 1, 1) := by decide +kernel
theorem dX8_refusalOfElement_39 : decode cX8_refusalOfElement 39 = .ok (.invokevirtual 352, 3) := by decide +kernel
theorem dX8_refusalOfElement_42 : decode cX8_refusalOfElement 42 = .ok (.ifCond .eq 7, 3) := by decide +kernel
theorem dX8_refusalOfElement_45 : decode cX8_refusalOfElement 45 = .ok (.iconst 0, 1) := by decide +kernel
theorem dX8_refusalOfElement_46 : decode cX8_refusalOfElement 46 = .ok (.goto 5, 3) := by decide +kernel
theorem dX8_refusalOfElement_49 : decode cX8_refusalOfElement 49 = .ok (.bipush (-13), 2) := by decide +kernel
theorem dX8_refusalOfElement_51 : decode cX8_refusalOfElement 51 = .ok (.ireturn, 1) := by decide +kernel
theorem dX9_within_0 : decode cX9_within 0 = .ok (.lload_n 0, 1) := by decide +kernel
theorem dX9_within_1 : decode cX9_within 1 = .ok (.lload_n 2, 1) := by decide +kernel
theorem dX9_within_2 : decode cX9_within 2 = .ok (.lcmp, 1) := by decide +kernel
theorem dX9_within_3 : decode cX9_within 3 = .ok (.ifCond .lt 14, 3) := by decide +kernel
theorem dX9_within_6 : decode cX9_within 6 = .ok (.lload_n 0, 1) := by decide +kernel
theorem dX9_within_7 : decode cX9_within 7 = .ok (.lload 4, 2) := by decide +kernel
theorem dX9_within_9 : decode cX9_within 9 = .ok (.lcmp, 1) := by decide +kernel
theorem dX9_within_10 : decode cX9_within 10 = .ok (.ifCond .gt 7, 3) := by decide +kernel
theorem dX9_within_13 : decode cX9_within 13 = .ok (.iconst 1, 1) := by decide +kernel
theorem dX9_within_14 : decode cX9_within 14 = .ok (.goto 4, 3) := by decide +kernel
theorem dX9_within_17 : decode cX9_within 17 = .ok (.iconst 0, 1) := by decide +kernel
theorem dX9_within_18 : decode cX9_within 18 = .ok (.ireturn, 1) := by decide +kernel
theorem dX9_isIn_0 : decode cX9_isIn 0 = .ok (.iload_n 0, 1) := by decide +kernel
theorem dX9_isIn_1 : decode cX9_isIn 1 = .ok (.iload_n 1, 1) := by decide +kernel
theorem dX9_isIn_2 : decode cX9_isIn 2 = .ok (.ishr, 1) := by decide +kernel
theorem dX9_isIn_3 : decode cX9_isIn 3 = .ok (.iconst 1, 1) := by decide +kernel
theorem dX9_isIn_4 : decode cX9_isIn 4 = .ok (.iand, 1) := by decide +kernel
theorem dX9_isIn_5 : decode cX9_isIn 5 = .ok (.iconst 1, 1) := by decide +kernel
theorem dX9_isIn_6 : decode cX9_isIn 6 = .ok (.if_icmp .ne 7, 3) := by decide +kernel
theorem dX9_isIn_9 : decode cX9_isIn 9 = .ok (.iconst 1, 1) := by decide +kernel
theorem dX9_isIn_10 : decode cX9_isIn 10 = .ok (.goto 4, 3) := by decide +kernel
theorem dX9_isIn_13 : decode cX9_isIn 13 = .ok (.iconst 0, 1) := by decide +kernel
theorem dX9_isIn_14 : decode cX9_isIn 14 = .ok (.ireturn, 1) := by decide +kernel
theorem dX9_bitsOf_0 : decode cX9_bitsOf 0 = .ok (.iconst 0, 1) := by decide +kernel
theorem dX9_bitsOf_1 : decode cX9_bitsOf 1 = .ok (.istore_n 1, 1) := by decide +kernel
theorem dX9_bitsOf_2 : decode cX9_bitsOf 2 = .ok (.iconst 0, 1) := by decide +kernel
theorem dX9_bitsOf_3 : decode cX9_bitsOf 3 = .ok (.istore_n 2, 1) := by decide +kernel
theorem dX9_bitsOf_4 : decode cX9_bitsOf 4 = .ok (.iload_n 2, 1) := by decide +kernel
theorem dX9_bitsOf_5 : decode cX9_bitsOf 5 = .ok (.bipush 12, 2) := by decide +kernel
theorem dX9_bitsOf_7 : decode cX9_bitsOf 7 = .ok (.if_icmp .ge 17, 3) := by decide +kernel
theorem dX9_bitsOf_10 : decode cX9_bitsOf 10 = .ok (.iload_n 1, 1) := by decide +kernel
theorem dX9_bitsOf_11 : decode cX9_bitsOf 11 = .ok (.iload_n 0, 1) := by decide +kernel
theorem dX9_bitsOf_12 : decode cX9_bitsOf 12 = .ok (.iload_n 2, 1) := by decide +kernel
theorem dX9_bitsOf_13 : decode cX9_bitsOf 13 = .ok (.ishr, 1) := by decide +kernel
theorem dX9_bitsOf_14 : decode cX9_bitsOf 14 = .ok (.iconst 1, 1) := by decide +kernel
theorem dX9_bitsOf_15 : decode cX9_bitsOf 15 = .ok (.iand, 1) := by decide +kernel
theorem dX9_bitsOf_16 : decode cX9_bitsOf 16 = .ok (.iadd, 1) := by decide +kernel
theorem dX9_bitsOf_17 : decode cX9_bitsOf 17 = .ok (.istore_n 1, 1) := by decide +kernel
theorem dX9_bitsOf_18 : decode cX9_bitsOf 18 = .ok (.iinc 2 1, 3) := by decide +kernel
theorem dX9_bitsOf_21 : decode cX9_bitsOf 21 = .ok (.goto (-17), 3) := by decide +kernel
theorem dX9_bitsOf_24 : decode cX9_bitsOf 24 = .ok (.iload_n 1, 1) := by decide +kernel
theorem dX9_bitsOf_25 : decode cX9_bitsOf 25 = .ok (.ireturn, 1) := by decide +kernel
theorem dX9_sizeOf_0 : decode cX9_sizeOf 0 = .ok (.iload_n 0, 1) := by decide +kernel
theorem dX9_sizeOf_1 : decode cX9_sizeOf 1 = .ok (.ifCond .ge 8, 3) := by decide +kernel
theorem dX9_sizeOf_4 : decode cX9_sizeOf 4 = .ok (.iload_n 0, 1) := by decide +kernel
theorem dX9_sizeOf_5 : decode cX9_sizeOf 5 = .ok (.ineg, 1) := by decide +kernel
theorem dX9_sizeOf_6 : decode cX9_sizeOf 6 = .ok (.goto 4, 3) := by decide +kernel
theorem dX9_sizeOf_9 : decode cX9_sizeOf 9 = .ok (.iload_n 0, 1) := by decide +kernel
theorem dX9_sizeOf_10 : decode cX9_sizeOf 10 = .ok (.ireturn, 1) := by decide +kernel
theorem dX9_init_0 : decode cX9_init 0 = .ok (.aload_n 0, 1) := by decide +kernel
theorem dX9_init_1 : decode cX9_init 1 = .ok (.invokespecial 3, 3) := by decide +kernel
theorem dX9_init_4 : decode cX9_init 4 = .ok (.aload_n 0, 1) := by decide +kernel
theorem dX9_init_5 : decode cX9_init 5 = .ok (.bipush 53, 2) := by decide +kernel
theorem dX9_init_7 : decode cX9_init 7 = .ok (.newarray .int, 2) := by decide +kernel
theorem dX9_init_9 : decode cX9_init 9 = .ok (.putfield 9, 3) := by decide +kernel
theorem dX9_init_12 : decode cX9_init 12 = .ok (.aload_n 0, 1) := by decide +kernel
theorem dX9_init_13 : decode cX9_init 13 = .ok (.bipush 40, 2) := by decide +kernel
theorem dX9_init_15 : decode cX9_init 15 = .ok (.newarray .int, 2) := by decide +kernel
theorem dX9_init_17 : decode cX9_init 17 = .ok (.putfield 13, 3) := by decide +kernel
theorem dX9_init_20 : decode cX9_init 20 = .ok (.aload_n 0, 1) := by decide +kernel
theorem dX9_init_21 : decode cX9_init 21 = .ok (.bipush 40, 2) := by decide +kernel
theorem dX9_init_23 : decode cX9_init 23 = .ok (.newarray .int, 2) := by decide +kernel
theorem dX9_init_25 : decode cX9_init 25 = .ok (.putfield 16, 3) := by decide +kernel
theorem dX9_init_28 : decode cX9_init 28 = .ok (.aload_n 0, 1) := by decide +kernel
theorem dX9_init_29 : decode cX9_init 29 = .ok (.bipush 40, 2) := by decide +kernel
theorem dX9_init_31 : decode cX9_init 31 = .ok (.newarray .int, 2) := by decide +kernel
theorem dX9_init_33 : decode cX9_init 33 = .ok (.putfield 19, 3) := by decide +kernel
theorem dX9_init_36 : decode cX9_init 36 = .ok (.aload_n 0, 1) := by decide +kernel
theorem dX9_init_37 : decode cX9_init 37 = .ok (.bipush 120, 2) := by decide +kernel
theorem dX9_init_39 : decode cX9_init 39 = .ok (.newarray .int, 2) := by decide +kernel
theorem dX9_init_41 : decode cX9_init 41 = .ok (.putfield 22, 3) := by decide +kernel
theorem dX9_init_44 : decode cX9_init 44 = .ok (.aload_n 0, 1) := by decide +kernel
theorem dX9_init_45 : decode cX9_init 45 = .ok (.bipush 120, 2) := by decide +kernel
theorem dX9_init_47 : decode cX9_init 47 = .ok (.newarray .int, 2) := by decide +kernel
theorem dX9_init_49 : decode cX9_init 49 = .ok (.putfield 25, 3) := by decide +kernel
theorem dX9_init_52 : decode cX9_init 52 = .ok (.aload_n 0, 1) := by decide +kernel
theorem dX9_init_53 : decode cX9_init 53 = .ok (.bipush 6, 2) := by decide +kernel
theorem dX9_init_55 : decode cX9_init 55 = .ok (.newarray .int, 2) := by decide +kernel
theorem dX9_init_57 : decode cX9_init 57 = .ok (.putfield 28, 3) := by decide +kernel
theorem dX9_init_60 : decode cX9_init 60 = .ok (.aload_n 0, 1) := by decide +kernel
theorem dX9_init_61 : decode cX9_init 61 = .ok (.bipush 12, 2) := by decide +kernel
theorem dX9_init_63 : decode cX9_init 63 = .ok (.newarray .int, 2) := by decide +kernel
theorem dX9_init_65 : decode cX9_init 65 = .ok (.putfield 31, 3) := by decide +kernel
theorem dX9_init_68 : decode cX9_init 68 = .ok (.aload_n 0, 1) := by decide +kernel
theorem dX9_init_69 : decode cX9_init 69 = .ok (.bipush 10, 2) := by decide +kernel
theorem dX9_init_71 : decode cX9_init 71 = .ok (.newarray .int, 2) := by decide +kernel
theorem dX9_init_73 : decode cX9_init 73 = .ok (.putfield 34, 3) := by decide +kernel
theorem dX9_init_76 : decode cX9_init 76 = .ok (.aload_n 0, 1) := by decide +kernel
theorem dX9_init_77 : decode cX9_init 77 = .ok (.bipush 12, 2) := by decide +kernel
theorem dX9_init_79 : decode cX9_init 79 = .ok (.newarray .int, 2) := by decide +kernel
theorem dX9_init_81 : decode cX9_init 81 = .ok (.putfield 37, 3) := by decide +kernel
theorem dX9_init_84 : decode cX9_init 84 = .ok (.aload_n 0, 1) := by decide +kernel
theorem dX9_init_85 : decode cX9_init 85 = .ok (.bipush 12, 2) := by decide +kernel
theorem dX9_init_87 : decode cX9_init 87 = .ok (.newarray .int, 2) := by decide +kernel
theorem dX9_init_89 : decode cX9_init 89 = .ok (.putfield 40, 3) := by decide +kernel
theorem dX9_init_92 : decode cX9_init 92 = .ok (.aload_n 0, 1) := by decide +kernel
theorem dX9_init_93 : decode cX9_init 93 = .ok (.iconst 4, 1) := by decide +kernel
theorem dX9_init_94 : decode cX9_init 94 = .ok (.newarray .int, 2) := by decide +kernel
theorem dX9_init_96 : decode cX9_init 96 = .ok (.putfield 43, 3) := by decide +kernel
theorem dX9_init_99 : decode cX9_init 99 = .ok (.aload_n 0, 1) := by decide +kernel
theorem dX9_init_100 : decode cX9_init 100 = .ok (.iconst 3, 1) := by decide +kernel
theorem dX9_init_101 : decode cX9_init 101 = .ok (.newarray .int, 2) := by decide +kernel
theorem dX9_init_103 : decode cX9_init 103 = .ok (.putfield 46, 3) := by decide +kernel
theorem dX9_init_106 : decode cX9_init 106 = .ok (.aload_n 0, 1) := by decide +kernel
theorem dX9_init_107 : decode cX9_init 107 = .ok (.iconst 5, 1) := by decide +kernel
theorem dX9_init_108 : decode cX9_init 108 = .ok (.newarray .int, 2) := by decide +kernel
theorem dX9_init_110 : decode cX9_init 110 = .ok (.putfield 49, 3) := by decide +kernel
theorem dX9_init_113 : decode cX9_init 113 = .ok (.aload_n 0, 1) := by decide +kernel
theorem dX9_init_114 : decode cX9_init 114 = .ok (.bipush 53, 2) := by decide +kernel
theorem dX9_init_116 : decode cX9_init 116 = .ok (.newarray .int, 2) := by decide +kernel
theorem dX9_init_118 : decode cX9_init 118 = .ok (.putfield 52, 3) := by decide +kernel
theorem dX9_init_121 : decode cX9_init 121 = .ok (.aload_n 0, 1) := by decide +kernel
theorem dX9_init_122 : decode cX9_init 122 = .ok (.iconst 5, 1) := by decide +kernel
theorem dX9_init_123 : decode cX9_init 123 = .ok (.newarray .int, 2) := by decide +kernel
theorem dX9_init_125 : decode cX9_init 125 = .ok (.putfield 55, 3) := by decide +kernel
theorem dX9_init_128 : decode cX9_init 128 = .ok (.aload_n 0, 1) := by decide +kernel
theorem dX9_init_129 : decode cX9_init 129 = .ok (.bipush 50, 2) := by decide +kernel
theorem dX9_init_131 : decode cX9_init 131 = .ok (.newarray .int, 2) := by decide +kernel
theorem dX9_init_133 : decode cX9_init 133 = .ok (.putfield 58, 3) := by decide +kernel
theorem dX9_init_136 : decode cX9_init 136 = .ok (.aload_n 0, 1) := by decide +kernel
theorem dX9_init_137 : decode cX9_init 137 = .ok (.bipush 24, 2) := by decide +kernel
theorem dX9_init_139 : decode cX9_init 139 = .ok (.newarray .int, 2) := by decide +kernel
theorem dX9_init_141 : decode cX9_init 141 = .ok (.putfield 61, 3) := by decide +kernel
theorem dX9_init_144 : decode cX9_init 144 = .ok (.aload_n 0, 1) := by decide +kernel
theorem dX9_init_145 : decode cX9_init 145 = .ok (.bipush 6, 2) := by decide +kernel
theorem dX9_init_147 : decode cX9_init 147 = .ok (.newarray .int, 2) := by decide +kernel
theorem dX9_init_149 : decode cX9_init 149 = .ok (.putfield 64, 3) := by decide +kernel
theorem dX9_init_152 : decode cX9_init 152 = .ok (.aload_n 0, 1) := by decide +kernel
theorem dX9_init_153 : decode cX9_init 153 = .ok (.bipush 6, 2) := by decide +kernel
theorem dX9_init_155 : decode cX9_init 155 = .ok (.newarray .int, 2) := by decide +kernel
theorem dX9_init_157 : decode cX9_init 157 = .ok (.putfield 67, 3) := by decide +kernel
theorem dX9_init_160 : decode cX9_init 160 = .ok (.aload_n 0, 1) := by decide +kernel
theorem dX9_init_161 : decode cX9_init 161 = .ok (.sipush 360, 3) := by decide +kernel
theorem dX9_init_164 : decode cX9_init 164 = .ok (.newarray .long, 2) := by decide +kernel
theorem dX9_init_166 : decode cX9_init 166 = .ok (.putfield 70, 3) := by decide +kernel
theorem dX9_init_169 : decode cX9_init 169 = .ok (.aload_n 0, 1) := by decide +kernel
theorem dX9_init_170 : decode cX9_init 170 = .ok (.bipush 60, 2) := by decide +kernel
theorem dX9_init_172 : decode cX9_init 172 = .ok (.newarray .long, 2) := by decide +kernel
theorem dX9_init_174 : decode cX9_init 174 = .ok (.putfield 74, 3) := by decide +kernel
theorem dX9_init_177 : decode cX9_init 177 = .ok (.iconst 0, 1) := by decide +kernel
theorem dX9_init_178 : decode cX9_init 178 = .ok (.istore_n 1, 1) := by decide +kernel
theorem dX9_init_179 : decode cX9_init 179 = .ok (.iload_n 1, 1) := by decide +kernel
theorem dX9_init_180 : decode cX9_init 180 = .ok (.bipush 6, 2) := by decide +kernel
theorem dX9_init_182 : decode cX9_init 182 = .ok (.if_icmp .ge 16, 3) := by decide +kernel
theorem dX9_init_185 : decode cX9_init 185 = .ok (.aload_n 0, 1) := by decide +kernel
theorem dX9_init_186 : decode cX9_init 186 = .ok (.getfield 64, 3) := by decide +kernel
theorem dX9_init_189 : decode cX9_init 189 = .ok (.iload_n 1, 1) := by decide +kernel
theorem dX9_init_190 : decode cX9_init 190 = .ok (.iconst (-1), 1) := by decide +kernel
theorem dX9_init_191 : decode cX9_init 191 = .ok (.iastore, 1) := by decide +kernel
theorem dX9_init_192 : decode cX9_init 192 = .ok (.iinc 1 1, 3) := by decide +kernel
theorem dX9_init_195 : decode cX9_init 195 = .ok (.goto (-16), 3) := by decide +kernel
theorem dX9_init_198 : decode cX9_init 198 = .ok (.aload_n 0, 1) := by decide +kernel
theorem dX9_init_199 : decode cX9_init 199 = .ok (.iconst (-1), 1) := by decide +kernel
theorem dX9_init_200 : decode cX9_init 200 = .ok (.putfield 77, 3) := by decide +kernel
theorem dX9_init_203 : decode cX9_init 203 = .ok (.aload_n 0, 1) := by decide +kernel
theorem dX9_init_204 : decode cX9_init 204 = .ok (.getfield 9, 3) := by decide +kernel
theorem dX9_init_207 : decode cX9_init 207 = .ok (.bipush 51, 2) := by decide +kernel
theorem dX9_init_209 : decode cX9_init 209 = .ok (.bipush 10, 2) := by decide +kernel
theorem dX9_init_211 : decode cX9_init 211 = .ok (.iastore, 1) := by decide +kernel
theorem dX9_init_212 : decode cX9_init 212 = .ok (.return_, 1) := by decide +kernel
theorem dX9_becomes_0 : decode cX9_becomes 0 = .ok (.aload_n 0, 1) := by decide +kernel
theorem dX9_becomes_1 : decode cX9_becomes 1 = .ok (.getfield 9, 3) := by decide +kernel
theorem dX9_becomes_4 : decode cX9_becomes 4 = .ok (.iload_n 1, 1) := by decide +kernel
theorem dX9_becomes_5 : decode cX9_becomes 5 = .ok (.iaload, 1) := by decide +kernel
theorem dX9_becomes_6 : decode cX9_becomes 6 = .ok (.istore_n 3, 1) := by decide +kernel
theorem dX9_becomes_7 : decode cX9_becomes 7 = .ok (.iload_n 3, 1) := by decide +kernel
theorem dX9_becomes_8 : decode cX9_becomes 8 = .ok (.iload_n 2, 1) := by decide +kernel
theorem dX9_becomes_9 : decode cX9_becomes 9 = .ok (.if_icmp .ne 5, 3) := by decide +kernel
theorem dX9_becomes_12 : decode cX9_becomes 12 = .ok (.iload_n 3, 1) := by decide +kernel
theorem dX9_becomes_13 : decode cX9_becomes 13 = .ok (.ireturn, 1) := by decide +kernel
theorem dX9_becomes_14 : decode cX9_becomes 14 = .ok (.aload_n 0, 1) := by decide +kernel
theorem dX9_becomes_15 : decode cX9_becomes 15 = .ok (.getfield 81, 3) := by decide +kernel
theorem dX9_becomes_18 : decode cX9_becomes 18 = .ok (.bipush 40, 2) := by decide +kernel
theorem dX9_becomes_20 : decode cX9_becomes 20 = .ok (.if_icmp .ne 77, 3) := by decide +kernel
theorem dX9_becomes_23 : decode cX9_becomes 23 = .ok (.iconst 1, 1) := by decide +kernel
theorem dX9_becomes_24 : decode cX9_becomes 24 = .ok (.istore 4, 2) := by decide +kernel
theorem dX9_becomes_26 : decode cX9_becomes 26 = .ok (.iload 4, 2) := by decide +kernel
theorem dX9_becomes_28 : decode cX9_becomes 28 = .ok (.bipush 40, 2) := by decide +kernel
theorem dX9_becomes_30 : decode cX9_becomes 30 = .ok (.if_icmp .ge 57, 3) := by decide +kernel
theorem dX9_becomes_33 : decode cX9_becomes 33 = .ok (.aload_n 0, 1) := by decide +kernel
theorem dX9_becomes_34 : decode cX9_becomes 34 = .ok (.getfield 13, 3) := by decide +kernel
theorem dX9_becomes_37 : decode cX9_becomes 37 = .ok (.iload 4, 2) := by decide +kernel
theorem dX9_becomes_39 : decode cX9_becomes 39 = .ok (.iconst 1, 1) := by decide +kernel
theorem dX9_becomes_40 : decode cX9_becomes 40 = .ok (.isub, 1) := by decide +kernel
theorem dX9_becomes_41 : decode cX9_becomes 41 = .ok (.aload_n 0, 1) := by decide +kernel
theorem dX9_becomes_42 : decode cX9_becomes 42 = .ok (.getfield 13, 3) := by decide +kernel
theorem dX9_becomes_45 : decode cX9_becomes 45 = .ok (.iload 4, 2) := by decide +kernel
theorem dX9_becomes_47 : decode cX9_becomes 47 = .ok (.iaload, 1) := by decide +kernel
theorem dX9_becomes_48 : decode cX9_becomes 48 = .ok (.iastore, 1) := by decide +kernel
theorem dX9_becomes_49 : decode cX9_becomes 49 = .ok (.aload_n 0, 1) := by decide +kernel
theorem dX9_becomes_50 : decode cX9_becomes 50 = .ok (.getfield 16, 3) := by decide +kernel
theorem dX9_becomes_53 : decode cX9_becomes 53 = .ok (.iload 4, 2) := by decide +kernel
theorem dX9_becomes_55 : decode cX9_becomes 55 = .ok (.iconst 1, 1) := by decide +kernel
theorem dX9_becomes_56 : decode cX9_becomes 56 = .ok (.isub, 1) := by decide +kernel
theorem dX9_becomes_57 : decode cX9_becomes 57 = .ok (.aload_n 0, 1) := by decide +kernel
theorem dX9_becomes_58 : decode cX9_becomes 58 = .ok (.getfield 16, 3) := by decide +kernel
theorem dX9_becomes_61 : decode cX9_becomes 61 = .ok (.iload 4, 2) := by decide +kernel
theorem dX9_becomes_63 : decode cX9_becomes 63 = .ok (.iaload, 1) := by decide +kernel
theorem dX9_becomes_64 : decode cX9_becomes 64 = .ok (.iastore, 1) := by decide +kernel
theorem dX9_becomes_65 : decode cX9_becomes 65 = .ok (.aload_n 0, 1) := by decide +kernel
theorem dX9_becomes_66 : decode cX9_becomes 66 = .ok (.getfield 19, 3) := by decide +kernel
theorem dX9_becomes_69 : decode cX9_becomes 69 = .ok (.iload 4, 2) := by decide +kernel
theorem dX9_becomes_71 : decode cX9_becomes 71 = .ok (.iconst 1, 1) := by decide +kernel
theorem dX9_becomes_72 : decode cX9_becomes 72 = .ok (.isub, 1) := by decide +kernel
theorem dX9_becomes_73 : decode cX9_becomes 73 = .ok (.aload_n 0, 1) := by decide +kernel
theorem dX9_becomes_74 : decode cX9_becomes 74 = .ok (.getfield 19, 3) := by decide +kernel
theorem dX9_becomes_77 : decode cX9_becomes 77 = .ok (.iload 4, 2) := by decide +kernel
theorem dX9_becomes_79 : decode cX9_becomes 79 = .ok (.iaload, 1) := by decide +kernel
theorem dX9_becomes_80 : decode cX9_becomes 80 = .ok (.iastore, 1) := by decide +kernel
theorem dX9_becomes_81 : decode cX9_becomes 81 = .ok (.iinc 4 1, 3) := by decide +kernel
theorem dX9_becomes_84 : decode cX9_becomes 84 = .ok (.goto (-58), 3) := by decide +kernel
theorem dX9_becomes_87 : decode cX9_becomes 87 = .ok (.aload_n 0, 1) := by decide +kernel
theorem dX9_becomes_88 : decode cX9_becomes 88 = .ok (.dup, 1) := by decide +kernel
theorem dX9_becomes_89 : decode cX9_becomes 89 = .ok (.getfield 81, 3) := by decide +kernel
theorem dX9_becomes_92 : decode cX9_becomes 92 = .ok (.iconst 1, 1) := by decide +kernel
theorem dX9_becomes_93 : decode cX9_becomes 93 = .ok (.isub, 1) := by decide +kernel
theorem dX9_becomes_94 : decode cX9_becomes 94 = .ok (.putfield 81, 3) := by decide +kernel
theorem dX9_becomes_97 : decode cX9_becomes 97 = .ok (.aload_n 0, 1) := by decide +kernel
theorem dX9_becomes_98 : decode cX9_becomes 98 = .ok (.getfield 13, 3) := by decide +kernel
theorem dX9_becomes_101 : decode cX9_becomes 101 = .ok (.aload_n 0, 1) := by decide +kernel
theorem dX9_becomes_102 : decode cX9_becomes 102 = .ok (.getfield 81, 3) := by decide +kernel
theorem dX9_becomes_105 : decode cX9_becomes 105 = .ok (.iload_n 1, 1) := by decide +kernel
theorem dX9_becomes_106 : decode cX9_becomes 106 = .ok (.iastore, 1) := by decide +kernel
theorem dX9_becomes_107 : decode cX9_becomes 107 = .ok (.aload_n 0, 1) := by decide +kernel
theorem dX9_becomes_108 : decode cX9_becomes 108 = .ok (.getfield 16, 3) := by decide +kernel
theorem dX9_becomes_111 : decode cX9_becomes 111 = .ok (.aload_n 0, 1) := by decide +kernel
theorem dX9_becomes_112 : decode cX9_becomes 112 = .ok (.getfield 81, 3) := by decide +kernel
theorem dX9_becomes_115 : decode cX9_becomes 115 = .ok (.iload_n 3, 1) := by decide +kernel
theorem dX9_becomes_116 : decode cX9_becomes 116 = .ok (.iastore, 1) := by decide +kernel
theorem dX9_becomes_117 : decode cX9_becomes 117 = .ok (.aload_n 0, 1) := by decide +kernel
theorem dX9_becomes_118 : decode cX9_becomes 118 = .ok (.getfield 19, 3) := by decide +kernel
theorem dX9_becomes_121 : decode cX9_becomes 121 = .ok (.aload_n 0, 1) := by decide +kernel
theorem dX9_becomes_122 : decode cX9_becomes 122 = .ok (.getfield 81, 3) := by decide +kernel
theorem dX9_becomes_125 : decode cX9_becomes 125 = .ok (.iload_n 2, 1) := by decide +kernel
theorem dX9_becomes_126 : decode cX9_becomes 126 = .ok (.iastore, 1) := by decide +kernel
theorem dX9_becomes_127 : decode cX9_becomes 127 = .ok (.aload_n 0, 1) := by decide +kernel
theorem dX9_becomes_128 : decode cX9_becomes 128 = .ok (.dup, 1) := by decide +kernel
theorem dX9_becomes_129 : decode cX9_becomes 129 = .ok (.getfield 81, 3) := by decide +kernel
theorem dX9_becomes_132 : decode cX9_becomes 132 = .ok (.iconst 1, 1) := by decide +kernel
theorem dX9_becomes_133 : decode cX9_becomes 133 = .ok (.iadd, 1) := by decide +kernel
theorem dX9_becomes_134 : decode cX9_becomes 134 = .ok (.putfield 81, 3) := by decide +kernel
theorem dX9_becomes_137 : decode cX9_becomes 137 = .ok (.aload_n 0, 1) := by decide +kernel
theorem dX9_becomes_138 : decode cX9_becomes 138 = .ok (.aload_n 0, 1) := by decide +kernel
theorem dX9_becomes_139 : decode cX9_becomes 139 = .ok (.getfield 81, 3) := by decide +kernel
theorem dX9_becomes_142 : decode cX9_becomes 142 = .ok (.putfield 84, 3) := by decide +kernel
theorem dX9_becomes_145 : decode cX9_becomes 145 = .ok (.aload_n 0, 1) := by decide +kernel
theorem dX9_becomes_146 : decode cX9_becomes 146 = .ok (.getfield 9, 3) := by decide +kernel
theorem dX9_becomes_149 : decode cX9_becomes 149 = .ok (.iload_n 1, 1) := by decide +kernel
theorem dX9_becomes_150 : decode cX9_becomes 150 = .ok (.iload_n 2, 1) := by decide +kernel
theorem dX9_becomes_151 : decode cX9_becomes 151 = .ok (.iastore, 1) := by decide +kernel
theorem dX9_becomes_152 : decode cX9_becomes 152 = .ok (.iload_n 3, 1) := by decide +kernel
theorem dX9_becomes_153 : decode cX9_becomes 153 = .ok (.ireturn, 1) := by decide +kernel
theorem dX9_turns_0 : decode cX9_turns 0 = .ok (.iload_n 1, 1) := by decide +kernel
theorem dX9_turns_1 : decode cX9_turns 1 = .ok (.bipush 10, 2) := by decide +kernel
theorem dX9_turns_3 : decode cX9_turns 3 = .ok (.if_icmp .ge 20, 3) := by decide +kernel
theorem dX9_turns_6 : decode cX9_turns 6 = .ok (.aload_n 0, 1) := by decide +kernel
theorem dX9_turns_7 : decode cX9_turns 7 = .ok (.iload_n 2, 1) := by decide +kernel
theorem dX9_turns_8 : decode cX9_turns 8 = .ok (.invokevirtual 87, 3) := by decide +kernel
theorem dX9_turns_11 : decode cX9_turns 11 = .ok (.ifCond .lt 12, 3) := by decide +kernel
theorem dX9_turns_14 : decode cX9_turns 14 = .ok (.aload_n 0, 1) := by decide +kernel
theorem dX9_turns_15 : decode cX9_turns 15 = .ok (.iload_n 2, 1) := by decide +kernel
theorem dX9_turns_16 : decode cX9_turns 16 = .ok (.invokevirtual 87, 3) := by decide +kernel
theorem dX9_turns_19 : decode cX9_turns 19 = .ok (.iload_n 1, 1) := by decide +kernel
theorem dX9_turns_20 : decode cX9_turns 20 = .ok (.if_icmp .ne 10, 3) := by decide +kernel
theorem dX9_turns_23 : decode cX9_turns 23 = .ok (.aload_n 0, 1) := by decide +kernel
theorem dX9_turns_24 : decode cX9_turns 24 = .ok (.getfield 9, 3) := by decide +kernel
theorem dX9_turns_27 : decode cX9_turns 27 = .ok (.iload_n 1, 1) := by decide +kernel
theorem dX9_turns_28 : decode cX9_turns 28 = .ok (.iload_n 2, 1) := by decide +kernel
theorem dX9_turns_29 : decode cX9_turns 29 = .ok (.iastore, 1) := by decide +kernel
theorem dX9_turns_30 : decode cX9_turns 30 = .ok (.return_, 1) := by decide +kernel
end
section
theorem dX9_undo_0 : decode cX9_undo 0 = .ok (.aload_n 0, 1) := by decide +kernel
theorem dX9_undo_1 : decode cX9_undo 1 = .ok (.getfield 81, 3) := by decide +kernel
theorem dX9_undo_4 : decode cX9_undo 4 = .ok (.ifCond .ne 6, 3) := by decide +kernel
theorem dX9_undo_7 : decode cX9_undo 7 = .ok (.bipush (-5), 2) := by decide +kernel
theorem dX9_undo_9 : decode cX9_undo 9 = .ok (.ireturn, 1) := by decide +kernel
theorem dX9_undo_10 : decode cX9_undo 10 = .ok (.aload_n 0, 1) := by decide +kernel
theorem dX9_undo_11 : decode cX9_undo 11 = .ok (.dup, 1) := by decide +kernel
theorem dX9_undo_12 : decode cX9_undo 12 = .ok (.getfield 81, 3) := by decide +kernel
theorem dX9_undo_15 : decode cX9_undo 15 = .ok (.iconst 1, 1) := by decide +kernel
theorem dX9_undo_16 : decode cX9_undo 16 = .ok (.isub, 1) := by decide +kernel
theorem dX9_undo_17 : decode cX9_undo 17 = .ok (.putfield 81, 3) := by decide +kernel
theorem dX9_undo_20 : decode cX9_undo 20 = .ok (.aload_n 0, 1) := by decide +kernel
theorem dX9_undo_21 : decode cX9_undo 21 = .ok (.aload_n 0, 1) := by decide +kernel
theorem dX9_undo_22 : decode cX9_undo 22 = .ok (.getfield 13, 3) := by decide +kernel
theorem dX9_undo_25 : decode cX9_undo 25 = .ok (.aload_n 0, 1) := by decide +kernel
theorem dX9_undo_26 : decode cX9_undo 26 = .ok (.getfield 81, 3) := by decide +kernel
theorem dX9_undo_29 : decode cX9_undo 29 = .ok (.iaload, 1) := by decide +kernel
theorem dX9_undo_30 : decode cX9_undo 30 = .ok (.aload_n 0, 1) := by decide +kernel
theorem dX9_undo_31 : decode cX9_undo 31 = .ok (.getfield 16, 3) := by decide +kernel
theorem dX9_undo_34 : decode cX9_undo 34 = .ok (.aload_n 0, 1) := by decide +kernel
theorem dX9_undo_35 : decode cX9_undo 35 = .ok (.getfield 81, 3) := by decide +kernel
theorem dX9_undo_38 : decode cX9_undo 38 = .ok (.iaload, 1) := by decide +kernel
theorem dX9_undo_39 : decode cX9_undo 39 = .ok (.invokevirtual 91, 3) := by decide +kernel
theorem dX9_undo_42 : decode cX9_undo 42 = .ok (.aload_n 0, 1) := by decide +kernel
theorem dX9_undo_43 : decode cX9_undo 43 = .ok (.getfield 81, 3) := by decide +kernel
theorem dX9_undo_46 : decode cX9_undo 46 = .ok (.ireturn, 1) := by decide +kernel
theorem dX9_redo_0 : decode cX9_redo 0 = .ok (.aload_n 0, 1) := by decide +kernel
theorem dX9_redo_1 : decode cX9_redo 1 = .ok (.getfield 81, 3) := by decide +kernel
theorem dX9_redo_4 : decode cX9_redo 4 = .ok (.aload_n 0, 1) := by decide +kernel
theorem dX9_redo_5 : decode cX9_redo 5 = .ok (.getfield 84, 3) := by decide +kernel
theorem dX9_redo_8 : decode cX9_redo 8 = .ok (.if_icmp .ne 6, 3) := by decide +kernel
theorem dX9_redo_11 : decode cX9_redo 11 = .ok (.bipush (-5), 2) := by decide +kernel
theorem dX9_redo_13 : decode cX9_redo 13 = .ok (.ireturn, 1) := by decide +kernel
theorem dX9_redo_14 : decode cX9_redo 14 = .ok (.aload_n 0, 1) := by decide +kernel
theorem dX9_redo_15 : decode cX9_redo 15 = .ok (.aload_n 0, 1) := by decide +kernel
theorem dX9_redo_16 : decode cX9_redo 16 = .ok (.getfield 13, 3) := by decide +kernel
theorem dX9_redo_19 : decode cX9_redo 19 = .ok (.aload_n 0, 1) := by decide +kernel
theorem dX9_redo_20 : decode cX9_redo 20 = .ok (.getfield 81, 3) := by decide +kernel
theorem dX9_redo_23 : decode cX9_redo 23 = .ok (.iaload, 1) := by decide +kernel
theorem dX9_redo_24 : decode cX9_redo 24 = .ok (.aload_n 0, 1) := by decide +kernel
theorem dX9_redo_25 : decode cX9_redo 25 = .ok (.getfield 19, 3) := by decide +kernel
theorem dX9_redo_28 : decode cX9_redo 28 = .ok (.aload_n 0, 1) := by decide +kernel
theorem dX9_redo_29 : decode cX9_redo 29 = .ok (.getfield 81, 3) := by decide +kernel
theorem dX9_redo_32 : decode cX9_redo 32 = .ok (.iaload, 1) := by decide +kernel
theorem dX9_redo_33 : decode cX9_redo 33 = .ok (.invokevirtual 91, 3) := by decide +kernel
theorem dX9_redo_36 : decode cX9_redo 36 = .ok (.aload_n 0, 1) := by decide +kernel
theorem dX9_redo_37 : decode cX9_redo 37 = .ok (.dup, 1) := by decide +kernel
theorem dX9_redo_38 : decode cX9_redo 38 = .ok (.getfield 81, 3) := by decide +kernel
theorem dX9_redo_41 : decode cX9_redo 41 = .ok (.iconst 1, 1) := by decide +kernel
theorem dX9_redo_42 : decode cX9_redo 42 = .ok (.iadd, 1) := by decide +kernel
theorem dX9_redo_43 : decode cX9_redo 43 = .ok (.putfield 81, 3) := by decide +kernel
theorem dX9_redo_46 : decode cX9_redo 46 = .ok (.aload_n 0, 1) := by decide +kernel
theorem dX9_redo_47 : decode cX9_redo 47 = .ok (.getfield 84, 3) := by decide +kernel
theorem dX9_redo_50 : decode cX9_redo 50 = .ok (.aload_n 0, 1) := by decide +kernel
theorem dX9_redo_51 : decode cX9_redo 51 = .ok (.getfield 81, 3) := by decide +kernel
theorem dX9_redo_54 : decode cX9_redo 54 = .ok (.isub, 1) := by decide +kernel
theorem dX9_redo_55 : decode cX9_redo 55 = .ok (.ireturn, 1) := by decide +kernel
theorem dX9_isSword_0 : decode cX9_isSword 0 = .ok (.lload_n 1, 1) := by decide +kernel
theorem dX9_isSword_1 : decode cX9_isSword 1 = .ok (.lconst 0, 1) := by decide +kernel
theorem dX9_isSword_2 : decode cX9_isSword 2 = .ok (.aload_n 0, 1) := by decide +kernel
theorem dX9_isSword_3 : decode cX9_isSword 3 = .ok (.getfield 95, 3) := by decide +kernel
theorem dX9_isSword_6 : decode cX9_isSword 6 = .ok (.iconst 1, 1) := by decide +kernel
theorem dX9_isSword_7 : decode cX9_isSword 7 = .ok (.isub, 1) := by decide +kernel
theorem dX9_isSword_8 : decode cX9_isSword 8 = .ok (.i2l, 1) := by decide +kernel
theorem dX9_isSword_9 : decode cX9_isSword 9 = .ok (.invokestatic 98, 3) := by decide +kernel
theorem dX9_isSword_12 : decode cX9_isSword 12 = .ok (.ireturn, 1) := by decide +kernel
theorem dX9_isCot_0 : decode cX9_isCot 0 = .ok (.lload_n 0, 1) := by decide +kernel
theorem dX9_isCot_1 : decode cX9_isCot 1 = .ok (.lconst 0, 1) := by decide +kernel
theorem dX9_isCot_2 : decode cX9_isCot 2 = .ok (.ldc2_w 102, 3) := by decide +kernel
theorem dX9_isCot_5 : decode cX9_isCot 5 = .ok (.invokestatic 98, 3) := by decide +kernel
theorem dX9_isCot_8 : decode cX9_isCot 8 = .ok (.ireturn, 1) := by decide +kernel
theorem dX9_inCot_0 : decode cX9_inCot 0 = .ok (.iconst 0, 1) := by decide +kernel
theorem dX9_inCot_1 : decode cX9_inCot 1 = .ok (.istore_n 2, 1) := by decide +kernel
theorem dX9_inCot_2 : decode cX9_inCot 2 = .ok (.iload_n 2, 1) := by decide +kernel
theorem dX9_inCot_3 : decode cX9_inCot 3 = .ok (.aload_n 0, 1) := by decide +kernel
theorem dX9_inCot_4 : decode cX9_inCot 4 = .ok (.getfield 95, 3) := by decide +kernel
theorem dX9_inCot_7 : decode cX9_inCot 7 = .ok (.if_icmp .ge 21, 3) := by decide +kernel
theorem dX9_inCot_10 : decode cX9_inCot 10 = .ok (.aload_n 0, 1) := by decide +kernel
theorem dX9_inCot_11 : decode cX9_inCot 11 = .ok (.getfield 9, 3) := by decide +kernel
theorem dX9_inCot_14 : decode cX9_inCot 14 = .ok (.iload_n 2, 1) := by decide +kernel
theorem dX9_inCot_15 : decode cX9_inCot 15 = .ok (.iaload, 1) := by decide +kernel
theorem dX9_inCot_16 : decode cX9_inCot 16 = .ok (.iload_n 1, 1) := by decide +kernel
theorem dX9_inCot_17 : decode cX9_inCot 17 = .ok (.if_icmp .ne 5, 3) := by decide +kernel
theorem dX9_inCot_20 : decode cX9_inCot 20 = .ok (.iload_n 2, 1) := by decide +kernel
theorem dX9_inCot_21 : decode cX9_inCot 21 = .ok (.ireturn, 1) := by decide +kernel
theorem dX9_inCot_22 : decode cX9_inCot 22 = .ok (.iinc 2 1, 3) := by decide +kernel
theorem dX9_inCot_25 : decode cX9_inCot 25 = .ok (.goto (-23), 3) := by decide +kernel
theorem dX9_inCot_28 : decode cX9_inCot 28 = .ok (.iconst (-1), 1) := by decide +kernel
theorem dX9_inCot_29 : decode cX9_inCot 29 = .ok (.ireturn, 1) := by decide +kernel
theorem dX9_mayCome_0 : decode cX9_mayCome 0 = .ok (.lload_n 1, 1) := by decide +kernel
theorem dX9_mayCome_1 : decode cX9_mayCome 1 = .ok (.invokestatic 104, 3) := by decide +kernel
theorem dX9_mayCome_4 : decode cX9_mayCome 4 = .ok (.ifCond .eq 39, 3) := by decide +kernel
theorem dX9_mayCome_7 : decode cX9_mayCome 7 = .ok (.aload_n 0, 1) := by decide +kernel
theorem dX9_mayCome_8 : decode cX9_mayCome 8 = .ok (.lload_n 1, 1) := by decide +kernel
theorem dX9_mayCome_9 : decode cX9_mayCome 9 = .ok (.l2i, 1) := by decide +kernel
theorem dX9_mayCome_10 : decode cX9_mayCome 10 = .ok (.invokevirtual 87, 3) := by decide +kernel
theorem dX9_mayCome_13 : decode cX9_mayCome 13 = .ok (.ifCond .ge 30, 3) := by decide +kernel
theorem dX9_mayCome_16 : decode cX9_mayCome 16 = .ok (.lload_n 3, 1) := by decide +kernel
theorem dX9_mayCome_17 : decode cX9_mayCome 17 = .ok (.lconst 0, 1) := by decide +kernel
theorem dX9_mayCome_18 : decode cX9_mayCome 18 = .ok (.ldc2_w 108, 3) := by decide +kernel
theorem dX9_mayCome_21 : decode cX9_mayCome 21 = .ok (.invokestatic 98, 3) := by decide +kernel
theorem dX9_mayCome_24 : decode cX9_mayCome 24 = .ok (.ifCond .eq 19, 3) := by decide +kernel
theorem dX9_mayCome_27 : decode cX9_mayCome 27 = .ok (.lload 5, 2) := by decide +kernel
theorem dX9_mayCome_29 : decode cX9_mayCome 29 = .ok (.lconst 0, 1) := by decide +kernel
theorem dX9_mayCome_30 : decode cX9_mayCome 30 = .ok (.ldc2_w 110, 3) := by decide +kernel
theorem dX9_mayCome_33 : decode cX9_mayCome 33 = .ok (.invokestatic 98, 3) := by decide +kernel
theorem dX9_mayCome_36 : decode cX9_mayCome 36 = .ok (.ifCond .eq 7, 3) := by decide +kernel
theorem dX9_mayCome_39 : decode cX9_mayCome 39 = .ok (.iconst 1, 1) := by decide +kernel
theorem dX9_mayCome_40 : decode cX9_mayCome 40 = .ok (.goto 4, 3) := by decide +kernel
theorem dX9_mayCome_43 : decode cX9_mayCome 43 = .ok (.iconst 0, 1) := by decide +kernel
theorem dX9_mayCome_44 : decode cX9_mayCome 44 = .ok (.ireturn, 1) := by decide +kernel
theorem dX9_adds_0 : decode cX9_adds 0 = .ok (.aload_n 0, 1) := by decide +kernel
theorem dX9_adds_1 : decode cX9_adds 1 = .ok (.getfield 9, 3) := by decide +kernel
theorem dX9_adds_4 : decode cX9_adds 4 = .ok (.aload_n 0, 1) := by decide +kernel
theorem dX9_adds_5 : decode cX9_adds 5 = .ok (.getfield 95, 3) := by decide +kernel
theorem dX9_adds_8 : decode cX9_adds 8 = .ok (.iload_n 1, 1) := by decide +kernel
theorem dX9_adds_9 : decode cX9_adds 9 = .ok (.iastore, 1) := by decide +kernel
theorem dX9_adds_10 : decode cX9_adds 10 = .ok (.aload_n 0, 1) := by decide +kernel
theorem dX9_adds_11 : decode cX9_adds 11 = .ok (.getfield 9, 3) := by decide +kernel
theorem dX9_adds_14 : decode cX9_adds 14 = .ok (.bipush 10, 2) := by decide +kernel
theorem dX9_adds_16 : decode cX9_adds 16 = .ok (.aload_n 0, 1) := by decide +kernel
theorem dX9_adds_17 : decode cX9_adds 17 = .ok (.getfield 95, 3) := by decide +kernel
theorem dX9_adds_20 : decode cX9_adds 20 = .ok (.iadd, 1) := by decide +kernel
theorem dX9_adds_21 : decode cX9_adds 21 = .ok (.iload_n 2, 1) := by decide +kernel
theorem dX9_adds_22 : decode cX9_adds 22 = .ok (.iastore, 1) := by decide +kernel
theorem dX9_adds_23 : decode cX9_adds 23 = .ok (.aload_n 0, 1) := by decide +kernel
theorem dX9_adds_24 : decode cX9_adds 24 = .ok (.getfield 9, 3) := by decide +kernel
theorem dX9_adds_27 : decode cX9_adds 27 = .ok (.bipush 20, 2) := by decide +kernel
theorem dX9_adds_29 : decode cX9_adds 29 = .ok (.aload_n 0, 1) := by decide +kernel
theorem dX9_adds_30 : decode cX9_adds 30 = .ok (.getfield 95, 3) := by decide +kernel
theorem dX9_adds_33 : decode cX9_adds 33 = .ok (.iadd, 1) := by decide +kernel
theorem dX9_adds_34 : decode cX9_adds 34 = .ok (.iload_n 3, 1) := by decide +kernel
theorem dX9_adds_35 : decode cX9_adds 35 = .ok (.iastore, 1) := by decide +kernel
theorem dX9_adds_36 : decode cX9_adds 36 = .ok (.aload_n 0, 1) := by decide +kernel
theorem dX9_adds_37 : decode cX9_adds 37 = .ok (.getfield 9, 3) := by decide +kernel
theorem dX9_adds_40 : decode cX9_adds 40 = .ok (.bipush 30, 2) := by decide +kernel
theorem dX9_adds_42 : decode cX9_adds 42 = .ok (.aload_n 0, 1) := by decide +kernel
theorem dX9_adds_43 : decode cX9_adds 43 = .ok (.getfield 95, 3) := by decide +kernel
theorem dX9_adds_46 : decode cX9_adds 46 = .ok (.iadd, 1) := by decide +kernel
theorem dX9_adds_47 : decode cX9_adds 47 = .ok (.bipush 20, 2) := by decide +kernel
theorem dX9_adds_49 : decode cX9_adds 49 = .ok (.iastore, 1) := by decide +kernel
theorem dX9_adds_50 : decode cX9_adds 50 = .ok (.aload_n 0, 1) := by decide +kernel
theorem dX9_adds_51 : decode cX9_adds 51 = .ok (.dup, 1) := by decide +kernel
theorem dX9_adds_52 : decode cX9_adds 52 = .ok (.getfield 95, 3) := by decide +kernel
theorem dX9_adds_55 : decode cX9_adds 55 = .ok (.iconst 1, 1) := by decide +kernel
theorem dX9_adds_56 : decode cX9_adds 56 = .ok (.iadd, 1) := by decide +kernel
theorem dX9_adds_57 : decode cX9_adds 57 = .ok (.putfield 95, 3) := by decide +kernel
theorem dX9_adds_60 : decode cX9_adds 60 = .ok (.return_, 1) := by decide +kernel
theorem dX9_sword_0 : decode cX9_sword 0 = .ok (.aload_n 0, 1) := by decide +kernel
theorem dX9_sword_1 : decode cX9_sword 1 = .ok (.iload_n 1, 1) := by decide +kernel
theorem dX9_sword_2 : decode cX9_sword 2 = .ok (.i2l, 1) := by decide +kernel
theorem dX9_sword_3 : decode cX9_sword 3 = .ok (.iload_n 2, 1) := by decide +kernel
theorem dX9_sword_4 : decode cX9_sword 4 = .ok (.i2l, 1) := by decide +kernel
theorem dX9_sword_5 : decode cX9_sword 5 = .ok (.lconst 0, 1) := by decide +kernel
theorem dX9_sword_6 : decode cX9_sword 6 = .ok (.invokevirtual 112, 3) := by decide +kernel
theorem dX9_sword_9 : decode cX9_sword 9 = .ok (.ifCond .ne 5, 3) := by decide +kernel
theorem dX9_sword_12 : decode cX9_sword 12 = .ok (.iconst (-1), 1) := by decide +kernel
theorem dX9_sword_13 : decode cX9_sword 13 = .ok (.ireturn, 1) := by decide +kernel
theorem dX9_sword_14 : decode cX9_sword 14 = .ok (.aload_n 0, 1) := by decide +kernel
theorem dX9_sword_15 : decode cX9_sword 15 = .ok (.getfield 95, 3) := by decide +kernel
theorem dX9_sword_18 : decode cX9_sword 18 = .ok (.bipush 10, 2) := by decide +kernel
theorem dX9_sword_20 : decode cX9_sword 20 = .ok (.if_icmp .ne 6, 3) := by decide +kernel
theorem dX9_sword_23 : decode cX9_sword 23 = .ok (.bipush (-3), 2) := by decide +kernel
theorem dX9_sword_25 : decode cX9_sword 25 = .ok (.ireturn, 1) := by decide +kernel
theorem dX9_sword_26 : decode cX9_sword 26 = .ok (.aload_n 0, 1) := by decide +kernel
theorem dX9_sword_27 : decode cX9_sword 27 = .ok (.iload_n 1, 1) := by decide +kernel
theorem dX9_sword_28 : decode cX9_sword 28 = .ok (.iload_n 2, 1) := by decide +kernel
theorem dX9_sword_29 : decode cX9_sword 29 = .ok (.bipush 50, 2) := by decide +kernel
theorem dX9_sword_31 : decode cX9_sword 31 = .ok (.invokevirtual 115, 3) := by decide +kernel
theorem dX9_sword_34 : decode cX9_sword 34 = .ok (.aload_n 0, 1) := by decide +kernel
theorem dX9_sword_35 : decode cX9_sword 35 = .ok (.getfield 95, 3) := by decide +kernel
theorem dX9_sword_38 : decode cX9_sword 38 = .ok (.iconst 1, 1) := by decide +kernel
theorem dX9_sword_39 : decode cX9_sword 39 = .ok (.isub, 1) := by decide +kernel
theorem dX9_sword_40 : decode cX9_sword 40 = .ok (.ireturn, 1) := by decide +kernel
theorem dX9_swords_0 : decode cX9_swords 0 = .ok (.iload_n 1, 1) := by decide +kernel
theorem dX9_swords_1 : decode cX9_swords 1 = .ok (.invokestatic 119, 3) := by decide +kernel
theorem dX9_swords_4 : decode cX9_swords 4 = .ok (.ifCond .eq 15, 3) := by decide +kernel
theorem dX9_swords_7 : decode cX9_swords 7 = .ok (.iload_n 3, 1) := by decide +kernel
theorem dX9_swords_8 : decode cX9_swords 8 = .ok (.i2l, 1) := by decide +kernel
theorem dX9_swords_9 : decode cX9_swords 9 = .ok (.lconst 1, 1) := by decide +kernel
theorem dX9_swords_10 : decode cX9_swords 10 = .ok (.ldc2_w 123, 3) := by decide +kernel
theorem dX9_swords_13 : decode cX9_swords 13 = .ok (.invokestatic 98, 3) := by decide +kernel
theorem dX9_swords_16 : decode cX9_swords 16 = .ok (.ifCond .ne 5, 3) := by decide +kernel
theorem dX9_swords_19 : decode cX9_swords 19 = .ok (.iconst (-1), 1) := by decide +kernel
theorem dX9_swords_20 : decode cX9_swords 20 = .ok (.ireturn, 1) := by decide +kernel
theorem dX9_swords_21 : decode cX9_swords 21 = .ok (.aload_n 0, 1) := by decide +kernel
theorem dX9_swords_22 : decode cX9_swords 22 = .ok (.getfield 64, 3) := by decide +kernel
theorem dX9_swords_25 : decode cX9_swords 25 = .ok (.iload_n 1, 1) := by decide +kernel
theorem dX9_swords_26 : decode cX9_swords 26 = .ok (.iaload, 1) := by decide +kernel
theorem dX9_swords_27 : decode cX9_swords 27 = .ok (.ifCond .lt 17, 3) := by decide +kernel
theorem dX9_swords_30 : decode cX9_swords 30 = .ok (.aload_n 0, 1) := by decide +kernel
theorem dX9_swords_31 : decode cX9_swords 31 = .ok (.getfield 64, 3) := by decide +kernel
theorem dX9_swords_34 : decode cX9_swords 34 = .ok (.iload_n 1, 1) := by decide +kernel
theorem dX9_swords_35 : decode cX9_swords 35 = .ok (.iaload, 1) := by decide +kernel
theorem dX9_swords_36 : decode cX9_swords 36 = .ok (.bipush 50, 2) := by decide +kernel
theorem dX9_swords_38 : decode cX9_swords 38 = .ok (.if_icmp .eq 6, 3) := by decide +kernel
theorem dX9_swords_41 : decode cX9_swords 41 = .ok (.bipush (-12), 2) := by decide +kernel
theorem dX9_swords_43 : decode cX9_swords 43 = .ok (.ireturn, 1) := by decide +kernel
theorem dX9_swords_44 : decode cX9_swords 44 = .ok (.iconst 0, 1) := by decide +kernel
theorem dX9_swords_45 : decode cX9_swords 45 = .ok (.istore 4, 2) := by decide +kernel
theorem dX9_swords_47 : decode cX9_swords 47 = .ok (.aload_n 0, 1) := by decide +kernel
theorem dX9_swords_48 : decode cX9_swords 48 = .ok (.getfield 64, 3) := by decide +kernel
theorem dX9_swords_51 : decode cX9_swords 51 = .ok (.iload_n 1, 1) := by decide +kernel
theorem dX9_swords_52 : decode cX9_swords 52 = .ok (.iaload, 1) := by decide +kernel
theorem dX9_swords_53 : decode cX9_swords 53 = .ok (.bipush 50, 2) := by decide +kernel
theorem dX9_swords_55 : decode cX9_swords 55 = .ok (.if_icmp .ne 11, 3) := by decide +kernel
theorem dX9_swords_58 : decode cX9_swords 58 = .ok (.iload_n 2, 1) := by decide +kernel
theorem dX9_swords_59 : decode cX9_swords 59 = .ok (.ifCond .lt 7, 3) := by decide +kernel
theorem dX9_swords_62 : decode cX9_swords 62 = .ok (.iconst 1, 1) := by decide +kernel
theorem dX9_swords_63 : decode cX9_swords 63 = .ok (.goto 4, 3) := by decide +kernel
theorem dX9_swords_66 : decode cX9_swords 66 = .ok (.iconst 0, 1) := by decide +kernel
theorem dX9_swords_67 : decode cX9_swords 67 = .ok (.istore 5, 2) := by decide +kernel
theorem dX9_swords_69 : decode cX9_swords 69 = .ok (.iload 5, 2) := by decide +kernel
theorem dX9_swords_71 : decode cX9_swords 71 = .ok (.ifCond .eq 142, 3) := by decide +kernel
theorem dX9_swords_74 : decode cX9_swords 74 = .ok (.iload 4, 2) := by decide +kernel
theorem dX9_swords_76 : decode cX9_swords 76 = .ok (.iload_n 3, 1) := by decide +kernel
theorem dX9_swords_77 : decode cX9_swords 77 = .ok (.if_icmp .ge 136, 3) := by decide +kernel
theorem dX9_swords_80 : decode cX9_swords 80 = .ok (.iload_n 2, 1) := by decide +kernel
theorem dX9_swords_81 : decode cX9_swords 81 = .ok (.aload_n 0, 1) := by decide +kernel
theorem dX9_swords_82 : decode cX9_swords 82 = .ok (.getfield 67, 3) := by decide +kernel
theorem dX9_swords_85 : decode cX9_swords 85 = .ok (.iload_n 1, 1) := by decide +kernel
theorem dX9_swords_86 : decode cX9_swords 86 = .ok (.iaload, 1) := by decide +kernel
theorem dX9_swords_87 : decode cX9_swords 87 = .ok (.iconst 3, 1) := by decide +kernel
theorem dX9_swords_88 : decode cX9_swords 88 = .ok (.isub, 1) := by decide +kernel
theorem dX9_swords_89 : decode cX9_swords 89 = .ok (.iconst 3, 1) := by decide +kernel
theorem dX9_swords_90 : decode cX9_swords 90 = .ok (.iload 4, 2) := by decide +kernel
theorem dX9_swords_92 : decode cX9_swords 92 = .ok (.imul, 1) := by decide +kernel
theorem dX9_swords_93 : decode cX9_swords 93 = .ok (.isub, 1) := by decide +kernel
theorem dX9_swords_94 : decode cX9_swords 94 = .ok (.if_icmp .gt 16, 3) := by decide +kernel
theorem dX9_swords_97 : decode cX9_swords 97 = .ok (.aload_n 0, 1) := by decide +kernel
theorem dX9_swords_98 : decode cX9_swords 98 = .ok (.getfield 95, 3) := by decide +kernel
theorem dX9_swords_101 : decode cX9_swords 101 = .ok (.bipush 10, 2) := by decide +kernel
theorem dX9_swords_103 : decode cX9_swords 103 = .ok (.if_icmp .ge 7, 3) := by decide +kernel
theorem dX9_swords_106 : decode cX9_swords 106 = .ok (.iconst 1, 1) := by decide +kernel
theorem dX9_swords_107 : decode cX9_swords 107 = .ok (.goto 4, 3) := by decide +kernel
theorem dX9_swords_110 : decode cX9_swords 110 = .ok (.iconst 0, 1) := by decide +kernel
theorem dX9_swords_111 : decode cX9_swords 111 = .ok (.istore 5, 2) := by decide +kernel
theorem dX9_swords_113 : decode cX9_swords 113 = .ok (.bipush 60, 2) := by decide +kernel
theorem dX9_swords_115 : decode cX9_swords 115 = .ok (.iload_n 1, 1) := by decide +kernel
theorem dX9_swords_116 : decode cX9_swords 116 = .ok (.imul, 1) := by decide +kernel
theorem dX9_swords_117 : decode cX9_swords 117 = .ok (.iload_n 2, 1) := by decide +kernel
theorem dX9_swords_118 : decode cX9_swords 118 = .ok (.iadd, 1) := by decide +kernel
theorem dX9_swords_119 : decode cX9_swords 119 = .ok (.iconst 3, 1) := by decide +kernel
theorem dX9_swords_120 : decode cX9_swords 120 = .ok (.iload 4, 2) := by decide +kernel
theorem dX9_swords_122 : decode cX9_swords 122 = .ok (.imul, 1) := by decide +kernel
theorem dX9_swords_123 : decode cX9_swords 123 = .ok (.iadd, 1) := by decide +kernel
theorem dX9_swords_124 : decode cX9_swords 124 = .ok (.istore 6, 2) := by decide +kernel
theorem dX9_swords_126 : decode cX9_swords 126 = .ok (.iload 5, 2) := by decide +kernel
theorem dX9_swords_128 : decode cX9_swords 128 = .ok (.ifCond .eq 39, 3) := by decide +kernel
theorem dX9_swords_131 : decode cX9_swords 131 = .ok (.aload_n 0, 1) := by decide +kernel
theorem dX9_swords_132 : decode cX9_swords 132 = .ok (.aload_n 0, 1) := by decide +kernel
theorem dX9_swords_133 : decode cX9_swords 133 = .ok (.getfield 70, 3) := by decide +kernel
theorem dX9_swords_136 : decode cX9_swords 136 = .ok (.iload 6, 2) := by decide +kernel
theorem dX9_swords_138 : decode cX9_swords 138 = .ok (.laload, 1) := by decide +kernel
theorem dX9_swords_139 : decode cX9_swords 139 = .ok (.aload_n 0, 1) := by decide +kernel
theorem dX9_swords_140 : decode cX9_swords 140 = .ok (.getfield 70, 3) := by decide +kernel
theorem dX9_swords_143 : decode cX9_swords 143 = .ok (.iload 6, 2) := by decide +kernel
theorem dX9_swords_145 : decode cX9_swords 145 = .ok (.iconst 1, 1) := by decide +kernel
theorem dX9_swords_146 : decode cX9_swords 146 = .ok (.iadd, 1) := by decide +kernel
theorem dX9_swords_147 : decode cX9_swords 147 = .ok (.laload, 1) := by decide +kernel
theorem dX9_swords_148 : decode cX9_swords 148 = .ok (.aload_n 0, 1) := by decide +kernel
theorem dX9_swords_149 : decode cX9_swords 149 = .ok (.getfield 70, 3) := by decide +kernel
theorem dX9_swords_152 : decode cX9_swords 152 = .ok (.iload 6, 2) := by decide +kernel
theorem dX9_swords_154 : decode cX9_swords 154 = .ok (.iconst 2, 1) := by decide +kernel
theorem dX9_swords_155 : decode cX9_swords 155 = .ok (.iadd, 1) := by decide +kernel
theorem dX9_swords_156 : decode cX9_swords 156 = .ok (.laload, 1) := by decide +kernel
theorem dX9_swords_157 : decode cX9_swords 157 = .ok (.invokevirtual 112, 3) := by decide +kernel
theorem dX9_swords_160 : decode cX9_swords 160 = .ok (.ifCond .eq 7, 3) := by decide +kernel
theorem dX9_swords_163 : decode cX9_swords 163 = .ok (.iconst 1, 1) := by decide +kernel
theorem dX9_swords_164 : decode cX9_swords 164 = .ok (.goto 4, 3) := by decide +kernel
theorem dX9_swords_167 : decode cX9_swords 167 = .ok (.iconst 0, 1) := by decide +kernel
theorem dX9_swords_168 : decode cX9_swords 168 = .ok (.istore 5, 2) := by decide +kernel
theorem dX9_swords_170 : decode cX9_swords 170 = .ok (.iload 5, 2) := by decide +kernel
theorem dX9_swords_172 : decode cX9_swords 172 = .ok (.ifCond .eq 38, 3) := by decide +kernel
theorem dX9_swords_175 : decode cX9_swords 175 = .ok (.aload_n 0, 1) := by decide +kernel
theorem dX9_swords_176 : decode cX9_swords 176 = .ok (.aload_n 0, 1) := by decide +kernel
theorem dX9_swords_177 : decode cX9_swords 177 = .ok (.getfield 70, 3) := by decide +kernel
theorem dX9_swords_180 : decode cX9_swords 180 = .ok (.iload 6, 2) := by decide +kernel
theorem dX9_swords_182 : decode cX9_swords 182 = .ok (.laload, 1) := by decide +kernel
theorem dX9_swords_183 : decode cX9_swords 183 = .ok (.l2i, 1) := by decide +kernel
theorem dX9_swords_184 : decode cX9_swords 184 = .ok (.aload_n 0, 1) := by decide +kernel
theorem dX9_swords_185 : decode cX9_swords 185 = .ok (.getfield 70, 3) := by decide +kernel
theorem dX9_swords_188 : decode cX9_swords 188 = .ok (.iload 6, 2) := by decide +kernel
theorem dX9_swords_190 : decode cX9_swords 190 = .ok (.iconst 1, 1) := by decide +kernel
theorem dX9_swords_191 : decode cX9_swords 191 = .ok (.iadd, 1) := by decide +kernel
theorem dX9_swords_192 : decode cX9_swords 192 = .ok (.laload, 1) := by decide +kernel
theorem dX9_swords_193 : decode cX9_swords 193 = .ok (.l2i, 1) := by decide +kernel
theorem dX9_swords_194 : decode cX9_swords 194 = .ok (.aload_n 0, 1) := by decide +kernel
theorem dX9_swords_195 : decode cX9_swords 195 = .ok (.getfield 70, 3) := by decide +kernel
theorem dX9_swords_198 : decode cX9_swords 198 = .ok (.iload 6, 2) := by decide +kernel
theorem dX9_swords_200 : decode cX9_swords 200 = .ok (.iconst 2, 1) := by decide +kernel
theorem dX9_swords_201 : decode cX9_swords 201 = .ok (.iadd, 1) := by decide +kernel
theorem dX9_swords_202 : decode cX9_swords 202 = .ok (.laload, 1) := by decide +kernel
theorem dX9_swords_203 : decode cX9_swords 203 = .ok (.l2i, 1) := by decide +kernel
theorem dX9_swords_204 : decode cX9_swords 204 = .ok (.invokevirtual 115, 3) := by decide +kernel
theorem dX9_swords_207 : decode cX9_swords 207 = .ok (.iinc 4 1, 3) := by decide +kernel
theorem dX9_swords_210 : decode cX9_swords 210 = .ok (.goto (-141), 3) := by decide +kernel
theorem dX9_swords_213 : decode cX9_swords 213 = .ok (.iload 4, 2) := by decide +kernel
theorem dX9_swords_215 : decode cX9_swords 215 = .ok (.ireturn, 1) := by decide +kernel
theorem dX9_placeOf_0 : decode cX9_placeOf 0 = .ok (.iload_n 2, 1) := by decide +kernel
theorem dX9_placeOf_1 : decode cX9_placeOf 1 = .ok (.i2l, 1) := by decide +kernel
theorem dX9_placeOf_2 : decode cX9_placeOf 2 = .ok (.lconst 0, 1) := by decide +kernel
theorem dX9_placeOf_3 : decode cX9_placeOf 3 = .ok (.ldc2_w 125, 3) := by decide +kernel
theorem dX9_placeOf_6 : decode cX9_placeOf 6 = .ok (.invokestatic 98, 3) := by decide +kernel
theorem dX9_placeOf_9 : decode cX9_placeOf 9 = .ok (.ifCond .eq 23, 3) := by decide +kernel
theorem dX9_placeOf_12 : decode cX9_placeOf 12 = .ok (.aload_n 0, 1) := by decide +kernel
theorem dX9_placeOf_13 : decode cX9_placeOf 13 = .ok (.iload_n 1, 1) := by decide +kernel
theorem dX9_placeOf_14 : decode cX9_placeOf 14 = .ok (.i2l, 1) := by decide +kernel
theorem dX9_placeOf_15 : decode cX9_placeOf 15 = .ok (.invokevirtual 127, 3) := by decide +kernel
theorem dX9_placeOf_18 : decode cX9_placeOf 18 = .ok (.ifCond .eq 12, 3) := by decide +kernel
theorem dX9_placeOf_21 : decode cX9_placeOf 21 = .ok (.bipush 10, 2) := by decide +kernel
theorem dX9_placeOf_23 : decode cX9_placeOf 23 = .ok (.iload_n 2, 1) := by decide +kernel
theorem dX9_placeOf_24 : decode cX9_placeOf 24 = .ok (.imul, 1) := by decide +kernel
theorem dX9_placeOf_25 : decode cX9_placeOf 25 = .ok (.iload_n 1, 1) := by decide +kernel
theorem dX9_placeOf_26 : decode cX9_placeOf 26 = .ok (.iadd, 1) := by decide +kernel
theorem dX9_placeOf_27 : decode cX9_placeOf 27 = .ok (.goto 4, 3) := by decide +kernel
theorem dX9_placeOf_30 : decode cX9_placeOf 30 = .ok (.iconst (-1), 1) := by decide +kernel
theorem dX9_placeOf_31 : decode cX9_placeOf 31 = .ok (.ireturn, 1) := by decide +kernel
theorem dX9_placeOf_32 : decode cX9_placeOf 32 = .ok (.iload_n 1, 1) := by decide +kernel
theorem dX9_placeOf_33 : decode cX9_placeOf 33 = .ok (.ifCond .ne 26, 3) := by decide +kernel
theorem dX9_placeOf_36 : decode cX9_placeOf 36 = .ok (.iload_n 2, 1) := by decide +kernel
theorem dX9_placeOf_37 : decode cX9_placeOf 37 = .ok (.i2l, 1) := by decide +kernel
theorem dX9_placeOf_38 : decode cX9_placeOf 38 = .ok (.ldc2_w 130, 3) := by decide +kernel
theorem dX9_placeOf_41 : decode cX9_placeOf 41 = .ok (.ldc2_w 132, 3) := by decide +kernel
theorem dX9_placeOf_44 : decode cX9_placeOf 44 = .ok (.invokestatic 98, 3) := by decide +kernel
theorem dX9_placeOf_47 : decode cX9_placeOf 47 = .ok (.ifCond .eq 12, 3) := by decide +kernel
theorem dX9_placeOf_50 : decode cX9_placeOf 50 = .ok (.bipush 50, 2) := by decide +kernel
theorem dX9_placeOf_52 : decode cX9_placeOf 52 = .ok (.iload_n 2, 1) := by decide +kernel
theorem dX9_placeOf_53 : decode cX9_placeOf 53 = .ok (.iadd, 1) := by decide +kernel
theorem dX9_placeOf_54 : decode cX9_placeOf 54 = .ok (.iconst 5, 1) := by decide +kernel
theorem dX9_placeOf_55 : decode cX9_placeOf 55 = .ok (.isub, 1) := by decide +kernel
theorem dX9_placeOf_56 : decode cX9_placeOf 56 = .ok (.goto 4, 3) := by decide +kernel
theorem dX9_placeOf_59 : decode cX9_placeOf 59 = .ok (.iconst (-1), 1) := by decide +kernel
theorem dX9_placeOf_60 : decode cX9_placeOf 60 = .ok (.ireturn, 1) := by decide +kernel
theorem dX9_mayBecome_0 : decode cX9_mayBecome 0 = .ok (.iload_n 2, 1) := by decide +kernel
theorem dX9_mayBecome_1 : decode cX9_mayBecome 1 = .ok (.tableswitch 122 0 7 #[47, 78, 122, 122, 88, 96, 106, 116], 47) := by decide +kernel
theorem dX9_mayBecome_48 : decode cX9_mayBecome 48 = .ok (.iload_n 3, 1) := by decide +kernel
theorem dX9_mayBecome_49 : decode cX9_mayBecome 49 = .ok (.i2l, 1) := by decide +kernel
theorem dX9_mayBecome_50 : decode cX9_mayBecome 50 = .ok (.invokestatic 104, 3) := by decide +kernel
theorem dX9_mayBecome_53 : decode cX9_mayBecome 53 = .ok (.ifCond .eq 24, 3) := by decide +kernel
theorem dX9_mayBecome_56 : decode cX9_mayBecome 56 = .ok (.aload_n 0, 1) := by decide +kernel
theorem dX9_mayBecome_57 : decode cX9_mayBecome 57 = .ok (.iload_n 3, 1) := by decide +kernel
theorem dX9_mayBecome_58 : decode cX9_mayBecome 58 = .ok (.invokevirtual 87, 3) := by decide +kernel
theorem dX9_mayBecome_61 : decode cX9_mayBecome 61 = .ok (.ifCond .lt 12, 3) := by decide +kernel
theorem dX9_mayBecome_64 : decode cX9_mayBecome 64 = .ok (.aload_n 0, 1) := by decide +kernel
theorem dX9_mayBecome_65 : decode cX9_mayBecome 65 = .ok (.iload_n 3, 1) := by decide +kernel
theorem dX9_mayBecome_66 : decode cX9_mayBecome 66 = .ok (.invokevirtual 87, 3) := by decide +kernel
theorem dX9_mayBecome_69 : decode cX9_mayBecome 69 = .ok (.iload_n 1, 1) := by decide +kernel
theorem dX9_mayBecome_70 : decode cX9_mayBecome 70 = .ok (.if_icmp .ne 7, 3) := by decide +kernel
theorem dX9_mayBecome_73 : decode cX9_mayBecome 73 = .ok (.iconst 1, 1) := by decide +kernel
theorem dX9_mayBecome_74 : decode cX9_mayBecome 74 = .ok (.goto 4, 3) := by decide +kernel
theorem dX9_mayBecome_77 : decode cX9_mayBecome 77 = .ok (.iconst 0, 1) := by decide +kernel
theorem dX9_mayBecome_78 : decode cX9_mayBecome 78 = .ok (.ireturn, 1) := by decide +kernel
theorem dX9_mayBecome_79 : decode cX9_mayBecome 79 = .ok (.iload_n 3, 1) := by decide +kernel
theorem dX9_mayBecome_80 : decode cX9_mayBecome 80 = .ok (.i2l, 1) := by decide +kernel
theorem dX9_mayBecome_81 : decode cX9_mayBecome 81 = .ok (.lconst 0, 1) := by decide +kernel
theorem dX9_mayBecome_82 : decode cX9_mayBecome 82 = .ok (.ldc2_w 108, 3) := by decide +kernel
theorem dX9_mayBecome_85 : decode cX9_mayBecome 85 = .ok (.invokestatic 98, 3) := by decide +kernel
theorem dX9_mayBecome_88 : decode cX9_mayBecome 88 = .ok (.ireturn, 1) := by decide +kernel
theorem dX9_mayBecome_89 : decode cX9_mayBecome 89 = .ok (.iload_n 3, 1) := by decide +kernel
theorem dX9_mayBecome_90 : decode cX9_mayBecome 90 = .ok (.i2l, 1) := by decide +kernel
theorem dX9_mayBecome_91 : decode cX9_mayBecome 91 = .ok (.lconst 0, 1) := by decide +kernel
theorem dX9_mayBecome_92 : decode cX9_mayBecome 92 = .ok (.lconst 1, 1) := by decide +kernel
theorem dX9_mayBecome_93 : decode cX9_mayBecome 93 = .ok (.invokestatic 98, 3) := by decide +kernel
theorem dX9_mayBecome_96 : decode cX9_mayBecome 96 = .ok (.ireturn, 1) := by decide +kernel
theorem dX9_mayBecome_97 : decode cX9_mayBecome 97 = .ok (.iload_n 3, 1) := by decide +kernel
theorem dX9_mayBecome_98 : decode cX9_mayBecome 98 = .ok (.i2l, 1) := by decide +kernel
theorem dX9_mayBecome_99 : decode cX9_mayBecome 99 = .ok (.lconst 0, 1) := by decide +kernel
theorem dX9_mayBecome_100 : decode cX9_mayBecome 100 = .ok (.ldc2_w 102, 3) := by decide +kernel
theorem dX9_mayBecome_103 : decode cX9_mayBecome 103 = .ok (.invokestatic 98, 3) := by decide +kernel
theorem dX9_mayBecome_106 : decode cX9_mayBecome 106 = .ok (.ireturn, 1) := by decide +kernel
theorem dX9_mayBecome_107 : decode cX9_mayBecome 107 = .ok (.iload_n 3, 1) := by decide +kernel
theorem dX9_mayBecome_108 : decode cX9_mayBecome 108 = .ok (.i2l, 1) := by decide +kernel
theorem dX9_mayBecome_109 : decode cX9_mayBecome 109 = .ok (.lconst 0, 1) := by decide +kernel
theorem dX9_mayBecome_110 : decode cX9_mayBecome 110 = .ok (.ldc2_w 134, 3) := by decide +kernel
theorem dX9_mayBecome_113 : decode cX9_mayBecome 113 = .ok (.invokestatic 98, 3) := by decide +kernel
theorem dX9_mayBecome_116 : decode cX9_mayBecome 116 = .ok (.ireturn, 1) := by decide +kernel
theorem dX9_mayBecome_117 : decode cX9_mayBecome 117 = .ok (.iload_n 3, 1) := by decide +kernel
theorem dX9_mayBecome_118 : decode cX9_mayBecome 118 = .ok (.i2l, 1) := by decide +kernel
theorem dX9_mayBecome_119 : decode cX9_mayBecome 119 = .ok (.invokestatic 104, 3) := by decide +kernel
theorem dX9_mayBecome_122 : decode cX9_mayBecome 122 = .ok (.ireturn, 1) := by decide +kernel
theorem dX9_mayBecome_123 : decode cX9_mayBecome 123 = .ok (.iload_n 3, 1) := by decide +kernel
theorem dX9_mayBecome_124 : decode cX9_mayBecome 124 = .ok (.i2l, 1) := by decide +kernel
theorem dX9_mayBecome_125 : decode cX9_mayBecome 125 = .ok (.lconst 0, 1) := by decide +kernel
theorem dX9_mayBecome_126 : decode cX9_mayBecome 126 = .ok (.ldc2_w 110, 3) := by decide +kernel
theorem dX9_mayBecome_129 : decode cX9_mayBecome 129 = .ok (.invokestatic 98, 3) := by decide +kernel
theorem dX9_mayBecome_132 : decode cX9_mayBecome 132 = .ok (.ireturn, 1) := by decide +kernel
theorem dX9_mend_0 : decode cX9_mend 0 = .ok (.aload_n 0, 1) := by decide +kernel
theorem dX9_mend_1 : decode cX9_mend 1 = .ok (.iload_n 1, 1) := by decide +kernel
theorem dX9_mend_2 : decode cX9_mend 2 = .ok (.iload_n 2, 1) := by decide +kernel
theorem dX9_mend_3 : decode cX9_mend 3 = .ok (.invokevirtual 136, 3) := by decide +kernel
theorem dX9_mend_6 : decode cX9_mend 6 = .ok (.istore 4, 2) := by decide +kernel
theorem dX9_mend_8 : decode cX9_mend 8 = .ok (.iload 4, 2) := by decide +kernel
theorem dX9_mend_10 : decode cX9_mend 10 = .ok (.ifCond .lt 23, 3) := by decide +kernel
theorem dX9_mend_13 : decode cX9_mend 13 = .ok (.aload_n 0, 1) := by decide +kernel
theorem dX9_mend_14 : decode cX9_mend 14 = .ok (.iload_n 1, 1) := by decide +kernel
theorem dX9_mend_15 : decode cX9_mend 15 = .ok (.iload_n 2, 1) := by decide +kernel
theorem dX9_mend_16 : decode cX9_mend 16 = .ok (.iload_n 3, 1) := by decide +kernel
theorem dX9_mend_17 : decode cX9_mend 17 = .ok (.invokevirtual 140, 3) := by decide +kernel
theorem dX9_mend_20 : decode cX9_mend 20 = .ok (.ifCond .eq 13, 3) := by decide +kernel
theorem dX9_mend_23 : decode cX9_mend 23 = .ok (.aload_n 0, 1) := by decide +kernel
theorem dX9_mend_24 : decode cX9_mend 24 = .ok (.iload 4, 2) := by decide +kernel
theorem dX9_mend_26 : decode cX9_mend 26 = .ok (.iload_n 3, 1) := by decide +kernel
theorem dX9_mend_27 : decode cX9_mend 27 = .ok (.invokevirtual 144, 3) := by decide +kernel
theorem dX9_mend_30 : decode cX9_mend 30 = .ok (.goto 4, 3) := by decide +kernel
theorem dX9_mend_33 : decode cX9_mend 33 = .ok (.iconst (-1), 1) := by decide +kernel
theorem dX9_mend_34 : decode cX9_mend 34 = .ok (.ireturn, 1) := by decide +kernel
theorem dX9_of_0 : decode cX9_of 0 = .ok (.aload_n 0, 1) := by decide +kernel
theorem dX9_of_1 : decode cX9_of 1 = .ok (.iload_n 1, 1) := by decide +kernel
theorem dX9_of_2 : decode cX9_of 2 = .ok (.iload_n 2, 1) := by decide +kernel
theorem dX9_of_3 : decode cX9_of 3 = .ok (.invokevirtual 136, 3) := by decide +kernel
theorem dX9_of_6 : decode cX9_of 6 = .ok (.istore_n 3, 1) := by decide +kernel
theorem dX9_of_7 : decode cX9_of 7 = .ok (.iload_n 3, 1) := by decide +kernel
theorem dX9_of_8 : decode cX9_of 8 = .ok (.ifCond .lt 10, 3) := by decide +kernel
theorem dX9_of_11 : decode cX9_of 11 = .ok (.aload_n 0, 1) := by decide +kernel
theorem dX9_of_12 : decode cX9_of 12 = .ok (.getfield 9, 3) := by decide +kernel
theorem dX9_of_15 : decode cX9_of 15 = .ok (.iload_n 3, 1) := by decide +kernel
theorem dX9_of_16 : decode cX9_of 16 = .ok (.iaload, 1) := by decide +kernel
theorem dX9_of_17 : decode cX9_of 17 = .ok (.ireturn, 1) := by decide +kernel
theorem dX9_of_18 : decode cX9_of 18 = .ok (.iload_n 2, 1) := by decide +kernel
theorem dX9_of_19 : decode cX9_of 19 = .ok (.bipush 8, 2) := by decide +kernel
theorem dX9_of_21 : decode cX9_of 21 = .ok (.if_icmp .ne 11, 3) := by decide +kernel
theorem dX9_of_24 : decode cX9_of 24 = .ok (.iload_n 1, 1) := by decide +kernel
theorem dX9_of_25 : decode cX9_of 25 = .ok (.i2l, 1) := by decide +kernel
theorem dX9_of_26 : decode cX9_of 26 = .ok (.invokestatic 104, 3) := by decide +kernel
theorem dX9_of_29 : decode cX9_of 29 = .ok (.ifCond .ne 7, 3) := by decide +kernel
theorem dX9_of_32 : decode cX9_of 32 = .ok (.iconst (-1), 1) := by decide +kernel
theorem dX9_of_33 : decode cX9_of 33 = .ok (.goto 21, 3) := by decide +kernel
theorem dX9_of_36 : decode cX9_of 36 = .ok (.aload_n 0, 1) := by decide +kernel
theorem dX9_of_37 : decode cX9_of 37 = .ok (.iload_n 1, 1) := by decide +kernel
theorem dX9_of_38 : decode cX9_of 38 = .ok (.invokevirtual 87, 3) := by decide +kernel
theorem dX9_of_41 : decode cX9_of 41 = .ok (.ifCond .ge 8, 3) := by decide +kernel
theorem dX9_of_44 : decode cX9_of 44 = .ok (.bipush (-2), 2) := by decide +kernel
theorem dX9_of_46 : decode cX9_of 46 = .ok (.goto 8, 3) := by decide +kernel
theorem dX9_of_49 : decode cX9_of 49 = .ok (.aload_n 0, 1) := by decide +kernel
theorem dX9_of_50 : decode cX9_of 50 = .ok (.iload_n 1, 1) := by decide +kernel
theorem dX9_of_51 : decode cX9_of 51 = .ok (.invokevirtual 87, 3) := by decide +kernel
theorem dX9_of_54 : decode cX9_of 54 = .ok (.ireturn, 1) := by decide +kernel
theorem dX9_feed_0 : decode cX9_feed 0 = .ok (.iload_n 1, 1) := by decide +kernel
theorem dX9_feed_1 : decode cX9_feed 1 = .ok (.i2l, 1) := by decide +kernel
theorem dX9_feed_2 : decode cX9_feed 2 = .ok (.lconst 0, 1) := by decide +kernel
theorem dX9_feed_3 : decode cX9_feed 3 = .ok (.ldc2_w 147, 3) := by decide +kernel
theorem dX9_feed_6 : decode cX9_feed 6 = .ok (.invokestatic 98, 3) := by decide +kernel
theorem dX9_feed_9 : decode cX9_feed 9 = .ok (.ifCond .ne 5, 3) := by decide +kernel
theorem dX9_feed_12 : decode cX9_feed 12 = .ok (.iconst (-1), 1) := by decide +kernel
theorem dX9_feed_13 : decode cX9_feed 13 = .ok (.ireturn, 1) := by decide +kernel
theorem dX9_feed_14 : decode cX9_feed 14 = .ok (.aload_n 0, 1) := by decide +kernel
theorem dX9_feed_15 : decode cX9_feed 15 = .ok (.getfield 149, 3) := by decide +kernel
theorem dX9_feed_18 : decode cX9_feed 18 = .ok (.bipush 120, 2) := by decide +kernel
theorem dX9_feed_20 : decode cX9_feed 20 = .ok (.if_icmp .ne 6, 3) := by decide +kernel
theorem dX9_feed_23 : decode cX9_feed 23 = .ok (.bipush (-3), 2) := by decide +kernel
theorem dX9_feed_25 : decode cX9_feed 25 = .ok (.ireturn, 1) := by decide +kernel
theorem dX9_feed_26 : decode cX9_feed 26 = .ok (.aload_n 0, 1) := by decide +kernel
theorem dX9_feed_27 : decode cX9_feed 27 = .ok (.getfield 22, 3) := by decide +kernel
theorem dX9_feed_30 : decode cX9_feed 30 = .ok (.aload_n 0, 1) := by decide +kernel
theorem dX9_feed_31 : decode cX9_feed 31 = .ok (.getfield 149, 3) := by decide +kernel
theorem dX9_feed_34 : decode cX9_feed 34 = .ok (.iload_n 1, 1) := by decide +kernel
theorem dX9_feed_35 : decode cX9_feed 35 = .ok (.iastore, 1) := by decide +kernel
theorem dX9_feed_36 : decode cX9_feed 36 = .ok (.aload_n 0, 1) := by decide +kernel
theorem dX9_feed_37 : decode cX9_feed 37 = .ok (.dup, 1) := by decide +kernel
theorem dX9_feed_38 : decode cX9_feed 38 = .ok (.getfield 149, 3) := by decide +kernel
theorem dX9_feed_41 : decode cX9_feed 41 = .ok (.iconst 1, 1) := by decide +kernel
theorem dX9_feed_42 : decode cX9_feed 42 = .ok (.iadd, 1) := by decide +kernel
theorem dX9_feed_43 : decode cX9_feed 43 = .ok (.putfield 149, 3) := by decide +kernel
theorem dX9_feed_46 : decode cX9_feed 46 = .ok (.aload_n 0, 1) := by decide +kernel
theorem dX9_feed_47 : decode cX9_feed 47 = .ok (.getfield 149, 3) := by decide +kernel
theorem dX9_feed_50 : decode cX9_feed 50 = .ok (.ireturn, 1) := by decide +kernel
theorem dX9_byteAt_0 : decode cX9_byteAt 0 = .ok (.aload_n 0, 1) := by decide +kernel
theorem dX9_byteAt_1 : decode cX9_byteAt 1 = .ok (.getfield 152, 3) := by decide +kernel
theorem dX9_byteAt_4 : decode cX9_byteAt 4 = .ok (.aload_n 0, 1) := by decide +kernel
theorem dX9_byteAt_5 : decode cX9_byteAt 5 = .ok (.getfield 155, 3) := by decide +kernel
theorem dX9_byteAt_8 : decode cX9_byteAt 8 = .ok (.if_icmp .ge 39, 3) := by decide +kernel
theorem dX9_byteAt_11 : decode cX9_byteAt 11 = .ok (.aload_n 0, 1) := by decide +kernel
theorem dX9_byteAt_12 : decode cX9_byteAt 12 = .ok (.getfield 158, 3) := by decide +kernel
theorem dX9_byteAt_15 : decode cX9_byteAt 15 = .ok (.ifCond .ge 15, 3) := by decide +kernel
theorem dX9_byteAt_18 : decode cX9_byteAt 18 = .ok (.aload_n 0, 1) := by decide +kernel
theorem dX9_byteAt_19 : decode cX9_byteAt 19 = .ok (.getfield 22, 3) := by decide +kernel
theorem dX9_byteAt_22 : decode cX9_byteAt 22 = .ok (.aload_n 0, 1) := by decide +kernel
theorem dX9_byteAt_23 : decode cX9_byteAt 23 = .ok (.getfield 152, 3) := by decide +kernel
theorem dX9_byteAt_26 : decode cX9_byteAt 26 = .ok (.iaload, 1) := by decide +kernel
theorem dX9_byteAt_27 : decode cX9_byteAt 27 = .ok (.goto 21, 3) := by decide +kernel
theorem dX9_byteAt_30 : decode cX9_byteAt 30 = .ok (.aload_n 0, 1) := by decide +kernel
theorem dX9_byteAt_31 : decode cX9_byteAt 31 = .ok (.getfield 25, 3) := by decide +kernel
theorem dX9_byteAt_34 : decode cX9_byteAt 34 = .ok (.aload_n 0, 1) := by decide +kernel
theorem dX9_byteAt_35 : decode cX9_byteAt 35 = .ok (.getfield 158, 3) := by decide +kernel
theorem dX9_byteAt_38 : decode cX9_byteAt 38 = .ok (.aload_n 0, 1) := by decide +kernel
theorem dX9_byteAt_39 : decode cX9_byteAt 39 = .ok (.getfield 152, 3) := by decide +kernel
theorem dX9_byteAt_42 : decode cX9_byteAt 42 = .ok (.iadd, 1) := by decide +kernel
theorem dX9_byteAt_43 : decode cX9_byteAt 43 = .ok (.iaload, 1) := by decide +kernel
theorem dX9_byteAt_44 : decode cX9_byteAt 44 = .ok (.goto 4, 3) := by decide +kernel
theorem dX9_byteAt_47 : decode cX9_byteAt 47 = .ok (.iconst 0, 1) := by decide +kernel
theorem dX9_byteAt_48 : decode cX9_byteAt 48 = .ok (.ireturn, 1) := by decide +kernel
theorem dX9_wrong_0 : decode cX9_wrong 0 = .ok (.aload_n 0, 1) := by decide +kernel
theorem dX9_wrong_1 : decode cX9_wrong 1 = .ok (.aload_n 0, 1) := by decide +kernel
theorem dX9_wrong_2 : decode cX9_wrong 2 = .ok (.getfield 161, 3) := by decide +kernel
theorem dX9_wrong_5 : decode cX9_wrong 5 = .ok (.ifCond .ge 10, 3) := by decide +kernel
theorem dX9_wrong_8 : decode cX9_wrong 8 = .ok (.aload_n 0, 1) := by decide +kernel
theorem dX9_wrong_9 : decode cX9_wrong 9 = .ok (.getfield 152, 3) := by decide +kernel
theorem dX9_wrong_12 : decode cX9_wrong 12 = .ok (.goto 7, 3) := by decide +kernel
theorem dX9_wrong_15 : decode cX9_wrong 15 = .ok (.aload_n 0, 1) := by decide +kernel
theorem dX9_wrong_16 : decode cX9_wrong 16 = .ok (.getfield 161, 3) := by decide +kernel
theorem dX9_wrong_19 : decode cX9_wrong 19 = .ok (.putfield 161, 3) := by decide +kernel
theorem dX9_wrong_22 : decode cX9_wrong 22 = .ok (.iconst 0, 1) := by decide +kernel
theorem dX9_wrong_23 : decode cX9_wrong 23 = .ok (.ireturn, 1) := by decide +kernel
theorem dX9_takes_0 : decode cX9_takes 0 = .ok (.aload_n 0, 1) := by decide +kernel
theorem dX9_takes_1 : decode cX9_takes 1 = .ok (.getfield 161, 3) := by decide +kernel
theorem dX9_takes_4 : decode cX9_takes 4 = .ok (.ifCond .ge 11, 3) := by decide +kernel
theorem dX9_takes_7 : decode cX9_takes 7 = .ok (.aload_n 0, 1) := by decide +kernel
theorem dX9_takes_8 : decode cX9_takes 8 = .ok (.invokevirtual 164, 3) := by decide +kernel
theorem dX9_takes_11 : decode cX9_takes 11 = .ok (.iload_n 1, 1) := by decide +kernel
theorem dX9_takes_12 : decode cX9_takes 12 = .ok (.if_icmp .eq 5, 3) := by decide +kernel
theorem dX9_takes_15 : decode cX9_takes 15 = .ok (.iconst 0, 1) := by decide +kernel
theorem dX9_takes_16 : decode cX9_takes 16 = .ok (.ireturn, 1) := by decide +kernel
theorem dX9_takes_17 : decode cX9_takes 17 = .ok (.aload_n 0, 1) := by decide +kernel
theorem dX9_takes_18 : decode cX9_takes 18 = .ok (.dup, 1) := by decide +kernel
theorem dX9_takes_19 : decode cX9_takes 19 = .ok (.getfield 152, 3) := by decide +kernel
theorem dX9_takes_22 : decode cX9_takes 22 = .ok (.iconst 1, 1) := by decide +kernel
theorem dX9_takes_23 : decode cX9_takes 23 = .ok (.iadd, 1) := by decide +kernel
theorem dX9_takes_24 : decode cX9_takes 24 = .ok (.putfield 152, 3) := by decide +kernel
theorem dX9_takes_27 : decode cX9_takes 27 = .ok (.iconst 1, 1) := by decide +kernel
theorem dX9_takes_28 : decode cX9_takes 28 = .ok (.ireturn, 1) := by decide +kernel
theorem dX9_either_0 : decode cX9_either 0 = .ok (.aload_n 0, 1) := by decide +kernel
theorem dX9_either_1 : decode cX9_either 1 = .ok (.invokevirtual 168, 3) := by decide +kernel
theorem dX9_either_4 : decode cX9_either 4 = .ok (.istore_n 1, 1) := by decide +kernel
theorem dX9_either_5 : decode cX9_either 5 = .ok (.aload_n 0, 1) := by decide +kernel
theorem dX9_either_6 : decode cX9_either 6 = .ok (.bipush 124, 2) := by decide +kernel
theorem dX9_either_8 : decode cX9_either 8 = .ok (.invokevirtual 171, 3) := by decide +kernel
theorem dX9_either_11 : decode cX9_either 11 = .ok (.ifCond .eq 25, 3) := by decide +kernel
theorem dX9_either_14 : decode cX9_either 14 = .ok (.aload_n 0, 1) := by decide +kernel
theorem dX9_either_15 : decode cX9_either 15 = .ok (.invokevirtual 168, 3) := by decide +kernel
theorem dX9_either_18 : decode cX9_either 18 = .ok (.istore_n 2, 1) := by decide +kernel
theorem dX9_either_19 : decode cX9_either 19 = .ok (.iload_n 1, 1) := by decide +kernel
theorem dX9_either_20 : decode cX9_either 20 = .ok (.ifCond .ne 7, 3) := by decide +kernel
theorem dX9_either_23 : decode cX9_either 23 = .ok (.iload_n 2, 1) := by decide +kernel
theorem dX9_either_24 : decode cX9_either 24 = .ok (.ifCond .eq 7, 3) := by decide +kernel
theorem dX9_either_27 : decode cX9_either 27 = .ok (.iconst 1, 1) := by decide +kernel
theorem dX9_either_28 : decode cX9_either 28 = .ok (.goto 4, 3) := by decide +kernel
theorem dX9_either_31 : decode cX9_either 31 = .ok (.iconst 0, 1) := by decide +kernel
theorem dX9_either_32 : decode cX9_either 32 = .ok (.istore_n 1, 1) := by decide +kernel
theorem dX9_either_33 : decode cX9_either 33 = .ok (.goto (-28), 3) := by decide +kernel
theorem dX9_either_36 : decode cX9_either 36 = .ok (.iload_n 1, 1) := by decide +kernel
theorem dX9_either_37 : decode cX9_either 37 = .ok (.ireturn, 1) := by decide +kernel
theorem dX9_both_0 : decode cX9_both 0 = .ok (.aload_n 0, 1) := by decide +kernel
theorem dX9_both_1 : decode cX9_both 1 = .ok (.invokevirtual 174, 3) := by decide +kernel
theorem dX9_both_4 : decode cX9_both 4 = .ok (.istore_n 1, 1) := by decide +kernel
theorem dX9_both_5 : decode cX9_both 5 = .ok (.aload_n 0, 1) := by decide +kernel
theorem dX9_both_6 : decode cX9_both 6 = .ok (.bipush 38, 2) := by decide +kernel
theorem dX9_both_8 : decode cX9_both 8 = .ok (.invokevirtual 171, 3) := by decide +kernel
theorem dX9_both_11 : decode cX9_both 11 = .ok (.ifCond .eq 25, 3) := by decide +kernel
theorem dX9_both_14 : decode cX9_both 14 = .ok (.aload_n 0, 1) := by decide +kernel
theorem dX9_both_15 : decode cX9_both 15 = .ok (.invokevirtual 174, 3) := by decide +kernel
theorem dX9_both_18 : decode cX9_both 18 = .ok (.istore_n 2, 1) := by decide +kernel
theorem dX9_both_19 : decode cX9_both 19 = .ok (.iload_n 1, 1) := by decide +kernel
theorem dX9_both_20 : decode cX9_both 20 = .ok (.ifCond .eq 11, 3) := by decide +kernel
theorem dX9_both_23 : decode cX9_both 23 = .ok (.iload_n 2, 1) := by decide +kernel
theorem dX9_both_24 : decode cX9_both 24 = .ok (.ifCond .eq 7, 3) := by decide +kernel
theorem dX9_both_27 : decode cX9_both 27 = .ok (.iconst 1, 1) := by decide +kernel
theorem dX9_both_28 : decode cX9_both 28 = .ok (.goto 4, 3) := by decide +kernel
theorem dX9_both_31 : decode cX9_both 31 = .ok (.iconst 0, 1) := by decide +kernel
theorem dX9_both_32 : decode cX9_both 32 = .ok (.istore_n 1, 1) := by decide +kernel
theorem dX9_both_33 : decode cX9_both 33 = .ok (.goto (-28), 3) := by decide +kernel
theorem dX9_both_36 : decode cX9_both 36 = .ok (.iload_n 1, 1) := by decide +kernel
theorem dX9_both_37 : decode cX9_both 37 = .ok (.ireturn, 1) := by decide +kernel
theorem dX9_compared_0 : decode cX9_compared 0 = .ok (.aload_n 0, 1) := by decide +kernel
theorem dX9_compared_1 : decode cX9_compared 1 = .ok (.invokevirtual 177, 3) := by decide +kernel
theorem dX9_compared_4 : decode cX9_compared 4 = .ok (.istore_n 1, 1) := by decide +kernel
theorem dX9_compared_5 : decode cX9_compared 5 = .ok (.aload_n 0, 1) := by decide +kernel
theorem dX9_compared_6 : decode cX9_compared 6 = .ok (.invokevirtual 164, 3) := by decide +kernel
theorem dX9_compared_9 : decode cX9_compared 9 = .ok (.istore_n 2, 1) := by decide +kernel
theorem dX9_compared_10 : decode cX9_compared 10 = .ok (.aload_n 0, 1) := by decide +kernel
theorem dX9_compared_11 : decode cX9_compared 11 = .ok (.getfield 161, 3) := by decide +kernel
theorem dX9_compared_14 : decode cX9_compared 14 = .ok (.ifCond .ge 21, 3) := by decide +kernel
theorem dX9_compared_17 : decode cX9_compared 17 = .ok (.iload_n 2, 1) := by decide +kernel
theorem dX9_compared_18 : decode cX9_compared 18 = .ok (.bipush 60, 2) := by decide +kernel
theorem dX9_compared_20 : decode cX9_compared 20 = .ok (.if_icmp .eq 17, 3) := by decide +kernel
theorem dX9_compared_23 : decode cX9_compared 23 = .ok (.iload_n 2, 1) := by decide +kernel
theorem dX9_compared_24 : decode cX9_compared 24 = .ok (.bipush 61, 2) := by decide +kernel
theorem dX9_compared_26 : decode cX9_compared 26 = .ok (.if_icmp .eq 11, 3) := by decide +kernel
theorem dX9_compared_29 : decode cX9_compared 29 = .ok (.iload_n 2, 1) := by decide +kernel
theorem dX9_compared_30 : decode cX9_compared 30 = .ok (.bipush 62, 2) := by decide +kernel
theorem dX9_compared_32 : decode cX9_compared 32 = .ok (.if_icmp .eq 5, 3) := by decide +kernel
theorem dX9_compared_35 : decode cX9_compared 35 = .ok (.iload_n 1, 1) := by decide +kernel
theorem dX9_compared_36 : decode cX9_compared 36 = .ok (.ireturn, 1) := by decide +kernel
theorem dX9_compared_37 : decode cX9_compared 37 = .ok (.aload_n 0, 1) := by decide +kernel
theorem dX9_compared_38 : decode cX9_compared 38 = .ok (.dup, 1) := by decide +kernel
theorem dX9_compared_39 : decode cX9_compared 39 = .ok (.getfield 152, 3) := by decide +kernel
theorem dX9_compared_42 : decode cX9_compared 42 = .ok (.iconst 1, 1) := by decide +kernel
theorem dX9_compared_43 : decode cX9_compared 43 = .ok (.iadd, 1) := by decide +kernel
theorem dX9_compared_44 : decode cX9_compared 44 = .ok (.putfield 152, 3) := by decide +kernel
theorem dX9_compared_47 : decode cX9_compared 47 = .ok (.aload_n 0, 1) := by decide +kernel
theorem dX9_compared_48 : decode cX9_compared 48 = .ok (.invokevirtual 177, 3) := by decide +kernel
theorem dX9_compared_51 : decode cX9_compared 51 = .ok (.istore_n 3, 1) := by decide +kernel
theorem dX9_compared_52 : decode cX9_compared 52 = .ok (.iload_n 2, 1) := by decide +kernel
theorem dX9_compared_53 : decode cX9_compared 53 = .ok (.bipush 60, 2) := by decide +kernel
theorem dX9_compared_55 : decode cX9_compared 55 = .ok (.if_icmp .ne 11, 3) := by decide +kernel
theorem dX9_compared_58 : decode cX9_compared 58 = .ok (.iload_n 1, 1) := by decide +kernel
theorem dX9_compared_59 : decode cX9_compared 59 = .ok (.iload_n 3, 1) := by decide +kernel
theorem dX9_compared_60 : decode cX9_compared 60 = .ok (.if_icmp .ge 29, 3) := by decide +kernel
theorem dX9_compared_63 : decode cX9_compared 63 = .ok (.goto 22, 3) := by decide +kernel
theorem dX9_compared_66 : decode cX9_compared 66 = .ok (.iload_n 2, 1) := by decide +kernel
theorem dX9_compared_67 : decode cX9_compared 67 = .ok (.bipush 61, 2) := by decide +kernel
theorem dX9_compared_69 : decode cX9_compared 69 = .ok (.if_icmp .ne 11, 3) := by decide +kernel
theorem dX9_compared_72 : decode cX9_compared 72 = .ok (.iload_n 1, 1) := by decide +kernel
theorem dX9_compared_73 : decode cX9_compared 73 = .ok (.iload_n 3, 1) := by decide +kernel
theorem dX9_compared_74 : decode cX9_compared 74 = .ok (.if_icmp .ne 15, 3) := by decide +kernel
theorem dX9_compared_77 : decode cX9_compared 77 = .ok (.goto 8, 3) := by decide +kernel
theorem dX9_compared_80 : decode cX9_compared 80 = .ok (.iload_n 1, 1) := by decide +kernel
theorem dX9_compared_81 : decode cX9_compared 81 = .ok (.iload_n 3, 1) := by decide +kernel
theorem dX9_compared_82 : decode cX9_compared 82 = .ok (.if_icmp .le 7, 3) := by decide +kernel
theorem dX9_compared_85 : decode cX9_compared 85 = .ok (.iconst 1, 1) := by decide +kernel
theorem dX9_compared_86 : decode cX9_compared 86 = .ok (.goto 4, 3) := by decide +kernel
theorem dX9_compared_89 : decode cX9_compared 89 = .ok (.iconst 0, 1) := by decide +kernel
theorem dX9_compared_90 : decode cX9_compared 90 = .ok (.ireturn, 1) := by decide +kernel
theorem dX9_sums_0 : decode cX9_sums 0 = .ok (.aload_n 0, 1) := by decide +kernel
theorem dX9_sums_1 : decode cX9_sums 1 = .ok (.invokevirtual 180, 3) := by decide +kernel
theorem dX9_sums_4 : decode cX9_sums 4 = .ok (.istore_n 1, 1) := by decide +kernel
theorem dX9_sums_5 : decode cX9_sums 5 = .ok (.aload_n 0, 1) := by decide +kernel
theorem dX9_sums_6 : decode cX9_sums 6 = .ok (.getfield 161, 3) := by decide +kernel
theorem dX9_sums_9 : decode cX9_sums 9 = .ok (.ifCond .ge 68, 3) := by decide +kernel
theorem dX9_sums_12 : decode cX9_sums 12 = .ok (.aload_n 0, 1) := by decide +kernel
theorem dX9_sums_13 : decode cX9_sums 13 = .ok (.invokevirtual 164, 3) := by decide +kernel
theorem dX9_sums_16 : decode cX9_sums 16 = .ok (.bipush 43, 2) := by decide +kernel
theorem dX9_sums_18 : decode cX9_sums 18 = .ok (.if_icmp .eq 12, 3) := by decide +kernel
theorem dX9_sums_21 : decode cX9_sums 21 = .ok (.aload_n 0, 1) := by decide +kernel
theorem dX9_sums_22 : decode cX9_sums 22 = .ok (.invokevirtual 164, 3) := by decide +kernel
theorem dX9_sums_25 : decode cX9_sums 25 = .ok (.bipush 45, 2) := by decide +kernel
theorem dX9_sums_27 : decode cX9_sums 27 = .ok (.if_icmp .ne 50, 3) := by decide +kernel
theorem dX9_sums_30 : decode cX9_sums 30 = .ok (.aload_n 0, 1) := by decide +kernel
theorem dX9_sums_31 : decode cX9_sums 31 = .ok (.invokevirtual 164, 3) := by decide +kernel
theorem dX9_sums_34 : decode cX9_sums 34 = .ok (.bipush 43, 2) := by decide +kernel
theorem dX9_sums_36 : decode cX9_sums 36 = .ok (.if_icmp .ne 7, 3) := by decide +kernel
theorem dX9_sums_39 : decode cX9_sums 39 = .ok (.iconst 1, 1) := by decide +kernel
theorem dX9_sums_40 : decode cX9_sums 40 = .ok (.goto 4, 3) := by decide +kernel
theorem dX9_sums_43 : decode cX9_sums 43 = .ok (.iconst 0, 1) := by decide +kernel
theorem dX9_sums_44 : decode cX9_sums 44 = .ok (.istore_n 2, 1) := by decide +kernel
theorem dX9_sums_45 : decode cX9_sums 45 = .ok (.aload_n 0, 1) := by decide +kernel
theorem dX9_sums_46 : decode cX9_sums 46 = .ok (.dup, 1) := by decide +kernel
theorem dX9_sums_47 : decode cX9_sums 47 = .ok (.getfield 152, 3) := by decide +kernel
theorem dX9_sums_50 : decode cX9_sums 50 = .ok (.iconst 1, 1) := by decide +kernel
theorem dX9_sums_51 : decode cX9_sums 51 = .ok (.iadd, 1) := by decide +kernel
theorem dX9_sums_52 : decode cX9_sums 52 = .ok (.putfield 152, 3) := by decide +kernel
theorem dX9_sums_55 : decode cX9_sums 55 = .ok (.aload_n 0, 1) := by decide +kernel
theorem dX9_sums_56 : decode cX9_sums 56 = .ok (.invokevirtual 180, 3) := by decide +kernel
theorem dX9_sums_59 : decode cX9_sums 59 = .ok (.istore_n 3, 1) := by decide +kernel
theorem dX9_sums_60 : decode cX9_sums 60 = .ok (.iload_n 2, 1) := by decide +kernel
theorem dX9_sums_61 : decode cX9_sums 61 = .ok (.ifCond .eq 9, 3) := by decide +kernel
theorem dX9_sums_64 : decode cX9_sums 64 = .ok (.iload_n 1, 1) := by decide +kernel
theorem dX9_sums_65 : decode cX9_sums 65 = .ok (.iload_n 3, 1) := by decide +kernel
theorem dX9_sums_66 : decode cX9_sums 66 = .ok (.iadd, 1) := by decide +kernel
theorem dX9_sums_67 : decode cX9_sums 67 = .ok (.goto 6, 3) := by decide +kernel
theorem dX9_sums_70 : decode cX9_sums 70 = .ok (.iload_n 1, 1) := by decide +kernel
theorem dX9_sums_71 : decode cX9_sums 71 = .ok (.iload_n 3, 1) := by decide +kernel
theorem dX9_sums_72 : decode cX9_sums 72 = .ok (.isub, 1) := by decide +kernel
theorem dX9_sums_73 : decode cX9_sums 73 = .ok (.istore_n 1, 1) := by decide +kernel
theorem dX9_sums_74 : decode cX9_sums 74 = .ok (.goto (-69), 3) := by decide +kernel
theorem dX9_sums_77 : decode cX9_sums 77 = .ok (.iload_n 1, 1) := by decide +kernel
theorem dX9_sums_78 : decode cX9_sums 78 = .ok (.ireturn, 1) := by decide +kernel
theorem dX9_product_0 : decode cX9_product 0 = .ok (.aload_n 0, 1) := by decide +kernel
theorem dX9_product_1 : decode cX9_product 1 = .ok (.invokevirtual 183, 3) := by decide +kernel
theorem dX9_product_4 : decode cX9_product 4 = .ok (.istore_n 1, 1) := by decide +kernel
theorem dX9_product_5 : decode cX9_product 5 = .ok (.aload_n 0, 1) := by decide +kernel
theorem dX9_product_6 : decode cX9_product 6 = .ok (.invokevirtual 164, 3) := by decide +kernel
theorem dX9_product_9 : decode cX9_product 9 = .ok (.istore_n 2, 1) := by decide +kernel
theorem dX9_product_10 : decode cX9_product 10 = .ok (.aload_n 0, 1) := by decide +kernel
theorem dX9_product_11 : decode cX9_product 11 = .ok (.getfield 161, 3) := by decide +kernel
theorem dX9_product_14 : decode cX9_product 14 = .ok (.ifCond .ge 80, 3) := by decide +kernel
theorem dX9_product_17 : decode cX9_product 17 = .ok (.iload_n 2, 1) := by decide +kernel
theorem dX9_product_18 : decode cX9_product 18 = .ok (.bipush 42, 2) := by decide +kernel
theorem dX9_product_20 : decode cX9_product 20 = .ok (.if_icmp .eq 15, 3) := by decide +kernel
theorem dX9_product_23 : decode cX9_product 23 = .ok (.iload_n 2, 1) := by decide +kernel
theorem dX9_product_24 : decode cX9_product 24 = .ok (.bipush 47, 2) := by decide +kernel
theorem dX9_product_26 : decode cX9_product 26 = .ok (.if_icmp .eq 9, 3) := by decide +kernel
theorem dX9_product_29 : decode cX9_product 29 = .ok (.iload_n 2, 1) := by decide +kernel
theorem dX9_product_30 : decode cX9_product 30 = .ok (.bipush 37, 2) := by decide +kernel
theorem dX9_product_32 : decode cX9_product 32 = .ok (.if_icmp .ne 62, 3) := by decide +kernel
theorem dX9_product_35 : decode cX9_product 35 = .ok (.aload_n 0, 1) := by decide +kernel
theorem dX9_product_36 : decode cX9_product 36 = .ok (.dup, 1) := by decide +kernel
theorem dX9_product_37 : decode cX9_product 37 = .ok (.getfield 152, 3) := by decide +kernel
theorem dX9_product_40 : decode cX9_product 40 = .ok (.iconst 1, 1) := by decide +kernel
theorem dX9_product_41 : decode cX9_product 41 = .ok (.iadd, 1) := by decide +kernel
theorem dX9_product_42 : decode cX9_product 42 = .ok (.putfield 152, 3) := by decide +kernel
theorem dX9_product_45 : decode cX9_product 45 = .ok (.aload_n 0, 1) := by decide +kernel
theorem dX9_product_46 : decode cX9_product 46 = .ok (.invokevirtual 183, 3) := by decide +kernel
theorem dX9_product_49 : decode cX9_product 49 = .ok (.istore_n 3, 1) := by decide +kernel
theorem dX9_product_50 : decode cX9_product 50 = .ok (.iload_n 2, 1) := by decide +kernel
theorem dX9_product_51 : decode cX9_product 51 = .ok (.bipush 42, 2) := by decide +kernel
theorem dX9_product_53 : decode cX9_product 53 = .ok (.if_icmp .ne 9, 3) := by decide +kernel
theorem dX9_product_56 : decode cX9_product 56 = .ok (.iload_n 1, 1) := by decide +kernel
theorem dX9_product_57 : decode cX9_product 57 = .ok (.iload_n 3, 1) := by decide +kernel
theorem dX9_product_58 : decode cX9_product 58 = .ok (.imul, 1) := by decide +kernel
theorem dX9_product_59 : decode cX9_product 59 = .ok (.goto 26, 3) := by decide +kernel
theorem dX9_product_62 : decode cX9_product 62 = .ok (.iload_n 3, 1) := by decide +kernel
theorem dX9_product_63 : decode cX9_product 63 = .ok (.ifCond .ne 7, 3) := by decide +kernel
theorem dX9_product_66 : decode cX9_product 66 = .ok (.iconst 0, 1) := by decide +kernel
theorem dX9_product_67 : decode cX9_product 67 = .ok (.goto 18, 3) := by decide +kernel
theorem dX9_product_70 : decode cX9_product 70 = .ok (.iload_n 2, 1) := by decide +kernel
theorem dX9_product_71 : decode cX9_product 71 = .ok (.bipush 47, 2) := by decide +kernel
theorem dX9_product_73 : decode cX9_product 73 = .ok (.if_icmp .ne 9, 3) := by decide +kernel
theorem dX9_product_76 : decode cX9_product 76 = .ok (.iload_n 1, 1) := by decide +kernel
theorem dX9_product_77 : decode cX9_product 77 = .ok (.iload_n 3, 1) := by decide +kernel
theorem dX9_product_78 : decode cX9_product 78 = .ok (.idiv, 1) := by decide +kernel
theorem dX9_product_79 : decode cX9_product 79 = .ok (.goto 6, 3) := by decide +kernel
theorem dX9_product_82 : decode cX9_product 82 = .ok (.iload_n 1, 1) := by decide +kernel
theorem dX9_product_83 : decode cX9_product 83 = .ok (.iload_n 3, 1) := by decide +kernel
theorem dX9_product_84 : decode cX9_product 84 = .ok (.irem, 1) := by decide +kernel
theorem dX9_product_85 : decode cX9_product 85 = .ok (.istore_n 1, 1) := by decide +kernel
theorem dX9_product_86 : decode cX9_product 86 = .ok (.aload_n 0, 1) := by decide +kernel
theorem dX9_product_87 : decode cX9_product 87 = .ok (.invokevirtual 164, 3) := by decide +kernel
theorem dX9_product_90 : decode cX9_product 90 = .ok (.istore_n 2, 1) := by decide +kernel
theorem dX9_product_91 : decode cX9_product 91 = .ok (.goto (-81), 3) := by decide +kernel
theorem dX9_product_94 : decode cX9_product 94 = .ok (.iload_n 1, 1) := by decide +kernel
theorem dX9_product_95 : decode cX9_product 95 = .ok (.ireturn, 1) := by decide +kernel
theorem dX9_nameOf_0 : decode cX9_nameOf 0 = .ok (.iload_n 0, 1) := by decide +kernel
theorem dX9_nameOf_1 : decode cX9_nameOf 1 = .ok (.lookupswitch 71 #[(98, 65), (99, 67), (100, 59), (109, 63), (116, 69), (121, 61)], 59) := by decide +kernel
theorem dX9_nameOf_60 : decode cX9_nameOf 60 = .ok (.iconst 0, 1) := by decide +kernel
theorem dX9_nameOf_61 : decode cX9_nameOf 61 = .ok (.ireturn, 1) := by decide +kernel
theorem dX9_nameOf_62 : decode cX9_nameOf 62 = .ok (.iconst 1, 1) := by decide +kernel
theorem dX9_nameOf_63 : decode cX9_nameOf 63 = .ok (.ireturn, 1) := by decide +kernel
theorem dX9_nameOf_64 : decode cX9_nameOf 64 = .ok (.iconst 2, 1) := by decide +kernel
theorem dX9_nameOf_65 : decode cX9_nameOf 65 = .ok (.ireturn, 1) := by decide +kernel
theorem dX9_nameOf_66 : decode cX9_nameOf 66 = .ok (.iconst 3, 1) := by decide +kernel
theorem dX9_nameOf_67 : decode cX9_nameOf 67 = .ok (.ireturn, 1) := by decide +kernel
theorem dX9_nameOf_68 : decode cX9_nameOf 68 = .ok (.iconst 4, 1) := by decide +kernel
theorem dX9_nameOf_69 : decode cX9_nameOf 69 = .ok (.ireturn, 1) := by decide +kernel
theorem dX9_nameOf_70 : decode cX9_nameOf 70 = .ok (.iconst 5, 1) := by decide +kernel
theorem dX9_nameOf_71 : decode cX9_nameOf 71 = .ok (.ireturn, 1) := by decide +kernel
theorem dX9_nameOf_72 : decode cX9_nameOf 72 = .ok (.iconst (-1), 1) := by decide +kernel
theorem dX9_nameOf_73 : decode cX9_nameOf 73 = .ok (.ireturn, 1) := by decide +kernel
theorem dX9_one_0 : decode cX9_one 0 = .ok (.aload_n 0, 1) := by decide +kernel
theorem dX9_one_1 : decode cX9_one 1 = .ok (.getfield 161, 3) := by decide +kernel
theorem dX9_one_4 : decode cX9_one 4 = .ok (.ifCond .lt 5, 3) := by decide +kernel
theorem dX9_one_7 : decode cX9_one 7 = .ok (.iconst 0, 1) := by decide +kernel
theorem dX9_one_8 : decode cX9_one 8 = .ok (.ireturn, 1) := by decide +kernel
theorem dX9_one_9 : decode cX9_one 9 = .ok (.aload_n 0, 1) := by decide +kernel
theorem dX9_one_10 : decode cX9_one 10 = .ok (.invokevirtual 164, 3) := by decide +kernel
theorem dX9_one_13 : decode cX9_one 13 = .ok (.istore_n 1, 1) := by decide +kernel
theorem dX9_one_14 : decode cX9_one 14 = .ok (.iload_n 1, 1) := by decide +kernel
theorem dX9_one_15 : decode cX9_one 15 = .ok (.bipush 33, 2) := by decide +kernel
theorem dX9_one_17 : decode cX9_one 17 = .ok (.if_icmp .eq 15, 3) := by decide +kernel
theorem dX9_one_20 : decode cX9_one 20 = .ok (.iload_n 1, 1) := by decide +kernel
theorem dX9_one_21 : decode cX9_one 21 = .ok (.bipush 45, 2) := by decide +kernel
theorem dX9_one_23 : decode cX9_one 23 = .ok (.if_icmp .eq 9, 3) := by decide +kernel
theorem dX9_one_26 : decode cX9_one 26 = .ok (.iload_n 1, 1) := by decide +kernel
theorem dX9_one_27 : decode cX9_one 27 = .ok (.bipush 40, 2) := by decide +kernel
theorem dX9_one_29 : decode cX9_one 29 = .ok (.if_icmp .ne 116, 3) := by decide +kernel
theorem dX9_one_32 : decode cX9_one 32 = .ok (.aload_n 0, 1) := by decide +kernel
theorem dX9_one_33 : decode cX9_one 33 = .ok (.getfield 186, 3) := by decide +kernel
theorem dX9_one_36 : decode cX9_one 36 = .ok (.bipush 6, 2) := by decide +kernel
theorem dX9_one_38 : decode cX9_one 38 = .ok (.if_icmp .ne 8, 3) := by decide +kernel
theorem dX9_one_41 : decode cX9_one 41 = .ok (.aload_n 0, 1) := by decide +kernel
theorem dX9_one_42 : decode cX9_one 42 = .ok (.invokevirtual 189, 3) := by decide +kernel
theorem dX9_one_45 : decode cX9_one 45 = .ok (.ireturn, 1) := by decide +kernel
theorem dX9_one_46 : decode cX9_one 46 = .ok (.aload_n 0, 1) := by decide +kernel
theorem dX9_one_47 : decode cX9_one 47 = .ok (.dup, 1) := by decide +kernel
theorem dX9_one_48 : decode cX9_one 48 = .ok (.getfield 186, 3) := by decide +kernel
theorem dX9_one_51 : decode cX9_one 51 = .ok (.iconst 1, 1) := by decide +kernel
theorem dX9_one_52 : decode cX9_one 52 = .ok (.iadd, 1) := by decide +kernel
theorem dX9_one_53 : decode cX9_one 53 = .ok (.putfield 186, 3) := by decide +kernel
theorem dX9_one_56 : decode cX9_one 56 = .ok (.aload_n 0, 1) := by decide +kernel
theorem dX9_one_57 : decode cX9_one 57 = .ok (.dup, 1) := by decide +kernel
theorem dX9_one_58 : decode cX9_one 58 = .ok (.getfield 152, 3) := by decide +kernel
theorem dX9_one_61 : decode cX9_one 61 = .ok (.iconst 1, 1) := by decide +kernel
theorem dX9_one_62 : decode cX9_one 62 = .ok (.iadd, 1) := by decide +kernel
theorem dX9_one_63 : decode cX9_one 63 = .ok (.putfield 152, 3) := by decide +kernel
theorem dX9_one_66 : decode cX9_one 66 = .ok (.iload_n 1, 1) := by decide +kernel
theorem dX9_one_67 : decode cX9_one 67 = .ok (.bipush 40, 2) := by decide +kernel
theorem dX9_one_69 : decode cX9_one 69 = .ok (.if_icmp .ne 10, 3) := by decide +kernel
theorem dX9_one_72 : decode cX9_one 72 = .ok (.aload_n 0, 1) := by decide +kernel
theorem dX9_one_73 : decode cX9_one 73 = .ok (.invokevirtual 192, 3) := by decide +kernel
theorem dX9_one_76 : decode cX9_one 76 = .ok (.goto 7, 3) := by decide +kernel
theorem dX9_one_79 : decode cX9_one 79 = .ok (.aload_n 0, 1) := by decide +kernel
theorem dX9_one_80 : decode cX9_one 80 = .ok (.invokevirtual 183, 3) := by decide +kernel
theorem dX9_one_83 : decode cX9_one 83 = .ok (.istore_n 2, 1) := by decide +kernel
theorem dX9_one_84 : decode cX9_one 84 = .ok (.iload_n 1, 1) := by decide +kernel
theorem dX9_one_85 : decode cX9_one 85 = .ok (.bipush 40, 2) := by decide +kernel
theorem dX9_one_87 : decode cX9_one 87 = .ok (.if_icmp .ne 17, 3) := by decide +kernel
theorem dX9_one_90 : decode cX9_one 90 = .ok (.aload_n 0, 1) := by decide +kernel
theorem dX9_one_91 : decode cX9_one 91 = .ok (.bipush 41, 2) := by decide +kernel
theorem dX9_one_93 : decode cX9_one 93 = .ok (.invokevirtual 171, 3) := by decide +kernel
theorem dX9_one_96 : decode cX9_one 96 = .ok (.ifCond .ne 8, 3) := by decide +kernel
theorem dX9_one_99 : decode cX9_one 99 = .ok (.aload_n 0, 1) := by decide +kernel
theorem dX9_one_100 : decode cX9_one 100 = .ok (.invokevirtual 189, 3) := by decide +kernel
theorem dX9_one_103 : decode cX9_one 103 = .ok (.ireturn, 1) := by decide +kernel
theorem dX9_one_104 : decode cX9_one 104 = .ok (.aload_n 0, 1) := by decide +kernel
theorem dX9_one_105 : decode cX9_one 105 = .ok (.dup, 1) := by decide +kernel
theorem dX9_one_106 : decode cX9_one 106 = .ok (.getfield 186, 3) := by decide +kernel
theorem dX9_one_109 : decode cX9_one 109 = .ok (.iconst 1, 1) := by decide +kernel
theorem dX9_one_110 : decode cX9_one 110 = .ok (.isub, 1) := by decide +kernel
theorem dX9_one_111 : decode cX9_one 111 = .ok (.putfield 186, 3) := by decide +kernel
theorem dX9_one_114 : decode cX9_one 114 = .ok (.iload_n 1, 1) := by decide +kernel
theorem dX9_one_115 : decode cX9_one 115 = .ok (.bipush 40, 2) := by decide +kernel
theorem dX9_one_117 : decode cX9_one 117 = .ok (.if_icmp .ne 7, 3) := by decide +kernel
theorem dX9_one_120 : decode cX9_one 120 = .ok (.iload_n 2, 1) := by decide +kernel
theorem dX9_one_121 : decode cX9_one 121 = .ok (.goto 23, 3) := by decide +kernel
theorem dX9_one_124 : decode cX9_one 124 = .ok (.iload_n 1, 1) := by decide +kernel
theorem dX9_one_125 : decode cX9_one 125 = .ok (.bipush 45, 2) := by decide +kernel
theorem dX9_one_127 : decode cX9_one 127 = .ok (.if_icmp .ne 8, 3) := by decide +kernel
theorem dX9_one_130 : decode cX9_one 130 = .ok (.iload_n 2, 1) := by decide +kernel
theorem dX9_one_131 : decode cX9_one 131 = .ok (.ineg, 1) := by decide +kernel
theorem dX9_one_132 : decode cX9_one 132 = .ok (.goto 12, 3) := by decide +kernel
theorem dX9_one_135 : decode cX9_one 135 = .ok (.iload_n 2, 1) := by decide +kernel
theorem dX9_one_136 : decode cX9_one 136 = .ok (.ifCond .ne 7, 3) := by decide +kernel
theorem dX9_one_139 : decode cX9_one 139 = .ok (.iconst 1, 1) := by decide +kernel
theorem dX9_one_140 : decode cX9_one 140 = .ok (.goto 4, 3) := by decide +kernel
theorem dX9_one_143 : decode cX9_one 143 = .ok (.iconst 0, 1) := by decide +kernel
theorem dX9_one_144 : decode cX9_one 144 = .ok (.ireturn, 1) := by decide +kernel
theorem dX9_one_145 : decode cX9_one 145 = .ok (.iload_n 1, 1) := by decide +kernel
theorem dX9_one_146 : decode cX9_one 146 = .ok (.invokestatic 195, 3) := by decide +kernel
theorem dX9_one_149 : decode cX9_one 149 = .ok (.istore_n 2, 1) := by decide +kernel
theorem dX9_one_150 : decode cX9_one 150 = .ok (.iload_n 2, 1) := by decide +kernel
theorem dX9_one_151 : decode cX9_one 151 = .ok (.ifCond .lt 20, 3) := by decide +kernel
theorem dX9_one_154 : decode cX9_one 154 = .ok (.aload_n 0, 1) := by decide +kernel
theorem dX9_one_155 : decode cX9_one 155 = .ok (.dup, 1) := by decide +kernel
theorem dX9_one_156 : decode cX9_one 156 = .ok (.getfield 152, 3) := by decide +kernel
theorem dX9_one_159 : decode cX9_one 159 = .ok (.iconst 1, 1) := by decide +kernel
theorem dX9_one_160 : decode cX9_one 160 = .ok (.iadd, 1) := by decide +kernel
theorem dX9_one_161 : decode cX9_one 161 = .ok (.putfield 152, 3) := by decide +kernel
theorem dX9_one_164 : decode cX9_one 164 = .ok (.aload_n 0, 1) := by decide +kernel
theorem dX9_one_165 : decode cX9_one 165 = .ok (.getfield 28, 3) := by decide +kernel
theorem dX9_one_168 : decode cX9_one 168 = .ok (.iload_n 2, 1) := by decide +kernel
theorem dX9_one_169 : decode cX9_one 169 = .ok (.iaload, 1) := by decide +kernel
theorem dX9_one_170 : decode cX9_one 170 = .ok (.ireturn, 1) := by decide +kernel
theorem dX9_one_171 : decode cX9_one 171 = .ok (.iconst 0, 1) := by decide +kernel
theorem dX9_one_172 : decode cX9_one 172 = .ok (.istore_n 3, 1) := by decide +kernel
theorem dX9_one_173 : decode cX9_one 173 = .ok (.iconst 0, 1) := by decide +kernel
theorem dX9_one_174 : decode cX9_one 174 = .ok (.istore 4, 2) := by decide +kernel
theorem dX9_one_176 : decode cX9_one 176 = .ok (.iload 4, 2) := by decide +kernel
theorem dX9_one_178 : decode cX9_one 178 = .ok (.iconst 4, 1) := by decide +kernel
theorem dX9_one_179 : decode cX9_one 179 = .ok (.if_icmp .ge 50, 3) := by decide +kernel
theorem dX9_one_182 : decode cX9_one 182 = .ok (.aload_n 0, 1) := by decide +kernel
theorem dX9_one_183 : decode cX9_one 183 = .ok (.invokevirtual 164, 3) := by decide +kernel
theorem dX9_one_186 : decode cX9_one 186 = .ok (.bipush 48, 2) := by decide +kernel
theorem dX9_one_188 : decode cX9_one 188 = .ok (.if_icmp .lt 41, 3) := by decide +kernel
theorem dX9_one_191 : decode cX9_one 191 = .ok (.aload_n 0, 1) := by decide +kernel
theorem dX9_one_192 : decode cX9_one 192 = .ok (.invokevirtual 164, 3) := by decide +kernel
theorem dX9_one_195 : decode cX9_one 195 = .ok (.bipush 57, 2) := by decide +kernel
theorem dX9_one_197 : decode cX9_one 197 = .ok (.if_icmp .gt 32, 3) := by decide +kernel
theorem dX9_one_200 : decode cX9_one 200 = .ok (.bipush 10, 2) := by decide +kernel
theorem dX9_one_202 : decode cX9_one 202 = .ok (.iload_n 3, 1) := by decide +kernel
theorem dX9_one_203 : decode cX9_one 203 = .ok (.imul, 1) := by decide +kernel
theorem dX9_one_204 : decode cX9_one 204 = .ok (.aload_n 0, 1) := by decide +kernel
theorem dX9_one_205 : decode cX9_one 205 = .ok (.invokevirtual 164, 3) := by decide +kernel
theorem dX9_one_208 : decode cX9_one 208 = .ok (.iadd, 1) := by decide +kernel
theorem dX9_one_209 : decode cX9_one 209 = .ok (.bipush 48, 2) := by decide +kernel
theorem dX9_one_211 : decode cX9_one 211 = .ok (.isub, 1) := by decide +kernel
theorem dX9_one_212 : decode cX9_one 212 = .ok (.istore_n 3, 1) := by decide +kernel
theorem dX9_one_213 : decode cX9_one 213 = .ok (.iinc 4 1, 3) := by decide +kernel
theorem dX9_one_216 : decode cX9_one 216 = .ok (.aload_n 0, 1) := by decide +kernel
theorem dX9_one_217 : decode cX9_one 217 = .ok (.dup, 1) := by decide +kernel
theorem dX9_one_218 : decode cX9_one 218 = .ok (.getfield 152, 3) := by decide +kernel
theorem dX9_one_221 : decode cX9_one 221 = .ok (.iconst 1, 1) := by decide +kernel
theorem dX9_one_222 : decode cX9_one 222 = .ok (.iadd, 1) := by decide +kernel
theorem dX9_one_223 : decode cX9_one 223 = .ok (.putfield 152, 3) := by decide +kernel
theorem dX9_one_226 : decode cX9_one 226 = .ok (.goto (-50), 3) := by decide +kernel
theorem dX9_one_229 : decode cX9_one 229 = .ok (.iload 4, 2) := by decide +kernel
theorem dX9_one_231 : decode cX9_one 231 = .ok (.ifCond .ne 10, 3) := by decide +kernel
theorem dX9_one_234 : decode cX9_one 234 = .ok (.aload_n 0, 1) := by decide +kernel
theorem dX9_one_235 : decode cX9_one 235 = .ok (.invokevirtual 189, 3) := by decide +kernel
theorem dX9_one_238 : decode cX9_one 238 = .ok (.goto 4, 3) := by decide +kernel
theorem dX9_one_241 : decode cX9_one 241 = .ok (.iload_n 3, 1) := by decide +kernel
theorem dX9_one_242 : decode cX9_one 242 = .ok (.ireturn, 1) := by decide +kernel
theorem dX9_workOut_0 : decode cX9_workOut 0 = .ok (.aload_n 0, 1) := by decide +kernel
theorem dX9_workOut_1 : decode cX9_workOut 1 = .ok (.iload_n 1, 1) := by decide +kernel
theorem dX9_workOut_2 : decode cX9_workOut 2 = .ok (.putfield 158, 3) := by decide +kernel
theorem dX9_workOut_5 : decode cX9_workOut 5 = .ok (.aload_n 0, 1) := by decide +kernel
theorem dX9_workOut_6 : decode cX9_workOut 6 = .ok (.iconst 0, 1) := by decide +kernel
theorem dX9_workOut_7 : decode cX9_workOut 7 = .ok (.putfield 152, 3) := by decide +kernel
theorem dX9_workOut_10 : decode cX9_workOut 10 = .ok (.aload_n 0, 1) := by decide +kernel
theorem dX9_workOut_11 : decode cX9_workOut 11 = .ok (.iload_n 2, 1) := by decide +kernel
theorem dX9_workOut_12 : decode cX9_workOut 12 = .ok (.putfield 155, 3) := by decide +kernel
theorem dX9_workOut_15 : decode cX9_workOut 15 = .ok (.aload_n 0, 1) := by decide +kernel
theorem dX9_workOut_16 : decode cX9_workOut 16 = .ok (.iconst (-1), 1) := by decide +kernel
theorem dX9_workOut_17 : decode cX9_workOut 17 = .ok (.putfield 161, 3) := by decide +kernel
theorem dX9_workOut_20 : decode cX9_workOut 20 = .ok (.aload_n 0, 1) := by decide +kernel
theorem dX9_workOut_21 : decode cX9_workOut 21 = .ok (.iconst 0, 1) := by decide +kernel
theorem dX9_workOut_22 : decode cX9_workOut 22 = .ok (.putfield 186, 3) := by decide +kernel
theorem dX9_workOut_25 : decode cX9_workOut 25 = .ok (.iconst 0, 1) := by decide +kernel
theorem dX9_workOut_26 : decode cX9_workOut 26 = .ok (.istore_n 3, 1) := by decide +kernel
theorem dX9_workOut_27 : decode cX9_workOut 27 = .ok (.iconst 0, 1) := by decide +kernel
theorem dX9_workOut_28 : decode cX9_workOut 28 = .ok (.istore 4, 2) := by decide +kernel
theorem dX9_workOut_30 : decode cX9_workOut 30 = .ok (.iconst 1, 1) := by decide +kernel
theorem dX9_workOut_31 : decode cX9_workOut 31 = .ok (.istore 5, 2) := by decide +kernel
theorem dX9_workOut_33 : decode cX9_workOut 33 = .ok (.iload 5, 2) := by decide +kernel
theorem dX9_workOut_35 : decode cX9_workOut 35 = .ok (.ifCond .eq 72, 3) := by decide +kernel
theorem dX9_workOut_38 : decode cX9_workOut 38 = .ok (.aload_n 0, 1) := by decide +kernel
theorem dX9_workOut_39 : decode cX9_workOut 39 = .ok (.invokevirtual 192, 3) := by decide +kernel
theorem dX9_workOut_42 : decode cX9_workOut 42 = .ok (.istore 6, 2) := by decide +kernel
theorem dX9_workOut_44 : decode cX9_workOut 44 = .ok (.iconst 1, 1) := by decide +kernel
theorem dX9_workOut_45 : decode cX9_workOut 45 = .ok (.istore 7, 2) := by decide +kernel
theorem dX9_workOut_47 : decode cX9_workOut 47 = .ok (.aload_n 0, 1) := by decide +kernel
theorem dX9_workOut_48 : decode cX9_workOut 48 = .ok (.bipush 63, 2) := by decide +kernel
theorem dX9_workOut_50 : decode cX9_workOut 50 = .ok (.invokevirtual 171, 3) := by decide +kernel
theorem dX9_workOut_53 : decode cX9_workOut 53 = .ok (.ifCond .eq 21, 3) := by decide +kernel
theorem dX9_workOut_56 : decode cX9_workOut 56 = .ok (.iload 6, 2) := by decide +kernel
theorem dX9_workOut_58 : decode cX9_workOut 58 = .ok (.ifCond .eq 7, 3) := by decide +kernel
theorem dX9_workOut_61 : decode cX9_workOut 61 = .ok (.iconst 1, 1) := by decide +kernel
theorem dX9_workOut_62 : decode cX9_workOut 62 = .ok (.goto 4, 3) := by decide +kernel
theorem dX9_workOut_65 : decode cX9_workOut 65 = .ok (.iconst 0, 1) := by decide +kernel
theorem dX9_workOut_66 : decode cX9_workOut 66 = .ok (.istore 7, 2) := by decide +kernel
theorem dX9_workOut_68 : decode cX9_workOut 68 = .ok (.aload_n 0, 1) := by decide +kernel
theorem dX9_workOut_69 : decode cX9_workOut 69 = .ok (.invokevirtual 192, 3) := by decide +kernel
theorem dX9_workOut_72 : decode cX9_workOut 72 = .ok (.istore 6, 2) := by decide +kernel
theorem dX9_workOut_74 : decode cX9_workOut 74 = .ok (.aload_n 0, 1) := by decide +kernel
theorem dX9_workOut_75 : decode cX9_workOut 75 = .ok (.getfield 161, 3) := by decide +kernel
theorem dX9_workOut_78 : decode cX9_workOut 78 = .ok (.ifCond .ge 18, 3) := by decide +kernel
theorem dX9_workOut_81 : decode cX9_workOut 81 = .ok (.iload 7, 2) := by decide +kernel
theorem dX9_workOut_83 : decode cX9_workOut 83 = .ok (.ifCond .eq 13, 3) := by decide +kernel
theorem dX9_workOut_86 : decode cX9_workOut 86 = .ok (.iload_n 3, 1) := by decide +kernel
theorem dX9_workOut_87 : decode cX9_workOut 87 = .ok (.ifCond .ne 9, 3) := by decide +kernel
theorem dX9_workOut_90 : decode cX9_workOut 90 = .ok (.iconst 1, 1) := by decide +kernel
theorem dX9_workOut_91 : decode cX9_workOut 91 = .ok (.istore_n 3, 1) := by decide +kernel
theorem dX9_workOut_92 : decode cX9_workOut 92 = .ok (.iload 6, 2) := by decide +kernel
theorem dX9_workOut_94 : decode cX9_workOut 94 = .ok (.istore 4, 2) := by decide +kernel
theorem dX9_workOut_96 : decode cX9_workOut 96 = .ok (.aload_n 0, 1) := by decide +kernel
theorem dX9_workOut_97 : decode cX9_workOut 97 = .ok (.bipush 59, 2) := by decide +kernel
theorem dX9_workOut_99 : decode cX9_workOut 99 = .ok (.invokevirtual 171, 3) := by decide +kernel
theorem dX9_workOut_102 : decode cX9_workOut 102 = .ok (.istore 5, 2) := by decide +kernel
theorem dX9_workOut_104 : decode cX9_workOut 104 = .ok (.goto (-71), 3) := by decide +kernel
theorem dX9_workOut_107 : decode cX9_workOut 107 = .ok (.aload_n 0, 1) := by decide +kernel
theorem dX9_workOut_108 : decode cX9_workOut 108 = .ok (.getfield 161, 3) := by decide +kernel
theorem dX9_workOut_111 : decode cX9_workOut 111 = .ok (.ifCond .ge 19, 3) := by decide +kernel
theorem dX9_workOut_114 : decode cX9_workOut 114 = .ok (.aload_n 0, 1) := by decide +kernel
theorem dX9_workOut_115 : decode cX9_workOut 115 = .ok (.getfield 152, 3) := by decide +kernel
theorem dX9_workOut_118 : decode cX9_workOut 118 = .ok (.aload_n 0, 1) := by decide +kernel
theorem dX9_workOut_119 : decode cX9_workOut 119 = .ok (.getfield 155, 3) := by decide +kernel
theorem dX9_workOut_122 : decode cX9_workOut 122 = .ok (.if_icmp .ge 8, 3) := by decide +kernel
theorem dX9_workOut_125 : decode cX9_workOut 125 = .ok (.aload_n 0, 1) := by decide +kernel
theorem dX9_workOut_126 : decode cX9_workOut 126 = .ok (.invokevirtual 189, 3) := by decide +kernel
theorem dX9_workOut_129 : decode cX9_workOut 129 = .ok (.ireturn, 1) := by decide +kernel
theorem dX9_workOut_130 : decode cX9_workOut 130 = .ok (.iload 4, 2) := by decide +kernel
theorem dX9_workOut_132 : decode cX9_workOut 132 = .ok (.ireturn, 1) := by decide +kernel
theorem dX9_law_0 : decode cX9_law 0 = .ok (.aload_n 0, 1) := by decide +kernel
theorem dX9_law_1 : decode cX9_law 1 = .ok (.iconst (-1), 1) := by decide +kernel
theorem dX9_law_2 : decode cX9_law 2 = .ok (.aload_n 0, 1) := by decide +kernel
theorem dX9_law_3 : decode cX9_law 3 = .ok (.getfield 149, 3) := by decide +kernel
theorem dX9_law_6 : decode cX9_law 6 = .ok (.invokevirtual 198, 3) := by decide +kernel
theorem dX9_law_9 : decode cX9_law 9 = .ok (.istore_n 1, 1) := by decide +kernel
theorem dX9_law_10 : decode cX9_law 10 = .ok (.aload_n 0, 1) := by decide +kernel
theorem dX9_law_11 : decode cX9_law 11 = .ok (.getfield 149, 3) := by decide +kernel
theorem dX9_law_14 : decode cX9_law 14 = .ok (.istore_n 2, 1) := by decide +kernel
theorem dX9_law_15 : decode cX9_law 15 = .ok (.aload_n 0, 1) := by decide +kernel
theorem dX9_law_16 : decode cX9_law 16 = .ok (.iconst 0, 1) := by decide +kernel
theorem dX9_law_17 : decode cX9_law 17 = .ok (.putfield 149, 3) := by decide +kernel
theorem dX9_law_20 : decode cX9_law 20 = .ok (.aload_n 0, 1) := by decide +kernel
theorem dX9_law_21 : decode cX9_law 21 = .ok (.getfield 161, 3) := by decide +kernel
theorem dX9_law_24 : decode cX9_law 24 = .ok (.ifCond .lt 11, 3) := by decide +kernel
theorem dX9_law_27 : decode cX9_law 27 = .ok (.bipush (-100), 2) := by decide +kernel
theorem dX9_law_29 : decode cX9_law 29 = .ok (.aload_n 0, 1) := by decide +kernel
theorem dX9_law_30 : decode cX9_law 30 = .ok (.getfield 161, 3) := by decide +kernel
theorem dX9_law_33 : decode cX9_law 33 = .ok (.isub, 1) := by decide +kernel
theorem dX9_law_34 : decode cX9_law 34 = .ok (.ireturn, 1) := by decide +kernel
theorem dX9_law_35 : decode cX9_law 35 = .ok (.iconst 0, 1) := by decide +kernel
theorem dX9_law_36 : decode cX9_law 36 = .ok (.istore_n 3, 1) := by decide +kernel
theorem dX9_law_37 : decode cX9_law 37 = .ok (.iload_n 3, 1) := by decide +kernel
theorem dX9_law_38 : decode cX9_law 38 = .ok (.iload_n 2, 1) := by decide +kernel
theorem dX9_law_39 : decode cX9_law 39 = .ok (.if_icmp .ge 21, 3) := by decide +kernel
theorem dX9_law_42 : decode cX9_law 42 = .ok (.aload_n 0, 1) := by decide +kernel
theorem dX9_law_43 : decode cX9_law 43 = .ok (.getfield 25, 3) := by decide +kernel
theorem dX9_law_46 : decode cX9_law 46 = .ok (.iload_n 3, 1) := by decide +kernel
theorem dX9_law_47 : decode cX9_law 47 = .ok (.aload_n 0, 1) := by decide +kernel
theorem dX9_law_48 : decode cX9_law 48 = .ok (.getfield 22, 3) := by decide +kernel
theorem dX9_law_51 : decode cX9_law 51 = .ok (.iload_n 3, 1) := by decide +kernel
theorem dX9_law_52 : decode cX9_law 52 = .ok (.iaload, 1) := by decide +kernel
theorem dX9_law_53 : decode cX9_law 53 = .ok (.iastore, 1) := by decide +kernel
theorem dX9_law_54 : decode cX9_law 54 = .ok (.iinc 3 1, 3) := by decide +kernel
theorem dX9_law_57 : decode cX9_law 57 = .ok (.goto (-20), 3) := by decide +kernel
theorem dX9_law_60 : decode cX9_law 60 = .ok (.aload_n 0, 1) := by decide +kernel
theorem dX9_law_61 : decode cX9_law 61 = .ok (.iload_n 2, 1) := by decide +kernel
theorem dX9_law_62 : decode cX9_law 62 = .ok (.putfield 77, 3) := by decide +kernel
theorem dX9_law_65 : decode cX9_law 65 = .ok (.iconst 1, 1) := by decide +kernel
theorem dX9_law_66 : decode cX9_law 66 = .ok (.ireturn, 1) := by decide +kernel
theorem dX9_begins_0 : decode cX9_begins 0 = .ok (.iconst 0, 1) := by decide +kernel
theorem dX9_begins_1 : decode cX9_begins 1 = .ok (.istore_n 1, 1) := by decide +kernel
theorem dX9_begins_2 : decode cX9_begins 2 = .ok (.iload_n 1, 1) := by decide +kernel
theorem dX9_begins_3 : decode cX9_begins 3 = .ok (.bipush 12, 2) := by decide +kernel
theorem dX9_begins_5 : decode cX9_begins 5 = .ok (.if_icmp .ge 20, 3) := by decide +kernel
theorem dX9_begins_8 : decode cX9_begins 8 = .ok (.aload_n 0, 1) := by decide +kernel
theorem dX9_begins_9 : decode cX9_begins 9 = .ok (.getfield 31, 3) := by decide +kernel
theorem dX9_begins_12 : decode cX9_begins 12 = .ok (.iload_n 1, 1) := by decide +kernel
theorem dX9_begins_13 : decode cX9_begins 13 = .ok (.aload_n 0, 1) := by decide +kernel
theorem dX9_begins_14 : decode cX9_begins 14 = .ok (.iload_n 1, 1) := by decide +kernel
theorem dX9_begins_15 : decode cX9_begins 15 = .ok (.invokevirtual 87, 3) := by decide +kernel
theorem dX9_begins_18 : decode cX9_begins 18 = .ok (.iastore, 1) := by decide +kernel
theorem dX9_begins_19 : decode cX9_begins 19 = .ok (.iinc 1 1, 3) := by decide +kernel
theorem dX9_begins_22 : decode cX9_begins 22 = .ok (.goto (-20), 3) := by decide +kernel
theorem dX9_begins_25 : decode cX9_begins 25 = .ok (.iconst 0, 1) := by decide +kernel
theorem dX9_begins_26 : decode cX9_begins 26 = .ok (.istore_n 1, 1) := by decide +kernel
theorem dX9_begins_27 : decode cX9_begins 27 = .ok (.iload_n 1, 1) := by decide +kernel
theorem dX9_begins_28 : decode cX9_begins 28 = .ok (.aload_n 0, 1) := by decide +kernel
theorem dX9_begins_29 : decode cX9_begins 29 = .ok (.getfield 95, 3) := by decide +kernel
theorem dX9_begins_32 : decode cX9_begins 32 = .ok (.if_icmp .ge 24, 3) := by decide +kernel
theorem dX9_begins_35 : decode cX9_begins 35 = .ok (.aload_n 0, 1) := by decide +kernel
theorem dX9_begins_36 : decode cX9_begins 36 = .ok (.getfield 34, 3) := by decide +kernel
theorem dX9_begins_39 : decode cX9_begins 39 = .ok (.iload_n 1, 1) := by decide +kernel
theorem dX9_begins_40 : decode cX9_begins 40 = .ok (.aload_n 0, 1) := by decide +kernel
theorem dX9_begins_41 : decode cX9_begins 41 = .ok (.getfield 9, 3) := by decide +kernel
theorem dX9_begins_44 : decode cX9_begins 44 = .ok (.bipush 30, 2) := by decide +kernel
theorem dX9_begins_46 : decode cX9_begins 46 = .ok (.iload_n 1, 1) := by decide +kernel
theorem dX9_begins_47 : decode cX9_begins 47 = .ok (.iadd, 1) := by decide +kernel
theorem dX9_begins_48 : decode cX9_begins 48 = .ok (.iaload, 1) := by decide +kernel
theorem dX9_begins_49 : decode cX9_begins 49 = .ok (.iastore, 1) := by decide +kernel
theorem dX9_begins_50 : decode cX9_begins 50 = .ok (.iinc 1 1, 3) := by decide +kernel
theorem dX9_begins_53 : decode cX9_begins 53 = .ok (.goto (-26), 3) := by decide +kernel
theorem dX9_begins_56 : decode cX9_begins 56 = .ok (.aload_n 0, 1) := by decide +kernel
theorem dX9_begins_57 : decode cX9_begins 57 = .ok (.aload_n 0, 1) := by decide +kernel
theorem dX9_begins_58 : decode cX9_begins 58 = .ok (.getfield 9, 3) := by decide +kernel
theorem dX9_begins_61 : decode cX9_begins 61 = .ok (.bipush 50, 2) := by decide +kernel
theorem dX9_begins_63 : decode cX9_begins 63 = .ok (.iaload, 1) := by decide +kernel
theorem dX9_begins_64 : decode cX9_begins 64 = .ok (.putfield 201, 3) := by decide +kernel
theorem dX9_begins_67 : decode cX9_begins 67 = .ok (.aload_n 0, 1) := by decide +kernel
theorem dX9_begins_68 : decode cX9_begins 68 = .ok (.aload_n 0, 1) := by decide +kernel
theorem dX9_begins_69 : decode cX9_begins 69 = .ok (.getfield 9, 3) := by decide +kernel
theorem dX9_begins_72 : decode cX9_begins 72 = .ok (.bipush 52, 2) := by decide +kernel
theorem dX9_begins_74 : decode cX9_begins 74 = .ok (.iaload, 1) := by decide +kernel
theorem dX9_begins_75 : decode cX9_begins 75 = .ok (.putfield 204, 3) := by decide +kernel
theorem dX9_begins_78 : decode cX9_begins 78 = .ok (.return_, 1) := by decide +kernel
theorem dX9_isAwake_0 : decode cX9_isAwake 0 = .ok (.aload_n 0, 1) := by decide +kernel
theorem dX9_isAwake_1 : decode cX9_isAwake 1 = .ok (.getfield 34, 3) := by decide +kernel
theorem dX9_isAwake_4 : decode cX9_isAwake 4 = .ok (.iload_n 1, 1) := by decide +kernel
theorem dX9_isAwake_5 : decode cX9_isAwake 5 = .ok (.iaload, 1) := by decide +kernel
theorem dX9_isAwake_6 : decode cX9_isAwake 6 = .ok (.aload_n 0, 1) := by decide +kernel
theorem dX9_isAwake_7 : decode cX9_isAwake 7 = .ok (.getfield 9, 3) := by decide +kernel
theorem dX9_isAwake_10 : decode cX9_isAwake 10 = .ok (.bipush 51, 2) := by decide +kernel
theorem dX9_isAwake_12 : decode cX9_isAwake 12 = .ok (.iaload, 1) := by decide +kernel
theorem dX9_isAwake_13 : decode cX9_isAwake 13 = .ok (.if_icmp .le 7, 3) := by decide +kernel
theorem dX9_isAwake_16 : decode cX9_isAwake 16 = .ok (.iconst 1, 1) := by decide +kernel
theorem dX9_isAwake_17 : decode cX9_isAwake 17 = .ok (.goto 4, 3) := by decide +kernel
theorem dX9_isAwake_20 : decode cX9_isAwake 20 = .ok (.iconst 0, 1) := by decide +kernel
theorem dX9_isAwake_21 : decode cX9_isAwake 21 = .ok (.ireturn, 1) := by decide +kernel
theorem dX9_areBeside_0 : decode cX9_areBeside 0 = .ok (.iload_n 0, 1) := by decide +kernel
theorem dX9_areBeside_1 : decode cX9_areBeside 1 = .ok (.bipush 6, 2) := by decide +kernel
theorem dX9_areBeside_3 : decode cX9_areBeside 3 = .ok (.idiv, 1) := by decide +kernel
theorem dX9_areBeside_4 : decode cX9_areBeside 4 = .ok (.iload_n 1, 1) := by decide +kernel
theorem dX9_areBeside_5 : decode cX9_areBeside 5 = .ok (.bipush 6, 2) := by decide +kernel
theorem dX9_areBeside_7 : decode cX9_areBeside 7 = .ok (.idiv, 1) := by decide +kernel
theorem dX9_areBeside_8 : decode cX9_areBeside 8 = .ok (.if_icmp .ne 21, 3) := by decide +kernel
theorem dX9_areBeside_11 : decode cX9_areBeside 11 = .ok (.iload_n 0, 1) := by decide +kernel
theorem dX9_areBeside_12 : decode cX9_areBeside 12 = .ok (.iload_n 1, 1) := by decide +kernel
theorem dX9_areBeside_13 : decode cX9_areBeside 13 = .ok (.isub, 1) := by decide +kernel
theorem dX9_areBeside_14 : decode cX9_areBeside 14 = .ok (.invokestatic 207, 3) := by decide +kernel
theorem dX9_areBeside_17 : decode cX9_areBeside 17 = .ok (.iconst 1, 1) := by decide +kernel
theorem dX9_areBeside_18 : decode cX9_areBeside 18 = .ok (.if_icmp .ne 7, 3) := by decide +kernel
theorem dX9_areBeside_21 : decode cX9_areBeside 21 = .ok (.iconst 1, 1) := by decide +kernel
theorem dX9_areBeside_22 : decode cX9_areBeside 22 = .ok (.goto 23, 3) := by decide +kernel
theorem dX9_areBeside_25 : decode cX9_areBeside 25 = .ok (.iconst 0, 1) := by decide +kernel
theorem dX9_areBeside_26 : decode cX9_areBeside 26 = .ok (.goto 19, 3) := by decide +kernel
theorem dX9_areBeside_29 : decode cX9_areBeside 29 = .ok (.iload_n 0, 1) := by decide +kernel
theorem dX9_areBeside_30 : decode cX9_areBeside 30 = .ok (.bipush 6, 2) := by decide +kernel
theorem dX9_areBeside_32 : decode cX9_areBeside 32 = .ok (.irem, 1) := by decide +kernel
theorem dX9_areBeside_33 : decode cX9_areBeside 33 = .ok (.iload_n 1, 1) := by decide +kernel
theorem dX9_areBeside_34 : decode cX9_areBeside 34 = .ok (.bipush 6, 2) := by decide +kernel
theorem dX9_areBeside_36 : decode cX9_areBeside 36 = .ok (.irem, 1) := by decide +kernel
theorem dX9_areBeside_37 : decode cX9_areBeside 37 = .ok (.if_icmp .ne 7, 3) := by decide +kernel
theorem dX9_areBeside_40 : decode cX9_areBeside 40 = .ok (.iconst 1, 1) := by decide +kernel
theorem dX9_areBeside_41 : decode cX9_areBeside 41 = .ok (.goto 4, 3) := by decide +kernel
theorem dX9_areBeside_44 : decode cX9_areBeside 44 = .ok (.iconst 0, 1) := by decide +kernel
theorem dX9_areBeside_45 : decode cX9_areBeside 45 = .ok (.ireturn, 1) := by decide +kernel
theorem dX9_awakeBeside_0 : decode cX9_awakeBeside 0 = .ok (.iconst 0, 1) := by decide +kernel
theorem dX9_awakeBeside_1 : decode cX9_awakeBeside 1 = .ok (.istore_n 2, 1) := by decide +kernel
theorem dX9_awakeBeside_2 : decode cX9_awakeBeside 2 = .ok (.iconst 0, 1) := by decide +kernel
theorem dX9_awakeBeside_3 : decode cX9_awakeBeside 3 = .ok (.istore_n 3, 1) := by decide +kernel
theorem dX9_awakeBeside_4 : decode cX9_awakeBeside 4 = .ok (.iload_n 3, 1) := by decide +kernel
theorem dX9_awakeBeside_5 : decode cX9_awakeBeside 5 = .ok (.bipush 12, 2) := by decide +kernel
theorem dX9_awakeBeside_7 : decode cX9_awakeBeside 7 = .ok (.if_icmp .ge 47, 3) := by decide +kernel
theorem dX9_awakeBeside_10 : decode cX9_awakeBeside 10 = .ok (.iload_n 2, 1) := by decide +kernel
theorem dX9_awakeBeside_11 : decode cX9_awakeBeside 11 = .ok (.iload_n 1, 1) := by decide +kernel
theorem dX9_awakeBeside_12 : decode cX9_awakeBeside 12 = .ok (.iload_n 3, 1) := by decide +kernel
theorem dX9_awakeBeside_13 : decode cX9_awakeBeside 13 = .ok (.invokestatic 210, 3) := by decide +kernel
theorem dX9_awakeBeside_16 : decode cX9_awakeBeside 16 = .ok (.ifCond .eq 29, 3) := by decide +kernel
theorem dX9_awakeBeside_19 : decode cX9_awakeBeside 19 = .ok (.aload_n 0, 1) := by decide +kernel
theorem dX9_awakeBeside_20 : decode cX9_awakeBeside 20 = .ok (.getfield 31, 3) := by decide +kernel
theorem dX9_awakeBeside_23 : decode cX9_awakeBeside 23 = .ok (.iload_n 3, 1) := by decide +kernel
theorem dX9_awakeBeside_24 : decode cX9_awakeBeside 24 = .ok (.iaload, 1) := by decide +kernel
theorem dX9_awakeBeside_25 : decode cX9_awakeBeside 25 = .ok (.ifCond .lt 20, 3) := by decide +kernel
theorem dX9_awakeBeside_28 : decode cX9_awakeBeside 28 = .ok (.aload_n 0, 1) := by decide +kernel
theorem dX9_awakeBeside_29 : decode cX9_awakeBeside 29 = .ok (.aload_n 0, 1) := by decide +kernel
theorem dX9_awakeBeside_30 : decode cX9_awakeBeside 30 = .ok (.getfield 31, 3) := by decide +kernel
theorem dX9_awakeBeside_33 : decode cX9_awakeBeside 33 = .ok (.iload_n 3, 1) := by decide +kernel
theorem dX9_awakeBeside_34 : decode cX9_awakeBeside 34 = .ok (.iaload, 1) := by decide +kernel
theorem dX9_awakeBeside_35 : decode cX9_awakeBeside 35 = .ok (.invokevirtual 214, 3) := by decide +kernel
theorem dX9_awakeBeside_38 : decode cX9_awakeBeside 38 = .ok (.ifCond .eq 7, 3) := by decide +kernel
theorem dX9_awakeBeside_41 : decode cX9_awakeBeside 41 = .ok (.iconst 1, 1) := by decide +kernel
theorem dX9_awakeBeside_42 : decode cX9_awakeBeside 42 = .ok (.goto 4, 3) := by decide +kernel
theorem dX9_awakeBeside_45 : decode cX9_awakeBeside 45 = .ok (.iconst 0, 1) := by decide +kernel
theorem dX9_awakeBeside_46 : decode cX9_awakeBeside 46 = .ok (.iadd, 1) := by decide +kernel
theorem dX9_awakeBeside_47 : decode cX9_awakeBeside 47 = .ok (.istore_n 2, 1) := by decide +kernel
theorem dX9_awakeBeside_48 : decode cX9_awakeBeside 48 = .ok (.iinc 3 1, 3) := by decide +kernel
theorem dX9_awakeBeside_51 : decode cX9_awakeBeside 51 = .ok (.goto (-47), 3) := by decide +kernel
theorem dX9_awakeBeside_54 : decode cX9_awakeBeside 54 = .ok (.iload_n 2, 1) := by decide +kernel
theorem dX9_awakeBeside_55 : decode cX9_awakeBeside 55 = .ok (.ireturn, 1) := by decide +kernel
theorem dX9_growsIn_0 : decode cX9_growsIn 0 = .ok (.aload_n 0, 1) := by decide +kernel
theorem dX9_growsIn_1 : decode cX9_growsIn 1 = .ok (.getfield 31, 3) := by decide +kernel
theorem dX9_growsIn_4 : decode cX9_growsIn 4 = .ok (.iload_n 1, 1) := by decide +kernel
theorem dX9_growsIn_5 : decode cX9_growsIn 5 = .ok (.iaload, 1) := by decide +kernel
theorem dX9_growsIn_6 : decode cX9_growsIn 6 = .ok (.istore_n 2, 1) := by decide +kernel
theorem dX9_growsIn_7 : decode cX9_growsIn 7 = .ok (.aload_n 0, 1) := by decide +kernel
theorem dX9_growsIn_8 : decode cX9_growsIn 8 = .ok (.iload_n 1, 1) := by decide +kernel
theorem dX9_growsIn_9 : decode cX9_growsIn 9 = .ok (.invokevirtual 217, 3) := by decide +kernel
theorem dX9_growsIn_12 : decode cX9_growsIn 12 = .ok (.istore_n 3, 1) := by decide +kernel
theorem dX9_growsIn_13 : decode cX9_growsIn 13 = .ok (.aload_n 0, 1) := by decide +kernel
theorem dX9_growsIn_14 : decode cX9_growsIn 14 = .ok (.getfield 204, 3) := by decide +kernel
theorem dX9_growsIn_17 : decode cX9_growsIn 17 = .ok (.iload_n 1, 1) := by decide +kernel
theorem dX9_growsIn_18 : decode cX9_growsIn 18 = .ok (.if_icmp .ne 7, 3) := by decide +kernel
theorem dX9_growsIn_21 : decode cX9_growsIn 21 = .ok (.iconst 1, 1) := by decide +kernel
theorem dX9_growsIn_22 : decode cX9_growsIn 22 = .ok (.goto 4, 3) := by decide +kernel
theorem dX9_growsIn_25 : decode cX9_growsIn 25 = .ok (.iconst 0, 1) := by decide +kernel
theorem dX9_growsIn_26 : decode cX9_growsIn 26 = .ok (.istore 4, 2) := by decide +kernel
theorem dX9_growsIn_28 : decode cX9_growsIn 28 = .ok (.aload_n 0, 1) := by decide +kernel
theorem dX9_growsIn_29 : decode cX9_growsIn 29 = .ok (.getfield 9, 3) := by decide +kernel
theorem dX9_growsIn_32 : decode cX9_growsIn 32 = .ok (.bipush 10, 2) := by decide +kernel
theorem dX9_growsIn_34 : decode cX9_growsIn 34 = .ok (.iload_n 2, 1) := by decide +kernel
theorem dX9_growsIn_35 : decode cX9_growsIn 35 = .ok (.iadd, 1) := by decide +kernel
theorem dX9_growsIn_36 : decode cX9_growsIn 36 = .ok (.iaload, 1) := by decide +kernel
theorem dX9_growsIn_37 : decode cX9_growsIn 37 = .ok (.iconst 3, 1) := by decide +kernel
theorem dX9_growsIn_38 : decode cX9_growsIn 38 = .ok (.iload_n 3, 1) := by decide +kernel
theorem dX9_growsIn_39 : decode cX9_growsIn 39 = .ok (.imul, 1) := by decide +kernel
theorem dX9_growsIn_40 : decode cX9_growsIn 40 = .ok (.iadd, 1) := by decide +kernel
theorem dX9_growsIn_41 : decode cX9_growsIn 41 = .ok (.aload_n 0, 1) := by decide +kernel
theorem dX9_growsIn_42 : decode cX9_growsIn 42 = .ok (.getfield 9, 3) := by decide +kernel
theorem dX9_growsIn_45 : decode cX9_growsIn 45 = .ok (.bipush 20, 2) := by decide +kernel
theorem dX9_growsIn_47 : decode cX9_growsIn 47 = .ok (.iload_n 2, 1) := by decide +kernel
theorem dX9_growsIn_48 : decode cX9_growsIn 48 = .ok (.iadd, 1) := by decide +kernel
theorem dX9_growsIn_49 : decode cX9_growsIn 49 = .ok (.iaload, 1) := by decide +kernel
theorem dX9_growsIn_50 : decode cX9_growsIn 50 = .ok (.bipush 20, 2) := by decide +kernel
theorem dX9_growsIn_52 : decode cX9_growsIn 52 = .ok (.idiv, 1) := by decide +kernel
theorem dX9_growsIn_53 : decode cX9_growsIn 53 = .ok (.isub, 1) := by decide +kernel
theorem dX9_growsIn_54 : decode cX9_growsIn 54 = .ok (.bipush 8, 2) := by decide +kernel
theorem dX9_growsIn_56 : decode cX9_growsIn 56 = .ok (.iload 4, 2) := by decide +kernel
theorem dX9_growsIn_58 : decode cX9_growsIn 58 = .ok (.imul, 1) := by decide +kernel
theorem dX9_growsIn_59 : decode cX9_growsIn 59 = .ok (.isub, 1) := by decide +kernel
theorem dX9_growsIn_60 : decode cX9_growsIn 60 = .ok (.iconst 2, 1) := by decide +kernel
theorem dX9_growsIn_61 : decode cX9_growsIn 61 = .ok (.isub, 1) := by decide +kernel
theorem dX9_growsIn_62 : decode cX9_growsIn 62 = .ok (.istore 5, 2) := by decide +kernel
theorem dX9_growsIn_64 : decode cX9_growsIn 64 = .ok (.aload_n 0, 1) := by decide +kernel
theorem dX9_growsIn_65 : decode cX9_growsIn 65 = .ok (.getfield 77, 3) := by decide +kernel
theorem dX9_growsIn_68 : decode cX9_growsIn 68 = .ok (.ifCond .lt 81, 3) := by decide +kernel
theorem dX9_growsIn_71 : decode cX9_growsIn 71 = .ok (.aload_n 0, 1) := by decide +kernel
theorem dX9_growsIn_72 : decode cX9_growsIn 72 = .ok (.getfield 28, 3) := by decide +kernel
theorem dX9_growsIn_75 : decode cX9_growsIn 75 = .ok (.iconst 0, 1) := by decide +kernel
theorem dX9_growsIn_76 : decode cX9_growsIn 76 = .ok (.aload_n 0, 1) := by decide +kernel
theorem dX9_growsIn_77 : decode cX9_growsIn 77 = .ok (.getfield 9, 3) := by decide +kernel
theorem dX9_growsIn_80 : decode cX9_growsIn 80 = .ok (.bipush 10, 2) := by decide +kernel
theorem dX9_growsIn_82 : decode cX9_growsIn 82 = .ok (.iload_n 2, 1) := by decide +kernel
theorem dX9_growsIn_83 : decode cX9_growsIn 83 = .ok (.iadd, 1) := by decide +kernel
theorem dX9_growsIn_84 : decode cX9_growsIn 84 = .ok (.iaload, 1) := by decide +kernel
theorem dX9_growsIn_85 : decode cX9_growsIn 85 = .ok (.iastore, 1) := by decide +kernel
theorem dX9_growsIn_86 : decode cX9_growsIn 86 = .ok (.aload_n 0, 1) := by decide +kernel
theorem dX9_growsIn_87 : decode cX9_growsIn 87 = .ok (.getfield 28, 3) := by decide +kernel
theorem dX9_growsIn_90 : decode cX9_growsIn 90 = .ok (.iconst 1, 1) := by decide +kernel
theorem dX9_growsIn_91 : decode cX9_growsIn 91 = .ok (.aload_n 0, 1) := by decide +kernel
theorem dX9_growsIn_92 : decode cX9_growsIn 92 = .ok (.getfield 9, 3) := by decide +kernel
theorem dX9_growsIn_95 : decode cX9_growsIn 95 = .ok (.bipush 20, 2) := by decide +kernel
theorem dX9_growsIn_97 : decode cX9_growsIn 97 = .ok (.iload_n 2, 1) := by decide +kernel
theorem dX9_growsIn_98 : decode cX9_growsIn 98 = .ok (.iadd, 1) := by decide +kernel
theorem dX9_growsIn_99 : decode cX9_growsIn 99 = .ok (.iaload, 1) := by decide +kernel
theorem dX9_growsIn_100 : decode cX9_growsIn 100 = .ok (.iastore, 1) := by decide +kernel
theorem dX9_growsIn_101 : decode cX9_growsIn 101 = .ok (.aload_n 0, 1) := by decide +kernel
theorem dX9_growsIn_102 : decode cX9_growsIn 102 = .ok (.getfield 28, 3) := by decide +kernel
theorem dX9_growsIn_105 : decode cX9_growsIn 105 = .ok (.iconst 2, 1) := by decide +kernel
theorem dX9_growsIn_106 : decode cX9_growsIn 106 = .ok (.aload_n 0, 1) := by decide +kernel
theorem dX9_growsIn_107 : decode cX9_growsIn 107 = .ok (.getfield 34, 3) := by decide +kernel
theorem dX9_growsIn_110 : decode cX9_growsIn 110 = .ok (.iload_n 2, 1) := by decide +kernel
theorem dX9_growsIn_111 : decode cX9_growsIn 111 = .ok (.iaload, 1) := by decide +kernel
theorem dX9_growsIn_112 : decode cX9_growsIn 112 = .ok (.iastore, 1) := by decide +kernel
theorem dX9_growsIn_113 : decode cX9_growsIn 113 = .ok (.aload_n 0, 1) := by decide +kernel
theorem dX9_growsIn_114 : decode cX9_growsIn 114 = .ok (.getfield 28, 3) := by decide +kernel
theorem dX9_growsIn_117 : decode cX9_growsIn 117 = .ok (.iconst 3, 1) := by decide +kernel
theorem dX9_growsIn_118 : decode cX9_growsIn 118 = .ok (.iload_n 3, 1) := by decide +kernel
theorem dX9_growsIn_119 : decode cX9_growsIn 119 = .ok (.iastore, 1) := by decide +kernel
theorem dX9_growsIn_120 : decode cX9_growsIn 120 = .ok (.aload_n 0, 1) := by decide +kernel
theorem dX9_growsIn_121 : decode cX9_growsIn 121 = .ok (.getfield 28, 3) := by decide +kernel
theorem dX9_growsIn_124 : decode cX9_growsIn 124 = .ok (.iconst 4, 1) := by decide +kernel
theorem dX9_growsIn_125 : decode cX9_growsIn 125 = .ok (.iload 4, 2) := by decide +kernel
theorem dX9_growsIn_127 : decode cX9_growsIn 127 = .ok (.iastore, 1) := by decide +kernel
theorem dX9_growsIn_128 : decode cX9_growsIn 128 = .ok (.aload_n 0, 1) := by decide +kernel
theorem dX9_growsIn_129 : decode cX9_growsIn 129 = .ok (.getfield 28, 3) := by decide +kernel
theorem dX9_growsIn_132 : decode cX9_growsIn 132 = .ok (.iconst 5, 1) := by decide +kernel
theorem dX9_growsIn_133 : decode cX9_growsIn 133 = .ok (.aload_n 0, 1) := by decide +kernel
theorem dX9_growsIn_134 : decode cX9_growsIn 134 = .ok (.getfield 201, 3) := by decide +kernel
theorem dX9_growsIn_137 : decode cX9_growsIn 137 = .ok (.iastore, 1) := by decide +kernel
theorem dX9_growsIn_138 : decode cX9_growsIn 138 = .ok (.aload_n 0, 1) := by decide +kernel
theorem dX9_growsIn_139 : decode cX9_growsIn 139 = .ok (.iconst 0, 1) := by decide +kernel
theorem dX9_growsIn_140 : decode cX9_growsIn 140 = .ok (.aload_n 0, 1) := by decide +kernel
theorem dX9_growsIn_141 : decode cX9_growsIn 141 = .ok (.getfield 77, 3) := by decide +kernel
theorem dX9_growsIn_144 : decode cX9_growsIn 144 = .ok (.invokevirtual 198, 3) := by decide +kernel
theorem dX9_growsIn_147 : decode cX9_growsIn 147 = .ok (.istore 5, 2) := by decide +kernel
theorem dX9_growsIn_149 : decode cX9_growsIn 149 = .ok (.iload 5, 2) := by decide +kernel
theorem dX9_growsIn_151 : decode cX9_growsIn 151 = .ok (.bipush (-20), 2) := by decide +kernel
theorem dX9_growsIn_153 : decode cX9_growsIn 153 = .ok (.if_icmp .ge 8, 3) := by decide +kernel
theorem dX9_growsIn_156 : decode cX9_growsIn 156 = .ok (.bipush (-20), 2) := by decide +kernel
theorem dX9_growsIn_158 : decode cX9_growsIn 158 = .ok (.goto 17, 3) := by decide +kernel
theorem dX9_growsIn_161 : decode cX9_growsIn 161 = .ok (.iload 5, 2) := by decide +kernel
theorem dX9_growsIn_163 : decode cX9_growsIn 163 = .ok (.bipush 20, 2) := by decide +kernel
theorem dX9_growsIn_165 : decode cX9_growsIn 165 = .ok (.if_icmp .le 8, 3) := by decide +kernel
theorem dX9_growsIn_168 : decode cX9_growsIn 168 = .ok (.bipush 20, 2) := by decide +kernel
theorem dX9_growsIn_170 : decode cX9_growsIn 170 = .ok (.goto 5, 3) := by decide +kernel
theorem dX9_growsIn_173 : decode cX9_growsIn 173 = .ok (.iload 5, 2) := by decide +kernel
theorem dX9_growsIn_175 : decode cX9_growsIn 175 = .ok (.ireturn, 1) := by decide +kernel
theorem dX9_heldMind_0 : decode cX9_heldMind 0 = .ok (.iload_n 0, 1) := by decide +kernel
theorem dX9_heldMind_1 : decode cX9_heldMind 1 = .ok (.ifCond .ge 7, 3) := by decide +kernel
theorem dX9_heldMind_4 : decode cX9_heldMind 4 = .ok (.iconst 0, 1) := by decide +kernel
theorem dX9_heldMind_5 : decode cX9_heldMind 5 = .ok (.goto 15, 3) := by decide +kernel
theorem dX9_heldMind_8 : decode cX9_heldMind 8 = .ok (.iload_n 0, 1) := by decide +kernel
theorem dX9_heldMind_9 : decode cX9_heldMind 9 = .ok (.bipush 99, 2) := by decide +kernel
theorem dX9_heldMind_11 : decode cX9_heldMind 11 = .ok (.if_icmp .le 8, 3) := by decide +kernel
theorem dX9_heldMind_14 : decode cX9_heldMind 14 = .ok (.bipush 99, 2) := by decide +kernel
theorem dX9_heldMind_16 : decode cX9_heldMind 16 = .ok (.goto 4, 3) := by decide +kernel
theorem dX9_heldMind_19 : decode cX9_heldMind 19 = .ok (.iload_n 0, 1) := by decide +kernel
theorem dX9_heldMind_20 : decode cX9_heldMind 20 = .ok (.ireturn, 1) := by decide +kernel
theorem dX9_goesHour_0 : decode cX9_goesHour 0 = .ok (.iconst 0, 1) := by decide +kernel
theorem dX9_goesHour_1 : decode cX9_goesHour 1 = .ok (.istore_n 1, 1) := by decide +kernel
theorem dX9_goesHour_2 : decode cX9_goesHour 2 = .ok (.iload_n 1, 1) := by decide +kernel
theorem dX9_goesHour_3 : decode cX9_goesHour 3 = .ok (.bipush 12, 2) := by decide +kernel
theorem dX9_goesHour_5 : decode cX9_goesHour 5 = .ok (.if_icmp .ge 50, 3) := by decide +kernel
theorem dX9_goesHour_8 : decode cX9_goesHour 8 = .ok (.aload_n 0, 1) := by decide +kernel
theorem dX9_goesHour_9 : decode cX9_goesHour 9 = .ok (.getfield 37, 3) := by decide +kernel
theorem dX9_goesHour_12 : decode cX9_goesHour 12 = .ok (.iload_n 1, 1) := by decide +kernel
theorem dX9_goesHour_13 : decode cX9_goesHour 13 = .ok (.aload_n 0, 1) := by decide +kernel
theorem dX9_goesHour_14 : decode cX9_goesHour 14 = .ok (.getfield 31, 3) := by decide +kernel
theorem dX9_goesHour_17 : decode cX9_goesHour 17 = .ok (.iload_n 1, 1) := by decide +kernel
theorem dX9_goesHour_18 : decode cX9_goesHour 18 = .ok (.iaload, 1) := by decide +kernel
theorem dX9_goesHour_19 : decode cX9_goesHour 19 = .ok (.ifCond .ge 7, 3) := by decide +kernel
theorem dX9_goesHour_22 : decode cX9_goesHour 22 = .ok (.iconst 0, 1) := by decide +kernel
theorem dX9_goesHour_23 : decode cX9_goesHour 23 = .ok (.goto 25, 3) := by decide +kernel
theorem dX9_goesHour_26 : decode cX9_goesHour 26 = .ok (.aload_n 0, 1) := by decide +kernel
theorem dX9_goesHour_27 : decode cX9_goesHour 27 = .ok (.iload_n 1, 1) := by decide +kernel
theorem dX9_goesHour_28 : decode cX9_goesHour 28 = .ok (.invokevirtual 220, 3) := by decide +kernel
theorem dX9_goesHour_31 : decode cX9_goesHour 31 = .ok (.iconst 3, 1) := by decide +kernel
theorem dX9_goesHour_32 : decode cX9_goesHour 32 = .ok (.aload_n 0, 1) := by decide +kernel
theorem dX9_goesHour_33 : decode cX9_goesHour 33 = .ok (.getfield 9, 3) := by decide +kernel
theorem dX9_goesHour_36 : decode cX9_goesHour 36 = .ok (.bipush 40, 2) := by decide +kernel
theorem dX9_goesHour_38 : decode cX9_goesHour 38 = .ok (.aload_n 0, 1) := by decide +kernel
theorem dX9_goesHour_39 : decode cX9_goesHour 39 = .ok (.getfield 31, 3) := by decide +kernel
theorem dX9_goesHour_42 : decode cX9_goesHour 42 = .ok (.iload_n 1, 1) := by decide +kernel
theorem dX9_goesHour_43 : decode cX9_goesHour 43 = .ok (.iaload, 1) := by decide +kernel
theorem dX9_goesHour_44 : decode cX9_goesHour 44 = .ok (.iadd, 1) := by decide +kernel
theorem dX9_goesHour_45 : decode cX9_goesHour 45 = .ok (.iaload, 1) := by decide +kernel
theorem dX9_goesHour_46 : decode cX9_goesHour 46 = .ok (.imul, 1) := by decide +kernel
theorem dX9_goesHour_47 : decode cX9_goesHour 47 = .ok (.isub, 1) := by decide +kernel
theorem dX9_goesHour_48 : decode cX9_goesHour 48 = .ok (.iastore, 1) := by decide +kernel
theorem dX9_goesHour_49 : decode cX9_goesHour 49 = .ok (.iinc 1 1, 3) := by decide +kernel
theorem dX9_goesHour_52 : decode cX9_goesHour 52 = .ok (.goto (-50), 3) := by decide +kernel
theorem dX9_goesHour_55 : decode cX9_goesHour 55 = .ok (.iconst 0, 1) := by decide +kernel
theorem dX9_goesHour_56 : decode cX9_goesHour 56 = .ok (.istore_n 1, 1) := by decide +kernel
theorem dX9_goesHour_57 : decode cX9_goesHour 57 = .ok (.iload_n 1, 1) := by decide +kernel
theorem dX9_goesHour_58 : decode cX9_goesHour 58 = .ok (.bipush 12, 2) := by decide +kernel
theorem dX9_goesHour_60 : decode cX9_goesHour 60 = .ok (.if_icmp .ge 50, 3) := by decide +kernel
theorem dX9_goesHour_63 : decode cX9_goesHour 63 = .ok (.aload_n 0, 1) := by decide +kernel
theorem dX9_goesHour_64 : decode cX9_goesHour 64 = .ok (.getfield 31, 3) := by decide +kernel
theorem dX9_goesHour_67 : decode cX9_goesHour 67 = .ok (.iload_n 1, 1) := by decide +kernel
theorem dX9_goesHour_68 : decode cX9_goesHour 68 = .ok (.iaload, 1) := by decide +kernel
theorem dX9_goesHour_69 : decode cX9_goesHour 69 = .ok (.ifCond .lt 35, 3) := by decide +kernel
theorem dX9_goesHour_72 : decode cX9_goesHour 72 = .ok (.aload_n 0, 1) := by decide +kernel
theorem dX9_goesHour_73 : decode cX9_goesHour 73 = .ok (.getfield 34, 3) := by decide +kernel
theorem dX9_goesHour_76 : decode cX9_goesHour 76 = .ok (.aload_n 0, 1) := by decide +kernel
theorem dX9_goesHour_77 : decode cX9_goesHour 77 = .ok (.getfield 31, 3) := by decide +kernel
theorem dX9_goesHour_80 : decode cX9_goesHour 80 = .ok (.iload_n 1, 1) := by decide +kernel
theorem dX9_goesHour_81 : decode cX9_goesHour 81 = .ok (.iaload, 1) := by decide +kernel
theorem dX9_goesHour_82 : decode cX9_goesHour 82 = .ok (.aload_n 0, 1) := by decide +kernel
theorem dX9_goesHour_83 : decode cX9_goesHour 83 = .ok (.getfield 34, 3) := by decide +kernel
theorem dX9_goesHour_86 : decode cX9_goesHour 86 = .ok (.aload_n 0, 1) := by decide +kernel
theorem dX9_goesHour_87 : decode cX9_goesHour 87 = .ok (.getfield 31, 3) := by decide +kernel
theorem dX9_goesHour_90 : decode cX9_goesHour 90 = .ok (.iload_n 1, 1) := by decide +kernel
theorem dX9_goesHour_91 : decode cX9_goesHour 91 = .ok (.iaload, 1) := by decide +kernel
theorem dX9_goesHour_92 : decode cX9_goesHour 92 = .ok (.iaload, 1) := by decide +kernel
theorem dX9_goesHour_93 : decode cX9_goesHour 93 = .ok (.aload_n 0, 1) := by decide +kernel
theorem dX9_goesHour_94 : decode cX9_goesHour 94 = .ok (.getfield 37, 3) := by decide +kernel
theorem dX9_goesHour_97 : decode cX9_goesHour 97 = .ok (.iload_n 1, 1) := by decide +kernel
theorem dX9_goesHour_98 : decode cX9_goesHour 98 = .ok (.iaload, 1) := by decide +kernel
theorem dX9_goesHour_99 : decode cX9_goesHour 99 = .ok (.iadd, 1) := by decide +kernel
theorem dX9_goesHour_100 : decode cX9_goesHour 100 = .ok (.invokestatic 223, 3) := by decide +kernel
theorem dX9_goesHour_103 : decode cX9_goesHour 103 = .ok (.iastore, 1) := by decide +kernel
theorem dX9_goesHour_104 : decode cX9_goesHour 104 = .ok (.iinc 1 1, 3) := by decide +kernel
theorem dX9_goesHour_107 : decode cX9_goesHour 107 = .ok (.goto (-50), 3) := by decide +kernel
theorem dX9_goesHour_110 : decode cX9_goesHour 110 = .ok (.aload_n 0, 1) := by decide +kernel
theorem dX9_goesHour_111 : decode cX9_goesHour 111 = .ok (.aload_n 0, 1) := by decide +kernel
theorem dX9_goesHour_112 : decode cX9_goesHour 112 = .ok (.getfield 201, 3) := by decide +kernel
theorem dX9_goesHour_115 : decode cX9_goesHour 115 = .ok (.iconst 1, 1) := by decide +kernel
theorem dX9_goesHour_116 : decode cX9_goesHour 116 = .ok (.iadd, 1) := by decide +kernel
theorem dX9_goesHour_117 : decode cX9_goesHour 117 = .ok (.bipush 12, 2) := by decide +kernel
theorem dX9_goesHour_119 : decode cX9_goesHour 119 = .ok (.irem, 1) := by decide +kernel
theorem dX9_goesHour_120 : decode cX9_goesHour 120 = .ok (.putfield 201, 3) := by decide +kernel
theorem dX9_goesHour_123 : decode cX9_goesHour 123 = .ok (.return_, 1) := by decide +kernel
theorem dX9_awakeSet_0 : decode cX9_awakeSet 0 = .ok (.iconst 0, 1) := by decide +kernel
theorem dX9_awakeSet_1 : decode cX9_awakeSet 1 = .ok (.istore_n 1, 1) := by decide +kernel
theorem dX9_awakeSet_2 : decode cX9_awakeSet 2 = .ok (.iconst 0, 1) := by decide +kernel
theorem dX9_awakeSet_3 : decode cX9_awakeSet 3 = .ok (.istore_n 2, 1) := by decide +kernel
theorem dX9_awakeSet_4 : decode cX9_awakeSet 4 = .ok (.iload_n 2, 1) := by decide +kernel
theorem dX9_awakeSet_5 : decode cX9_awakeSet 5 = .ok (.aload_n 0, 1) := by decide +kernel
theorem dX9_awakeSet_6 : decode cX9_awakeSet 6 = .ok (.getfield 95, 3) := by decide +kernel
theorem dX9_awakeSet_9 : decode cX9_awakeSet 9 = .ok (.if_icmp .ge 27, 3) := by decide +kernel
theorem dX9_awakeSet_12 : decode cX9_awakeSet 12 = .ok (.iload_n 1, 1) := by decide +kernel
theorem dX9_awakeSet_13 : decode cX9_awakeSet 13 = .ok (.aload_n 0, 1) := by decide +kernel
theorem dX9_awakeSet_14 : decode cX9_awakeSet 14 = .ok (.iload_n 2, 1) := by decide +kernel
theorem dX9_awakeSet_15 : decode cX9_awakeSet 15 = .ok (.invokevirtual 214, 3) := by decide +kernel
theorem dX9_awakeSet_18 : decode cX9_awakeSet 18 = .ok (.ifCond .eq 9, 3) := by decide +kernel
theorem dX9_awakeSet_21 : decode cX9_awakeSet 21 = .ok (.iconst 1, 1) := by decide +kernel
theorem dX9_awakeSet_22 : decode cX9_awakeSet 22 = .ok (.iload_n 2, 1) := by decide +kernel
theorem dX9_awakeSet_23 : decode cX9_awakeSet 23 = .ok (.ishl, 1) := by decide +kernel
theorem dX9_awakeSet_24 : decode cX9_awakeSet 24 = .ok (.goto 4, 3) := by decide +kernel
theorem dX9_awakeSet_27 : decode cX9_awakeSet 27 = .ok (.iconst 0, 1) := by decide +kernel
theorem dX9_awakeSet_28 : decode cX9_awakeSet 28 = .ok (.ior, 1) := by decide +kernel
theorem dX9_awakeSet_29 : decode cX9_awakeSet 29 = .ok (.istore_n 1, 1) := by decide +kernel
theorem dX9_awakeSet_30 : decode cX9_awakeSet 30 = .ok (.iinc 2 1, 3) := by decide +kernel
theorem dX9_awakeSet_33 : decode cX9_awakeSet 33 = .ok (.goto (-29), 3) := by decide +kernel
theorem dX9_awakeSet_36 : decode cX9_awakeSet 36 = .ok (.iload_n 1, 1) := by decide +kernel
theorem dX9_awakeSet_37 : decode cX9_awakeSet 37 = .ok (.ireturn, 1) := by decide +kernel
theorem dX9_awakeMany_0 : decode cX9_awakeMany 0 = .ok (.aload_n 0, 1) := by decide +kernel
theorem dX9_awakeMany_1 : decode cX9_awakeMany 1 = .ok (.invokevirtual 226, 3) := by decide +kernel
theorem dX9_awakeMany_4 : decode cX9_awakeMany 4 = .ok (.invokestatic 229, 3) := by decide +kernel
theorem dX9_awakeMany_7 : decode cX9_awakeMany 7 = .ok (.ireturn, 1) := by decide +kernel
theorem dX9_mindAll_0 : decode cX9_mindAll 0 = .ok (.iconst 0, 1) := by decide +kernel
theorem dX9_mindAll_1 : decode cX9_mindAll 1 = .ok (.istore_n 1, 1) := by decide +kernel
theorem dX9_mindAll_2 : decode cX9_mindAll 2 = .ok (.iconst 0, 1) := by decide +kernel
theorem dX9_mindAll_3 : decode cX9_mindAll 3 = .ok (.istore_n 2, 1) := by decide +kernel
theorem dX9_mindAll_4 : decode cX9_mindAll 4 = .ok (.iload_n 2, 1) := by decide +kernel
theorem dX9_mindAll_5 : decode cX9_mindAll 5 = .ok (.aload_n 0, 1) := by decide +kernel
theorem dX9_mindAll_6 : decode cX9_mindAll 6 = .ok (.getfield 95, 3) := by decide +kernel
theorem dX9_mindAll_9 : decode cX9_mindAll 9 = .ok (.if_icmp .ge 18, 3) := by decide +kernel
theorem dX9_mindAll_12 : decode cX9_mindAll 12 = .ok (.iload_n 1, 1) := by decide +kernel
theorem dX9_mindAll_13 : decode cX9_mindAll 13 = .ok (.aload_n 0, 1) := by decide +kernel
theorem dX9_mindAll_14 : decode cX9_mindAll 14 = .ok (.getfield 34, 3) := by decide +kernel
theorem dX9_mindAll_17 : decode cX9_mindAll 17 = .ok (.iload_n 2, 1) := by decide +kernel
theorem dX9_mindAll_18 : decode cX9_mindAll 18 = .ok (.iaload, 1) := by decide +kernel
theorem dX9_mindAll_19 : decode cX9_mindAll 19 = .ok (.iadd, 1) := by decide +kernel
theorem dX9_mindAll_20 : decode cX9_mindAll 20 = .ok (.istore_n 1, 1) := by decide +kernel
theorem dX9_mindAll_21 : decode cX9_mindAll 21 = .ok (.iinc 2 1, 3) := by decide +kernel
theorem dX9_mindAll_24 : decode cX9_mindAll 24 = .ok (.goto (-20), 3) := by decide +kernel
theorem dX9_mindAll_27 : decode cX9_mindAll 27 = .ok (.iload_n 1, 1) := by decide +kernel
theorem dX9_mindAll_28 : decode cX9_mindAll 28 = .ok (.ireturn, 1) := by decide +kernel
theorem dX9_grows_0 : decode cX9_grows 0 = .ok (.aload_n 0, 1) := by decide +kernel
theorem dX9_grows_1 : decode cX9_grows 1 = .ok (.iload_n 1, 1) := by decide +kernel
theorem dX9_grows_2 : decode cX9_grows 2 = .ok (.i2l, 1) := by decide +kernel
theorem dX9_grows_3 : decode cX9_grows 3 = .ok (.invokevirtual 127, 3) := by decide +kernel
theorem dX9_grows_6 : decode cX9_grows 6 = .ok (.ifCond .ne 6, 3) := by decide +kernel
theorem dX9_grows_9 : decode cX9_grows 9 = .ok (.ldc 232, 2) := by decide +kernel
theorem dX9_grows_11 : decode cX9_grows 11 = .ok (.ireturn, 1) := by decide +kernel
theorem dX9_grows_12 : decode cX9_grows 12 = .ok (.aload_n 0, 1) := by decide +kernel
theorem dX9_grows_13 : decode cX9_grows 13 = .ok (.invokevirtual 233, 3) := by decide +kernel
theorem dX9_grows_16 : decode cX9_grows 16 = .ok (.aload_n 0, 1) := by decide +kernel
theorem dX9_grows_17 : decode cX9_grows 17 = .ok (.aload_n 0, 1) := by decide +kernel
theorem dX9_grows_18 : decode cX9_grows 18 = .ok (.getfield 9, 3) := by decide +kernel
theorem dX9_grows_21 : decode cX9_grows 21 = .ok (.iload_n 1, 1) := by decide +kernel
theorem dX9_grows_22 : decode cX9_grows 22 = .ok (.iaload, 1) := by decide +kernel
theorem dX9_grows_23 : decode cX9_grows 23 = .ok (.invokevirtual 220, 3) := by decide +kernel
theorem dX9_grows_26 : decode cX9_grows 26 = .ok (.ireturn, 1) := by decide +kernel
theorem dX9_isToldAt_0 : decode cX9_isToldAt 0 = .ok (.aload_n 0, 1) := by decide +kernel
theorem dX9_isToldAt_1 : decode cX9_isToldAt 1 = .ok (.getfield 31, 3) := by decide +kernel
theorem dX9_isToldAt_4 : decode cX9_isToldAt 4 = .ok (.iload_n 1, 1) := by decide +kernel
theorem dX9_isToldAt_5 : decode cX9_isToldAt 5 = .ok (.iaload, 1) := by decide +kernel
theorem dX9_isToldAt_6 : decode cX9_isToldAt 6 = .ok (.istore_n 3, 1) := by decide +kernel
theorem dX9_isToldAt_7 : decode cX9_isToldAt 7 = .ok (.iload_n 3, 1) := by decide +kernel
theorem dX9_isToldAt_8 : decode cX9_isToldAt 8 = .ok (.ifCond .lt 40, 3) := by decide +kernel
theorem dX9_isToldAt_11 : decode cX9_isToldAt 11 = .ok (.aload_n 0, 1) := by decide +kernel
theorem dX9_isToldAt_12 : decode cX9_isToldAt 12 = .ok (.getfield 34, 3) := by decide +kernel
theorem dX9_isToldAt_15 : decode cX9_isToldAt 15 = .ok (.iload_n 3, 1) := by decide +kernel
theorem dX9_isToldAt_16 : decode cX9_isToldAt 16 = .ok (.aload_n 0, 1) := by decide +kernel
theorem dX9_isToldAt_17 : decode cX9_isToldAt 17 = .ok (.getfield 34, 3) := by decide +kernel
theorem dX9_isToldAt_20 : decode cX9_isToldAt 20 = .ok (.iload_n 3, 1) := by decide +kernel
theorem dX9_isToldAt_21 : decode cX9_isToldAt 21 = .ok (.iaload, 1) := by decide +kernel
theorem dX9_isToldAt_22 : decode cX9_isToldAt 22 = .ok (.aload_n 0, 1) := by decide +kernel
theorem dX9_isToldAt_23 : decode cX9_isToldAt 23 = .ok (.getfield 9, 3) := by decide +kernel
theorem dX9_isToldAt_26 : decode cX9_isToldAt 26 = .ok (.bipush 10, 2) := by decide +kernel
theorem dX9_isToldAt_28 : decode cX9_isToldAt 28 = .ok (.iload_n 3, 1) := by decide +kernel
theorem dX9_isToldAt_29 : decode cX9_isToldAt 29 = .ok (.iadd, 1) := by decide +kernel
theorem dX9_isToldAt_30 : decode cX9_isToldAt 30 = .ok (.iaload, 1) := by decide +kernel
theorem dX9_isToldAt_31 : decode cX9_isToldAt 31 = .ok (.iload_n 2, 1) := by decide +kernel
theorem dX9_isToldAt_32 : decode cX9_isToldAt 32 = .ok (.if_icmp .gt 10, 3) := by decide +kernel
theorem dX9_isToldAt_35 : decode cX9_isToldAt 35 = .ok (.bipush (-2), 2) := by decide +kernel
theorem dX9_isToldAt_37 : decode cX9_isToldAt 37 = .ok (.iload_n 2, 1) := by decide +kernel
theorem dX9_isToldAt_38 : decode cX9_isToldAt 38 = .ok (.imul, 1) := by decide +kernel
theorem dX9_isToldAt_39 : decode cX9_isToldAt 39 = .ok (.goto 4, 3) := by decide +kernel
theorem dX9_isToldAt_42 : decode cX9_isToldAt 42 = .ok (.iload_n 2, 1) := by decide +kernel
theorem dX9_isToldAt_43 : decode cX9_isToldAt 43 = .ok (.iadd, 1) := by decide +kernel
theorem dX9_isToldAt_44 : decode cX9_isToldAt 44 = .ok (.invokestatic 223, 3) := by decide +kernel
theorem dX9_isToldAt_47 : decode cX9_isToldAt 47 = .ok (.iastore, 1) := by decide +kernel
theorem dX9_isToldAt_48 : decode cX9_isToldAt 48 = .ok (.return_, 1) := by decide +kernel
theorem dX9_touchedMany_0 : decode cX9_touchedMany 0 = .ok (.iconst 0, 1) := by decide +kernel
theorem dX9_touchedMany_1 : decode cX9_touchedMany 1 = .ok (.istore_n 1, 1) := by decide +kernel
theorem dX9_touchedMany_2 : decode cX9_touchedMany 2 = .ok (.iconst 0, 1) := by decide +kernel
theorem dX9_touchedMany_3 : decode cX9_touchedMany 3 = .ok (.istore_n 2, 1) := by decide +kernel
theorem dX9_touchedMany_4 : decode cX9_touchedMany 4 = .ok (.iload_n 2, 1) := by decide +kernel
theorem dX9_touchedMany_5 : decode cX9_touchedMany 5 = .ok (.bipush 12, 2) := by decide +kernel
theorem dX9_touchedMany_7 : decode cX9_touchedMany 7 = .ok (.if_icmp .ge 27, 3) := by decide +kernel
theorem dX9_touchedMany_10 : decode cX9_touchedMany 10 = .ok (.iload_n 1, 1) := by decide +kernel
theorem dX9_touchedMany_11 : decode cX9_touchedMany 11 = .ok (.aload_n 0, 1) := by decide +kernel
theorem dX9_touchedMany_12 : decode cX9_touchedMany 12 = .ok (.getfield 40, 3) := by decide +kernel
theorem dX9_touchedMany_15 : decode cX9_touchedMany 15 = .ok (.iload_n 2, 1) := by decide +kernel
theorem dX9_touchedMany_16 : decode cX9_touchedMany 16 = .ok (.iaload, 1) := by decide +kernel
theorem dX9_touchedMany_17 : decode cX9_touchedMany 17 = .ok (.iconst 2, 1) := by decide +kernel
theorem dX9_touchedMany_18 : decode cX9_touchedMany 18 = .ok (.if_icmp .ne 7, 3) := by decide +kernel
theorem dX9_touchedMany_21 : decode cX9_touchedMany 21 = .ok (.iconst 1, 1) := by decide +kernel
theorem dX9_touchedMany_22 : decode cX9_touchedMany 22 = .ok (.goto 4, 3) := by decide +kernel
theorem dX9_touchedMany_25 : decode cX9_touchedMany 25 = .ok (.iconst 0, 1) := by decide +kernel
theorem dX9_touchedMany_26 : decode cX9_touchedMany 26 = .ok (.iadd, 1) := by decide +kernel
theorem dX9_touchedMany_27 : decode cX9_touchedMany 27 = .ok (.istore_n 1, 1) := by decide +kernel
theorem dX9_touchedMany_28 : decode cX9_touchedMany 28 = .ok (.iinc 2 1, 3) := by decide +kernel
theorem dX9_touchedMany_31 : decode cX9_touchedMany 31 = .ok (.goto (-27), 3) := by decide +kernel
theorem dX9_touchedMany_34 : decode cX9_touchedMany 34 = .ok (.iload_n 1, 1) := by decide +kernel
theorem dX9_touchedMany_35 : decode cX9_touchedMany 35 = .ok (.ireturn, 1) := by decide +kernel
theorem dX9_isTouched_0 : decode cX9_isTouched 0 = .ok (.iconst 0, 1) := by decide +kernel
theorem dX9_isTouched_1 : decode cX9_isTouched 1 = .ok (.istore_n 2, 1) := by decide +kernel
theorem dX9_isTouched_2 : decode cX9_isTouched 2 = .ok (.iload_n 2, 1) := by decide +kernel
theorem dX9_isTouched_3 : decode cX9_isTouched 3 = .ok (.bipush 12, 2) := by decide +kernel
theorem dX9_isTouched_5 : decode cX9_isTouched 5 = .ok (.if_icmp .ge 25, 3) := by decide +kernel
theorem dX9_isTouched_8 : decode cX9_isTouched 8 = .ok (.aload_n 0, 1) := by decide +kernel
theorem dX9_isTouched_9 : decode cX9_isTouched 9 = .ok (.getfield 40, 3) := by decide +kernel
theorem dX9_isTouched_12 : decode cX9_isTouched 12 = .ok (.iload_n 2, 1) := by decide +kernel
theorem dX9_isTouched_13 : decode cX9_isTouched 13 = .ok (.iload_n 2, 1) := by decide +kernel
theorem dX9_isTouched_14 : decode cX9_isTouched 14 = .ok (.iload_n 1, 1) := by decide +kernel
theorem dX9_isTouched_15 : decode cX9_isTouched 15 = .ok (.if_icmp .ne 7, 3) := by decide +kernel
theorem dX9_isTouched_18 : decode cX9_isTouched 18 = .ok (.iconst 1, 1) := by decide +kernel
theorem dX9_isTouched_19 : decode cX9_isTouched 19 = .ok (.goto 4, 3) := by decide +kernel
theorem dX9_isTouched_22 : decode cX9_isTouched 22 = .ok (.iconst 0, 1) := by decide +kernel
theorem dX9_isTouched_23 : decode cX9_isTouched 23 = .ok (.iastore, 1) := by decide +kernel
theorem dX9_isTouched_24 : decode cX9_isTouched 24 = .ok (.iinc 2 1, 3) := by decide +kernel
theorem dX9_isTouched_27 : decode cX9_isTouched 27 = .ok (.goto (-25), 3) := by decide +kernel
theorem dX9_isTouched_30 : decode cX9_isTouched 30 = .ok (.iconst 1, 1) := by decide +kernel
theorem dX9_isTouched_31 : decode cX9_isTouched 31 = .ok (.istore_n 2, 1) := by decide +kernel
theorem dX9_isTouched_32 : decode cX9_isTouched 32 = .ok (.iload_n 2, 1) := by decide +kernel
theorem dX9_isTouched_33 : decode cX9_isTouched 33 = .ok (.ifCond .eq 161, 3) := by decide +kernel
theorem dX9_isTouched_36 : decode cX9_isTouched 36 = .ok (.iconst 0, 1) := by decide +kernel
theorem dX9_isTouched_37 : decode cX9_isTouched 37 = .ok (.istore_n 2, 1) := by decide +kernel
theorem dX9_isTouched_38 : decode cX9_isTouched 38 = .ok (.iconst 0, 1) := by decide +kernel
theorem dX9_isTouched_39 : decode cX9_isTouched 39 = .ok (.istore_n 3, 1) := by decide +kernel
theorem dX9_isTouched_40 : decode cX9_isTouched 40 = .ok (.iload_n 3, 1) := by decide +kernel
theorem dX9_isTouched_41 : decode cX9_isTouched 41 = .ok (.bipush 12, 2) := by decide +kernel
theorem dX9_isTouched_43 : decode cX9_isTouched 43 = .ok (.if_icmp .ge 148, 3) := by decide +kernel
theorem dX9_isTouched_46 : decode cX9_isTouched 46 = .ok (.aload_n 0, 1) := by decide +kernel
theorem dX9_isTouched_47 : decode cX9_isTouched 47 = .ok (.getfield 40, 3) := by decide +kernel
theorem dX9_isTouched_50 : decode cX9_isTouched 50 = .ok (.iload_n 3, 1) := by decide +kernel
theorem dX9_isTouched_51 : decode cX9_isTouched 51 = .ok (.iaload, 1) := by decide +kernel
theorem dX9_isTouched_52 : decode cX9_isTouched 52 = .ok (.iconst 1, 1) := by decide +kernel
theorem dX9_isTouched_53 : decode cX9_isTouched 53 = .ok (.if_icmp .ne 132, 3) := by decide +kernel
theorem dX9_isTouched_56 : decode cX9_isTouched 56 = .ok (.aload_n 0, 1) := by decide +kernel
theorem dX9_isTouched_57 : decode cX9_isTouched 57 = .ok (.getfield 31, 3) := by decide +kernel
theorem dX9_isTouched_60 : decode cX9_isTouched 60 = .ok (.iload_n 3, 1) := by decide +kernel
theorem dX9_isTouched_61 : decode cX9_isTouched 61 = .ok (.iaload, 1) := by decide +kernel
theorem dX9_isTouched_62 : decode cX9_isTouched 62 = .ok (.ifCond .lt 123, 3) := by decide +kernel
theorem dX9_isTouched_65 : decode cX9_isTouched 65 = .ok (.iconst 1, 1) := by decide +kernel
theorem dX9_isTouched_66 : decode cX9_isTouched 66 = .ok (.istore_n 2, 1) := by decide +kernel
theorem dX9_isTouched_67 : decode cX9_isTouched 67 = .ok (.aload_n 0, 1) := by decide +kernel
theorem dX9_isTouched_68 : decode cX9_isTouched 68 = .ok (.getfield 40, 3) := by decide +kernel
theorem dX9_isTouched_71 : decode cX9_isTouched 71 = .ok (.iload_n 3, 1) := by decide +kernel
theorem dX9_isTouched_72 : decode cX9_isTouched 72 = .ok (.iconst 2, 1) := by decide +kernel
theorem dX9_isTouched_73 : decode cX9_isTouched 73 = .ok (.iastore, 1) := by decide +kernel
theorem dX9_isTouched_74 : decode cX9_isTouched 74 = .ok (.aload_n 0, 1) := by decide +kernel
theorem dX9_isTouched_75 : decode cX9_isTouched 75 = .ok (.aload_n 0, 1) := by decide +kernel
theorem dX9_isTouched_76 : decode cX9_isTouched 76 = .ok (.getfield 31, 3) := by decide +kernel
theorem dX9_isTouched_79 : decode cX9_isTouched 79 = .ok (.iload_n 3, 1) := by decide +kernel
theorem dX9_isTouched_80 : decode cX9_isTouched 80 = .ok (.iaload, 1) := by decide +kernel
theorem dX9_isTouched_81 : decode cX9_isTouched 81 = .ok (.invokevirtual 214, 3) := by decide +kernel
theorem dX9_isTouched_84 : decode cX9_isTouched 84 = .ok (.istore 4, 2) := by decide +kernel
theorem dX9_isTouched_86 : decode cX9_isTouched 86 = .ok (.aload_n 0, 1) := by decide +kernel
theorem dX9_isTouched_87 : decode cX9_isTouched 87 = .ok (.getfield 34, 3) := by decide +kernel
theorem dX9_isTouched_90 : decode cX9_isTouched 90 = .ok (.aload_n 0, 1) := by decide +kernel
theorem dX9_isTouched_91 : decode cX9_isTouched 91 = .ok (.getfield 31, 3) := by decide +kernel
theorem dX9_isTouched_94 : decode cX9_isTouched 94 = .ok (.iload_n 3, 1) := by decide +kernel
theorem dX9_isTouched_95 : decode cX9_isTouched 95 = .ok (.iaload, 1) := by decide +kernel
theorem dX9_isTouched_96 : decode cX9_isTouched 96 = .ok (.aload_n 0, 1) := by decide +kernel
theorem dX9_isTouched_97 : decode cX9_isTouched 97 = .ok (.getfield 34, 3) := by decide +kernel
theorem dX9_isTouched_100 : decode cX9_isTouched 100 = .ok (.aload_n 0, 1) := by decide +kernel
theorem dX9_isTouched_101 : decode cX9_isTouched 101 = .ok (.getfield 31, 3) := by decide +kernel
theorem dX9_isTouched_104 : decode cX9_isTouched 104 = .ok (.iload_n 3, 1) := by decide +kernel
theorem dX9_isTouched_105 : decode cX9_isTouched 105 = .ok (.iaload, 1) := by decide +kernel
theorem dX9_isTouched_106 : decode cX9_isTouched 106 = .ok (.iaload, 1) := by decide +kernel
theorem dX9_isTouched_107 : decode cX9_isTouched 107 = .ok (.bipush 15, 2) := by decide +kernel
theorem dX9_isTouched_109 : decode cX9_isTouched 109 = .ok (.iadd, 1) := by decide +kernel
theorem dX9_isTouched_110 : decode cX9_isTouched 110 = .ok (.invokestatic 223, 3) := by decide +kernel
theorem dX9_isTouched_113 : decode cX9_isTouched 113 = .ok (.iastore, 1) := by decide +kernel
theorem dX9_isTouched_114 : decode cX9_isTouched 114 = .ok (.iconst 0, 1) := by decide +kernel
theorem dX9_isTouched_115 : decode cX9_isTouched 115 = .ok (.istore 5, 2) := by decide +kernel
theorem dX9_isTouched_117 : decode cX9_isTouched 117 = .ok (.iload 5, 2) := by decide +kernel
theorem dX9_isTouched_119 : decode cX9_isTouched 119 = .ok (.bipush 12, 2) := by decide +kernel
theorem dX9_isTouched_121 : decode cX9_isTouched 121 = .ok (.if_icmp .ge 64, 3) := by decide +kernel
theorem dX9_isTouched_124 : decode cX9_isTouched 124 = .ok (.aload_n 0, 1) := by decide +kernel
theorem dX9_isTouched_125 : decode cX9_isTouched 125 = .ok (.getfield 40, 3) := by decide +kernel
theorem dX9_isTouched_128 : decode cX9_isTouched 128 = .ok (.iload 5, 2) := by decide +kernel
theorem dX9_isTouched_130 : decode cX9_isTouched 130 = .ok (.iload 4, 2) := by decide +kernel
theorem dX9_isTouched_132 : decode cX9_isTouched 132 = .ok (.ifCond .ne 39, 3) := by decide +kernel
theorem dX9_isTouched_135 : decode cX9_isTouched 135 = .ok (.aload_n 0, 1) := by decide +kernel
theorem dX9_isTouched_136 : decode cX9_isTouched 136 = .ok (.aload_n 0, 1) := by decide +kernel
theorem dX9_isTouched_137 : decode cX9_isTouched 137 = .ok (.getfield 31, 3) := by decide +kernel
theorem dX9_isTouched_140 : decode cX9_isTouched 140 = .ok (.iload_n 3, 1) := by decide +kernel
theorem dX9_isTouched_141 : decode cX9_isTouched 141 = .ok (.iaload, 1) := by decide +kernel
theorem dX9_isTouched_142 : decode cX9_isTouched 142 = .ok (.invokevirtual 214, 3) := by decide +kernel
theorem dX9_isTouched_145 : decode cX9_isTouched 145 = .ok (.ifCond .eq 26, 3) := by decide +kernel
theorem dX9_isTouched_148 : decode cX9_isTouched 148 = .ok (.iload_n 3, 1) := by decide +kernel
theorem dX9_isTouched_149 : decode cX9_isTouched 149 = .ok (.iload 5, 2) := by decide +kernel
theorem dX9_isTouched_151 : decode cX9_isTouched 151 = .ok (.invokestatic 210, 3) := by decide +kernel
theorem dX9_isTouched_154 : decode cX9_isTouched 154 = .ok (.ifCond .eq 17, 3) := by decide +kernel
theorem dX9_isTouched_157 : decode cX9_isTouched 157 = .ok (.aload_n 0, 1) := by decide +kernel
theorem dX9_isTouched_158 : decode cX9_isTouched 158 = .ok (.getfield 40, 3) := by decide +kernel
theorem dX9_isTouched_161 : decode cX9_isTouched 161 = .ok (.iload 5, 2) := by decide +kernel
theorem dX9_isTouched_163 : decode cX9_isTouched 163 = .ok (.iaload, 1) := by decide +kernel
theorem dX9_isTouched_164 : decode cX9_isTouched 164 = .ok (.ifCond .ne 7, 3) := by decide +kernel
theorem dX9_isTouched_167 : decode cX9_isTouched 167 = .ok (.iconst 1, 1) := by decide +kernel
theorem dX9_isTouched_168 : decode cX9_isTouched 168 = .ok (.goto 10, 3) := by decide +kernel
theorem dX9_isTouched_171 : decode cX9_isTouched 171 = .ok (.aload_n 0, 1) := by decide +kernel
theorem dX9_isTouched_172 : decode cX9_isTouched 172 = .ok (.getfield 40, 3) := by decide +kernel
theorem dX9_isTouched_175 : decode cX9_isTouched 175 = .ok (.iload 5, 2) := by decide +kernel
theorem dX9_isTouched_177 : decode cX9_isTouched 177 = .ok (.iaload, 1) := by decide +kernel
theorem dX9_isTouched_178 : decode cX9_isTouched 178 = .ok (.iastore, 1) := by decide +kernel
theorem dX9_isTouched_179 : decode cX9_isTouched 179 = .ok (.iinc 5 1, 3) := by decide +kernel
theorem dX9_isTouched_182 : decode cX9_isTouched 182 = .ok (.goto (-65), 3) := by decide +kernel
theorem dX9_isTouched_185 : decode cX9_isTouched 185 = .ok (.iinc 3 1, 3) := by decide +kernel
theorem dX9_isTouched_188 : decode cX9_isTouched 188 = .ok (.goto (-148), 3) := by decide +kernel
theorem dX9_isTouched_191 : decode cX9_isTouched 191 = .ok (.goto (-159), 3) := by decide +kernel
theorem dX9_isTouched_194 : decode cX9_isTouched 194 = .ok (.return_, 1) := by decide +kernel
theorem dX9_bytesIs_0 : decode cX9_bytesIs 0 = .ok (.iload_n 1, 1) := by decide +kernel
theorem dX9_bytesIs_1 : decode cX9_bytesIs 1 = .ok (.invokestatic 119, 3) := by decide +kernel
theorem dX9_bytesIs_4 : decode cX9_bytesIs 4 = .ok (.ifCond .ne 7, 3) := by decide +kernel
theorem dX9_bytesIs_7 : decode cX9_bytesIs 7 = .ok (.iconst (-1), 1) := by decide +kernel
theorem dX9_bytesIs_8 : decode cX9_bytesIs 8 = .ok (.goto 34, 3) := by decide +kernel
theorem dX9_bytesIs_11 : decode cX9_bytesIs 11 = .ok (.aload_n 0, 1) := by decide +kernel
theorem dX9_bytesIs_12 : decode cX9_bytesIs 12 = .ok (.getfield 64, 3) := by decide +kernel
theorem dX9_bytesIs_15 : decode cX9_bytesIs 15 = .ok (.iload_n 1, 1) := by decide +kernel
theorem dX9_bytesIs_16 : decode cX9_bytesIs 16 = .ok (.iaload, 1) := by decide +kernel
theorem dX9_bytesIs_17 : decode cX9_bytesIs 17 = .ok (.ifCond .ge 8, 3) := by decide +kernel
theorem dX9_bytesIs_20 : decode cX9_bytesIs 20 = .ok (.bipush (-11), 2) := by decide +kernel
theorem dX9_bytesIs_22 : decode cX9_bytesIs 22 = .ok (.goto 20, 3) := by decide +kernel
theorem dX9_bytesIs_25 : decode cX9_bytesIs 25 = .ok (.aload_n 0, 1) := by decide +kernel
theorem dX9_bytesIs_26 : decode cX9_bytesIs 26 = .ok (.getfield 64, 3) := by decide +kernel
theorem dX9_bytesIs_29 : decode cX9_bytesIs 29 = .ok (.iload_n 1, 1) := by decide +kernel
theorem dX9_bytesIs_30 : decode cX9_bytesIs 30 = .ok (.iaload, 1) := by decide +kernel
theorem dX9_bytesIs_31 : decode cX9_bytesIs 31 = .ok (.bipush 50, 2) := by decide +kernel
theorem dX9_bytesIs_33 : decode cX9_bytesIs 33 = .ok (.if_icmp .ne 7, 3) := by decide +kernel
theorem dX9_bytesIs_36 : decode cX9_bytesIs 36 = .ok (.iconst 1, 1) := by decide +kernel
theorem dX9_bytesIs_37 : decode cX9_bytesIs 37 = .ok (.goto 5, 3) := by decide +kernel
theorem dX9_bytesIs_40 : decode cX9_bytesIs 40 = .ok (.bipush (-12), 2) := by decide +kernel
theorem dX9_bytesIs_42 : decode cX9_bytesIs 42 = .ok (.ireturn, 1) := by decide +kernel
theorem dX9_hourMany_0 : decode cX9_hourMany 0 = .ok (.iconst 0, 1) := by decide +kernel
theorem dX9_hourMany_1 : decode cX9_hourMany 1 = .ok (.istore_n 2, 1) := by decide +kernel
theorem dX9_hourMany_2 : decode cX9_hourMany 2 = .ok (.iload_n 2, 1) := by decide +kernel
theorem dX9_hourMany_3 : decode cX9_hourMany 3 = .ok (.bipush 24, 2) := by decide +kernel
theorem dX9_hourMany_5 : decode cX9_hourMany 5 = .ok (.if_icmp .ge 36, 3) := by decide +kernel
theorem dX9_hourMany_8 : decode cX9_hourMany 8 = .ok (.iload_n 2, 1) := by decide +kernel
theorem dX9_hourMany_9 : decode cX9_hourMany 9 = .ok (.aload_n 0, 1) := by decide +kernel
theorem dX9_hourMany_10 : decode cX9_hourMany 10 = .ok (.getfield 67, 3) := by decide +kernel
theorem dX9_hourMany_13 : decode cX9_hourMany 13 = .ok (.iload_n 1, 1) := by decide +kernel
theorem dX9_hourMany_14 : decode cX9_hourMany 14 = .ok (.iaload, 1) := by decide +kernel
theorem dX9_hourMany_15 : decode cX9_hourMany 15 = .ok (.if_icmp .ge 26, 3) := by decide +kernel
theorem dX9_hourMany_18 : decode cX9_hourMany 18 = .ok (.aload_n 0, 1) := by decide +kernel
theorem dX9_hourMany_19 : decode cX9_hourMany 19 = .ok (.getfield 70, 3) := by decide +kernel
theorem dX9_hourMany_22 : decode cX9_hourMany 22 = .ok (.bipush 60, 2) := by decide +kernel
theorem dX9_hourMany_24 : decode cX9_hourMany 24 = .ok (.iload_n 1, 1) := by decide +kernel
theorem dX9_hourMany_25 : decode cX9_hourMany 25 = .ok (.imul, 1) := by decide +kernel
theorem dX9_hourMany_26 : decode cX9_hourMany 26 = .ok (.iload_n 2, 1) := by decide +kernel
theorem dX9_hourMany_27 : decode cX9_hourMany 27 = .ok (.iadd, 1) := by decide +kernel
theorem dX9_hourMany_28 : decode cX9_hourMany 28 = .ok (.laload, 1) := by decide +kernel
theorem dX9_hourMany_29 : decode cX9_hourMany 29 = .ok (.invokestatic 104, 3) := by decide +kernel
theorem dX9_hourMany_32 : decode cX9_hourMany 32 = .ok (.ifCond .eq 9, 3) := by decide +kernel
theorem dX9_hourMany_35 : decode cX9_hourMany 35 = .ok (.iinc 2 1, 3) := by decide +kernel
theorem dX9_hourMany_38 : decode cX9_hourMany 38 = .ok (.goto (-36), 3) := by decide +kernel
theorem dX9_hourMany_41 : decode cX9_hourMany 41 = .ok (.iload_n 2, 1) := by decide +kernel
theorem dX9_hourMany_42 : decode cX9_hourMany 42 = .ok (.ireturn, 1) := by decide +kernel
theorem dX9_goesNext_0 : decode cX9_goesNext 0 = .ok (.aload_n 0, 1) := by decide +kernel
theorem dX9_goesNext_1 : decode cX9_goesNext 1 = .ok (.aload_n 0, 1) := by decide +kernel
theorem dX9_goesNext_2 : decode cX9_goesNext 2 = .ok (.getfield 70, 3) := by decide +kernel
theorem dX9_goesNext_5 : decode cX9_goesNext 5 = .ok (.bipush 60, 2) := by decide +kernel
theorem dX9_goesNext_7 : decode cX9_goesNext 7 = .ok (.iload_n 1, 1) := by decide +kernel
theorem dX9_goesNext_8 : decode cX9_goesNext 8 = .ok (.imul, 1) := by decide +kernel
theorem dX9_goesNext_9 : decode cX9_goesNext 9 = .ok (.iload_n 2, 1) := by decide +kernel
theorem dX9_goesNext_10 : decode cX9_goesNext 10 = .ok (.iadd, 1) := by decide +kernel
theorem dX9_goesNext_11 : decode cX9_goesNext 11 = .ok (.laload, 1) := by decide +kernel
theorem dX9_goesNext_12 : decode cX9_goesNext 12 = .ok (.l2i, 1) := by decide +kernel
theorem dX9_goesNext_13 : decode cX9_goesNext 13 = .ok (.putfield 204, 3) := by decide +kernel
theorem dX9_goesNext_16 : decode cX9_goesNext 16 = .ok (.aload_n 0, 1) := by decide +kernel
theorem dX9_goesNext_17 : decode cX9_goesNext 17 = .ok (.invokevirtual 236, 3) := by decide +kernel
theorem dX9_goesNext_20 : decode cX9_goesNext 20 = .ok (.return_, 1) := by decide +kernel
theorem dX9_goesRound_0 : decode cX9_goesRound 0 = .ok (.aload_n 0, 1) := by decide +kernel
theorem dX9_goesRound_1 : decode cX9_goesRound 1 = .ok (.invokevirtual 233, 3) := by decide +kernel
theorem dX9_goesRound_4 : decode cX9_goesRound 4 = .ok (.aload_n 0, 1) := by decide +kernel
theorem dX9_goesRound_5 : decode cX9_goesRound 5 = .ok (.iload_n 1, 1) := by decide +kernel
theorem dX9_goesRound_6 : decode cX9_goesRound 6 = .ok (.invokevirtual 239, 3) := by decide +kernel
theorem dX9_goesRound_9 : decode cX9_goesRound 9 = .ok (.istore_n 3, 1) := by decide +kernel
theorem dX9_goesRound_10 : decode cX9_goesRound 10 = .ok (.iconst 0, 1) := by decide +kernel
theorem dX9_goesRound_11 : decode cX9_goesRound 11 = .ok (.istore 4, 2) := by decide +kernel
theorem dX9_goesRound_13 : decode cX9_goesRound 13 = .ok (.iload 4, 2) := by decide +kernel
theorem dX9_goesRound_15 : decode cX9_goesRound 15 = .ok (.iload_n 2, 1) := by decide +kernel
theorem dX9_goesRound_16 : decode cX9_goesRound 16 = .ok (.if_icmp .ge 22, 3) := by decide +kernel
theorem dX9_goesRound_19 : decode cX9_goesRound 19 = .ok (.iload 4, 2) := by decide +kernel
theorem dX9_goesRound_21 : decode cX9_goesRound 21 = .ok (.iload_n 3, 1) := by decide +kernel
theorem dX9_goesRound_22 : decode cX9_goesRound 22 = .ok (.if_icmp .ge 16, 3) := by decide +kernel
theorem dX9_goesRound_25 : decode cX9_goesRound 25 = .ok (.aload_n 0, 1) := by decide +kernel
theorem dX9_goesRound_26 : decode cX9_goesRound 26 = .ok (.iload_n 1, 1) := by decide +kernel
theorem dX9_goesRound_27 : decode cX9_goesRound 27 = .ok (.iload 4, 2) := by decide +kernel
theorem dX9_goesRound_29 : decode cX9_goesRound 29 = .ok (.invokevirtual 242, 3) := by decide +kernel
theorem dX9_goesRound_32 : decode cX9_goesRound 32 = .ok (.iinc 4 1, 3) := by decide +kernel
theorem dX9_goesRound_35 : decode cX9_goesRound 35 = .ok (.goto (-22), 3) := by decide +kernel
theorem dX9_goesRound_38 : decode cX9_goesRound 38 = .ok (.return_, 1) := by decide +kernel
theorem dX9_later_0 : decode cX9_later 0 = .ok (.aload_n 0, 1) := by decide +kernel
theorem dX9_later_1 : decode cX9_later 1 = .ok (.iload_n 1, 1) := by decide +kernel
theorem dX9_later_2 : decode cX9_later 2 = .ok (.invokevirtual 245, 3) := by decide +kernel
theorem dX9_later_5 : decode cX9_later 5 = .ok (.iconst (-1), 1) := by decide +kernel
theorem dX9_later_6 : decode cX9_later 6 = .ok (.if_icmp .eq 24, 3) := by decide +kernel
theorem dX9_later_9 : decode cX9_later 9 = .ok (.iload_n 2, 1) := by decide +kernel
theorem dX9_later_10 : decode cX9_later 10 = .ok (.i2l, 1) := by decide +kernel
theorem dX9_later_11 : decode cX9_later 11 = .ok (.lconst 0, 1) := by decide +kernel
theorem dX9_later_12 : decode cX9_later 12 = .ok (.ldc2_w 248, 3) := by decide +kernel
theorem dX9_later_15 : decode cX9_later 15 = .ok (.invokestatic 98, 3) := by decide +kernel
theorem dX9_later_18 : decode cX9_later 18 = .ok (.ifCond .eq 12, 3) := by decide +kernel
theorem dX9_later_21 : decode cX9_later 21 = .ok (.aload_n 0, 1) := by decide +kernel
theorem dX9_later_22 : decode cX9_later 22 = .ok (.iload_n 3, 1) := by decide +kernel
theorem dX9_later_23 : decode cX9_later 23 = .ok (.i2l, 1) := by decide +kernel
theorem dX9_later_24 : decode cX9_later 24 = .ok (.invokevirtual 127, 3) := by decide +kernel
theorem dX9_later_27 : decode cX9_later 27 = .ok (.ifCond .ne 5, 3) := by decide +kernel
theorem dX9_later_30 : decode cX9_later 30 = .ok (.iconst (-1), 1) := by decide +kernel
theorem dX9_later_31 : decode cX9_later 31 = .ok (.ireturn, 1) := by decide +kernel
theorem dX9_later_32 : decode cX9_later 32 = .ok (.aload_n 0, 1) := by decide +kernel
theorem dX9_later_33 : decode cX9_later 33 = .ok (.iload_n 1, 1) := by decide +kernel
theorem dX9_later_34 : decode cX9_later 34 = .ok (.invokevirtual 245, 3) := by decide +kernel
theorem dX9_later_37 : decode cX9_later 37 = .ok (.ifCond .ge 9, 3) := by decide +kernel
theorem dX9_later_40 : decode cX9_later 40 = .ok (.aload_n 0, 1) := by decide +kernel
theorem dX9_later_41 : decode cX9_later 41 = .ok (.iload_n 1, 1) := by decide +kernel
theorem dX9_later_42 : decode cX9_later 42 = .ok (.invokevirtual 245, 3) := by decide +kernel
theorem dX9_later_45 : decode cX9_later 45 = .ok (.ireturn, 1) := by decide +kernel
theorem dX9_later_46 : decode cX9_later 46 = .ok (.aload_n 0, 1) := by decide +kernel
theorem dX9_later_47 : decode cX9_later 47 = .ok (.iload_n 1, 1) := by decide +kernel
theorem dX9_later_48 : decode cX9_later 48 = .ok (.iload_n 2, 1) := by decide +kernel
theorem dX9_later_49 : decode cX9_later 49 = .ok (.invokevirtual 250, 3) := by decide +kernel
theorem dX9_later_52 : decode cX9_later 52 = .ok (.aload_n 0, 1) := by decide +kernel
theorem dX9_later_53 : decode cX9_later 53 = .ok (.getfield 34, 3) := by decide +kernel
theorem dX9_later_56 : decode cX9_later 56 = .ok (.iload_n 3, 1) := by decide +kernel
theorem dX9_later_57 : decode cX9_later 57 = .ok (.iaload, 1) := by decide +kernel
theorem dX9_later_58 : decode cX9_later 58 = .ok (.ireturn, 1) := by decide +kernel
theorem dX9_awake_0 : decode cX9_awake 0 = .ok (.aload_n 0, 1) := by decide +kernel
theorem dX9_awake_1 : decode cX9_awake 1 = .ok (.iload_n 1, 1) := by decide +kernel
theorem dX9_awake_2 : decode cX9_awake 2 = .ok (.invokevirtual 245, 3) := by decide +kernel
theorem dX9_awake_5 : decode cX9_awake 5 = .ok (.iconst (-1), 1) := by decide +kernel
theorem dX9_awake_6 : decode cX9_awake 6 = .ok (.if_icmp .eq 25, 3) := by decide +kernel
theorem dX9_awake_9 : decode cX9_awake 9 = .ok (.iload_n 2, 1) := by decide +kernel
theorem dX9_awake_10 : decode cX9_awake 10 = .ok (.i2l, 1) := by decide +kernel
theorem dX9_awake_11 : decode cX9_awake 11 = .ok (.lconst 0, 1) := by decide +kernel
theorem dX9_awake_12 : decode cX9_awake 12 = .ok (.ldc2_w 248, 3) := by decide +kernel
theorem dX9_awake_15 : decode cX9_awake 15 = .ok (.invokestatic 98, 3) := by decide +kernel
theorem dX9_awake_18 : decode cX9_awake 18 = .ok (.ifCond .eq 13, 3) := by decide +kernel
theorem dX9_awake_21 : decode cX9_awake 21 = .ok (.iload_n 3, 1) := by decide +kernel
theorem dX9_awake_22 : decode cX9_awake 22 = .ok (.i2l, 1) := by decide +kernel
theorem dX9_awake_23 : decode cX9_awake 23 = .ok (.lconst 0, 1) := by decide +kernel
theorem dX9_awake_24 : decode cX9_awake 24 = .ok (.lconst 1, 1) := by decide +kernel
theorem dX9_awake_25 : decode cX9_awake 25 = .ok (.invokestatic 98, 3) := by decide +kernel
theorem dX9_awake_28 : decode cX9_awake 28 = .ok (.ifCond .ne 5, 3) := by decide +kernel
theorem dX9_awake_31 : decode cX9_awake 31 = .ok (.iconst (-1), 1) := by decide +kernel
theorem dX9_awake_32 : decode cX9_awake 32 = .ok (.ireturn, 1) := by decide +kernel
theorem dX9_awake_33 : decode cX9_awake 33 = .ok (.aload_n 0, 1) := by decide +kernel
theorem dX9_awake_34 : decode cX9_awake 34 = .ok (.iload_n 1, 1) := by decide +kernel
theorem dX9_awake_35 : decode cX9_awake 35 = .ok (.invokevirtual 245, 3) := by decide +kernel
theorem dX9_awake_38 : decode cX9_awake 38 = .ok (.ifCond .ge 9, 3) := by decide +kernel
theorem dX9_awake_41 : decode cX9_awake 41 = .ok (.aload_n 0, 1) := by decide +kernel
theorem dX9_awake_42 : decode cX9_awake 42 = .ok (.iload_n 1, 1) := by decide +kernel
theorem dX9_awake_43 : decode cX9_awake 43 = .ok (.invokevirtual 245, 3) := by decide +kernel
theorem dX9_awake_46 : decode cX9_awake 46 = .ok (.ireturn, 1) := by decide +kernel
theorem dX9_awake_47 : decode cX9_awake 47 = .ok (.aload_n 0, 1) := by decide +kernel
theorem dX9_awake_48 : decode cX9_awake 48 = .ok (.iload_n 1, 1) := by decide +kernel
theorem dX9_awake_49 : decode cX9_awake 49 = .ok (.iload_n 2, 1) := by decide +kernel
theorem dX9_awake_50 : decode cX9_awake 50 = .ok (.invokevirtual 250, 3) := by decide +kernel
theorem dX9_awake_53 : decode cX9_awake 53 = .ok (.iload_n 3, 1) := by decide +kernel
theorem dX9_awake_54 : decode cX9_awake 54 = .ok (.ifCond .ne 10, 3) := by decide +kernel
theorem dX9_awake_57 : decode cX9_awake 57 = .ok (.aload_n 0, 1) := by decide +kernel
theorem dX9_awake_58 : decode cX9_awake 58 = .ok (.invokevirtual 226, 3) := by decide +kernel
theorem dX9_awake_61 : decode cX9_awake 61 = .ok (.goto 7, 3) := by decide +kernel
theorem dX9_awake_64 : decode cX9_awake 64 = .ok (.aload_n 0, 1) := by decide +kernel
theorem dX9_awake_65 : decode cX9_awake 65 = .ok (.invokevirtual 253, 3) := by decide +kernel
theorem dX9_awake_68 : decode cX9_awake 68 = .ok (.ireturn, 1) := by decide +kernel
theorem dX9_cries_0 : decode cX9_cries 0 = .ok (.aload_n 0, 1) := by decide +kernel
theorem dX9_cries_1 : decode cX9_cries 1 = .ok (.iload_n 1, 1) := by decide +kernel
theorem dX9_cries_2 : decode cX9_cries 2 = .ok (.invokevirtual 245, 3) := by decide +kernel
theorem dX9_cries_5 : decode cX9_cries 5 = .ok (.iconst (-1), 1) := by decide +kernel
theorem dX9_cries_6 : decode cX9_cries 6 = .ok (.if_icmp .eq 24, 3) := by decide +kernel
theorem dX9_cries_9 : decode cX9_cries 9 = .ok (.aload_n 0, 1) := by decide +kernel
theorem dX9_cries_10 : decode cX9_cries 10 = .ok (.iload_n 2, 1) := by decide +kernel
theorem dX9_cries_11 : decode cX9_cries 11 = .ok (.i2l, 1) := by decide +kernel
theorem dX9_cries_12 : decode cX9_cries 12 = .ok (.invokevirtual 127, 3) := by decide +kernel
theorem dX9_cries_15 : decode cX9_cries 15 = .ok (.ifCond .eq 15, 3) := by decide +kernel
theorem dX9_cries_18 : decode cX9_cries 18 = .ok (.iload_n 3, 1) := by decide +kernel
theorem dX9_cries_19 : decode cX9_cries 19 = .ok (.i2l, 1) := by decide +kernel
theorem dX9_cries_20 : decode cX9_cries 20 = .ok (.lconst 0, 1) := by decide +kernel
theorem dX9_cries_21 : decode cX9_cries 21 = .ok (.ldc2_w 110, 3) := by decide +kernel
theorem dX9_cries_24 : decode cX9_cries 24 = .ok (.invokestatic 98, 3) := by decide +kernel
theorem dX9_cries_27 : decode cX9_cries 27 = .ok (.ifCond .ne 5, 3) := by decide +kernel
theorem dX9_cries_30 : decode cX9_cries 30 = .ok (.iconst (-1), 1) := by decide +kernel
theorem dX9_cries_31 : decode cX9_cries 31 = .ok (.ireturn, 1) := by decide +kernel
theorem dX9_cries_32 : decode cX9_cries 32 = .ok (.aload_n 0, 1) := by decide +kernel
theorem dX9_cries_33 : decode cX9_cries 33 = .ok (.iload_n 1, 1) := by decide +kernel
theorem dX9_cries_34 : decode cX9_cries 34 = .ok (.invokevirtual 245, 3) := by decide +kernel
theorem dX9_cries_37 : decode cX9_cries 37 = .ok (.ifCond .ge 9, 3) := by decide +kernel
theorem dX9_cries_40 : decode cX9_cries 40 = .ok (.aload_n 0, 1) := by decide +kernel
theorem dX9_cries_41 : decode cX9_cries 41 = .ok (.iload_n 1, 1) := by decide +kernel
theorem dX9_cries_42 : decode cX9_cries 42 = .ok (.invokevirtual 245, 3) := by decide +kernel
theorem dX9_cries_45 : decode cX9_cries 45 = .ok (.ireturn, 1) := by decide +kernel
theorem dX9_cries_46 : decode cX9_cries 46 = .ok (.iconst 0, 1) := by decide +kernel
theorem dX9_cries_47 : decode cX9_cries 47 = .ok (.istore 4, 2) := by decide +kernel
theorem dX9_cries_49 : decode cX9_cries 49 = .ok (.iload 4, 2) := by decide +kernel
theorem dX9_cries_51 : decode cX9_cries 51 = .ok (.aload_n 0, 1) := by decide +kernel
theorem dX9_cries_52 : decode cX9_cries 52 = .ok (.iload_n 1, 1) := by decide +kernel
theorem dX9_cries_53 : decode cX9_cries 53 = .ok (.invokevirtual 239, 3) := by decide +kernel
theorem dX9_cries_56 : decode cX9_cries 56 = .ok (.if_icmp .gt 29, 3) := by decide +kernel
theorem dX9_cries_59 : decode cX9_cries 59 = .ok (.aload_n 0, 1) := by decide +kernel
theorem dX9_cries_60 : decode cX9_cries 60 = .ok (.iload_n 1, 1) := by decide +kernel
end
section
theorem dX9_cries_61 : decode cX9_cries 61 = .ok (.iload 4, 2) := by decide +kernel
theorem dX9_cries_63 : decode cX9_cries 63 = .ok (.invokevirtual 250, 3) := by decide +kernel
theorem dX9_cries_66 : decode cX9_cries 66 = .ok (.aload_n 0, 1) := by decide +kernel
theorem dX9_cries_67 : decode cX9_cries 67 = .ok (.getfield 34, 3) := by decide +kernel
theorem dX9_cries_70 : decode cX9_cries 70 = .ok (.iload_n 2, 1) := by decide +kernel
theorem dX9_cries_71 : decode cX9_cries 71 = .ok (.iaload, 1) := by decide +kernel
theorem dX9_cries_72 : decode cX9_cries 72 = .ok (.iload_n 3, 1) := by decide +kernel
theorem dX9_cries_73 : decode cX9_cries 73 = .ok (.if_icmp .lt 6, 3) := by decide +kernel
theorem dX9_cries_76 : decode cX9_cries 76 = .ok (.iload 4, 2) := by decide +kernel
theorem dX9_cries_78 : decode cX9_cries 78 = .ok (.ireturn, 1) := by decide +kernel
theorem dX9_cries_79 : decode cX9_cries 79 = .ok (.iinc 4 1, 3) := by decide +kernel
theorem dX9_cries_82 : decode cX9_cries 82 = .ok (.goto (-33), 3) := by decide +kernel
theorem dX9_cries_85 : decode cX9_cries 85 = .ok (.bipush (-2), 2) := by decide +kernel
theorem dX9_cries_87 : decode cX9_cries 87 = .ok (.ireturn, 1) := by decide +kernel
theorem dX9_asleep_0 : decode cX9_asleep 0 = .ok (.aload_n 0, 1) := by decide +kernel
theorem dX9_asleep_1 : decode cX9_asleep 1 = .ok (.iload_n 1, 1) := by decide +kernel
theorem dX9_asleep_2 : decode cX9_asleep 2 = .ok (.invokevirtual 245, 3) := by decide +kernel
theorem dX9_asleep_5 : decode cX9_asleep 5 = .ok (.ifCond .ge 9, 3) := by decide +kernel
theorem dX9_asleep_8 : decode cX9_asleep 8 = .ok (.aload_n 0, 1) := by decide +kernel
theorem dX9_asleep_9 : decode cX9_asleep 9 = .ok (.iload_n 1, 1) := by decide +kernel
theorem dX9_asleep_10 : decode cX9_asleep 10 = .ok (.invokevirtual 245, 3) := by decide +kernel
theorem dX9_asleep_13 : decode cX9_asleep 13 = .ok (.ireturn, 1) := by decide +kernel
theorem dX9_asleep_14 : decode cX9_asleep 14 = .ok (.iconst 0, 1) := by decide +kernel
theorem dX9_asleep_15 : decode cX9_asleep 15 = .ok (.istore_n 2, 1) := by decide +kernel
theorem dX9_asleep_16 : decode cX9_asleep 16 = .ok (.iload_n 2, 1) := by decide +kernel
theorem dX9_asleep_17 : decode cX9_asleep 17 = .ok (.aload_n 0, 1) := by decide +kernel
theorem dX9_asleep_18 : decode cX9_asleep 18 = .ok (.iload_n 1, 1) := by decide +kernel
theorem dX9_asleep_19 : decode cX9_asleep 19 = .ok (.invokevirtual 239, 3) := by decide +kernel
theorem dX9_asleep_22 : decode cX9_asleep 22 = .ok (.if_icmp .gt 24, 3) := by decide +kernel
theorem dX9_asleep_25 : decode cX9_asleep 25 = .ok (.aload_n 0, 1) := by decide +kernel
theorem dX9_asleep_26 : decode cX9_asleep 26 = .ok (.iload_n 1, 1) := by decide +kernel
theorem dX9_asleep_27 : decode cX9_asleep 27 = .ok (.iload_n 2, 1) := by decide +kernel
theorem dX9_asleep_28 : decode cX9_asleep 28 = .ok (.invokevirtual 250, 3) := by decide +kernel
theorem dX9_asleep_31 : decode cX9_asleep 31 = .ok (.aload_n 0, 1) := by decide +kernel
theorem dX9_asleep_32 : decode cX9_asleep 32 = .ok (.invokevirtual 226, 3) := by decide +kernel
theorem dX9_asleep_35 : decode cX9_asleep 35 = .ok (.ifCond .ne 5, 3) := by decide +kernel
theorem dX9_asleep_38 : decode cX9_asleep 38 = .ok (.iload_n 2, 1) := by decide +kernel
theorem dX9_asleep_39 : decode cX9_asleep 39 = .ok (.ireturn, 1) := by decide +kernel
theorem dX9_asleep_40 : decode cX9_asleep 40 = .ok (.iinc 2 1, 3) := by decide +kernel
theorem dX9_asleep_43 : decode cX9_asleep 43 = .ok (.goto (-27), 3) := by decide +kernel
theorem dX9_asleep_46 : decode cX9_asleep 46 = .ok (.bipush (-2), 2) := by decide +kernel
theorem dX9_asleep_48 : decode cX9_asleep 48 = .ok (.ireturn, 1) := by decide +kernel
theorem dX9_triesRound_0 : decode cX9_triesRound 0 = .ok (.iload_n 1, 1) := by decide +kernel
theorem dX9_triesRound_1 : decode cX9_triesRound 1 = .ok (.iload_n 2, 1) := by decide +kernel
theorem dX9_triesRound_2 : decode cX9_triesRound 2 = .ok (.if_icmp .ne 109, 3) := by decide +kernel
theorem dX9_triesRound_5 : decode cX9_triesRound 5 = .ok (.aload_n 0, 1) := by decide +kernel
theorem dX9_triesRound_6 : decode cX9_triesRound 6 = .ok (.invokevirtual 233, 3) := by decide +kernel
theorem dX9_triesRound_9 : decode cX9_triesRound 9 = .ok (.iconst 0, 1) := by decide +kernel
theorem dX9_triesRound_10 : decode cX9_triesRound 10 = .ok (.istore_n 3, 1) := by decide +kernel
theorem dX9_triesRound_11 : decode cX9_triesRound 11 = .ok (.iload_n 3, 1) := by decide +kernel
theorem dX9_triesRound_12 : decode cX9_triesRound 12 = .ok (.iload_n 2, 1) := by decide +kernel
theorem dX9_triesRound_13 : decode cX9_triesRound 13 = .ok (.if_icmp .ge 23, 3) := by decide +kernel
theorem dX9_triesRound_16 : decode cX9_triesRound 16 = .ok (.aload_n 0, 1) := by decide +kernel
theorem dX9_triesRound_17 : decode cX9_triesRound 17 = .ok (.aload_n 0, 1) := by decide +kernel
theorem dX9_triesRound_18 : decode cX9_triesRound 18 = .ok (.getfield 43, 3) := by decide +kernel
theorem dX9_triesRound_21 : decode cX9_triesRound 21 = .ok (.iload_n 3, 1) := by decide +kernel
theorem dX9_triesRound_22 : decode cX9_triesRound 22 = .ok (.iaload, 1) := by decide +kernel
theorem dX9_triesRound_23 : decode cX9_triesRound 23 = .ok (.putfield 204, 3) := by decide +kernel
theorem dX9_triesRound_26 : decode cX9_triesRound 26 = .ok (.aload_n 0, 1) := by decide +kernel
theorem dX9_triesRound_27 : decode cX9_triesRound 27 = .ok (.invokevirtual 236, 3) := by decide +kernel
theorem dX9_triesRound_30 : decode cX9_triesRound 30 = .ok (.iinc 3 1, 3) := by decide +kernel
theorem dX9_triesRound_33 : decode cX9_triesRound 33 = .ok (.goto (-22), 3) := by decide +kernel
theorem dX9_triesRound_36 : decode cX9_triesRound 36 = .ok (.aload_n 0, 1) := by decide +kernel
theorem dX9_triesRound_37 : decode cX9_triesRound 37 = .ok (.invokevirtual 256, 3) := by decide +kernel
theorem dX9_triesRound_40 : decode cX9_triesRound 40 = .ok (.aload_n 0, 1) := by decide +kernel
theorem dX9_triesRound_41 : decode cX9_triesRound 41 = .ok (.getfield 259, 3) := by decide +kernel
theorem dX9_triesRound_44 : decode cX9_triesRound 44 = .ok (.if_icmp .lt 25, 3) := by decide +kernel
theorem dX9_triesRound_47 : decode cX9_triesRound 47 = .ok (.aload_n 0, 1) := by decide +kernel
theorem dX9_triesRound_48 : decode cX9_triesRound 48 = .ok (.invokevirtual 256, 3) := by decide +kernel
theorem dX9_triesRound_51 : decode cX9_triesRound 51 = .ok (.aload_n 0, 1) := by decide +kernel
theorem dX9_triesRound_52 : decode cX9_triesRound 52 = .ok (.getfield 259, 3) := by decide +kernel
theorem dX9_triesRound_55 : decode cX9_triesRound 55 = .ok (.if_icmp .ne 55, 3) := by decide +kernel
theorem dX9_triesRound_58 : decode cX9_triesRound 58 = .ok (.aload_n 0, 1) := by decide +kernel
theorem dX9_triesRound_59 : decode cX9_triesRound 59 = .ok (.invokevirtual 253, 3) := by decide +kernel
theorem dX9_triesRound_62 : decode cX9_triesRound 62 = .ok (.aload_n 0, 1) := by decide +kernel
theorem dX9_triesRound_63 : decode cX9_triesRound 63 = .ok (.getfield 262, 3) := by decide +kernel
theorem dX9_triesRound_66 : decode cX9_triesRound 66 = .ok (.if_icmp .ge 44, 3) := by decide +kernel
theorem dX9_triesRound_69 : decode cX9_triesRound 69 = .ok (.aload_n 0, 1) := by decide +kernel
theorem dX9_triesRound_70 : decode cX9_triesRound 70 = .ok (.aload_n 0, 1) := by decide +kernel
theorem dX9_triesRound_71 : decode cX9_triesRound 71 = .ok (.invokevirtual 256, 3) := by decide +kernel
theorem dX9_triesRound_74 : decode cX9_triesRound 74 = .ok (.putfield 259, 3) := by decide +kernel
theorem dX9_triesRound_77 : decode cX9_triesRound 77 = .ok (.aload_n 0, 1) := by decide +kernel
theorem dX9_triesRound_78 : decode cX9_triesRound 78 = .ok (.aload_n 0, 1) := by decide +kernel
theorem dX9_triesRound_79 : decode cX9_triesRound 79 = .ok (.invokevirtual 253, 3) := by decide +kernel
theorem dX9_triesRound_82 : decode cX9_triesRound 82 = .ok (.putfield 262, 3) := by decide +kernel
theorem dX9_triesRound_85 : decode cX9_triesRound 85 = .ok (.iconst 0, 1) := by decide +kernel
theorem dX9_triesRound_86 : decode cX9_triesRound 86 = .ok (.istore_n 3, 1) := by decide +kernel
theorem dX9_triesRound_87 : decode cX9_triesRound 87 = .ok (.iload_n 3, 1) := by decide +kernel
theorem dX9_triesRound_88 : decode cX9_triesRound 88 = .ok (.iload_n 2, 1) := by decide +kernel
theorem dX9_triesRound_89 : decode cX9_triesRound 89 = .ok (.if_icmp .ge 21, 3) := by decide +kernel
theorem dX9_triesRound_92 : decode cX9_triesRound 92 = .ok (.aload_n 0, 1) := by decide +kernel
theorem dX9_triesRound_93 : decode cX9_triesRound 93 = .ok (.getfield 46, 3) := by decide +kernel
theorem dX9_triesRound_96 : decode cX9_triesRound 96 = .ok (.iload_n 3, 1) := by decide +kernel
theorem dX9_triesRound_97 : decode cX9_triesRound 97 = .ok (.aload_n 0, 1) := by decide +kernel
theorem dX9_triesRound_98 : decode cX9_triesRound 98 = .ok (.getfield 43, 3) := by decide +kernel
theorem dX9_triesRound_101 : decode cX9_triesRound 101 = .ok (.iload_n 3, 1) := by decide +kernel
theorem dX9_triesRound_102 : decode cX9_triesRound 102 = .ok (.iaload, 1) := by decide +kernel
theorem dX9_triesRound_103 : decode cX9_triesRound 103 = .ok (.iastore, 1) := by decide +kernel
theorem dX9_triesRound_104 : decode cX9_triesRound 104 = .ok (.iinc 3 1, 3) := by decide +kernel
theorem dX9_triesRound_107 : decode cX9_triesRound 107 = .ok (.goto (-20), 3) := by decide +kernel
theorem dX9_triesRound_110 : decode cX9_triesRound 110 = .ok (.return_, 1) := by decide +kernel
theorem dX9_triesRound_111 : decode cX9_triesRound 111 = .ok (.iconst 0, 1) := by decide +kernel
theorem dX9_triesRound_112 : decode cX9_triesRound 112 = .ok (.istore_n 3, 1) := by decide +kernel
theorem dX9_triesRound_113 : decode cX9_triesRound 113 = .ok (.iload_n 3, 1) := by decide +kernel
theorem dX9_triesRound_114 : decode cX9_triesRound 114 = .ok (.bipush 12, 2) := by decide +kernel
theorem dX9_triesRound_116 : decode cX9_triesRound 116 = .ok (.if_icmp .ge 24, 3) := by decide +kernel
theorem dX9_triesRound_119 : decode cX9_triesRound 119 = .ok (.aload_n 0, 1) := by decide +kernel
theorem dX9_triesRound_120 : decode cX9_triesRound 120 = .ok (.getfield 43, 3) := by decide +kernel
theorem dX9_triesRound_123 : decode cX9_triesRound 123 = .ok (.iload_n 1, 1) := by decide +kernel
theorem dX9_triesRound_124 : decode cX9_triesRound 124 = .ok (.iload_n 3, 1) := by decide +kernel
theorem dX9_triesRound_125 : decode cX9_triesRound 125 = .ok (.iastore, 1) := by decide +kernel
theorem dX9_triesRound_126 : decode cX9_triesRound 126 = .ok (.aload_n 0, 1) := by decide +kernel
theorem dX9_triesRound_127 : decode cX9_triesRound 127 = .ok (.iload_n 1, 1) := by decide +kernel
theorem dX9_triesRound_128 : decode cX9_triesRound 128 = .ok (.iconst 1, 1) := by decide +kernel
theorem dX9_triesRound_129 : decode cX9_triesRound 129 = .ok (.iadd, 1) := by decide +kernel
theorem dX9_triesRound_130 : decode cX9_triesRound 130 = .ok (.iload_n 2, 1) := by decide +kernel
theorem dX9_triesRound_131 : decode cX9_triesRound 131 = .ok (.invokevirtual 265, 3) := by decide +kernel
theorem dX9_triesRound_134 : decode cX9_triesRound 134 = .ok (.iinc 3 1, 3) := by decide +kernel
theorem dX9_triesRound_137 : decode cX9_triesRound 137 = .ok (.goto (-24), 3) := by decide +kernel
theorem dX9_triesRound_140 : decode cX9_triesRound 140 = .ok (.return_, 1) := by decide +kernel
theorem dX9_bestRound_0 : decode cX9_bestRound 0 = .ok (.iload_n 1, 1) := by decide +kernel
theorem dX9_bestRound_1 : decode cX9_bestRound 1 = .ok (.i2l, 1) := by decide +kernel
theorem dX9_bestRound_2 : decode cX9_bestRound 2 = .ok (.lconst 0, 1) := by decide +kernel
theorem dX9_bestRound_3 : decode cX9_bestRound 3 = .ok (.ldc2_w 268, 3) := by decide +kernel
theorem dX9_bestRound_6 : decode cX9_bestRound 6 = .ok (.invokestatic 98, 3) := by decide +kernel
theorem dX9_bestRound_9 : decode cX9_bestRound 9 = .ok (.ifCond .eq 18, 3) := by decide +kernel
theorem dX9_bestRound_12 : decode cX9_bestRound 12 = .ok (.iload_n 2, 1) := by decide +kernel
theorem dX9_bestRound_13 : decode cX9_bestRound 13 = .ok (.i2l, 1) := by decide +kernel
theorem dX9_bestRound_14 : decode cX9_bestRound 14 = .ok (.ldc2_w 270, 3) := by decide +kernel
theorem dX9_bestRound_17 : decode cX9_bestRound 17 = .ok (.iload_n 1, 1) := by decide +kernel
theorem dX9_bestRound_18 : decode cX9_bestRound 18 = .ok (.iconst 1, 1) := by decide +kernel
theorem dX9_bestRound_19 : decode cX9_bestRound 19 = .ok (.isub, 1) := by decide +kernel
theorem dX9_bestRound_20 : decode cX9_bestRound 20 = .ok (.i2l, 1) := by decide +kernel
theorem dX9_bestRound_21 : decode cX9_bestRound 21 = .ok (.invokestatic 98, 3) := by decide +kernel
theorem dX9_bestRound_24 : decode cX9_bestRound 24 = .ok (.ifCond .ne 5, 3) := by decide +kernel
theorem dX9_bestRound_27 : decode cX9_bestRound 27 = .ok (.iconst (-1), 1) := by decide +kernel
theorem dX9_bestRound_28 : decode cX9_bestRound 28 = .ok (.ireturn, 1) := by decide +kernel
theorem dX9_bestRound_29 : decode cX9_bestRound 29 = .ok (.aload_n 0, 1) := by decide +kernel
theorem dX9_bestRound_30 : decode cX9_bestRound 30 = .ok (.ldc_w 272, 3) := by decide +kernel
theorem dX9_bestRound_33 : decode cX9_bestRound 33 = .ok (.putfield 259, 3) := by decide +kernel
theorem dX9_bestRound_36 : decode cX9_bestRound 36 = .ok (.aload_n 0, 1) := by decide +kernel
theorem dX9_bestRound_37 : decode cX9_bestRound 37 = .ok (.ldc_w 272, 3) := by decide +kernel
theorem dX9_bestRound_40 : decode cX9_bestRound 40 = .ok (.putfield 262, 3) := by decide +kernel
theorem dX9_bestRound_43 : decode cX9_bestRound 43 = .ok (.aload_n 0, 1) := by decide +kernel
theorem dX9_bestRound_44 : decode cX9_bestRound 44 = .ok (.iconst 0, 1) := by decide +kernel
theorem dX9_bestRound_45 : decode cX9_bestRound 45 = .ok (.iload_n 1, 1) := by decide +kernel
theorem dX9_bestRound_46 : decode cX9_bestRound 46 = .ok (.invokevirtual 265, 3) := by decide +kernel
theorem dX9_bestRound_49 : decode cX9_bestRound 49 = .ok (.iload_n 2, 1) := by decide +kernel
theorem dX9_bestRound_50 : decode cX9_bestRound 50 = .ok (.iconst (-1), 1) := by decide +kernel
theorem dX9_bestRound_51 : decode cX9_bestRound 51 = .ok (.if_icmp .ne 10, 3) := by decide +kernel
theorem dX9_bestRound_54 : decode cX9_bestRound 54 = .ok (.aload_n 0, 1) := by decide +kernel
theorem dX9_bestRound_55 : decode cX9_bestRound 55 = .ok (.getfield 259, 3) := by decide +kernel
theorem dX9_bestRound_58 : decode cX9_bestRound 58 = .ok (.goto 22, 3) := by decide +kernel
theorem dX9_bestRound_61 : decode cX9_bestRound 61 = .ok (.iload_n 2, 1) := by decide +kernel
theorem dX9_bestRound_62 : decode cX9_bestRound 62 = .ok (.bipush (-2), 2) := by decide +kernel
theorem dX9_bestRound_64 : decode cX9_bestRound 64 = .ok (.if_icmp .ne 10, 3) := by decide +kernel
theorem dX9_bestRound_67 : decode cX9_bestRound 67 = .ok (.aload_n 0, 1) := by decide +kernel
theorem dX9_bestRound_68 : decode cX9_bestRound 68 = .ok (.getfield 262, 3) := by decide +kernel
theorem dX9_bestRound_71 : decode cX9_bestRound 71 = .ok (.goto 9, 3) := by decide +kernel
theorem dX9_bestRound_74 : decode cX9_bestRound 74 = .ok (.aload_n 0, 1) := by decide +kernel
theorem dX9_bestRound_75 : decode cX9_bestRound 75 = .ok (.getfield 46, 3) := by decide +kernel
theorem dX9_bestRound_78 : decode cX9_bestRound 78 = .ok (.iload_n 2, 1) := by decide +kernel
theorem dX9_bestRound_79 : decode cX9_bestRound 79 = .ok (.iaload, 1) := by decide +kernel
theorem dX9_bestRound_80 : decode cX9_bestRound 80 = .ok (.ireturn, 1) := by decide +kernel
theorem dX9_told_0 : decode cX9_told 0 = .ok (.iload_n 1, 1) := by decide +kernel
theorem dX9_told_1 : decode cX9_told 1 = .ok (.i2l, 1) := by decide +kernel
theorem dX9_told_2 : decode cX9_told 2 = .ok (.lconst 0, 1) := by decide +kernel
theorem dX9_told_3 : decode cX9_told 3 = .ok (.lconst 1, 1) := by decide +kernel
theorem dX9_told_4 : decode cX9_told 4 = .ok (.invokestatic 98, 3) := by decide +kernel
theorem dX9_told_7 : decode cX9_told 7 = .ok (.ifCond .ne 5, 3) := by decide +kernel
theorem dX9_told_10 : decode cX9_told 10 = .ok (.iconst (-1), 1) := by decide +kernel
theorem dX9_told_11 : decode cX9_told 11 = .ok (.ireturn, 1) := by decide +kernel
theorem dX9_told_12 : decode cX9_told 12 = .ok (.aload_n 0, 1) := by decide +kernel
theorem dX9_told_13 : decode cX9_told 13 = .ok (.invokevirtual 233, 3) := by decide +kernel
theorem dX9_told_16 : decode cX9_told 16 = .ok (.iconst 0, 1) := by decide +kernel
theorem dX9_told_17 : decode cX9_told 17 = .ok (.istore_n 2, 1) := by decide +kernel
theorem dX9_told_18 : decode cX9_told 18 = .ok (.iconst 0, 1) := by decide +kernel
theorem dX9_told_19 : decode cX9_told 19 = .ok (.istore_n 3, 1) := by decide +kernel
theorem dX9_told_20 : decode cX9_told 20 = .ok (.iload_n 3, 1) := by decide +kernel
theorem dX9_told_21 : decode cX9_told 21 = .ok (.bipush 12, 2) := by decide +kernel
theorem dX9_told_23 : decode cX9_told 23 = .ok (.if_icmp .ge 41, 3) := by decide +kernel
theorem dX9_told_26 : decode cX9_told 26 = .ok (.aload_n 0, 1) := by decide +kernel
theorem dX9_told_27 : decode cX9_told 27 = .ok (.getfield 31, 3) := by decide +kernel
theorem dX9_told_30 : decode cX9_told 30 = .ok (.iload_n 3, 1) := by decide +kernel
theorem dX9_told_31 : decode cX9_told 31 = .ok (.iaload, 1) := by decide +kernel
theorem dX9_told_32 : decode cX9_told 32 = .ok (.ifCond .lt 26, 3) := by decide +kernel
theorem dX9_told_35 : decode cX9_told 35 = .ok (.aload_n 0, 1) := by decide +kernel
theorem dX9_told_36 : decode cX9_told 36 = .ok (.aload_n 0, 1) := by decide +kernel
theorem dX9_told_37 : decode cX9_told 37 = .ok (.getfield 31, 3) := by decide +kernel
theorem dX9_told_40 : decode cX9_told 40 = .ok (.iload_n 3, 1) := by decide +kernel
theorem dX9_told_41 : decode cX9_told 41 = .ok (.iaload, 1) := by decide +kernel
theorem dX9_told_42 : decode cX9_told 42 = .ok (.invokevirtual 214, 3) := by decide +kernel
theorem dX9_told_45 : decode cX9_told 45 = .ok (.ifCond .eq 13, 3) := by decide +kernel
theorem dX9_told_48 : decode cX9_told 48 = .ok (.aload_n 0, 1) := by decide +kernel
theorem dX9_told_49 : decode cX9_told 49 = .ok (.iload_n 3, 1) := by decide +kernel
theorem dX9_told_50 : decode cX9_told 50 = .ok (.bipush 9, 2) := by decide +kernel
theorem dX9_told_52 : decode cX9_told 52 = .ok (.invokevirtual 273, 3) := by decide +kernel
theorem dX9_told_55 : decode cX9_told 55 = .ok (.iinc 2 1, 3) := by decide +kernel
theorem dX9_told_58 : decode cX9_told 58 = .ok (.iinc 3 1, 3) := by decide +kernel
theorem dX9_told_61 : decode cX9_told 61 = .ok (.goto (-41), 3) := by decide +kernel
theorem dX9_told_64 : decode cX9_told 64 = .ok (.aload_n 0, 1) := by decide +kernel
theorem dX9_told_65 : decode cX9_told 65 = .ok (.invokevirtual 226, 3) := by decide +kernel
theorem dX9_told_68 : decode cX9_told 68 = .ok (.ifCond .eq 8, 3) := by decide +kernel
theorem dX9_told_71 : decode cX9_told 71 = .ok (.bipush (-2), 2) := by decide +kernel
theorem dX9_told_73 : decode cX9_told 73 = .ok (.goto 15, 3) := by decide +kernel
theorem dX9_told_76 : decode cX9_told 76 = .ok (.iload_n 1, 1) := by decide +kernel
theorem dX9_told_77 : decode cX9_told 77 = .ok (.ifCond .ne 7, 3) := by decide +kernel
theorem dX9_told_80 : decode cX9_told 80 = .ok (.iload_n 2, 1) := by decide +kernel
theorem dX9_told_81 : decode cX9_told 81 = .ok (.goto 7, 3) := by decide +kernel
theorem dX9_told_84 : decode cX9_told 84 = .ok (.aload_n 0, 1) := by decide +kernel
theorem dX9_told_85 : decode cX9_told 85 = .ok (.invokevirtual 253, 3) := by decide +kernel
theorem dX9_told_88 : decode cX9_told 88 = .ok (.ireturn, 1) := by decide +kernel
theorem dX9_woken_0 : decode cX9_woken 0 = .ok (.iload_n 1, 1) := by decide +kernel
theorem dX9_woken_1 : decode cX9_woken 1 = .ok (.i2l, 1) := by decide +kernel
theorem dX9_woken_2 : decode cX9_woken 2 = .ok (.invokestatic 104, 3) := by decide +kernel
theorem dX9_woken_5 : decode cX9_woken 5 = .ok (.ifCond .eq 13, 3) := by decide +kernel
theorem dX9_woken_8 : decode cX9_woken 8 = .ok (.iload_n 2, 1) := by decide +kernel
theorem dX9_woken_9 : decode cX9_woken 9 = .ok (.i2l, 1) := by decide +kernel
theorem dX9_woken_10 : decode cX9_woken 10 = .ok (.lconst 0, 1) := by decide +kernel
theorem dX9_woken_11 : decode cX9_woken 11 = .ok (.lconst 1, 1) := by decide +kernel
theorem dX9_woken_12 : decode cX9_woken 12 = .ok (.invokestatic 98, 3) := by decide +kernel
theorem dX9_woken_15 : decode cX9_woken 15 = .ok (.ifCond .ne 5, 3) := by decide +kernel
theorem dX9_woken_18 : decode cX9_woken 18 = .ok (.iconst (-1), 1) := by decide +kernel
theorem dX9_woken_19 : decode cX9_woken 19 = .ok (.ireturn, 1) := by decide +kernel
theorem dX9_woken_20 : decode cX9_woken 20 = .ok (.aload_n 0, 1) := by decide +kernel
theorem dX9_woken_21 : decode cX9_woken 21 = .ok (.invokevirtual 233, 3) := by decide +kernel
theorem dX9_woken_24 : decode cX9_woken 24 = .ok (.aload_n 0, 1) := by decide +kernel
theorem dX9_woken_25 : decode cX9_woken 25 = .ok (.invokevirtual 226, 3) := by decide +kernel
theorem dX9_woken_28 : decode cX9_woken 28 = .ok (.istore_n 3, 1) := by decide +kernel
theorem dX9_woken_29 : decode cX9_woken 29 = .ok (.aload_n 0, 1) := by decide +kernel
theorem dX9_woken_30 : decode cX9_woken 30 = .ok (.iload_n 1, 1) := by decide +kernel
theorem dX9_woken_31 : decode cX9_woken 31 = .ok (.invokevirtual 276, 3) := by decide +kernel
theorem dX9_woken_34 : decode cX9_woken 34 = .ok (.iload_n 2, 1) := by decide +kernel
theorem dX9_woken_35 : decode cX9_woken 35 = .ok (.ifCond .ne 14, 3) := by decide +kernel
theorem dX9_woken_38 : decode cX9_woken 38 = .ok (.aload_n 0, 1) := by decide +kernel
theorem dX9_woken_39 : decode cX9_woken 39 = .ok (.invokevirtual 226, 3) := by decide +kernel
theorem dX9_woken_42 : decode cX9_woken 42 = .ok (.iload_n 3, 1) := by decide +kernel
theorem dX9_woken_43 : decode cX9_woken 43 = .ok (.iconst (-1), 1) := by decide +kernel
theorem dX9_woken_44 : decode cX9_woken 44 = .ok (.ixor, 1) := by decide +kernel
theorem dX9_woken_45 : decode cX9_woken 45 = .ok (.iand, 1) := by decide +kernel
theorem dX9_woken_46 : decode cX9_woken 46 = .ok (.goto 7, 3) := by decide +kernel
theorem dX9_woken_49 : decode cX9_woken 49 = .ok (.aload_n 0, 1) := by decide +kernel
theorem dX9_woken_50 : decode cX9_woken 50 = .ok (.invokevirtual 280, 3) := by decide +kernel
theorem dX9_woken_53 : decode cX9_woken 53 = .ok (.ireturn, 1) := by decide +kernel
theorem dX9_stepsTo_0 : decode cX9_stepsTo 0 = .ok (.iload_n 0, 1) := by decide +kernel
theorem dX9_stepsTo_1 : decode cX9_stepsTo 1 = .ok (.bipush 6, 2) := by decide +kernel
theorem dX9_stepsTo_3 : decode cX9_stepsTo 3 = .ok (.irem, 1) := by decide +kernel
theorem dX9_stepsTo_4 : decode cX9_stepsTo 4 = .ok (.iload_n 1, 1) := by decide +kernel
theorem dX9_stepsTo_5 : decode cX9_stepsTo 5 = .ok (.bipush 6, 2) := by decide +kernel
theorem dX9_stepsTo_7 : decode cX9_stepsTo 7 = .ok (.irem, 1) := by decide +kernel
theorem dX9_stepsTo_8 : decode cX9_stepsTo 8 = .ok (.isub, 1) := by decide +kernel
theorem dX9_stepsTo_9 : decode cX9_stepsTo 9 = .ok (.invokestatic 207, 3) := by decide +kernel
theorem dX9_stepsTo_12 : decode cX9_stepsTo 12 = .ok (.iload_n 0, 1) := by decide +kernel
theorem dX9_stepsTo_13 : decode cX9_stepsTo 13 = .ok (.bipush 6, 2) := by decide +kernel
theorem dX9_stepsTo_15 : decode cX9_stepsTo 15 = .ok (.idiv, 1) := by decide +kernel
theorem dX9_stepsTo_16 : decode cX9_stepsTo 16 = .ok (.iload_n 1, 1) := by decide +kernel
theorem dX9_stepsTo_17 : decode cX9_stepsTo 17 = .ok (.bipush 6, 2) := by decide +kernel
theorem dX9_stepsTo_19 : decode cX9_stepsTo 19 = .ok (.idiv, 1) := by decide +kernel
theorem dX9_stepsTo_20 : decode cX9_stepsTo 20 = .ok (.if_icmp .ne 7, 3) := by decide +kernel
theorem dX9_stepsTo_23 : decode cX9_stepsTo 23 = .ok (.iconst 0, 1) := by decide +kernel
theorem dX9_stepsTo_24 : decode cX9_stepsTo 24 = .ok (.goto 4, 3) := by decide +kernel
theorem dX9_stepsTo_27 : decode cX9_stepsTo 27 = .ok (.iconst 1, 1) := by decide +kernel
theorem dX9_stepsTo_28 : decode cX9_stepsTo 28 = .ok (.iadd, 1) := by decide +kernel
theorem dX9_stepsTo_29 : decode cX9_stepsTo 29 = .ok (.ireturn, 1) := by decide +kernel
theorem dX9_stepsBy_0 : decode cX9_stepsBy 0 = .ok (.iload_n 2, 1) := by decide +kernel
theorem dX9_stepsBy_1 : decode cX9_stepsBy 1 = .ok (.ifCond .ne 5, 3) := by decide +kernel
theorem dX9_stepsBy_4 : decode cX9_stepsBy 4 = .ok (.iconst 0, 1) := by decide +kernel
theorem dX9_stepsBy_5 : decode cX9_stepsBy 5 = .ok (.ireturn, 1) := by decide +kernel
theorem dX9_stepsBy_6 : decode cX9_stepsBy 6 = .ok (.ldc_w 272, 3) := by decide +kernel
theorem dX9_stepsBy_9 : decode cX9_stepsBy 9 = .ok (.istore_n 3, 1) := by decide +kernel
theorem dX9_stepsBy_10 : decode cX9_stepsBy 10 = .ok (.iconst 0, 1) := by decide +kernel
theorem dX9_stepsBy_11 : decode cX9_stepsBy 11 = .ok (.istore 4, 2) := by decide +kernel
theorem dX9_stepsBy_13 : decode cX9_stepsBy 13 = .ok (.iload 4, 2) := by decide +kernel
theorem dX9_stepsBy_15 : decode cX9_stepsBy 15 = .ok (.bipush 12, 2) := by decide +kernel
theorem dX9_stepsBy_17 : decode cX9_stepsBy 17 = .ok (.if_icmp .ge 54, 3) := by decide +kernel
theorem dX9_stepsBy_20 : decode cX9_stepsBy 20 = .ok (.iload_n 2, 1) := by decide +kernel
theorem dX9_stepsBy_21 : decode cX9_stepsBy 21 = .ok (.iload 4, 2) := by decide +kernel
theorem dX9_stepsBy_23 : decode cX9_stepsBy 23 = .ok (.invokestatic 283, 3) := by decide +kernel
theorem dX9_stepsBy_26 : decode cX9_stepsBy 26 = .ok (.ifCond .eq 39, 3) := by decide +kernel
theorem dX9_stepsBy_29 : decode cX9_stepsBy 29 = .ok (.iload_n 1, 1) := by decide +kernel
theorem dX9_stepsBy_30 : decode cX9_stepsBy 30 = .ok (.iload 4, 2) := by decide +kernel
theorem dX9_stepsBy_32 : decode cX9_stepsBy 32 = .ok (.invokestatic 286, 3) := by decide +kernel
theorem dX9_stepsBy_35 : decode cX9_stepsBy 35 = .ok (.aload_n 0, 1) := by decide +kernel
theorem dX9_stepsBy_36 : decode cX9_stepsBy 36 = .ok (.iload 4, 2) := by decide +kernel
theorem dX9_stepsBy_38 : decode cX9_stepsBy 38 = .ok (.iload_n 2, 1) := by decide +kernel
theorem dX9_stepsBy_39 : decode cX9_stepsBy 39 = .ok (.iconst 1, 1) := by decide +kernel
theorem dX9_stepsBy_40 : decode cX9_stepsBy 40 = .ok (.iload 4, 2) := by decide +kernel
theorem dX9_stepsBy_42 : decode cX9_stepsBy 42 = .ok (.ishl, 1) := by decide +kernel
theorem dX9_stepsBy_43 : decode cX9_stepsBy 43 = .ok (.iconst (-1), 1) := by decide +kernel
theorem dX9_stepsBy_44 : decode cX9_stepsBy 44 = .ok (.ixor, 1) := by decide +kernel
theorem dX9_stepsBy_45 : decode cX9_stepsBy 45 = .ok (.iand, 1) := by decide +kernel
theorem dX9_stepsBy_46 : decode cX9_stepsBy 46 = .ok (.invokevirtual 289, 3) := by decide +kernel
theorem dX9_stepsBy_49 : decode cX9_stepsBy 49 = .ok (.iadd, 1) := by decide +kernel
theorem dX9_stepsBy_50 : decode cX9_stepsBy 50 = .ok (.istore 5, 2) := by decide +kernel
theorem dX9_stepsBy_52 : decode cX9_stepsBy 52 = .ok (.iload 5, 2) := by decide +kernel
theorem dX9_stepsBy_54 : decode cX9_stepsBy 54 = .ok (.iload_n 3, 1) := by decide +kernel
theorem dX9_stepsBy_55 : decode cX9_stepsBy 55 = .ok (.if_icmp .ge 8, 3) := by decide +kernel
theorem dX9_stepsBy_58 : decode cX9_stepsBy 58 = .ok (.iload 5, 2) := by decide +kernel
theorem dX9_stepsBy_60 : decode cX9_stepsBy 60 = .ok (.goto 4, 3) := by decide +kernel
theorem dX9_stepsBy_63 : decode cX9_stepsBy 63 = .ok (.iload_n 3, 1) := by decide +kernel
theorem dX9_stepsBy_64 : decode cX9_stepsBy 64 = .ok (.istore_n 3, 1) := by decide +kernel
theorem dX9_stepsBy_65 : decode cX9_stepsBy 65 = .ok (.iinc 4 1, 3) := by decide +kernel
theorem dX9_stepsBy_68 : decode cX9_stepsBy 68 = .ok (.goto (-55), 3) := by decide +kernel
theorem dX9_stepsBy_71 : decode cX9_stepsBy 71 = .ok (.iload_n 3, 1) := by decide +kernel
theorem dX9_stepsBy_72 : decode cX9_stepsBy 72 = .ok (.ireturn, 1) := by decide +kernel
theorem dX9_walk_0 : decode cX9_walk 0 = .ok (.iload_n 1, 1) := by decide +kernel
theorem dX9_walk_1 : decode cX9_walk 1 = .ok (.i2l, 1) := by decide +kernel
theorem dX9_walk_2 : decode cX9_walk 2 = .ok (.lconst 0, 1) := by decide +kernel
theorem dX9_walk_3 : decode cX9_walk 3 = .ok (.ldc2_w 292, 3) := by decide +kernel
theorem dX9_walk_6 : decode cX9_walk 6 = .ok (.invokestatic 98, 3) := by decide +kernel
theorem dX9_walk_9 : decode cX9_walk 9 = .ok (.ifCond .ne 5, 3) := by decide +kernel
theorem dX9_walk_12 : decode cX9_walk 12 = .ok (.iconst (-1), 1) := by decide +kernel
theorem dX9_walk_13 : decode cX9_walk 13 = .ok (.ireturn, 1) := by decide +kernel
theorem dX9_walk_14 : decode cX9_walk 14 = .ok (.aload_n 0, 1) := by decide +kernel
theorem dX9_walk_15 : decode cX9_walk 15 = .ok (.invokevirtual 233, 3) := by decide +kernel
theorem dX9_walk_18 : decode cX9_walk 18 = .ok (.iconst 0, 1) := by decide +kernel
theorem dX9_walk_19 : decode cX9_walk 19 = .ok (.istore_n 2, 1) := by decide +kernel
theorem dX9_walk_20 : decode cX9_walk 20 = .ok (.iconst (-1), 1) := by decide +kernel
theorem dX9_walk_21 : decode cX9_walk 21 = .ok (.istore_n 3, 1) := by decide +kernel
theorem dX9_walk_22 : decode cX9_walk 22 = .ok (.iconst 0, 1) := by decide +kernel
theorem dX9_walk_23 : decode cX9_walk 23 = .ok (.istore 4, 2) := by decide +kernel
theorem dX9_walk_25 : decode cX9_walk 25 = .ok (.iload 4, 2) := by decide +kernel
theorem dX9_walk_27 : decode cX9_walk 27 = .ok (.bipush 12, 2) := by decide +kernel
theorem dX9_walk_29 : decode cX9_walk 29 = .ok (.if_icmp .ge 71, 3) := by decide +kernel
theorem dX9_walk_32 : decode cX9_walk 32 = .ok (.aload_n 0, 1) := by decide +kernel
theorem dX9_walk_33 : decode cX9_walk 33 = .ok (.getfield 31, 3) := by decide +kernel
theorem dX9_walk_36 : decode cX9_walk 36 = .ok (.iload 4, 2) := by decide +kernel
theorem dX9_walk_38 : decode cX9_walk 38 = .ok (.iaload, 1) := by decide +kernel
theorem dX9_walk_39 : decode cX9_walk 39 = .ok (.ifCond .lt 55, 3) := by decide +kernel
theorem dX9_walk_42 : decode cX9_walk 42 = .ok (.aload_n 0, 1) := by decide +kernel
theorem dX9_walk_43 : decode cX9_walk 43 = .ok (.aload_n 0, 1) := by decide +kernel
theorem dX9_walk_44 : decode cX9_walk 44 = .ok (.getfield 31, 3) := by decide +kernel
theorem dX9_walk_47 : decode cX9_walk 47 = .ok (.iload 4, 2) := by decide +kernel
theorem dX9_walk_49 : decode cX9_walk 49 = .ok (.iaload, 1) := by decide +kernel
theorem dX9_walk_50 : decode cX9_walk 50 = .ok (.invokevirtual 214, 3) := by decide +kernel
theorem dX9_walk_53 : decode cX9_walk 53 = .ok (.ifCond .eq 41, 3) := by decide +kernel
theorem dX9_walk_56 : decode cX9_walk 56 = .ok (.iload_n 2, 1) := by decide +kernel
theorem dX9_walk_57 : decode cX9_walk 57 = .ok (.iconst 1, 1) := by decide +kernel
theorem dX9_walk_58 : decode cX9_walk 58 = .ok (.iload 4, 2) := by decide +kernel
theorem dX9_walk_60 : decode cX9_walk 60 = .ok (.ishl, 1) := by decide +kernel
theorem dX9_walk_61 : decode cX9_walk 61 = .ok (.ior, 1) := by decide +kernel
theorem dX9_walk_62 : decode cX9_walk 62 = .ok (.istore_n 2, 1) := by decide +kernel
theorem dX9_walk_63 : decode cX9_walk 63 = .ok (.iload_n 3, 1) := by decide +kernel
theorem dX9_walk_64 : decode cX9_walk 64 = .ok (.ifCond .lt 23, 3) := by decide +kernel
theorem dX9_walk_67 : decode cX9_walk 67 = .ok (.aload_n 0, 1) := by decide +kernel
theorem dX9_walk_68 : decode cX9_walk 68 = .ok (.getfield 204, 3) := by decide +kernel
theorem dX9_walk_71 : decode cX9_walk 71 = .ok (.iload 4, 2) := by decide +kernel
theorem dX9_walk_73 : decode cX9_walk 73 = .ok (.invokestatic 286, 3) := by decide +kernel
theorem dX9_walk_76 : decode cX9_walk 76 = .ok (.aload_n 0, 1) := by decide +kernel
theorem dX9_walk_77 : decode cX9_walk 77 = .ok (.getfield 204, 3) := by decide +kernel
theorem dX9_walk_80 : decode cX9_walk 80 = .ok (.iload_n 3, 1) := by decide +kernel
theorem dX9_walk_81 : decode cX9_walk 81 = .ok (.invokestatic 286, 3) := by decide +kernel
theorem dX9_walk_84 : decode cX9_walk 84 = .ok (.if_icmp .ge 8, 3) := by decide +kernel
theorem dX9_walk_87 : decode cX9_walk 87 = .ok (.iload 4, 2) := by decide +kernel
theorem dX9_walk_89 : decode cX9_walk 89 = .ok (.goto 4, 3) := by decide +kernel
theorem dX9_walk_92 : decode cX9_walk 92 = .ok (.iload_n 3, 1) := by decide +kernel
theorem dX9_walk_93 : decode cX9_walk 93 = .ok (.istore_n 3, 1) := by decide +kernel
theorem dX9_walk_94 : decode cX9_walk 94 = .ok (.iinc 4 1, 3) := by decide +kernel
theorem dX9_walk_97 : decode cX9_walk 97 = .ok (.goto (-72), 3) := by decide +kernel
theorem dX9_walk_100 : decode cX9_walk 100 = .ok (.iload_n 1, 1) := by decide +kernel
theorem dX9_walk_101 : decode cX9_walk 101 = .ok (.iconst 2, 1) := by decide +kernel
theorem dX9_walk_102 : decode cX9_walk 102 = .ok (.if_icmp .ne 27, 3) := by decide +kernel
theorem dX9_walk_105 : decode cX9_walk 105 = .ok (.iload_n 2, 1) := by decide +kernel
theorem dX9_walk_106 : decode cX9_walk 106 = .ok (.invokestatic 229, 3) := by decide +kernel
theorem dX9_walk_109 : decode cX9_walk 109 = .ok (.bipush 6, 2) := by decide +kernel
theorem dX9_walk_111 : decode cX9_walk 111 = .ok (.if_icmp .le 8, 3) := by decide +kernel
theorem dX9_walk_114 : decode cX9_walk 114 = .ok (.bipush (-5), 2) := by decide +kernel
theorem dX9_walk_116 : decode cX9_walk 116 = .ok (.goto 12, 3) := by decide +kernel
theorem dX9_walk_119 : decode cX9_walk 119 = .ok (.aload_n 0, 1) := by decide +kernel
theorem dX9_walk_120 : decode cX9_walk 120 = .ok (.aload_n 0, 1) := by decide +kernel
theorem dX9_walk_121 : decode cX9_walk 121 = .ok (.getfield 204, 3) := by decide +kernel
theorem dX9_walk_124 : decode cX9_walk 124 = .ok (.iload_n 2, 1) := by decide +kernel
theorem dX9_walk_125 : decode cX9_walk 125 = .ok (.invokevirtual 289, 3) := by decide +kernel
theorem dX9_walk_128 : decode cX9_walk 128 = .ok (.ireturn, 1) := by decide +kernel
theorem dX9_walk_129 : decode cX9_walk 129 = .ok (.iload_n 3, 1) := by decide +kernel
theorem dX9_walk_130 : decode cX9_walk 130 = .ok (.ifCond .ge 8, 3) := by decide +kernel
theorem dX9_walk_133 : decode cX9_walk 133 = .ok (.bipush (-2), 2) := by decide +kernel
theorem dX9_walk_135 : decode cX9_walk 135 = .ok (.goto 19, 3) := by decide +kernel
theorem dX9_walk_138 : decode cX9_walk 138 = .ok (.iload_n 1, 1) := by decide +kernel
theorem dX9_walk_139 : decode cX9_walk 139 = .ok (.ifCond .ne 14, 3) := by decide +kernel
theorem dX9_walk_142 : decode cX9_walk 142 = .ok (.aload_n 0, 1) := by decide +kernel
theorem dX9_walk_143 : decode cX9_walk 143 = .ok (.getfield 204, 3) := by decide +kernel
theorem dX9_walk_146 : decode cX9_walk 146 = .ok (.iload_n 3, 1) := by decide +kernel
theorem dX9_walk_147 : decode cX9_walk 147 = .ok (.invokestatic 286, 3) := by decide +kernel
theorem dX9_walk_150 : decode cX9_walk 150 = .ok (.goto 4, 3) := by decide +kernel
theorem dX9_walk_153 : decode cX9_walk 153 = .ok (.iload_n 3, 1) := by decide +kernel
theorem dX9_walk_154 : decode cX9_walk 154 = .ok (.ireturn, 1) := by decide +kernel
theorem dX9_rowsAre_0 : decode cX9_rowsAre 0 = .ok (.iload_n 1, 1) := by decide +kernel
theorem dX9_rowsAre_1 : decode cX9_rowsAre 1 = .ok (.ifCond .lt 23, 3) := by decide +kernel
theorem dX9_rowsAre_4 : decode cX9_rowsAre 4 = .ok (.iload_n 1, 1) := by decide +kernel
theorem dX9_rowsAre_5 : decode cX9_rowsAre 5 = .ok (.bipush 10, 2) := by decide +kernel
theorem dX9_rowsAre_7 : decode cX9_rowsAre 7 = .ok (.idiv, 1) := by decide +kernel
theorem dX9_rowsAre_8 : decode cX9_rowsAre 8 = .ok (.invokestatic 119, 3) := by decide +kernel
theorem dX9_rowsAre_11 : decode cX9_rowsAre 11 = .ok (.ifCond .eq 13, 3) := by decide +kernel
theorem dX9_rowsAre_14 : decode cX9_rowsAre 14 = .ok (.iload_n 1, 1) := by decide +kernel
theorem dX9_rowsAre_15 : decode cX9_rowsAre 15 = .ok (.bipush 10, 2) := by decide +kernel
theorem dX9_rowsAre_17 : decode cX9_rowsAre 17 = .ok (.irem, 1) := by decide +kernel
theorem dX9_rowsAre_18 : decode cX9_rowsAre 18 = .ok (.invokestatic 119, 3) := by decide +kernel
theorem dX9_rowsAre_21 : decode cX9_rowsAre 21 = .ok (.ifCond .ne 5, 3) := by decide +kernel
theorem dX9_rowsAre_24 : decode cX9_rowsAre 24 = .ok (.iconst (-1), 1) := by decide +kernel
theorem dX9_rowsAre_25 : decode cX9_rowsAre 25 = .ok (.ireturn, 1) := by decide +kernel
theorem dX9_rowsAre_26 : decode cX9_rowsAre 26 = .ok (.aload_n 0, 1) := by decide +kernel
theorem dX9_rowsAre_27 : decode cX9_rowsAre 27 = .ok (.iload_n 1, 1) := by decide +kernel
theorem dX9_rowsAre_28 : decode cX9_rowsAre 28 = .ok (.bipush 10, 2) := by decide +kernel
theorem dX9_rowsAre_30 : decode cX9_rowsAre 30 = .ok (.idiv, 1) := by decide +kernel
theorem dX9_rowsAre_31 : decode cX9_rowsAre 31 = .ok (.invokevirtual 245, 3) := by decide +kernel
theorem dX9_rowsAre_34 : decode cX9_rowsAre 34 = .ok (.ifCond .ge 14, 3) := by decide +kernel
theorem dX9_rowsAre_37 : decode cX9_rowsAre 37 = .ok (.aload_n 0, 1) := by decide +kernel
theorem dX9_rowsAre_38 : decode cX9_rowsAre 38 = .ok (.iload_n 1, 1) := by decide +kernel
theorem dX9_rowsAre_39 : decode cX9_rowsAre 39 = .ok (.bipush 10, 2) := by decide +kernel
theorem dX9_rowsAre_41 : decode cX9_rowsAre 41 = .ok (.idiv, 1) := by decide +kernel
theorem dX9_rowsAre_42 : decode cX9_rowsAre 42 = .ok (.invokevirtual 245, 3) := by decide +kernel
theorem dX9_rowsAre_45 : decode cX9_rowsAre 45 = .ok (.goto 11, 3) := by decide +kernel
theorem dX9_rowsAre_48 : decode cX9_rowsAre 48 = .ok (.aload_n 0, 1) := by decide +kernel
theorem dX9_rowsAre_49 : decode cX9_rowsAre 49 = .ok (.iload_n 1, 1) := by decide +kernel
theorem dX9_rowsAre_50 : decode cX9_rowsAre 50 = .ok (.bipush 10, 2) := by decide +kernel
theorem dX9_rowsAre_52 : decode cX9_rowsAre 52 = .ok (.irem, 1) := by decide +kernel
theorem dX9_rowsAre_53 : decode cX9_rowsAre 53 = .ok (.invokevirtual 245, 3) := by decide +kernel
theorem dX9_rowsAre_56 : decode cX9_rowsAre 56 = .ok (.ireturn, 1) := by decide +kernel
theorem dX9_firstFalse_0 : decode cX9_firstFalse 0 = .ok (.aload_n 0, 1) := by decide +kernel
theorem dX9_firstFalse_1 : decode cX9_firstFalse 1 = .ok (.invokevirtual 233, 3) := by decide +kernel
theorem dX9_firstFalse_4 : decode cX9_firstFalse 4 = .ok (.aload_n 0, 1) := by decide +kernel
theorem dX9_firstFalse_5 : decode cX9_firstFalse 5 = .ok (.iload_n 1, 1) := by decide +kernel
theorem dX9_firstFalse_6 : decode cX9_firstFalse 6 = .ok (.bipush 10, 2) := by decide +kernel
theorem dX9_firstFalse_8 : decode cX9_firstFalse 8 = .ok (.idiv, 1) := by decide +kernel
theorem dX9_firstFalse_9 : decode cX9_firstFalse 9 = .ok (.invokevirtual 239, 3) := by decide +kernel
theorem dX9_firstFalse_12 : decode cX9_firstFalse 12 = .ok (.istore_n 3, 1) := by decide +kernel
theorem dX9_firstFalse_13 : decode cX9_firstFalse 13 = .ok (.iconst 0, 1) := by decide +kernel
theorem dX9_firstFalse_14 : decode cX9_firstFalse 14 = .ok (.istore 4, 2) := by decide +kernel
theorem dX9_firstFalse_16 : decode cX9_firstFalse 16 = .ok (.iload 4, 2) := by decide +kernel
theorem dX9_firstFalse_18 : decode cX9_firstFalse 18 = .ok (.aload_n 0, 1) := by decide +kernel
theorem dX9_firstFalse_19 : decode cX9_firstFalse 19 = .ok (.getfield 67, 3) := by decide +kernel
theorem dX9_firstFalse_22 : decode cX9_firstFalse 22 = .ok (.iload_n 1, 1) := by decide +kernel
theorem dX9_firstFalse_23 : decode cX9_firstFalse 23 = .ok (.bipush 10, 2) := by decide +kernel
theorem dX9_firstFalse_25 : decode cX9_firstFalse 25 = .ok (.irem, 1) := by decide +kernel
theorem dX9_firstFalse_26 : decode cX9_firstFalse 26 = .ok (.iaload, 1) := by decide +kernel
theorem dX9_firstFalse_27 : decode cX9_firstFalse 27 = .ok (.if_icmp .ge 64, 3) := by decide +kernel
theorem dX9_firstFalse_30 : decode cX9_firstFalse 30 = .ok (.iload 4, 2) := by decide +kernel
theorem dX9_firstFalse_32 : decode cX9_firstFalse 32 = .ok (.iload_n 3, 1) := by decide +kernel
theorem dX9_firstFalse_33 : decode cX9_firstFalse 33 = .ok (.if_icmp .le 6, 3) := by decide +kernel
theorem dX9_firstFalse_36 : decode cX9_firstFalse 36 = .ok (.iload 4, 2) := by decide +kernel
theorem dX9_firstFalse_38 : decode cX9_firstFalse 38 = .ok (.ireturn, 1) := by decide +kernel
theorem dX9_firstFalse_39 : decode cX9_firstFalse 39 = .ok (.iload 4, 2) := by decide +kernel
theorem dX9_firstFalse_41 : decode cX9_firstFalse 41 = .ok (.ifCond .le 15, 3) := by decide +kernel
theorem dX9_firstFalse_44 : decode cX9_firstFalse 44 = .ok (.aload_n 0, 1) := by decide +kernel
theorem dX9_firstFalse_45 : decode cX9_firstFalse 45 = .ok (.iload_n 1, 1) := by decide +kernel
theorem dX9_firstFalse_46 : decode cX9_firstFalse 46 = .ok (.bipush 10, 2) := by decide +kernel
theorem dX9_firstFalse_48 : decode cX9_firstFalse 48 = .ok (.idiv, 1) := by decide +kernel
theorem dX9_firstFalse_49 : decode cX9_firstFalse 49 = .ok (.iload 4, 2) := by decide +kernel
theorem dX9_firstFalse_51 : decode cX9_firstFalse 51 = .ok (.iconst 1, 1) := by decide +kernel
theorem dX9_firstFalse_52 : decode cX9_firstFalse 52 = .ok (.isub, 1) := by decide +kernel
theorem dX9_firstFalse_53 : decode cX9_firstFalse 53 = .ok (.invokevirtual 242, 3) := by decide +kernel
theorem dX9_firstFalse_56 : decode cX9_firstFalse 56 = .ok (.aload_n 0, 1) := by decide +kernel
theorem dX9_firstFalse_57 : decode cX9_firstFalse 57 = .ok (.getfield 70, 3) := by decide +kernel
theorem dX9_firstFalse_60 : decode cX9_firstFalse 60 = .ok (.bipush 60, 2) := by decide +kernel
theorem dX9_firstFalse_62 : decode cX9_firstFalse 62 = .ok (.iload_n 1, 1) := by decide +kernel
theorem dX9_firstFalse_63 : decode cX9_firstFalse 63 = .ok (.bipush 10, 2) := by decide +kernel
theorem dX9_firstFalse_65 : decode cX9_firstFalse 65 = .ok (.irem, 1) := by decide +kernel
theorem dX9_firstFalse_66 : decode cX9_firstFalse 66 = .ok (.imul, 1) := by decide +kernel
theorem dX9_firstFalse_67 : decode cX9_firstFalse 67 = .ok (.iload 4, 2) := by decide +kernel
theorem dX9_firstFalse_69 : decode cX9_firstFalse 69 = .ok (.iadd, 1) := by decide +kernel
theorem dX9_firstFalse_70 : decode cX9_firstFalse 70 = .ok (.laload, 1) := by decide +kernel
theorem dX9_firstFalse_71 : decode cX9_firstFalse 71 = .ok (.aload_n 0, 1) := by decide +kernel
theorem dX9_firstFalse_72 : decode cX9_firstFalse 72 = .ok (.getfield 34, 3) := by decide +kernel
theorem dX9_firstFalse_75 : decode cX9_firstFalse 75 = .ok (.iload_n 2, 1) := by decide +kernel
theorem dX9_firstFalse_76 : decode cX9_firstFalse 76 = .ok (.iaload, 1) := by decide +kernel
theorem dX9_firstFalse_77 : decode cX9_firstFalse 77 = .ok (.i2l, 1) := by decide +kernel
theorem dX9_firstFalse_78 : decode cX9_firstFalse 78 = .ok (.lcmp, 1) := by decide +kernel
theorem dX9_firstFalse_79 : decode cX9_firstFalse 79 = .ok (.ifCond .eq 6, 3) := by decide +kernel
theorem dX9_firstFalse_82 : decode cX9_firstFalse 82 = .ok (.iload 4, 2) := by decide +kernel
theorem dX9_firstFalse_84 : decode cX9_firstFalse 84 = .ok (.ireturn, 1) := by decide +kernel
theorem dX9_firstFalse_85 : decode cX9_firstFalse 85 = .ok (.iinc 4 1, 3) := by decide +kernel
theorem dX9_firstFalse_88 : decode cX9_firstFalse 88 = .ok (.goto (-72), 3) := by decide +kernel
theorem dX9_firstFalse_91 : decode cX9_firstFalse 91 = .ok (.bipush (-2), 2) := by decide +kernel
theorem dX9_firstFalse_93 : decode cX9_firstFalse 93 = .ok (.ireturn, 1) := by decide +kernel
theorem dX9_judge_0 : decode cX9_judge 0 = .ok (.aload_n 0, 1) := by decide +kernel
theorem dX9_judge_1 : decode cX9_judge 1 = .ok (.iload_n 1, 1) := by decide +kernel
theorem dX9_judge_2 : decode cX9_judge 2 = .ok (.invokevirtual 294, 3) := by decide +kernel
theorem dX9_judge_5 : decode cX9_judge 5 = .ok (.iconst (-1), 1) := by decide +kernel
theorem dX9_judge_6 : decode cX9_judge 6 = .ok (.if_icmp .eq 12, 3) := by decide +kernel
theorem dX9_judge_9 : decode cX9_judge 9 = .ok (.aload_n 0, 1) := by decide +kernel
theorem dX9_judge_10 : decode cX9_judge 10 = .ok (.iload_n 2, 1) := by decide +kernel
theorem dX9_judge_11 : decode cX9_judge 11 = .ok (.i2l, 1) := by decide +kernel
theorem dX9_judge_12 : decode cX9_judge 12 = .ok (.invokevirtual 127, 3) := by decide +kernel
theorem dX9_judge_15 : decode cX9_judge 15 = .ok (.ifCond .ne 5, 3) := by decide +kernel
theorem dX9_judge_18 : decode cX9_judge 18 = .ok (.iconst (-1), 1) := by decide +kernel
theorem dX9_judge_19 : decode cX9_judge 19 = .ok (.ireturn, 1) := by decide +kernel
theorem dX9_judge_20 : decode cX9_judge 20 = .ok (.aload_n 0, 1) := by decide +kernel
theorem dX9_judge_21 : decode cX9_judge 21 = .ok (.iload_n 1, 1) := by decide +kernel
theorem dX9_judge_22 : decode cX9_judge 22 = .ok (.invokevirtual 294, 3) := by decide +kernel
theorem dX9_judge_25 : decode cX9_judge 25 = .ok (.ifCond .ge 11, 3) := by decide +kernel
theorem dX9_judge_28 : decode cX9_judge 28 = .ok (.aload_n 0, 1) := by decide +kernel
theorem dX9_judge_29 : decode cX9_judge 29 = .ok (.iload_n 1, 1) := by decide +kernel
theorem dX9_judge_30 : decode cX9_judge 30 = .ok (.invokevirtual 294, 3) := by decide +kernel
theorem dX9_judge_33 : decode cX9_judge 33 = .ok (.goto 9, 3) := by decide +kernel
theorem dX9_judge_36 : decode cX9_judge 36 = .ok (.aload_n 0, 1) := by decide +kernel
theorem dX9_judge_37 : decode cX9_judge 37 = .ok (.iload_n 1, 1) := by decide +kernel
theorem dX9_judge_38 : decode cX9_judge 38 = .ok (.iload_n 2, 1) := by decide +kernel
theorem dX9_judge_39 : decode cX9_judge 39 = .ok (.invokevirtual 297, 3) := by decide +kernel
theorem dX9_judge_42 : decode cX9_judge 42 = .ok (.ireturn, 1) := by decide +kernel
theorem dX9_fits_0 : decode cX9_fits 0 = .ok (.aload_n 0, 1) := by decide +kernel
theorem dX9_fits_1 : decode cX9_fits 1 = .ok (.iload_n 1, 1) := by decide +kernel
theorem dX9_fits_2 : decode cX9_fits 2 = .ok (.invokevirtual 294, 3) := by decide +kernel
theorem dX9_fits_5 : decode cX9_fits 5 = .ok (.iconst (-1), 1) := by decide +kernel
theorem dX9_fits_6 : decode cX9_fits 6 = .ok (.if_icmp .eq 43, 3) := by decide +kernel
theorem dX9_fits_9 : decode cX9_fits 9 = .ok (.iload_n 2, 1) := by decide +kernel
theorem dX9_fits_10 : decode cX9_fits 10 = .ok (.ifCond .lt 39, 3) := by decide +kernel
theorem dX9_fits_13 : decode cX9_fits 13 = .ok (.aload_n 0, 1) := by decide +kernel
theorem dX9_fits_14 : decode cX9_fits 14 = .ok (.iload_n 2, 1) := by decide +kernel
theorem dX9_fits_15 : decode cX9_fits 15 = .ok (.bipush 10, 2) := by decide +kernel
theorem dX9_fits_17 : decode cX9_fits 17 = .ok (.idiv, 1) := by decide +kernel
theorem dX9_fits_18 : decode cX9_fits 18 = .ok (.i2l, 1) := by decide +kernel
theorem dX9_fits_19 : decode cX9_fits 19 = .ok (.invokevirtual 127, 3) := by decide +kernel
theorem dX9_fits_22 : decode cX9_fits 22 = .ok (.ifCond .eq 27, 3) := by decide +kernel
theorem dX9_fits_25 : decode cX9_fits 25 = .ok (.aload_n 0, 1) := by decide +kernel
theorem dX9_fits_26 : decode cX9_fits 26 = .ok (.iload_n 2, 1) := by decide +kernel
theorem dX9_fits_27 : decode cX9_fits 27 = .ok (.bipush 10, 2) := by decide +kernel
theorem dX9_fits_29 : decode cX9_fits 29 = .ok (.irem, 1) := by decide +kernel
theorem dX9_fits_30 : decode cX9_fits 30 = .ok (.i2l, 1) := by decide +kernel
theorem dX9_fits_31 : decode cX9_fits 31 = .ok (.invokevirtual 127, 3) := by decide +kernel
theorem dX9_fits_34 : decode cX9_fits 34 = .ok (.ifCond .eq 15, 3) := by decide +kernel
theorem dX9_fits_37 : decode cX9_fits 37 = .ok (.iload_n 3, 1) := by decide +kernel
theorem dX9_fits_38 : decode cX9_fits 38 = .ok (.i2l, 1) := by decide +kernel
theorem dX9_fits_39 : decode cX9_fits 39 = .ok (.lconst 0, 1) := by decide +kernel
theorem dX9_fits_40 : decode cX9_fits 40 = .ok (.ldc2_w 268, 3) := by decide +kernel
theorem dX9_fits_43 : decode cX9_fits 43 = .ok (.invokestatic 98, 3) := by decide +kernel
theorem dX9_fits_46 : decode cX9_fits 46 = .ok (.ifCond .ne 5, 3) := by decide +kernel
theorem dX9_fits_49 : decode cX9_fits 49 = .ok (.iconst (-1), 1) := by decide +kernel
theorem dX9_fits_50 : decode cX9_fits 50 = .ok (.ireturn, 1) := by decide +kernel
theorem dX9_fits_51 : decode cX9_fits 51 = .ok (.aload_n 0, 1) := by decide +kernel
theorem dX9_fits_52 : decode cX9_fits 52 = .ok (.iload_n 1, 1) := by decide +kernel
theorem dX9_fits_53 : decode cX9_fits 53 = .ok (.invokevirtual 294, 3) := by decide +kernel
theorem dX9_fits_56 : decode cX9_fits 56 = .ok (.ifCond .ge 9, 3) := by decide +kernel
theorem dX9_fits_59 : decode cX9_fits 59 = .ok (.aload_n 0, 1) := by decide +kernel
theorem dX9_fits_60 : decode cX9_fits 60 = .ok (.iload_n 1, 1) := by decide +kernel
theorem dX9_fits_61 : decode cX9_fits 61 = .ok (.invokevirtual 294, 3) := by decide +kernel
theorem dX9_fits_64 : decode cX9_fits 64 = .ok (.ireturn, 1) := by decide +kernel
theorem dX9_fits_65 : decode cX9_fits 65 = .ok (.iload_n 3, 1) := by decide +kernel
theorem dX9_fits_66 : decode cX9_fits 66 = .ok (.iconst 2, 1) := by decide +kernel
theorem dX9_fits_67 : decode cX9_fits 67 = .ok (.if_icmp .ge 8, 3) := by decide +kernel
theorem dX9_fits_70 : decode cX9_fits 70 = .ok (.bipush 10, 2) := by decide +kernel
theorem dX9_fits_72 : decode cX9_fits 72 = .ok (.goto 5, 3) := by decide +kernel
theorem dX9_fits_75 : decode cX9_fits 75 = .ok (.bipush 20, 2) := by decide +kernel
theorem dX9_fits_77 : decode cX9_fits 77 = .ok (.iload_n 2, 1) := by decide +kernel
theorem dX9_fits_78 : decode cX9_fits 78 = .ok (.bipush 10, 2) := by decide +kernel
theorem dX9_fits_80 : decode cX9_fits 80 = .ok (.irem, 1) := by decide +kernel
theorem dX9_fits_81 : decode cX9_fits 81 = .ok (.iadd, 1) := by decide +kernel
theorem dX9_fits_82 : decode cX9_fits 82 = .ok (.istore 4, 2) := by decide +kernel
theorem dX9_fits_84 : decode cX9_fits 84 = .ok (.aload_n 0, 1) := by decide +kernel
theorem dX9_fits_85 : decode cX9_fits 85 = .ok (.getfield 9, 3) := by decide +kernel
theorem dX9_fits_88 : decode cX9_fits 88 = .ok (.iload 4, 2) := by decide +kernel
theorem dX9_fits_90 : decode cX9_fits 90 = .ok (.iaload, 1) := by decide +kernel
theorem dX9_fits_91 : decode cX9_fits 91 = .ok (.istore 5, 2) := by decide +kernel
theorem dX9_fits_93 : decode cX9_fits 93 = .ok (.iconst 0, 1) := by decide +kernel
theorem dX9_fits_94 : decode cX9_fits 94 = .ok (.istore 6, 2) := by decide +kernel
theorem dX9_fits_96 : decode cX9_fits 96 = .ok (.bipush (-2), 2) := by decide +kernel
theorem dX9_fits_98 : decode cX9_fits 98 = .ok (.istore 7, 2) := by decide +kernel
theorem dX9_fits_100 : decode cX9_fits 100 = .ok (.iconst 0, 1) := by decide +kernel
theorem dX9_fits_101 : decode cX9_fits 101 = .ok (.istore 8, 2) := by decide +kernel
theorem dX9_fits_103 : decode cX9_fits 103 = .ok (.iload 8, 2) := by decide +kernel
theorem dX9_fits_105 : decode cX9_fits 105 = .ok (.iload_n 3, 1) := by decide +kernel
theorem dX9_fits_106 : decode cX9_fits 106 = .ok (.iconst 2, 1) := by decide +kernel
theorem dX9_fits_107 : decode cX9_fits 107 = .ok (.if_icmp .ge 8, 3) := by decide +kernel
theorem dX9_fits_110 : decode cX9_fits 110 = .ok (.bipush 9, 2) := by decide +kernel
theorem dX9_fits_112 : decode cX9_fits 112 = .ok (.goto 5, 3) := by decide +kernel
theorem dX9_fits_115 : decode cX9_fits 115 = .ok (.bipush 99, 2) := by decide +kernel
theorem dX9_fits_117 : decode cX9_fits 117 = .ok (.if_icmp .gt 49, 3) := by decide +kernel
theorem dX9_fits_120 : decode cX9_fits 120 = .ok (.aload_n 0, 1) := by decide +kernel
theorem dX9_fits_121 : decode cX9_fits 121 = .ok (.getfield 9, 3) := by decide +kernel
theorem dX9_fits_124 : decode cX9_fits 124 = .ok (.iload 4, 2) := by decide +kernel
theorem dX9_fits_126 : decode cX9_fits 126 = .ok (.iload 8, 2) := by decide +kernel
theorem dX9_fits_128 : decode cX9_fits 128 = .ok (.iastore, 1) := by decide +kernel
theorem dX9_fits_129 : decode cX9_fits 129 = .ok (.aload_n 0, 1) := by decide +kernel
theorem dX9_fits_130 : decode cX9_fits 130 = .ok (.iload_n 1, 1) := by decide +kernel
theorem dX9_fits_131 : decode cX9_fits 131 = .ok (.iload_n 2, 1) := by decide +kernel
theorem dX9_fits_132 : decode cX9_fits 132 = .ok (.bipush 10, 2) := by decide +kernel
theorem dX9_fits_134 : decode cX9_fits 134 = .ok (.idiv, 1) := by decide +kernel
theorem dX9_fits_135 : decode cX9_fits 135 = .ok (.invokevirtual 297, 3) := by decide +kernel
theorem dX9_fits_138 : decode cX9_fits 138 = .ok (.bipush (-2), 2) := by decide +kernel
theorem dX9_fits_140 : decode cX9_fits 140 = .ok (.if_icmp .ne 20, 3) := by decide +kernel
theorem dX9_fits_143 : decode cX9_fits 143 = .ok (.iload 6, 2) := by decide +kernel
theorem dX9_fits_145 : decode cX9_fits 145 = .ok (.ifCond .ne 8, 3) := by decide +kernel
theorem dX9_fits_148 : decode cX9_fits 148 = .ok (.iload 8, 2) := by decide +kernel
theorem dX9_fits_150 : decode cX9_fits 150 = .ok (.goto 5, 3) := by decide +kernel
theorem dX9_fits_153 : decode cX9_fits 153 = .ok (.iload 7, 2) := by decide +kernel
theorem dX9_fits_155 : decode cX9_fits 155 = .ok (.istore 7, 2) := by decide +kernel
theorem dX9_fits_157 : decode cX9_fits 157 = .ok (.iinc 6 1, 3) := by decide +kernel
theorem dX9_fits_160 : decode cX9_fits 160 = .ok (.iinc 8 1, 3) := by decide +kernel
theorem dX9_fits_163 : decode cX9_fits 163 = .ok (.goto (-60), 3) := by decide +kernel
theorem dX9_fits_166 : decode cX9_fits 166 = .ok (.aload_n 0, 1) := by decide +kernel
theorem dX9_fits_167 : decode cX9_fits 167 = .ok (.getfield 9, 3) := by decide +kernel
theorem dX9_fits_170 : decode cX9_fits 170 = .ok (.iload 4, 2) := by decide +kernel
theorem dX9_fits_172 : decode cX9_fits 172 = .ok (.iload 5, 2) := by decide +kernel
theorem dX9_fits_174 : decode cX9_fits 174 = .ok (.iastore, 1) := by decide +kernel
theorem dX9_fits_175 : decode cX9_fits 175 = .ok (.iload_n 3, 1) := by decide +kernel
theorem dX9_fits_176 : decode cX9_fits 176 = .ok (.iconst 2, 1) := by decide +kernel
theorem dX9_fits_177 : decode cX9_fits 177 = .ok (.irem, 1) := by decide +kernel
theorem dX9_fits_178 : decode cX9_fits 178 = .ok (.ifCond .ne 8, 3) := by decide +kernel
theorem dX9_fits_181 : decode cX9_fits 181 = .ok (.iload 6, 2) := by decide +kernel
theorem dX9_fits_183 : decode cX9_fits 183 = .ok (.goto 5, 3) := by decide +kernel
theorem dX9_fits_186 : decode cX9_fits 186 = .ok (.iload 7, 2) := by decide +kernel
theorem dX9_fits_188 : decode cX9_fits 188 = .ok (.ireturn, 1) := by decide +kernel
theorem dX9_dealt_0 : decode cX9_dealt 0 = .ok (.iload_n 1, 1) := by decide +kernel
theorem dX9_dealt_1 : decode cX9_dealt 1 = .ok (.i2l, 1) := by decide +kernel
theorem dX9_dealt_2 : decode cX9_dealt 2 = .ok (.lconst 0, 1) := by decide +kernel
theorem dX9_dealt_3 : decode cX9_dealt 3 = .ok (.lconst 1, 1) := by decide +kernel
theorem dX9_dealt_4 : decode cX9_dealt 4 = .ok (.invokestatic 98, 3) := by decide +kernel
theorem dX9_dealt_7 : decode cX9_dealt 7 = .ok (.ifCond .ne 5, 3) := by decide +kernel
theorem dX9_dealt_10 : decode cX9_dealt 10 = .ok (.iconst (-1), 1) := by decide +kernel
theorem dX9_dealt_11 : decode cX9_dealt 11 = .ok (.ireturn, 1) := by decide +kernel
theorem dX9_dealt_12 : decode cX9_dealt 12 = .ok (.bipush (-9), 2) := by decide +kernel
theorem dX9_dealt_14 : decode cX9_dealt 14 = .ok (.istore_n 2, 1) := by decide +kernel
theorem dX9_dealt_15 : decode cX9_dealt 15 = .ok (.aload_n 0, 1) := by decide +kernel
theorem dX9_dealt_16 : decode cX9_dealt 16 = .ok (.invokevirtual 233, 3) := by decide +kernel
theorem dX9_dealt_19 : decode cX9_dealt 19 = .ok (.aload_n 0, 1) := by decide +kernel
theorem dX9_dealt_20 : decode cX9_dealt 20 = .ok (.iconst (-1), 1) := by decide +kernel
theorem dX9_dealt_21 : decode cX9_dealt 21 = .ok (.putfield 204, 3) := by decide +kernel
theorem dX9_dealt_24 : decode cX9_dealt 24 = .ok (.aload_n 0, 1) := by decide +kernel
theorem dX9_dealt_25 : decode cX9_dealt 25 = .ok (.invokevirtual 236, 3) := by decide +kernel
theorem dX9_dealt_28 : decode cX9_dealt 28 = .ok (.aload_n 0, 1) := by decide +kernel
theorem dX9_dealt_29 : decode cX9_dealt 29 = .ok (.invokevirtual 256, 3) := by decide +kernel
theorem dX9_dealt_32 : decode cX9_dealt 32 = .ok (.istore_n 3, 1) := by decide +kernel
theorem dX9_dealt_33 : decode cX9_dealt 33 = .ok (.aload_n 0, 1) := by decide +kernel
theorem dX9_dealt_34 : decode cX9_dealt 34 = .ok (.invokevirtual 253, 3) := by decide +kernel
theorem dX9_dealt_37 : decode cX9_dealt 37 = .ok (.istore 4, 2) := by decide +kernel
theorem dX9_dealt_39 : decode cX9_dealt 39 = .ok (.iconst 0, 1) := by decide +kernel
theorem dX9_dealt_40 : decode cX9_dealt 40 = .ok (.istore 5, 2) := by decide +kernel
theorem dX9_dealt_42 : decode cX9_dealt 42 = .ok (.iload 5, 2) := by decide +kernel
theorem dX9_dealt_44 : decode cX9_dealt 44 = .ok (.bipush 12, 2) := by decide +kernel
theorem dX9_dealt_46 : decode cX9_dealt 46 = .ok (.if_icmp .ge 118, 3) := by decide +kernel
theorem dX9_dealt_49 : decode cX9_dealt 49 = .ok (.iload 5, 2) := by decide +kernel
theorem dX9_dealt_51 : decode cX9_dealt 51 = .ok (.iconst 1, 1) := by decide +kernel
theorem dX9_dealt_52 : decode cX9_dealt 52 = .ok (.iadd, 1) := by decide +kernel
theorem dX9_dealt_53 : decode cX9_dealt 53 = .ok (.istore 6, 2) := by decide +kernel
theorem dX9_dealt_55 : decode cX9_dealt 55 = .ok (.iload 6, 2) := by decide +kernel
theorem dX9_dealt_57 : decode cX9_dealt 57 = .ok (.bipush 12, 2) := by decide +kernel
theorem dX9_dealt_59 : decode cX9_dealt 59 = .ok (.if_icmp .ge 99, 3) := by decide +kernel
theorem dX9_dealt_62 : decode cX9_dealt 62 = .ok (.aload_n 0, 1) := by decide +kernel
theorem dX9_dealt_63 : decode cX9_dealt 63 = .ok (.invokevirtual 233, 3) := by decide +kernel
theorem dX9_dealt_66 : decode cX9_dealt 66 = .ok (.aload_n 0, 1) := by decide +kernel
theorem dX9_dealt_67 : decode cX9_dealt 67 = .ok (.iconst (-1), 1) := by decide +kernel
theorem dX9_dealt_68 : decode cX9_dealt 68 = .ok (.putfield 204, 3) := by decide +kernel
theorem dX9_dealt_71 : decode cX9_dealt 71 = .ok (.aload_n 0, 1) := by decide +kernel
theorem dX9_dealt_72 : decode cX9_dealt 72 = .ok (.getfield 31, 3) := by decide +kernel
theorem dX9_dealt_75 : decode cX9_dealt 75 = .ok (.iload 5, 2) := by decide +kernel
theorem dX9_dealt_77 : decode cX9_dealt 77 = .ok (.iaload, 1) := by decide +kernel
theorem dX9_dealt_78 : decode cX9_dealt 78 = .ok (.istore 7, 2) := by decide +kernel
theorem dX9_dealt_80 : decode cX9_dealt 80 = .ok (.aload_n 0, 1) := by decide +kernel
theorem dX9_dealt_81 : decode cX9_dealt 81 = .ok (.getfield 31, 3) := by decide +kernel
theorem dX9_dealt_84 : decode cX9_dealt 84 = .ok (.iload 5, 2) := by decide +kernel
theorem dX9_dealt_86 : decode cX9_dealt 86 = .ok (.aload_n 0, 1) := by decide +kernel
theorem dX9_dealt_87 : decode cX9_dealt 87 = .ok (.getfield 31, 3) := by decide +kernel
theorem dX9_dealt_90 : decode cX9_dealt 90 = .ok (.iload 6, 2) := by decide +kernel
theorem dX9_dealt_92 : decode cX9_dealt 92 = .ok (.iaload, 1) := by decide +kernel
theorem dX9_dealt_93 : decode cX9_dealt 93 = .ok (.iastore, 1) := by decide +kernel
theorem dX9_dealt_94 : decode cX9_dealt 94 = .ok (.aload_n 0, 1) := by decide +kernel
theorem dX9_dealt_95 : decode cX9_dealt 95 = .ok (.getfield 31, 3) := by decide +kernel
theorem dX9_dealt_98 : decode cX9_dealt 98 = .ok (.iload 6, 2) := by decide +kernel
theorem dX9_dealt_100 : decode cX9_dealt 100 = .ok (.iload 7, 2) := by decide +kernel
theorem dX9_dealt_102 : decode cX9_dealt 102 = .ok (.iastore, 1) := by decide +kernel
theorem dX9_dealt_103 : decode cX9_dealt 103 = .ok (.aload_n 0, 1) := by decide +kernel
theorem dX9_dealt_104 : decode cX9_dealt 104 = .ok (.invokevirtual 236, 3) := by decide +kernel
theorem dX9_dealt_107 : decode cX9_dealt 107 = .ok (.aload_n 0, 1) := by decide +kernel
theorem dX9_dealt_108 : decode cX9_dealt 108 = .ok (.invokevirtual 256, 3) := by decide +kernel
theorem dX9_dealt_111 : decode cX9_dealt 111 = .ok (.iload_n 3, 1) := by decide +kernel
theorem dX9_dealt_112 : decode cX9_dealt 112 = .ok (.if_icmp .lt 20, 3) := by decide +kernel
theorem dX9_dealt_115 : decode cX9_dealt 115 = .ok (.aload_n 0, 1) := by decide +kernel
theorem dX9_dealt_116 : decode cX9_dealt 116 = .ok (.invokevirtual 256, 3) := by decide +kernel
theorem dX9_dealt_119 : decode cX9_dealt 119 = .ok (.iload_n 3, 1) := by decide +kernel
theorem dX9_dealt_120 : decode cX9_dealt 120 = .ok (.if_icmp .ne 32, 3) := by decide +kernel
theorem dX9_dealt_123 : decode cX9_dealt 123 = .ok (.aload_n 0, 1) := by decide +kernel
theorem dX9_dealt_124 : decode cX9_dealt 124 = .ok (.invokevirtual 253, 3) := by decide +kernel
theorem dX9_dealt_127 : decode cX9_dealt 127 = .ok (.iload 4, 2) := by decide +kernel
theorem dX9_dealt_129 : decode cX9_dealt 129 = .ok (.if_icmp .ge 23, 3) := by decide +kernel
theorem dX9_dealt_132 : decode cX9_dealt 132 = .ok (.aload_n 0, 1) := by decide +kernel
theorem dX9_dealt_133 : decode cX9_dealt 133 = .ok (.invokevirtual 256, 3) := by decide +kernel
theorem dX9_dealt_136 : decode cX9_dealt 136 = .ok (.istore_n 3, 1) := by decide +kernel
theorem dX9_dealt_137 : decode cX9_dealt 137 = .ok (.aload_n 0, 1) := by decide +kernel
theorem dX9_dealt_138 : decode cX9_dealt 138 = .ok (.invokevirtual 253, 3) := by decide +kernel
theorem dX9_dealt_141 : decode cX9_dealt 141 = .ok (.istore 4, 2) := by decide +kernel
theorem dX9_dealt_143 : decode cX9_dealt 143 = .ok (.bipush 12, 2) := by decide +kernel
theorem dX9_dealt_145 : decode cX9_dealt 145 = .ok (.iload 5, 2) := by decide +kernel
theorem dX9_dealt_147 : decode cX9_dealt 147 = .ok (.imul, 1) := by decide +kernel
theorem dX9_dealt_148 : decode cX9_dealt 148 = .ok (.iload 6, 2) := by decide +kernel
theorem dX9_dealt_150 : decode cX9_dealt 150 = .ok (.iadd, 1) := by decide +kernel
theorem dX9_dealt_151 : decode cX9_dealt 151 = .ok (.istore_n 2, 1) := by decide +kernel
theorem dX9_dealt_152 : decode cX9_dealt 152 = .ok (.iinc 6 1, 3) := by decide +kernel
theorem dX9_dealt_155 : decode cX9_dealt 155 = .ok (.goto (-100), 3) := by decide +kernel
theorem dX9_dealt_158 : decode cX9_dealt 158 = .ok (.iinc 5 1, 3) := by decide +kernel
theorem dX9_dealt_161 : decode cX9_dealt 161 = .ok (.goto (-119), 3) := by decide +kernel
theorem dX9_dealt_164 : decode cX9_dealt 164 = .ok (.iload_n 1, 1) := by decide +kernel
theorem dX9_dealt_165 : decode cX9_dealt 165 = .ok (.ifCond .ne 7, 3) := by decide +kernel
theorem dX9_dealt_168 : decode cX9_dealt 168 = .ok (.iload_n 3, 1) := by decide +kernel
theorem dX9_dealt_169 : decode cX9_dealt 169 = .ok (.goto 4, 3) := by decide +kernel
theorem dX9_dealt_172 : decode cX9_dealt 172 = .ok (.iload_n 2, 1) := by decide +kernel
theorem dX9_dealt_173 : decode cX9_dealt 173 = .ok (.ireturn, 1) := by decide +kernel
theorem dX9_lines_0 : decode cX9_lines 0 = .ok (.iload_n 1, 1) := by decide +kernel
theorem dX9_lines_1 : decode cX9_lines 1 = .ok (.i2l, 1) := by decide +kernel
theorem dX9_lines_2 : decode cX9_lines 2 = .ok (.ldc2_w 270, 3) := by decide +kernel
theorem dX9_lines_5 : decode cX9_lines 5 = .ok (.ldc2_w 300, 3) := by decide +kernel
theorem dX9_lines_8 : decode cX9_lines 8 = .ok (.invokestatic 98, 3) := by decide +kernel
theorem dX9_lines_11 : decode cX9_lines 11 = .ok (.ifCond .ne 5, 3) := by decide +kernel
theorem dX9_lines_14 : decode cX9_lines 14 = .ok (.iconst (-1), 1) := by decide +kernel
theorem dX9_lines_15 : decode cX9_lines 15 = .ok (.ireturn, 1) := by decide +kernel
theorem dX9_lines_16 : decode cX9_lines 16 = .ok (.aload_n 0, 1) := by decide +kernel
theorem dX9_lines_17 : decode cX9_lines 17 = .ok (.invokevirtual 233, 3) := by decide +kernel
theorem dX9_lines_20 : decode cX9_lines 20 = .ok (.iload_n 1, 1) := by decide +kernel
theorem dX9_lines_21 : decode cX9_lines 21 = .ok (.ifCond .lt 106, 3) := by decide +kernel
theorem dX9_lines_24 : decode cX9_lines 24 = .ok (.iconst 0, 1) := by decide +kernel
theorem dX9_lines_25 : decode cX9_lines 25 = .ok (.istore_n 2, 1) := by decide +kernel
theorem dX9_lines_26 : decode cX9_lines 26 = .ok (.iconst 0, 1) := by decide +kernel
theorem dX9_lines_27 : decode cX9_lines 27 = .ok (.istore_n 3, 1) := by decide +kernel
theorem dX9_lines_28 : decode cX9_lines 28 = .ok (.iload_n 3, 1) := by decide +kernel
theorem dX9_lines_29 : decode cX9_lines 29 = .ok (.bipush 12, 2) := by decide +kernel
theorem dX9_lines_31 : decode cX9_lines 31 = .ok (.if_icmp .ge 94, 3) := by decide +kernel
theorem dX9_lines_34 : decode cX9_lines 34 = .ok (.iconst 0, 1) := by decide +kernel
theorem dX9_lines_35 : decode cX9_lines 35 = .ok (.istore 4, 2) := by decide +kernel
theorem dX9_lines_37 : decode cX9_lines 37 = .ok (.iload 4, 2) := by decide +kernel
theorem dX9_lines_39 : decode cX9_lines 39 = .ok (.iload_n 3, 1) := by decide +kernel
theorem dX9_lines_40 : decode cX9_lines 40 = .ok (.if_icmp .ge 79, 3) := by decide +kernel
theorem dX9_lines_43 : decode cX9_lines 43 = .ok (.iload_n 2, 1) := by decide +kernel
theorem dX9_lines_44 : decode cX9_lines 44 = .ok (.iload_n 3, 1) := by decide +kernel
theorem dX9_lines_45 : decode cX9_lines 45 = .ok (.iload 4, 2) := by decide +kernel
theorem dX9_lines_47 : decode cX9_lines 47 = .ok (.invokestatic 210, 3) := by decide +kernel
theorem dX9_lines_50 : decode cX9_lines 50 = .ok (.ifCond .eq 60, 3) := by decide +kernel
theorem dX9_lines_53 : decode cX9_lines 53 = .ok (.aload_n 0, 1) := by decide +kernel
theorem dX9_lines_54 : decode cX9_lines 54 = .ok (.getfield 31, 3) := by decide +kernel
theorem dX9_lines_57 : decode cX9_lines 57 = .ok (.iload_n 3, 1) := by decide +kernel
theorem dX9_lines_58 : decode cX9_lines 58 = .ok (.iaload, 1) := by decide +kernel
theorem dX9_lines_59 : decode cX9_lines 59 = .ok (.ifCond .lt 51, 3) := by decide +kernel
theorem dX9_lines_62 : decode cX9_lines 62 = .ok (.aload_n 0, 1) := by decide +kernel
theorem dX9_lines_63 : decode cX9_lines 63 = .ok (.getfield 31, 3) := by decide +kernel
theorem dX9_lines_66 : decode cX9_lines 66 = .ok (.iload 4, 2) := by decide +kernel
theorem dX9_lines_68 : decode cX9_lines 68 = .ok (.iaload, 1) := by decide +kernel
theorem dX9_lines_69 : decode cX9_lines 69 = .ok (.ifCond .lt 41, 3) := by decide +kernel
theorem dX9_lines_72 : decode cX9_lines 72 = .ok (.aload_n 0, 1) := by decide +kernel
theorem dX9_lines_73 : decode cX9_lines 73 = .ok (.getfield 9, 3) := by decide +kernel
theorem dX9_lines_76 : decode cX9_lines 76 = .ok (.bipush 10, 2) := by decide +kernel
theorem dX9_lines_78 : decode cX9_lines 78 = .ok (.aload_n 0, 1) := by decide +kernel
theorem dX9_lines_79 : decode cX9_lines 79 = .ok (.getfield 31, 3) := by decide +kernel
theorem dX9_lines_82 : decode cX9_lines 82 = .ok (.iload_n 3, 1) := by decide +kernel
theorem dX9_lines_83 : decode cX9_lines 83 = .ok (.iaload, 1) := by decide +kernel
theorem dX9_lines_84 : decode cX9_lines 84 = .ok (.iadd, 1) := by decide +kernel
theorem dX9_lines_85 : decode cX9_lines 85 = .ok (.iaload, 1) := by decide +kernel
theorem dX9_lines_86 : decode cX9_lines 86 = .ok (.aload_n 0, 1) := by decide +kernel
theorem dX9_lines_87 : decode cX9_lines 87 = .ok (.getfield 9, 3) := by decide +kernel
theorem dX9_lines_90 : decode cX9_lines 90 = .ok (.bipush 10, 2) := by decide +kernel
theorem dX9_lines_92 : decode cX9_lines 92 = .ok (.aload_n 0, 1) := by decide +kernel
theorem dX9_lines_93 : decode cX9_lines 93 = .ok (.getfield 31, 3) := by decide +kernel
theorem dX9_lines_96 : decode cX9_lines 96 = .ok (.iload 4, 2) := by decide +kernel
theorem dX9_lines_98 : decode cX9_lines 98 = .ok (.iaload, 1) := by decide +kernel
theorem dX9_lines_99 : decode cX9_lines 99 = .ok (.iadd, 1) := by decide +kernel
theorem dX9_lines_100 : decode cX9_lines 100 = .ok (.iaload, 1) := by decide +kernel
theorem dX9_lines_101 : decode cX9_lines 101 = .ok (.iadd, 1) := by decide +kernel
theorem dX9_lines_102 : decode cX9_lines 102 = .ok (.iload_n 1, 1) := by decide +kernel
theorem dX9_lines_103 : decode cX9_lines 103 = .ok (.if_icmp .lt 7, 3) := by decide +kernel
theorem dX9_lines_106 : decode cX9_lines 106 = .ok (.iconst 1, 1) := by decide +kernel
theorem dX9_lines_107 : decode cX9_lines 107 = .ok (.goto 4, 3) := by decide +kernel
theorem dX9_lines_110 : decode cX9_lines 110 = .ok (.iconst 0, 1) := by decide +kernel
theorem dX9_lines_111 : decode cX9_lines 111 = .ok (.iadd, 1) := by decide +kernel
theorem dX9_lines_112 : decode cX9_lines 112 = .ok (.istore_n 2, 1) := by decide +kernel
theorem dX9_lines_113 : decode cX9_lines 113 = .ok (.iinc 4 1, 3) := by decide +kernel
theorem dX9_lines_116 : decode cX9_lines 116 = .ok (.goto (-79), 3) := by decide +kernel
theorem dX9_lines_119 : decode cX9_lines 119 = .ok (.iinc 3 1, 3) := by decide +kernel
theorem dX9_lines_122 : decode cX9_lines 122 = .ok (.goto (-94), 3) := by decide +kernel
theorem dX9_lines_125 : decode cX9_lines 125 = .ok (.iload_n 2, 1) := by decide +kernel
theorem dX9_lines_126 : decode cX9_lines 126 = .ok (.ireturn, 1) := by decide +kernel
theorem dX9_lines_127 : decode cX9_lines 127 = .ok (.iconst 0, 1) := by decide +kernel
theorem dX9_lines_128 : decode cX9_lines 128 = .ok (.istore_n 2, 1) := by decide +kernel
theorem dX9_lines_129 : decode cX9_lines 129 = .ok (.iconst 0, 1) := by decide +kernel
theorem dX9_lines_130 : decode cX9_lines 130 = .ok (.istore_n 3, 1) := by decide +kernel
theorem dX9_lines_131 : decode cX9_lines 131 = .ok (.iload_n 3, 1) := by decide +kernel
theorem dX9_lines_132 : decode cX9_lines 132 = .ok (.sipush 4096, 3) := by decide +kernel
theorem dX9_lines_135 : decode cX9_lines 135 = .ok (.if_icmp .ge 141, 3) := by decide +kernel
theorem dX9_lines_138 : decode cX9_lines 138 = .ok (.iload_n 3, 1) := by decide +kernel
theorem dX9_lines_139 : decode cX9_lines 139 = .ok (.invokestatic 229, 3) := by decide +kernel
theorem dX9_lines_142 : decode cX9_lines 142 = .ok (.iload_n 2, 1) := by decide +kernel
theorem dX9_lines_143 : decode cX9_lines 143 = .ok (.invokestatic 229, 3) := by decide +kernel
theorem dX9_lines_146 : decode cX9_lines 146 = .ok (.if_icmp .le 7, 3) := by decide +kernel
theorem dX9_lines_149 : decode cX9_lines 149 = .ok (.iconst 1, 1) := by decide +kernel
theorem dX9_lines_150 : decode cX9_lines 150 = .ok (.goto 4, 3) := by decide +kernel
theorem dX9_lines_153 : decode cX9_lines 153 = .ok (.iconst 0, 1) := by decide +kernel
theorem dX9_lines_154 : decode cX9_lines 154 = .ok (.istore 4, 2) := by decide +kernel
theorem dX9_lines_156 : decode cX9_lines 156 = .ok (.iconst 0, 1) := by decide +kernel
theorem dX9_lines_157 : decode cX9_lines 157 = .ok (.istore 5, 2) := by decide +kernel
theorem dX9_lines_159 : decode cX9_lines 159 = .ok (.iload 5, 2) := by decide +kernel
theorem dX9_lines_161 : decode cX9_lines 161 = .ok (.bipush 12, 2) := by decide +kernel
theorem dX9_lines_163 : decode cX9_lines 163 = .ok (.if_icmp .ge 96, 3) := by decide +kernel
theorem dX9_lines_166 : decode cX9_lines 166 = .ok (.iload 4, 2) := by decide +kernel
theorem dX9_lines_168 : decode cX9_lines 168 = .ok (.ifCond .eq 91, 3) := by decide +kernel
theorem dX9_lines_171 : decode cX9_lines 171 = .ok (.iload_n 3, 1) := by decide +kernel
theorem dX9_lines_172 : decode cX9_lines 172 = .ok (.iload 5, 2) := by decide +kernel
theorem dX9_lines_174 : decode cX9_lines 174 = .ok (.invokestatic 283, 3) := by decide +kernel
theorem dX9_lines_177 : decode cX9_lines 177 = .ok (.ifCond .eq 13, 3) := by decide +kernel
theorem dX9_lines_180 : decode cX9_lines 180 = .ok (.aload_n 0, 1) := by decide +kernel
theorem dX9_lines_181 : decode cX9_lines 181 = .ok (.getfield 31, 3) := by decide +kernel
theorem dX9_lines_184 : decode cX9_lines 184 = .ok (.iload 5, 2) := by decide +kernel
theorem dX9_lines_186 : decode cX9_lines 186 = .ok (.iaload, 1) := by decide +kernel
theorem dX9_lines_187 : decode cX9_lines 187 = .ok (.ifCond .lt 7, 3) := by decide +kernel
theorem dX9_lines_190 : decode cX9_lines 190 = .ok (.iconst 1, 1) := by decide +kernel
theorem dX9_lines_191 : decode cX9_lines 191 = .ok (.goto 4, 3) := by decide +kernel
theorem dX9_lines_194 : decode cX9_lines 194 = .ok (.iconst 0, 1) := by decide +kernel
theorem dX9_lines_195 : decode cX9_lines 195 = .ok (.istore 4, 2) := by decide +kernel
theorem dX9_lines_197 : decode cX9_lines 197 = .ok (.iconst 0, 1) := by decide +kernel
theorem dX9_lines_198 : decode cX9_lines 198 = .ok (.istore 6, 2) := by decide +kernel
theorem dX9_lines_200 : decode cX9_lines 200 = .ok (.iload 6, 2) := by decide +kernel
theorem dX9_lines_202 : decode cX9_lines 202 = .ok (.iload 5, 2) := by decide +kernel
theorem dX9_lines_204 : decode cX9_lines 204 = .ok (.if_icmp .ge 49, 3) := by decide +kernel
theorem dX9_lines_207 : decode cX9_lines 207 = .ok (.iload 4, 2) := by decide +kernel
theorem dX9_lines_209 : decode cX9_lines 209 = .ok (.ifCond .eq 35, 3) := by decide +kernel
theorem dX9_lines_212 : decode cX9_lines 212 = .ok (.iload_n 3, 1) := by decide +kernel
theorem dX9_lines_213 : decode cX9_lines 213 = .ok (.iload 5, 2) := by decide +kernel
theorem dX9_lines_215 : decode cX9_lines 215 = .ok (.invokestatic 283, 3) := by decide +kernel
theorem dX9_lines_218 : decode cX9_lines 218 = .ok (.ifCond .eq 22, 3) := by decide +kernel
theorem dX9_lines_221 : decode cX9_lines 221 = .ok (.iload_n 3, 1) := by decide +kernel
theorem dX9_lines_222 : decode cX9_lines 222 = .ok (.iload 6, 2) := by decide +kernel
theorem dX9_lines_224 : decode cX9_lines 224 = .ok (.invokestatic 283, 3) := by decide +kernel
theorem dX9_lines_227 : decode cX9_lines 227 = .ok (.ifCond .eq 13, 3) := by decide +kernel
theorem dX9_lines_230 : decode cX9_lines 230 = .ok (.iload 5, 2) := by decide +kernel
theorem dX9_lines_232 : decode cX9_lines 232 = .ok (.iload 6, 2) := by decide +kernel
theorem dX9_lines_234 : decode cX9_lines 234 = .ok (.invokestatic 210, 3) := by decide +kernel
theorem dX9_lines_237 : decode cX9_lines 237 = .ok (.ifCond .ne 7, 3) := by decide +kernel
theorem dX9_lines_240 : decode cX9_lines 240 = .ok (.iconst 1, 1) := by decide +kernel
theorem dX9_lines_241 : decode cX9_lines 241 = .ok (.goto 4, 3) := by decide +kernel
theorem dX9_lines_244 : decode cX9_lines 244 = .ok (.iconst 0, 1) := by decide +kernel
theorem dX9_lines_245 : decode cX9_lines 245 = .ok (.istore 4, 2) := by decide +kernel
theorem dX9_lines_247 : decode cX9_lines 247 = .ok (.iinc 6 1, 3) := by decide +kernel
theorem dX9_lines_250 : decode cX9_lines 250 = .ok (.goto (-50), 3) := by decide +kernel
theorem dX9_lines_253 : decode cX9_lines 253 = .ok (.iinc 5 1, 3) := by decide +kernel
theorem dX9_lines_256 : decode cX9_lines 256 = .ok (.goto (-97), 3) := by decide +kernel
theorem dX9_lines_259 : decode cX9_lines 259 = .ok (.iload 4, 2) := by decide +kernel
theorem dX9_lines_261 : decode cX9_lines 261 = .ok (.ifCond .eq 7, 3) := by decide +kernel
theorem dX9_lines_264 : decode cX9_lines 264 = .ok (.iload_n 3, 1) := by decide +kernel
theorem dX9_lines_265 : decode cX9_lines 265 = .ok (.goto 4, 3) := by decide +kernel
theorem dX9_lines_268 : decode cX9_lines 268 = .ok (.iload_n 2, 1) := by decide +kernel
theorem dX9_lines_269 : decode cX9_lines 269 = .ok (.istore_n 2, 1) := by decide +kernel
theorem dX9_lines_270 : decode cX9_lines 270 = .ok (.iinc 3 1, 3) := by decide +kernel
theorem dX9_lines_273 : decode cX9_lines 273 = .ok (.goto (-142), 3) := by decide +kernel
theorem dX9_lines_276 : decode cX9_lines 276 = .ok (.iload_n 1, 1) := by decide +kernel
theorem dX9_lines_277 : decode cX9_lines 277 = .ok (.iconst (-1), 1) := by decide +kernel
theorem dX9_lines_278 : decode cX9_lines 278 = .ok (.if_icmp .ne 10, 3) := by decide +kernel
theorem dX9_lines_281 : decode cX9_lines 281 = .ok (.iload_n 2, 1) := by decide +kernel
theorem dX9_lines_282 : decode cX9_lines 282 = .ok (.invokestatic 229, 3) := by decide +kernel
theorem dX9_lines_285 : decode cX9_lines 285 = .ok (.goto 4, 3) := by decide +kernel
theorem dX9_lines_288 : decode cX9_lines 288 = .ok (.iload_n 2, 1) := by decide +kernel
theorem dX9_lines_289 : decode cX9_lines 289 = .ok (.ireturn, 1) := by decide +kernel
theorem dX9_playsFrom_0 : decode cX9_playsFrom 0 = .ok (.iload_n 1, 1) := by decide +kernel
theorem dX9_playsFrom_1 : decode cX9_playsFrom 1 = .ok (.iload_n 2, 1) := by decide +kernel
theorem dX9_playsFrom_2 : decode cX9_playsFrom 2 = .ok (.if_icmp .ne 81, 3) := by decide +kernel
theorem dX9_playsFrom_5 : decode cX9_playsFrom 5 = .ok (.aload_n 0, 1) := by decide +kernel
theorem dX9_playsFrom_6 : decode cX9_playsFrom 6 = .ok (.invokevirtual 233, 3) := by decide +kernel
theorem dX9_playsFrom_9 : decode cX9_playsFrom 9 = .ok (.iconst 0, 1) := by decide +kernel
theorem dX9_playsFrom_10 : decode cX9_playsFrom 10 = .ok (.istore_n 3, 1) := by decide +kernel
theorem dX9_playsFrom_11 : decode cX9_playsFrom 11 = .ok (.iload_n 3, 1) := by decide +kernel
theorem dX9_playsFrom_12 : decode cX9_playsFrom 12 = .ok (.iload_n 2, 1) := by decide +kernel
theorem dX9_playsFrom_13 : decode cX9_playsFrom 13 = .ok (.if_icmp .ge 65, 3) := by decide +kernel
theorem dX9_playsFrom_16 : decode cX9_playsFrom 16 = .ok (.aload_n 0, 1) := by decide +kernel
theorem dX9_playsFrom_17 : decode cX9_playsFrom 17 = .ok (.getfield 43, 3) := by decide +kernel
theorem dX9_playsFrom_20 : decode cX9_playsFrom 20 = .ok (.iload_n 3, 1) := by decide +kernel
theorem dX9_playsFrom_21 : decode cX9_playsFrom 21 = .ok (.iaload, 1) := by decide +kernel
theorem dX9_playsFrom_22 : decode cX9_playsFrom 22 = .ok (.bipush 12, 2) := by decide +kernel
theorem dX9_playsFrom_24 : decode cX9_playsFrom 24 = .ok (.if_icmp .ge 20, 3) := by decide +kernel
theorem dX9_playsFrom_27 : decode cX9_playsFrom 27 = .ok (.iload_n 3, 1) := by decide +kernel
theorem dX9_playsFrom_28 : decode cX9_playsFrom 28 = .ok (.iconst 2, 1) := by decide +kernel
theorem dX9_playsFrom_29 : decode cX9_playsFrom 29 = .ok (.irem, 1) := by decide +kernel
theorem dX9_playsFrom_30 : decode cX9_playsFrom 30 = .ok (.ifCond .ne 14, 3) := by decide +kernel
theorem dX9_playsFrom_33 : decode cX9_playsFrom 33 = .ok (.aload_n 0, 1) := by decide +kernel
theorem dX9_playsFrom_34 : decode cX9_playsFrom 34 = .ok (.aload_n 0, 1) := by decide +kernel
theorem dX9_playsFrom_35 : decode cX9_playsFrom 35 = .ok (.getfield 43, 3) := by decide +kernel
theorem dX9_playsFrom_38 : decode cX9_playsFrom 38 = .ok (.iload_n 3, 1) := by decide +kernel
theorem dX9_playsFrom_39 : decode cX9_playsFrom 39 = .ok (.iaload, 1) := by decide +kernel
theorem dX9_playsFrom_40 : decode cX9_playsFrom 40 = .ok (.iconst 4, 1) := by decide +kernel
theorem dX9_playsFrom_41 : decode cX9_playsFrom 41 = .ok (.invokevirtual 273, 3) := by decide +kernel
theorem dX9_playsFrom_44 : decode cX9_playsFrom 44 = .ok (.aload_n 0, 1) := by decide +kernel
theorem dX9_playsFrom_45 : decode cX9_playsFrom 45 = .ok (.getfield 43, 3) := by decide +kernel
theorem dX9_playsFrom_48 : decode cX9_playsFrom 48 = .ok (.iload_n 3, 1) := by decide +kernel
theorem dX9_playsFrom_49 : decode cX9_playsFrom 49 = .ok (.iaload, 1) := by decide +kernel
theorem dX9_playsFrom_50 : decode cX9_playsFrom 50 = .ok (.bipush 12, 2) := by decide +kernel
theorem dX9_playsFrom_52 : decode cX9_playsFrom 52 = .ok (.if_icmp .ge 20, 3) := by decide +kernel
theorem dX9_playsFrom_55 : decode cX9_playsFrom 55 = .ok (.iload_n 3, 1) := by decide +kernel
theorem dX9_playsFrom_56 : decode cX9_playsFrom 56 = .ok (.iconst 2, 1) := by decide +kernel
theorem dX9_playsFrom_57 : decode cX9_playsFrom 57 = .ok (.irem, 1) := by decide +kernel
theorem dX9_playsFrom_58 : decode cX9_playsFrom 58 = .ok (.iconst 1, 1) := by decide +kernel
theorem dX9_playsFrom_59 : decode cX9_playsFrom 59 = .ok (.if_icmp .ne 13, 3) := by decide +kernel
theorem dX9_playsFrom_62 : decode cX9_playsFrom 62 = .ok (.aload_n 0, 1) := by decide +kernel
theorem dX9_playsFrom_63 : decode cX9_playsFrom 63 = .ok (.aload_n 0, 1) := by decide +kernel
theorem dX9_playsFrom_64 : decode cX9_playsFrom 64 = .ok (.getfield 43, 3) := by decide +kernel
theorem dX9_playsFrom_67 : decode cX9_playsFrom 67 = .ok (.iload_n 3, 1) := by decide +kernel
theorem dX9_playsFrom_68 : decode cX9_playsFrom 68 = .ok (.iaload, 1) := by decide +kernel
theorem dX9_playsFrom_69 : decode cX9_playsFrom 69 = .ok (.invokevirtual 276, 3) := by decide +kernel
theorem dX9_playsFrom_72 : decode cX9_playsFrom 72 = .ok (.iinc 3 1, 3) := by decide +kernel
theorem dX9_playsFrom_75 : decode cX9_playsFrom 75 = .ok (.goto (-64), 3) := by decide +kernel
theorem dX9_playsFrom_78 : decode cX9_playsFrom 78 = .ok (.aload_n 0, 1) := by decide +kernel
theorem dX9_playsFrom_79 : decode cX9_playsFrom 79 = .ok (.invokevirtual 256, 3) := by decide +kernel
theorem dX9_playsFrom_82 : decode cX9_playsFrom 82 = .ok (.ireturn, 1) := by decide +kernel
theorem dX9_playsFrom_83 : decode cX9_playsFrom 83 = .ok (.aload_n 0, 1) := by decide +kernel
theorem dX9_playsFrom_84 : decode cX9_playsFrom 84 = .ok (.getfield 43, 3) := by decide +kernel
theorem dX9_playsFrom_87 : decode cX9_playsFrom 87 = .ok (.iload_n 1, 1) := by decide +kernel
theorem dX9_playsFrom_88 : decode cX9_playsFrom 88 = .ok (.bipush 12, 2) := by decide +kernel
theorem dX9_playsFrom_90 : decode cX9_playsFrom 90 = .ok (.iastore, 1) := by decide +kernel
theorem dX9_playsFrom_91 : decode cX9_playsFrom 91 = .ok (.aload_n 0, 1) := by decide +kernel
theorem dX9_playsFrom_92 : decode cX9_playsFrom 92 = .ok (.iload_n 1, 1) := by decide +kernel
theorem dX9_playsFrom_93 : decode cX9_playsFrom 93 = .ok (.iconst 1, 1) := by decide +kernel
theorem dX9_playsFrom_94 : decode cX9_playsFrom 94 = .ok (.iadd, 1) := by decide +kernel
theorem dX9_playsFrom_95 : decode cX9_playsFrom 95 = .ok (.iload_n 2, 1) := by decide +kernel
theorem dX9_playsFrom_96 : decode cX9_playsFrom 96 = .ok (.invokevirtual 302, 3) := by decide +kernel
theorem dX9_playsFrom_99 : decode cX9_playsFrom 99 = .ok (.istore_n 3, 1) := by decide +kernel
theorem dX9_playsFrom_100 : decode cX9_playsFrom 100 = .ok (.iconst 0, 1) := by decide +kernel
theorem dX9_playsFrom_101 : decode cX9_playsFrom 101 = .ok (.istore 4, 2) := by decide +kernel
theorem dX9_playsFrom_103 : decode cX9_playsFrom 103 = .ok (.iload 4, 2) := by decide +kernel
theorem dX9_playsFrom_105 : decode cX9_playsFrom 105 = .ok (.bipush 6, 2) := by decide +kernel
theorem dX9_playsFrom_107 : decode cX9_playsFrom 107 = .ok (.if_icmp .ge 75, 3) := by decide +kernel
theorem dX9_playsFrom_110 : decode cX9_playsFrom 110 = .ok (.aload_n 0, 1) := by decide +kernel
theorem dX9_playsFrom_111 : decode cX9_playsFrom 111 = .ok (.getfield 43, 3) := by decide +kernel
theorem dX9_playsFrom_114 : decode cX9_playsFrom 114 = .ok (.iload_n 1, 1) := by decide +kernel
theorem dX9_playsFrom_115 : decode cX9_playsFrom 115 = .ok (.iload_n 1, 1) := by decide +kernel
theorem dX9_playsFrom_116 : decode cX9_playsFrom 116 = .ok (.iconst 2, 1) := by decide +kernel
theorem dX9_playsFrom_117 : decode cX9_playsFrom 117 = .ok (.irem, 1) := by decide +kernel
theorem dX9_playsFrom_118 : decode cX9_playsFrom 118 = .ok (.ifCond .ne 8, 3) := by decide +kernel
theorem dX9_playsFrom_121 : decode cX9_playsFrom 121 = .ok (.iload 4, 2) := by decide +kernel
theorem dX9_playsFrom_123 : decode cX9_playsFrom 123 = .ok (.goto 8, 3) := by decide +kernel
theorem dX9_playsFrom_126 : decode cX9_playsFrom 126 = .ok (.bipush 6, 2) := by decide +kernel
theorem dX9_playsFrom_128 : decode cX9_playsFrom 128 = .ok (.iload 4, 2) := by decide +kernel
theorem dX9_playsFrom_130 : decode cX9_playsFrom 130 = .ok (.iadd, 1) := by decide +kernel
theorem dX9_playsFrom_131 : decode cX9_playsFrom 131 = .ok (.iastore, 1) := by decide +kernel
theorem dX9_playsFrom_132 : decode cX9_playsFrom 132 = .ok (.aload_n 0, 1) := by decide +kernel
theorem dX9_playsFrom_133 : decode cX9_playsFrom 133 = .ok (.iload_n 1, 1) := by decide +kernel
theorem dX9_playsFrom_134 : decode cX9_playsFrom 134 = .ok (.iconst 1, 1) := by decide +kernel
theorem dX9_playsFrom_135 : decode cX9_playsFrom 135 = .ok (.iadd, 1) := by decide +kernel
theorem dX9_playsFrom_136 : decode cX9_playsFrom 136 = .ok (.iload_n 2, 1) := by decide +kernel
theorem dX9_playsFrom_137 : decode cX9_playsFrom 137 = .ok (.invokevirtual 302, 3) := by decide +kernel
theorem dX9_playsFrom_140 : decode cX9_playsFrom 140 = .ok (.istore 5, 2) := by decide +kernel
theorem dX9_playsFrom_142 : decode cX9_playsFrom 142 = .ok (.iload_n 1, 1) := by decide +kernel
theorem dX9_playsFrom_143 : decode cX9_playsFrom 143 = .ok (.iconst 2, 1) := by decide +kernel
theorem dX9_playsFrom_144 : decode cX9_playsFrom 144 = .ok (.irem, 1) := by decide +kernel
theorem dX9_playsFrom_145 : decode cX9_playsFrom 145 = .ok (.ifCond .ne 18, 3) := by decide +kernel
theorem dX9_playsFrom_148 : decode cX9_playsFrom 148 = .ok (.iload 5, 2) := by decide +kernel
theorem dX9_playsFrom_150 : decode cX9_playsFrom 150 = .ok (.iload_n 3, 1) := by decide +kernel
theorem dX9_playsFrom_151 : decode cX9_playsFrom 151 = .ok (.if_icmp .ge 8, 3) := by decide +kernel
theorem dX9_playsFrom_154 : decode cX9_playsFrom 154 = .ok (.iload 5, 2) := by decide +kernel
theorem dX9_playsFrom_156 : decode cX9_playsFrom 156 = .ok (.goto 19, 3) := by decide +kernel
theorem dX9_playsFrom_159 : decode cX9_playsFrom 159 = .ok (.iload_n 3, 1) := by decide +kernel
theorem dX9_playsFrom_160 : decode cX9_playsFrom 160 = .ok (.goto 15, 3) := by decide +kernel
theorem dX9_playsFrom_163 : decode cX9_playsFrom 163 = .ok (.iload 5, 2) := by decide +kernel
theorem dX9_playsFrom_165 : decode cX9_playsFrom 165 = .ok (.iload_n 3, 1) := by decide +kernel
theorem dX9_playsFrom_166 : decode cX9_playsFrom 166 = .ok (.if_icmp .le 8, 3) := by decide +kernel
theorem dX9_playsFrom_169 : decode cX9_playsFrom 169 = .ok (.iload 5, 2) := by decide +kernel
theorem dX9_playsFrom_171 : decode cX9_playsFrom 171 = .ok (.goto 4, 3) := by decide +kernel
theorem dX9_playsFrom_174 : decode cX9_playsFrom 174 = .ok (.iload_n 3, 1) := by decide +kernel
theorem dX9_playsFrom_175 : decode cX9_playsFrom 175 = .ok (.istore_n 3, 1) := by decide +kernel
theorem dX9_playsFrom_176 : decode cX9_playsFrom 176 = .ok (.iinc 4 1, 3) := by decide +kernel
theorem dX9_playsFrom_179 : decode cX9_playsFrom 179 = .ok (.goto (-76), 3) := by decide +kernel
theorem dX9_playsFrom_182 : decode cX9_playsFrom 182 = .ok (.iload_n 3, 1) := by decide +kernel
theorem dX9_playsFrom_183 : decode cX9_playsFrom 183 = .ok (.ireturn, 1) := by decide +kernel
theorem dX9_byTurns_0 : decode cX9_byTurns 0 = .ok (.iload_n 1, 1) := by decide +kernel
theorem dX9_byTurns_1 : decode cX9_byTurns 1 = .ok (.i2l, 1) := by decide +kernel
theorem dX9_byTurns_2 : decode cX9_byTurns 2 = .ok (.lconst 1, 1) := by decide +kernel
theorem dX9_byTurns_3 : decode cX9_byTurns 3 = .ok (.ldc2_w 125, 3) := by decide +kernel
theorem dX9_byTurns_6 : decode cX9_byTurns 6 = .ok (.invokestatic 98, 3) := by decide +kernel
theorem dX9_byTurns_9 : decode cX9_byTurns 9 = .ok (.ifCond .eq 13, 3) := by decide +kernel
theorem dX9_byTurns_12 : decode cX9_byTurns 12 = .ok (.iload_n 2, 1) := by decide +kernel
theorem dX9_byTurns_13 : decode cX9_byTurns 13 = .ok (.i2l, 1) := by decide +kernel
theorem dX9_byTurns_14 : decode cX9_byTurns 14 = .ok (.lconst 0, 1) := by decide +kernel
theorem dX9_byTurns_15 : decode cX9_byTurns 15 = .ok (.lconst 1, 1) := by decide +kernel
theorem dX9_byTurns_16 : decode cX9_byTurns 16 = .ok (.invokestatic 98, 3) := by decide +kernel
theorem dX9_byTurns_19 : decode cX9_byTurns 19 = .ok (.ifCond .ne 5, 3) := by decide +kernel
theorem dX9_byTurns_22 : decode cX9_byTurns 22 = .ok (.iconst (-1), 1) := by decide +kernel
theorem dX9_byTurns_23 : decode cX9_byTurns 23 = .ok (.ireturn, 1) := by decide +kernel
theorem dX9_byTurns_24 : decode cX9_byTurns 24 = .ok (.aload_n 0, 1) := by decide +kernel
theorem dX9_byTurns_25 : decode cX9_byTurns 25 = .ok (.iconst 0, 1) := by decide +kernel
theorem dX9_byTurns_26 : decode cX9_byTurns 26 = .ok (.iload_n 1, 1) := by decide +kernel
theorem dX9_byTurns_27 : decode cX9_byTurns 27 = .ok (.invokevirtual 302, 3) := by decide +kernel
theorem dX9_byTurns_30 : decode cX9_byTurns 30 = .ok (.istore_n 3, 1) := by decide +kernel
theorem dX9_byTurns_31 : decode cX9_byTurns 31 = .ok (.iload_n 2, 1) := by decide +kernel
theorem dX9_byTurns_32 : decode cX9_byTurns 32 = .ok (.ifCond .ne 5, 3) := by decide +kernel
theorem dX9_byTurns_35 : decode cX9_byTurns 35 = .ok (.iload_n 3, 1) := by decide +kernel
theorem dX9_byTurns_36 : decode cX9_byTurns 36 = .ok (.ireturn, 1) := by decide +kernel
theorem dX9_byTurns_37 : decode cX9_byTurns 37 = .ok (.iconst (-1), 1) := by decide +kernel
theorem dX9_byTurns_38 : decode cX9_byTurns 38 = .ok (.istore 4, 2) := by decide +kernel
theorem dX9_byTurns_40 : decode cX9_byTurns 40 = .ok (.iconst 0, 1) := by decide +kernel
theorem dX9_byTurns_41 : decode cX9_byTurns 41 = .ok (.istore 5, 2) := by decide +kernel
theorem dX9_byTurns_43 : decode cX9_byTurns 43 = .ok (.iload 5, 2) := by decide +kernel
theorem dX9_byTurns_45 : decode cX9_byTurns 45 = .ok (.bipush 6, 2) := by decide +kernel
theorem dX9_byTurns_47 : decode cX9_byTurns 47 = .ok (.if_icmp .gt 64, 3) := by decide +kernel
theorem dX9_byTurns_50 : decode cX9_byTurns 50 = .ok (.iload 4, 2) := by decide +kernel
theorem dX9_byTurns_52 : decode cX9_byTurns 52 = .ok (.ifCond .ge 59, 3) := by decide +kernel
theorem dX9_byTurns_55 : decode cX9_byTurns 55 = .ok (.aload_n 0, 1) := by decide +kernel
theorem dX9_byTurns_56 : decode cX9_byTurns 56 = .ok (.getfield 43, 3) := by decide +kernel
theorem dX9_byTurns_59 : decode cX9_byTurns 59 = .ok (.iconst 0, 1) := by decide +kernel
theorem dX9_byTurns_60 : decode cX9_byTurns 60 = .ok (.iload 5, 2) := by decide +kernel
theorem dX9_byTurns_62 : decode cX9_byTurns 62 = .ok (.ifCond .ne 8, 3) := by decide +kernel
theorem dX9_byTurns_65 : decode cX9_byTurns 65 = .ok (.bipush 12, 2) := by decide +kernel
theorem dX9_byTurns_67 : decode cX9_byTurns 67 = .ok (.goto 7, 3) := by decide +kernel
theorem dX9_byTurns_70 : decode cX9_byTurns 70 = .ok (.iload 5, 2) := by decide +kernel
theorem dX9_byTurns_72 : decode cX9_byTurns 72 = .ok (.iconst 1, 1) := by decide +kernel
theorem dX9_byTurns_73 : decode cX9_byTurns 73 = .ok (.isub, 1) := by decide +kernel
theorem dX9_byTurns_74 : decode cX9_byTurns 74 = .ok (.iastore, 1) := by decide +kernel
theorem dX9_byTurns_75 : decode cX9_byTurns 75 = .ok (.aload_n 0, 1) := by decide +kernel
theorem dX9_byTurns_76 : decode cX9_byTurns 76 = .ok (.iconst 1, 1) := by decide +kernel
theorem dX9_byTurns_77 : decode cX9_byTurns 77 = .ok (.iload_n 1, 1) := by decide +kernel
theorem dX9_byTurns_78 : decode cX9_byTurns 78 = .ok (.invokevirtual 302, 3) := by decide +kernel
theorem dX9_byTurns_81 : decode cX9_byTurns 81 = .ok (.iload_n 3, 1) := by decide +kernel
theorem dX9_byTurns_82 : decode cX9_byTurns 82 = .ok (.if_icmp .ne 20, 3) := by decide +kernel
theorem dX9_byTurns_85 : decode cX9_byTurns 85 = .ok (.iload 5, 2) := by decide +kernel
theorem dX9_byTurns_87 : decode cX9_byTurns 87 = .ok (.ifCond .ne 8, 3) := by decide +kernel
theorem dX9_byTurns_90 : decode cX9_byTurns 90 = .ok (.bipush 12, 2) := by decide +kernel
theorem dX9_byTurns_92 : decode cX9_byTurns 92 = .ok (.goto 11, 3) := by decide +kernel
theorem dX9_byTurns_95 : decode cX9_byTurns 95 = .ok (.iload 5, 2) := by decide +kernel
theorem dX9_byTurns_97 : decode cX9_byTurns 97 = .ok (.iconst 1, 1) := by decide +kernel
theorem dX9_byTurns_98 : decode cX9_byTurns 98 = .ok (.isub, 1) := by decide +kernel
theorem dX9_byTurns_99 : decode cX9_byTurns 99 = .ok (.goto 4, 3) := by decide +kernel
theorem dX9_byTurns_102 : decode cX9_byTurns 102 = .ok (.iconst (-1), 1) := by decide +kernel
theorem dX9_byTurns_103 : decode cX9_byTurns 103 = .ok (.istore 4, 2) := by decide +kernel
theorem dX9_byTurns_105 : decode cX9_byTurns 105 = .ok (.iinc 5 1, 3) := by decide +kernel
theorem dX9_byTurns_108 : decode cX9_byTurns 108 = .ok (.goto (-65), 3) := by decide +kernel
theorem dX9_byTurns_111 : decode cX9_byTurns 111 = .ok (.iload 4, 2) := by decide +kernel
theorem dX9_byTurns_113 : decode cX9_byTurns 113 = .ok (.ireturn, 1) := by decide +kernel
theorem dX9_drawn_0 : decode cX9_drawn 0 = .ok (.iload_n 2, 1) := by decide +kernel
theorem dX9_drawn_1 : decode cX9_drawn 1 = .ok (.ifCond .lt 66, 3) := by decide +kernel
theorem dX9_drawn_4 : decode cX9_drawn 4 = .ok (.iload_n 2, 1) := by decide +kernel
theorem dX9_drawn_5 : decode cX9_drawn 5 = .ok (.sipush 10000, 3) := by decide +kernel
theorem dX9_drawn_8 : decode cX9_drawn 8 = .ok (.idiv, 1) := by decide +kernel
theorem dX9_drawn_9 : decode cX9_drawn 9 = .ok (.i2l, 1) := by decide +kernel
theorem dX9_drawn_10 : decode cX9_drawn 10 = .ok (.lconst 1, 1) := by decide +kernel
theorem dX9_drawn_11 : decode cX9_drawn 11 = .ok (.ldc2_w 305, 3) := by decide +kernel
theorem dX9_drawn_14 : decode cX9_drawn 14 = .ok (.invokestatic 98, 3) := by decide +kernel
theorem dX9_drawn_17 : decode cX9_drawn 17 = .ok (.ifCond .eq 50, 3) := by decide +kernel
theorem dX9_drawn_20 : decode cX9_drawn 20 = .ok (.iload_n 2, 1) := by decide +kernel
theorem dX9_drawn_21 : decode cX9_drawn 21 = .ok (.bipush 100, 2) := by decide +kernel
theorem dX9_drawn_23 : decode cX9_drawn 23 = .ok (.idiv, 1) := by decide +kernel
theorem dX9_drawn_24 : decode cX9_drawn 24 = .ok (.bipush 100, 2) := by decide +kernel
theorem dX9_drawn_26 : decode cX9_drawn 26 = .ok (.irem, 1) := by decide +kernel
theorem dX9_drawn_27 : decode cX9_drawn 27 = .ok (.i2l, 1) := by decide +kernel
theorem dX9_drawn_28 : decode cX9_drawn 28 = .ok (.lconst 1, 1) := by decide +kernel
theorem dX9_drawn_29 : decode cX9_drawn 29 = .ok (.ldc2_w 248, 3) := by decide +kernel
theorem dX9_drawn_32 : decode cX9_drawn 32 = .ok (.invokestatic 98, 3) := by decide +kernel
theorem dX9_drawn_35 : decode cX9_drawn 35 = .ok (.ifCond .eq 32, 3) := by decide +kernel
theorem dX9_drawn_38 : decode cX9_drawn 38 = .ok (.iload_n 2, 1) := by decide +kernel
theorem dX9_drawn_39 : decode cX9_drawn 39 = .ok (.bipush 100, 2) := by decide +kernel
theorem dX9_drawn_41 : decode cX9_drawn 41 = .ok (.irem, 1) := by decide +kernel
theorem dX9_drawn_42 : decode cX9_drawn 42 = .ok (.i2l, 1) := by decide +kernel
theorem dX9_drawn_43 : decode cX9_drawn 43 = .ok (.lconst 0, 1) := by decide +kernel
theorem dX9_drawn_44 : decode cX9_drawn 44 = .ok (.ldc2_w 307, 3) := by decide +kernel
theorem dX9_drawn_47 : decode cX9_drawn 47 = .ok (.invokestatic 98, 3) := by decide +kernel
theorem dX9_drawn_50 : decode cX9_drawn 50 = .ok (.ifCond .eq 17, 3) := by decide +kernel
theorem dX9_drawn_53 : decode cX9_drawn 53 = .ok (.iload_n 3, 1) := by decide +kernel
theorem dX9_drawn_54 : decode cX9_drawn 54 = .ok (.iconst (-1), 1) := by decide +kernel
theorem dX9_drawn_55 : decode cX9_drawn 55 = .ok (.if_icmp .eq 14, 3) := by decide +kernel
theorem dX9_drawn_58 : decode cX9_drawn 58 = .ok (.aload_n 0, 1) := by decide +kernel
theorem dX9_drawn_59 : decode cX9_drawn 59 = .ok (.iload_n 3, 1) := by decide +kernel
theorem dX9_drawn_60 : decode cX9_drawn 60 = .ok (.i2l, 1) := by decide +kernel
theorem dX9_drawn_61 : decode cX9_drawn 61 = .ok (.invokevirtual 127, 3) := by decide +kernel
theorem dX9_drawn_64 : decode cX9_drawn 64 = .ok (.ifCond .ne 5, 3) := by decide +kernel
theorem dX9_drawn_67 : decode cX9_drawn 67 = .ok (.iconst (-1), 1) := by decide +kernel
theorem dX9_drawn_68 : decode cX9_drawn 68 = .ok (.ireturn, 1) := by decide +kernel
theorem dX9_drawn_69 : decode cX9_drawn 69 = .ok (.iload_n 1, 1) := by decide +kernel
theorem dX9_drawn_70 : decode cX9_drawn 70 = .ok (.istore 4, 2) := by decide +kernel
theorem dX9_drawn_72 : decode cX9_drawn 72 = .ok (.iconst 0, 1) := by decide +kernel
theorem dX9_drawn_73 : decode cX9_drawn 73 = .ok (.istore 5, 2) := by decide +kernel
theorem dX9_drawn_75 : decode cX9_drawn 75 = .ok (.iconst 0, 1) := by decide +kernel
theorem dX9_drawn_76 : decode cX9_drawn 76 = .ok (.istore 6, 2) := by decide +kernel
theorem dX9_drawn_78 : decode cX9_drawn 78 = .ok (.iload 6, 2) := by decide +kernel
theorem dX9_drawn_80 : decode cX9_drawn 80 = .ok (.iload_n 2, 1) := by decide +kernel
theorem dX9_drawn_81 : decode cX9_drawn 81 = .ok (.sipush 10000, 3) := by decide +kernel
theorem dX9_drawn_84 : decode cX9_drawn 84 = .ok (.idiv, 1) := by decide +kernel
theorem dX9_drawn_85 : decode cX9_drawn 85 = .ok (.if_icmp .ge 111, 3) := by decide +kernel
theorem dX9_drawn_88 : decode cX9_drawn 88 = .ok (.aload_n 0, 1) := by decide +kernel
theorem dX9_drawn_89 : decode cX9_drawn 89 = .ok (.invokevirtual 233, 3) := by decide +kernel
theorem dX9_drawn_92 : decode cX9_drawn 92 = .ok (.iconst 0, 1) := by decide +kernel
theorem dX9_drawn_93 : decode cX9_drawn 93 = .ok (.istore 7, 2) := by decide +kernel
theorem dX9_drawn_95 : decode cX9_drawn 95 = .ok (.iload 7, 2) := by decide +kernel
theorem dX9_drawn_97 : decode cX9_drawn 97 = .ok (.iload_n 2, 1) := by decide +kernel
theorem dX9_drawn_98 : decode cX9_drawn 98 = .ok (.bipush 100, 2) := by decide +kernel
theorem dX9_drawn_100 : decode cX9_drawn 100 = .ok (.idiv, 1) := by decide +kernel
theorem dX9_drawn_101 : decode cX9_drawn 101 = .ok (.bipush 100, 2) := by decide +kernel
theorem dX9_drawn_103 : decode cX9_drawn 103 = .ok (.irem, 1) := by decide +kernel
theorem dX9_drawn_104 : decode cX9_drawn 104 = .ok (.if_icmp .ge 64, 3) := by decide +kernel
theorem dX9_drawn_107 : decode cX9_drawn 107 = .ok (.iload 4, 2) := by decide +kernel
theorem dX9_drawn_109 : decode cX9_drawn 109 = .ok (.ldc_w 309, 3) := by decide +kernel
theorem dX9_drawn_112 : decode cX9_drawn 112 = .ok (.imul, 1) := by decide +kernel
theorem dX9_drawn_113 : decode cX9_drawn 113 = .ok (.sipush 12345, 3) := by decide +kernel
theorem dX9_drawn_116 : decode cX9_drawn 116 = .ok (.iadd, 1) := by decide +kernel
theorem dX9_drawn_117 : decode cX9_drawn 117 = .ok (.istore 4, 2) := by decide +kernel
theorem dX9_drawn_119 : decode cX9_drawn 119 = .ok (.aload_n 0, 1) := by decide +kernel
theorem dX9_drawn_120 : decode cX9_drawn 120 = .ok (.iload 4, 2) := by decide +kernel
theorem dX9_drawn_122 : decode cX9_drawn 122 = .ok (.bipush 8, 2) := by decide +kernel
theorem dX9_drawn_124 : decode cX9_drawn 124 = .ok (.iushr, 1) := by decide +kernel
theorem dX9_drawn_125 : decode cX9_drawn 125 = .ok (.bipush 12, 2) := by decide +kernel
theorem dX9_drawn_127 : decode cX9_drawn 127 = .ok (.irem, 1) := by decide +kernel
theorem dX9_drawn_128 : decode cX9_drawn 128 = .ok (.putfield 204, 3) := by decide +kernel
theorem dX9_drawn_131 : decode cX9_drawn 131 = .ok (.iload 4, 2) := by decide +kernel
theorem dX9_drawn_133 : decode cX9_drawn 133 = .ok (.bipush 20, 2) := by decide +kernel
theorem dX9_drawn_135 : decode cX9_drawn 135 = .ok (.iushr, 1) := by decide +kernel
theorem dX9_drawn_136 : decode cX9_drawn 136 = .ok (.bipush 12, 2) := by decide +kernel
theorem dX9_drawn_138 : decode cX9_drawn 138 = .ok (.irem, 1) := by decide +kernel
theorem dX9_drawn_139 : decode cX9_drawn 139 = .ok (.iload_n 2, 1) := by decide +kernel
theorem dX9_drawn_140 : decode cX9_drawn 140 = .ok (.bipush 100, 2) := by decide +kernel
theorem dX9_drawn_142 : decode cX9_drawn 142 = .ok (.irem, 1) := by decide +kernel
theorem dX9_drawn_143 : decode cX9_drawn 143 = .ok (.if_icmp .ge 15, 3) := by decide +kernel
theorem dX9_drawn_146 : decode cX9_drawn 146 = .ok (.aload_n 0, 1) := by decide +kernel
theorem dX9_drawn_147 : decode cX9_drawn 147 = .ok (.iload 4, 2) := by decide +kernel
theorem dX9_drawn_149 : decode cX9_drawn 149 = .ok (.bipush 16, 2) := by decide +kernel
theorem dX9_drawn_151 : decode cX9_drawn 151 = .ok (.iushr, 1) := by decide +kernel
theorem dX9_drawn_152 : decode cX9_drawn 152 = .ok (.bipush 12, 2) := by decide +kernel
theorem dX9_drawn_154 : decode cX9_drawn 154 = .ok (.irem, 1) := by decide +kernel
theorem dX9_drawn_155 : decode cX9_drawn 155 = .ok (.invokevirtual 276, 3) := by decide +kernel
theorem dX9_drawn_158 : decode cX9_drawn 158 = .ok (.aload_n 0, 1) := by decide +kernel
theorem dX9_drawn_159 : decode cX9_drawn 159 = .ok (.invokevirtual 236, 3) := by decide +kernel
theorem dX9_drawn_162 : decode cX9_drawn 162 = .ok (.iinc 7 1, 3) := by decide +kernel
theorem dX9_drawn_165 : decode cX9_drawn 165 = .ok (.goto (-70), 3) := by decide +kernel
theorem dX9_drawn_168 : decode cX9_drawn 168 = .ok (.iload 5, 2) := by decide +kernel
theorem dX9_drawn_170 : decode cX9_drawn 170 = .ok (.iload_n 3, 1) := by decide +kernel
theorem dX9_drawn_171 : decode cX9_drawn 171 = .ok (.ifCond .ge 10, 3) := by decide +kernel
theorem dX9_drawn_174 : decode cX9_drawn 174 = .ok (.aload_n 0, 1) := by decide +kernel
theorem dX9_drawn_175 : decode cX9_drawn 175 = .ok (.invokevirtual 256, 3) := by decide +kernel
theorem dX9_drawn_178 : decode cX9_drawn 178 = .ok (.goto 9, 3) := by decide +kernel
theorem dX9_drawn_181 : decode cX9_drawn 181 = .ok (.aload_n 0, 1) := by decide +kernel
theorem dX9_drawn_182 : decode cX9_drawn 182 = .ok (.getfield 34, 3) := by decide +kernel
theorem dX9_drawn_185 : decode cX9_drawn 185 = .ok (.iload_n 3, 1) := by decide +kernel
theorem dX9_drawn_186 : decode cX9_drawn 186 = .ok (.iaload, 1) := by decide +kernel
theorem dX9_drawn_187 : decode cX9_drawn 187 = .ok (.iadd, 1) := by decide +kernel
theorem dX9_drawn_188 : decode cX9_drawn 188 = .ok (.istore 5, 2) := by decide +kernel
theorem dX9_drawn_190 : decode cX9_drawn 190 = .ok (.iinc 6 1, 3) := by decide +kernel
theorem dX9_drawn_193 : decode cX9_drawn 193 = .ok (.goto (-115), 3) := by decide +kernel
theorem dX9_drawn_196 : decode cX9_drawn 196 = .ok (.iload 5, 2) := by decide +kernel
theorem dX9_drawn_198 : decode cX9_drawn 198 = .ok (.ireturn, 1) := by decide +kernel
theorem dX9_keepsMind_0 : decode cX9_keepsMind 0 = .ok (.iconst 0, 1) := by decide +kernel
theorem dX9_keepsMind_1 : decode cX9_keepsMind 1 = .ok (.istore_n 1, 1) := by decide +kernel
theorem dX9_keepsMind_2 : decode cX9_keepsMind 2 = .ok (.iload_n 1, 1) := by decide +kernel
theorem dX9_keepsMind_3 : decode cX9_keepsMind 3 = .ok (.aload_n 0, 1) := by decide +kernel
theorem dX9_keepsMind_4 : decode cX9_keepsMind 4 = .ok (.getfield 95, 3) := by decide +kernel
theorem dX9_keepsMind_7 : decode cX9_keepsMind 7 = .ok (.if_icmp .ge 24, 3) := by decide +kernel
theorem dX9_keepsMind_10 : decode cX9_keepsMind 10 = .ok (.aload_n 0, 1) := by decide +kernel
theorem dX9_keepsMind_11 : decode cX9_keepsMind 11 = .ok (.getfield 9, 3) := by decide +kernel
theorem dX9_keepsMind_14 : decode cX9_keepsMind 14 = .ok (.bipush 30, 2) := by decide +kernel
theorem dX9_keepsMind_16 : decode cX9_keepsMind 16 = .ok (.iload_n 1, 1) := by decide +kernel
theorem dX9_keepsMind_17 : decode cX9_keepsMind 17 = .ok (.iadd, 1) := by decide +kernel
theorem dX9_keepsMind_18 : decode cX9_keepsMind 18 = .ok (.aload_n 0, 1) := by decide +kernel
theorem dX9_keepsMind_19 : decode cX9_keepsMind 19 = .ok (.getfield 34, 3) := by decide +kernel
theorem dX9_keepsMind_22 : decode cX9_keepsMind 22 = .ok (.iload_n 1, 1) := by decide +kernel
theorem dX9_keepsMind_23 : decode cX9_keepsMind 23 = .ok (.iaload, 1) := by decide +kernel
theorem dX9_keepsMind_24 : decode cX9_keepsMind 24 = .ok (.iastore, 1) := by decide +kernel
theorem dX9_keepsMind_25 : decode cX9_keepsMind 25 = .ok (.iinc 1 1, 3) := by decide +kernel
theorem dX9_keepsMind_28 : decode cX9_keepsMind 28 = .ok (.goto (-26), 3) := by decide +kernel
theorem dX9_keepsMind_31 : decode cX9_keepsMind 31 = .ok (.return_, 1) := by decide +kernel
theorem dX9_hour_0 : decode cX9_hour 0 = .ok (.iload_n 1, 1) := by decide +kernel
theorem dX9_hour_1 : decode cX9_hour 1 = .ok (.i2l, 1) := by decide +kernel
theorem dX9_hour_2 : decode cX9_hour 2 = .ok (.invokestatic 104, 3) := by decide +kernel
theorem dX9_hour_5 : decode cX9_hour 5 = .ok (.ifCond .ne 5, 3) := by decide +kernel
theorem dX9_hour_8 : decode cX9_hour 8 = .ok (.iconst (-1), 1) := by decide +kernel
theorem dX9_hour_9 : decode cX9_hour 9 = .ok (.ireturn, 1) := by decide +kernel
theorem dX9_hour_10 : decode cX9_hour 10 = .ok (.aload_n 0, 1) := by decide +kernel
theorem dX9_hour_11 : decode cX9_hour 11 = .ok (.invokevirtual 233, 3) := by decide +kernel
theorem dX9_hour_14 : decode cX9_hour 14 = .ok (.aload_n 0, 1) := by decide +kernel
theorem dX9_hour_15 : decode cX9_hour 15 = .ok (.invokevirtual 226, 3) := by decide +kernel
theorem dX9_hour_18 : decode cX9_hour 18 = .ok (.istore_n 2, 1) := by decide +kernel
theorem dX9_hour_19 : decode cX9_hour 19 = .ok (.aload_n 0, 1) := by decide +kernel
theorem dX9_hour_20 : decode cX9_hour 20 = .ok (.iload_n 1, 1) := by decide +kernel
theorem dX9_hour_21 : decode cX9_hour 21 = .ok (.putfield 204, 3) := by decide +kernel
theorem dX9_hour_24 : decode cX9_hour 24 = .ok (.aload_n 0, 1) := by decide +kernel
theorem dX9_hour_25 : decode cX9_hour 25 = .ok (.invokevirtual 236, 3) := by decide +kernel
theorem dX9_hour_28 : decode cX9_hour 28 = .ok (.aload_n 0, 1) := by decide +kernel
theorem dX9_hour_29 : decode cX9_hour 29 = .ok (.invokevirtual 310, 3) := by decide +kernel
theorem dX9_hour_32 : decode cX9_hour 32 = .ok (.aload_n 0, 1) := by decide +kernel
theorem dX9_hour_33 : decode cX9_hour 33 = .ok (.getfield 9, 3) := by decide +kernel
theorem dX9_hour_36 : decode cX9_hour 36 = .ok (.bipush 50, 2) := by decide +kernel
theorem dX9_hour_38 : decode cX9_hour 38 = .ok (.aload_n 0, 1) := by decide +kernel
theorem dX9_hour_39 : decode cX9_hour 39 = .ok (.getfield 201, 3) := by decide +kernel
theorem dX9_hour_42 : decode cX9_hour 42 = .ok (.iastore, 1) := by decide +kernel
theorem dX9_hour_43 : decode cX9_hour 43 = .ok (.aload_n 0, 1) := by decide +kernel
theorem dX9_hour_44 : decode cX9_hour 44 = .ok (.getfield 9, 3) := by decide +kernel
theorem dX9_hour_47 : decode cX9_hour 47 = .ok (.bipush 52, 2) := by decide +kernel
theorem dX9_hour_49 : decode cX9_hour 49 = .ok (.iload_n 1, 1) := by decide +kernel
theorem dX9_hour_50 : decode cX9_hour 50 = .ok (.iastore, 1) := by decide +kernel
theorem dX9_hour_51 : decode cX9_hour 51 = .ok (.aload_n 0, 1) := by decide +kernel
theorem dX9_hour_52 : decode cX9_hour 52 = .ok (.getfield 49, 3) := by decide +kernel
theorem dX9_hour_55 : decode cX9_hour 55 = .ok (.iconst 0, 1) := by decide +kernel
theorem dX9_hour_56 : decode cX9_hour 56 = .ok (.dup2, 1) := by decide +kernel
theorem dX9_hour_57 : decode cX9_hour 57 = .ok (.iaload, 1) := by decide +kernel
theorem dX9_hour_58 : decode cX9_hour 58 = .ok (.iconst 1, 1) := by decide +kernel
theorem dX9_hour_59 : decode cX9_hour 59 = .ok (.iadd, 1) := by decide +kernel
theorem dX9_hour_60 : decode cX9_hour 60 = .ok (.iastore, 1) := by decide +kernel
theorem dX9_hour_61 : decode cX9_hour 61 = .ok (.aload_n 0, 1) := by decide +kernel
theorem dX9_hour_62 : decode cX9_hour 62 = .ok (.getfield 49, 3) := by decide +kernel
theorem dX9_hour_65 : decode cX9_hour 65 = .ok (.iconst 4, 1) := by decide +kernel
theorem dX9_hour_66 : decode cX9_hour 66 = .ok (.dup2, 1) := by decide +kernel
theorem dX9_hour_67 : decode cX9_hour 67 = .ok (.iaload, 1) := by decide +kernel
theorem dX9_hour_68 : decode cX9_hour 68 = .ok (.aload_n 0, 1) := by decide +kernel
theorem dX9_hour_69 : decode cX9_hour 69 = .ok (.invokevirtual 226, 3) := by decide +kernel
theorem dX9_hour_72 : decode cX9_hour 72 = .ok (.iload_n 2, 1) := by decide +kernel
theorem dX9_hour_73 : decode cX9_hour 73 = .ok (.iconst (-1), 1) := by decide +kernel
theorem dX9_hour_74 : decode cX9_hour 74 = .ok (.ixor, 1) := by decide +kernel
theorem dX9_hour_75 : decode cX9_hour 75 = .ok (.iand, 1) := by decide +kernel
theorem dX9_hour_76 : decode cX9_hour 76 = .ok (.invokestatic 229, 3) := by decide +kernel
theorem dX9_hour_79 : decode cX9_hour 79 = .ok (.iadd, 1) := by decide +kernel
theorem dX9_hour_80 : decode cX9_hour 80 = .ok (.iastore, 1) := by decide +kernel
theorem dX9_hour_81 : decode cX9_hour 81 = .ok (.aload_n 0, 1) := by decide +kernel
theorem dX9_hour_82 : decode cX9_hour 82 = .ok (.invokevirtual 256, 3) := by decide +kernel
theorem dX9_hour_85 : decode cX9_hour 85 = .ok (.ireturn, 1) := by decide +kernel
theorem dX9_telling_0 : decode cX9_telling 0 = .ok (.iload_n 1, 1) := by decide +kernel
theorem dX9_telling_1 : decode cX9_telling 1 = .ok (.i2l, 1) := by decide +kernel
theorem dX9_telling_2 : decode cX9_telling 2 = .ok (.invokestatic 104, 3) := by decide +kernel
theorem dX9_telling_5 : decode cX9_telling 5 = .ok (.ifCond .eq 15, 3) := by decide +kernel
theorem dX9_telling_8 : decode cX9_telling 8 = .ok (.iload_n 2, 1) := by decide +kernel
theorem dX9_telling_9 : decode cX9_telling 9 = .ok (.i2l, 1) := by decide +kernel
theorem dX9_telling_10 : decode cX9_telling 10 = .ok (.lconst 0, 1) := by decide +kernel
theorem dX9_telling_11 : decode cX9_telling 11 = .ok (.ldc2_w 108, 3) := by decide +kernel
theorem dX9_telling_14 : decode cX9_telling 14 = .ok (.invokestatic 98, 3) := by decide +kernel
theorem dX9_telling_17 : decode cX9_telling 17 = .ok (.ifCond .ne 5, 3) := by decide +kernel
theorem dX9_telling_20 : decode cX9_telling 20 = .ok (.iconst (-1), 1) := by decide +kernel
theorem dX9_telling_21 : decode cX9_telling 21 = .ok (.ireturn, 1) := by decide +kernel
theorem dX9_telling_22 : decode cX9_telling 22 = .ok (.aload_n 0, 1) := by decide +kernel
theorem dX9_telling_23 : decode cX9_telling 23 = .ok (.invokevirtual 233, 3) := by decide +kernel
theorem dX9_telling_26 : decode cX9_telling 26 = .ok (.aload_n 0, 1) := by decide +kernel
theorem dX9_telling_27 : decode cX9_telling 27 = .ok (.getfield 31, 3) := by decide +kernel
theorem dX9_telling_30 : decode cX9_telling 30 = .ok (.iload_n 1, 1) := by decide +kernel
theorem dX9_telling_31 : decode cX9_telling 31 = .ok (.iaload, 1) := by decide +kernel
theorem dX9_telling_32 : decode cX9_telling 32 = .ok (.ifCond .ge 6, 3) := by decide +kernel
theorem dX9_telling_35 : decode cX9_telling 35 = .ok (.bipush (-5), 2) := by decide +kernel
theorem dX9_telling_37 : decode cX9_telling 37 = .ok (.ireturn, 1) := by decide +kernel
theorem dX9_telling_38 : decode cX9_telling 38 = .ok (.aload_n 0, 1) := by decide +kernel
theorem dX9_telling_39 : decode cX9_telling 39 = .ok (.iload_n 1, 1) := by decide +kernel
theorem dX9_telling_40 : decode cX9_telling 40 = .ok (.iload_n 2, 1) := by decide +kernel
theorem dX9_telling_41 : decode cX9_telling 41 = .ok (.invokevirtual 273, 3) := by decide +kernel
theorem dX9_telling_44 : decode cX9_telling 44 = .ok (.aload_n 0, 1) := by decide +kernel
theorem dX9_telling_45 : decode cX9_telling 45 = .ok (.invokevirtual 310, 3) := by decide +kernel
theorem dX9_telling_48 : decode cX9_telling 48 = .ok (.aload_n 0, 1) := by decide +kernel
theorem dX9_telling_49 : decode cX9_telling 49 = .ok (.getfield 49, 3) := by decide +kernel
theorem dX9_telling_52 : decode cX9_telling 52 = .ok (.iconst 1, 1) := by decide +kernel
theorem dX9_telling_53 : decode cX9_telling 53 = .ok (.dup2, 1) := by decide +kernel
theorem dX9_telling_54 : decode cX9_telling 54 = .ok (.iaload, 1) := by decide +kernel
theorem dX9_telling_55 : decode cX9_telling 55 = .ok (.iconst 1, 1) := by decide +kernel
theorem dX9_telling_56 : decode cX9_telling 56 = .ok (.iadd, 1) := by decide +kernel
theorem dX9_telling_57 : decode cX9_telling 57 = .ok (.iastore, 1) := by decide +kernel
theorem dX9_telling_58 : decode cX9_telling 58 = .ok (.aload_n 0, 1) := by decide +kernel
theorem dX9_telling_59 : decode cX9_telling 59 = .ok (.getfield 34, 3) := by decide +kernel
theorem dX9_telling_62 : decode cX9_telling 62 = .ok (.aload_n 0, 1) := by decide +kernel
theorem dX9_telling_63 : decode cX9_telling 63 = .ok (.getfield 31, 3) := by decide +kernel
theorem dX9_telling_66 : decode cX9_telling 66 = .ok (.iload_n 1, 1) := by decide +kernel
theorem dX9_telling_67 : decode cX9_telling 67 = .ok (.iaload, 1) := by decide +kernel
theorem dX9_telling_68 : decode cX9_telling 68 = .ok (.iaload, 1) := by decide +kernel
theorem dX9_telling_69 : decode cX9_telling 69 = .ok (.ireturn, 1) := by decide +kernel
theorem dX9_touch_0 : decode cX9_touch 0 = .ok (.iload_n 1, 1) := by decide +kernel
theorem dX9_touch_1 : decode cX9_touch 1 = .ok (.i2l, 1) := by decide +kernel
theorem dX9_touch_2 : decode cX9_touch 2 = .ok (.invokestatic 104, 3) := by decide +kernel
theorem dX9_touch_5 : decode cX9_touch 5 = .ok (.ifCond .ne 5, 3) := by decide +kernel
theorem dX9_touch_8 : decode cX9_touch 8 = .ok (.iconst (-1), 1) := by decide +kernel
theorem dX9_touch_9 : decode cX9_touch 9 = .ok (.ireturn, 1) := by decide +kernel
theorem dX9_touch_10 : decode cX9_touch 10 = .ok (.aload_n 0, 1) := by decide +kernel
theorem dX9_touch_11 : decode cX9_touch 11 = .ok (.invokevirtual 233, 3) := by decide +kernel
theorem dX9_touch_14 : decode cX9_touch 14 = .ok (.aload_n 0, 1) := by decide +kernel
theorem dX9_touch_15 : decode cX9_touch 15 = .ok (.getfield 31, 3) := by decide +kernel
theorem dX9_touch_18 : decode cX9_touch 18 = .ok (.iload_n 1, 1) := by decide +kernel
theorem dX9_touch_19 : decode cX9_touch 19 = .ok (.iaload, 1) := by decide +kernel
theorem dX9_touch_20 : decode cX9_touch 20 = .ok (.ifCond .ge 6, 3) := by decide +kernel
theorem dX9_touch_23 : decode cX9_touch 23 = .ok (.bipush (-5), 2) := by decide +kernel
theorem dX9_touch_25 : decode cX9_touch 25 = .ok (.ireturn, 1) := by decide +kernel
theorem dX9_touch_26 : decode cX9_touch 26 = .ok (.aload_n 0, 1) := by decide +kernel
theorem dX9_touch_27 : decode cX9_touch 27 = .ok (.invokevirtual 226, 3) := by decide +kernel
theorem dX9_touch_30 : decode cX9_touch 30 = .ok (.istore_n 2, 1) := by decide +kernel
theorem dX9_touch_31 : decode cX9_touch 31 = .ok (.aload_n 0, 1) := by decide +kernel
theorem dX9_touch_32 : decode cX9_touch 32 = .ok (.iload_n 1, 1) := by decide +kernel
theorem dX9_touch_33 : decode cX9_touch 33 = .ok (.invokevirtual 276, 3) := by decide +kernel
theorem dX9_touch_36 : decode cX9_touch 36 = .ok (.aload_n 0, 1) := by decide +kernel
theorem dX9_touch_37 : decode cX9_touch 37 = .ok (.invokevirtual 310, 3) := by decide +kernel
theorem dX9_touch_40 : decode cX9_touch 40 = .ok (.aload_n 0, 1) := by decide +kernel
theorem dX9_touch_41 : decode cX9_touch 41 = .ok (.invokevirtual 226, 3) := by decide +kernel
theorem dX9_touch_44 : decode cX9_touch 44 = .ok (.iload_n 2, 1) := by decide +kernel
theorem dX9_touch_45 : decode cX9_touch 45 = .ok (.iconst (-1), 1) := by decide +kernel
theorem dX9_touch_46 : decode cX9_touch 46 = .ok (.ixor, 1) := by decide +kernel
theorem dX9_touch_47 : decode cX9_touch 47 = .ok (.iand, 1) := by decide +kernel
theorem dX9_touch_48 : decode cX9_touch 48 = .ok (.invokestatic 229, 3) := by decide +kernel
theorem dX9_touch_51 : decode cX9_touch 51 = .ok (.istore_n 3, 1) := by decide +kernel
theorem dX9_touch_52 : decode cX9_touch 52 = .ok (.aload_n 0, 1) := by decide +kernel
theorem dX9_touch_53 : decode cX9_touch 53 = .ok (.getfield 49, 3) := by decide +kernel
theorem dX9_touch_56 : decode cX9_touch 56 = .ok (.iconst 2, 1) := by decide +kernel
theorem dX9_touch_57 : decode cX9_touch 57 = .ok (.dup2, 1) := by decide +kernel
theorem dX9_touch_58 : decode cX9_touch 58 = .ok (.iaload, 1) := by decide +kernel
theorem dX9_touch_59 : decode cX9_touch 59 = .ok (.iconst 1, 1) := by decide +kernel
theorem dX9_touch_60 : decode cX9_touch 60 = .ok (.iadd, 1) := by decide +kernel
theorem dX9_touch_61 : decode cX9_touch 61 = .ok (.iastore, 1) := by decide +kernel
theorem dX9_touch_62 : decode cX9_touch 62 = .ok (.aload_n 0, 1) := by decide +kernel
theorem dX9_touch_63 : decode cX9_touch 63 = .ok (.getfield 49, 3) := by decide +kernel
theorem dX9_touch_66 : decode cX9_touch 66 = .ok (.iconst 3, 1) := by decide +kernel
theorem dX9_touch_67 : decode cX9_touch 67 = .ok (.dup2, 1) := by decide +kernel
theorem dX9_touch_68 : decode cX9_touch 68 = .ok (.iaload, 1) := by decide +kernel
theorem dX9_touch_69 : decode cX9_touch 69 = .ok (.iload_n 3, 1) := by decide +kernel
theorem dX9_touch_70 : decode cX9_touch 70 = .ok (.iadd, 1) := by decide +kernel
theorem dX9_touch_71 : decode cX9_touch 71 = .ok (.iastore, 1) := by decide +kernel
theorem dX9_touch_72 : decode cX9_touch 72 = .ok (.iload_n 3, 1) := by decide +kernel
theorem dX9_touch_73 : decode cX9_touch 73 = .ok (.ireturn, 1) := by decide +kernel
theorem dX9_hold_0 : decode cX9_hold 0 = .ok (.aload_n 0, 1) := by decide +kernel
theorem dX9_hold_1 : decode cX9_hold 1 = .ok (.iload_n 1, 1) := by decide +kernel
theorem dX9_hold_2 : decode cX9_hold 2 = .ok (.i2l, 1) := by decide +kernel
theorem dX9_hold_3 : decode cX9_hold 3 = .ok (.invokevirtual 127, 3) := by decide +kernel
theorem dX9_hold_6 : decode cX9_hold 6 = .ok (.ifCond .eq 13, 3) := by decide +kernel
theorem dX9_hold_9 : decode cX9_hold 9 = .ok (.iload_n 2, 1) := by decide +kernel
theorem dX9_hold_10 : decode cX9_hold 10 = .ok (.i2l, 1) := by decide +kernel
theorem dX9_hold_11 : decode cX9_hold 11 = .ok (.lconst 0, 1) := by decide +kernel
theorem dX9_hold_12 : decode cX9_hold 12 = .ok (.lconst 1, 1) := by decide +kernel
theorem dX9_hold_13 : decode cX9_hold 13 = .ok (.invokestatic 98, 3) := by decide +kernel
theorem dX9_hold_16 : decode cX9_hold 16 = .ok (.ifCond .ne 5, 3) := by decide +kernel
theorem dX9_hold_19 : decode cX9_hold 19 = .ok (.iconst (-1), 1) := by decide +kernel
theorem dX9_hold_20 : decode cX9_hold 20 = .ok (.ireturn, 1) := by decide +kernel
theorem dX9_hold_21 : decode cX9_hold 21 = .ok (.aload_n 0, 1) := by decide +kernel
theorem dX9_hold_22 : decode cX9_hold 22 = .ok (.getfield 9, 3) := by decide +kernel
theorem dX9_hold_25 : decode cX9_hold 25 = .ok (.bipush 40, 2) := by decide +kernel
theorem dX9_hold_27 : decode cX9_hold 27 = .ok (.iload_n 1, 1) := by decide +kernel
theorem dX9_hold_28 : decode cX9_hold 28 = .ok (.iadd, 1) := by decide +kernel
theorem dX9_hold_29 : decode cX9_hold 29 = .ok (.iaload, 1) := by decide +kernel
theorem dX9_hold_30 : decode cX9_hold 30 = .ok (.istore_n 3, 1) := by decide +kernel
theorem dX9_hold_31 : decode cX9_hold 31 = .ok (.aload_n 0, 1) := by decide +kernel
theorem dX9_hold_32 : decode cX9_hold 32 = .ok (.getfield 9, 3) := by decide +kernel
theorem dX9_hold_35 : decode cX9_hold 35 = .ok (.bipush 40, 2) := by decide +kernel
theorem dX9_hold_37 : decode cX9_hold 37 = .ok (.iload_n 1, 1) := by decide +kernel
theorem dX9_hold_38 : decode cX9_hold 38 = .ok (.iadd, 1) := by decide +kernel
theorem dX9_hold_39 : decode cX9_hold 39 = .ok (.iload_n 2, 1) := by decide +kernel
theorem dX9_hold_40 : decode cX9_hold 40 = .ok (.iastore, 1) := by decide +kernel
theorem dX9_hold_41 : decode cX9_hold 41 = .ok (.iload_n 3, 1) := by decide +kernel
theorem dX9_hold_42 : decode cX9_hold 42 = .ok (.ireturn, 1) := by decide +kernel
theorem dX9_led_0 : decode cX9_led 0 = .ok (.iload_n 1, 1) := by decide +kernel
theorem dX9_led_1 : decode cX9_led 1 = .ok (.i2l, 1) := by decide +kernel
theorem dX9_led_2 : decode cX9_led 2 = .ok (.lconst 0, 1) := by decide +kernel
theorem dX9_led_3 : decode cX9_led 3 = .ok (.ldc2_w 125, 3) := by decide +kernel
theorem dX9_led_6 : decode cX9_led 6 = .ok (.invokestatic 98, 3) := by decide +kernel
theorem dX9_led_9 : decode cX9_led 9 = .ok (.ifCond .eq 12, 3) := by decide +kernel
theorem dX9_led_12 : decode cX9_led 12 = .ok (.aload_n 0, 1) := by decide +kernel
theorem dX9_led_13 : decode cX9_led 13 = .ok (.getfield 49, 3) := by decide +kernel
theorem dX9_led_16 : decode cX9_led 16 = .ok (.iload_n 1, 1) := by decide +kernel
theorem dX9_led_17 : decode cX9_led 17 = .ok (.iaload, 1) := by decide +kernel
theorem dX9_led_18 : decode cX9_led 18 = .ok (.goto 4, 3) := by decide +kernel
theorem dX9_led_21 : decode cX9_led 21 = .ok (.iconst (-1), 1) := by decide +kernel
theorem dX9_led_22 : decode cX9_led 22 = .ok (.ireturn, 1) := by decide +kernel
theorem dX9_image_0 : decode cX9_image 0 = .ok (.aload_n 0, 1) := by decide +kernel
theorem dX9_image_1 : decode cX9_image 1 = .ok (.iconst 1, 1) := by decide +kernel
theorem dX9_image_2 : decode cX9_image 2 = .ok (.putfield 313, 3) := by decide +kernel
theorem dX9_image_5 : decode cX9_image 5 = .ok (.aload_n 0, 1) := by decide +kernel
theorem dX9_image_6 : decode cX9_image 6 = .ok (.aload_n 0, 1) := by decide +kernel
theorem dX9_image_7 : decode cX9_image 7 = .ok (.getfield 95, 3) := by decide +kernel
theorem dX9_image_10 : decode cX9_image 10 = .ok (.putfield 317, 3) := by decide +kernel
theorem dX9_image_13 : decode cX9_image 13 = .ok (.iconst 0, 1) := by decide +kernel
theorem dX9_image_14 : decode cX9_image 14 = .ok (.istore_n 1, 1) := by decide +kernel
theorem dX9_image_15 : decode cX9_image 15 = .ok (.iload_n 1, 1) := by decide +kernel
theorem dX9_image_16 : decode cX9_image 16 = .ok (.bipush 52, 2) := by decide +kernel
theorem dX9_image_18 : decode cX9_image 18 = .ok (.if_icmp .gt 21, 3) := by decide +kernel
theorem dX9_image_21 : decode cX9_image 21 = .ok (.aload_n 0, 1) := by decide +kernel
theorem dX9_image_22 : decode cX9_image 22 = .ok (.getfield 52, 3) := by decide +kernel
theorem dX9_image_25 : decode cX9_image 25 = .ok (.iload_n 1, 1) := by decide +kernel
theorem dX9_image_26 : decode cX9_image 26 = .ok (.aload_n 0, 1) := by decide +kernel
theorem dX9_image_27 : decode cX9_image 27 = .ok (.getfield 9, 3) := by decide +kernel
theorem dX9_image_30 : decode cX9_image 30 = .ok (.iload_n 1, 1) := by decide +kernel
theorem dX9_image_31 : decode cX9_image 31 = .ok (.iaload, 1) := by decide +kernel
theorem dX9_image_32 : decode cX9_image 32 = .ok (.iastore, 1) := by decide +kernel
theorem dX9_image_33 : decode cX9_image 33 = .ok (.iinc 1 1, 3) := by decide +kernel
theorem dX9_image_36 : decode cX9_image 36 = .ok (.goto (-21), 3) := by decide +kernel
theorem dX9_image_39 : decode cX9_image 39 = .ok (.iconst 0, 1) := by decide +kernel
theorem dX9_image_40 : decode cX9_image 40 = .ok (.istore_n 1, 1) := by decide +kernel
theorem dX9_image_41 : decode cX9_image 41 = .ok (.iload_n 1, 1) := by decide +kernel
theorem dX9_image_42 : decode cX9_image 42 = .ok (.iconst 5, 1) := by decide +kernel
theorem dX9_image_43 : decode cX9_image 43 = .ok (.if_icmp .ge 21, 3) := by decide +kernel
theorem dX9_image_46 : decode cX9_image 46 = .ok (.aload_n 0, 1) := by decide +kernel
theorem dX9_image_47 : decode cX9_image 47 = .ok (.getfield 55, 3) := by decide +kernel
theorem dX9_image_50 : decode cX9_image 50 = .ok (.iload_n 1, 1) := by decide +kernel
theorem dX9_image_51 : decode cX9_image 51 = .ok (.aload_n 0, 1) := by decide +kernel
theorem dX9_image_52 : decode cX9_image 52 = .ok (.getfield 49, 3) := by decide +kernel
theorem dX9_image_55 : decode cX9_image 55 = .ok (.iload_n 1, 1) := by decide +kernel
theorem dX9_image_56 : decode cX9_image 56 = .ok (.iaload, 1) := by decide +kernel
theorem dX9_image_57 : decode cX9_image 57 = .ok (.iastore, 1) := by decide +kernel
theorem dX9_image_58 : decode cX9_image 58 = .ok (.iinc 1 1, 3) := by decide +kernel
theorem dX9_image_61 : decode cX9_image 61 = .ok (.goto (-20), 3) := by decide +kernel
theorem dX9_image_64 : decode cX9_image 64 = .ok (.aload_n 0, 1) := by decide +kernel
theorem dX9_image_65 : decode cX9_image 65 = .ok (.getfield 49, 3) := by decide +kernel
theorem dX9_image_68 : decode cX9_image 68 = .ok (.iconst 0, 1) := by decide +kernel
theorem dX9_image_69 : decode cX9_image 69 = .ok (.iaload, 1) := by decide +kernel
theorem dX9_image_70 : decode cX9_image 70 = .ok (.ireturn, 1) := by decide +kernel
theorem dX9_back_0 : decode cX9_back 0 = .ok (.aload_n 0, 1) := by decide +kernel
theorem dX9_back_1 : decode cX9_back 1 = .ok (.getfield 313, 3) := by decide +kernel
theorem dX9_back_4 : decode cX9_back 4 = .ok (.ifCond .ne 6, 3) := by decide +kernel
theorem dX9_back_7 : decode cX9_back 7 = .ok (.bipush (-5), 2) := by decide +kernel
theorem dX9_back_9 : decode cX9_back 9 = .ok (.ireturn, 1) := by decide +kernel
theorem dX9_back_10 : decode cX9_back 10 = .ok (.iconst 0, 1) := by decide +kernel
theorem dX9_back_11 : decode cX9_back 11 = .ok (.istore_n 1, 1) := by decide +kernel
theorem dX9_back_12 : decode cX9_back 12 = .ok (.iload_n 1, 1) := by decide +kernel
theorem dX9_back_13 : decode cX9_back 13 = .ok (.aload_n 0, 1) := by decide +kernel
theorem dX9_back_14 : decode cX9_back 14 = .ok (.getfield 317, 3) := by decide +kernel
theorem dX9_back_17 : decode cX9_back 17 = .ok (.if_icmp .ge 45, 3) := by decide +kernel
theorem dX9_back_20 : decode cX9_back 20 = .ok (.aload_n 0, 1) := by decide +kernel
theorem dX9_back_21 : decode cX9_back 21 = .ok (.getfield 9, 3) := by decide +kernel
theorem dX9_back_24 : decode cX9_back 24 = .ok (.bipush 30, 2) := by decide +kernel
theorem dX9_back_26 : decode cX9_back 26 = .ok (.iload_n 1, 1) := by decide +kernel
theorem dX9_back_27 : decode cX9_back 27 = .ok (.iadd, 1) := by decide +kernel
theorem dX9_back_28 : decode cX9_back 28 = .ok (.aload_n 0, 1) := by decide +kernel
theorem dX9_back_29 : decode cX9_back 29 = .ok (.getfield 52, 3) := by decide +kernel
theorem dX9_back_32 : decode cX9_back 32 = .ok (.bipush 30, 2) := by decide +kernel
theorem dX9_back_34 : decode cX9_back 34 = .ok (.iload_n 1, 1) := by decide +kernel
theorem dX9_back_35 : decode cX9_back 35 = .ok (.iadd, 1) := by decide +kernel
theorem dX9_back_36 : decode cX9_back 36 = .ok (.iaload, 1) := by decide +kernel
theorem dX9_back_37 : decode cX9_back 37 = .ok (.iastore, 1) := by decide +kernel
theorem dX9_back_38 : decode cX9_back 38 = .ok (.aload_n 0, 1) := by decide +kernel
theorem dX9_back_39 : decode cX9_back 39 = .ok (.getfield 9, 3) := by decide +kernel
theorem dX9_back_42 : decode cX9_back 42 = .ok (.bipush 40, 2) := by decide +kernel
theorem dX9_back_44 : decode cX9_back 44 = .ok (.iload_n 1, 1) := by decide +kernel
theorem dX9_back_45 : decode cX9_back 45 = .ok (.iadd, 1) := by decide +kernel
theorem dX9_back_46 : decode cX9_back 46 = .ok (.aload_n 0, 1) := by decide +kernel
theorem dX9_back_47 : decode cX9_back 47 = .ok (.getfield 52, 3) := by decide +kernel
theorem dX9_back_50 : decode cX9_back 50 = .ok (.bipush 40, 2) := by decide +kernel
theorem dX9_back_52 : decode cX9_back 52 = .ok (.iload_n 1, 1) := by decide +kernel
theorem dX9_back_53 : decode cX9_back 53 = .ok (.iadd, 1) := by decide +kernel
theorem dX9_back_54 : decode cX9_back 54 = .ok (.iaload, 1) := by decide +kernel
theorem dX9_back_55 : decode cX9_back 55 = .ok (.iastore, 1) := by decide +kernel
theorem dX9_back_56 : decode cX9_back 56 = .ok (.iinc 1 1, 3) := by decide +kernel
theorem dX9_back_59 : decode cX9_back 59 = .ok (.goto (-47), 3) := by decide +kernel
theorem dX9_back_62 : decode cX9_back 62 = .ok (.aload_n 0, 1) := by decide +kernel
theorem dX9_back_63 : decode cX9_back 63 = .ok (.getfield 9, 3) := by decide +kernel
theorem dX9_back_66 : decode cX9_back 66 = .ok (.bipush 50, 2) := by decide +kernel
theorem dX9_back_68 : decode cX9_back 68 = .ok (.aload_n 0, 1) := by decide +kernel
theorem dX9_back_69 : decode cX9_back 69 = .ok (.getfield 52, 3) := by decide +kernel
theorem dX9_back_72 : decode cX9_back 72 = .ok (.bipush 50, 2) := by decide +kernel
theorem dX9_back_74 : decode cX9_back 74 = .ok (.iaload, 1) := by decide +kernel
theorem dX9_back_75 : decode cX9_back 75 = .ok (.iastore, 1) := by decide +kernel
theorem dX9_back_76 : decode cX9_back 76 = .ok (.aload_n 0, 1) := by decide +kernel
theorem dX9_back_77 : decode cX9_back 77 = .ok (.getfield 9, 3) := by decide +kernel
theorem dX9_back_80 : decode cX9_back 80 = .ok (.bipush 52, 2) := by decide +kernel
theorem dX9_back_82 : decode cX9_back 82 = .ok (.aload_n 0, 1) := by decide +kernel
theorem dX9_back_83 : decode cX9_back 83 = .ok (.getfield 52, 3) := by decide +kernel
theorem dX9_back_86 : decode cX9_back 86 = .ok (.bipush 52, 2) := by decide +kernel
theorem dX9_back_88 : decode cX9_back 88 = .ok (.iaload, 1) := by decide +kernel
theorem dX9_back_89 : decode cX9_back 89 = .ok (.iastore, 1) := by decide +kernel
theorem dX9_back_90 : decode cX9_back 90 = .ok (.iconst 0, 1) := by decide +kernel
theorem dX9_back_91 : decode cX9_back 91 = .ok (.istore_n 1, 1) := by decide +kernel
theorem dX9_back_92 : decode cX9_back 92 = .ok (.iload_n 1, 1) := by decide +kernel
theorem dX9_back_93 : decode cX9_back 93 = .ok (.iconst 5, 1) := by decide +kernel
theorem dX9_back_94 : decode cX9_back 94 = .ok (.if_icmp .ge 21, 3) := by decide +kernel
theorem dX9_back_97 : decode cX9_back 97 = .ok (.aload_n 0, 1) := by decide +kernel
theorem dX9_back_98 : decode cX9_back 98 = .ok (.getfield 49, 3) := by decide +kernel
theorem dX9_back_101 : decode cX9_back 101 = .ok (.iload_n 1, 1) := by decide +kernel
theorem dX9_back_102 : decode cX9_back 102 = .ok (.aload_n 0, 1) := by decide +kernel
theorem dX9_back_103 : decode cX9_back 103 = .ok (.getfield 55, 3) := by decide +kernel
theorem dX9_back_106 : decode cX9_back 106 = .ok (.iload_n 1, 1) := by decide +kernel
theorem dX9_back_107 : decode cX9_back 107 = .ok (.iaload, 1) := by decide +kernel
theorem dX9_back_108 : decode cX9_back 108 = .ok (.iastore, 1) := by decide +kernel
theorem dX9_back_109 : decode cX9_back 109 = .ok (.iinc 1 1, 3) := by decide +kernel
theorem dX9_back_112 : decode cX9_back 112 = .ok (.goto (-20), 3) := by decide +kernel
theorem dX9_back_115 : decode cX9_back 115 = .ok (.aload_n 0, 1) := by decide +kernel
theorem dX9_back_116 : decode cX9_back 116 = .ok (.getfield 49, 3) := by decide +kernel
theorem dX9_back_119 : decode cX9_back 119 = .ok (.iconst 0, 1) := by decide +kernel
theorem dX9_back_120 : decode cX9_back 120 = .ok (.iaload, 1) := by decide +kernel
theorem dX9_back_121 : decode cX9_back 121 = .ok (.ireturn, 1) := by decide +kernel
theorem dX9_manyAwake_0 : decode cX9_manyAwake 0 = .ok (.aload_n 0, 1) := by decide +kernel
theorem dX9_manyAwake_1 : decode cX9_manyAwake 1 = .ok (.invokevirtual 233, 3) := by decide +kernel
theorem dX9_manyAwake_4 : decode cX9_manyAwake 4 = .ok (.aload_n 0, 1) := by decide +kernel
theorem dX9_manyAwake_5 : decode cX9_manyAwake 5 = .ok (.invokevirtual 256, 3) := by decide +kernel
theorem dX9_manyAwake_8 : decode cX9_manyAwake 8 = .ok (.ireturn, 1) := by decide +kernel
theorem dX9_isBody_0 : decode cX9_isBody 0 = .ok (.iload_n 1, 1) := by decide +kernel
theorem dX9_isBody_1 : decode cX9_isBody 1 = .ok (.i2l, 1) := by decide +kernel
theorem dX9_isBody_2 : decode cX9_isBody 2 = .ok (.lconst 0, 1) := by decide +kernel
theorem dX9_isBody_3 : decode cX9_isBody 3 = .ok (.aload_n 0, 1) := by decide +kernel
theorem dX9_isBody_4 : decode cX9_isBody 4 = .ok (.getfield 320, 3) := by decide +kernel
theorem dX9_isBody_7 : decode cX9_isBody 7 = .ok (.iconst 1, 1) := by decide +kernel
theorem dX9_isBody_8 : decode cX9_isBody 8 = .ok (.isub, 1) := by decide +kernel
theorem dX9_isBody_9 : decode cX9_isBody 9 = .ok (.i2l, 1) := by decide +kernel
theorem dX9_isBody_10 : decode cX9_isBody 10 = .ok (.invokestatic 98, 3) := by decide +kernel
theorem dX9_isBody_13 : decode cX9_isBody 13 = .ok (.ireturn, 1) := by decide +kernel
theorem dX9_kindOf_0 : decode cX9_kindOf 0 = .ok (.aload_n 0, 1) := by decide +kernel
theorem dX9_kindOf_1 : decode cX9_kindOf 1 = .ok (.getfield 58, 3) := by decide +kernel
theorem dX9_kindOf_4 : decode cX9_kindOf 4 = .ok (.iload_n 1, 1) := by decide +kernel
theorem dX9_kindOf_5 : decode cX9_kindOf 5 = .ok (.iaload, 1) := by decide +kernel
theorem dX9_kindOf_6 : decode cX9_kindOf 6 = .ok (.ireturn, 1) := by decide +kernel
theorem dX9_body_0 : decode cX9_body 0 = .ok (.iload_n 1, 1) := by decide +kernel
theorem dX9_body_1 : decode cX9_body 1 = .ok (.i2l, 1) := by decide +kernel
theorem dX9_body_2 : decode cX9_body 2 = .ok (.lconst 0, 1) := by decide +kernel
theorem dX9_body_3 : decode cX9_body 3 = .ok (.ldc2_w 132, 3) := by decide +kernel
theorem dX9_body_6 : decode cX9_body 6 = .ok (.invokestatic 98, 3) := by decide +kernel
theorem dX9_body_9 : decode cX9_body 9 = .ok (.ifCond .ne 5, 3) := by decide +kernel
theorem dX9_body_12 : decode cX9_body 12 = .ok (.iconst (-1), 1) := by decide +kernel
theorem dX9_body_13 : decode cX9_body 13 = .ok (.ireturn, 1) := by decide +kernel
theorem dX9_body_14 : decode cX9_body 14 = .ok (.aload_n 0, 1) := by decide +kernel
theorem dX9_body_15 : decode cX9_body 15 = .ok (.getfield 320, 3) := by decide +kernel
theorem dX9_body_18 : decode cX9_body 18 = .ok (.bipush 50, 2) := by decide +kernel
theorem dX9_body_20 : decode cX9_body 20 = .ok (.if_icmp .ne 6, 3) := by decide +kernel
theorem dX9_body_23 : decode cX9_body 23 = .ok (.bipush (-3), 2) := by decide +kernel
theorem dX9_body_25 : decode cX9_body 25 = .ok (.ireturn, 1) := by decide +kernel
theorem dX9_body_26 : decode cX9_body 26 = .ok (.aload_n 0, 1) := by decide +kernel
theorem dX9_body_27 : decode cX9_body 27 = .ok (.getfield 58, 3) := by decide +kernel
theorem dX9_body_30 : decode cX9_body 30 = .ok (.aload_n 0, 1) := by decide +kernel
theorem dX9_body_31 : decode cX9_body 31 = .ok (.getfield 320, 3) := by decide +kernel
theorem dX9_body_34 : decode cX9_body 34 = .ok (.iload_n 1, 1) := by decide +kernel
theorem dX9_body_35 : decode cX9_body 35 = .ok (.iastore, 1) := by decide +kernel
theorem dX9_body_36 : decode cX9_body 36 = .ok (.aload_n 0, 1) := by decide +kernel
theorem dX9_body_37 : decode cX9_body 37 = .ok (.dup, 1) := by decide +kernel
theorem dX9_body_38 : decode cX9_body 38 = .ok (.getfield 320, 3) := by decide +kernel
theorem dX9_body_41 : decode cX9_body 41 = .ok (.iconst 1, 1) := by decide +kernel
theorem dX9_body_42 : decode cX9_body 42 = .ok (.iadd, 1) := by decide +kernel
theorem dX9_body_43 : decode cX9_body 43 = .ok (.putfield 320, 3) := by decide +kernel
theorem dX9_body_46 : decode cX9_body 46 = .ok (.aload_n 0, 1) := by decide +kernel
theorem dX9_body_47 : decode cX9_body 47 = .ok (.getfield 320, 3) := by decide +kernel
theorem dX9_body_50 : decode cX9_body 50 = .ok (.iconst 1, 1) := by decide +kernel
theorem dX9_body_51 : decode cX9_body 51 = .ok (.isub, 1) := by decide +kernel
theorem dX9_body_52 : decode cX9_body 52 = .ok (.ireturn, 1) := by decide +kernel
theorem dX9_above_0 : decode cX9_above 0 = .ok (.iload_n 0, 1) := by decide +kernel
theorem dX9_above_1 : decode cX9_above 1 = .ok (.iconst 3, 1) := by decide +kernel
theorem dX9_above_2 : decode cX9_above 2 = .ok (.if_icmp .ne 7, 3) := by decide +kernel
theorem dX9_above_5 : decode cX9_above 5 = .ok (.iconst 2, 1) := by decide +kernel
theorem dX9_above_6 : decode cX9_above 6 = .ok (.goto 32, 3) := by decide +kernel
theorem dX9_above_9 : decode cX9_above 9 = .ok (.iload_n 0, 1) := by decide +kernel
theorem dX9_above_10 : decode cX9_above 10 = .ok (.iconst 4, 1) := by decide +kernel
theorem dX9_above_11 : decode cX9_above 11 = .ok (.if_icmp .ne 7, 3) := by decide +kernel
theorem dX9_above_14 : decode cX9_above 14 = .ok (.iconst 1, 1) := by decide +kernel
theorem dX9_above_15 : decode cX9_above 15 = .ok (.goto 23, 3) := by decide +kernel
theorem dX9_above_18 : decode cX9_above 18 = .ok (.iload_n 0, 1) := by decide +kernel
theorem dX9_above_19 : decode cX9_above 19 = .ok (.iconst 5, 1) := by decide +kernel
theorem dX9_above_20 : decode cX9_above 20 = .ok (.if_icmp .ne 7, 3) := by decide +kernel
theorem dX9_above_23 : decode cX9_above 23 = .ok (.iconst 3, 1) := by decide +kernel
theorem dX9_above_24 : decode cX9_above 24 = .ok (.goto 14, 3) := by decide +kernel
theorem dX9_above_27 : decode cX9_above 27 = .ok (.iload_n 0, 1) := by decide +kernel
theorem dX9_above_28 : decode cX9_above 28 = .ok (.bipush 7, 2) := by decide +kernel
theorem dX9_above_30 : decode cX9_above 30 = .ok (.if_icmp .ne 7, 3) := by decide +kernel
theorem dX9_above_33 : decode cX9_above 33 = .ok (.iconst 4, 1) := by decide +kernel
theorem dX9_above_34 : decode cX9_above 34 = .ok (.goto 4, 3) := by decide +kernel
theorem dX9_above_37 : decode cX9_above 37 = .ok (.iconst 0, 1) := by decide +kernel
theorem dX9_above_38 : decode cX9_above 38 = .ok (.ireturn, 1) := by decide +kernel
theorem dX9_runs_0 : decode cX9_runs 0 = .ok (.aload_n 0, 1) := by decide +kernel
theorem dX9_runs_1 : decode cX9_runs 1 = .ok (.getfield 323, 3) := by decide +kernel
theorem dX9_runs_4 : decode cX9_runs 4 = .ok (.bipush 24, 2) := by decide +kernel
theorem dX9_runs_6 : decode cX9_runs 6 = .ok (.if_icmp .ge 13, 3) := by decide +kernel
theorem dX9_runs_9 : decode cX9_runs 9 = .ok (.aload_n 0, 1) := by decide +kernel
theorem dX9_runs_10 : decode cX9_runs 10 = .ok (.getfield 61, 3) := by decide +kernel
theorem dX9_runs_13 : decode cX9_runs 13 = .ok (.aload_n 0, 1) := by decide +kernel
theorem dX9_runs_14 : decode cX9_runs 14 = .ok (.getfield 323, 3) := by decide +kernel
theorem dX9_runs_17 : decode cX9_runs 17 = .ok (.iload_n 1, 1) := by decide +kernel
theorem dX9_runs_18 : decode cX9_runs 18 = .ok (.iastore, 1) := by decide +kernel
theorem dX9_runs_19 : decode cX9_runs 19 = .ok (.aload_n 0, 1) := by decide +kernel
theorem dX9_runs_20 : decode cX9_runs 20 = .ok (.dup, 1) := by decide +kernel
theorem dX9_runs_21 : decode cX9_runs 21 = .ok (.getfield 323, 3) := by decide +kernel
theorem dX9_runs_24 : decode cX9_runs 24 = .ok (.iconst 1, 1) := by decide +kernel
theorem dX9_runs_25 : decode cX9_runs 25 = .ok (.iadd, 1) := by decide +kernel
theorem dX9_runs_26 : decode cX9_runs 26 = .ok (.putfield 323, 3) := by decide +kernel
theorem dX9_runs_29 : decode cX9_runs 29 = .ok (.return_, 1) := by decide +kernel
theorem dX9_wakesAs_0 : decode cX9_wakesAs 0 = .ok (.iload_n 1, 1) := by decide +kernel
theorem dX9_wakesAs_1 : decode cX9_wakesAs 1 = .ok (.iconst 1, 1) := by decide +kernel
theorem dX9_wakesAs_2 : decode cX9_wakesAs 2 = .ok (.if_icmp .eq 14, 3) := by decide +kernel
theorem dX9_wakesAs_5 : decode cX9_wakesAs 5 = .ok (.iload_n 1, 1) := by decide +kernel
theorem dX9_wakesAs_6 : decode cX9_wakesAs 6 = .ok (.iconst 4, 1) := by decide +kernel
theorem dX9_wakesAs_7 : decode cX9_wakesAs 7 = .ok (.if_icmp .eq 9, 3) := by decide +kernel
theorem dX9_wakesAs_10 : decode cX9_wakesAs 10 = .ok (.iload_n 1, 1) := by decide +kernel
theorem dX9_wakesAs_11 : decode cX9_wakesAs 11 = .ok (.bipush 7, 2) := by decide +kernel
theorem dX9_wakesAs_13 : decode cX9_wakesAs 13 = .ok (.if_icmp .ne 18, 3) := by decide +kernel
theorem dX9_wakesAs_16 : decode cX9_wakesAs 16 = .ok (.aload_n 0, 1) := by decide +kernel
theorem dX9_wakesAs_17 : decode cX9_wakesAs 17 = .ok (.bipush 20, 2) := by decide +kernel
theorem dX9_wakesAs_19 : decode cX9_wakesAs 19 = .ok (.invokevirtual 326, 3) := by decide +kernel
theorem dX9_wakesAs_22 : decode cX9_wakesAs 22 = .ok (.aload_n 0, 1) := by decide +kernel
theorem dX9_wakesAs_23 : decode cX9_wakesAs 23 = .ok (.iconst 0, 1) := by decide +kernel
theorem dX9_wakesAs_24 : decode cX9_wakesAs 24 = .ok (.iload_n 2, 1) := by decide +kernel
theorem dX9_wakesAs_25 : decode cX9_wakesAs 25 = .ok (.invokevirtual 329, 3) := by decide +kernel
theorem dX9_wakesAs_28 : decode cX9_wakesAs 28 = .ok (.iconst 3, 1) := by decide +kernel
theorem dX9_wakesAs_29 : decode cX9_wakesAs 29 = .ok (.iadd, 1) := by decide +kernel
theorem dX9_wakesAs_30 : decode cX9_wakesAs 30 = .ok (.ireturn, 1) := by decide +kernel
theorem dX9_wakesAs_31 : decode cX9_wakesAs 31 = .ok (.iload_n 1, 1) := by decide +kernel
theorem dX9_wakesAs_32 : decode cX9_wakesAs 32 = .ok (.bipush 6, 2) := by decide +kernel
theorem dX9_wakesAs_34 : decode cX9_wakesAs 34 = .ok (.if_icmp .ne 18, 3) := by decide +kernel
theorem dX9_wakesAs_37 : decode cX9_wakesAs 37 = .ok (.aload_n 0, 1) := by decide +kernel
theorem dX9_wakesAs_38 : decode cX9_wakesAs 38 = .ok (.bipush 70, 2) := by decide +kernel
theorem dX9_wakesAs_40 : decode cX9_wakesAs 40 = .ok (.invokevirtual 326, 3) := by decide +kernel
theorem dX9_wakesAs_43 : decode cX9_wakesAs 43 = .ok (.aload_n 0, 1) := by decide +kernel
theorem dX9_wakesAs_44 : decode cX9_wakesAs 44 = .ok (.iconst 0, 1) := by decide +kernel
theorem dX9_wakesAs_45 : decode cX9_wakesAs 45 = .ok (.iload_n 2, 1) := by decide +kernel
theorem dX9_wakesAs_46 : decode cX9_wakesAs 46 = .ok (.invokevirtual 329, 3) := by decide +kernel
theorem dX9_wakesAs_49 : decode cX9_wakesAs 49 = .ok (.iconst 2, 1) := by decide +kernel
theorem dX9_wakesAs_50 : decode cX9_wakesAs 50 = .ok (.imul, 1) := by decide +kernel
theorem dX9_wakesAs_51 : decode cX9_wakesAs 51 = .ok (.ireturn, 1) := by decide +kernel
theorem dX9_wakesAs_52 : decode cX9_wakesAs 52 = .ok (.aload_n 0, 1) := by decide +kernel
theorem dX9_wakesAs_53 : decode cX9_wakesAs 53 = .ok (.iconst 1, 1) := by decide +kernel
theorem dX9_wakesAs_54 : decode cX9_wakesAs 54 = .ok (.invokevirtual 326, 3) := by decide +kernel
theorem dX9_wakesAs_57 : decode cX9_wakesAs 57 = .ok (.iload_n 2, 1) := by decide +kernel
theorem dX9_wakesAs_58 : decode cX9_wakesAs 58 = .ok (.aload_n 0, 1) := by decide +kernel
theorem dX9_wakesAs_59 : decode cX9_wakesAs 59 = .ok (.getfield 332, 3) := by decide +kernel
theorem dX9_wakesAs_62 : decode cX9_wakesAs 62 = .ok (.iadd, 1) := by decide +kernel
theorem dX9_wakesAs_63 : decode cX9_wakesAs 63 = .ok (.ireturn, 1) := by decide +kernel
theorem dX9_hushesAs_0 : decode cX9_hushesAs 0 = .ok (.iload_n 1, 1) := by decide +kernel
theorem dX9_hushesAs_1 : decode cX9_hushesAs 1 = .ok (.iconst 3, 1) := by decide +kernel
theorem dX9_hushesAs_2 : decode cX9_hushesAs 2 = .ok (.if_icmp .eq 8, 3) := by decide +kernel
theorem dX9_hushesAs_5 : decode cX9_hushesAs 5 = .ok (.iload_n 1, 1) := by decide +kernel
theorem dX9_hushesAs_6 : decode cX9_hushesAs 6 = .ok (.iconst 5, 1) := by decide +kernel
theorem dX9_hushesAs_7 : decode cX9_hushesAs 7 = .ok (.if_icmp .ne 18, 3) := by decide +kernel
theorem dX9_hushesAs_10 : decode cX9_hushesAs 10 = .ok (.aload_n 0, 1) := by decide +kernel
theorem dX9_hushesAs_11 : decode cX9_hushesAs 11 = .ok (.bipush 41, 2) := by decide +kernel
theorem dX9_hushesAs_13 : decode cX9_hushesAs 13 = .ok (.invokevirtual 326, 3) := by decide +kernel
theorem dX9_hushesAs_16 : decode cX9_hushesAs 16 = .ok (.aload_n 0, 1) := by decide +kernel
theorem dX9_hushesAs_17 : decode cX9_hushesAs 17 = .ok (.iconst 2, 1) := by decide +kernel
theorem dX9_hushesAs_18 : decode cX9_hushesAs 18 = .ok (.iload_n 2, 1) := by decide +kernel
theorem dX9_hushesAs_19 : decode cX9_hushesAs 19 = .ok (.iconst 1, 1) := by decide +kernel
theorem dX9_hushesAs_20 : decode cX9_hushesAs 20 = .ok (.iadd, 1) := by decide +kernel
theorem dX9_hushesAs_21 : decode cX9_hushesAs 21 = .ok (.invokevirtual 335, 3) := by decide +kernel
theorem dX9_hushesAs_24 : decode cX9_hushesAs 24 = .ok (.ireturn, 1) := by decide +kernel
theorem dX9_hushesAs_25 : decode cX9_hushesAs 25 = .ok (.iload_n 1, 1) := by decide +kernel
theorem dX9_hushesAs_26 : decode cX9_hushesAs 26 = .ok (.iconst 2, 1) := by decide +kernel
theorem dX9_hushesAs_27 : decode cX9_hushesAs 27 = .ok (.if_icmp .ne 17, 3) := by decide +kernel
theorem dX9_hushesAs_30 : decode cX9_hushesAs 30 = .ok (.aload_n 0, 1) := by decide +kernel
theorem dX9_hushesAs_31 : decode cX9_hushesAs 31 = .ok (.bipush 30, 2) := by decide +kernel
theorem dX9_hushesAs_33 : decode cX9_hushesAs 33 = .ok (.invokevirtual 326, 3) := by decide +kernel
theorem dX9_hushesAs_36 : decode cX9_hushesAs 36 = .ok (.aload_n 0, 1) := by decide +kernel
theorem dX9_hushesAs_37 : decode cX9_hushesAs 37 = .ok (.iconst 0, 1) := by decide +kernel
theorem dX9_hushesAs_38 : decode cX9_hushesAs 38 = .ok (.iload_n 2, 1) := by decide +kernel
theorem dX9_hushesAs_39 : decode cX9_hushesAs 39 = .ok (.invokevirtual 335, 3) := by decide +kernel
theorem dX9_hushesAs_42 : decode cX9_hushesAs 42 = .ok (.ineg, 1) := by decide +kernel
theorem dX9_hushesAs_43 : decode cX9_hushesAs 43 = .ok (.ireturn, 1) := by decide +kernel
theorem dX9_hushesAs_44 : decode cX9_hushesAs 44 = .ok (.iload_n 1, 1) := by decide +kernel
theorem dX9_hushesAs_45 : decode cX9_hushesAs 45 = .ok (.bipush 7, 2) := by decide +kernel
theorem dX9_hushesAs_47 : decode cX9_hushesAs 47 = .ok (.if_icmp .ne 28, 3) := by decide +kernel
theorem dX9_hushesAs_50 : decode cX9_hushesAs 50 = .ok (.aload_n 0, 1) := by decide +kernel
theorem dX9_hushesAs_51 : decode cX9_hushesAs 51 = .ok (.bipush 80, 2) := by decide +kernel
theorem dX9_hushesAs_53 : decode cX9_hushesAs 53 = .ok (.invokevirtual 326, 3) := by decide +kernel
theorem dX9_hushesAs_56 : decode cX9_hushesAs 56 = .ok (.aload_n 0, 1) := by decide +kernel
theorem dX9_hushesAs_57 : decode cX9_hushesAs 57 = .ok (.iconst 4, 1) := by decide +kernel
theorem dX9_hushesAs_58 : decode cX9_hushesAs 58 = .ok (.iload_n 2, 1) := by decide +kernel
theorem dX9_hushesAs_59 : decode cX9_hushesAs 59 = .ok (.invokevirtual 335, 3) := by decide +kernel
theorem dX9_hushesAs_62 : decode cX9_hushesAs 62 = .ok (.istore_n 3, 1) := by decide +kernel
theorem dX9_hushesAs_63 : decode cX9_hushesAs 63 = .ok (.iload_n 3, 1) := by decide +kernel
theorem dX9_hushesAs_64 : decode cX9_hushesAs 64 = .ok (.aload_n 0, 1) := by decide +kernel
theorem dX9_hushesAs_65 : decode cX9_hushesAs 65 = .ok (.aload_n 0, 1) := by decide +kernel
theorem dX9_hushesAs_66 : decode cX9_hushesAs 66 = .ok (.getfield 338, 3) := by decide +kernel
theorem dX9_hushesAs_69 : decode cX9_hushesAs 69 = .ok (.iconst 2, 1) := by decide +kernel
theorem dX9_hushesAs_70 : decode cX9_hushesAs 70 = .ok (.invokevirtual 341, 3) := by decide +kernel
theorem dX9_hushesAs_73 : decode cX9_hushesAs 73 = .ok (.iadd, 1) := by decide +kernel
theorem dX9_hushesAs_74 : decode cX9_hushesAs 74 = .ok (.ireturn, 1) := by decide +kernel
theorem dX9_hushesAs_75 : decode cX9_hushesAs 75 = .ok (.aload_n 0, 1) := by decide +kernel
theorem dX9_hushesAs_76 : decode cX9_hushesAs 76 = .ok (.bipush 10, 2) := by decide +kernel
theorem dX9_hushesAs_78 : decode cX9_hushesAs 78 = .ok (.invokevirtual 326, 3) := by decide +kernel
theorem dX9_hushesAs_81 : decode cX9_hushesAs 81 = .ok (.aload_n 0, 1) := by decide +kernel
theorem dX9_hushesAs_82 : decode cX9_hushesAs 82 = .ok (.aload_n 0, 1) := by decide +kernel
theorem dX9_hushesAs_83 : decode cX9_hushesAs 83 = .ok (.getfield 338, 3) := by decide +kernel
theorem dX9_hushesAs_86 : decode cX9_hushesAs 86 = .ok (.iload_n 2, 1) := by decide +kernel
theorem dX9_hushesAs_87 : decode cX9_hushesAs 87 = .ok (.invokevirtual 329, 3) := by decide +kernel
theorem dX9_hushesAs_90 : decode cX9_hushesAs 90 = .ok (.iconst 2, 1) := by decide +kernel
theorem dX9_hushesAs_91 : decode cX9_hushesAs 91 = .ok (.imul, 1) := by decide +kernel
theorem dX9_hushesAs_92 : decode cX9_hushesAs 92 = .ok (.ireturn, 1) := by decide +kernel
theorem dX9_criesAs_0 : decode cX9_criesAs 0 = .ok (.iload_n 1, 1) := by decide +kernel
theorem dX9_criesAs_1 : decode cX9_criesAs 1 = .ok (.iconst 3, 1) := by decide +kernel
theorem dX9_criesAs_2 : decode cX9_criesAs 2 = .ok (.if_icmp .eq 8, 3) := by decide +kernel
theorem dX9_criesAs_5 : decode cX9_criesAs 5 = .ok (.iload_n 1, 1) := by decide +kernel
theorem dX9_criesAs_6 : decode cX9_criesAs 6 = .ok (.iconst 5, 1) := by decide +kernel
theorem dX9_criesAs_7 : decode cX9_criesAs 7 = .ok (.if_icmp .ne 18, 3) := by decide +kernel
theorem dX9_criesAs_10 : decode cX9_criesAs 10 = .ok (.aload_n 0, 1) := by decide +kernel
theorem dX9_criesAs_11 : decode cX9_criesAs 11 = .ok (.bipush 40, 2) := by decide +kernel
theorem dX9_criesAs_13 : decode cX9_criesAs 13 = .ok (.invokevirtual 326, 3) := by decide +kernel
theorem dX9_criesAs_16 : decode cX9_criesAs 16 = .ok (.aload_n 0, 1) := by decide +kernel
theorem dX9_criesAs_17 : decode cX9_criesAs 17 = .ok (.iconst 2, 1) := by decide +kernel
theorem dX9_criesAs_18 : decode cX9_criesAs 18 = .ok (.iload_n 2, 1) := by decide +kernel
theorem dX9_criesAs_19 : decode cX9_criesAs 19 = .ok (.invokevirtual 341, 3) := by decide +kernel
theorem dX9_criesAs_22 : decode cX9_criesAs 22 = .ok (.iconst 3, 1) := by decide +kernel
theorem dX9_criesAs_23 : decode cX9_criesAs 23 = .ok (.imul, 1) := by decide +kernel
theorem dX9_criesAs_24 : decode cX9_criesAs 24 = .ok (.ireturn, 1) := by decide +kernel
theorem dX9_criesAs_25 : decode cX9_criesAs 25 = .ok (.iload_n 1, 1) := by decide +kernel
theorem dX9_criesAs_26 : decode cX9_criesAs 26 = .ok (.iconst 4, 1) := by decide +kernel
theorem dX9_criesAs_27 : decode cX9_criesAs 27 = .ok (.if_icmp .eq 9, 3) := by decide +kernel
theorem dX9_criesAs_30 : decode cX9_criesAs 30 = .ok (.iload_n 1, 1) := by decide +kernel
theorem dX9_criesAs_31 : decode cX9_criesAs 31 = .ok (.bipush 7, 2) := by decide +kernel
theorem dX9_criesAs_33 : decode cX9_criesAs 33 = .ok (.if_icmp .ne 28, 3) := by decide +kernel
theorem dX9_criesAs_36 : decode cX9_criesAs 36 = .ok (.aload_n 0, 1) := by decide +kernel
theorem dX9_criesAs_37 : decode cX9_criesAs 37 = .ok (.bipush 50, 2) := by decide +kernel
theorem dX9_criesAs_39 : decode cX9_criesAs 39 = .ok (.invokevirtual 326, 3) := by decide +kernel
theorem dX9_criesAs_42 : decode cX9_criesAs 42 = .ok (.aload_n 0, 1) := by decide +kernel
theorem dX9_criesAs_43 : decode cX9_criesAs 43 = .ok (.iconst 1, 1) := by decide +kernel
theorem dX9_criesAs_44 : decode cX9_criesAs 44 = .ok (.iload_n 2, 1) := by decide +kernel
theorem dX9_criesAs_45 : decode cX9_criesAs 45 = .ok (.invokevirtual 341, 3) := by decide +kernel
theorem dX9_criesAs_48 : decode cX9_criesAs 48 = .ok (.istore_n 3, 1) := by decide +kernel
theorem dX9_criesAs_49 : decode cX9_criesAs 49 = .ok (.iload_n 3, 1) := by decide +kernel
theorem dX9_criesAs_50 : decode cX9_criesAs 50 = .ok (.aload_n 0, 1) := by decide +kernel
theorem dX9_criesAs_51 : decode cX9_criesAs 51 = .ok (.aload_n 0, 1) := by decide +kernel
theorem dX9_criesAs_52 : decode cX9_criesAs 52 = .ok (.getfield 338, 3) := by decide +kernel
theorem dX9_criesAs_55 : decode cX9_criesAs 55 = .ok (.iconst 2, 1) := by decide +kernel
theorem dX9_criesAs_56 : decode cX9_criesAs 56 = .ok (.invokevirtual 329, 3) := by decide +kernel
theorem dX9_criesAs_59 : decode cX9_criesAs 59 = .ok (.isub, 1) := by decide +kernel
theorem dX9_criesAs_60 : decode cX9_criesAs 60 = .ok (.ireturn, 1) := by decide +kernel
theorem dX9_criesAs_61 : decode cX9_criesAs 61 = .ok (.aload_n 0, 1) := by decide +kernel
theorem dX9_criesAs_62 : decode cX9_criesAs 62 = .ok (.bipush 11, 2) := by decide +kernel
theorem dX9_criesAs_64 : decode cX9_criesAs 64 = .ok (.invokevirtual 326, 3) := by decide +kernel
theorem dX9_criesAs_67 : decode cX9_criesAs 67 = .ok (.iload_n 2, 1) := by decide +kernel
theorem dX9_criesAs_68 : decode cX9_criesAs 68 = .ok (.aload_n 0, 1) := by decide +kernel
theorem dX9_criesAs_69 : decode cX9_criesAs 69 = .ok (.getfield 332, 3) := by decide +kernel
theorem dX9_criesAs_72 : decode cX9_criesAs 72 = .ok (.ixor, 1) := by decide +kernel
theorem dX9_criesAs_73 : decode cX9_criesAs 73 = .ok (.ireturn, 1) := by decide +kernel
theorem dX9_tellsAs_0 : decode cX9_tellsAs 0 = .ok (.iload_n 1, 1) := by decide +kernel
theorem dX9_tellsAs_1 : decode cX9_tellsAs 1 = .ok (.iconst 5, 1) := by decide +kernel
theorem dX9_tellsAs_2 : decode cX9_tellsAs 2 = .ok (.if_icmp .ne 18, 3) := by decide +kernel
theorem dX9_tellsAs_5 : decode cX9_tellsAs 5 = .ok (.aload_n 0, 1) := by decide +kernel
theorem dX9_tellsAs_6 : decode cX9_tellsAs 6 = .ok (.bipush 60, 2) := by decide +kernel
theorem dX9_tellsAs_8 : decode cX9_tellsAs 8 = .ok (.invokevirtual 326, 3) := by decide +kernel
theorem dX9_tellsAs_11 : decode cX9_tellsAs 11 = .ok (.aload_n 0, 1) := by decide +kernel
theorem dX9_tellsAs_12 : decode cX9_tellsAs 12 = .ok (.iconst 3, 1) := by decide +kernel
theorem dX9_tellsAs_13 : decode cX9_tellsAs 13 = .ok (.iload_n 2, 1) := by decide +kernel
theorem dX9_tellsAs_14 : decode cX9_tellsAs 14 = .ok (.invokevirtual 344, 3) := by decide +kernel
theorem dX9_tellsAs_17 : decode cX9_tellsAs 17 = .ok (.iconst 5, 1) := by decide +kernel
theorem dX9_tellsAs_18 : decode cX9_tellsAs 18 = .ok (.ixor, 1) := by decide +kernel
theorem dX9_tellsAs_19 : decode cX9_tellsAs 19 = .ok (.ireturn, 1) := by decide +kernel
theorem dX9_tellsAs_20 : decode cX9_tellsAs 20 = .ok (.iload_n 1, 1) := by decide +kernel
theorem dX9_tellsAs_21 : decode cX9_tellsAs 21 = .ok (.bipush 7, 2) := by decide +kernel
theorem dX9_tellsAs_23 : decode cX9_tellsAs 23 = .ok (.if_icmp .ne 18, 3) := by decide +kernel
theorem dX9_tellsAs_26 : decode cX9_tellsAs 26 = .ok (.aload_n 0, 1) := by decide +kernel
theorem dX9_tellsAs_27 : decode cX9_tellsAs 27 = .ok (.bipush 81, 2) := by decide +kernel
end
section
theorem dX9_tellsAs_29 : decode cX9_tellsAs 29 = .ok (.invokevirtual 326, 3) := by decide +kernel
theorem dX9_tellsAs_32 : decode cX9_tellsAs 32 = .ok (.aload_n 0, 1) := by decide +kernel
theorem dX9_tellsAs_33 : decode cX9_tellsAs 33 = .ok (.iconst 4, 1) := by decide +kernel
theorem dX9_tellsAs_34 : decode cX9_tellsAs 34 = .ok (.iload_n 2, 1) := by decide +kernel
theorem dX9_tellsAs_35 : decode cX9_tellsAs 35 = .ok (.invokevirtual 344, 3) := by decide +kernel
theorem dX9_tellsAs_38 : decode cX9_tellsAs 38 = .ok (.iconst 1, 1) := by decide +kernel
theorem dX9_tellsAs_39 : decode cX9_tellsAs 39 = .ok (.isub, 1) := by decide +kernel
theorem dX9_tellsAs_40 : decode cX9_tellsAs 40 = .ok (.ireturn, 1) := by decide +kernel
theorem dX9_tellsAs_41 : decode cX9_tellsAs 41 = .ok (.aload_n 0, 1) := by decide +kernel
theorem dX9_tellsAs_42 : decode cX9_tellsAs 42 = .ok (.iconst 2, 1) := by decide +kernel
theorem dX9_tellsAs_43 : decode cX9_tellsAs 43 = .ok (.invokevirtual 326, 3) := by decide +kernel
theorem dX9_tellsAs_46 : decode cX9_tellsAs 46 = .ok (.aload_n 0, 1) := by decide +kernel
theorem dX9_tellsAs_47 : decode cX9_tellsAs 47 = .ok (.aload_n 0, 1) := by decide +kernel
theorem dX9_tellsAs_48 : decode cX9_tellsAs 48 = .ok (.getfield 338, 3) := by decide +kernel
theorem dX9_tellsAs_51 : decode cX9_tellsAs 51 = .ok (.iload_n 2, 1) := by decide +kernel
theorem dX9_tellsAs_52 : decode cX9_tellsAs 52 = .ok (.invokevirtual 335, 3) := by decide +kernel
theorem dX9_tellsAs_55 : decode cX9_tellsAs 55 = .ok (.istore_n 3, 1) := by decide +kernel
theorem dX9_tellsAs_56 : decode cX9_tellsAs 56 = .ok (.iload_n 3, 1) := by decide +kernel
theorem dX9_tellsAs_57 : decode cX9_tellsAs 57 = .ok (.aload_n 0, 1) := by decide +kernel
theorem dX9_tellsAs_58 : decode cX9_tellsAs 58 = .ok (.aload_n 0, 1) := by decide +kernel
theorem dX9_tellsAs_59 : decode cX9_tellsAs 59 = .ok (.getfield 338, 3) := by decide +kernel
theorem dX9_tellsAs_62 : decode cX9_tellsAs 62 = .ok (.iconst 1, 1) := by decide +kernel
theorem dX9_tellsAs_63 : decode cX9_tellsAs 63 = .ok (.invokevirtual 341, 3) := by decide +kernel
theorem dX9_tellsAs_66 : decode cX9_tellsAs 66 = .ok (.isub, 1) := by decide +kernel
theorem dX9_tellsAs_67 : decode cX9_tellsAs 67 = .ok (.ireturn, 1) := by decide +kernel
theorem dX9_act_0 : decode cX9_act 0 = .ok (.aload_n 0, 1) := by decide +kernel
theorem dX9_act_1 : decode cX9_act 1 = .ok (.iconst 0, 1) := by decide +kernel
theorem dX9_act_2 : decode cX9_act 2 = .ok (.putfield 323, 3) := by decide +kernel
theorem dX9_act_5 : decode cX9_act 5 = .ok (.aload_n 0, 1) := by decide +kernel
theorem dX9_act_6 : decode cX9_act 6 = .ok (.iload_n 1, 1) := by decide +kernel
theorem dX9_act_7 : decode cX9_act 7 = .ok (.invokevirtual 347, 3) := by decide +kernel
theorem dX9_act_10 : decode cX9_act 10 = .ok (.ifCond .ne 5, 3) := by decide +kernel
theorem dX9_act_13 : decode cX9_act 13 = .ok (.iconst 0, 1) := by decide +kernel
theorem dX9_act_14 : decode cX9_act 14 = .ok (.ireturn, 1) := by decide +kernel
theorem dX9_act_15 : decode cX9_act 15 = .ok (.aload_n 0, 1) := by decide +kernel
theorem dX9_act_16 : decode cX9_act 16 = .ok (.aload_n 0, 1) := by decide +kernel
theorem dX9_act_17 : decode cX9_act 17 = .ok (.getfield 58, 3) := by decide +kernel
theorem dX9_act_20 : decode cX9_act 20 = .ok (.iload_n 1, 1) := by decide +kernel
theorem dX9_act_21 : decode cX9_act 21 = .ok (.iaload, 1) := by decide +kernel
theorem dX9_act_22 : decode cX9_act 22 = .ok (.putfield 338, 3) := by decide +kernel
theorem dX9_act_25 : decode cX9_act 25 = .ok (.aload_n 0, 1) := by decide +kernel
theorem dX9_act_26 : decode cX9_act 26 = .ok (.iload_n 1, 1) := by decide +kernel
theorem dX9_act_27 : decode cX9_act 27 = .ok (.putfield 332, 3) := by decide +kernel
theorem dX9_act_30 : decode cX9_act 30 = .ok (.iload_n 2, 1) := by decide +kernel
theorem dX9_act_31 : decode cX9_act 31 = .ok (.tableswitch 69 0 3 #[29, 39, 49, 59], 29) := by decide +kernel
theorem dX9_act_60 : decode cX9_act 60 = .ok (.aload_n 0, 1) := by decide +kernel
theorem dX9_act_61 : decode cX9_act 61 = .ok (.aload_n 0, 1) := by decide +kernel
theorem dX9_act_62 : decode cX9_act 62 = .ok (.getfield 338, 3) := by decide +kernel
theorem dX9_act_65 : decode cX9_act 65 = .ok (.iload_n 3, 1) := by decide +kernel
theorem dX9_act_66 : decode cX9_act 66 = .ok (.invokevirtual 329, 3) := by decide +kernel
theorem dX9_act_69 : decode cX9_act 69 = .ok (.ireturn, 1) := by decide +kernel
theorem dX9_act_70 : decode cX9_act 70 = .ok (.aload_n 0, 1) := by decide +kernel
theorem dX9_act_71 : decode cX9_act 71 = .ok (.aload_n 0, 1) := by decide +kernel
theorem dX9_act_72 : decode cX9_act 72 = .ok (.getfield 338, 3) := by decide +kernel
theorem dX9_act_75 : decode cX9_act 75 = .ok (.iload_n 3, 1) := by decide +kernel
theorem dX9_act_76 : decode cX9_act 76 = .ok (.invokevirtual 335, 3) := by decide +kernel
theorem dX9_act_79 : decode cX9_act 79 = .ok (.ireturn, 1) := by decide +kernel
theorem dX9_act_80 : decode cX9_act 80 = .ok (.aload_n 0, 1) := by decide +kernel
theorem dX9_act_81 : decode cX9_act 81 = .ok (.aload_n 0, 1) := by decide +kernel
theorem dX9_act_82 : decode cX9_act 82 = .ok (.getfield 338, 3) := by decide +kernel
theorem dX9_act_85 : decode cX9_act 85 = .ok (.iload_n 3, 1) := by decide +kernel
theorem dX9_act_86 : decode cX9_act 86 = .ok (.invokevirtual 341, 3) := by decide +kernel
theorem dX9_act_89 : decode cX9_act 89 = .ok (.ireturn, 1) := by decide +kernel
theorem dX9_act_90 : decode cX9_act 90 = .ok (.aload_n 0, 1) := by decide +kernel
theorem dX9_act_91 : decode cX9_act 91 = .ok (.aload_n 0, 1) := by decide +kernel
theorem dX9_act_92 : decode cX9_act 92 = .ok (.getfield 338, 3) := by decide +kernel
theorem dX9_act_95 : decode cX9_act 95 = .ok (.iload_n 3, 1) := by decide +kernel
theorem dX9_act_96 : decode cX9_act 96 = .ok (.invokevirtual 344, 3) := by decide +kernel
theorem dX9_act_99 : decode cX9_act 99 = .ok (.ireturn, 1) := by decide +kernel
theorem dX9_act_100 : decode cX9_act 100 = .ok (.iconst 0, 1) := by decide +kernel
theorem dX9_act_101 : decode cX9_act 101 = .ok (.ireturn, 1) := by decide +kernel
theorem dX9_trace_0 : decode cX9_trace 0 = .ok (.iload_n 1, 1) := by decide +kernel
theorem dX9_trace_1 : decode cX9_trace 1 = .ok (.ifCond .lt 26, 3) := by decide +kernel
theorem dX9_trace_4 : decode cX9_trace 4 = .ok (.iload_n 1, 1) := by decide +kernel
theorem dX9_trace_5 : decode cX9_trace 5 = .ok (.aload_n 0, 1) := by decide +kernel
theorem dX9_trace_6 : decode cX9_trace 6 = .ok (.getfield 323, 3) := by decide +kernel
theorem dX9_trace_9 : decode cX9_trace 9 = .ok (.if_icmp .ge 18, 3) := by decide +kernel
theorem dX9_trace_12 : decode cX9_trace 12 = .ok (.iload_n 1, 1) := by decide +kernel
theorem dX9_trace_13 : decode cX9_trace 13 = .ok (.bipush 24, 2) := by decide +kernel
theorem dX9_trace_15 : decode cX9_trace 15 = .ok (.if_icmp .ge 12, 3) := by decide +kernel
theorem dX9_trace_18 : decode cX9_trace 18 = .ok (.aload_n 0, 1) := by decide +kernel
theorem dX9_trace_19 : decode cX9_trace 19 = .ok (.getfield 61, 3) := by decide +kernel
theorem dX9_trace_22 : decode cX9_trace 22 = .ok (.iload_n 1, 1) := by decide +kernel
theorem dX9_trace_23 : decode cX9_trace 23 = .ok (.iaload, 1) := by decide +kernel
theorem dX9_trace_24 : decode cX9_trace 24 = .ok (.goto 4, 3) := by decide +kernel
theorem dX9_trace_27 : decode cX9_trace 27 = .ok (.iconst (-1), 1) := by decide +kernel
theorem dX9_trace_28 : decode cX9_trace 28 = .ok (.ireturn, 1) := by decide +kernel
theorem dX9_isShelf_0 : decode cX9_isShelf 0 = .ok (.iload_n 0, 1) := by decide +kernel
theorem dX9_isShelf_1 : decode cX9_isShelf 1 = .ok (.i2l, 1) := by decide +kernel
theorem dX9_isShelf_2 : decode cX9_isShelf 2 = .ok (.lconst 0, 1) := by decide +kernel
theorem dX9_isShelf_3 : decode cX9_isShelf 3 = .ok (.ldc2_w 130, 3) := by decide +kernel
theorem dX9_isShelf_6 : decode cX9_isShelf 6 = .ok (.invokestatic 98, 3) := by decide +kernel
theorem dX9_isShelf_9 : decode cX9_isShelf 9 = .ok (.ireturn, 1) := by decide +kernel
theorem dX9_keep_0 : decode cX9_keep 0 = .ok (.iload_n 1, 1) := by decide +kernel
theorem dX9_keep_1 : decode cX9_keep 1 = .ok (.invokestatic 119, 3) := by decide +kernel
theorem dX9_keep_4 : decode cX9_keep 4 = .ok (.ifCond .eq 16, 3) := by decide +kernel
theorem dX9_keep_7 : decode cX9_keep 7 = .ok (.iload_n 2, 1) := by decide +kernel
theorem dX9_keep_8 : decode cX9_keep 8 = .ok (.iconst (-1), 1) := by decide +kernel
theorem dX9_keep_9 : decode cX9_keep 9 = .ok (.if_icmp .eq 13, 3) := by decide +kernel
theorem dX9_keep_12 : decode cX9_keep 12 = .ok (.aload_n 0, 1) := by decide +kernel
theorem dX9_keep_13 : decode cX9_keep 13 = .ok (.iload_n 2, 1) := by decide +kernel
theorem dX9_keep_14 : decode cX9_keep 14 = .ok (.invokevirtual 347, 3) := by decide +kernel
theorem dX9_keep_17 : decode cX9_keep 17 = .ok (.ifCond .ne 5, 3) := by decide +kernel
theorem dX9_keep_20 : decode cX9_keep 20 = .ok (.iconst (-1), 1) := by decide +kernel
theorem dX9_keep_21 : decode cX9_keep 21 = .ok (.ireturn, 1) := by decide +kernel
theorem dX9_keep_22 : decode cX9_keep 22 = .ok (.aload_n 0, 1) := by decide +kernel
theorem dX9_keep_23 : decode cX9_keep 23 = .ok (.getfield 64, 3) := by decide +kernel
theorem dX9_keep_26 : decode cX9_keep 26 = .ok (.iload_n 1, 1) := by decide +kernel
theorem dX9_keep_27 : decode cX9_keep 27 = .ok (.iload_n 2, 1) := by decide +kernel
theorem dX9_keep_28 : decode cX9_keep 28 = .ok (.iastore, 1) := by decide +kernel
theorem dX9_keep_29 : decode cX9_keep 29 = .ok (.aload_n 0, 1) := by decide +kernel
theorem dX9_keep_30 : decode cX9_keep 30 = .ok (.getfield 67, 3) := by decide +kernel
theorem dX9_keep_33 : decode cX9_keep 33 = .ok (.iload_n 1, 1) := by decide +kernel
theorem dX9_keep_34 : decode cX9_keep 34 = .ok (.iconst 0, 1) := by decide +kernel
theorem dX9_keep_35 : decode cX9_keep 35 = .ok (.iastore, 1) := by decide +kernel
theorem dX9_keep_36 : decode cX9_keep 36 = .ok (.iconst 1, 1) := by decide +kernel
theorem dX9_keep_37 : decode cX9_keep 37 = .ok (.ireturn, 1) := by decide +kernel
theorem dX9_row_0 : decode cX9_row 0 = .ok (.iload_n 1, 1) := by decide +kernel
theorem dX9_row_1 : decode cX9_row 1 = .ok (.invokestatic 119, 3) := by decide +kernel
theorem dX9_row_4 : decode cX9_row 4 = .ok (.ifCond .eq 21, 3) := by decide +kernel
theorem dX9_row_7 : decode cX9_row 7 = .ok (.iload_n 2, 1) := by decide +kernel
theorem dX9_row_8 : decode cX9_row 8 = .ok (.i2l, 1) := by decide +kernel
theorem dX9_row_9 : decode cX9_row 9 = .ok (.lconst 0, 1) := by decide +kernel
theorem dX9_row_10 : decode cX9_row 10 = .ok (.ldc2_w 125, 3) := by decide +kernel
theorem dX9_row_13 : decode cX9_row 13 = .ok (.invokestatic 98, 3) := by decide +kernel
theorem dX9_row_16 : decode cX9_row 16 = .ok (.ifCond .eq 9, 3) := by decide +kernel
theorem dX9_row_19 : decode cX9_row 19 = .ok (.iload_n 3, 1) := by decide +kernel
theorem dX9_row_20 : decode cX9_row 20 = .ok (.bipush 60, 2) := by decide +kernel
theorem dX9_row_22 : decode cX9_row 22 = .ok (.if_icmp .le 5, 3) := by decide +kernel
theorem dX9_row_25 : decode cX9_row 25 = .ok (.iconst (-1), 1) := by decide +kernel
theorem dX9_row_26 : decode cX9_row 26 = .ok (.ireturn, 1) := by decide +kernel
theorem dX9_row_27 : decode cX9_row 27 = .ok (.iload_n 3, 1) := by decide +kernel
theorem dX9_row_28 : decode cX9_row 28 = .ok (.ifCond .ge 6, 3) := by decide +kernel
theorem dX9_row_31 : decode cX9_row 31 = .ok (.bipush (-14), 2) := by decide +kernel
theorem dX9_row_33 : decode cX9_row 33 = .ok (.ireturn, 1) := by decide +kernel
theorem dX9_row_34 : decode cX9_row 34 = .ok (.aload_n 0, 1) := by decide +kernel
theorem dX9_row_35 : decode cX9_row 35 = .ok (.getfield 64, 3) := by decide +kernel
theorem dX9_row_38 : decode cX9_row 38 = .ok (.iload_n 1, 1) := by decide +kernel
theorem dX9_row_39 : decode cX9_row 39 = .ok (.bipush 50, 2) := by decide +kernel
theorem dX9_row_41 : decode cX9_row 41 = .ok (.iload_n 2, 1) := by decide +kernel
theorem dX9_row_42 : decode cX9_row 42 = .ok (.iadd, 1) := by decide +kernel
theorem dX9_row_43 : decode cX9_row 43 = .ok (.iastore, 1) := by decide +kernel
theorem dX9_row_44 : decode cX9_row 44 = .ok (.aload_n 0, 1) := by decide +kernel
theorem dX9_row_45 : decode cX9_row 45 = .ok (.getfield 67, 3) := by decide +kernel
theorem dX9_row_48 : decode cX9_row 48 = .ok (.iload_n 1, 1) := by decide +kernel
theorem dX9_row_49 : decode cX9_row 49 = .ok (.iload_n 3, 1) := by decide +kernel
theorem dX9_row_50 : decode cX9_row 50 = .ok (.iastore, 1) := by decide +kernel
theorem dX9_row_51 : decode cX9_row 51 = .ok (.bipush 60, 2) := by decide +kernel
theorem dX9_row_53 : decode cX9_row 53 = .ok (.iload_n 1, 1) := by decide +kernel
theorem dX9_row_54 : decode cX9_row 54 = .ok (.imul, 1) := by decide +kernel
theorem dX9_row_55 : decode cX9_row 55 = .ok (.istore 4, 2) := by decide +kernel
theorem dX9_row_57 : decode cX9_row 57 = .ok (.iload 4, 2) := by decide +kernel
theorem dX9_row_59 : decode cX9_row 59 = .ok (.bipush 60, 2) := by decide +kernel
theorem dX9_row_61 : decode cX9_row 61 = .ok (.iload_n 1, 1) := by decide +kernel
theorem dX9_row_62 : decode cX9_row 62 = .ok (.imul, 1) := by decide +kernel
theorem dX9_row_63 : decode cX9_row 63 = .ok (.bipush 60, 2) := by decide +kernel
theorem dX9_row_65 : decode cX9_row 65 = .ok (.iadd, 1) := by decide +kernel
theorem dX9_row_66 : decode cX9_row 66 = .ok (.if_icmp .ge 17, 3) := by decide +kernel
theorem dX9_row_69 : decode cX9_row 69 = .ok (.aload_n 0, 1) := by decide +kernel
theorem dX9_row_70 : decode cX9_row 70 = .ok (.getfield 70, 3) := by decide +kernel
theorem dX9_row_73 : decode cX9_row 73 = .ok (.iload 4, 2) := by decide +kernel
theorem dX9_row_75 : decode cX9_row 75 = .ok (.lconst 0, 1) := by decide +kernel
theorem dX9_row_76 : decode cX9_row 76 = .ok (.lastore, 1) := by decide +kernel
theorem dX9_row_77 : decode cX9_row 77 = .ok (.iinc 4 1, 3) := by decide +kernel
theorem dX9_row_80 : decode cX9_row 80 = .ok (.goto (-23), 3) := by decide +kernel
theorem dX9_row_83 : decode cX9_row 83 = .ok (.iconst 1, 1) := by decide +kernel
theorem dX9_row_84 : decode cX9_row 84 = .ok (.ireturn, 1) := by decide +kernel
theorem dX9_refusal_0 : decode cX9_refusal 0 = .ok (.iload_n 1, 1) := by decide +kernel
theorem dX9_refusal_1 : decode cX9_refusal 1 = .ok (.invokestatic 119, 3) := by decide +kernel
theorem dX9_refusal_4 : decode cX9_refusal 4 = .ok (.ifCond .ne 5, 3) := by decide +kernel
theorem dX9_refusal_7 : decode cX9_refusal 7 = .ok (.iconst (-1), 1) := by decide +kernel
theorem dX9_refusal_8 : decode cX9_refusal 8 = .ok (.ireturn, 1) := by decide +kernel
theorem dX9_refusal_9 : decode cX9_refusal 9 = .ok (.aload_n 0, 1) := by decide +kernel
theorem dX9_refusal_10 : decode cX9_refusal 10 = .ok (.getfield 64, 3) := by decide +kernel
theorem dX9_refusal_13 : decode cX9_refusal 13 = .ok (.iload_n 1, 1) := by decide +kernel
theorem dX9_refusal_14 : decode cX9_refusal 14 = .ok (.iaload, 1) := by decide +kernel
theorem dX9_refusal_15 : decode cX9_refusal 15 = .ok (.ifCond .ge 6, 3) := by decide +kernel
theorem dX9_refusal_18 : decode cX9_refusal 18 = .ok (.bipush (-11), 2) := by decide +kernel
theorem dX9_refusal_20 : decode cX9_refusal 20 = .ok (.ireturn, 1) := by decide +kernel
theorem dX9_refusal_21 : decode cX9_refusal 21 = .ok (.aload_n 0, 1) := by decide +kernel
theorem dX9_refusal_22 : decode cX9_refusal 22 = .ok (.getfield 64, 3) := by decide +kernel
theorem dX9_refusal_25 : decode cX9_refusal 25 = .ok (.iload_n 1, 1) := by decide +kernel
theorem dX9_refusal_26 : decode cX9_refusal 26 = .ok (.iaload, 1) := by decide +kernel
theorem dX9_refusal_27 : decode cX9_refusal 27 = .ok (.bipush 50, 2) := by decide +kernel
theorem dX9_refusal_29 : decode cX9_refusal 29 = .ok (.if_icmp .ge 6, 3) := by decide +kernel
theorem dX9_refusal_32 : decode cX9_refusal 32 = .ok (.bipush (-12), 2) := by decide +kernel
theorem dX9_refusal_34 : decode cX9_refusal 34 = .ok (.ireturn, 1) := by decide +kernel
theorem dX9_refusal_35 : decode cX9_refusal 35 = .ok (.iload_n 2, 1) := by decide +kernel
theorem dX9_refusal_36 : decode cX9_refusal 36 = .ok (.ifCond .lt 17, 3) := by decide +kernel
theorem dX9_refusal_39 : decode cX9_refusal 39 = .ok (.iload_n 2, 1) := by decide +kernel
theorem dX9_refusal_40 : decode cX9_refusal 40 = .ok (.aload_n 0, 1) := by decide +kernel
theorem dX9_refusal_41 : decode cX9_refusal 41 = .ok (.getfield 67, 3) := by decide +kernel
theorem dX9_refusal_44 : decode cX9_refusal 44 = .ok (.iload_n 1, 1) := by decide +kernel
theorem dX9_refusal_45 : decode cX9_refusal 45 = .ok (.iaload, 1) := by decide +kernel
theorem dX9_refusal_46 : decode cX9_refusal 46 = .ok (.if_icmp .ge 7, 3) := by decide +kernel
theorem dX9_refusal_49 : decode cX9_refusal 49 = .ok (.iconst 0, 1) := by decide +kernel
theorem dX9_refusal_50 : decode cX9_refusal 50 = .ok (.goto 5, 3) := by decide +kernel
theorem dX9_refusal_53 : decode cX9_refusal 53 = .ok (.bipush (-13), 2) := by decide +kernel
theorem dX9_refusal_55 : decode cX9_refusal 55 = .ok (.ireturn, 1) := by decide +kernel
theorem dX9_asSort_0 : decode cX9_asSort 0 = .ok (.iload_n 0, 1) := by decide +kernel
theorem dX9_asSort_1 : decode cX9_asSort 1 = .ok (.ifCond .ne 10, 3) := by decide +kernel
theorem dX9_asSort_4 : decode cX9_asSort 4 = .ok (.lload_n 1, 1) := by decide +kernel
theorem dX9_asSort_5 : decode cX9_asSort 5 = .ok (.l2i, 1) := by decide +kernel
theorem dX9_asSort_6 : decode cX9_asSort 6 = .ok (.i2b, 1) := by decide +kernel
theorem dX9_asSort_7 : decode cX9_asSort 7 = .ok (.i2l, 1) := by decide +kernel
theorem dX9_asSort_8 : decode cX9_asSort 8 = .ok (.goto 46, 3) := by decide +kernel
theorem dX9_asSort_11 : decode cX9_asSort 11 = .ok (.iload_n 0, 1) := by decide +kernel
theorem dX9_asSort_12 : decode cX9_asSort 12 = .ok (.iconst 1, 1) := by decide +kernel
theorem dX9_asSort_13 : decode cX9_asSort 13 = .ok (.if_icmp .ne 10, 3) := by decide +kernel
theorem dX9_asSort_16 : decode cX9_asSort 16 = .ok (.lload_n 1, 1) := by decide +kernel
theorem dX9_asSort_17 : decode cX9_asSort 17 = .ok (.l2i, 1) := by decide +kernel
theorem dX9_asSort_18 : decode cX9_asSort 18 = .ok (.i2s, 1) := by decide +kernel
theorem dX9_asSort_19 : decode cX9_asSort 19 = .ok (.i2l, 1) := by decide +kernel
theorem dX9_asSort_20 : decode cX9_asSort 20 = .ok (.goto 34, 3) := by decide +kernel
theorem dX9_asSort_23 : decode cX9_asSort 23 = .ok (.iload_n 0, 1) := by decide +kernel
theorem dX9_asSort_24 : decode cX9_asSort 24 = .ok (.iconst 2, 1) := by decide +kernel
theorem dX9_asSort_25 : decode cX9_asSort 25 = .ok (.if_icmp .ne 9, 3) := by decide +kernel
theorem dX9_asSort_28 : decode cX9_asSort 28 = .ok (.lload_n 1, 1) := by decide +kernel
theorem dX9_asSort_29 : decode cX9_asSort 29 = .ok (.l2i, 1) := by decide +kernel
theorem dX9_asSort_30 : decode cX9_asSort 30 = .ok (.i2l, 1) := by decide +kernel
theorem dX9_asSort_31 : decode cX9_asSort 31 = .ok (.goto 23, 3) := by decide +kernel
theorem dX9_asSort_34 : decode cX9_asSort 34 = .ok (.iload_n 0, 1) := by decide +kernel
theorem dX9_asSort_35 : decode cX9_asSort 35 = .ok (.iconst 4, 1) := by decide +kernel
theorem dX9_asSort_36 : decode cX9_asSort 36 = .ok (.if_icmp .ne 17, 3) := by decide +kernel
theorem dX9_asSort_39 : decode cX9_asSort 39 = .ok (.lload_n 1, 1) := by decide +kernel
theorem dX9_asSort_40 : decode cX9_asSort 40 = .ok (.lconst 0, 1) := by decide +kernel
theorem dX9_asSort_41 : decode cX9_asSort 41 = .ok (.lcmp, 1) := by decide +kernel
theorem dX9_asSort_42 : decode cX9_asSort 42 = .ok (.ifCond .eq 7, 3) := by decide +kernel
theorem dX9_asSort_45 : decode cX9_asSort 45 = .ok (.lconst 1, 1) := by decide +kernel
theorem dX9_asSort_46 : decode cX9_asSort 46 = .ok (.goto 8, 3) := by decide +kernel
theorem dX9_asSort_49 : decode cX9_asSort 49 = .ok (.lconst 0, 1) := by decide +kernel
theorem dX9_asSort_50 : decode cX9_asSort 50 = .ok (.goto 4, 3) := by decide +kernel
theorem dX9_asSort_53 : decode cX9_asSort 53 = .ok (.lload_n 1, 1) := by decide +kernel
theorem dX9_asSort_54 : decode cX9_asSort 54 = .ok (.lreturn, 1) := by decide +kernel
theorem dX9_put_0 : decode cX9_put 0 = .ok (.aload_n 0, 1) := by decide +kernel
theorem dX9_put_1 : decode cX9_put 1 = .ok (.iload_n 1, 1) := by decide +kernel
theorem dX9_put_2 : decode cX9_put 2 = .ok (.iload_n 2, 1) := by decide +kernel
theorem dX9_put_3 : decode cX9_put 3 = .ok (.invokevirtual 350, 3) := by decide +kernel
theorem dX9_put_6 : decode cX9_put 6 = .ok (.istore 5, 2) := by decide +kernel
theorem dX9_put_8 : decode cX9_put 8 = .ok (.iload 5, 2) := by decide +kernel
theorem dX9_put_10 : decode cX9_put 10 = .ok (.ifCond .ne 27, 3) := by decide +kernel
theorem dX9_put_13 : decode cX9_put 13 = .ok (.aload_n 0, 1) := by decide +kernel
theorem dX9_put_14 : decode cX9_put 14 = .ok (.getfield 70, 3) := by decide +kernel
theorem dX9_put_17 : decode cX9_put 17 = .ok (.bipush 60, 2) := by decide +kernel
theorem dX9_put_19 : decode cX9_put 19 = .ok (.iload_n 1, 1) := by decide +kernel
theorem dX9_put_20 : decode cX9_put 20 = .ok (.imul, 1) := by decide +kernel
theorem dX9_put_21 : decode cX9_put 21 = .ok (.iload_n 2, 1) := by decide +kernel
theorem dX9_put_22 : decode cX9_put 22 = .ok (.iadd, 1) := by decide +kernel
theorem dX9_put_23 : decode cX9_put 23 = .ok (.aload_n 0, 1) := by decide +kernel
theorem dX9_put_24 : decode cX9_put 24 = .ok (.getfield 64, 3) := by decide +kernel
theorem dX9_put_27 : decode cX9_put 27 = .ok (.iload_n 1, 1) := by decide +kernel
theorem dX9_put_28 : decode cX9_put 28 = .ok (.iaload, 1) := by decide +kernel
theorem dX9_put_29 : decode cX9_put 29 = .ok (.bipush 50, 2) := by decide +kernel
theorem dX9_put_31 : decode cX9_put 31 = .ok (.isub, 1) := by decide +kernel
theorem dX9_put_32 : decode cX9_put 32 = .ok (.lload_n 3, 1) := by decide +kernel
theorem dX9_put_33 : decode cX9_put 33 = .ok (.invokestatic 353, 3) := by decide +kernel
theorem dX9_put_36 : decode cX9_put 36 = .ok (.lastore, 1) := by decide +kernel
theorem dX9_put_37 : decode cX9_put 37 = .ok (.iload 5, 2) := by decide +kernel
theorem dX9_put_39 : decode cX9_put 39 = .ok (.ifCond .ne 7, 3) := by decide +kernel
theorem dX9_put_42 : decode cX9_put 42 = .ok (.iconst 1, 1) := by decide +kernel
theorem dX9_put_43 : decode cX9_put 43 = .ok (.goto 5, 3) := by decide +kernel
theorem dX9_put_46 : decode cX9_put 46 = .ok (.iload 5, 2) := by decide +kernel
theorem dX9_put_48 : decode cX9_put 48 = .ok (.ireturn, 1) := by decide +kernel
theorem dX9_element_0 : decode cX9_element 0 = .ok (.aload_n 0, 1) := by decide +kernel
theorem dX9_element_1 : decode cX9_element 1 = .ok (.iload_n 1, 1) := by decide +kernel
theorem dX9_element_2 : decode cX9_element 2 = .ok (.iload_n 2, 1) := by decide +kernel
theorem dX9_element_3 : decode cX9_element 3 = .ok (.invokevirtual 350, 3) := by decide +kernel
theorem dX9_element_6 : decode cX9_element 6 = .ok (.ifCond .eq 9, 3) := by decide +kernel
theorem dX9_element_9 : decode cX9_element 9 = .ok (.ldc2_w 359, 3) := by decide +kernel
theorem dX9_element_12 : decode cX9_element 12 = .ok (.goto 14, 3) := by decide +kernel
theorem dX9_element_15 : decode cX9_element 15 = .ok (.aload_n 0, 1) := by decide +kernel
theorem dX9_element_16 : decode cX9_element 16 = .ok (.getfield 70, 3) := by decide +kernel
theorem dX9_element_19 : decode cX9_element 19 = .ok (.bipush 60, 2) := by decide +kernel
theorem dX9_element_21 : decode cX9_element 21 = .ok (.iload_n 1, 1) := by decide +kernel
theorem dX9_element_22 : decode cX9_element 22 = .ok (.imul, 1) := by decide +kernel
theorem dX9_element_23 : decode cX9_element 23 = .ok (.iload_n 2, 1) := by decide +kernel
theorem dX9_element_24 : decode cX9_element 24 = .ok (.iadd, 1) := by decide +kernel
theorem dX9_element_25 : decode cX9_element 25 = .ok (.laload, 1) := by decide +kernel
theorem dX9_element_26 : decode cX9_element 26 = .ok (.lreturn, 1) := by decide +kernel
theorem dX9_shift_0 : decode cX9_shift 0 = .ok (.iload_n 1, 1) := by decide +kernel
theorem dX9_shift_1 : decode cX9_shift 1 = .ok (.invokestatic 119, 3) := by decide +kernel
theorem dX9_shift_4 : decode cX9_shift 4 = .ok (.ifCond .eq 10, 3) := by decide +kernel
theorem dX9_shift_7 : decode cX9_shift 7 = .ok (.iload_n 3, 1) := by decide +kernel
theorem dX9_shift_8 : decode cX9_shift 8 = .ok (.invokestatic 119, 3) := by decide +kernel
theorem dX9_shift_11 : decode cX9_shift 11 = .ok (.ifCond .ne 5, 3) := by decide +kernel
theorem dX9_shift_14 : decode cX9_shift 14 = .ok (.iconst (-1), 1) := by decide +kernel
theorem dX9_shift_15 : decode cX9_shift 15 = .ok (.ireturn, 1) := by decide +kernel
theorem dX9_shift_16 : decode cX9_shift 16 = .ok (.aload_n 0, 1) := by decide +kernel
theorem dX9_shift_17 : decode cX9_shift 17 = .ok (.getfield 64, 3) := by decide +kernel
theorem dX9_shift_20 : decode cX9_shift 20 = .ok (.iload_n 1, 1) := by decide +kernel
theorem dX9_shift_21 : decode cX9_shift 21 = .ok (.iaload, 1) := by decide +kernel
theorem dX9_shift_22 : decode cX9_shift 22 = .ok (.ifCond .lt 12, 3) := by decide +kernel
theorem dX9_shift_25 : decode cX9_shift 25 = .ok (.aload_n 0, 1) := by decide +kernel
theorem dX9_shift_26 : decode cX9_shift 26 = .ok (.getfield 64, 3) := by decide +kernel
theorem dX9_shift_29 : decode cX9_shift 29 = .ok (.iload_n 3, 1) := by decide +kernel
theorem dX9_shift_30 : decode cX9_shift 30 = .ok (.iaload, 1) := by decide +kernel
theorem dX9_shift_31 : decode cX9_shift 31 = .ok (.ifCond .ge 6, 3) := by decide +kernel
theorem dX9_shift_34 : decode cX9_shift 34 = .ok (.bipush (-11), 2) := by decide +kernel
theorem dX9_shift_36 : decode cX9_shift 36 = .ok (.ireturn, 1) := by decide +kernel
theorem dX9_shift_37 : decode cX9_shift 37 = .ok (.aload_n 0, 1) := by decide +kernel
theorem dX9_shift_38 : decode cX9_shift 38 = .ok (.getfield 64, 3) := by decide +kernel
theorem dX9_shift_41 : decode cX9_shift 41 = .ok (.iload_n 1, 1) := by decide +kernel
theorem dX9_shift_42 : decode cX9_shift 42 = .ok (.iaload, 1) := by decide +kernel
theorem dX9_shift_43 : decode cX9_shift 43 = .ok (.bipush 50, 2) := by decide +kernel
theorem dX9_shift_45 : decode cX9_shift 45 = .ok (.if_icmp .lt 18, 3) := by decide +kernel
theorem dX9_shift_48 : decode cX9_shift 48 = .ok (.aload_n 0, 1) := by decide +kernel
theorem dX9_shift_49 : decode cX9_shift 49 = .ok (.getfield 64, 3) := by decide +kernel
theorem dX9_shift_52 : decode cX9_shift 52 = .ok (.iload_n 1, 1) := by decide +kernel
theorem dX9_shift_53 : decode cX9_shift 53 = .ok (.iaload, 1) := by decide +kernel
theorem dX9_shift_54 : decode cX9_shift 54 = .ok (.aload_n 0, 1) := by decide +kernel
theorem dX9_shift_55 : decode cX9_shift 55 = .ok (.getfield 64, 3) := by decide +kernel
theorem dX9_shift_58 : decode cX9_shift 58 = .ok (.iload_n 3, 1) := by decide +kernel
theorem dX9_shift_59 : decode cX9_shift 59 = .ok (.iaload, 1) := by decide +kernel
theorem dX9_shift_60 : decode cX9_shift 60 = .ok (.if_icmp .eq 6, 3) := by decide +kernel
theorem dX9_shift_63 : decode cX9_shift 63 = .ok (.bipush (-12), 2) := by decide +kernel
theorem dX9_shift_65 : decode cX9_shift 65 = .ok (.ireturn, 1) := by decide +kernel
theorem dX9_shift_66 : decode cX9_shift 66 = .ok (.iload 5, 2) := by decide +kernel
theorem dX9_shift_68 : decode cX9_shift 68 = .ok (.ifCond .lt 39, 3) := by decide +kernel
theorem dX9_shift_71 : decode cX9_shift 71 = .ok (.iload_n 2, 1) := by decide +kernel
theorem dX9_shift_72 : decode cX9_shift 72 = .ok (.ifCond .lt 35, 3) := by decide +kernel
theorem dX9_shift_75 : decode cX9_shift 75 = .ok (.iload 4, 2) := by decide +kernel
theorem dX9_shift_77 : decode cX9_shift 77 = .ok (.ifCond .lt 30, 3) := by decide +kernel
theorem dX9_shift_80 : decode cX9_shift 80 = .ok (.iload_n 2, 1) := by decide +kernel
theorem dX9_shift_81 : decode cX9_shift 81 = .ok (.aload_n 0, 1) := by decide +kernel
theorem dX9_shift_82 : decode cX9_shift 82 = .ok (.getfield 67, 3) := by decide +kernel
theorem dX9_shift_85 : decode cX9_shift 85 = .ok (.iload_n 1, 1) := by decide +kernel
theorem dX9_shift_86 : decode cX9_shift 86 = .ok (.iaload, 1) := by decide +kernel
theorem dX9_shift_87 : decode cX9_shift 87 = .ok (.iload 5, 2) := by decide +kernel
theorem dX9_shift_89 : decode cX9_shift 89 = .ok (.isub, 1) := by decide +kernel
theorem dX9_shift_90 : decode cX9_shift 90 = .ok (.if_icmp .gt 17, 3) := by decide +kernel
theorem dX9_shift_93 : decode cX9_shift 93 = .ok (.iload 4, 2) := by decide +kernel
theorem dX9_shift_95 : decode cX9_shift 95 = .ok (.aload_n 0, 1) := by decide +kernel
theorem dX9_shift_96 : decode cX9_shift 96 = .ok (.getfield 67, 3) := by decide +kernel
theorem dX9_shift_99 : decode cX9_shift 99 = .ok (.iload_n 3, 1) := by decide +kernel
theorem dX9_shift_100 : decode cX9_shift 100 = .ok (.iaload, 1) := by decide +kernel
theorem dX9_shift_101 : decode cX9_shift 101 = .ok (.iload 5, 2) := by decide +kernel
theorem dX9_shift_103 : decode cX9_shift 103 = .ok (.isub, 1) := by decide +kernel
theorem dX9_shift_104 : decode cX9_shift 104 = .ok (.if_icmp .le 6, 3) := by decide +kernel
theorem dX9_shift_107 : decode cX9_shift 107 = .ok (.bipush (-13), 2) := by decide +kernel
theorem dX9_shift_109 : decode cX9_shift 109 = .ok (.ireturn, 1) := by decide +kernel
theorem dX9_shift_110 : decode cX9_shift 110 = .ok (.iconst 0, 1) := by decide +kernel
theorem dX9_shift_111 : decode cX9_shift 111 = .ok (.istore 6, 2) := by decide +kernel
theorem dX9_shift_113 : decode cX9_shift 113 = .ok (.iload 6, 2) := by decide +kernel
theorem dX9_shift_115 : decode cX9_shift 115 = .ok (.iload 5, 2) := by decide +kernel
theorem dX9_shift_117 : decode cX9_shift 117 = .ok (.if_icmp .ge 30, 3) := by decide +kernel
theorem dX9_shift_120 : decode cX9_shift 120 = .ok (.aload_n 0, 1) := by decide +kernel
theorem dX9_shift_121 : decode cX9_shift 121 = .ok (.getfield 74, 3) := by decide +kernel
theorem dX9_shift_124 : decode cX9_shift 124 = .ok (.iload 6, 2) := by decide +kernel
theorem dX9_shift_126 : decode cX9_shift 126 = .ok (.aload_n 0, 1) := by decide +kernel
theorem dX9_shift_127 : decode cX9_shift 127 = .ok (.getfield 70, 3) := by decide +kernel
theorem dX9_shift_130 : decode cX9_shift 130 = .ok (.bipush 60, 2) := by decide +kernel
theorem dX9_shift_132 : decode cX9_shift 132 = .ok (.iload_n 1, 1) := by decide +kernel
theorem dX9_shift_133 : decode cX9_shift 133 = .ok (.imul, 1) := by decide +kernel
theorem dX9_shift_134 : decode cX9_shift 134 = .ok (.iload_n 2, 1) := by decide +kernel
theorem dX9_shift_135 : decode cX9_shift 135 = .ok (.iadd, 1) := by decide +kernel
theorem dX9_shift_136 : decode cX9_shift 136 = .ok (.iload 6, 2) := by decide +kernel
theorem dX9_shift_138 : decode cX9_shift 138 = .ok (.iadd, 1) := by decide +kernel
theorem dX9_shift_139 : decode cX9_shift 139 = .ok (.laload, 1) := by decide +kernel
theorem dX9_shift_140 : decode cX9_shift 140 = .ok (.lastore, 1) := by decide +kernel
theorem dX9_shift_141 : decode cX9_shift 141 = .ok (.iinc 6 1, 3) := by decide +kernel
theorem dX9_shift_144 : decode cX9_shift 144 = .ok (.goto (-31), 3) := by decide +kernel
theorem dX9_shift_147 : decode cX9_shift 147 = .ok (.iconst 0, 1) := by decide +kernel
theorem dX9_shift_148 : decode cX9_shift 148 = .ok (.istore 6, 2) := by decide +kernel
theorem dX9_shift_150 : decode cX9_shift 150 = .ok (.iload 6, 2) := by decide +kernel
theorem dX9_shift_152 : decode cX9_shift 152 = .ok (.iload 5, 2) := by decide +kernel
theorem dX9_shift_154 : decode cX9_shift 154 = .ok (.if_icmp .ge 31, 3) := by decide +kernel
theorem dX9_shift_157 : decode cX9_shift 157 = .ok (.aload_n 0, 1) := by decide +kernel
theorem dX9_shift_158 : decode cX9_shift 158 = .ok (.getfield 70, 3) := by decide +kernel
theorem dX9_shift_161 : decode cX9_shift 161 = .ok (.bipush 60, 2) := by decide +kernel
theorem dX9_shift_163 : decode cX9_shift 163 = .ok (.iload_n 3, 1) := by decide +kernel
theorem dX9_shift_164 : decode cX9_shift 164 = .ok (.imul, 1) := by decide +kernel
theorem dX9_shift_165 : decode cX9_shift 165 = .ok (.iload 4, 2) := by decide +kernel
theorem dX9_shift_167 : decode cX9_shift 167 = .ok (.iadd, 1) := by decide +kernel
theorem dX9_shift_168 : decode cX9_shift 168 = .ok (.iload 6, 2) := by decide +kernel
theorem dX9_shift_170 : decode cX9_shift 170 = .ok (.iadd, 1) := by decide +kernel
theorem dX9_shift_171 : decode cX9_shift 171 = .ok (.aload_n 0, 1) := by decide +kernel
theorem dX9_shift_172 : decode cX9_shift 172 = .ok (.getfield 74, 3) := by decide +kernel
theorem dX9_shift_175 : decode cX9_shift 175 = .ok (.iload 6, 2) := by decide +kernel
theorem dX9_shift_177 : decode cX9_shift 177 = .ok (.laload, 1) := by decide +kernel
theorem dX9_shift_178 : decode cX9_shift 178 = .ok (.lastore, 1) := by decide +kernel
theorem dX9_shift_179 : decode cX9_shift 179 = .ok (.iinc 6 1, 3) := by decide +kernel
theorem dX9_shift_182 : decode cX9_shift 182 = .ok (.goto (-32), 3) := by decide +kernel
theorem dX9_shift_185 : decode cX9_shift 185 = .ok (.iload 5, 2) := by decide +kernel
theorem dX9_shift_187 : decode cX9_shift 187 = .ok (.ireturn, 1) := by decide +kernel
theorem dX9_taken_0 : decode cX9_taken 0 = .ok (.iload_n 1, 1) := by decide +kernel
theorem dX9_taken_1 : decode cX9_taken 1 = .ok (.invokestatic 119, 3) := by decide +kernel
theorem dX9_taken_4 : decode cX9_taken 4 = .ok (.ifCond .eq 15, 3) := by decide +kernel
theorem dX9_taken_7 : decode cX9_taken 7 = .ok (.iload_n 2, 1) := by decide +kernel
theorem dX9_taken_8 : decode cX9_taken 8 = .ok (.i2l, 1) := by decide +kernel
theorem dX9_taken_9 : decode cX9_taken 9 = .ok (.lconst 0, 1) := by decide +kernel
theorem dX9_taken_10 : decode cX9_taken 10 = .ok (.ldc2_w 132, 3) := by decide +kernel
theorem dX9_taken_13 : decode cX9_taken 13 = .ok (.invokestatic 98, 3) := by decide +kernel
theorem dX9_taken_16 : decode cX9_taken 16 = .ok (.ifCond .ne 5, 3) := by decide +kernel
theorem dX9_taken_19 : decode cX9_taken 19 = .ok (.iconst (-1), 1) := by decide +kernel
theorem dX9_taken_20 : decode cX9_taken 20 = .ok (.ireturn, 1) := by decide +kernel
theorem dX9_taken_21 : decode cX9_taken 21 = .ok (.aload_n 0, 1) := by decide +kernel
theorem dX9_taken_22 : decode cX9_taken 22 = .ok (.getfield 64, 3) := by decide +kernel
theorem dX9_taken_25 : decode cX9_taken 25 = .ok (.iload_n 1, 1) := by decide +kernel
theorem dX9_taken_26 : decode cX9_taken 26 = .ok (.iaload, 1) := by decide +kernel
theorem dX9_taken_27 : decode cX9_taken 27 = .ok (.ifCond .ge 6, 3) := by decide +kernel
theorem dX9_taken_30 : decode cX9_taken 30 = .ok (.bipush (-11), 2) := by decide +kernel
theorem dX9_taken_32 : decode cX9_taken 32 = .ok (.ireturn, 1) := by decide +kernel
theorem dX9_taken_33 : decode cX9_taken 33 = .ok (.aload_n 0, 1) := by decide +kernel
theorem dX9_taken_34 : decode cX9_taken 34 = .ok (.getfield 64, 3) := by decide +kernel
theorem dX9_taken_37 : decode cX9_taken 37 = .ok (.iload_n 1, 1) := by decide +kernel
theorem dX9_taken_38 : decode cX9_taken 38 = .ok (.iaload, 1) := by decide +kernel
theorem dX9_taken_39 : decode cX9_taken 39 = .ok (.bipush 50, 2) := by decide +kernel
theorem dX9_taken_41 : decode cX9_taken 41 = .ok (.if_icmp .lt 6, 3) := by decide +kernel
theorem dX9_taken_44 : decode cX9_taken 44 = .ok (.bipush (-12), 2) := by decide +kernel
theorem dX9_taken_46 : decode cX9_taken 46 = .ok (.ireturn, 1) := by decide +kernel
theorem dX9_taken_47 : decode cX9_taken 47 = .ok (.aload_n 0, 1) := by decide +kernel
theorem dX9_taken_48 : decode cX9_taken 48 = .ok (.aload_n 0, 1) := by decide +kernel
theorem dX9_taken_49 : decode cX9_taken 49 = .ok (.getfield 64, 3) := by decide +kernel
theorem dX9_taken_52 : decode cX9_taken 52 = .ok (.iload_n 1, 1) := by decide +kernel
theorem dX9_taken_53 : decode cX9_taken 53 = .ok (.iaload, 1) := by decide +kernel
theorem dX9_taken_54 : decode cX9_taken 54 = .ok (.invokevirtual 361, 3) := by decide +kernel
theorem dX9_taken_57 : decode cX9_taken 57 = .ok (.istore_n 3, 1) := by decide +kernel
theorem dX9_taken_58 : decode cX9_taken 58 = .ok (.iload_n 3, 1) := by decide +kernel
theorem dX9_taken_59 : decode cX9_taken 59 = .ok (.iload_n 2, 1) := by decide +kernel
theorem dX9_taken_60 : decode cX9_taken 60 = .ok (.if_icmp .eq 15, 3) := by decide +kernel
theorem dX9_taken_63 : decode cX9_taken 63 = .ok (.iload_n 3, 1) := by decide +kernel
theorem dX9_taken_64 : decode cX9_taken 64 = .ok (.ifCond .le 11, 3) := by decide +kernel
theorem dX9_taken_67 : decode cX9_taken 67 = .ok (.iload_n 3, 1) := by decide +kernel
theorem dX9_taken_68 : decode cX9_taken 68 = .ok (.invokestatic 364, 3) := by decide +kernel
theorem dX9_taken_71 : decode cX9_taken 71 = .ok (.istore_n 3, 1) := by decide +kernel
theorem dX9_taken_72 : decode cX9_taken 72 = .ok (.goto (-14), 3) := by decide +kernel
theorem dX9_taken_75 : decode cX9_taken 75 = .ok (.iload_n 3, 1) := by decide +kernel
theorem dX9_taken_76 : decode cX9_taken 76 = .ok (.iload_n 2, 1) := by decide +kernel
theorem dX9_taken_77 : decode cX9_taken 77 = .ok (.if_icmp .ne 16, 3) := by decide +kernel
theorem dX9_taken_80 : decode cX9_taken 80 = .ok (.aload_n 0, 1) := by decide +kernel
theorem dX9_taken_81 : decode cX9_taken 81 = .ok (.aload_n 0, 1) := by decide +kernel
theorem dX9_taken_82 : decode cX9_taken 82 = .ok (.getfield 64, 3) := by decide +kernel
theorem dX9_taken_85 : decode cX9_taken 85 = .ok (.iload_n 1, 1) := by decide +kernel
theorem dX9_taken_86 : decode cX9_taken 86 = .ok (.iaload, 1) := by decide +kernel
theorem dX9_taken_87 : decode cX9_taken 87 = .ok (.invokevirtual 361, 3) := by decide +kernel
theorem dX9_taken_90 : decode cX9_taken 90 = .ok (.goto 5, 3) := by decide +kernel
theorem dX9_taken_93 : decode cX9_taken 93 = .ok (.bipush (-12), 2) := by decide +kernel
theorem dX9_taken_95 : decode cX9_taken 95 = .ok (.ireturn, 1) := by decide +kernel
theorem dX9_count_0 : decode cX9_count 0 = .ok (.iload_n 1, 1) := by decide +kernel
theorem dX9_count_1 : decode cX9_count 1 = .ok (.tableswitch 69 0 5 #[39, 44, 49, 54, 59, 64], 39) := by decide +kernel
theorem dX9_count_40 : decode cX9_count 40 = .ok (.aload_n 0, 1) := by decide +kernel
theorem dX9_count_41 : decode cX9_count 41 = .ok (.getfield 95, 3) := by decide +kernel
theorem dX9_count_44 : decode cX9_count 44 = .ok (.ireturn, 1) := by decide +kernel
theorem dX9_count_45 : decode cX9_count 45 = .ok (.aload_n 0, 1) := by decide +kernel
theorem dX9_count_46 : decode cX9_count 46 = .ok (.invokevirtual 367, 3) := by decide +kernel
theorem dX9_count_49 : decode cX9_count 49 = .ok (.ireturn, 1) := by decide +kernel
theorem dX9_count_50 : decode cX9_count 50 = .ok (.aload_n 0, 1) := by decide +kernel
theorem dX9_count_51 : decode cX9_count 51 = .ok (.getfield 149, 3) := by decide +kernel
theorem dX9_count_54 : decode cX9_count 54 = .ok (.ireturn, 1) := by decide +kernel
theorem dX9_count_55 : decode cX9_count 55 = .ok (.aload_n 0, 1) := by decide +kernel
theorem dX9_count_56 : decode cX9_count 56 = .ok (.getfield 81, 3) := by decide +kernel
theorem dX9_count_59 : decode cX9_count 59 = .ok (.ireturn, 1) := by decide +kernel
theorem dX9_count_60 : decode cX9_count 60 = .ok (.aload_n 0, 1) := by decide +kernel
theorem dX9_count_61 : decode cX9_count 61 = .ok (.getfield 320, 3) := by decide +kernel
theorem dX9_count_64 : decode cX9_count 64 = .ok (.ireturn, 1) := by decide +kernel
theorem dX9_count_65 : decode cX9_count 65 = .ok (.aload_n 0, 1) := by decide +kernel
theorem dX9_count_66 : decode cX9_count 66 = .ok (.getfield 323, 3) := by decide +kernel
theorem dX9_count_69 : decode cX9_count 69 = .ok (.ireturn, 1) := by decide +kernel
theorem dX9_count_70 : decode cX9_count 70 = .ok (.iconst (-1), 1) := by decide +kernel
theorem dX9_count_71 : decode cX9_count 71 = .ok (.ireturn, 1) := by decide +kernel
theorem dJ6_bitCount_0f7a4_0 : decode cJ6_bitCount_0f7a4 0 = .ok (.iload_n 0, 1) := by decide +kernel
theorem dJ6_bitCount_0f7a4_1 : decode cJ6_bitCount_0f7a4 1 = .ok (.iload_n 0, 1) := by decide +kernel
theorem dJ6_bitCount_0f7a4_2 : decode cJ6_bitCount_0f7a4 2 = .ok (.iconst 1, 1) := by decide +kernel
theorem dJ6_bitCount_0f7a4_3 : decode cJ6_bitCount_0f7a4 3 = .ok (.iushr, 1) := by decide +kernel
theorem dJ6_bitCount_0f7a4_4 : decode cJ6_bitCount_0f7a4 4 = .ok (.ldc_w 265, 3) := by decide +kernel
theorem dJ6_bitCount_0f7a4_7 : decode cJ6_bitCount_0f7a4 7 = .ok (.iand, 1) := by decide +kernel
theorem dJ6_bitCount_0f7a4_8 : decode cJ6_bitCount_0f7a4 8 = .ok (.isub, 1) := by decide +kernel
theorem dJ6_bitCount_0f7a4_9 : decode cJ6_bitCount_0f7a4 9 = .ok (.istore_n 0, 1) := by decide +kernel
theorem dJ6_bitCount_0f7a4_10 : decode cJ6_bitCount_0f7a4 10 = .ok (.iload_n 0, 1) := by decide +kernel
theorem dJ6_bitCount_0f7a4_11 : decode cJ6_bitCount_0f7a4 11 = .ok (.ldc_w 266, 3) := by decide +kernel
theorem dJ6_bitCount_0f7a4_14 : decode cJ6_bitCount_0f7a4 14 = .ok (.iand, 1) := by decide +kernel
theorem dJ6_bitCount_0f7a4_15 : decode cJ6_bitCount_0f7a4 15 = .ok (.iload_n 0, 1) := by decide +kernel
theorem dJ6_bitCount_0f7a4_16 : decode cJ6_bitCount_0f7a4 16 = .ok (.iconst 2, 1) := by decide +kernel
theorem dJ6_bitCount_0f7a4_17 : decode cJ6_bitCount_0f7a4 17 = .ok (.iushr, 1) := by decide +kernel
theorem dJ6_bitCount_0f7a4_18 : decode cJ6_bitCount_0f7a4 18 = .ok (.ldc_w 266, 3) := by decide +kernel
theorem dJ6_bitCount_0f7a4_21 : decode cJ6_bitCount_0f7a4 21 = .ok (.iand, 1) := by decide +kernel
theorem dJ6_bitCount_0f7a4_22 : decode cJ6_bitCount_0f7a4 22 = .ok (.iadd, 1) := by decide +kernel
theorem dJ6_bitCount_0f7a4_23 : decode cJ6_bitCount_0f7a4 23 = .ok (.istore_n 0, 1) := by decide +kernel
theorem dJ6_bitCount_0f7a4_24 : decode cJ6_bitCount_0f7a4 24 = .ok (.iload_n 0, 1) := by decide +kernel
theorem dJ6_bitCount_0f7a4_25 : decode cJ6_bitCount_0f7a4 25 = .ok (.iload_n 0, 1) := by decide +kernel
theorem dJ6_bitCount_0f7a4_26 : decode cJ6_bitCount_0f7a4 26 = .ok (.iconst 4, 1) := by decide +kernel
theorem dJ6_bitCount_0f7a4_27 : decode cJ6_bitCount_0f7a4 27 = .ok (.iushr, 1) := by decide +kernel
theorem dJ6_bitCount_0f7a4_28 : decode cJ6_bitCount_0f7a4 28 = .ok (.iadd, 1) := by decide +kernel
theorem dJ6_bitCount_0f7a4_29 : decode cJ6_bitCount_0f7a4 29 = .ok (.ldc_w 267, 3) := by decide +kernel
theorem dJ6_bitCount_0f7a4_32 : decode cJ6_bitCount_0f7a4 32 = .ok (.iand, 1) := by decide +kernel
theorem dJ6_bitCount_0f7a4_33 : decode cJ6_bitCount_0f7a4 33 = .ok (.istore_n 0, 1) := by decide +kernel
theorem dJ6_bitCount_0f7a4_34 : decode cJ6_bitCount_0f7a4 34 = .ok (.iload_n 0, 1) := by decide +kernel
theorem dJ6_bitCount_0f7a4_35 : decode cJ6_bitCount_0f7a4 35 = .ok (.iload_n 0, 1) := by decide +kernel
theorem dJ6_bitCount_0f7a4_36 : decode cJ6_bitCount_0f7a4 36 = .ok (.bipush 8, 2) := by decide +kernel
theorem dJ6_bitCount_0f7a4_38 : decode cJ6_bitCount_0f7a4 38 = .ok (.iushr, 1) := by decide +kernel
theorem dJ6_bitCount_0f7a4_39 : decode cJ6_bitCount_0f7a4 39 = .ok (.iadd, 1) := by decide +kernel
theorem dJ6_bitCount_0f7a4_40 : decode cJ6_bitCount_0f7a4 40 = .ok (.istore_n 0, 1) := by decide +kernel
theorem dJ6_bitCount_0f7a4_41 : decode cJ6_bitCount_0f7a4 41 = .ok (.iload_n 0, 1) := by decide +kernel
theorem dJ6_bitCount_0f7a4_42 : decode cJ6_bitCount_0f7a4 42 = .ok (.iload_n 0, 1) := by decide +kernel
theorem dJ6_bitCount_0f7a4_43 : decode cJ6_bitCount_0f7a4 43 = .ok (.bipush 16, 2) := by decide +kernel
theorem dJ6_bitCount_0f7a4_45 : decode cJ6_bitCount_0f7a4 45 = .ok (.iushr, 1) := by decide +kernel
theorem dJ6_bitCount_0f7a4_46 : decode cJ6_bitCount_0f7a4 46 = .ok (.iadd, 1) := by decide +kernel
theorem dJ6_bitCount_0f7a4_47 : decode cJ6_bitCount_0f7a4 47 = .ok (.istore_n 0, 1) := by decide +kernel
theorem dJ6_bitCount_0f7a4_48 : decode cJ6_bitCount_0f7a4 48 = .ok (.iload_n 0, 1) := by decide +kernel
theorem dJ6_bitCount_0f7a4_49 : decode cJ6_bitCount_0f7a4 49 = .ok (.bipush 63, 2) := by decide +kernel
theorem dJ6_bitCount_0f7a4_51 : decode cJ6_bitCount_0f7a4 51 = .ok (.iand, 1) := by decide +kernel
theorem dJ6_bitCount_0f7a4_52 : decode cJ6_bitCount_0f7a4 52 = .ok (.ireturn, 1) := by decide +kernel
theorem dJ9_abs_0f7a4_0 : decode cJ9_abs_0f7a4 0 = .ok (.iload_n 0, 1) := by decide +kernel
theorem dJ9_abs_0f7a4_1 : decode cJ9_abs_0f7a4 1 = .ok (.ifCond .ge 8, 3) := by decide +kernel
theorem dJ9_abs_0f7a4_4 : decode cJ9_abs_0f7a4 4 = .ok (.iload_n 0, 1) := by decide +kernel
theorem dJ9_abs_0f7a4_5 : decode cJ9_abs_0f7a4 5 = .ok (.ineg, 1) := by decide +kernel
theorem dJ9_abs_0f7a4_6 : decode cJ9_abs_0f7a4 6 = .ok (.goto 4, 3) := by decide +kernel
theorem dJ9_abs_0f7a4_9 : decode cJ9_abs_0f7a4 9 = .ok (.iload_n 0, 1) := by decide +kernel
theorem dJ9_abs_0f7a4_10 : decode cJ9_abs_0f7a4 10 = .ok (.ireturn, 1) := by decide +kernel
theorem dJ9_max_7cf53_0 : decode cJ9_max_7cf53 0 = .ok (.iload_n 0, 1) := by decide +kernel
theorem dJ9_max_7cf53_1 : decode cJ9_max_7cf53 1 = .ok (.iload_n 1, 1) := by decide +kernel
theorem dJ9_max_7cf53_2 : decode cJ9_max_7cf53 2 = .ok (.if_icmp .lt 7, 3) := by decide +kernel
theorem dJ9_max_7cf53_5 : decode cJ9_max_7cf53 5 = .ok (.iload_n 0, 1) := by decide +kernel
theorem dJ9_max_7cf53_6 : decode cJ9_max_7cf53 6 = .ok (.goto 4, 3) := by decide +kernel
theorem dJ9_max_7cf53_9 : decode cJ9_max_7cf53 9 = .ok (.iload_n 1, 1) := by decide +kernel
theorem dJ9_max_7cf53_10 : decode cJ9_max_7cf53 10 = .ok (.ireturn, 1) := by decide +kernel
theorem dJ9_min_7cf53_0 : decode cJ9_min_7cf53 0 = .ok (.iload_n 0, 1) := by decide +kernel
theorem dJ9_min_7cf53_1 : decode cJ9_min_7cf53 1 = .ok (.iload_n 1, 1) := by decide +kernel
theorem dJ9_min_7cf53_2 : decode cJ9_min_7cf53 2 = .ok (.if_icmp .gt 7, 3) := by decide +kernel
theorem dJ9_min_7cf53_5 : decode cJ9_min_7cf53 5 = .ok (.iload_n 0, 1) := by decide +kernel
theorem dJ9_min_7cf53_6 : decode cJ9_min_7cf53 6 = .ok (.goto 4, 3) := by decide +kernel
theorem dJ9_min_7cf53_9 : decode cJ9_min_7cf53 9 = .ok (.iload_n 1, 1) := by decide +kernel
theorem dJ9_min_7cf53_10 : decode cJ9_min_7cf53 10 = .ok (.ireturn, 1) := by decide +kernel
theorem dL_law_0 : decode cL_law 0 = .ok (.new 7, 3) := by decide +kernel
theorem dL_law_3 : decode cL_law 3 = .ok (.dup, 1) := by decide +kernel
theorem dL_law_4 : decode cL_law 4 = .ok (.invokespecial 9, 3) := by decide +kernel
theorem dL_law_7 : decode cL_law 7 = .ok (.astore_n 1, 1) := by decide +kernel
theorem dL_law_8 : decode cL_law 8 = .ok (.new 10, 3) := by decide +kernel
theorem dL_law_11 : decode cL_law 11 = .ok (.dup, 1) := by decide +kernel
theorem dL_law_12 : decode cL_law 12 = .ok (.invokespecial 12, 3) := by decide +kernel
theorem dL_law_15 : decode cL_law 15 = .ok (.astore_n 2, 1) := by decide +kernel
theorem dL_law_16 : decode cL_law 16 = .ok (.iconst 0, 1) := by decide +kernel
theorem dL_law_17 : decode cL_law 17 = .ok (.istore_n 3, 1) := by decide +kernel
theorem dL_law_18 : decode cL_law 18 = .ok (.iload_n 3, 1) := by decide +kernel
theorem dL_law_19 : decode cL_law 19 = .ok (.aload_n 0, 1) := by decide +kernel
theorem dL_law_20 : decode cL_law 20 = .ok (.arraylength, 1) := by decide +kernel
theorem dL_law_21 : decode cL_law 21 = .ok (.bipush 6, 2) := by decide +kernel
theorem dL_law_23 : decode cL_law 23 = .ok (.isub, 1) := by decide +kernel
theorem dL_law_24 : decode cL_law 24 = .ok (.if_icmp .gt 1441, 3) := by decide +kernel
theorem dL_law_27 : decode cL_law 27 = .ok (.aload_n 0, 1) := by decide +kernel
theorem dL_law_28 : decode cL_law 28 = .ok (.iload_n 3, 1) := by decide +kernel
theorem dL_law_29 : decode cL_law 29 = .ok (.iaload, 1) := by decide +kernel
theorem dL_law_30 : decode cL_law 30 = .ok (.bipush 63, 2) := by decide +kernel
theorem dL_law_32 : decode cL_law 32 = .ok (.iand, 1) := by decide +kernel
theorem dL_law_33 : decode cL_law 33 = .ok (.tableswitch 1426 0 39 #[175, 208, 251, 294, 327, 350, 363, 386, 429, 472, 515, 538, 571, 594, 627, 650, 683, 726, 749, 772, 805, 848, 871, 904, 927, 960, 983, 996, 1009, 1022, 1035, 1058, 1101, 1124, 1157, 1200, 1273, 1307, 1370, 1403], 175) := by decide +kernel
theorem dL_law_208 : decode cL_law 208 = .ok (.aload_n 1, 1) := by decide +kernel
theorem dL_law_209 : decode cL_law 209 = .ok (.aload_n 0, 1) := by decide +kernel
theorem dL_law_210 : decode cL_law 210 = .ok (.iload_n 3, 1) := by decide +kernel
theorem dL_law_211 : decode cL_law 211 = .ok (.iconst 1, 1) := by decide +kernel
theorem dL_law_212 : decode cL_law 212 = .ok (.iadd, 1) := by decide +kernel
theorem dL_law_213 : decode cL_law 213 = .ok (.iaload, 1) := by decide +kernel
theorem dL_law_214 : decode cL_law 214 = .ok (.aload_n 0, 1) := by decide +kernel
theorem dL_law_215 : decode cL_law 215 = .ok (.iload_n 3, 1) := by decide +kernel
theorem dL_law_216 : decode cL_law 216 = .ok (.iconst 2, 1) := by decide +kernel
theorem dL_law_217 : decode cL_law 217 = .ok (.iadd, 1) := by decide +kernel
theorem dL_law_218 : decode cL_law 218 = .ok (.iaload, 1) := by decide +kernel
theorem dL_law_219 : decode cL_law 219 = .ok (.invokevirtual 13, 3) := by decide +kernel
theorem dL_law_222 : decode cL_law 222 = .ok (.aload_n 2, 1) := by decide +kernel
theorem dL_law_223 : decode cL_law 223 = .ok (.aload_n 0, 1) := by decide +kernel
theorem dL_law_224 : decode cL_law 224 = .ok (.iload_n 3, 1) := by decide +kernel
theorem dL_law_225 : decode cL_law 225 = .ok (.iconst 1, 1) := by decide +kernel
theorem dL_law_226 : decode cL_law 226 = .ok (.iadd, 1) := by decide +kernel
theorem dL_law_227 : decode cL_law 227 = .ok (.iaload, 1) := by decide +kernel
theorem dL_law_228 : decode cL_law 228 = .ok (.aload_n 0, 1) := by decide +kernel
theorem dL_law_229 : decode cL_law 229 = .ok (.iload_n 3, 1) := by decide +kernel
theorem dL_law_230 : decode cL_law 230 = .ok (.iconst 2, 1) := by decide +kernel
theorem dL_law_231 : decode cL_law 231 = .ok (.iadd, 1) := by decide +kernel
theorem dL_law_232 : decode cL_law 232 = .ok (.iaload, 1) := by decide +kernel
theorem dL_law_233 : decode cL_law 233 = .ok (.invokevirtual 17, 3) := by decide +kernel
theorem dL_law_236 : decode cL_law 236 = .ok (.if_icmp .eq 1223, 3) := by decide +kernel
theorem dL_law_239 : decode cL_law 239 = .ok (.iconst 0, 1) := by decide +kernel
theorem dL_law_240 : decode cL_law 240 = .ok (.ireturn, 1) := by decide +kernel
theorem dL_law_241 : decode cL_law 241 = .ok (.aload_n 1, 1) := by decide +kernel
theorem dL_law_242 : decode cL_law 242 = .ok (.aload_n 0, 1) := by decide +kernel
theorem dL_law_243 : decode cL_law 243 = .ok (.iload_n 3, 1) := by decide +kernel
theorem dL_law_244 : decode cL_law 244 = .ok (.iconst 1, 1) := by decide +kernel
theorem dL_law_245 : decode cL_law 245 = .ok (.iadd, 1) := by decide +kernel
theorem dL_law_246 : decode cL_law 246 = .ok (.iaload, 1) := by decide +kernel
theorem dL_law_247 : decode cL_law 247 = .ok (.aload_n 0, 1) := by decide +kernel
theorem dL_law_248 : decode cL_law 248 = .ok (.iload_n 3, 1) := by decide +kernel
theorem dL_law_249 : decode cL_law 249 = .ok (.iconst 2, 1) := by decide +kernel
theorem dL_law_250 : decode cL_law 250 = .ok (.iadd, 1) := by decide +kernel
theorem dL_law_251 : decode cL_law 251 = .ok (.iaload, 1) := by decide +kernel
theorem dL_law_252 : decode cL_law 252 = .ok (.aload_n 0, 1) := by decide +kernel
theorem dL_law_253 : decode cL_law 253 = .ok (.iload_n 3, 1) := by decide +kernel
theorem dL_law_254 : decode cL_law 254 = .ok (.iconst 3, 1) := by decide +kernel
theorem dL_law_255 : decode cL_law 255 = .ok (.iadd, 1) := by decide +kernel
theorem dL_law_256 : decode cL_law 256 = .ok (.iaload, 1) := by decide +kernel
theorem dL_law_257 : decode cL_law 257 = .ok (.invokevirtual 18, 3) := by decide +kernel
theorem dL_law_260 : decode cL_law 260 = .ok (.aload_n 2, 1) := by decide +kernel
theorem dL_law_261 : decode cL_law 261 = .ok (.aload_n 0, 1) := by decide +kernel
theorem dL_law_262 : decode cL_law 262 = .ok (.iload_n 3, 1) := by decide +kernel
theorem dL_law_263 : decode cL_law 263 = .ok (.iconst 1, 1) := by decide +kernel
theorem dL_law_264 : decode cL_law 264 = .ok (.iadd, 1) := by decide +kernel
theorem dL_law_265 : decode cL_law 265 = .ok (.iaload, 1) := by decide +kernel
theorem dL_law_266 : decode cL_law 266 = .ok (.aload_n 0, 1) := by decide +kernel
theorem dL_law_267 : decode cL_law 267 = .ok (.iload_n 3, 1) := by decide +kernel
theorem dL_law_268 : decode cL_law 268 = .ok (.iconst 2, 1) := by decide +kernel
theorem dL_law_269 : decode cL_law 269 = .ok (.iadd, 1) := by decide +kernel
theorem dL_law_270 : decode cL_law 270 = .ok (.iaload, 1) := by decide +kernel
theorem dL_law_271 : decode cL_law 271 = .ok (.aload_n 0, 1) := by decide +kernel
theorem dL_law_272 : decode cL_law 272 = .ok (.iload_n 3, 1) := by decide +kernel
theorem dL_law_273 : decode cL_law 273 = .ok (.iconst 3, 1) := by decide +kernel
theorem dL_law_274 : decode cL_law 274 = .ok (.iadd, 1) := by decide +kernel
theorem dL_law_275 : decode cL_law 275 = .ok (.iaload, 1) := by decide +kernel
theorem dL_law_276 : decode cL_law 276 = .ok (.invokevirtual 22, 3) := by decide +kernel
theorem dL_law_279 : decode cL_law 279 = .ok (.if_icmp .eq 1180, 3) := by decide +kernel
theorem dL_law_282 : decode cL_law 282 = .ok (.iconst 0, 1) := by decide +kernel
theorem dL_law_283 : decode cL_law 283 = .ok (.ireturn, 1) := by decide +kernel
theorem dL_law_284 : decode cL_law 284 = .ok (.aload_n 1, 1) := by decide +kernel
theorem dL_law_285 : decode cL_law 285 = .ok (.aload_n 0, 1) := by decide +kernel
theorem dL_law_286 : decode cL_law 286 = .ok (.iload_n 3, 1) := by decide +kernel
theorem dL_law_287 : decode cL_law 287 = .ok (.iconst 1, 1) := by decide +kernel
theorem dL_law_288 : decode cL_law 288 = .ok (.iadd, 1) := by decide +kernel
theorem dL_law_289 : decode cL_law 289 = .ok (.iaload, 1) := by decide +kernel
theorem dL_law_290 : decode cL_law 290 = .ok (.aload_n 0, 1) := by decide +kernel
theorem dL_law_291 : decode cL_law 291 = .ok (.iload_n 3, 1) := by decide +kernel
theorem dL_law_292 : decode cL_law 292 = .ok (.iconst 2, 1) := by decide +kernel
theorem dL_law_293 : decode cL_law 293 = .ok (.iadd, 1) := by decide +kernel
theorem dL_law_294 : decode cL_law 294 = .ok (.iaload, 1) := by decide +kernel
theorem dL_law_295 : decode cL_law 295 = .ok (.aload_n 0, 1) := by decide +kernel
theorem dL_law_296 : decode cL_law 296 = .ok (.iload_n 3, 1) := by decide +kernel
theorem dL_law_297 : decode cL_law 297 = .ok (.iconst 3, 1) := by decide +kernel
theorem dL_law_298 : decode cL_law 298 = .ok (.iadd, 1) := by decide +kernel
theorem dL_law_299 : decode cL_law 299 = .ok (.iaload, 1) := by decide +kernel
theorem dL_law_300 : decode cL_law 300 = .ok (.invokevirtual 23, 3) := by decide +kernel
theorem dL_law_303 : decode cL_law 303 = .ok (.aload_n 2, 1) := by decide +kernel
theorem dL_law_304 : decode cL_law 304 = .ok (.aload_n 0, 1) := by decide +kernel
theorem dL_law_305 : decode cL_law 305 = .ok (.iload_n 3, 1) := by decide +kernel
theorem dL_law_306 : decode cL_law 306 = .ok (.iconst 1, 1) := by decide +kernel
theorem dL_law_307 : decode cL_law 307 = .ok (.iadd, 1) := by decide +kernel
theorem dL_law_308 : decode cL_law 308 = .ok (.iaload, 1) := by decide +kernel
theorem dL_law_309 : decode cL_law 309 = .ok (.aload_n 0, 1) := by decide +kernel
theorem dL_law_310 : decode cL_law 310 = .ok (.iload_n 3, 1) := by decide +kernel
theorem dL_law_311 : decode cL_law 311 = .ok (.iconst 2, 1) := by decide +kernel
theorem dL_law_312 : decode cL_law 312 = .ok (.iadd, 1) := by decide +kernel
theorem dL_law_313 : decode cL_law 313 = .ok (.iaload, 1) := by decide +kernel
theorem dL_law_314 : decode cL_law 314 = .ok (.aload_n 0, 1) := by decide +kernel
theorem dL_law_315 : decode cL_law 315 = .ok (.iload_n 3, 1) := by decide +kernel
theorem dL_law_316 : decode cL_law 316 = .ok (.iconst 3, 1) := by decide +kernel
theorem dL_law_317 : decode cL_law 317 = .ok (.iadd, 1) := by decide +kernel
theorem dL_law_318 : decode cL_law 318 = .ok (.iaload, 1) := by decide +kernel
theorem dL_law_319 : decode cL_law 319 = .ok (.invokevirtual 26, 3) := by decide +kernel
theorem dL_law_322 : decode cL_law 322 = .ok (.if_icmp .eq 1137, 3) := by decide +kernel
theorem dL_law_325 : decode cL_law 325 = .ok (.iconst 0, 1) := by decide +kernel
theorem dL_law_326 : decode cL_law 326 = .ok (.ireturn, 1) := by decide +kernel
theorem dL_law_327 : decode cL_law 327 = .ok (.aload_n 1, 1) := by decide +kernel
theorem dL_law_328 : decode cL_law 328 = .ok (.aload_n 0, 1) := by decide +kernel
theorem dL_law_329 : decode cL_law 329 = .ok (.iload_n 3, 1) := by decide +kernel
theorem dL_law_330 : decode cL_law 330 = .ok (.iconst 1, 1) := by decide +kernel
theorem dL_law_331 : decode cL_law 331 = .ok (.iadd, 1) := by decide +kernel
theorem dL_law_332 : decode cL_law 332 = .ok (.iaload, 1) := by decide +kernel
theorem dL_law_333 : decode cL_law 333 = .ok (.aload_n 0, 1) := by decide +kernel
theorem dL_law_334 : decode cL_law 334 = .ok (.iload_n 3, 1) := by decide +kernel
theorem dL_law_335 : decode cL_law 335 = .ok (.iconst 2, 1) := by decide +kernel
theorem dL_law_336 : decode cL_law 336 = .ok (.iadd, 1) := by decide +kernel
theorem dL_law_337 : decode cL_law 337 = .ok (.iaload, 1) := by decide +kernel
theorem dL_law_338 : decode cL_law 338 = .ok (.invokevirtual 27, 3) := by decide +kernel
theorem dL_law_341 : decode cL_law 341 = .ok (.aload_n 2, 1) := by decide +kernel
theorem dL_law_342 : decode cL_law 342 = .ok (.aload_n 0, 1) := by decide +kernel
theorem dL_law_343 : decode cL_law 343 = .ok (.iload_n 3, 1) := by decide +kernel
theorem dL_law_344 : decode cL_law 344 = .ok (.iconst 1, 1) := by decide +kernel
theorem dL_law_345 : decode cL_law 345 = .ok (.iadd, 1) := by decide +kernel
theorem dL_law_346 : decode cL_law 346 = .ok (.iaload, 1) := by decide +kernel
theorem dL_law_347 : decode cL_law 347 = .ok (.aload_n 0, 1) := by decide +kernel
theorem dL_law_348 : decode cL_law 348 = .ok (.iload_n 3, 1) := by decide +kernel
theorem dL_law_349 : decode cL_law 349 = .ok (.iconst 2, 1) := by decide +kernel
theorem dL_law_350 : decode cL_law 350 = .ok (.iadd, 1) := by decide +kernel
theorem dL_law_351 : decode cL_law 351 = .ok (.iaload, 1) := by decide +kernel
theorem dL_law_352 : decode cL_law 352 = .ok (.invokevirtual 30, 3) := by decide +kernel
theorem dL_law_355 : decode cL_law 355 = .ok (.if_icmp .eq 1104, 3) := by decide +kernel
theorem dL_law_358 : decode cL_law 358 = .ok (.iconst 0, 1) := by decide +kernel
theorem dL_law_359 : decode cL_law 359 = .ok (.ireturn, 1) := by decide +kernel
theorem dL_law_360 : decode cL_law 360 = .ok (.aload_n 1, 1) := by decide +kernel
theorem dL_law_361 : decode cL_law 361 = .ok (.aload_n 0, 1) := by decide +kernel
theorem dL_law_362 : decode cL_law 362 = .ok (.iload_n 3, 1) := by decide +kernel
theorem dL_law_363 : decode cL_law 363 = .ok (.iconst 1, 1) := by decide +kernel
theorem dL_law_364 : decode cL_law 364 = .ok (.iadd, 1) := by decide +kernel
theorem dL_law_365 : decode cL_law 365 = .ok (.iaload, 1) := by decide +kernel
theorem dL_law_366 : decode cL_law 366 = .ok (.invokevirtual 31, 3) := by decide +kernel
theorem dL_law_369 : decode cL_law 369 = .ok (.aload_n 2, 1) := by decide +kernel
theorem dL_law_370 : decode cL_law 370 = .ok (.aload_n 0, 1) := by decide +kernel
theorem dL_law_371 : decode cL_law 371 = .ok (.iload_n 3, 1) := by decide +kernel
theorem dL_law_372 : decode cL_law 372 = .ok (.iconst 1, 1) := by decide +kernel
theorem dL_law_373 : decode cL_law 373 = .ok (.iadd, 1) := by decide +kernel
theorem dL_law_374 : decode cL_law 374 = .ok (.iaload, 1) := by decide +kernel
theorem dL_law_375 : decode cL_law 375 = .ok (.invokevirtual 35, 3) := by decide +kernel
theorem dL_law_378 : decode cL_law 378 = .ok (.if_icmp .eq 1081, 3) := by decide +kernel
theorem dL_law_381 : decode cL_law 381 = .ok (.iconst 0, 1) := by decide +kernel
theorem dL_law_382 : decode cL_law 382 = .ok (.ireturn, 1) := by decide +kernel
theorem dL_law_383 : decode cL_law 383 = .ok (.aload_n 1, 1) := by decide +kernel
theorem dL_law_384 : decode cL_law 384 = .ok (.invokevirtual 36, 3) := by decide +kernel
theorem dL_law_387 : decode cL_law 387 = .ok (.aload_n 2, 1) := by decide +kernel
theorem dL_law_388 : decode cL_law 388 = .ok (.invokevirtual 40, 3) := by decide +kernel
theorem dL_law_391 : decode cL_law 391 = .ok (.if_icmp .eq 1068, 3) := by decide +kernel
theorem dL_law_394 : decode cL_law 394 = .ok (.iconst 0, 1) := by decide +kernel
theorem dL_law_395 : decode cL_law 395 = .ok (.ireturn, 1) := by decide +kernel
theorem dL_law_396 : decode cL_law 396 = .ok (.aload_n 1, 1) := by decide +kernel
theorem dL_law_397 : decode cL_law 397 = .ok (.aload_n 0, 1) := by decide +kernel
theorem dL_law_398 : decode cL_law 398 = .ok (.iload_n 3, 1) := by decide +kernel
theorem dL_law_399 : decode cL_law 399 = .ok (.iconst 1, 1) := by decide +kernel
theorem dL_law_400 : decode cL_law 400 = .ok (.iadd, 1) := by decide +kernel
theorem dL_law_401 : decode cL_law 401 = .ok (.iaload, 1) := by decide +kernel
theorem dL_law_402 : decode cL_law 402 = .ok (.invokevirtual 41, 3) := by decide +kernel
theorem dL_law_405 : decode cL_law 405 = .ok (.aload_n 2, 1) := by decide +kernel
theorem dL_law_406 : decode cL_law 406 = .ok (.aload_n 0, 1) := by decide +kernel
theorem dL_law_407 : decode cL_law 407 = .ok (.iload_n 3, 1) := by decide +kernel
theorem dL_law_408 : decode cL_law 408 = .ok (.iconst 1, 1) := by decide +kernel
theorem dL_law_409 : decode cL_law 409 = .ok (.iadd, 1) := by decide +kernel
theorem dL_law_410 : decode cL_law 410 = .ok (.iaload, 1) := by decide +kernel
theorem dL_law_411 : decode cL_law 411 = .ok (.invokevirtual 44, 3) := by decide +kernel
theorem dL_law_414 : decode cL_law 414 = .ok (.if_icmp .eq 1045, 3) := by decide +kernel
theorem dL_law_417 : decode cL_law 417 = .ok (.iconst 0, 1) := by decide +kernel
theorem dL_law_418 : decode cL_law 418 = .ok (.ireturn, 1) := by decide +kernel
theorem dL_law_419 : decode cL_law 419 = .ok (.aload_n 1, 1) := by decide +kernel
theorem dL_law_420 : decode cL_law 420 = .ok (.aload_n 0, 1) := by decide +kernel
theorem dL_law_421 : decode cL_law 421 = .ok (.iload_n 3, 1) := by decide +kernel
theorem dL_law_422 : decode cL_law 422 = .ok (.iconst 1, 1) := by decide +kernel
theorem dL_law_423 : decode cL_law 423 = .ok (.iadd, 1) := by decide +kernel
theorem dL_law_424 : decode cL_law 424 = .ok (.iaload, 1) := by decide +kernel
theorem dL_law_425 : decode cL_law 425 = .ok (.aload_n 0, 1) := by decide +kernel
theorem dL_law_426 : decode cL_law 426 = .ok (.iload_n 3, 1) := by decide +kernel
theorem dL_law_427 : decode cL_law 427 = .ok (.iconst 2, 1) := by decide +kernel
theorem dL_law_428 : decode cL_law 428 = .ok (.iadd, 1) := by decide +kernel
theorem dL_law_429 : decode cL_law 429 = .ok (.iaload, 1) := by decide +kernel
theorem dL_law_430 : decode cL_law 430 = .ok (.aload_n 0, 1) := by decide +kernel
theorem dL_law_431 : decode cL_law 431 = .ok (.iload_n 3, 1) := by decide +kernel
theorem dL_law_432 : decode cL_law 432 = .ok (.iconst 3, 1) := by decide +kernel
theorem dL_law_433 : decode cL_law 433 = .ok (.iadd, 1) := by decide +kernel
theorem dL_law_434 : decode cL_law 434 = .ok (.iaload, 1) := by decide +kernel
theorem dL_law_435 : decode cL_law 435 = .ok (.invokevirtual 45, 3) := by decide +kernel
theorem dL_law_438 : decode cL_law 438 = .ok (.aload_n 2, 1) := by decide +kernel
theorem dL_law_439 : decode cL_law 439 = .ok (.aload_n 0, 1) := by decide +kernel
theorem dL_law_440 : decode cL_law 440 = .ok (.iload_n 3, 1) := by decide +kernel
theorem dL_law_441 : decode cL_law 441 = .ok (.iconst 1, 1) := by decide +kernel
theorem dL_law_442 : decode cL_law 442 = .ok (.iadd, 1) := by decide +kernel
theorem dL_law_443 : decode cL_law 443 = .ok (.iaload, 1) := by decide +kernel
theorem dL_law_444 : decode cL_law 444 = .ok (.aload_n 0, 1) := by decide +kernel
theorem dL_law_445 : decode cL_law 445 = .ok (.iload_n 3, 1) := by decide +kernel
theorem dL_law_446 : decode cL_law 446 = .ok (.iconst 2, 1) := by decide +kernel
theorem dL_law_447 : decode cL_law 447 = .ok (.iadd, 1) := by decide +kernel
theorem dL_law_448 : decode cL_law 448 = .ok (.iaload, 1) := by decide +kernel
theorem dL_law_449 : decode cL_law 449 = .ok (.aload_n 0, 1) := by decide +kernel
theorem dL_law_450 : decode cL_law 450 = .ok (.iload_n 3, 1) := by decide +kernel
theorem dL_law_451 : decode cL_law 451 = .ok (.iconst 3, 1) := by decide +kernel
theorem dL_law_452 : decode cL_law 452 = .ok (.iadd, 1) := by decide +kernel
theorem dL_law_453 : decode cL_law 453 = .ok (.iaload, 1) := by decide +kernel
theorem dL_law_454 : decode cL_law 454 = .ok (.invokevirtual 48, 3) := by decide +kernel
theorem dL_law_457 : decode cL_law 457 = .ok (.if_icmp .eq 1002, 3) := by decide +kernel
theorem dL_law_460 : decode cL_law 460 = .ok (.iconst 0, 1) := by decide +kernel
theorem dL_law_461 : decode cL_law 461 = .ok (.ireturn, 1) := by decide +kernel
theorem dL_law_462 : decode cL_law 462 = .ok (.aload_n 1, 1) := by decide +kernel
theorem dL_law_463 : decode cL_law 463 = .ok (.aload_n 0, 1) := by decide +kernel
theorem dL_law_464 : decode cL_law 464 = .ok (.iload_n 3, 1) := by decide +kernel
theorem dL_law_465 : decode cL_law 465 = .ok (.iconst 1, 1) := by decide +kernel
theorem dL_law_466 : decode cL_law 466 = .ok (.iadd, 1) := by decide +kernel
theorem dL_law_467 : decode cL_law 467 = .ok (.iaload, 1) := by decide +kernel
theorem dL_law_468 : decode cL_law 468 = .ok (.aload_n 0, 1) := by decide +kernel
theorem dL_law_469 : decode cL_law 469 = .ok (.iload_n 3, 1) := by decide +kernel
theorem dL_law_470 : decode cL_law 470 = .ok (.iconst 2, 1) := by decide +kernel
theorem dL_law_471 : decode cL_law 471 = .ok (.iadd, 1) := by decide +kernel
theorem dL_law_472 : decode cL_law 472 = .ok (.iaload, 1) := by decide +kernel
theorem dL_law_473 : decode cL_law 473 = .ok (.aload_n 0, 1) := by decide +kernel
theorem dL_law_474 : decode cL_law 474 = .ok (.iload_n 3, 1) := by decide +kernel
theorem dL_law_475 : decode cL_law 475 = .ok (.iconst 3, 1) := by decide +kernel
theorem dL_law_476 : decode cL_law 476 = .ok (.iadd, 1) := by decide +kernel
theorem dL_law_477 : decode cL_law 477 = .ok (.iaload, 1) := by decide +kernel
theorem dL_law_478 : decode cL_law 478 = .ok (.invokevirtual 49, 3) := by decide +kernel
theorem dL_law_481 : decode cL_law 481 = .ok (.aload_n 2, 1) := by decide +kernel
theorem dL_law_482 : decode cL_law 482 = .ok (.aload_n 0, 1) := by decide +kernel
theorem dL_law_483 : decode cL_law 483 = .ok (.iload_n 3, 1) := by decide +kernel
theorem dL_law_484 : decode cL_law 484 = .ok (.iconst 1, 1) := by decide +kernel
theorem dL_law_485 : decode cL_law 485 = .ok (.iadd, 1) := by decide +kernel
theorem dL_law_486 : decode cL_law 486 = .ok (.iaload, 1) := by decide +kernel
theorem dL_law_487 : decode cL_law 487 = .ok (.aload_n 0, 1) := by decide +kernel
theorem dL_law_488 : decode cL_law 488 = .ok (.iload_n 3, 1) := by decide +kernel
theorem dL_law_489 : decode cL_law 489 = .ok (.iconst 2, 1) := by decide +kernel
theorem dL_law_490 : decode cL_law 490 = .ok (.iadd, 1) := by decide +kernel
theorem dL_law_491 : decode cL_law 491 = .ok (.iaload, 1) := by decide +kernel
theorem dL_law_492 : decode cL_law 492 = .ok (.aload_n 0, 1) := by decide +kernel
theorem dL_law_493 : decode cL_law 493 = .ok (.iload_n 3, 1) := by decide +kernel
theorem dL_law_494 : decode cL_law 494 = .ok (.iconst 3, 1) := by decide +kernel
theorem dL_law_495 : decode cL_law 495 = .ok (.iadd, 1) := by decide +kernel
theorem dL_law_496 : decode cL_law 496 = .ok (.iaload, 1) := by decide +kernel
theorem dL_law_497 : decode cL_law 497 = .ok (.invokevirtual 52, 3) := by decide +kernel
theorem dL_law_500 : decode cL_law 500 = .ok (.if_icmp .eq 959, 3) := by decide +kernel
theorem dL_law_503 : decode cL_law 503 = .ok (.iconst 0, 1) := by decide +kernel
theorem dL_law_504 : decode cL_law 504 = .ok (.ireturn, 1) := by decide +kernel
theorem dL_law_505 : decode cL_law 505 = .ok (.aload_n 1, 1) := by decide +kernel
theorem dL_law_506 : decode cL_law 506 = .ok (.aload_n 0, 1) := by decide +kernel
theorem dL_law_507 : decode cL_law 507 = .ok (.iload_n 3, 1) := by decide +kernel
theorem dL_law_508 : decode cL_law 508 = .ok (.iconst 1, 1) := by decide +kernel
theorem dL_law_509 : decode cL_law 509 = .ok (.iadd, 1) := by decide +kernel
theorem dL_law_510 : decode cL_law 510 = .ok (.iaload, 1) := by decide +kernel
theorem dL_law_511 : decode cL_law 511 = .ok (.aload_n 0, 1) := by decide +kernel
theorem dL_law_512 : decode cL_law 512 = .ok (.iload_n 3, 1) := by decide +kernel
theorem dL_law_513 : decode cL_law 513 = .ok (.iconst 2, 1) := by decide +kernel
theorem dL_law_514 : decode cL_law 514 = .ok (.iadd, 1) := by decide +kernel
theorem dL_law_515 : decode cL_law 515 = .ok (.iaload, 1) := by decide +kernel
theorem dL_law_516 : decode cL_law 516 = .ok (.aload_n 0, 1) := by decide +kernel
theorem dL_law_517 : decode cL_law 517 = .ok (.iload_n 3, 1) := by decide +kernel
theorem dL_law_518 : decode cL_law 518 = .ok (.iconst 3, 1) := by decide +kernel
theorem dL_law_519 : decode cL_law 519 = .ok (.iadd, 1) := by decide +kernel
theorem dL_law_520 : decode cL_law 520 = .ok (.iaload, 1) := by decide +kernel
theorem dL_law_521 : decode cL_law 521 = .ok (.invokevirtual 53, 3) := by decide +kernel
theorem dL_law_524 : decode cL_law 524 = .ok (.aload_n 2, 1) := by decide +kernel
theorem dL_law_525 : decode cL_law 525 = .ok (.aload_n 0, 1) := by decide +kernel
theorem dL_law_526 : decode cL_law 526 = .ok (.iload_n 3, 1) := by decide +kernel
theorem dL_law_527 : decode cL_law 527 = .ok (.iconst 1, 1) := by decide +kernel
theorem dL_law_528 : decode cL_law 528 = .ok (.iadd, 1) := by decide +kernel
theorem dL_law_529 : decode cL_law 529 = .ok (.iaload, 1) := by decide +kernel
theorem dL_law_530 : decode cL_law 530 = .ok (.aload_n 0, 1) := by decide +kernel
theorem dL_law_531 : decode cL_law 531 = .ok (.iload_n 3, 1) := by decide +kernel
theorem dL_law_532 : decode cL_law 532 = .ok (.iconst 2, 1) := by decide +kernel
theorem dL_law_533 : decode cL_law 533 = .ok (.iadd, 1) := by decide +kernel
theorem dL_law_534 : decode cL_law 534 = .ok (.iaload, 1) := by decide +kernel
theorem dL_law_535 : decode cL_law 535 = .ok (.aload_n 0, 1) := by decide +kernel
theorem dL_law_536 : decode cL_law 536 = .ok (.iload_n 3, 1) := by decide +kernel
theorem dL_law_537 : decode cL_law 537 = .ok (.iconst 3, 1) := by decide +kernel
theorem dL_law_538 : decode cL_law 538 = .ok (.iadd, 1) := by decide +kernel
theorem dL_law_539 : decode cL_law 539 = .ok (.iaload, 1) := by decide +kernel
theorem dL_law_540 : decode cL_law 540 = .ok (.invokevirtual 56, 3) := by decide +kernel
theorem dL_law_543 : decode cL_law 543 = .ok (.if_icmp .eq 916, 3) := by decide +kernel
theorem dL_law_546 : decode cL_law 546 = .ok (.iconst 0, 1) := by decide +kernel
theorem dL_law_547 : decode cL_law 547 = .ok (.ireturn, 1) := by decide +kernel
theorem dL_law_548 : decode cL_law 548 = .ok (.aload_n 1, 1) := by decide +kernel
theorem dL_law_549 : decode cL_law 549 = .ok (.aload_n 0, 1) := by decide +kernel
theorem dL_law_550 : decode cL_law 550 = .ok (.iload_n 3, 1) := by decide +kernel
theorem dL_law_551 : decode cL_law 551 = .ok (.iconst 1, 1) := by decide +kernel
theorem dL_law_552 : decode cL_law 552 = .ok (.iadd, 1) := by decide +kernel
theorem dL_law_553 : decode cL_law 553 = .ok (.iaload, 1) := by decide +kernel
theorem dL_law_554 : decode cL_law 554 = .ok (.invokevirtual 57, 3) := by decide +kernel
theorem dL_law_557 : decode cL_law 557 = .ok (.aload_n 2, 1) := by decide +kernel
theorem dL_law_558 : decode cL_law 558 = .ok (.aload_n 0, 1) := by decide +kernel
theorem dL_law_559 : decode cL_law 559 = .ok (.iload_n 3, 1) := by decide +kernel
theorem dL_law_560 : decode cL_law 560 = .ok (.iconst 1, 1) := by decide +kernel
theorem dL_law_561 : decode cL_law 561 = .ok (.iadd, 1) := by decide +kernel
theorem dL_law_562 : decode cL_law 562 = .ok (.iaload, 1) := by decide +kernel
theorem dL_law_563 : decode cL_law 563 = .ok (.invokevirtual 60, 3) := by decide +kernel
theorem dL_law_566 : decode cL_law 566 = .ok (.if_icmp .eq 893, 3) := by decide +kernel
theorem dL_law_569 : decode cL_law 569 = .ok (.iconst 0, 1) := by decide +kernel
theorem dL_law_570 : decode cL_law 570 = .ok (.ireturn, 1) := by decide +kernel
theorem dL_law_571 : decode cL_law 571 = .ok (.aload_n 1, 1) := by decide +kernel
theorem dL_law_572 : decode cL_law 572 = .ok (.aload_n 0, 1) := by decide +kernel
theorem dL_law_573 : decode cL_law 573 = .ok (.iload_n 3, 1) := by decide +kernel
theorem dL_law_574 : decode cL_law 574 = .ok (.iconst 1, 1) := by decide +kernel
theorem dL_law_575 : decode cL_law 575 = .ok (.iadd, 1) := by decide +kernel
theorem dL_law_576 : decode cL_law 576 = .ok (.iaload, 1) := by decide +kernel
theorem dL_law_577 : decode cL_law 577 = .ok (.aload_n 0, 1) := by decide +kernel
theorem dL_law_578 : decode cL_law 578 = .ok (.iload_n 3, 1) := by decide +kernel
theorem dL_law_579 : decode cL_law 579 = .ok (.iconst 2, 1) := by decide +kernel
theorem dL_law_580 : decode cL_law 580 = .ok (.iadd, 1) := by decide +kernel
theorem dL_law_581 : decode cL_law 581 = .ok (.iaload, 1) := by decide +kernel
theorem dL_law_582 : decode cL_law 582 = .ok (.invokevirtual 61, 3) := by decide +kernel
theorem dL_law_585 : decode cL_law 585 = .ok (.aload_n 2, 1) := by decide +kernel
theorem dL_law_586 : decode cL_law 586 = .ok (.aload_n 0, 1) := by decide +kernel
theorem dL_law_587 : decode cL_law 587 = .ok (.iload_n 3, 1) := by decide +kernel
theorem dL_law_588 : decode cL_law 588 = .ok (.iconst 1, 1) := by decide +kernel
theorem dL_law_589 : decode cL_law 589 = .ok (.iadd, 1) := by decide +kernel
theorem dL_law_590 : decode cL_law 590 = .ok (.iaload, 1) := by decide +kernel
theorem dL_law_591 : decode cL_law 591 = .ok (.aload_n 0, 1) := by decide +kernel
theorem dL_law_592 : decode cL_law 592 = .ok (.iload_n 3, 1) := by decide +kernel
theorem dL_law_593 : decode cL_law 593 = .ok (.iconst 2, 1) := by decide +kernel
theorem dL_law_594 : decode cL_law 594 = .ok (.iadd, 1) := by decide +kernel
theorem dL_law_595 : decode cL_law 595 = .ok (.iaload, 1) := by decide +kernel
theorem dL_law_596 : decode cL_law 596 = .ok (.invokevirtual 64, 3) := by decide +kernel
theorem dL_law_599 : decode cL_law 599 = .ok (.if_icmp .eq 860, 3) := by decide +kernel
theorem dL_law_602 : decode cL_law 602 = .ok (.iconst 0, 1) := by decide +kernel
theorem dL_law_603 : decode cL_law 603 = .ok (.ireturn, 1) := by decide +kernel
theorem dL_law_604 : decode cL_law 604 = .ok (.aload_n 1, 1) := by decide +kernel
theorem dL_law_605 : decode cL_law 605 = .ok (.aload_n 0, 1) := by decide +kernel
theorem dL_law_606 : decode cL_law 606 = .ok (.iload_n 3, 1) := by decide +kernel
theorem dL_law_607 : decode cL_law 607 = .ok (.iconst 1, 1) := by decide +kernel
theorem dL_law_608 : decode cL_law 608 = .ok (.iadd, 1) := by decide +kernel
theorem dL_law_609 : decode cL_law 609 = .ok (.iaload, 1) := by decide +kernel
theorem dL_law_610 : decode cL_law 610 = .ok (.invokevirtual 65, 3) := by decide +kernel
theorem dL_law_613 : decode cL_law 613 = .ok (.aload_n 2, 1) := by decide +kernel
theorem dL_law_614 : decode cL_law 614 = .ok (.aload_n 0, 1) := by decide +kernel
theorem dL_law_615 : decode cL_law 615 = .ok (.iload_n 3, 1) := by decide +kernel
theorem dL_law_616 : decode cL_law 616 = .ok (.iconst 1, 1) := by decide +kernel
theorem dL_law_617 : decode cL_law 617 = .ok (.iadd, 1) := by decide +kernel
theorem dL_law_618 : decode cL_law 618 = .ok (.iaload, 1) := by decide +kernel
theorem dL_law_619 : decode cL_law 619 = .ok (.invokevirtual 68, 3) := by decide +kernel
theorem dL_law_622 : decode cL_law 622 = .ok (.if_icmp .eq 837, 3) := by decide +kernel
theorem dL_law_625 : decode cL_law 625 = .ok (.iconst 0, 1) := by decide +kernel
theorem dL_law_626 : decode cL_law 626 = .ok (.ireturn, 1) := by decide +kernel
theorem dL_law_627 : decode cL_law 627 = .ok (.aload_n 1, 1) := by decide +kernel
theorem dL_law_628 : decode cL_law 628 = .ok (.aload_n 0, 1) := by decide +kernel
theorem dL_law_629 : decode cL_law 629 = .ok (.iload_n 3, 1) := by decide +kernel
theorem dL_law_630 : decode cL_law 630 = .ok (.iconst 1, 1) := by decide +kernel
theorem dL_law_631 : decode cL_law 631 = .ok (.iadd, 1) := by decide +kernel
theorem dL_law_632 : decode cL_law 632 = .ok (.iaload, 1) := by decide +kernel
theorem dL_law_633 : decode cL_law 633 = .ok (.aload_n 0, 1) := by decide +kernel
theorem dL_law_634 : decode cL_law 634 = .ok (.iload_n 3, 1) := by decide +kernel
theorem dL_law_635 : decode cL_law 635 = .ok (.iconst 2, 1) := by decide +kernel
theorem dL_law_636 : decode cL_law 636 = .ok (.iadd, 1) := by decide +kernel
theorem dL_law_637 : decode cL_law 637 = .ok (.iaload, 1) := by decide +kernel
theorem dL_law_638 : decode cL_law 638 = .ok (.invokevirtual 69, 3) := by decide +kernel
theorem dL_law_641 : decode cL_law 641 = .ok (.aload_n 2, 1) := by decide +kernel
theorem dL_law_642 : decode cL_law 642 = .ok (.aload_n 0, 1) := by decide +kernel
theorem dL_law_643 : decode cL_law 643 = .ok (.iload_n 3, 1) := by decide +kernel
theorem dL_law_644 : decode cL_law 644 = .ok (.iconst 1, 1) := by decide +kernel
theorem dL_law_645 : decode cL_law 645 = .ok (.iadd, 1) := by decide +kernel
theorem dL_law_646 : decode cL_law 646 = .ok (.iaload, 1) := by decide +kernel
theorem dL_law_647 : decode cL_law 647 = .ok (.aload_n 0, 1) := by decide +kernel
theorem dL_law_648 : decode cL_law 648 = .ok (.iload_n 3, 1) := by decide +kernel
theorem dL_law_649 : decode cL_law 649 = .ok (.iconst 2, 1) := by decide +kernel
theorem dL_law_650 : decode cL_law 650 = .ok (.iadd, 1) := by decide +kernel
theorem dL_law_651 : decode cL_law 651 = .ok (.iaload, 1) := by decide +kernel
theorem dL_law_652 : decode cL_law 652 = .ok (.invokevirtual 72, 3) := by decide +kernel
theorem dL_law_655 : decode cL_law 655 = .ok (.if_icmp .eq 804, 3) := by decide +kernel
theorem dL_law_658 : decode cL_law 658 = .ok (.iconst 0, 1) := by decide +kernel
theorem dL_law_659 : decode cL_law 659 = .ok (.ireturn, 1) := by decide +kernel
theorem dL_law_660 : decode cL_law 660 = .ok (.aload_n 1, 1) := by decide +kernel
theorem dL_law_661 : decode cL_law 661 = .ok (.aload_n 0, 1) := by decide +kernel
theorem dL_law_662 : decode cL_law 662 = .ok (.iload_n 3, 1) := by decide +kernel
theorem dL_law_663 : decode cL_law 663 = .ok (.iconst 1, 1) := by decide +kernel
theorem dL_law_664 : decode cL_law 664 = .ok (.iadd, 1) := by decide +kernel
theorem dL_law_665 : decode cL_law 665 = .ok (.iaload, 1) := by decide +kernel
theorem dL_law_666 : decode cL_law 666 = .ok (.invokevirtual 73, 3) := by decide +kernel
theorem dL_law_669 : decode cL_law 669 = .ok (.aload_n 2, 1) := by decide +kernel
theorem dL_law_670 : decode cL_law 670 = .ok (.aload_n 0, 1) := by decide +kernel
theorem dL_law_671 : decode cL_law 671 = .ok (.iload_n 3, 1) := by decide +kernel
theorem dL_law_672 : decode cL_law 672 = .ok (.iconst 1, 1) := by decide +kernel
theorem dL_law_673 : decode cL_law 673 = .ok (.iadd, 1) := by decide +kernel
theorem dL_law_674 : decode cL_law 674 = .ok (.iaload, 1) := by decide +kernel
theorem dL_law_675 : decode cL_law 675 = .ok (.invokevirtual 76, 3) := by decide +kernel
theorem dL_law_678 : decode cL_law 678 = .ok (.if_icmp .eq 781, 3) := by decide +kernel
theorem dL_law_681 : decode cL_law 681 = .ok (.iconst 0, 1) := by decide +kernel
theorem dL_law_682 : decode cL_law 682 = .ok (.ireturn, 1) := by decide +kernel
theorem dL_law_683 : decode cL_law 683 = .ok (.aload_n 1, 1) := by decide +kernel
theorem dL_law_684 : decode cL_law 684 = .ok (.aload_n 0, 1) := by decide +kernel
theorem dL_law_685 : decode cL_law 685 = .ok (.iload_n 3, 1) := by decide +kernel
theorem dL_law_686 : decode cL_law 686 = .ok (.iconst 1, 1) := by decide +kernel
theorem dL_law_687 : decode cL_law 687 = .ok (.iadd, 1) := by decide +kernel
theorem dL_law_688 : decode cL_law 688 = .ok (.iaload, 1) := by decide +kernel
theorem dL_law_689 : decode cL_law 689 = .ok (.aload_n 0, 1) := by decide +kernel
theorem dL_law_690 : decode cL_law 690 = .ok (.iload_n 3, 1) := by decide +kernel
theorem dL_law_691 : decode cL_law 691 = .ok (.iconst 2, 1) := by decide +kernel
theorem dL_law_692 : decode cL_law 692 = .ok (.iadd, 1) := by decide +kernel
theorem dL_law_693 : decode cL_law 693 = .ok (.iaload, 1) := by decide +kernel
theorem dL_law_694 : decode cL_law 694 = .ok (.invokevirtual 77, 3) := by decide +kernel
theorem dL_law_697 : decode cL_law 697 = .ok (.aload_n 2, 1) := by decide +kernel
theorem dL_law_698 : decode cL_law 698 = .ok (.aload_n 0, 1) := by decide +kernel
theorem dL_law_699 : decode cL_law 699 = .ok (.iload_n 3, 1) := by decide +kernel
theorem dL_law_700 : decode cL_law 700 = .ok (.iconst 1, 1) := by decide +kernel
theorem dL_law_701 : decode cL_law 701 = .ok (.iadd, 1) := by decide +kernel
theorem dL_law_702 : decode cL_law 702 = .ok (.iaload, 1) := by decide +kernel
theorem dL_law_703 : decode cL_law 703 = .ok (.aload_n 0, 1) := by decide +kernel
theorem dL_law_704 : decode cL_law 704 = .ok (.iload_n 3, 1) := by decide +kernel
theorem dL_law_705 : decode cL_law 705 = .ok (.iconst 2, 1) := by decide +kernel
theorem dL_law_706 : decode cL_law 706 = .ok (.iadd, 1) := by decide +kernel
theorem dL_law_707 : decode cL_law 707 = .ok (.iaload, 1) := by decide +kernel
theorem dL_law_708 : decode cL_law 708 = .ok (.invokevirtual 80, 3) := by decide +kernel
theorem dL_law_711 : decode cL_law 711 = .ok (.if_icmp .eq 748, 3) := by decide +kernel
theorem dL_law_714 : decode cL_law 714 = .ok (.iconst 0, 1) := by decide +kernel
theorem dL_law_715 : decode cL_law 715 = .ok (.ireturn, 1) := by decide +kernel
theorem dL_law_716 : decode cL_law 716 = .ok (.aload_n 1, 1) := by decide +kernel
theorem dL_law_717 : decode cL_law 717 = .ok (.aload_n 0, 1) := by decide +kernel
theorem dL_law_718 : decode cL_law 718 = .ok (.iload_n 3, 1) := by decide +kernel
theorem dL_law_719 : decode cL_law 719 = .ok (.iconst 1, 1) := by decide +kernel
theorem dL_law_720 : decode cL_law 720 = .ok (.iadd, 1) := by decide +kernel
theorem dL_law_721 : decode cL_law 721 = .ok (.iaload, 1) := by decide +kernel
theorem dL_law_722 : decode cL_law 722 = .ok (.aload_n 0, 1) := by decide +kernel
theorem dL_law_723 : decode cL_law 723 = .ok (.iload_n 3, 1) := by decide +kernel
theorem dL_law_724 : decode cL_law 724 = .ok (.iconst 2, 1) := by decide +kernel
theorem dL_law_725 : decode cL_law 725 = .ok (.iadd, 1) := by decide +kernel
theorem dL_law_726 : decode cL_law 726 = .ok (.iaload, 1) := by decide +kernel
theorem dL_law_727 : decode cL_law 727 = .ok (.aload_n 0, 1) := by decide +kernel
theorem dL_law_728 : decode cL_law 728 = .ok (.iload_n 3, 1) := by decide +kernel
theorem dL_law_729 : decode cL_law 729 = .ok (.iconst 3, 1) := by decide +kernel
theorem dL_law_730 : decode cL_law 730 = .ok (.iadd, 1) := by decide +kernel
theorem dL_law_731 : decode cL_law 731 = .ok (.iaload, 1) := by decide +kernel
theorem dL_law_732 : decode cL_law 732 = .ok (.invokevirtual 81, 3) := by decide +kernel
theorem dL_law_735 : decode cL_law 735 = .ok (.aload_n 2, 1) := by decide +kernel
theorem dL_law_736 : decode cL_law 736 = .ok (.aload_n 0, 1) := by decide +kernel
theorem dL_law_737 : decode cL_law 737 = .ok (.iload_n 3, 1) := by decide +kernel
theorem dL_law_738 : decode cL_law 738 = .ok (.iconst 1, 1) := by decide +kernel
theorem dL_law_739 : decode cL_law 739 = .ok (.iadd, 1) := by decide +kernel
theorem dL_law_740 : decode cL_law 740 = .ok (.iaload, 1) := by decide +kernel
theorem dL_law_741 : decode cL_law 741 = .ok (.aload_n 0, 1) := by decide +kernel
theorem dL_law_742 : decode cL_law 742 = .ok (.iload_n 3, 1) := by decide +kernel
theorem dL_law_743 : decode cL_law 743 = .ok (.iconst 2, 1) := by decide +kernel
theorem dL_law_744 : decode cL_law 744 = .ok (.iadd, 1) := by decide +kernel
theorem dL_law_745 : decode cL_law 745 = .ok (.iaload, 1) := by decide +kernel
theorem dL_law_746 : decode cL_law 746 = .ok (.aload_n 0, 1) := by decide +kernel
theorem dL_law_747 : decode cL_law 747 = .ok (.iload_n 3, 1) := by decide +kernel
theorem dL_law_748 : decode cL_law 748 = .ok (.iconst 3, 1) := by decide +kernel
theorem dL_law_749 : decode cL_law 749 = .ok (.iadd, 1) := by decide +kernel
theorem dL_law_750 : decode cL_law 750 = .ok (.iaload, 1) := by decide +kernel
theorem dL_law_751 : decode cL_law 751 = .ok (.invokevirtual 84, 3) := by decide +kernel
theorem dL_law_754 : decode cL_law 754 = .ok (.if_icmp .eq 705, 3) := by decide +kernel
theorem dL_law_757 : decode cL_law 757 = .ok (.iconst 0, 1) := by decide +kernel
theorem dL_law_758 : decode cL_law 758 = .ok (.ireturn, 1) := by decide +kernel
theorem dL_law_759 : decode cL_law 759 = .ok (.aload_n 1, 1) := by decide +kernel
theorem dL_law_760 : decode cL_law 760 = .ok (.aload_n 0, 1) := by decide +kernel
theorem dL_law_761 : decode cL_law 761 = .ok (.iload_n 3, 1) := by decide +kernel
theorem dL_law_762 : decode cL_law 762 = .ok (.iconst 1, 1) := by decide +kernel
theorem dL_law_763 : decode cL_law 763 = .ok (.iadd, 1) := by decide +kernel
theorem dL_law_764 : decode cL_law 764 = .ok (.iaload, 1) := by decide +kernel
theorem dL_law_765 : decode cL_law 765 = .ok (.invokevirtual 85, 3) := by decide +kernel
theorem dL_law_768 : decode cL_law 768 = .ok (.aload_n 2, 1) := by decide +kernel
theorem dL_law_769 : decode cL_law 769 = .ok (.aload_n 0, 1) := by decide +kernel
theorem dL_law_770 : decode cL_law 770 = .ok (.iload_n 3, 1) := by decide +kernel
theorem dL_law_771 : decode cL_law 771 = .ok (.iconst 1, 1) := by decide +kernel
theorem dL_law_772 : decode cL_law 772 = .ok (.iadd, 1) := by decide +kernel
theorem dL_law_773 : decode cL_law 773 = .ok (.iaload, 1) := by decide +kernel
theorem dL_law_774 : decode cL_law 774 = .ok (.invokevirtual 88, 3) := by decide +kernel
theorem dL_law_777 : decode cL_law 777 = .ok (.if_icmp .eq 682, 3) := by decide +kernel
theorem dL_law_780 : decode cL_law 780 = .ok (.iconst 0, 1) := by decide +kernel
theorem dL_law_781 : decode cL_law 781 = .ok (.ireturn, 1) := by decide +kernel
theorem dL_law_782 : decode cL_law 782 = .ok (.aload_n 1, 1) := by decide +kernel
theorem dL_law_783 : decode cL_law 783 = .ok (.aload_n 0, 1) := by decide +kernel
theorem dL_law_784 : decode cL_law 784 = .ok (.iload_n 3, 1) := by decide +kernel
theorem dL_law_785 : decode cL_law 785 = .ok (.iconst 1, 1) := by decide +kernel
theorem dL_law_786 : decode cL_law 786 = .ok (.iadd, 1) := by decide +kernel
theorem dL_law_787 : decode cL_law 787 = .ok (.iaload, 1) := by decide +kernel
theorem dL_law_788 : decode cL_law 788 = .ok (.invokevirtual 89, 3) := by decide +kernel
theorem dL_law_791 : decode cL_law 791 = .ok (.aload_n 2, 1) := by decide +kernel
theorem dL_law_792 : decode cL_law 792 = .ok (.aload_n 0, 1) := by decide +kernel
theorem dL_law_793 : decode cL_law 793 = .ok (.iload_n 3, 1) := by decide +kernel
theorem dL_law_794 : decode cL_law 794 = .ok (.iconst 1, 1) := by decide +kernel
theorem dL_law_795 : decode cL_law 795 = .ok (.iadd, 1) := by decide +kernel
theorem dL_law_796 : decode cL_law 796 = .ok (.iaload, 1) := by decide +kernel
theorem dL_law_797 : decode cL_law 797 = .ok (.invokevirtual 92, 3) := by decide +kernel
theorem dL_law_800 : decode cL_law 800 = .ok (.if_icmp .eq 659, 3) := by decide +kernel
theorem dL_law_803 : decode cL_law 803 = .ok (.iconst 0, 1) := by decide +kernel
theorem dL_law_804 : decode cL_law 804 = .ok (.ireturn, 1) := by decide +kernel
theorem dL_law_805 : decode cL_law 805 = .ok (.aload_n 1, 1) := by decide +kernel
theorem dL_law_806 : decode cL_law 806 = .ok (.aload_n 0, 1) := by decide +kernel
theorem dL_law_807 : decode cL_law 807 = .ok (.iload_n 3, 1) := by decide +kernel
theorem dL_law_808 : decode cL_law 808 = .ok (.iconst 1, 1) := by decide +kernel
theorem dL_law_809 : decode cL_law 809 = .ok (.iadd, 1) := by decide +kernel
theorem dL_law_810 : decode cL_law 810 = .ok (.iaload, 1) := by decide +kernel
theorem dL_law_811 : decode cL_law 811 = .ok (.aload_n 0, 1) := by decide +kernel
theorem dL_law_812 : decode cL_law 812 = .ok (.iload_n 3, 1) := by decide +kernel
theorem dL_law_813 : decode cL_law 813 = .ok (.iconst 2, 1) := by decide +kernel
theorem dL_law_814 : decode cL_law 814 = .ok (.iadd, 1) := by decide +kernel
theorem dL_law_815 : decode cL_law 815 = .ok (.iaload, 1) := by decide +kernel
theorem dL_law_816 : decode cL_law 816 = .ok (.invokevirtual 93, 3) := by decide +kernel
theorem dL_law_819 : decode cL_law 819 = .ok (.aload_n 2, 1) := by decide +kernel
theorem dL_law_820 : decode cL_law 820 = .ok (.aload_n 0, 1) := by decide +kernel
theorem dL_law_821 : decode cL_law 821 = .ok (.iload_n 3, 1) := by decide +kernel
theorem dL_law_822 : decode cL_law 822 = .ok (.iconst 1, 1) := by decide +kernel
theorem dL_law_823 : decode cL_law 823 = .ok (.iadd, 1) := by decide +kernel
theorem dL_law_824 : decode cL_law 824 = .ok (.iaload, 1) := by decide +kernel
theorem dL_law_825 : decode cL_law 825 = .ok (.aload_n 0, 1) := by decide +kernel
theorem dL_law_826 : decode cL_law 826 = .ok (.iload_n 3, 1) := by decide +kernel
theorem dL_law_827 : decode cL_law 827 = .ok (.iconst 2, 1) := by decide +kernel
theorem dL_law_828 : decode cL_law 828 = .ok (.iadd, 1) := by decide +kernel
theorem dL_law_829 : decode cL_law 829 = .ok (.iaload, 1) := by decide +kernel
theorem dL_law_830 : decode cL_law 830 = .ok (.invokevirtual 96, 3) := by decide +kernel
theorem dL_law_833 : decode cL_law 833 = .ok (.if_icmp .eq 626, 3) := by decide +kernel
theorem dL_law_836 : decode cL_law 836 = .ok (.iconst 0, 1) := by decide +kernel
theorem dL_law_837 : decode cL_law 837 = .ok (.ireturn, 1) := by decide +kernel
theorem dL_law_838 : decode cL_law 838 = .ok (.aload_n 1, 1) := by decide +kernel
theorem dL_law_839 : decode cL_law 839 = .ok (.aload_n 0, 1) := by decide +kernel
theorem dL_law_840 : decode cL_law 840 = .ok (.iload_n 3, 1) := by decide +kernel
theorem dL_law_841 : decode cL_law 841 = .ok (.iconst 1, 1) := by decide +kernel
theorem dL_law_842 : decode cL_law 842 = .ok (.iadd, 1) := by decide +kernel
theorem dL_law_843 : decode cL_law 843 = .ok (.iaload, 1) := by decide +kernel
theorem dL_law_844 : decode cL_law 844 = .ok (.aload_n 0, 1) := by decide +kernel
theorem dL_law_845 : decode cL_law 845 = .ok (.iload_n 3, 1) := by decide +kernel
theorem dL_law_846 : decode cL_law 846 = .ok (.iconst 2, 1) := by decide +kernel
theorem dL_law_847 : decode cL_law 847 = .ok (.iadd, 1) := by decide +kernel
theorem dL_law_848 : decode cL_law 848 = .ok (.iaload, 1) := by decide +kernel
theorem dL_law_849 : decode cL_law 849 = .ok (.aload_n 0, 1) := by decide +kernel
theorem dL_law_850 : decode cL_law 850 = .ok (.iload_n 3, 1) := by decide +kernel
theorem dL_law_851 : decode cL_law 851 = .ok (.iconst 3, 1) := by decide +kernel
theorem dL_law_852 : decode cL_law 852 = .ok (.iadd, 1) := by decide +kernel
theorem dL_law_853 : decode cL_law 853 = .ok (.iaload, 1) := by decide +kernel
theorem dL_law_854 : decode cL_law 854 = .ok (.invokevirtual 97, 3) := by decide +kernel
theorem dL_law_857 : decode cL_law 857 = .ok (.aload_n 2, 1) := by decide +kernel
theorem dL_law_858 : decode cL_law 858 = .ok (.aload_n 0, 1) := by decide +kernel
theorem dL_law_859 : decode cL_law 859 = .ok (.iload_n 3, 1) := by decide +kernel
theorem dL_law_860 : decode cL_law 860 = .ok (.iconst 1, 1) := by decide +kernel
theorem dL_law_861 : decode cL_law 861 = .ok (.iadd, 1) := by decide +kernel
theorem dL_law_862 : decode cL_law 862 = .ok (.iaload, 1) := by decide +kernel
theorem dL_law_863 : decode cL_law 863 = .ok (.aload_n 0, 1) := by decide +kernel
theorem dL_law_864 : decode cL_law 864 = .ok (.iload_n 3, 1) := by decide +kernel
theorem dL_law_865 : decode cL_law 865 = .ok (.iconst 2, 1) := by decide +kernel
theorem dL_law_866 : decode cL_law 866 = .ok (.iadd, 1) := by decide +kernel
theorem dL_law_867 : decode cL_law 867 = .ok (.iaload, 1) := by decide +kernel
theorem dL_law_868 : decode cL_law 868 = .ok (.aload_n 0, 1) := by decide +kernel
theorem dL_law_869 : decode cL_law 869 = .ok (.iload_n 3, 1) := by decide +kernel
theorem dL_law_870 : decode cL_law 870 = .ok (.iconst 3, 1) := by decide +kernel
theorem dL_law_871 : decode cL_law 871 = .ok (.iadd, 1) := by decide +kernel
theorem dL_law_872 : decode cL_law 872 = .ok (.iaload, 1) := by decide +kernel
theorem dL_law_873 : decode cL_law 873 = .ok (.invokevirtual 100, 3) := by decide +kernel
theorem dL_law_876 : decode cL_law 876 = .ok (.if_icmp .eq 583, 3) := by decide +kernel
theorem dL_law_879 : decode cL_law 879 = .ok (.iconst 0, 1) := by decide +kernel
theorem dL_law_880 : decode cL_law 880 = .ok (.ireturn, 1) := by decide +kernel
theorem dL_law_881 : decode cL_law 881 = .ok (.aload_n 1, 1) := by decide +kernel
theorem dL_law_882 : decode cL_law 882 = .ok (.aload_n 0, 1) := by decide +kernel
theorem dL_law_883 : decode cL_law 883 = .ok (.iload_n 3, 1) := by decide +kernel
theorem dL_law_884 : decode cL_law 884 = .ok (.iconst 1, 1) := by decide +kernel
theorem dL_law_885 : decode cL_law 885 = .ok (.iadd, 1) := by decide +kernel
theorem dL_law_886 : decode cL_law 886 = .ok (.iaload, 1) := by decide +kernel
theorem dL_law_887 : decode cL_law 887 = .ok (.invokevirtual 101, 3) := by decide +kernel
theorem dL_law_890 : decode cL_law 890 = .ok (.aload_n 2, 1) := by decide +kernel
theorem dL_law_891 : decode cL_law 891 = .ok (.aload_n 0, 1) := by decide +kernel
theorem dL_law_892 : decode cL_law 892 = .ok (.iload_n 3, 1) := by decide +kernel
theorem dL_law_893 : decode cL_law 893 = .ok (.iconst 1, 1) := by decide +kernel
theorem dL_law_894 : decode cL_law 894 = .ok (.iadd, 1) := by decide +kernel
theorem dL_law_895 : decode cL_law 895 = .ok (.iaload, 1) := by decide +kernel
theorem dL_law_896 : decode cL_law 896 = .ok (.invokevirtual 104, 3) := by decide +kernel
theorem dL_law_899 : decode cL_law 899 = .ok (.if_icmp .eq 560, 3) := by decide +kernel
theorem dL_law_902 : decode cL_law 902 = .ok (.iconst 0, 1) := by decide +kernel
theorem dL_law_903 : decode cL_law 903 = .ok (.ireturn, 1) := by decide +kernel
theorem dL_law_904 : decode cL_law 904 = .ok (.aload_n 1, 1) := by decide +kernel
theorem dL_law_905 : decode cL_law 905 = .ok (.aload_n 0, 1) := by decide +kernel
theorem dL_law_906 : decode cL_law 906 = .ok (.iload_n 3, 1) := by decide +kernel
theorem dL_law_907 : decode cL_law 907 = .ok (.iconst 1, 1) := by decide +kernel
theorem dL_law_908 : decode cL_law 908 = .ok (.iadd, 1) := by decide +kernel
theorem dL_law_909 : decode cL_law 909 = .ok (.iaload, 1) := by decide +kernel
theorem dL_law_910 : decode cL_law 910 = .ok (.aload_n 0, 1) := by decide +kernel
theorem dL_law_911 : decode cL_law 911 = .ok (.iload_n 3, 1) := by decide +kernel
theorem dL_law_912 : decode cL_law 912 = .ok (.iconst 2, 1) := by decide +kernel
theorem dL_law_913 : decode cL_law 913 = .ok (.iadd, 1) := by decide +kernel
theorem dL_law_914 : decode cL_law 914 = .ok (.iaload, 1) := by decide +kernel
theorem dL_law_915 : decode cL_law 915 = .ok (.invokevirtual 105, 3) := by decide +kernel
theorem dL_law_918 : decode cL_law 918 = .ok (.aload_n 2, 1) := by decide +kernel
theorem dL_law_919 : decode cL_law 919 = .ok (.aload_n 0, 1) := by decide +kernel
theorem dL_law_920 : decode cL_law 920 = .ok (.iload_n 3, 1) := by decide +kernel
theorem dL_law_921 : decode cL_law 921 = .ok (.iconst 1, 1) := by decide +kernel
theorem dL_law_922 : decode cL_law 922 = .ok (.iadd, 1) := by decide +kernel
theorem dL_law_923 : decode cL_law 923 = .ok (.iaload, 1) := by decide +kernel
theorem dL_law_924 : decode cL_law 924 = .ok (.aload_n 0, 1) := by decide +kernel
theorem dL_law_925 : decode cL_law 925 = .ok (.iload_n 3, 1) := by decide +kernel
theorem dL_law_926 : decode cL_law 926 = .ok (.iconst 2, 1) := by decide +kernel
theorem dL_law_927 : decode cL_law 927 = .ok (.iadd, 1) := by decide +kernel
theorem dL_law_928 : decode cL_law 928 = .ok (.iaload, 1) := by decide +kernel
theorem dL_law_929 : decode cL_law 929 = .ok (.invokevirtual 108, 3) := by decide +kernel
theorem dL_law_932 : decode cL_law 932 = .ok (.if_icmp .eq 527, 3) := by decide +kernel
theorem dL_law_935 : decode cL_law 935 = .ok (.iconst 0, 1) := by decide +kernel
theorem dL_law_936 : decode cL_law 936 = .ok (.ireturn, 1) := by decide +kernel
theorem dL_law_937 : decode cL_law 937 = .ok (.aload_n 1, 1) := by decide +kernel
theorem dL_law_938 : decode cL_law 938 = .ok (.aload_n 0, 1) := by decide +kernel
theorem dL_law_939 : decode cL_law 939 = .ok (.iload_n 3, 1) := by decide +kernel
theorem dL_law_940 : decode cL_law 940 = .ok (.iconst 1, 1) := by decide +kernel
theorem dL_law_941 : decode cL_law 941 = .ok (.iadd, 1) := by decide +kernel
theorem dL_law_942 : decode cL_law 942 = .ok (.iaload, 1) := by decide +kernel
theorem dL_law_943 : decode cL_law 943 = .ok (.invokevirtual 109, 3) := by decide +kernel
theorem dL_law_946 : decode cL_law 946 = .ok (.aload_n 2, 1) := by decide +kernel
theorem dL_law_947 : decode cL_law 947 = .ok (.aload_n 0, 1) := by decide +kernel
theorem dL_law_948 : decode cL_law 948 = .ok (.iload_n 3, 1) := by decide +kernel
theorem dL_law_949 : decode cL_law 949 = .ok (.iconst 1, 1) := by decide +kernel
theorem dL_law_950 : decode cL_law 950 = .ok (.iadd, 1) := by decide +kernel
theorem dL_law_951 : decode cL_law 951 = .ok (.iaload, 1) := by decide +kernel
theorem dL_law_952 : decode cL_law 952 = .ok (.invokevirtual 112, 3) := by decide +kernel
theorem dL_law_955 : decode cL_law 955 = .ok (.if_icmp .eq 504, 3) := by decide +kernel
theorem dL_law_958 : decode cL_law 958 = .ok (.iconst 0, 1) := by decide +kernel
theorem dL_law_959 : decode cL_law 959 = .ok (.ireturn, 1) := by decide +kernel
theorem dL_law_960 : decode cL_law 960 = .ok (.aload_n 1, 1) := by decide +kernel
theorem dL_law_961 : decode cL_law 961 = .ok (.aload_n 0, 1) := by decide +kernel
theorem dL_law_962 : decode cL_law 962 = .ok (.iload_n 3, 1) := by decide +kernel
theorem dL_law_963 : decode cL_law 963 = .ok (.iconst 1, 1) := by decide +kernel
theorem dL_law_964 : decode cL_law 964 = .ok (.iadd, 1) := by decide +kernel
theorem dL_law_965 : decode cL_law 965 = .ok (.iaload, 1) := by decide +kernel
theorem dL_law_966 : decode cL_law 966 = .ok (.aload_n 0, 1) := by decide +kernel
theorem dL_law_967 : decode cL_law 967 = .ok (.iload_n 3, 1) := by decide +kernel
theorem dL_law_968 : decode cL_law 968 = .ok (.iconst 2, 1) := by decide +kernel
theorem dL_law_969 : decode cL_law 969 = .ok (.iadd, 1) := by decide +kernel
theorem dL_law_970 : decode cL_law 970 = .ok (.iaload, 1) := by decide +kernel
theorem dL_law_971 : decode cL_law 971 = .ok (.invokevirtual 113, 3) := by decide +kernel
theorem dL_law_974 : decode cL_law 974 = .ok (.aload_n 2, 1) := by decide +kernel
theorem dL_law_975 : decode cL_law 975 = .ok (.aload_n 0, 1) := by decide +kernel
theorem dL_law_976 : decode cL_law 976 = .ok (.iload_n 3, 1) := by decide +kernel
theorem dL_law_977 : decode cL_law 977 = .ok (.iconst 1, 1) := by decide +kernel
theorem dL_law_978 : decode cL_law 978 = .ok (.iadd, 1) := by decide +kernel
theorem dL_law_979 : decode cL_law 979 = .ok (.iaload, 1) := by decide +kernel
theorem dL_law_980 : decode cL_law 980 = .ok (.aload_n 0, 1) := by decide +kernel
theorem dL_law_981 : decode cL_law 981 = .ok (.iload_n 3, 1) := by decide +kernel
theorem dL_law_982 : decode cL_law 982 = .ok (.iconst 2, 1) := by decide +kernel
theorem dL_law_983 : decode cL_law 983 = .ok (.iadd, 1) := by decide +kernel
theorem dL_law_984 : decode cL_law 984 = .ok (.iaload, 1) := by decide +kernel
theorem dL_law_985 : decode cL_law 985 = .ok (.invokevirtual 116, 3) := by decide +kernel
theorem dL_law_988 : decode cL_law 988 = .ok (.if_icmp .eq 471, 3) := by decide +kernel
theorem dL_law_991 : decode cL_law 991 = .ok (.iconst 0, 1) := by decide +kernel
theorem dL_law_992 : decode cL_law 992 = .ok (.ireturn, 1) := by decide +kernel
theorem dL_law_993 : decode cL_law 993 = .ok (.aload_n 1, 1) := by decide +kernel
theorem dL_law_994 : decode cL_law 994 = .ok (.aload_n 0, 1) := by decide +kernel
theorem dL_law_995 : decode cL_law 995 = .ok (.iload_n 3, 1) := by decide +kernel
theorem dL_law_996 : decode cL_law 996 = .ok (.iconst 1, 1) := by decide +kernel
theorem dL_law_997 : decode cL_law 997 = .ok (.iadd, 1) := by decide +kernel
theorem dL_law_998 : decode cL_law 998 = .ok (.iaload, 1) := by decide +kernel
theorem dL_law_999 : decode cL_law 999 = .ok (.invokevirtual 117, 3) := by decide +kernel
theorem dL_law_1002 : decode cL_law 1002 = .ok (.aload_n 2, 1) := by decide +kernel
theorem dL_law_1003 : decode cL_law 1003 = .ok (.aload_n 0, 1) := by decide +kernel
theorem dL_law_1004 : decode cL_law 1004 = .ok (.iload_n 3, 1) := by decide +kernel
theorem dL_law_1005 : decode cL_law 1005 = .ok (.iconst 1, 1) := by decide +kernel
theorem dL_law_1006 : decode cL_law 1006 = .ok (.iadd, 1) := by decide +kernel
theorem dL_law_1007 : decode cL_law 1007 = .ok (.iaload, 1) := by decide +kernel
theorem dL_law_1008 : decode cL_law 1008 = .ok (.invokevirtual 120, 3) := by decide +kernel
theorem dL_law_1011 : decode cL_law 1011 = .ok (.if_icmp .eq 448, 3) := by decide +kernel
theorem dL_law_1014 : decode cL_law 1014 = .ok (.iconst 0, 1) := by decide +kernel
theorem dL_law_1015 : decode cL_law 1015 = .ok (.ireturn, 1) := by decide +kernel
theorem dL_law_1016 : decode cL_law 1016 = .ok (.aload_n 1, 1) := by decide +kernel
theorem dL_law_1017 : decode cL_law 1017 = .ok (.invokevirtual 121, 3) := by decide +kernel
theorem dL_law_1020 : decode cL_law 1020 = .ok (.aload_n 2, 1) := by decide +kernel
theorem dL_law_1021 : decode cL_law 1021 = .ok (.invokevirtual 124, 3) := by decide +kernel
theorem dL_law_1024 : decode cL_law 1024 = .ok (.if_icmp .eq 435, 3) := by decide +kernel
theorem dL_law_1027 : decode cL_law 1027 = .ok (.iconst 0, 1) := by decide +kernel
theorem dL_law_1028 : decode cL_law 1028 = .ok (.ireturn, 1) := by decide +kernel
theorem dL_law_1029 : decode cL_law 1029 = .ok (.aload_n 1, 1) := by decide +kernel
theorem dL_law_1030 : decode cL_law 1030 = .ok (.invokevirtual 125, 3) := by decide +kernel
theorem dL_law_1033 : decode cL_law 1033 = .ok (.aload_n 2, 1) := by decide +kernel
theorem dL_law_1034 : decode cL_law 1034 = .ok (.invokevirtual 128, 3) := by decide +kernel
theorem dL_law_1037 : decode cL_law 1037 = .ok (.if_icmp .eq 422, 3) := by decide +kernel
theorem dL_law_1040 : decode cL_law 1040 = .ok (.iconst 0, 1) := by decide +kernel
theorem dL_law_1041 : decode cL_law 1041 = .ok (.ireturn, 1) := by decide +kernel
theorem dL_law_1042 : decode cL_law 1042 = .ok (.aload_n 1, 1) := by decide +kernel
theorem dL_law_1043 : decode cL_law 1043 = .ok (.invokevirtual 129, 3) := by decide +kernel
theorem dL_law_1046 : decode cL_law 1046 = .ok (.aload_n 2, 1) := by decide +kernel
theorem dL_law_1047 : decode cL_law 1047 = .ok (.invokevirtual 132, 3) := by decide +kernel
theorem dL_law_1050 : decode cL_law 1050 = .ok (.if_icmp .eq 409, 3) := by decide +kernel
theorem dL_law_1053 : decode cL_law 1053 = .ok (.iconst 0, 1) := by decide +kernel
theorem dL_law_1054 : decode cL_law 1054 = .ok (.ireturn, 1) := by decide +kernel
theorem dL_law_1055 : decode cL_law 1055 = .ok (.aload_n 1, 1) := by decide +kernel
theorem dL_law_1056 : decode cL_law 1056 = .ok (.invokevirtual 133, 3) := by decide +kernel
theorem dL_law_1059 : decode cL_law 1059 = .ok (.aload_n 2, 1) := by decide +kernel
theorem dL_law_1060 : decode cL_law 1060 = .ok (.invokevirtual 136, 3) := by decide +kernel
theorem dL_law_1063 : decode cL_law 1063 = .ok (.if_icmp .eq 396, 3) := by decide +kernel
theorem dL_law_1066 : decode cL_law 1066 = .ok (.iconst 0, 1) := by decide +kernel
theorem dL_law_1067 : decode cL_law 1067 = .ok (.ireturn, 1) := by decide +kernel
theorem dL_law_1068 : decode cL_law 1068 = .ok (.aload_n 1, 1) := by decide +kernel
theorem dL_law_1069 : decode cL_law 1069 = .ok (.aload_n 0, 1) := by decide +kernel
theorem dL_law_1070 : decode cL_law 1070 = .ok (.iload_n 3, 1) := by decide +kernel
theorem dL_law_1071 : decode cL_law 1071 = .ok (.iconst 1, 1) := by decide +kernel
theorem dL_law_1072 : decode cL_law 1072 = .ok (.iadd, 1) := by decide +kernel
theorem dL_law_1073 : decode cL_law 1073 = .ok (.iaload, 1) := by decide +kernel
theorem dL_law_1074 : decode cL_law 1074 = .ok (.invokevirtual 137, 3) := by decide +kernel
theorem dL_law_1077 : decode cL_law 1077 = .ok (.aload_n 2, 1) := by decide +kernel
theorem dL_law_1078 : decode cL_law 1078 = .ok (.aload_n 0, 1) := by decide +kernel
theorem dL_law_1079 : decode cL_law 1079 = .ok (.iload_n 3, 1) := by decide +kernel
theorem dL_law_1080 : decode cL_law 1080 = .ok (.iconst 1, 1) := by decide +kernel
theorem dL_law_1081 : decode cL_law 1081 = .ok (.iadd, 1) := by decide +kernel
theorem dL_law_1082 : decode cL_law 1082 = .ok (.iaload, 1) := by decide +kernel
theorem dL_law_1083 : decode cL_law 1083 = .ok (.invokevirtual 140, 3) := by decide +kernel
theorem dL_law_1086 : decode cL_law 1086 = .ok (.if_icmp .eq 373, 3) := by decide +kernel
theorem dL_law_1089 : decode cL_law 1089 = .ok (.iconst 0, 1) := by decide +kernel
theorem dL_law_1090 : decode cL_law 1090 = .ok (.ireturn, 1) := by decide +kernel
theorem dL_law_1091 : decode cL_law 1091 = .ok (.aload_n 1, 1) := by decide +kernel
theorem dL_law_1092 : decode cL_law 1092 = .ok (.aload_n 0, 1) := by decide +kernel
theorem dL_law_1093 : decode cL_law 1093 = .ok (.iload_n 3, 1) := by decide +kernel
theorem dL_law_1094 : decode cL_law 1094 = .ok (.iconst 1, 1) := by decide +kernel
theorem dL_law_1095 : decode cL_law 1095 = .ok (.iadd, 1) := by decide +kernel
theorem dL_law_1096 : decode cL_law 1096 = .ok (.iaload, 1) := by decide +kernel
theorem dL_law_1097 : decode cL_law 1097 = .ok (.aload_n 0, 1) := by decide +kernel
theorem dL_law_1098 : decode cL_law 1098 = .ok (.iload_n 3, 1) := by decide +kernel
theorem dL_law_1099 : decode cL_law 1099 = .ok (.iconst 2, 1) := by decide +kernel
theorem dL_law_1100 : decode cL_law 1100 = .ok (.iadd, 1) := by decide +kernel
theorem dL_law_1101 : decode cL_law 1101 = .ok (.iaload, 1) := by decide +kernel
theorem dL_law_1102 : decode cL_law 1102 = .ok (.aload_n 0, 1) := by decide +kernel
theorem dL_law_1103 : decode cL_law 1103 = .ok (.iload_n 3, 1) := by decide +kernel
theorem dL_law_1104 : decode cL_law 1104 = .ok (.iconst 3, 1) := by decide +kernel
theorem dL_law_1105 : decode cL_law 1105 = .ok (.iadd, 1) := by decide +kernel
theorem dL_law_1106 : decode cL_law 1106 = .ok (.iaload, 1) := by decide +kernel
theorem dL_law_1107 : decode cL_law 1107 = .ok (.invokevirtual 141, 3) := by decide +kernel
theorem dL_law_1110 : decode cL_law 1110 = .ok (.aload_n 2, 1) := by decide +kernel
theorem dL_law_1111 : decode cL_law 1111 = .ok (.aload_n 0, 1) := by decide +kernel
theorem dL_law_1112 : decode cL_law 1112 = .ok (.iload_n 3, 1) := by decide +kernel
theorem dL_law_1113 : decode cL_law 1113 = .ok (.iconst 1, 1) := by decide +kernel
theorem dL_law_1114 : decode cL_law 1114 = .ok (.iadd, 1) := by decide +kernel
theorem dL_law_1115 : decode cL_law 1115 = .ok (.iaload, 1) := by decide +kernel
theorem dL_law_1116 : decode cL_law 1116 = .ok (.aload_n 0, 1) := by decide +kernel
theorem dL_law_1117 : decode cL_law 1117 = .ok (.iload_n 3, 1) := by decide +kernel
theorem dL_law_1118 : decode cL_law 1118 = .ok (.iconst 2, 1) := by decide +kernel
theorem dL_law_1119 : decode cL_law 1119 = .ok (.iadd, 1) := by decide +kernel
theorem dL_law_1120 : decode cL_law 1120 = .ok (.iaload, 1) := by decide +kernel
theorem dL_law_1121 : decode cL_law 1121 = .ok (.aload_n 0, 1) := by decide +kernel
theorem dL_law_1122 : decode cL_law 1122 = .ok (.iload_n 3, 1) := by decide +kernel
theorem dL_law_1123 : decode cL_law 1123 = .ok (.iconst 3, 1) := by decide +kernel
theorem dL_law_1124 : decode cL_law 1124 = .ok (.iadd, 1) := by decide +kernel
theorem dL_law_1125 : decode cL_law 1125 = .ok (.iaload, 1) := by decide +kernel
theorem dL_law_1126 : decode cL_law 1126 = .ok (.invokevirtual 144, 3) := by decide +kernel
theorem dL_law_1129 : decode cL_law 1129 = .ok (.if_icmp .eq 330, 3) := by decide +kernel
theorem dL_law_1132 : decode cL_law 1132 = .ok (.iconst 0, 1) := by decide +kernel
theorem dL_law_1133 : decode cL_law 1133 = .ok (.ireturn, 1) := by decide +kernel
theorem dL_law_1134 : decode cL_law 1134 = .ok (.aload_n 1, 1) := by decide +kernel
theorem dL_law_1135 : decode cL_law 1135 = .ok (.aload_n 0, 1) := by decide +kernel
theorem dL_law_1136 : decode cL_law 1136 = .ok (.iload_n 3, 1) := by decide +kernel
theorem dL_law_1137 : decode cL_law 1137 = .ok (.iconst 1, 1) := by decide +kernel
theorem dL_law_1138 : decode cL_law 1138 = .ok (.iadd, 1) := by decide +kernel
theorem dL_law_1139 : decode cL_law 1139 = .ok (.iaload, 1) := by decide +kernel
theorem dL_law_1140 : decode cL_law 1140 = .ok (.invokevirtual 145, 3) := by decide +kernel
theorem dL_law_1143 : decode cL_law 1143 = .ok (.aload_n 2, 1) := by decide +kernel
theorem dL_law_1144 : decode cL_law 1144 = .ok (.aload_n 0, 1) := by decide +kernel
theorem dL_law_1145 : decode cL_law 1145 = .ok (.iload_n 3, 1) := by decide +kernel
theorem dL_law_1146 : decode cL_law 1146 = .ok (.iconst 1, 1) := by decide +kernel
theorem dL_law_1147 : decode cL_law 1147 = .ok (.iadd, 1) := by decide +kernel
theorem dL_law_1148 : decode cL_law 1148 = .ok (.iaload, 1) := by decide +kernel
theorem dL_law_1149 : decode cL_law 1149 = .ok (.invokevirtual 148, 3) := by decide +kernel
theorem dL_law_1152 : decode cL_law 1152 = .ok (.if_icmp .eq 307, 3) := by decide +kernel
theorem dL_law_1155 : decode cL_law 1155 = .ok (.iconst 0, 1) := by decide +kernel
theorem dL_law_1156 : decode cL_law 1156 = .ok (.ireturn, 1) := by decide +kernel
theorem dL_law_1157 : decode cL_law 1157 = .ok (.aload_n 1, 1) := by decide +kernel
theorem dL_law_1158 : decode cL_law 1158 = .ok (.aload_n 0, 1) := by decide +kernel
theorem dL_law_1159 : decode cL_law 1159 = .ok (.iload_n 3, 1) := by decide +kernel
theorem dL_law_1160 : decode cL_law 1160 = .ok (.iconst 1, 1) := by decide +kernel
theorem dL_law_1161 : decode cL_law 1161 = .ok (.iadd, 1) := by decide +kernel
theorem dL_law_1162 : decode cL_law 1162 = .ok (.iaload, 1) := by decide +kernel
theorem dL_law_1163 : decode cL_law 1163 = .ok (.aload_n 0, 1) := by decide +kernel
theorem dL_law_1164 : decode cL_law 1164 = .ok (.iload_n 3, 1) := by decide +kernel
theorem dL_law_1165 : decode cL_law 1165 = .ok (.iconst 2, 1) := by decide +kernel
theorem dL_law_1166 : decode cL_law 1166 = .ok (.iadd, 1) := by decide +kernel
theorem dL_law_1167 : decode cL_law 1167 = .ok (.iaload, 1) := by decide +kernel
theorem dL_law_1168 : decode cL_law 1168 = .ok (.invokevirtual 149, 3) := by decide +kernel
theorem dL_law_1171 : decode cL_law 1171 = .ok (.aload_n 2, 1) := by decide +kernel
theorem dL_law_1172 : decode cL_law 1172 = .ok (.aload_n 0, 1) := by decide +kernel
theorem dL_law_1173 : decode cL_law 1173 = .ok (.iload_n 3, 1) := by decide +kernel
theorem dL_law_1174 : decode cL_law 1174 = .ok (.iconst 1, 1) := by decide +kernel
theorem dL_law_1175 : decode cL_law 1175 = .ok (.iadd, 1) := by decide +kernel
theorem dL_law_1176 : decode cL_law 1176 = .ok (.iaload, 1) := by decide +kernel
theorem dL_law_1177 : decode cL_law 1177 = .ok (.aload_n 0, 1) := by decide +kernel
theorem dL_law_1178 : decode cL_law 1178 = .ok (.iload_n 3, 1) := by decide +kernel
theorem dL_law_1179 : decode cL_law 1179 = .ok (.iconst 2, 1) := by decide +kernel
theorem dL_law_1180 : decode cL_law 1180 = .ok (.iadd, 1) := by decide +kernel
theorem dL_law_1181 : decode cL_law 1181 = .ok (.iaload, 1) := by decide +kernel
theorem dL_law_1182 : decode cL_law 1182 = .ok (.invokevirtual 152, 3) := by decide +kernel
theorem dL_law_1185 : decode cL_law 1185 = .ok (.if_icmp .eq 274, 3) := by decide +kernel
theorem dL_law_1188 : decode cL_law 1188 = .ok (.iconst 0, 1) := by decide +kernel
theorem dL_law_1189 : decode cL_law 1189 = .ok (.ireturn, 1) := by decide +kernel
theorem dL_law_1190 : decode cL_law 1190 = .ok (.aload_n 1, 1) := by decide +kernel
theorem dL_law_1191 : decode cL_law 1191 = .ok (.aload_n 0, 1) := by decide +kernel
theorem dL_law_1192 : decode cL_law 1192 = .ok (.iload_n 3, 1) := by decide +kernel
theorem dL_law_1193 : decode cL_law 1193 = .ok (.iconst 1, 1) := by decide +kernel
theorem dL_law_1194 : decode cL_law 1194 = .ok (.iadd, 1) := by decide +kernel
theorem dL_law_1195 : decode cL_law 1195 = .ok (.iaload, 1) := by decide +kernel
theorem dL_law_1196 : decode cL_law 1196 = .ok (.aload_n 0, 1) := by decide +kernel
theorem dL_law_1197 : decode cL_law 1197 = .ok (.iload_n 3, 1) := by decide +kernel
theorem dL_law_1198 : decode cL_law 1198 = .ok (.iconst 2, 1) := by decide +kernel
theorem dL_law_1199 : decode cL_law 1199 = .ok (.iadd, 1) := by decide +kernel
theorem dL_law_1200 : decode cL_law 1200 = .ok (.iaload, 1) := by decide +kernel
theorem dL_law_1201 : decode cL_law 1201 = .ok (.aload_n 0, 1) := by decide +kernel
theorem dL_law_1202 : decode cL_law 1202 = .ok (.iload_n 3, 1) := by decide +kernel
theorem dL_law_1203 : decode cL_law 1203 = .ok (.iconst 3, 1) := by decide +kernel
theorem dL_law_1204 : decode cL_law 1204 = .ok (.iadd, 1) := by decide +kernel
theorem dL_law_1205 : decode cL_law 1205 = .ok (.iaload, 1) := by decide +kernel
theorem dL_law_1206 : decode cL_law 1206 = .ok (.invokevirtual 153, 3) := by decide +kernel
theorem dL_law_1209 : decode cL_law 1209 = .ok (.aload_n 2, 1) := by decide +kernel
theorem dL_law_1210 : decode cL_law 1210 = .ok (.aload_n 0, 1) := by decide +kernel
theorem dL_law_1211 : decode cL_law 1211 = .ok (.iload_n 3, 1) := by decide +kernel
theorem dL_law_1212 : decode cL_law 1212 = .ok (.iconst 1, 1) := by decide +kernel
theorem dL_law_1213 : decode cL_law 1213 = .ok (.iadd, 1) := by decide +kernel
theorem dL_law_1214 : decode cL_law 1214 = .ok (.iaload, 1) := by decide +kernel
theorem dL_law_1215 : decode cL_law 1215 = .ok (.aload_n 0, 1) := by decide +kernel
theorem dL_law_1216 : decode cL_law 1216 = .ok (.iload_n 3, 1) := by decide +kernel
theorem dL_law_1217 : decode cL_law 1217 = .ok (.iconst 2, 1) := by decide +kernel
theorem dL_law_1218 : decode cL_law 1218 = .ok (.iadd, 1) := by decide +kernel
theorem dL_law_1219 : decode cL_law 1219 = .ok (.iaload, 1) := by decide +kernel
theorem dL_law_1220 : decode cL_law 1220 = .ok (.aload_n 0, 1) := by decide +kernel
theorem dL_law_1221 : decode cL_law 1221 = .ok (.iload_n 3, 1) := by decide +kernel
theorem dL_law_1222 : decode cL_law 1222 = .ok (.iconst 3, 1) := by decide +kernel
theorem dL_law_1223 : decode cL_law 1223 = .ok (.iadd, 1) := by decide +kernel
theorem dL_law_1224 : decode cL_law 1224 = .ok (.iaload, 1) := by decide +kernel
theorem dL_law_1225 : decode cL_law 1225 = .ok (.invokevirtual 156, 3) := by decide +kernel
theorem dL_law_1228 : decode cL_law 1228 = .ok (.if_icmp .eq 231, 3) := by decide +kernel
theorem dL_law_1231 : decode cL_law 1231 = .ok (.iconst 0, 1) := by decide +kernel
theorem dL_law_1232 : decode cL_law 1232 = .ok (.ireturn, 1) := by decide +kernel
theorem dL_law_1233 : decode cL_law 1233 = .ok (.aload_n 1, 1) := by decide +kernel
theorem dL_law_1234 : decode cL_law 1234 = .ok (.aload_n 0, 1) := by decide +kernel
theorem dL_law_1235 : decode cL_law 1235 = .ok (.iload_n 3, 1) := by decide +kernel
theorem dL_law_1236 : decode cL_law 1236 = .ok (.iconst 1, 1) := by decide +kernel
theorem dL_law_1237 : decode cL_law 1237 = .ok (.iadd, 1) := by decide +kernel
theorem dL_law_1238 : decode cL_law 1238 = .ok (.iaload, 1) := by decide +kernel
theorem dL_law_1239 : decode cL_law 1239 = .ok (.aload_n 0, 1) := by decide +kernel
theorem dL_law_1240 : decode cL_law 1240 = .ok (.iload_n 3, 1) := by decide +kernel
theorem dL_law_1241 : decode cL_law 1241 = .ok (.iconst 2, 1) := by decide +kernel
theorem dL_law_1242 : decode cL_law 1242 = .ok (.iadd, 1) := by decide +kernel
theorem dL_law_1243 : decode cL_law 1243 = .ok (.iaload, 1) := by decide +kernel
theorem dL_law_1244 : decode cL_law 1244 = .ok (.aload_n 0, 1) := by decide +kernel
theorem dL_law_1245 : decode cL_law 1245 = .ok (.iload_n 3, 1) := by decide +kernel
theorem dL_law_1246 : decode cL_law 1246 = .ok (.iconst 3, 1) := by decide +kernel
theorem dL_law_1247 : decode cL_law 1247 = .ok (.iadd, 1) := by decide +kernel
theorem dL_law_1248 : decode cL_law 1248 = .ok (.iaload, 1) := by decide +kernel
theorem dL_law_1249 : decode cL_law 1249 = .ok (.i2l, 1) := by decide +kernel
theorem dL_law_1250 : decode cL_law 1250 = .ok (.bipush 32, 2) := by decide +kernel
theorem dL_law_1252 : decode cL_law 1252 = .ok (.lshl, 1) := by decide +kernel
theorem dL_law_1253 : decode cL_law 1253 = .ok (.aload_n 0, 1) := by decide +kernel
theorem dL_law_1254 : decode cL_law 1254 = .ok (.iload_n 3, 1) := by decide +kernel
theorem dL_law_1255 : decode cL_law 1255 = .ok (.iconst 4, 1) := by decide +kernel
theorem dL_law_1256 : decode cL_law 1256 = .ok (.iadd, 1) := by decide +kernel
theorem dL_law_1257 : decode cL_law 1257 = .ok (.iaload, 1) := by decide +kernel
theorem dL_law_1258 : decode cL_law 1258 = .ok (.i2l, 1) := by decide +kernel
theorem dL_law_1259 : decode cL_law 1259 = .ok (.ldc2_w 157, 3) := by decide +kernel
theorem dL_law_1262 : decode cL_law 1262 = .ok (.land, 1) := by decide +kernel
theorem dL_law_1263 : decode cL_law 1263 = .ok (.lor, 1) := by decide +kernel
theorem dL_law_1264 : decode cL_law 1264 = .ok (.invokevirtual 159, 3) := by decide +kernel
theorem dL_law_1267 : decode cL_law 1267 = .ok (.aload_n 2, 1) := by decide +kernel
theorem dL_law_1268 : decode cL_law 1268 = .ok (.aload_n 0, 1) := by decide +kernel
theorem dL_law_1269 : decode cL_law 1269 = .ok (.iload_n 3, 1) := by decide +kernel
theorem dL_law_1270 : decode cL_law 1270 = .ok (.iconst 1, 1) := by decide +kernel
theorem dL_law_1271 : decode cL_law 1271 = .ok (.iadd, 1) := by decide +kernel
theorem dL_law_1272 : decode cL_law 1272 = .ok (.iaload, 1) := by decide +kernel
theorem dL_law_1273 : decode cL_law 1273 = .ok (.aload_n 0, 1) := by decide +kernel
theorem dL_law_1274 : decode cL_law 1274 = .ok (.iload_n 3, 1) := by decide +kernel
theorem dL_law_1275 : decode cL_law 1275 = .ok (.iconst 2, 1) := by decide +kernel
theorem dL_law_1276 : decode cL_law 1276 = .ok (.iadd, 1) := by decide +kernel
theorem dL_law_1277 : decode cL_law 1277 = .ok (.iaload, 1) := by decide +kernel
theorem dL_law_1278 : decode cL_law 1278 = .ok (.aload_n 0, 1) := by decide +kernel
theorem dL_law_1279 : decode cL_law 1279 = .ok (.iload_n 3, 1) := by decide +kernel
theorem dL_law_1280 : decode cL_law 1280 = .ok (.iconst 3, 1) := by decide +kernel
theorem dL_law_1281 : decode cL_law 1281 = .ok (.iadd, 1) := by decide +kernel
theorem dL_law_1282 : decode cL_law 1282 = .ok (.iaload, 1) := by decide +kernel
theorem dL_law_1283 : decode cL_law 1283 = .ok (.i2l, 1) := by decide +kernel
theorem dL_law_1284 : decode cL_law 1284 = .ok (.bipush 32, 2) := by decide +kernel
theorem dL_law_1286 : decode cL_law 1286 = .ok (.lshl, 1) := by decide +kernel
theorem dL_law_1287 : decode cL_law 1287 = .ok (.aload_n 0, 1) := by decide +kernel
theorem dL_law_1288 : decode cL_law 1288 = .ok (.iload_n 3, 1) := by decide +kernel
theorem dL_law_1289 : decode cL_law 1289 = .ok (.iconst 4, 1) := by decide +kernel
theorem dL_law_1290 : decode cL_law 1290 = .ok (.iadd, 1) := by decide +kernel
theorem dL_law_1291 : decode cL_law 1291 = .ok (.iaload, 1) := by decide +kernel
theorem dL_law_1292 : decode cL_law 1292 = .ok (.i2l, 1) := by decide +kernel
theorem dL_law_1293 : decode cL_law 1293 = .ok (.ldc2_w 157, 3) := by decide +kernel
theorem dL_law_1296 : decode cL_law 1296 = .ok (.land, 1) := by decide +kernel
theorem dL_law_1297 : decode cL_law 1297 = .ok (.lor, 1) := by decide +kernel
theorem dL_law_1298 : decode cL_law 1298 = .ok (.invokevirtual 163, 3) := by decide +kernel
theorem dL_law_1301 : decode cL_law 1301 = .ok (.if_icmp .eq 158, 3) := by decide +kernel
theorem dL_law_1304 : decode cL_law 1304 = .ok (.iconst 0, 1) := by decide +kernel
theorem dL_law_1305 : decode cL_law 1305 = .ok (.ireturn, 1) := by decide +kernel
theorem dL_law_1306 : decode cL_law 1306 = .ok (.aload_n 1, 1) := by decide +kernel
theorem dL_law_1307 : decode cL_law 1307 = .ok (.aload_n 0, 1) := by decide +kernel
theorem dL_law_1308 : decode cL_law 1308 = .ok (.iload_n 3, 1) := by decide +kernel
theorem dL_law_1309 : decode cL_law 1309 = .ok (.iconst 1, 1) := by decide +kernel
theorem dL_law_1310 : decode cL_law 1310 = .ok (.iadd, 1) := by decide +kernel
theorem dL_law_1311 : decode cL_law 1311 = .ok (.iaload, 1) := by decide +kernel
theorem dL_law_1312 : decode cL_law 1312 = .ok (.aload_n 0, 1) := by decide +kernel
theorem dL_law_1313 : decode cL_law 1313 = .ok (.iload_n 3, 1) := by decide +kernel
theorem dL_law_1314 : decode cL_law 1314 = .ok (.iconst 2, 1) := by decide +kernel
theorem dL_law_1315 : decode cL_law 1315 = .ok (.iadd, 1) := by decide +kernel
theorem dL_law_1316 : decode cL_law 1316 = .ok (.iaload, 1) := by decide +kernel
theorem dL_law_1317 : decode cL_law 1317 = .ok (.invokevirtual 164, 3) := by decide +kernel
theorem dL_law_1320 : decode cL_law 1320 = .ok (.aload_n 2, 1) := by decide +kernel
theorem dL_law_1321 : decode cL_law 1321 = .ok (.aload_n 0, 1) := by decide +kernel
theorem dL_law_1322 : decode cL_law 1322 = .ok (.iload_n 3, 1) := by decide +kernel
theorem dL_law_1323 : decode cL_law 1323 = .ok (.iconst 1, 1) := by decide +kernel
theorem dL_law_1324 : decode cL_law 1324 = .ok (.iadd, 1) := by decide +kernel
theorem dL_law_1325 : decode cL_law 1325 = .ok (.iaload, 1) := by decide +kernel
theorem dL_law_1326 : decode cL_law 1326 = .ok (.aload_n 0, 1) := by decide +kernel
theorem dL_law_1327 : decode cL_law 1327 = .ok (.iload_n 3, 1) := by decide +kernel
theorem dL_law_1328 : decode cL_law 1328 = .ok (.iconst 2, 1) := by decide +kernel
theorem dL_law_1329 : decode cL_law 1329 = .ok (.iadd, 1) := by decide +kernel
theorem dL_law_1330 : decode cL_law 1330 = .ok (.iaload, 1) := by decide +kernel
theorem dL_law_1331 : decode cL_law 1331 = .ok (.invokevirtual 168, 3) := by decide +kernel
theorem dL_law_1334 : decode cL_law 1334 = .ok (.lcmp, 1) := by decide +kernel
theorem dL_law_1335 : decode cL_law 1335 = .ok (.ifCond .eq 124, 3) := by decide +kernel
theorem dL_law_1338 : decode cL_law 1338 = .ok (.iconst 0, 1) := by decide +kernel
theorem dL_law_1339 : decode cL_law 1339 = .ok (.ireturn, 1) := by decide +kernel
theorem dL_law_1340 : decode cL_law 1340 = .ok (.aload_n 1, 1) := by decide +kernel
theorem dL_law_1341 : decode cL_law 1341 = .ok (.aload_n 0, 1) := by decide +kernel
theorem dL_law_1342 : decode cL_law 1342 = .ok (.iload_n 3, 1) := by decide +kernel
theorem dL_law_1343 : decode cL_law 1343 = .ok (.iconst 1, 1) := by decide +kernel
theorem dL_law_1344 : decode cL_law 1344 = .ok (.iadd, 1) := by decide +kernel
theorem dL_law_1345 : decode cL_law 1345 = .ok (.iaload, 1) := by decide +kernel
theorem dL_law_1346 : decode cL_law 1346 = .ok (.aload_n 0, 1) := by decide +kernel
theorem dL_law_1347 : decode cL_law 1347 = .ok (.iload_n 3, 1) := by decide +kernel
theorem dL_law_1348 : decode cL_law 1348 = .ok (.iconst 2, 1) := by decide +kernel
theorem dL_law_1349 : decode cL_law 1349 = .ok (.iadd, 1) := by decide +kernel
theorem dL_law_1350 : decode cL_law 1350 = .ok (.iaload, 1) := by decide +kernel
theorem dL_law_1351 : decode cL_law 1351 = .ok (.aload_n 0, 1) := by decide +kernel
theorem dL_law_1352 : decode cL_law 1352 = .ok (.iload_n 3, 1) := by decide +kernel
theorem dL_law_1353 : decode cL_law 1353 = .ok (.iconst 3, 1) := by decide +kernel
theorem dL_law_1354 : decode cL_law 1354 = .ok (.iadd, 1) := by decide +kernel
theorem dL_law_1355 : decode cL_law 1355 = .ok (.iaload, 1) := by decide +kernel
theorem dL_law_1356 : decode cL_law 1356 = .ok (.aload_n 0, 1) := by decide +kernel
theorem dL_law_1357 : decode cL_law 1357 = .ok (.iload_n 3, 1) := by decide +kernel
theorem dL_law_1358 : decode cL_law 1358 = .ok (.iconst 4, 1) := by decide +kernel
theorem dL_law_1359 : decode cL_law 1359 = .ok (.iadd, 1) := by decide +kernel
theorem dL_law_1360 : decode cL_law 1360 = .ok (.iaload, 1) := by decide +kernel
theorem dL_law_1361 : decode cL_law 1361 = .ok (.aload_n 0, 1) := by decide +kernel
theorem dL_law_1362 : decode cL_law 1362 = .ok (.iload_n 3, 1) := by decide +kernel
theorem dL_law_1363 : decode cL_law 1363 = .ok (.iconst 5, 1) := by decide +kernel
theorem dL_law_1364 : decode cL_law 1364 = .ok (.iadd, 1) := by decide +kernel
theorem dL_law_1365 : decode cL_law 1365 = .ok (.iaload, 1) := by decide +kernel
theorem dL_law_1366 : decode cL_law 1366 = .ok (.invokevirtual 169, 3) := by decide +kernel
theorem dL_law_1369 : decode cL_law 1369 = .ok (.aload_n 2, 1) := by decide +kernel
theorem dL_law_1370 : decode cL_law 1370 = .ok (.aload_n 0, 1) := by decide +kernel
theorem dL_law_1371 : decode cL_law 1371 = .ok (.iload_n 3, 1) := by decide +kernel
theorem dL_law_1372 : decode cL_law 1372 = .ok (.iconst 1, 1) := by decide +kernel
theorem dL_law_1373 : decode cL_law 1373 = .ok (.iadd, 1) := by decide +kernel
theorem dL_law_1374 : decode cL_law 1374 = .ok (.iaload, 1) := by decide +kernel
theorem dL_law_1375 : decode cL_law 1375 = .ok (.aload_n 0, 1) := by decide +kernel
theorem dL_law_1376 : decode cL_law 1376 = .ok (.iload_n 3, 1) := by decide +kernel
theorem dL_law_1377 : decode cL_law 1377 = .ok (.iconst 2, 1) := by decide +kernel
theorem dL_law_1378 : decode cL_law 1378 = .ok (.iadd, 1) := by decide +kernel
theorem dL_law_1379 : decode cL_law 1379 = .ok (.iaload, 1) := by decide +kernel
theorem dL_law_1380 : decode cL_law 1380 = .ok (.aload_n 0, 1) := by decide +kernel
theorem dL_law_1381 : decode cL_law 1381 = .ok (.iload_n 3, 1) := by decide +kernel
theorem dL_law_1382 : decode cL_law 1382 = .ok (.iconst 3, 1) := by decide +kernel
theorem dL_law_1383 : decode cL_law 1383 = .ok (.iadd, 1) := by decide +kernel
theorem dL_law_1384 : decode cL_law 1384 = .ok (.iaload, 1) := by decide +kernel
theorem dL_law_1385 : decode cL_law 1385 = .ok (.aload_n 0, 1) := by decide +kernel
theorem dL_law_1386 : decode cL_law 1386 = .ok (.iload_n 3, 1) := by decide +kernel
theorem dL_law_1387 : decode cL_law 1387 = .ok (.iconst 4, 1) := by decide +kernel
theorem dL_law_1388 : decode cL_law 1388 = .ok (.iadd, 1) := by decide +kernel
theorem dL_law_1389 : decode cL_law 1389 = .ok (.iaload, 1) := by decide +kernel
theorem dL_law_1390 : decode cL_law 1390 = .ok (.aload_n 0, 1) := by decide +kernel
theorem dL_law_1391 : decode cL_law 1391 = .ok (.iload_n 3, 1) := by decide +kernel
theorem dL_law_1392 : decode cL_law 1392 = .ok (.iconst 5, 1) := by decide +kernel
theorem dL_law_1393 : decode cL_law 1393 = .ok (.iadd, 1) := by decide +kernel
theorem dL_law_1394 : decode cL_law 1394 = .ok (.iaload, 1) := by decide +kernel
theorem dL_law_1395 : decode cL_law 1395 = .ok (.invokevirtual 173, 3) := by decide +kernel
theorem dL_law_1398 : decode cL_law 1398 = .ok (.if_icmp .eq 61, 3) := by decide +kernel
theorem dL_law_1401 : decode cL_law 1401 = .ok (.iconst 0, 1) := by decide +kernel
theorem dL_law_1402 : decode cL_law 1402 = .ok (.ireturn, 1) := by decide +kernel
theorem dL_law_1403 : decode cL_law 1403 = .ok (.aload_n 1, 1) := by decide +kernel
theorem dL_law_1404 : decode cL_law 1404 = .ok (.aload_n 0, 1) := by decide +kernel
theorem dL_law_1405 : decode cL_law 1405 = .ok (.iload_n 3, 1) := by decide +kernel
theorem dL_law_1406 : decode cL_law 1406 = .ok (.iconst 1, 1) := by decide +kernel
theorem dL_law_1407 : decode cL_law 1407 = .ok (.iadd, 1) := by decide +kernel
theorem dL_law_1408 : decode cL_law 1408 = .ok (.iaload, 1) := by decide +kernel
theorem dL_law_1409 : decode cL_law 1409 = .ok (.aload_n 0, 1) := by decide +kernel
theorem dL_law_1410 : decode cL_law 1410 = .ok (.iload_n 3, 1) := by decide +kernel
theorem dL_law_1411 : decode cL_law 1411 = .ok (.iconst 2, 1) := by decide +kernel
theorem dL_law_1412 : decode cL_law 1412 = .ok (.iadd, 1) := by decide +kernel
theorem dL_law_1413 : decode cL_law 1413 = .ok (.iaload, 1) := by decide +kernel
theorem dL_law_1414 : decode cL_law 1414 = .ok (.invokevirtual 174, 3) := by decide +kernel
theorem dL_law_1417 : decode cL_law 1417 = .ok (.aload_n 2, 1) := by decide +kernel
theorem dL_law_1418 : decode cL_law 1418 = .ok (.aload_n 0, 1) := by decide +kernel
theorem dL_law_1419 : decode cL_law 1419 = .ok (.iload_n 3, 1) := by decide +kernel
theorem dL_law_1420 : decode cL_law 1420 = .ok (.iconst 1, 1) := by decide +kernel
theorem dL_law_1421 : decode cL_law 1421 = .ok (.iadd, 1) := by decide +kernel
theorem dL_law_1422 : decode cL_law 1422 = .ok (.iaload, 1) := by decide +kernel
theorem dL_law_1423 : decode cL_law 1423 = .ok (.aload_n 0, 1) := by decide +kernel
theorem dL_law_1424 : decode cL_law 1424 = .ok (.iload_n 3, 1) := by decide +kernel
theorem dL_law_1425 : decode cL_law 1425 = .ok (.iconst 2, 1) := by decide +kernel
theorem dL_law_1426 : decode cL_law 1426 = .ok (.iadd, 1) := by decide +kernel
theorem dL_law_1427 : decode cL_law 1427 = .ok (.iaload, 1) := by decide +kernel
theorem dL_law_1428 : decode cL_law 1428 = .ok (.invokevirtual 177, 3) := by decide +kernel
theorem dL_law_1431 : decode cL_law 1431 = .ok (.if_icmp .eq 28, 3) := by decide +kernel
theorem dL_law_1434 : decode cL_law 1434 = .ok (.iconst 0, 1) := by decide +kernel
theorem dL_law_1435 : decode cL_law 1435 = .ok (.ireturn, 1) := by decide +kernel
theorem dL_law_1436 : decode cL_law 1436 = .ok (.aload_n 1, 1) := by decide +kernel
theorem dL_law_1437 : decode cL_law 1437 = .ok (.aload_n 0, 1) := by decide +kernel
theorem dL_law_1438 : decode cL_law 1438 = .ok (.iload_n 3, 1) := by decide +kernel
theorem dL_law_1439 : decode cL_law 1439 = .ok (.iconst 1, 1) := by decide +kernel
theorem dL_law_1440 : decode cL_law 1440 = .ok (.iadd, 1) := by decide +kernel
theorem dL_law_1441 : decode cL_law 1441 = .ok (.iaload, 1) := by decide +kernel
theorem dL_law_1442 : decode cL_law 1442 = .ok (.invokevirtual 178, 3) := by decide +kernel
theorem dL_law_1445 : decode cL_law 1445 = .ok (.aload_n 2, 1) := by decide +kernel
theorem dL_law_1446 : decode cL_law 1446 = .ok (.aload_n 0, 1) := by decide +kernel
theorem dL_law_1447 : decode cL_law 1447 = .ok (.iload_n 3, 1) := by decide +kernel
theorem dL_law_1448 : decode cL_law 1448 = .ok (.iconst 1, 1) := by decide +kernel
theorem dL_law_1449 : decode cL_law 1449 = .ok (.iadd, 1) := by decide +kernel
theorem dL_law_1450 : decode cL_law 1450 = .ok (.iaload, 1) := by decide +kernel
theorem dL_law_1451 : decode cL_law 1451 = .ok (.invokevirtual 181, 3) := by decide +kernel
theorem dL_law_1454 : decode cL_law 1454 = .ok (.if_icmp .eq 5, 3) := by decide +kernel
theorem dL_law_1457 : decode cL_law 1457 = .ok (.iconst 0, 1) := by decide +kernel
theorem dL_law_1458 : decode cL_law 1458 = .ok (.ireturn, 1) := by decide +kernel
theorem dL_law_1459 : decode cL_law 1459 = .ok (.iinc 3 6, 3) := by decide +kernel
theorem dL_law_1462 : decode cL_law 1462 = .ok (.goto (-1444), 3) := by decide +kernel
theorem dL_law_1465 : decode cL_law 1465 = .ok (.iconst 1, 1) := by decide +kernel
theorem dL_law_1466 : decode cL_law 1466 = .ok (.ireturn, 1) := by decide +kernel
end
