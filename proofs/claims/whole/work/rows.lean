section
-- ===== PART A: goes FIRST, ahead of the names: the tables' words, and 'selects' of the private methods out of them =====
/-- a private method of a class that the tables say can be made, by its rows of tables_1 -/
def lw_okq (q : MethodName × Nat) : Prop := (q.1.cls ≠ "java/lang/invoke/MethodHandle" ∧ q.1.cls ≠ "java/lang/invoke/VarHandle") ∧ Cond.instantiable q.1.cls q.2 ∈ tables_1 ∧ Cond.privateMethod q.1 ∈ tables_1 ∧ Cond.instanceMethod q.1 ∈ tables_1
theorem lw_p0 : lw_okq (⟨"SwordAttic", "isMendable", "(II)Z"⟩, 8) := ⟨⟨by decide +kernel, by decide +kernel⟩, List.mem_of_getElem? (i := 15) (by decide +kernel), List.mem_of_getElem? (i := 388) (by decide +kernel), List.mem_of_getElem? (i := 389) (by decide +kernel)⟩
theorem lw_p1 : lw_okq (⟨"SwordAttic", "isSword", "(I)Z"⟩, 8) := ⟨⟨by decide +kernel, by decide +kernel⟩, List.mem_of_getElem? (i := 15) (by decide +kernel), List.mem_of_getElem? (i := 392) (by decide +kernel), List.mem_of_getElem? (i := 393) (by decide +kernel)⟩
theorem lw_p2 : lw_okq (⟨"SwordAttic$Night", "move", "(II)V"⟩, 14) := ⟨⟨by decide +kernel, by decide +kernel⟩, List.mem_of_getElem? (i := 23) (by decide +kernel), List.mem_of_getElem? (i := 410) (by decide +kernel), List.mem_of_getElem? (i := 411) (by decide +kernel)⟩
theorem lw_p3 : lw_okq (⟨"SwordAttic$Changes", "dropFirst", "()V"⟩, 6) := ⟨⟨by decide +kernel, by decide +kernel⟩, List.mem_of_getElem? (i := 196) (by decide +kernel), List.mem_of_getElem? (i := 418) (by decide +kernel), List.mem_of_getElem? (i := 419) (by decide +kernel)⟩
theorem lw_p4 : lw_okq (⟨"SwordAttic$Tape", "readLine", "()V"⟩, 5) := ⟨⟨by decide +kernel, by decide +kernel⟩, List.mem_of_getElem? (i := 114) (by decide +kernel), List.mem_of_getElem? (i := 446) (by decide +kernel), List.mem_of_getElem? (i := 447) (by decide +kernel)⟩
theorem lw_p5 : lw_okq (⟨"SwordAttic$Tape", "readOr", "(I)V"⟩, 5) := ⟨⟨by decide +kernel, by decide +kernel⟩, List.mem_of_getElem? (i := 114) (by decide +kernel), List.mem_of_getElem? (i := 450) (by decide +kernel), List.mem_of_getElem? (i := 451) (by decide +kernel)⟩
theorem lw_p6 : lw_okq (⟨"SwordAttic$Tape", "readAnd", "(I)V"⟩, 5) := ⟨⟨by decide +kernel, by decide +kernel⟩, List.mem_of_getElem? (i := 114) (by decide +kernel), List.mem_of_getElem? (i := 454) (by decide +kernel), List.mem_of_getElem? (i := 455) (by decide +kernel)⟩
theorem lw_p7 : lw_okq (⟨"SwordAttic$Tape", "readComparison", "(I)V"⟩, 5) := ⟨⟨by decide +kernel, by decide +kernel⟩, List.mem_of_getElem? (i := 114) (by decide +kernel), List.mem_of_getElem? (i := 458) (by decide +kernel), List.mem_of_getElem? (i := 459) (by decide +kernel)⟩
theorem lw_p8 : lw_okq (⟨"SwordAttic$Tape", "readSum", "(I)V"⟩, 5) := ⟨⟨by decide +kernel, by decide +kernel⟩, List.mem_of_getElem? (i := 114) (by decide +kernel), List.mem_of_getElem? (i := 462) (by decide +kernel), List.mem_of_getElem? (i := 463) (by decide +kernel)⟩
theorem lw_p9 : lw_okq (⟨"SwordAttic$Tape", "readProduct", "(I)V"⟩, 5) := ⟨⟨by decide +kernel, by decide +kernel⟩, List.mem_of_getElem? (i := 114) (by decide +kernel), List.mem_of_getElem? (i := 466) (by decide +kernel), List.mem_of_getElem? (i := 467) (by decide +kernel)⟩
theorem lw_p10 : lw_okq (⟨"SwordAttic$Tape", "readOperand", "(I)V"⟩, 5) := ⟨⟨by decide +kernel, by decide +kernel⟩, List.mem_of_getElem? (i := 114) (by decide +kernel), List.mem_of_getElem? (i := 470) (by decide +kernel), List.mem_of_getElem? (i := 471) (by decide +kernel)⟩
theorem lw_p11 : lw_okq (⟨"SwordAttic$Tape", "next", "()I"⟩, 5) := ⟨⟨by decide +kernel, by decide +kernel⟩, List.mem_of_getElem? (i := 114) (by decide +kernel), List.mem_of_getElem? (i := 474) (by decide +kernel), List.mem_of_getElem? (i := 475) (by decide +kernel)⟩
theorem lw_p12 : lw_okq (⟨"SwordAttic$Tape", "readNumber", "()V"⟩, 5) := ⟨⟨by decide +kernel, by decide +kernel⟩, List.mem_of_getElem? (i := 114) (by decide +kernel), List.mem_of_getElem? (i := 482) (by decide +kernel), List.mem_of_getElem? (i := 483) (by decide +kernel)⟩
theorem lw_p13 : lw_okq (⟨"SwordAttic$Tape", "readOpened", "(II)V"⟩, 5) := ⟨⟨by decide +kernel, by decide +kernel⟩, List.mem_of_getElem? (i := 114) (by decide +kernel), List.mem_of_getElem? (i := 490) (by decide +kernel), List.mem_of_getElem? (i := 491) (by decide +kernel)⟩
theorem lw_p14 : lw_okq (⟨"SwordAttic$Tape", "noteFault", "()V"⟩, 5) := ⟨⟨by decide +kernel, by decide +kernel⟩, List.mem_of_getElem? (i := 114) (by decide +kernel), List.mem_of_getElem? (i := 494) (by decide +kernel), List.mem_of_getElem? (i := 495) (by decide +kernel)⟩
theorem lw_p15 : lw_okq (⟨"SwordAttic$Night", "growth", "(LSwordAttic$Law;III)I"⟩, 14) := ⟨⟨by decide +kernel, by decide +kernel⟩, List.mem_of_getElem? (i := 23) (by decide +kernel), List.mem_of_getElem? (i := 519) (by decide +kernel), List.mem_of_getElem? (i := 520) (by decide +kernel)⟩
def lw_privs_1 : List (MethodName × Nat) := [(⟨"SwordAttic", "isMendable", "(II)Z"⟩, 8), (⟨"SwordAttic", "isSword", "(I)Z"⟩, 8), (⟨"SwordAttic$Night", "move", "(II)V"⟩, 14), (⟨"SwordAttic$Changes", "dropFirst", "()V"⟩, 6), (⟨"SwordAttic$Tape", "readLine", "()V"⟩, 5), (⟨"SwordAttic$Tape", "readOr", "(I)V"⟩, 5), (⟨"SwordAttic$Tape", "readAnd", "(I)V"⟩, 5), (⟨"SwordAttic$Tape", "readComparison", "(I)V"⟩, 5), (⟨"SwordAttic$Tape", "readSum", "(I)V"⟩, 5), (⟨"SwordAttic$Tape", "readProduct", "(I)V"⟩, 5), (⟨"SwordAttic$Tape", "readOperand", "(I)V"⟩, 5), (⟨"SwordAttic$Tape", "next", "()I"⟩, 5), (⟨"SwordAttic$Tape", "readNumber", "()V"⟩, 5), (⟨"SwordAttic$Tape", "readOpened", "(II)V"⟩, 5), (⟨"SwordAttic$Tape", "noteFault", "()V"⟩, 5), (⟨"SwordAttic$Night", "growth", "(LSwordAttic$Law;III)I"⟩, 14)]
theorem lw_r1 : ∀ q ∈ lw_privs_1, lw_okq q := List.forall_mem_cons.mpr ⟨lw_p0, List.forall_mem_cons.mpr ⟨lw_p1, List.forall_mem_cons.mpr ⟨lw_p2, List.forall_mem_cons.mpr ⟨lw_p3, List.forall_mem_cons.mpr ⟨lw_p4, List.forall_mem_cons.mpr ⟨lw_p5, List.forall_mem_cons.mpr ⟨lw_p6, List.forall_mem_cons.mpr ⟨lw_p7, List.forall_mem_cons.mpr ⟨lw_p8, List.forall_mem_cons.mpr ⟨lw_p9, List.forall_mem_cons.mpr ⟨lw_p10, List.forall_mem_cons.mpr ⟨lw_p11, List.forall_mem_cons.mpr ⟨lw_p12, List.forall_mem_cons.mpr ⟨lw_p13, List.forall_mem_cons.mpr ⟨lw_p14, List.forall_mem_cons.mpr ⟨lw_p15, fun _ h => absurd h List.not_mem_nil⟩⟩⟩⟩⟩⟩⟩⟩⟩⟩⟩⟩⟩⟩⟩⟩
theorem lw_p16 : lw_okq (⟨"SwordAttic$Law", "workedOut", "()I"⟩, 6) := ⟨⟨by decide +kernel, by decide +kernel⟩, List.mem_of_getElem? (i := 87) (by decide +kernel), List.mem_of_getElem? (i := 544) (by decide +kernel), List.mem_of_getElem? (i := 545) (by decide +kernel)⟩
theorem lw_p17 : lw_okq (⟨"SwordAttic$Night", "grow", "(II)V"⟩, 14) := ⟨⟨by decide +kernel, by decide +kernel⟩, List.mem_of_getElem? (i := 23) (by decide +kernel), List.mem_of_getElem? (i := 589) (by decide +kernel), List.mem_of_getElem? (i := 590) (by decide +kernel)⟩
theorem lw_p18 : lw_okq (⟨"SwordAttic$Thought", "forgetBest", "()V"⟩, 13) := ⟨⟨by decide +kernel, by decide +kernel⟩, List.mem_of_getElem? (i := 140) (by decide +kernel), List.mem_of_getElem? (i := 631) (by decide +kernel), List.mem_of_getElem? (i := 632) (by decide +kernel)⟩
theorem lw_p19 : lw_okq (⟨"SwordAttic$Thought", "plan", "(II)V"⟩, 13) := ⟨⟨by decide +kernel, by decide +kernel⟩, List.mem_of_getElem? (i := 140) (by decide +kernel), List.mem_of_getElem? (i := 636) (by decide +kernel), List.mem_of_getElem? (i := 637) (by decide +kernel)⟩
theorem lw_p20 : lw_okq (⟨"SwordAttic$Thought", "isBetter", "(LSwordAttic$Night;)Z"⟩, 13) := ⟨⟨by decide +kernel, by decide +kernel⟩, List.mem_of_getElem? (i := 140) (by decide +kernel), List.mem_of_getElem? (i := 640) (by decide +kernel), List.mem_of_getElem? (i := 641) (by decide +kernel)⟩
theorem lw_p21 : lw_okq (⟨"SwordAttic$Night", "mindWhenTold", "(I)I"⟩, 14) := ⟨⟨by decide +kernel, by decide +kernel⟩, List.mem_of_getElem? (i := 23) (by decide +kernel), List.mem_of_getElem? (i := 667) (by decide +kernel), List.mem_of_getElem? (i := 668) (by decide +kernel)⟩
theorem lw_p22 : lw_okq (⟨"SwordAttic$Night", "isWokenByTouch", "(I)Z"⟩, 14) := ⟨⟨by decide +kernel, by decide +kernel⟩, List.mem_of_getElem? (i := 23) (by decide +kernel), List.mem_of_getElem? (i := 686) (by decide +kernel), List.mem_of_getElem? (i := 687) (by decide +kernel)⟩
theorem lw_p23 : lw_okq (⟨"SwordAttic$Thought", "leastSteps", "(III)I"⟩, 13) := ⟨⟨by decide +kernel, by decide +kernel⟩, List.mem_of_getElem? (i := 140) (by decide +kernel), List.mem_of_getElem? (i := 701) (by decide +kernel), List.mem_of_getElem? (i := 702) (by decide +kernel)⟩
theorem lw_p24 : lw_okq (⟨"SwordAttic$Thought", "leastOf", "(II)I"⟩, 13) := ⟨⟨by decide +kernel, by decide +kernel⟩, List.mem_of_getElem? (i := 140) (by decide +kernel), List.mem_of_getElem? (i := 711) (by decide +kernel), List.mem_of_getElem? (i := 712) (by decide +kernel)⟩
theorem lw_p25 : lw_okq (⟨"SwordAttic", "refusalOfBoth", "(I)I"⟩, 8) := ⟨⟨by decide +kernel, by decide +kernel⟩, List.mem_of_getElem? (i := 15) (by decide +kernel), List.mem_of_getElem? (i := 728) (by decide +kernel), List.mem_of_getElem? (i := 729) (by decide +kernel)⟩
theorem lw_p26 : lw_okq (⟨"SwordAttic$Thought", "firstWrong", "(LSwordAttic$Night;LSwordAttic$Shelf;LSwordAttic$Shelf;I)I"⟩, 13) := ⟨⟨by decide +kernel, by decide +kernel⟩, List.mem_of_getElem? (i := 140) (by decide +kernel), List.mem_of_getElem? (i := 736) (by decide +kernel), List.mem_of_getElem? (i := 737) (by decide +kernel)⟩
theorem lw_p27 : lw_okq (⟨"SwordAttic$Thought", "outcome", "(II)I"⟩, 13) := ⟨⟨by decide +kernel, by decide +kernel⟩, List.mem_of_getElem? (i := 140) (by decide +kernel), List.mem_of_getElem? (i := 786) (by decide +kernel), List.mem_of_getElem? (i := 787) (by decide +kernel)⟩
theorem lw_p28 : lw_okq (⟨"SwordAttic$Thought", "outcomeOf", "(III)I"⟩, 13) := ⟨⟨by decide +kernel, by decide +kernel⟩, List.mem_of_getElem? (i := 140) (by decide +kernel), List.mem_of_getElem? (i := 791) (by decide +kernel), List.mem_of_getElem? (i := 792) (by decide +kernel)⟩
theorem lw_p29 : lw_okq (⟨"SwordAttic$Changes", "lay", "(LSwordAttic$Night;II)V"⟩, 6) := ⟨⟨by decide +kernel, by decide +kernel⟩, List.mem_of_getElem? (i := 196) (by decide +kernel), List.mem_of_getElem? (i := 860) (by decide +kernel), List.mem_of_getElem? (i := 861) (by decide +kernel)⟩
theorem lw_p30 : lw_okq (⟨"SwordAttic$Blades", "from", "(IIII)I"⟩, 5) := ⟨⟨by decide +kernel, by decide +kernel⟩, List.mem_of_getElem? (i := 256) (by decide +kernel), List.mem_of_getElem? (i := 891) (by decide +kernel), List.mem_of_getElem? (i := 892) (by decide +kernel)⟩
theorem lw_p31 : lw_okq (⟨"SwordAttic$Blades", "run", "(III)I"⟩, 5) := ⟨⟨by decide +kernel, by decide +kernel⟩, List.mem_of_getElem? (i := 256) (by decide +kernel), List.mem_of_getElem? (i := 897) (by decide +kernel), List.mem_of_getElem? (i := 898) (by decide +kernel)⟩
def lw_privs_2 : List (MethodName × Nat) := [(⟨"SwordAttic$Law", "workedOut", "()I"⟩, 6), (⟨"SwordAttic$Night", "grow", "(II)V"⟩, 14), (⟨"SwordAttic$Thought", "forgetBest", "()V"⟩, 13), (⟨"SwordAttic$Thought", "plan", "(II)V"⟩, 13), (⟨"SwordAttic$Thought", "isBetter", "(LSwordAttic$Night;)Z"⟩, 13), (⟨"SwordAttic$Night", "mindWhenTold", "(I)I"⟩, 14), (⟨"SwordAttic$Night", "isWokenByTouch", "(I)Z"⟩, 14), (⟨"SwordAttic$Thought", "leastSteps", "(III)I"⟩, 13), (⟨"SwordAttic$Thought", "leastOf", "(II)I"⟩, 13), (⟨"SwordAttic", "refusalOfBoth", "(I)I"⟩, 8), (⟨"SwordAttic$Thought", "firstWrong", "(LSwordAttic$Night;LSwordAttic$Shelf;LSwordAttic$Shelf;I)I"⟩, 13), (⟨"SwordAttic$Thought", "outcome", "(II)I"⟩, 13), (⟨"SwordAttic$Thought", "outcomeOf", "(III)I"⟩, 13), (⟨"SwordAttic$Changes", "lay", "(LSwordAttic$Night;II)V"⟩, 6), (⟨"SwordAttic$Blades", "from", "(IIII)I"⟩, 5), (⟨"SwordAttic$Blades", "run", "(III)I"⟩, 5)]
theorem lw_r2 : ∀ q ∈ lw_privs_2, lw_okq q := List.forall_mem_cons.mpr ⟨lw_p16, List.forall_mem_cons.mpr ⟨lw_p17, List.forall_mem_cons.mpr ⟨lw_p18, List.forall_mem_cons.mpr ⟨lw_p19, List.forall_mem_cons.mpr ⟨lw_p20, List.forall_mem_cons.mpr ⟨lw_p21, List.forall_mem_cons.mpr ⟨lw_p22, List.forall_mem_cons.mpr ⟨lw_p23, List.forall_mem_cons.mpr ⟨lw_p24, List.forall_mem_cons.mpr ⟨lw_p25, List.forall_mem_cons.mpr ⟨lw_p26, List.forall_mem_cons.mpr ⟨lw_p27, List.forall_mem_cons.mpr ⟨lw_p28, List.forall_mem_cons.mpr ⟨lw_p29, List.forall_mem_cons.mpr ⟨lw_p30, List.forall_mem_cons.mpr ⟨lw_p31, fun _ h => absurd h List.not_mem_nil⟩⟩⟩⟩⟩⟩⟩⟩⟩⟩⟩⟩⟩⟩⟩⟩
theorem lw_p32 : lw_okq (⟨"SwordAttic$Blades", "own", "(III)I"⟩, 5) := ⟨⟨by decide +kernel, by decide +kernel⟩, List.mem_of_getElem? (i := 256) (by decide +kernel), List.mem_of_getElem? (i := 901) (by decide +kernel), List.mem_of_getElem? (i := 902) (by decide +kernel)⟩
theorem lw_p33 : lw_okq (⟨"SwordAttic$Blades", "above", "(IIII)I"⟩, 5) := ⟨⟨by decide +kernel, by decide +kernel⟩, List.mem_of_getElem? (i := 256) (by decide +kernel), List.mem_of_getElem? (i := 905) (by decide +kernel), List.mem_of_getElem? (i := 906) (by decide +kernel)⟩
theorem lw_p34 : lw_okq (⟨"SwordAttic", "refusalOfElement", "(II)I"⟩, 8) := ⟨⟨by decide +kernel, by decide +kernel⟩, List.mem_of_getElem? (i := 15) (by decide +kernel), List.mem_of_getElem? (i := 939) (by decide +kernel), List.mem_of_getElem? (i := 940) (by decide +kernel)⟩
theorem lw_p35 : lw_okq (⟨"SwordAtticModel", "turns", "(II)V"⟩, 42) := ⟨⟨by decide +kernel, by decide +kernel⟩, List.mem_of_getElem? (i := 977) (by decide +kernel), List.mem_of_getElem? (i := 1114) (by decide +kernel), List.mem_of_getElem? (i := 1115) (by decide +kernel)⟩
theorem lw_p36 : lw_okq (⟨"SwordAtticModel", "inCot", "(I)I"⟩, 42) := ⟨⟨by decide +kernel, by decide +kernel⟩, List.mem_of_getElem? (i := 977) (by decide +kernel), List.mem_of_getElem? (i := 1118) (by decide +kernel), List.mem_of_getElem? (i := 1119) (by decide +kernel)⟩
theorem lw_p37 : lw_okq (⟨"SwordAtticModel", "mayCome", "(JJJ)Z"⟩, 42) := ⟨⟨by decide +kernel, by decide +kernel⟩, List.mem_of_getElem? (i := 977) (by decide +kernel), List.mem_of_getElem? (i := 1130) (by decide +kernel), List.mem_of_getElem? (i := 1131) (by decide +kernel)⟩
theorem lw_p38 : lw_okq (⟨"SwordAtticModel", "adds", "(III)V"⟩, 42) := ⟨⟨by decide +kernel, by decide +kernel⟩, List.mem_of_getElem? (i := 977) (by decide +kernel), List.mem_of_getElem? (i := 1143) (by decide +kernel), List.mem_of_getElem? (i := 1144) (by decide +kernel)⟩
theorem lw_p39 : lw_okq (⟨"SwordAtticModel", "placeOf", "(II)I"⟩, 42) := ⟨⟨by decide +kernel, by decide +kernel⟩, List.mem_of_getElem? (i := 977) (by decide +kernel), List.mem_of_getElem? (i := 1160) (by decide +kernel), List.mem_of_getElem? (i := 1161) (by decide +kernel)⟩
theorem lw_p40 : lw_okq (⟨"SwordAtticModel", "isSword", "(J)Z"⟩, 42) := ⟨⟨by decide +kernel, by decide +kernel⟩, List.mem_of_getElem? (i := 977) (by decide +kernel), List.mem_of_getElem? (i := 1165) (by decide +kernel), List.mem_of_getElem? (i := 1166) (by decide +kernel)⟩
theorem lw_p41 : lw_okq (⟨"SwordAtticModel", "mayBecome", "(III)Z"⟩, 42) := ⟨⟨by decide +kernel, by decide +kernel⟩, List.mem_of_getElem? (i := 977) (by decide +kernel), List.mem_of_getElem? (i := 1170) (by decide +kernel), List.mem_of_getElem? (i := 1171) (by decide +kernel)⟩
theorem lw_p42 : lw_okq (⟨"SwordAtticModel", "becomes", "(II)I"⟩, 42) := ⟨⟨by decide +kernel, by decide +kernel⟩, List.mem_of_getElem? (i := 977) (by decide +kernel), List.mem_of_getElem? (i := 1175) (by decide +kernel), List.mem_of_getElem? (i := 1176) (by decide +kernel)⟩
theorem lw_p43 : lw_okq (⟨"SwordAtticModel", "workOut", "(II)I"⟩, 42) := ⟨⟨by decide +kernel, by decide +kernel⟩, List.mem_of_getElem? (i := 977) (by decide +kernel), List.mem_of_getElem? (i := 1192) (by decide +kernel), List.mem_of_getElem? (i := 1193) (by decide +kernel)⟩
theorem lw_p44 : lw_okq (⟨"SwordAtticModel", "either", "()I"⟩, 42) := ⟨⟨by decide +kernel, by decide +kernel⟩, List.mem_of_getElem? (i := 977) (by decide +kernel), List.mem_of_getElem? (i := 1196) (by decide +kernel), List.mem_of_getElem? (i := 1197) (by decide +kernel)⟩
theorem lw_p45 : lw_okq (⟨"SwordAtticModel", "both", "()I"⟩, 42) := ⟨⟨by decide +kernel, by decide +kernel⟩, List.mem_of_getElem? (i := 977) (by decide +kernel), List.mem_of_getElem? (i := 1200) (by decide +kernel), List.mem_of_getElem? (i := 1201) (by decide +kernel)⟩
theorem lw_p46 : lw_okq (⟨"SwordAtticModel", "compared", "()I"⟩, 42) := ⟨⟨by decide +kernel, by decide +kernel⟩, List.mem_of_getElem? (i := 977) (by decide +kernel), List.mem_of_getElem? (i := 1204) (by decide +kernel), List.mem_of_getElem? (i := 1205) (by decide +kernel)⟩
theorem lw_p47 : lw_okq (⟨"SwordAtticModel", "sums", "()I"⟩, 42) := ⟨⟨by decide +kernel, by decide +kernel⟩, List.mem_of_getElem? (i := 977) (by decide +kernel), List.mem_of_getElem? (i := 1208) (by decide +kernel), List.mem_of_getElem? (i := 1209) (by decide +kernel)⟩
def lw_privs_3 : List (MethodName × Nat) := [(⟨"SwordAttic$Blades", "own", "(III)I"⟩, 5), (⟨"SwordAttic$Blades", "above", "(IIII)I"⟩, 5), (⟨"SwordAttic", "refusalOfElement", "(II)I"⟩, 8), (⟨"SwordAtticModel", "turns", "(II)V"⟩, 42), (⟨"SwordAtticModel", "inCot", "(I)I"⟩, 42), (⟨"SwordAtticModel", "mayCome", "(JJJ)Z"⟩, 42), (⟨"SwordAtticModel", "adds", "(III)V"⟩, 42), (⟨"SwordAtticModel", "placeOf", "(II)I"⟩, 42), (⟨"SwordAtticModel", "isSword", "(J)Z"⟩, 42), (⟨"SwordAtticModel", "mayBecome", "(III)Z"⟩, 42), (⟨"SwordAtticModel", "becomes", "(II)I"⟩, 42), (⟨"SwordAtticModel", "workOut", "(II)I"⟩, 42), (⟨"SwordAtticModel", "either", "()I"⟩, 42), (⟨"SwordAtticModel", "both", "()I"⟩, 42), (⟨"SwordAtticModel", "compared", "()I"⟩, 42), (⟨"SwordAtticModel", "sums", "()I"⟩, 42)]
theorem lw_r3 : ∀ q ∈ lw_privs_3, lw_okq q := List.forall_mem_cons.mpr ⟨lw_p32, List.forall_mem_cons.mpr ⟨lw_p33, List.forall_mem_cons.mpr ⟨lw_p34, List.forall_mem_cons.mpr ⟨lw_p35, List.forall_mem_cons.mpr ⟨lw_p36, List.forall_mem_cons.mpr ⟨lw_p37, List.forall_mem_cons.mpr ⟨lw_p38, List.forall_mem_cons.mpr ⟨lw_p39, List.forall_mem_cons.mpr ⟨lw_p40, List.forall_mem_cons.mpr ⟨lw_p41, List.forall_mem_cons.mpr ⟨lw_p42, List.forall_mem_cons.mpr ⟨lw_p43, List.forall_mem_cons.mpr ⟨lw_p44, List.forall_mem_cons.mpr ⟨lw_p45, List.forall_mem_cons.mpr ⟨lw_p46, List.forall_mem_cons.mpr ⟨lw_p47, fun _ h => absurd h List.not_mem_nil⟩⟩⟩⟩⟩⟩⟩⟩⟩⟩⟩⟩⟩⟩⟩⟩
theorem lw_p48 : lw_okq (⟨"SwordAtticModel", "product", "()I"⟩, 42) := ⟨⟨by decide +kernel, by decide +kernel⟩, List.mem_of_getElem? (i := 977) (by decide +kernel), List.mem_of_getElem? (i := 1212) (by decide +kernel), List.mem_of_getElem? (i := 1213) (by decide +kernel)⟩
theorem lw_p49 : lw_okq (⟨"SwordAtticModel", "one", "()I"⟩, 42) := ⟨⟨by decide +kernel, by decide +kernel⟩, List.mem_of_getElem? (i := 977) (by decide +kernel), List.mem_of_getElem? (i := 1216) (by decide +kernel), List.mem_of_getElem? (i := 1217) (by decide +kernel)⟩
theorem lw_p50 : lw_okq (⟨"SwordAtticModel", "byteAt", "()I"⟩, 42) := ⟨⟨by decide +kernel, by decide +kernel⟩, List.mem_of_getElem? (i := 977) (by decide +kernel), List.mem_of_getElem? (i := 1220) (by decide +kernel), List.mem_of_getElem? (i := 1221) (by decide +kernel)⟩
theorem lw_p51 : lw_okq (⟨"SwordAtticModel", "wrong", "()I"⟩, 42) := ⟨⟨by decide +kernel, by decide +kernel⟩, List.mem_of_getElem? (i := 977) (by decide +kernel), List.mem_of_getElem? (i := 1224) (by decide +kernel), List.mem_of_getElem? (i := 1225) (by decide +kernel)⟩
theorem lw_p52 : lw_okq (⟨"SwordAtticModel", "takes", "(I)Z"⟩, 42) := ⟨⟨by decide +kernel, by decide +kernel⟩, List.mem_of_getElem? (i := 977) (by decide +kernel), List.mem_of_getElem? (i := 1228) (by decide +kernel), List.mem_of_getElem? (i := 1229) (by decide +kernel)⟩
theorem lw_p53 : lw_okq (⟨"SwordAtticModel", "begins", "()V"⟩, 42) := ⟨⟨by decide +kernel, by decide +kernel⟩, List.mem_of_getElem? (i := 977) (by decide +kernel), List.mem_of_getElem? (i := 1240) (by decide +kernel), List.mem_of_getElem? (i := 1241) (by decide +kernel)⟩
theorem lw_p54 : lw_okq (⟨"SwordAtticModel", "growsIn", "(I)I"⟩, 42) := ⟨⟨by decide +kernel, by decide +kernel⟩, List.mem_of_getElem? (i := 977) (by decide +kernel), List.mem_of_getElem? (i := 1244) (by decide +kernel), List.mem_of_getElem? (i := 1245) (by decide +kernel)⟩
theorem lw_p55 : lw_okq (⟨"SwordAtticModel", "awakeBeside", "(I)I"⟩, 42) := ⟨⟨by decide +kernel, by decide +kernel⟩, List.mem_of_getElem? (i := 977) (by decide +kernel), List.mem_of_getElem? (i := 1248) (by decide +kernel), List.mem_of_getElem? (i := 1249) (by decide +kernel)⟩
theorem lw_p56 : lw_okq (⟨"SwordAtticModel", "isAwake", "(I)Z"⟩, 42) := ⟨⟨by decide +kernel, by decide +kernel⟩, List.mem_of_getElem? (i := 977) (by decide +kernel), List.mem_of_getElem? (i := 1258) (by decide +kernel), List.mem_of_getElem? (i := 1259) (by decide +kernel)⟩
theorem lw_p57 : lw_okq (⟨"SwordAtticModel", "bytesIs", "(I)I"⟩, 42) := ⟨⟨by decide +kernel, by decide +kernel⟩, List.mem_of_getElem? (i := 977) (by decide +kernel), List.mem_of_getElem? (i := 1266) (by decide +kernel), List.mem_of_getElem? (i := 1267) (by decide +kernel)⟩
theorem lw_p58 : lw_okq (⟨"SwordAtticModel", "goesRound", "(II)V"⟩, 42) := ⟨⟨by decide +kernel, by decide +kernel⟩, List.mem_of_getElem? (i := 977) (by decide +kernel), List.mem_of_getElem? (i := 1271) (by decide +kernel), List.mem_of_getElem? (i := 1272) (by decide +kernel)⟩
theorem lw_p59 : lw_okq (⟨"SwordAtticModel", "hourMany", "(I)I"⟩, 42) := ⟨⟨by decide +kernel, by decide +kernel⟩, List.mem_of_getElem? (i := 977) (by decide +kernel), List.mem_of_getElem? (i := 1275) (by decide +kernel), List.mem_of_getElem? (i := 1276) (by decide +kernel)⟩
theorem lw_p60 : lw_okq (⟨"SwordAtticModel", "goesNext", "(II)V"⟩, 42) := ⟨⟨by decide +kernel, by decide +kernel⟩, List.mem_of_getElem? (i := 977) (by decide +kernel), List.mem_of_getElem? (i := 1279) (by decide +kernel), List.mem_of_getElem? (i := 1280) (by decide +kernel)⟩
theorem lw_p61 : lw_okq (⟨"SwordAtticModel", "goesHour", "()V"⟩, 42) := ⟨⟨by decide +kernel, by decide +kernel⟩, List.mem_of_getElem? (i := 977) (by decide +kernel), List.mem_of_getElem? (i := 1283) (by decide +kernel), List.mem_of_getElem? (i := 1284) (by decide +kernel)⟩
theorem lw_p62 : lw_okq (⟨"SwordAtticModel", "awakeSet", "()I"⟩, 42) := ⟨⟨by decide +kernel, by decide +kernel⟩, List.mem_of_getElem? (i := 977) (by decide +kernel), List.mem_of_getElem? (i := 1294) (by decide +kernel), List.mem_of_getElem? (i := 1295) (by decide +kernel)⟩
theorem lw_p63 : lw_okq (⟨"SwordAtticModel", "mindAll", "()I"⟩, 42) := ⟨⟨by decide +kernel, by decide +kernel⟩, List.mem_of_getElem? (i := 977) (by decide +kernel), List.mem_of_getElem? (i := 1298) (by decide +kernel), List.mem_of_getElem? (i := 1299) (by decide +kernel)⟩
def lw_privs_4 : List (MethodName × Nat) := [(⟨"SwordAtticModel", "product", "()I"⟩, 42), (⟨"SwordAtticModel", "one", "()I"⟩, 42), (⟨"SwordAtticModel", "byteAt", "()I"⟩, 42), (⟨"SwordAtticModel", "wrong", "()I"⟩, 42), (⟨"SwordAtticModel", "takes", "(I)Z"⟩, 42), (⟨"SwordAtticModel", "begins", "()V"⟩, 42), (⟨"SwordAtticModel", "growsIn", "(I)I"⟩, 42), (⟨"SwordAtticModel", "awakeBeside", "(I)I"⟩, 42), (⟨"SwordAtticModel", "isAwake", "(I)Z"⟩, 42), (⟨"SwordAtticModel", "bytesIs", "(I)I"⟩, 42), (⟨"SwordAtticModel", "goesRound", "(II)V"⟩, 42), (⟨"SwordAtticModel", "hourMany", "(I)I"⟩, 42), (⟨"SwordAtticModel", "goesNext", "(II)V"⟩, 42), (⟨"SwordAtticModel", "goesHour", "()V"⟩, 42), (⟨"SwordAtticModel", "awakeSet", "()I"⟩, 42), (⟨"SwordAtticModel", "mindAll", "()I"⟩, 42)]
theorem lw_r4 : ∀ q ∈ lw_privs_4, lw_okq q := List.forall_mem_cons.mpr ⟨lw_p48, List.forall_mem_cons.mpr ⟨lw_p49, List.forall_mem_cons.mpr ⟨lw_p50, List.forall_mem_cons.mpr ⟨lw_p51, List.forall_mem_cons.mpr ⟨lw_p52, List.forall_mem_cons.mpr ⟨lw_p53, List.forall_mem_cons.mpr ⟨lw_p54, List.forall_mem_cons.mpr ⟨lw_p55, List.forall_mem_cons.mpr ⟨lw_p56, List.forall_mem_cons.mpr ⟨lw_p57, List.forall_mem_cons.mpr ⟨lw_p58, List.forall_mem_cons.mpr ⟨lw_p59, List.forall_mem_cons.mpr ⟨lw_p60, List.forall_mem_cons.mpr ⟨lw_p61, List.forall_mem_cons.mpr ⟨lw_p62, List.forall_mem_cons.mpr ⟨lw_p63, fun _ h => absurd h List.not_mem_nil⟩⟩⟩⟩⟩⟩⟩⟩⟩⟩⟩⟩⟩⟩⟩⟩
theorem lw_p64 : lw_okq (⟨"SwordAtticModel", "triesRound", "(II)V"⟩, 42) := ⟨⟨by decide +kernel, by decide +kernel⟩, List.mem_of_getElem? (i := 977) (by decide +kernel), List.mem_of_getElem? (i := 1317) (by decide +kernel), List.mem_of_getElem? (i := 1318) (by decide +kernel)⟩
theorem lw_p65 : lw_okq (⟨"SwordAtticModel", "awakeMany", "()I"⟩, 42) := ⟨⟨by decide +kernel, by decide +kernel⟩, List.mem_of_getElem? (i := 977) (by decide +kernel), List.mem_of_getElem? (i := 1321) (by decide +kernel), List.mem_of_getElem? (i := 1322) (by decide +kernel)⟩
theorem lw_p66 : lw_okq (⟨"SwordAtticModel", "isToldAt", "(II)V"⟩, 42) := ⟨⟨by decide +kernel, by decide +kernel⟩, List.mem_of_getElem? (i := 977) (by decide +kernel), List.mem_of_getElem? (i := 1332) (by decide +kernel), List.mem_of_getElem? (i := 1333) (by decide +kernel)⟩
theorem lw_p67 : lw_okq (⟨"SwordAtticModel", "isTouched", "(I)V"⟩, 42) := ⟨⟨by decide +kernel, by decide +kernel⟩, List.mem_of_getElem? (i := 977) (by decide +kernel), List.mem_of_getElem? (i := 1340) (by decide +kernel), List.mem_of_getElem? (i := 1341) (by decide +kernel)⟩
theorem lw_p68 : lw_okq (⟨"SwordAtticModel", "touchedMany", "()I"⟩, 42) := ⟨⟨by decide +kernel, by decide +kernel⟩, List.mem_of_getElem? (i := 977) (by decide +kernel), List.mem_of_getElem? (i := 1344) (by decide +kernel), List.mem_of_getElem? (i := 1345) (by decide +kernel)⟩
theorem lw_p69 : lw_okq (⟨"SwordAtticModel", "stepsBy", "(II)I"⟩, 42) := ⟨⟨by decide +kernel, by decide +kernel⟩, List.mem_of_getElem? (i := 977) (by decide +kernel), List.mem_of_getElem? (i := 1356) (by decide +kernel), List.mem_of_getElem? (i := 1357) (by decide +kernel)⟩
theorem lw_p70 : lw_okq (⟨"SwordAtticModel", "rowsAre", "(I)I"⟩, 42) := ⟨⟨by decide +kernel, by decide +kernel⟩, List.mem_of_getElem? (i := 977) (by decide +kernel), List.mem_of_getElem? (i := 1367) (by decide +kernel), List.mem_of_getElem? (i := 1368) (by decide +kernel)⟩
theorem lw_p71 : lw_okq (⟨"SwordAtticModel", "firstFalse", "(II)I"⟩, 42) := ⟨⟨by decide +kernel, by decide +kernel⟩, List.mem_of_getElem? (i := 977) (by decide +kernel), List.mem_of_getElem? (i := 1371) (by decide +kernel), List.mem_of_getElem? (i := 1372) (by decide +kernel)⟩
theorem lw_p72 : lw_okq (⟨"SwordAtticModel", "playsFrom", "(II)I"⟩, 42) := ⟨⟨by decide +kernel, by decide +kernel⟩, List.mem_of_getElem? (i := 977) (by decide +kernel), List.mem_of_getElem? (i := 1392) (by decide +kernel), List.mem_of_getElem? (i := 1393) (by decide +kernel)⟩
theorem lw_p73 : lw_okq (⟨"SwordAtticModel", "keepsMind", "()V"⟩, 42) := ⟨⟨by decide +kernel, by decide +kernel⟩, List.mem_of_getElem? (i := 977) (by decide +kernel), List.mem_of_getElem? (i := 1407) (by decide +kernel), List.mem_of_getElem? (i := 1408) (by decide +kernel)⟩
theorem lw_p74 : lw_okq (⟨"SwordAtticModel", "isBody", "(I)Z"⟩, 42) := ⟨⟨by decide +kernel, by decide +kernel⟩, List.mem_of_getElem? (i := 977) (by decide +kernel), List.mem_of_getElem? (i := 1443) (by decide +kernel), List.mem_of_getElem? (i := 1444) (by decide +kernel)⟩
theorem lw_p75 : lw_okq (⟨"SwordAtticModel", "wakesAs", "(II)I"⟩, 42) := ⟨⟨by decide +kernel, by decide +kernel⟩, List.mem_of_getElem? (i := 977) (by decide +kernel), List.mem_of_getElem? (i := 1447) (by decide +kernel), List.mem_of_getElem? (i := 1448) (by decide +kernel)⟩
theorem lw_p76 : lw_okq (⟨"SwordAtticModel", "runs", "(I)V"⟩, 42) := ⟨⟨by decide +kernel, by decide +kernel⟩, List.mem_of_getElem? (i := 977) (by decide +kernel), List.mem_of_getElem? (i := 1451) (by decide +kernel), List.mem_of_getElem? (i := 1452) (by decide +kernel)⟩
theorem lw_p77 : lw_okq (⟨"SwordAtticModel", "hushesAs", "(II)I"⟩, 42) := ⟨⟨by decide +kernel, by decide +kernel⟩, List.mem_of_getElem? (i := 977) (by decide +kernel), List.mem_of_getElem? (i := 1455) (by decide +kernel), List.mem_of_getElem? (i := 1456) (by decide +kernel)⟩
theorem lw_p78 : lw_okq (⟨"SwordAtticModel", "criesAs", "(II)I"⟩, 42) := ⟨⟨by decide +kernel, by decide +kernel⟩, List.mem_of_getElem? (i := 977) (by decide +kernel), List.mem_of_getElem? (i := 1459) (by decide +kernel), List.mem_of_getElem? (i := 1460) (by decide +kernel)⟩
theorem lw_p79 : lw_okq (⟨"SwordAtticModel", "tellsAs", "(II)I"⟩, 42) := ⟨⟨by decide +kernel, by decide +kernel⟩, List.mem_of_getElem? (i := 977) (by decide +kernel), List.mem_of_getElem? (i := 1463) (by decide +kernel), List.mem_of_getElem? (i := 1464) (by decide +kernel)⟩
def lw_privs_5 : List (MethodName × Nat) := [(⟨"SwordAtticModel", "triesRound", "(II)V"⟩, 42), (⟨"SwordAtticModel", "awakeMany", "()I"⟩, 42), (⟨"SwordAtticModel", "isToldAt", "(II)V"⟩, 42), (⟨"SwordAtticModel", "isTouched", "(I)V"⟩, 42), (⟨"SwordAtticModel", "touchedMany", "()I"⟩, 42), (⟨"SwordAtticModel", "stepsBy", "(II)I"⟩, 42), (⟨"SwordAtticModel", "rowsAre", "(I)I"⟩, 42), (⟨"SwordAtticModel", "firstFalse", "(II)I"⟩, 42), (⟨"SwordAtticModel", "playsFrom", "(II)I"⟩, 42), (⟨"SwordAtticModel", "keepsMind", "()V"⟩, 42), (⟨"SwordAtticModel", "isBody", "(I)Z"⟩, 42), (⟨"SwordAtticModel", "wakesAs", "(II)I"⟩, 42), (⟨"SwordAtticModel", "runs", "(I)V"⟩, 42), (⟨"SwordAtticModel", "hushesAs", "(II)I"⟩, 42), (⟨"SwordAtticModel", "criesAs", "(II)I"⟩, 42), (⟨"SwordAtticModel", "tellsAs", "(II)I"⟩, 42)]
theorem lw_r5 : ∀ q ∈ lw_privs_5, lw_okq q := List.forall_mem_cons.mpr ⟨lw_p64, List.forall_mem_cons.mpr ⟨lw_p65, List.forall_mem_cons.mpr ⟨lw_p66, List.forall_mem_cons.mpr ⟨lw_p67, List.forall_mem_cons.mpr ⟨lw_p68, List.forall_mem_cons.mpr ⟨lw_p69, List.forall_mem_cons.mpr ⟨lw_p70, List.forall_mem_cons.mpr ⟨lw_p71, List.forall_mem_cons.mpr ⟨lw_p72, List.forall_mem_cons.mpr ⟨lw_p73, List.forall_mem_cons.mpr ⟨lw_p74, List.forall_mem_cons.mpr ⟨lw_p75, List.forall_mem_cons.mpr ⟨lw_p76, List.forall_mem_cons.mpr ⟨lw_p77, List.forall_mem_cons.mpr ⟨lw_p78, List.forall_mem_cons.mpr ⟨lw_p79, fun _ h => absurd h List.not_mem_nil⟩⟩⟩⟩⟩⟩⟩⟩⟩⟩⟩⟩⟩⟩⟩⟩
theorem lw_p80 : lw_okq (⟨"SwordAtticModel", "refusal", "(II)I"⟩, 42) := ⟨⟨by decide +kernel, by decide +kernel⟩, List.mem_of_getElem? (i := 977) (by decide +kernel), List.mem_of_getElem? (i := 1483) (by decide +kernel), List.mem_of_getElem? (i := 1484) (by decide +kernel)⟩
theorem lw_p81 : lw_okq (⟨"SwordAtticModel", "kindOf", "(I)I"⟩, 42) := ⟨⟨by decide +kernel, by decide +kernel⟩, List.mem_of_getElem? (i := 977) (by decide +kernel), List.mem_of_getElem? (i := 1503) (by decide +kernel), List.mem_of_getElem? (i := 1504) (by decide +kernel)⟩
theorem lw_p82 : lw_okq (⟨"SwordAtticModel", "manyAwake", "()I"⟩, 42) := ⟨⟨by decide +kernel, by decide +kernel⟩, List.mem_of_getElem? (i := 977) (by decide +kernel), List.mem_of_getElem? (i := 1514) (by decide +kernel), List.mem_of_getElem? (i := 1515) (by decide +kernel)⟩
def lw_privs_6 : List (MethodName × Nat) := [(⟨"SwordAtticModel", "refusal", "(II)I"⟩, 42), (⟨"SwordAtticModel", "kindOf", "(I)I"⟩, 42), (⟨"SwordAtticModel", "manyAwake", "()I"⟩, 42)]
theorem lw_r6 : ∀ q ∈ lw_privs_6, lw_okq q := List.forall_mem_cons.mpr ⟨lw_p80, List.forall_mem_cons.mpr ⟨lw_p81, List.forall_mem_cons.mpr ⟨lw_p82, fun _ h => absurd h List.not_mem_nil⟩⟩⟩
def lw_privs : List (MethodName × Nat) := lw_privs_1 ++ (lw_privs_2 ++ (lw_privs_3 ++ (lw_privs_4 ++ (lw_privs_5 ++ (lw_privs_6)))))
def lw_tbl : List Cond := k2_sels lw_privs ++ tables_1
theorem lw_privs_ok : ∀ q ∈ lw_privs, lw_okq q := by
  show ∀ q ∈ lw_privs_1 ++ (lw_privs_2 ++ (lw_privs_3 ++ (lw_privs_4 ++ (lw_privs_5 ++ (lw_privs_6))))), lw_okq q
  exact List.forall_mem_append.mpr ⟨lw_r1, List.forall_mem_append.mpr ⟨lw_r2, List.forall_mem_append.mpr ⟨lw_r3, List.forall_mem_append.mpr ⟨lw_r4, List.forall_mem_append.mpr ⟨lw_r5, lw_r6⟩⟩⟩⟩⟩
end
section
def RX0 : String := "SwordAttic$Blades"
def TX0 : u_T := fun k => match k with
  | 0 => ("SwordAttic$Blades", "size", "I", false)
  | 1 => ("SwordAttic$Blades", "ran", "I", false)
  | 2 => ("SwordAttic$Blades", "kinds", "[I", true)
  | 3 => ("SwordAttic$Blades", "traced", "[I", true)
  | _ => ("SwordAttic$Blades", "number", "I", false)
def tyX0 : Nat → FieldType := fun k => match k with
  | 0 => .int
  | 1 => .int
  | 2 => .array .int
  | 3 => .array .int
  | _ => .int
abbrev wsX00 : List Cond := u_ws RX0 TX0 5
theorem nmX0 : ∀ a, a < 5 → ∀ b, b < 5 → a ≠ b → (TX0 a).2.1 ≠ (TX0 b).2.1 := by decide +kernel
theorem tyX0_ok : ∀ k, k < 5 → parseFieldDescriptor (TX0 k).2.2.1 = some (tyX0 k) := by decide +kernel
abbrev cX0_init : ByteArray := prog_2_method_1_code
def yX0_init : MethodName := ⟨RX0, "<init>", "()V"⟩
abbrev cX0_add : ByteArray := prog_2_method_2_code
def yX0_add : MethodName := ⟨RX0, "add", "(I)I"⟩
abbrev cX0_isUnder : ByteArray := prog_2_method_3_code
def yX0_isUnder : MethodName := ⟨RX0, "isUnder", "(II)Z"⟩
abbrev cX0_perform : ByteArray := prog_2_method_4_code
def yX0_perform : MethodName := ⟨RX0, "perform", "(III)I"⟩
abbrev cX0_own : ByteArray := prog_2_method_5_code
def yX0_own : MethodName := ⟨RX0, "own", "(III)I"⟩
abbrev cX0_above : ByteArray := prog_2_method_6_code
def yX0_above : MethodName := ⟨RX0, "above", "(IIII)I"⟩
abbrev cX0_from : ByteArray := prog_2_method_7_code
def yX0_from : MethodName := ⟨RX0, "from", "(IIII)I"⟩
abbrev cX0_run : ByteArray := prog_2_method_8_code
def yX0_run : MethodName := ⟨RX0, "run", "(III)I"⟩
def RX1 : String := "SwordAttic$Changes"
def TX1 : u_T := fun k => match k with
  | 0 => ("SwordAttic$Changes", "size", "I", false)
  | 1 => ("SwordAttic$Changes", "done", "I", false)
  | 2 => ("SwordAttic$Changes", "numbers", "[I", true)
  | 3 => ("SwordAttic$Changes", "whats", "[I", true)
  | 4 => ("SwordAttic$Changes", "before", "[I", true)
  | _ => ("SwordAttic$Changes", "behind", "[I", true)
def tyX1 : Nat → FieldType := fun k => match k with
  | 0 => .int
  | 1 => .int
  | 2 => .array .int
  | 3 => .array .int
  | 4 => .array .int
  | _ => .array .int
abbrev wsX10 : List Cond := u_ws RX1 TX1 6
theorem nmX1 : ∀ a, a < 6 → ∀ b, b < 6 → a ≠ b → (TX1 a).2.1 ≠ (TX1 b).2.1 := by decide +kernel
theorem tyX1_ok : ∀ k, k < 6 → parseFieldDescriptor (TX1 k).2.2.1 = some (tyX1 k) := by decide +kernel
abbrev cX1_init : ByteArray := prog_3_method_1_code
def yX1_init : MethodName := ⟨RX1, "<init>", "()V"⟩
abbrev cX1_add : ByteArray := prog_3_method_2_code
def yX1_add : MethodName := ⟨RX1, "add", "(IIII)V"⟩
abbrev cX1_dropFirst : ByteArray := prog_3_method_3_code
def yX1_dropFirst : MethodName := ⟨RX1, "dropFirst", "()V"⟩
abbrev cX1_stepBack : ByteArray := prog_3_method_4_code
def yX1_stepBack : MethodName := ⟨RX1, "stepBack", "(LSwordAttic$Night;)Z"⟩
abbrev cX1_stepOn : ByteArray := prog_3_method_5_code
def yX1_stepOn : MethodName := ⟨RX1, "stepOn", "(LSwordAttic$Night;)Z"⟩
abbrev cX1_lay : ByteArray := prog_3_method_6_code
def yX1_lay : MethodName := ⟨RX1, "lay", "(LSwordAttic$Night;II)V"⟩
def RX2 : String := "SwordAttic$Deeds"
def TX2 : u_T := fun k => match k with
  | 0 => ("SwordAttic$Deeds", "hasImage", "Z", false)
  | 1 => ("SwordAttic$Deeds", "told", "[I", true)
  | 2 => ("SwordAttic$Deeds", "toldThen", "[I", true)
  | 3 => ("SwordAttic$Deeds", "mindThen", "[I", true)
  | 4 => ("SwordAttic$Deeds", "heldThen", "[I", true)
  | 5 => ("SwordAttic$Deeds", "swordsThen", "I", false)
  | 6 => ("SwordAttic$Deeds", "hourThen", "I", false)
  | _ => ("SwordAttic$Deeds", "candleThen", "I", false)
def tyX2 : Nat → FieldType := fun k => match k with
  | 0 => .boolean
  | 1 => .array .int
  | 2 => .array .int
  | 3 => .array .int
  | 4 => .array .int
  | 5 => .int
  | 6 => .int
  | _ => .int
abbrev wsX20 : List Cond := u_ws RX2 TX2 8
theorem nmX2 : ∀ a, a < 8 → ∀ b, b < 8 → a ≠ b → (TX2 a).2.1 ≠ (TX2 b).2.1 := by decide +kernel
theorem tyX2_ok : ∀ k, k < 8 → parseFieldDescriptor (TX2 k).2.2.1 = some (tyX2 k) := by decide +kernel
abbrev cX2_init : ByteArray := prog_4_method_1_code
def yX2_init : MethodName := ⟨RX2, "<init>", "()V"⟩
abbrev cX2_add : ByteArray := prog_4_method_2_code
def yX2_add : MethodName := ⟨RX2, "add", "(II)V"⟩
abbrev cX2_keepImage : ByteArray := prog_4_method_3_code
def yX2_keepImage : MethodName := ⟨RX2, "keepImage", "(LSwordAttic$Night;)V"⟩
abbrev cX2_layBack : ByteArray := prog_4_method_4_code
def yX2_layBack : MethodName := ⟨RX2, "layBack", "(LSwordAttic$Night;)V"⟩
def RX3 : String := "SwordAttic$Law"
def TX3 : u_T := fun k => match k with
  | 0 => ("SwordAttic$Law", "isTold", "Z", false)
  | 1 => ("SwordAttic$Law", "size", "I", false)
  | 2 => ("SwordAttic$Law", "ops", "[I", true)
  | 3 => ("SwordAttic$Law", "args", "[I", true)
  | 4 => ("SwordAttic$Law", "stack", "[I", true)
  | _ => ("SwordAttic$Law", "names", "[I", true)
def tyX3 : Nat → FieldType := fun k => match k with
  | 0 => .boolean
  | 1 => .int
  | 2 => .array .int
  | 3 => .array .int
  | 4 => .array .int
  | _ => .array .int
abbrev wsX30 : List Cond := u_ws RX3 TX3 6
theorem nmX3 : ∀ a, a < 6 → ∀ b, b < 6 → a ≠ b → (TX3 a).2.1 ≠ (TX3 b).2.1 := by decide +kernel
theorem tyX3_ok : ∀ k, k < 6 → parseFieldDescriptor (TX3 k).2.2.1 = some (tyX3 k) := by decide +kernel
abbrev cX3_init : ByteArray := prog_5_method_1_code
def yX3_init : MethodName := ⟨RX3, "<init>", "()V"⟩
abbrev cX3_become : ByteArray := prog_5_method_2_code
def yX3_become : MethodName := ⟨RX3, "become", "(LSwordAttic$Law;)V"⟩
abbrev cX3_add : ByteArray := prog_5_method_3_code
def yX3_add : MethodName := ⟨RX3, "add", "(II)V"⟩
abbrev cX3_growth : ByteArray := prog_5_method_4_code
def yX3_growth : MethodName := ⟨RX3, "growth", "(IIIIII)I"⟩
abbrev cX3_workedOut : ByteArray := prog_5_method_5_code
def yX3_workedOut : MethodName := ⟨RX3, "workedOut", "()I"⟩
abbrev cX3_joined : ByteArray := prog_5_method_6_code
def yX3_joined : MethodName := ⟨RX3, "joined", "(III)I"⟩
def RX4 : String := "SwordAttic$Night"
def TX4 : u_T := fun k => match k with
  | 0 => ("SwordAttic$Night", "swords", "I", false)
  | 1 => ("SwordAttic$Night", "hourNow", "I", false)
  | 2 => ("SwordAttic$Night", "sleeps", "I", false)
  | 3 => ("SwordAttic$Night", "candle", "I", false)
  | 4 => ("SwordAttic$Night", "wokenSwords", "I", false)
  | 5 => ("SwordAttic$Night", "cot", "[I", true)
  | 6 => ("SwordAttic$Night", "did", "[I", true)
  | 7 => ("SwordAttic$Night", "years", "[I", true)
  | 8 => ("SwordAttic$Night", "mind", "[I", true)
  | 9 => ("SwordAttic$Night", "held", "[I", true)
  | 10 => ("SwordAttic$Night", "inCot", "[I", true)
  | 11 => ("SwordAttic$Night", "growthInDark", "[I", true)
  | 12 => ("SwordAttic$Night", "growthInLight", "[I", true)
  | _ => ("SwordAttic$Night", "queue", "[I", true)
def tyX4 : Nat → FieldType := fun k => match k with
  | 0 => .int
  | 1 => .int
  | 2 => .int
  | 3 => .int
  | 4 => .int
  | 5 => .array .int
  | 6 => .array .int
  | 7 => .array .int
  | 8 => .array .int
  | 9 => .array .int
  | 10 => .array .int
  | 11 => .array .int
  | 12 => .array .int
  | _ => .array .int
abbrev wsX40 : List Cond := u_ws RX4 TX4 14
theorem nmX4 : ∀ a, a < 14 → ∀ b, b < 14 → a ≠ b → (TX4 a).2.1 ≠ (TX4 b).2.1 := by decide +kernel
theorem tyX4_ok : ∀ k, k < 14 → parseFieldDescriptor (TX4 k).2.2.1 = some (tyX4 k) := by decide +kernel
abbrev cX4_init : ByteArray := prog_6_method_1_code
def yX4_init : MethodName := ⟨RX4, "<init>", "()V"⟩
abbrev cX4_become : ByteArray := prog_6_method_2_code
def yX4_become : MethodName := ⟨RX4, "become", "(LSwordAttic$Night;)V"⟩
abbrev cX4_becomeInMind : ByteArray := prog_6_method_3_code
def yX4_becomeInMind : MethodName := ⟨RX4, "becomeInMind", "(LSwordAttic$Night;)V"⟩
abbrev cX4_mayCome : ByteArray := prog_6_method_4_code
def yX4_mayCome : MethodName := ⟨RX4, "mayCome", "(III)Z"⟩
abbrev cX4_add : ByteArray := prog_6_method_5_code
def yX4_add : MethodName := ⟨RX4, "add", "(III)I"⟩
abbrev cX4_addFrom : ByteArray := prog_6_method_6_code
def yX4_addFrom : MethodName := ⟨RX4, "addFrom", "(LSwordAttic$Shelf;II)I"⟩
abbrev cX4_isTakenByOther : ByteArray := prog_6_method_7_code
def yX4_isTakenByOther : MethodName := ⟨RX4, "isTakenByOther", "(II)Z"⟩
abbrev cX4_get : ByteArray := prog_6_method_8_code
def yX4_get : MethodName := ⟨RX4, "get", "(II)I"⟩
abbrev cX4_set : ByteArray := prog_6_method_9_code
def yX4_set : MethodName := ⟨RX4, "set", "(III)V"⟩
abbrev cX4_move : ByteArray := prog_6_method_10_code
def yX4_move : MethodName := ⟨RX4, "move", "(II)V"⟩
abbrev cX4_changeCots : ByteArray := prog_6_method_11_code
def yX4_changeCots : MethodName := ⟨RX4, "changeCots", "(II)V"⟩
abbrev cX4_isAwake : ByteArray := prog_6_method_12_code
def yX4_isAwake : MethodName := ⟨RX4, "isAwake", "(I)Z"⟩
abbrev cX4_awakeSwords : ByteArray := prog_6_method_13_code
def yX4_awakeSwords : MethodName := ⟨RX4, "awakeSwords", "()I"⟩
abbrev cX4_awakeCots : ByteArray := prog_6_method_14_code
def yX4_awakeCots : MethodName := ⟨RX4, "awakeCots", "()I"⟩
abbrev cX4_howManyAwake : ByteArray := prog_6_method_15_code
def yX4_howManyAwake : MethodName := ⟨RX4, "howManyAwake", "()I"⟩
abbrev cX4_mindOfAll : ByteArray := prog_6_method_16_code
def yX4_mindOfAll : MethodName := ⟨RX4, "mindOfAll", "()I"⟩
abbrev cX4_growth : ByteArray := prog_6_method_17_code
def yX4_growth : MethodName := ⟨RX4, "growth", "(LSwordAttic$Law;III)I"⟩
abbrev cX4_growthNow : ByteArray := prog_6_method_18_code
def yX4_growthNow : MethodName := ⟨RX4, "growthNow", "(LSwordAttic$Law;I)I"⟩
abbrev cX4_passHour : ByteArray := prog_6_method_19_code
def yX4_passHour : MethodName := ⟨RX4, "passHour", "(LSwordAttic$Law;I)V"⟩
abbrev cX4_grow : ByteArray := prog_6_method_20_code
def yX4_grow : MethodName := ⟨RX4, "grow", "(II)V"⟩
abbrev cX4_foresee : ByteArray := prog_6_method_21_code
def yX4_foresee : MethodName := ⟨RX4, "foresee", "(LSwordAttic$Law;)V"⟩
abbrev cX4_passHourBehind : ByteArray := prog_6_method_22_code
def yX4_passHourBehind : MethodName := ⟨RX4, "passHourBehind", "(LSwordAttic$Night;I)V"⟩
abbrev cX4_tellAt : ByteArray := prog_6_method_23_code
def yX4_tellAt : MethodName := ⟨RX4, "tellAt", "(II)V"⟩
abbrev cX4_touchFrom : ByteArray := prog_6_method_24_code
def yX4_touchFrom : MethodName := ⟨RX4, "touchFrom", "(I)I"⟩
abbrev cX4_isWokenByTouch : ByteArray := prog_6_method_25_code
def yX4_isWokenByTouch : MethodName := ⟨RX4, "isWokenByTouch", "(I)Z"⟩
abbrev cX4_mindWhenTold : ByteArray := prog_6_method_26_code
def yX4_mindWhenTold : MethodName := ⟨RX4, "mindWhenTold", "(I)I"⟩
abbrev cX4_canAllBeTold : ByteArray := prog_6_method_27_code
def yX4_canAllBeTold : MethodName := ⟨RX4, "canAllBeTold", "()Z"⟩
abbrev cX4_mindOfAllTold : ByteArray := prog_6_method_28_code
def yX4_mindOfAllTold : MethodName := ⟨RX4, "mindOfAllTold", "()I"⟩
abbrev cX4_nearestAwakeCot : ByteArray := prog_6_method_29_code
def yX4_nearestAwakeCot : MethodName := ⟨RX4, "nearestAwakeCot", "()I"⟩
abbrev cX4_pairsOf : ByteArray := prog_6_method_30_code
def yX4_pairsOf : MethodName := ⟨RX4, "pairsOf", "(I)I"⟩
abbrev cX4_mostApart : ByteArray := prog_6_method_31_code
def yX4_mostApart : MethodName := ⟨RX4, "mostApart", "()I"⟩
abbrev cX4_areApart : ByteArray := prog_6_method_32_code
def yX4_areApart : MethodName := ⟨RX4, "areApart", "(I)Z"⟩
def RX5 : String := "SwordAttic$Shelf"
def TX5 : u_T := fun k => match k with
  | 0 => ("SwordAttic$Shelf", "kind", "I", false)
  | 1 => ("SwordAttic$Shelf", "sort", "I", false)
  | 2 => ("SwordAttic$Shelf", "size", "I", false)
  | 3 => ("SwordAttic$Shelf", "elements", "[J", true)
  | _ => ("SwordAttic$Shelf", "holds", "I", false)
def tyX5 : Nat → FieldType := fun k => match k with
  | 0 => .int
  | 1 => .int
  | 2 => .int
  | 3 => .array .long
  | _ => .int
abbrev wsX50 : List Cond := u_ws RX5 TX5 5
theorem nmX5 : ∀ a, a < 5 → ∀ b, b < 5 → a ≠ b → (TX5 a).2.1 ≠ (TX5 b).2.1 := by decide +kernel
theorem tyX5_ok : ∀ k, k < 5 → parseFieldDescriptor (TX5 k).2.2.1 = some (tyX5 k) := by decide +kernel
abbrev cX5_init : ByteArray := prog_7_method_1_code
def yX5_init : MethodName := ⟨RX5, "<init>", "()V"⟩
abbrev cX5_holdsNothing : ByteArray := prog_7_method_2_code
def yX5_holdsNothing : MethodName := ⟨RX5, "holdsNothing", "()Z"⟩
abbrev cX5_holdsBlade : ByteArray := prog_7_method_3_code
def yX5_holdsBlade : MethodName := ⟨RX5, "holdsBlade", "()Z"⟩
abbrev cX5_holdsRow : ByteArray := prog_7_method_4_code
def yX5_holdsRow : MethodName := ⟨RX5, "holdsRow", "()Z"⟩
abbrev cX5_holdsBytes : ByteArray := prog_7_method_5_code
def yX5_holdsBytes : MethodName := ⟨RX5, "holdsBytes", "()Z"⟩
abbrev cX5_clear : ByteArray := prog_7_method_6_code
def yX5_clear : MethodName := ⟨RX5, "clear", "()V"⟩
abbrev cX5_holdBlade : ByteArray := prog_7_method_7_code
def yX5_holdBlade : MethodName := ⟨RX5, "holdBlade", "(I)V"⟩
abbrev cX5_holdRow : ByteArray := prog_7_method_8_code
def yX5_holdRow : MethodName := ⟨RX5, "holdRow", "(II)V"⟩
abbrev cX5_hasPlaces : ByteArray := prog_7_method_9_code
def yX5_hasPlaces : MethodName := ⟨RX5, "hasPlaces", "(II)Z"⟩
abbrev cX5_store : ByteArray := prog_7_method_10_code
def yX5_store : MethodName := ⟨RX5, "store", "(IJ)V"⟩
abbrev cX5_byteAt : ByteArray := prog_7_method_11_code
def yX5_byteAt : MethodName := ⟨RX5, "byteAt", "(I)I"⟩
abbrev cX5_hours : ByteArray := prog_7_method_12_code
def yX5_hours : MethodName := ⟨RX5, "hours", "()I"⟩
def RX6 : String := "SwordAttic$Tape"
def TX6 : u_T := fun k => match k with
  | 0 => ("SwordAttic$Tape", "size", "I", false)
  | 1 => ("SwordAttic$Tape", "draft", "LSwordAttic$Law;", true)
  | 2 => ("SwordAttic$Tape", "bytes", "[I", true)
  | 3 => ("SwordAttic$Tape", "place", "I", false)
  | _ => ("SwordAttic$Tape", "fault", "I", false)
def tyX6 : Nat → FieldType := fun k => match k with
  | 0 => .int
  | 1 => .object "SwordAttic$Law"
  | 2 => .array .int
  | 3 => .int
  | _ => .int
abbrev wsX60 : List Cond := u_ws RX6 TX6 5
theorem nmX6 : ∀ a, a < 5 → ∀ b, b < 5 → a ≠ b → (TX6 a).2.1 ≠ (TX6 b).2.1 := by decide +kernel
theorem tyX6_ok : ∀ k, k < 5 → parseFieldDescriptor (TX6 k).2.2.1 = some (tyX6 k) := by decide +kernel
abbrev cX6_init : ByteArray := prog_8_method_1_code
def yX6_init : MethodName := ⟨RX6, "<init>", "()V"⟩
abbrev cX6_add : ByteArray := prog_8_method_2_code
def yX6_add : MethodName := ⟨RX6, "add", "(I)Z"⟩
abbrev cX6_read : ByteArray := prog_8_method_3_code
def yX6_read : MethodName := ⟨RX6, "read", "()I"⟩
abbrev cX6_next : ByteArray := prog_8_method_4_code
def yX6_next : MethodName := ⟨RX6, "next", "()I"⟩
abbrev cX6_noteFault : ByteArray := prog_8_method_5_code
def yX6_noteFault : MethodName := ⟨RX6, "noteFault", "()V"⟩
abbrev cX6_readLine : ByteArray := prog_8_method_6_code
def yX6_readLine : MethodName := ⟨RX6, "readLine", "()V"⟩
abbrev cX6_readOr : ByteArray := prog_8_method_7_code
def yX6_readOr : MethodName := ⟨RX6, "readOr", "(I)V"⟩
abbrev cX6_readAnd : ByteArray := prog_8_method_8_code
def yX6_readAnd : MethodName := ⟨RX6, "readAnd", "(I)V"⟩
abbrev cX6_readComparison : ByteArray := prog_8_method_9_code
def yX6_readComparison : MethodName := ⟨RX6, "readComparison", "(I)V"⟩
abbrev cX6_readSum : ByteArray := prog_8_method_10_code
def yX6_readSum : MethodName := ⟨RX6, "readSum", "(I)V"⟩
abbrev cX6_readProduct : ByteArray := prog_8_method_11_code
def yX6_readProduct : MethodName := ⟨RX6, "readProduct", "(I)V"⟩
abbrev cX6_readOperand : ByteArray := prog_8_method_12_code
def yX6_readOperand : MethodName := ⟨RX6, "readOperand", "(I)V"⟩
abbrev cX6_readOpened : ByteArray := prog_8_method_13_code
def yX6_readOpened : MethodName := ⟨RX6, "readOpened", "(II)V"⟩
abbrev cX6_readNumber : ByteArray := prog_8_method_14_code
def yX6_readNumber : MethodName := ⟨RX6, "readNumber", "()V"⟩
abbrev cX6_nameOf : ByteArray := prog_8_method_15_code
def yX6_nameOf : MethodName := ⟨RX6, "nameOf", "(I)I"⟩
def RX7 : String := "SwordAttic$Thought"
def TX7 : u_T := fun k => match k with
  | 0 => ("SwordAttic$Thought", "fewestAwake", "I", false)
  | 1 => ("SwordAttic$Thought", "leastMind", "I", false)
  | 2 => ("SwordAttic$Thought", "bestCots", "[I", true)
  | 3 => ("SwordAttic$Thought", "fitting", "I", false)
  | 4 => ("SwordAttic$Thought", "leastFitting", "I", false)
  | 5 => ("SwordAttic$Thought", "bestPair", "I", false)
  | 6 => ("SwordAttic$Thought", "auntsFirst", "I", false)
  | 7 => ("SwordAttic$Thought", "now", "LSwordAttic$Night;", true)
  | 8 => ("SwordAttic$Thought", "law", "LSwordAttic$Law;", true)
  | 9 => ("SwordAttic$Thought", "nights", "[LSwordAttic$Night;", true)
  | 10 => ("SwordAttic$Thought", "cots", "[I", true)
  | 11 => ("SwordAttic$Thought", "stops", "[I", true)
  | _ => ("SwordAttic$Thought", "stepsTo", "[I", true)
def tyX7 : Nat → FieldType := fun k => match k with
  | 0 => .int
  | 1 => .int
  | 2 => .array .int
  | 3 => .int
  | 4 => .int
  | 5 => .int
  | 6 => .int
  | 7 => .object "SwordAttic$Night"
  | 8 => .object "SwordAttic$Law"
  | 9 => .array (.object "SwordAttic$Night")
  | 10 => .array .int
  | 11 => .array .int
  | _ => .array .int
abbrev wsX70 : List Cond := u_ws RX7 TX7 13
theorem nmX7 : ∀ a, a < 13 → ∀ b, b < 13 → a ≠ b → (TX7 a).2.1 ≠ (TX7 b).2.1 := by decide +kernel
theorem tyX7_ok : ∀ k, k < 13 → parseFieldDescriptor (TX7 k).2.2.1 = some (tyX7 k) := by decide +kernel
abbrev cX7_init : ByteArray := prog_9_method_1_code
def yX7_init : MethodName := ⟨RX7, "<init>", "(LSwordAttic$Night;LSwordAttic$Law;)V"⟩
abbrev cX7_fresh : ByteArray := prog_9_method_2_code
def yX7_fresh : MethodName := ⟨RX7, "fresh", "()LSwordAttic$Night;"⟩
abbrev cX7_behind : ByteArray := prog_9_method_3_code
def yX7_behind : MethodName := ⟨RX7, "behind", "(LSwordAttic$Shelf;I)LSwordAttic$Night;"⟩
abbrev cX7_firstCry : ByteArray := prog_9_method_4_code
def yX7_firstCry : MethodName := ⟨RX7, "firstCry", "(LSwordAttic$Shelf;II)I"⟩
abbrev cX7_firstSilence : ByteArray := prog_9_method_5_code
def yX7_firstSilence : MethodName := ⟨RX7, "firstSilence", "(LSwordAttic$Shelf;)I"⟩
abbrev cX7_planRound : ByteArray := prog_9_method_6_code
def yX7_planRound : MethodName := ⟨RX7, "planRound", "(I)V"⟩
abbrev cX7_forgetBest : ByteArray := prog_9_method_7_code
def yX7_forgetBest : MethodName := ⟨RX7, "forgetBest", "()V"⟩
abbrev cX7_plan : ByteArray := prog_9_method_8_code
def yX7_plan : MethodName := ⟨RX7, "plan", "(II)V"⟩
abbrev cX7_isBetter : ByteArray := prog_9_method_9_code
def yX7_isBetter : MethodName := ⟨RX7, "isBetter", "(LSwordAttic$Night;)Z"⟩
abbrev cX7_stepsByAll : ByteArray := prog_9_method_10_code
def yX7_stepsByAll : MethodName := ⟨RX7, "stepsByAll", "()I"⟩
abbrev cX7_leastSteps : ByteArray := prog_9_method_11_code
def yX7_leastSteps : MethodName := ⟨RX7, "leastSteps", "(III)I"⟩
abbrev cX7_leastOf : ByteArray := prog_9_method_12_code
def yX7_leastOf : MethodName := ⟨RX7, "leastOf", "(II)I"⟩
abbrev cX7_judged : ByteArray := prog_9_method_13_code
def yX7_judged : MethodName := ⟨RX7, "judged", "(LSwordAttic$Shelf;LSwordAttic$Shelf;I)I"⟩
abbrev cX7_firstWrong : ByteArray := prog_9_method_14_code
def yX7_firstWrong : MethodName := ⟨RX7, "firstWrong", "(LSwordAttic$Night;LSwordAttic$Shelf;LSwordAttic$Shelf;I)I"⟩
abbrev cX7_fit : ByteArray := prog_9_method_15_code
def yX7_fit : MethodName := ⟨RX7, "fit", "(LSwordAttic$Shelf;LSwordAttic$Shelf;II)V"⟩
abbrev cX7_deal : ByteArray := prog_9_method_16_code
def yX7_deal : MethodName := ⟨RX7, "deal", "()V"⟩
abbrev cX7_playTurns : ByteArray := prog_9_method_17_code
def yX7_playTurns : MethodName := ⟨RX7, "playTurns", "(I)I"⟩
abbrev cX7_outcome : ByteArray := prog_9_method_18_code
def yX7_outcome : MethodName := ⟨RX7, "outcome", "(II)I"⟩
abbrev cX7_outcomeOf : ByteArray := prog_9_method_19_code
def yX7_outcomeOf : MethodName := ⟨RX7, "outcomeOf", "(III)I"⟩
abbrev cX7_drawNights : ByteArray := prog_9_method_20_code
def yX7_drawNights : MethodName := ⟨RX7, "drawNights", "(IIIII)I"⟩
def RX8 : String := "SwordAttic"
def TX8 : u_T := fun k => match k with
  | 0 => ("SwordAttic", "now", "LSwordAttic$Night;", true)
  | 1 => ("SwordAttic", "law", "LSwordAttic$Law;", true)
  | 2 => ("SwordAttic", "tape", "LSwordAttic$Tape;", true)
  | 3 => ("SwordAttic", "thought", "LSwordAttic$Thought;", true)
  | 4 => ("SwordAttic", "changes", "LSwordAttic$Changes;", true)
  | 5 => ("SwordAttic", "deeds", "LSwordAttic$Deeds;", true)
  | 6 => ("SwordAttic", "blades", "LSwordAttic$Blades;", true)
  | _ => ("SwordAttic", "shelves", "[LSwordAttic$Shelf;", true)
def tyX8 : Nat → FieldType := fun k => match k with
  | 0 => .object "SwordAttic$Night"
  | 1 => .object "SwordAttic$Law"
  | 2 => .object "SwordAttic$Tape"
  | 3 => .object "SwordAttic$Thought"
  | 4 => .object "SwordAttic$Changes"
  | 5 => .object "SwordAttic$Deeds"
  | 6 => .object "SwordAttic$Blades"
  | _ => .array (.object "SwordAttic$Shelf")
abbrev wsX80 : List Cond := u_ws RX8 TX8 8
theorem nmX8 : ∀ a, a < 8 → ∀ b, b < 8 → a ≠ b → (TX8 a).2.1 ≠ (TX8 b).2.1 := by decide +kernel
theorem tyX8_ok : ∀ k, k < 8 → parseFieldDescriptor (TX8 k).2.2.1 = some (tyX8 k) := by decide +kernel
abbrev cX8_init : ByteArray := prog_1_method_1_code
def yX8_init : MethodName := ⟨RX8, "<init>", "()V"⟩
abbrev cX8_sword : ByteArray := prog_1_method_2_code
def yX8_sword : MethodName := ⟨RX8, "sword", "(II)I"⟩
abbrev cX8_swords : ByteArray := prog_1_method_3_code
def yX8_swords : MethodName := ⟨RX8, "swords", "(III)I"⟩
abbrev cX8_mend : ByteArray := prog_1_method_4_code
def yX8_mend : MethodName := ⟨RX8, "mend", "(III)I"⟩
abbrev cX8_of : ByteArray := prog_1_method_5_code
def yX8_of : MethodName := ⟨RX8, "of", "(II)I"⟩
abbrev cX8_feed : ByteArray := prog_1_method_6_code
def yX8_feed : MethodName := ⟨RX8, "feed", "(I)I"⟩
abbrev cX8_law : ByteArray := prog_1_method_7_code
def yX8_law : MethodName := ⟨RX8, "law", "()I"⟩
abbrev cX8_grows : ByteArray := prog_1_method_8_code
def yX8_grows : MethodName := ⟨RX8, "grows", "(I)I"⟩
abbrev cX8_later : ByteArray := prog_1_method_9_code
def yX8_later : MethodName := ⟨RX8, "later", "(III)I"⟩
abbrev cX8_awake : ByteArray := prog_1_method_10_code
def yX8_awake : MethodName := ⟨RX8, "awake", "(III)I"⟩
abbrev cX8_cries : ByteArray := prog_1_method_11_code
def yX8_cries : MethodName := ⟨RX8, "cries", "(III)I"⟩
abbrev cX8_asleep : ByteArray := prog_1_method_12_code
def yX8_asleep : MethodName := ⟨RX8, "asleep", "(I)I"⟩
abbrev cX8_bestRound : ByteArray := prog_1_method_13_code
def yX8_bestRound : MethodName := ⟨RX8, "bestRound", "(II)I"⟩
abbrev cX8_told : ByteArray := prog_1_method_14_code
def yX8_told : MethodName := ⟨RX8, "told", "(I)I"⟩
abbrev cX8_woken : ByteArray := prog_1_method_15_code
def yX8_woken : MethodName := ⟨RX8, "woken", "(II)I"⟩
abbrev cX8_walk : ByteArray := prog_1_method_16_code
def yX8_walk : MethodName := ⟨RX8, "walk", "(I)I"⟩
abbrev cX8_judge : ByteArray := prog_1_method_17_code
def yX8_judge : MethodName := ⟨RX8, "judge", "(II)I"⟩
abbrev cX8_fits : ByteArray := prog_1_method_18_code
def yX8_fits : MethodName := ⟨RX8, "fits", "(III)I"⟩
abbrev cX8_dealt : ByteArray := prog_1_method_19_code
def yX8_dealt : MethodName := ⟨RX8, "dealt", "(I)I"⟩
abbrev cX8_lines : ByteArray := prog_1_method_20_code
def yX8_lines : MethodName := ⟨RX8, "lines", "(I)I"⟩
abbrev cX8_byTurns : ByteArray := prog_1_method_21_code
def yX8_byTurns : MethodName := ⟨RX8, "byTurns", "(II)I"⟩
abbrev cX8_drawn : ByteArray := prog_1_method_22_code
def yX8_drawn : MethodName := ⟨RX8, "drawn", "(III)I"⟩
abbrev cX8_hour : ByteArray := prog_1_method_23_code
def yX8_hour : MethodName := ⟨RX8, "hour", "(I)I"⟩
abbrev cX8_telling : ByteArray := prog_1_method_24_code
def yX8_telling : MethodName := ⟨RX8, "telling", "(II)I"⟩
abbrev cX8_touch : ByteArray := prog_1_method_25_code
def yX8_touch : MethodName := ⟨RX8, "touch", "(I)I"⟩
abbrev cX8_hold : ByteArray := prog_1_method_26_code
def yX8_hold : MethodName := ⟨RX8, "hold", "(II)I"⟩
abbrev cX8_led : ByteArray := prog_1_method_27_code
def yX8_led : MethodName := ⟨RX8, "led", "(I)I"⟩
abbrev cX8_image : ByteArray := prog_1_method_28_code
def yX8_image : MethodName := ⟨RX8, "image", "()I"⟩
abbrev cX8_back : ByteArray := prog_1_method_29_code
def yX8_back : MethodName := ⟨RX8, "back", "()I"⟩
abbrev cX8_undo : ByteArray := prog_1_method_30_code
def yX8_undo : MethodName := ⟨RX8, "undo", "()I"⟩
abbrev cX8_redo : ByteArray := prog_1_method_31_code
def yX8_redo : MethodName := ⟨RX8, "redo", "()I"⟩
abbrev cX8_body : ByteArray := prog_1_method_32_code
def yX8_body : MethodName := ⟨RX8, "body", "(I)I"⟩
abbrev cX8_act : ByteArray := prog_1_method_33_code
def yX8_act : MethodName := ⟨RX8, "act", "(III)I"⟩
abbrev cX8_trace : ByteArray := prog_1_method_34_code
def yX8_trace : MethodName := ⟨RX8, "trace", "(I)I"⟩
abbrev cX8_keep : ByteArray := prog_1_method_35_code
def yX8_keep : MethodName := ⟨RX8, "keep", "(II)I"⟩
abbrev cX8_row : ByteArray := prog_1_method_36_code
def yX8_row : MethodName := ⟨RX8, "row", "(III)I"⟩
abbrev cX8_put : ByteArray := prog_1_method_37_code
def yX8_put : MethodName := ⟨RX8, "put", "(IIJ)I"⟩
abbrev cX8_element : ByteArray := prog_1_method_38_code
def yX8_element : MethodName := ⟨RX8, "element", "(II)J"⟩
abbrev cX8_shift : ByteArray := prog_1_method_39_code
def yX8_shift : MethodName := ⟨RX8, "shift", "(IIIII)I"⟩
abbrev cX8_taken : ByteArray := prog_1_method_40_code
def yX8_taken : MethodName := ⟨RX8, "taken", "(II)I"⟩
abbrev cX8_count : ByteArray := prog_1_method_41_code
def yX8_count : MethodName := ⟨RX8, "count", "(I)I"⟩
abbrev cX8_within : ByteArray := prog_1_method_42_code
def yX8_within : MethodName := ⟨RX8, "within", "(III)Z"⟩
abbrev cX8_heldWithin : ByteArray := prog_1_method_43_code
def yX8_heldWithin : MethodName := ⟨RX8, "heldWithin", "(III)I"⟩
abbrev cX8_isCot : ByteArray := prog_1_method_44_code
def yX8_isCot : MethodName := ⟨RX8, "isCot", "(I)Z"⟩
abbrev cX8_steps : ByteArray := prog_1_method_45_code
def yX8_steps : MethodName := ⟨RX8, "steps", "(II)I"⟩
abbrev cX8_isShelf : ByteArray := prog_1_method_46_code
def yX8_isShelf : MethodName := ⟨RX8, "isShelf", "(I)Z"⟩
abbrev cX8_areShelves : ByteArray := prog_1_method_47_code
def yX8_areShelves : MethodName := ⟨RX8, "areShelves", "(I)Z"⟩
abbrev cX8_isSword : ByteArray := prog_1_method_48_code
def yX8_isSword : MethodName := ⟨RX8, "isSword", "(I)Z"⟩
abbrev cX8_isMendable : ByteArray := prog_1_method_49_code
def yX8_isMendable : MethodName := ⟨RX8, "isMendable", "(II)Z"⟩
abbrev cX8_refusalOfBytes : ByteArray := prog_1_method_50_code
def yX8_refusalOfBytes : MethodName := ⟨RX8, "refusalOfBytes", "(LSwordAttic$Shelf;)I"⟩
abbrev cX8_refusalOfBoth : ByteArray := prog_1_method_51_code
def yX8_refusalOfBoth : MethodName := ⟨RX8, "refusalOfBoth", "(I)I"⟩
abbrev cX8_refusalOfElement : ByteArray := prog_1_method_52_code
def yX8_refusalOfElement : MethodName := ⟨RX8, "refusalOfElement", "(II)I"⟩
def RX9 : String := "SwordAtticModel"
def TX9 : u_T := fun k => match k with
  | 0 => ("SwordAtticModel", "may", "[I", true)
  | 1 => ("SwordAtticModel", "changeAt", "[I", true)
  | 2 => ("SwordAtticModel", "changeWas", "[I", true)
  | 3 => ("SwordAtticModel", "changeIs", "[I", true)
  | 4 => ("SwordAtticModel", "keptMany", "I", false)
  | 5 => ("SwordAtticModel", "done", "I", false)
  | 6 => ("SwordAtticModel", "swords", "I", false)
  | 7 => ("SwordAtticModel", "tape", "[I", true)
  | 8 => ("SwordAtticModel", "tapeMany", "I", false)
  | 9 => ("SwordAtticModel", "text", "[I", true)
  | 10 => ("SwordAtticModel", "textMany", "I", false)
  | 11 => ("SwordAtticModel", "base", "I", false)
  | 12 => ("SwordAtticModel", "at", "I", false)
  | 13 => ("SwordAtticModel", "ends", "I", false)
  | 14 => ("SwordAtticModel", "fault", "I", false)
  | 15 => ("SwordAtticModel", "opened", "I", false)
  | 16 => ("SwordAtticModel", "names", "[I", true)
  | 17 => ("SwordAtticModel", "lies", "[I", true)
  | 18 => ("SwordAtticModel", "mind", "[I", true)
  | 19 => ("SwordAtticModel", "hourThen", "I", false)
  | 20 => ("SwordAtticModel", "candle", "I", false)
  | 21 => ("SwordAtticModel", "more", "[I", true)
  | 22 => ("SwordAtticModel", "touches", "[I", true)
  | 23 => ("SwordAtticModel", "tried", "[I", true)
  | 24 => ("SwordAtticModel", "bestCots", "[I", true)
  | 25 => ("SwordAtticModel", "fewestAwake", "I", false)
  | 26 => ("SwordAtticModel", "leastMind", "I", false)
  | 27 => ("SwordAtticModel", "ledNow", "[I", true)
  | 28 => ("SwordAtticModel", "isKept", "Z", false)
  | 29 => ("SwordAtticModel", "imageMany", "I", false)
  | 30 => ("SwordAtticModel", "imageMay", "[I", true)
  | 31 => ("SwordAtticModel", "imageLed", "[I", true)
  | 32 => ("SwordAtticModel", "bodies", "I", false)
  | 33 => ("SwordAtticModel", "bodyKind", "[I", true)
  | 34 => ("SwordAtticModel", "trace", "[I", true)
  | 35 => ("SwordAtticModel", "ran", "I", false)
  | 36 => ("SwordAtticModel", "ownKind", "I", false)
  | 37 => ("SwordAtticModel", "ownNumber", "I", false)
  | 38 => ("SwordAtticModel", "shelf", "[I", true)
  | 39 => ("SwordAtticModel", "many", "[I", true)
  | 40 => ("SwordAtticModel", "items", "[J", true)
  | _ => ("SwordAtticModel", "carried", "[J", true)
def tyX9 : Nat → FieldType := fun k => match k with
  | 0 => .array .int
  | 1 => .array .int
  | 2 => .array .int
  | 3 => .array .int
  | 4 => .int
  | 5 => .int
  | 6 => .int
  | 7 => .array .int
  | 8 => .int
  | 9 => .array .int
  | 10 => .int
  | 11 => .int
  | 12 => .int
  | 13 => .int
  | 14 => .int
  | 15 => .int
  | 16 => .array .int
  | 17 => .array .int
  | 18 => .array .int
  | 19 => .int
  | 20 => .int
  | 21 => .array .int
  | 22 => .array .int
  | 23 => .array .int
  | 24 => .array .int
  | 25 => .int
  | 26 => .int
  | 27 => .array .int
  | 28 => .boolean
  | 29 => .int
  | 30 => .array .int
  | 31 => .array .int
  | 32 => .int
  | 33 => .array .int
  | 34 => .array .int
  | 35 => .int
  | 36 => .int
  | 37 => .int
  | 38 => .array .int
  | 39 => .array .int
  | 40 => .array .long
  | _ => .array .long
abbrev wsX90 : List Cond := u_ws RX9 TX9 42
theorem nmX9 : ∀ a, a < 42 → ∀ b, b < 42 → a ≠ b → (TX9 a).2.1 ≠ (TX9 b).2.1 := by decide +kernel
theorem tyX9_ok : ∀ k, k < 42 → parseFieldDescriptor (TX9 k).2.2.1 = some (tyX9 k) := by decide +kernel
abbrev cX9_within : ByteArray := prog_11_method_1_code
def yX9_within : MethodName := ⟨RX9, "within", "(JJJ)Z"⟩
abbrev cX9_isIn : ByteArray := prog_11_method_2_code
def yX9_isIn : MethodName := ⟨RX9, "isIn", "(II)Z"⟩
abbrev cX9_bitsOf : ByteArray := prog_11_method_3_code
def yX9_bitsOf : MethodName := ⟨RX9, "bitsOf", "(I)I"⟩
abbrev cX9_sizeOf : ByteArray := prog_11_method_4_code
def yX9_sizeOf : MethodName := ⟨RX9, "sizeOf", "(I)I"⟩
abbrev cX9_init : ByteArray := prog_11_method_5_code
def yX9_init : MethodName := ⟨RX9, "<init>", "()V"⟩
abbrev cX9_becomes : ByteArray := prog_11_method_6_code
def yX9_becomes : MethodName := ⟨RX9, "becomes", "(II)I"⟩
abbrev cX9_turns : ByteArray := prog_11_method_7_code
def yX9_turns : MethodName := ⟨RX9, "turns", "(II)V"⟩
abbrev cX9_undo : ByteArray := prog_11_method_8_code
def yX9_undo : MethodName := ⟨RX9, "undo", "()I"⟩
abbrev cX9_redo : ByteArray := prog_11_method_9_code
def yX9_redo : MethodName := ⟨RX9, "redo", "()I"⟩
abbrev cX9_isSword : ByteArray := prog_11_method_10_code
def yX9_isSword : MethodName := ⟨RX9, "isSword", "(J)Z"⟩
abbrev cX9_isCot : ByteArray := prog_11_method_11_code
def yX9_isCot : MethodName := ⟨RX9, "isCot", "(J)Z"⟩
abbrev cX9_inCot : ByteArray := prog_11_method_12_code
def yX9_inCot : MethodName := ⟨RX9, "inCot", "(I)I"⟩
abbrev cX9_mayCome : ByteArray := prog_11_method_13_code
def yX9_mayCome : MethodName := ⟨RX9, "mayCome", "(JJJ)Z"⟩
abbrev cX9_adds : ByteArray := prog_11_method_14_code
def yX9_adds : MethodName := ⟨RX9, "adds", "(III)V"⟩
abbrev cX9_sword : ByteArray := prog_11_method_15_code
def yX9_sword : MethodName := ⟨RX9, "sword", "(II)I"⟩
abbrev cX9_swords : ByteArray := prog_11_method_16_code
def yX9_swords : MethodName := ⟨RX9, "swords", "(III)I"⟩
abbrev cX9_placeOf : ByteArray := prog_11_method_17_code
def yX9_placeOf : MethodName := ⟨RX9, "placeOf", "(II)I"⟩
abbrev cX9_mayBecome : ByteArray := prog_11_method_18_code
def yX9_mayBecome : MethodName := ⟨RX9, "mayBecome", "(III)Z"⟩
abbrev cX9_mend : ByteArray := prog_11_method_19_code
def yX9_mend : MethodName := ⟨RX9, "mend", "(III)I"⟩
abbrev cX9_of : ByteArray := prog_11_method_20_code
def yX9_of : MethodName := ⟨RX9, "of", "(II)I"⟩
abbrev cX9_feed : ByteArray := prog_11_method_21_code
def yX9_feed : MethodName := ⟨RX9, "feed", "(I)I"⟩
abbrev cX9_byteAt : ByteArray := prog_11_method_22_code
def yX9_byteAt : MethodName := ⟨RX9, "byteAt", "()I"⟩
abbrev cX9_wrong : ByteArray := prog_11_method_23_code
def yX9_wrong : MethodName := ⟨RX9, "wrong", "()I"⟩
abbrev cX9_takes : ByteArray := prog_11_method_24_code
def yX9_takes : MethodName := ⟨RX9, "takes", "(I)Z"⟩
abbrev cX9_either : ByteArray := prog_11_method_25_code
def yX9_either : MethodName := ⟨RX9, "either", "()I"⟩
abbrev cX9_both : ByteArray := prog_11_method_26_code
def yX9_both : MethodName := ⟨RX9, "both", "()I"⟩
abbrev cX9_compared : ByteArray := prog_11_method_27_code
def yX9_compared : MethodName := ⟨RX9, "compared", "()I"⟩
abbrev cX9_sums : ByteArray := prog_11_method_28_code
def yX9_sums : MethodName := ⟨RX9, "sums", "()I"⟩
abbrev cX9_product : ByteArray := prog_11_method_29_code
def yX9_product : MethodName := ⟨RX9, "product", "()I"⟩
abbrev cX9_nameOf : ByteArray := prog_11_method_30_code
def yX9_nameOf : MethodName := ⟨RX9, "nameOf", "(I)I"⟩
abbrev cX9_one : ByteArray := prog_11_method_31_code
def yX9_one : MethodName := ⟨RX9, "one", "()I"⟩
abbrev cX9_workOut : ByteArray := prog_11_method_32_code
def yX9_workOut : MethodName := ⟨RX9, "workOut", "(II)I"⟩
abbrev cX9_law : ByteArray := prog_11_method_33_code
def yX9_law : MethodName := ⟨RX9, "law", "()I"⟩
abbrev cX9_begins : ByteArray := prog_11_method_34_code
def yX9_begins : MethodName := ⟨RX9, "begins", "()V"⟩
abbrev cX9_isAwake : ByteArray := prog_11_method_35_code
def yX9_isAwake : MethodName := ⟨RX9, "isAwake", "(I)Z"⟩
abbrev cX9_areBeside : ByteArray := prog_11_method_36_code
def yX9_areBeside : MethodName := ⟨RX9, "areBeside", "(II)Z"⟩
abbrev cX9_awakeBeside : ByteArray := prog_11_method_37_code
def yX9_awakeBeside : MethodName := ⟨RX9, "awakeBeside", "(I)I"⟩
abbrev cX9_growsIn : ByteArray := prog_11_method_38_code
def yX9_growsIn : MethodName := ⟨RX9, "growsIn", "(I)I"⟩
abbrev cX9_heldMind : ByteArray := prog_11_method_39_code
def yX9_heldMind : MethodName := ⟨RX9, "heldMind", "(I)I"⟩
abbrev cX9_goesHour : ByteArray := prog_11_method_40_code
def yX9_goesHour : MethodName := ⟨RX9, "goesHour", "()V"⟩
abbrev cX9_awakeSet : ByteArray := prog_11_method_41_code
def yX9_awakeSet : MethodName := ⟨RX9, "awakeSet", "()I"⟩
abbrev cX9_awakeMany : ByteArray := prog_11_method_42_code
def yX9_awakeMany : MethodName := ⟨RX9, "awakeMany", "()I"⟩
abbrev cX9_mindAll : ByteArray := prog_11_method_43_code
def yX9_mindAll : MethodName := ⟨RX9, "mindAll", "()I"⟩
abbrev cX9_grows : ByteArray := prog_11_method_44_code
def yX9_grows : MethodName := ⟨RX9, "grows", "(I)I"⟩
abbrev cX9_isToldAt : ByteArray := prog_11_method_45_code
def yX9_isToldAt : MethodName := ⟨RX9, "isToldAt", "(II)V"⟩
abbrev cX9_touchedMany : ByteArray := prog_11_method_46_code
def yX9_touchedMany : MethodName := ⟨RX9, "touchedMany", "()I"⟩
abbrev cX9_isTouched : ByteArray := prog_11_method_47_code
def yX9_isTouched : MethodName := ⟨RX9, "isTouched", "(I)V"⟩
abbrev cX9_bytesIs : ByteArray := prog_11_method_48_code
def yX9_bytesIs : MethodName := ⟨RX9, "bytesIs", "(I)I"⟩
abbrev cX9_hourMany : ByteArray := prog_11_method_49_code
def yX9_hourMany : MethodName := ⟨RX9, "hourMany", "(I)I"⟩
abbrev cX9_goesNext : ByteArray := prog_11_method_50_code
def yX9_goesNext : MethodName := ⟨RX9, "goesNext", "(II)V"⟩
abbrev cX9_goesRound : ByteArray := prog_11_method_51_code
def yX9_goesRound : MethodName := ⟨RX9, "goesRound", "(II)V"⟩
abbrev cX9_later : ByteArray := prog_11_method_52_code
def yX9_later : MethodName := ⟨RX9, "later", "(III)I"⟩
abbrev cX9_awake : ByteArray := prog_11_method_53_code
def yX9_awake : MethodName := ⟨RX9, "awake", "(III)I"⟩
abbrev cX9_cries : ByteArray := prog_11_method_54_code
def yX9_cries : MethodName := ⟨RX9, "cries", "(III)I"⟩
abbrev cX9_asleep : ByteArray := prog_11_method_55_code
def yX9_asleep : MethodName := ⟨RX9, "asleep", "(I)I"⟩
abbrev cX9_triesRound : ByteArray := prog_11_method_56_code
def yX9_triesRound : MethodName := ⟨RX9, "triesRound", "(II)V"⟩
abbrev cX9_bestRound : ByteArray := prog_11_method_57_code
def yX9_bestRound : MethodName := ⟨RX9, "bestRound", "(II)I"⟩
abbrev cX9_told : ByteArray := prog_11_method_58_code
def yX9_told : MethodName := ⟨RX9, "told", "(I)I"⟩
abbrev cX9_woken : ByteArray := prog_11_method_59_code
def yX9_woken : MethodName := ⟨RX9, "woken", "(II)I"⟩
abbrev cX9_stepsTo : ByteArray := prog_11_method_60_code
def yX9_stepsTo : MethodName := ⟨RX9, "stepsTo", "(II)I"⟩
abbrev cX9_stepsBy : ByteArray := prog_11_method_61_code
def yX9_stepsBy : MethodName := ⟨RX9, "stepsBy", "(II)I"⟩
abbrev cX9_walk : ByteArray := prog_11_method_62_code
def yX9_walk : MethodName := ⟨RX9, "walk", "(I)I"⟩
abbrev cX9_rowsAre : ByteArray := prog_11_method_63_code
def yX9_rowsAre : MethodName := ⟨RX9, "rowsAre", "(I)I"⟩
abbrev cX9_firstFalse : ByteArray := prog_11_method_64_code
def yX9_firstFalse : MethodName := ⟨RX9, "firstFalse", "(II)I"⟩
abbrev cX9_judge : ByteArray := prog_11_method_65_code
def yX9_judge : MethodName := ⟨RX9, "judge", "(II)I"⟩
abbrev cX9_fits : ByteArray := prog_11_method_66_code
def yX9_fits : MethodName := ⟨RX9, "fits", "(III)I"⟩
abbrev cX9_dealt : ByteArray := prog_11_method_67_code
def yX9_dealt : MethodName := ⟨RX9, "dealt", "(I)I"⟩
abbrev cX9_lines : ByteArray := prog_11_method_68_code
def yX9_lines : MethodName := ⟨RX9, "lines", "(I)I"⟩
abbrev cX9_playsFrom : ByteArray := prog_11_method_69_code
def yX9_playsFrom : MethodName := ⟨RX9, "playsFrom", "(II)I"⟩
abbrev cX9_byTurns : ByteArray := prog_11_method_70_code
def yX9_byTurns : MethodName := ⟨RX9, "byTurns", "(II)I"⟩
abbrev cX9_drawn : ByteArray := prog_11_method_71_code
def yX9_drawn : MethodName := ⟨RX9, "drawn", "(III)I"⟩
abbrev cX9_keepsMind : ByteArray := prog_11_method_72_code
def yX9_keepsMind : MethodName := ⟨RX9, "keepsMind", "()V"⟩
abbrev cX9_hour : ByteArray := prog_11_method_73_code
def yX9_hour : MethodName := ⟨RX9, "hour", "(I)I"⟩
abbrev cX9_telling : ByteArray := prog_11_method_74_code
def yX9_telling : MethodName := ⟨RX9, "telling", "(II)I"⟩
abbrev cX9_touch : ByteArray := prog_11_method_75_code
def yX9_touch : MethodName := ⟨RX9, "touch", "(I)I"⟩
abbrev cX9_hold : ByteArray := prog_11_method_76_code
def yX9_hold : MethodName := ⟨RX9, "hold", "(II)I"⟩
abbrev cX9_led : ByteArray := prog_11_method_77_code
def yX9_led : MethodName := ⟨RX9, "led", "(I)I"⟩
abbrev cX9_image : ByteArray := prog_11_method_78_code
def yX9_image : MethodName := ⟨RX9, "image", "()I"⟩
abbrev cX9_back : ByteArray := prog_11_method_79_code
def yX9_back : MethodName := ⟨RX9, "back", "()I"⟩
abbrev cX9_manyAwake : ByteArray := prog_11_method_80_code
def yX9_manyAwake : MethodName := ⟨RX9, "manyAwake", "()I"⟩
abbrev cX9_isBody : ByteArray := prog_11_method_81_code
def yX9_isBody : MethodName := ⟨RX9, "isBody", "(I)Z"⟩
abbrev cX9_kindOf : ByteArray := prog_11_method_82_code
def yX9_kindOf : MethodName := ⟨RX9, "kindOf", "(I)I"⟩
abbrev cX9_body : ByteArray := prog_11_method_83_code
def yX9_body : MethodName := ⟨RX9, "body", "(I)I"⟩
abbrev cX9_above : ByteArray := prog_11_method_84_code
def yX9_above : MethodName := ⟨RX9, "above", "(I)I"⟩
abbrev cX9_runs : ByteArray := prog_11_method_85_code
def yX9_runs : MethodName := ⟨RX9, "runs", "(I)V"⟩
abbrev cX9_wakesAs : ByteArray := prog_11_method_86_code
def yX9_wakesAs : MethodName := ⟨RX9, "wakesAs", "(II)I"⟩
abbrev cX9_hushesAs : ByteArray := prog_11_method_87_code
def yX9_hushesAs : MethodName := ⟨RX9, "hushesAs", "(II)I"⟩
abbrev cX9_criesAs : ByteArray := prog_11_method_88_code
def yX9_criesAs : MethodName := ⟨RX9, "criesAs", "(II)I"⟩
abbrev cX9_tellsAs : ByteArray := prog_11_method_89_code
def yX9_tellsAs : MethodName := ⟨RX9, "tellsAs", "(II)I"⟩
abbrev cX9_act : ByteArray := prog_11_method_90_code
def yX9_act : MethodName := ⟨RX9, "act", "(III)I"⟩
abbrev cX9_trace : ByteArray := prog_11_method_91_code
def yX9_trace : MethodName := ⟨RX9, "trace", "(I)I"⟩
abbrev cX9_isShelf : ByteArray := prog_11_method_92_code
def yX9_isShelf : MethodName := ⟨RX9, "isShelf", "(I)Z"⟩
abbrev cX9_keep : ByteArray := prog_11_method_93_code
def yX9_keep : MethodName := ⟨RX9, "keep", "(II)I"⟩
abbrev cX9_row : ByteArray := prog_11_method_94_code
def yX9_row : MethodName := ⟨RX9, "row", "(III)I"⟩
abbrev cX9_refusal : ByteArray := prog_11_method_95_code
def yX9_refusal : MethodName := ⟨RX9, "refusal", "(II)I"⟩
abbrev cX9_asSort : ByteArray := prog_11_method_96_code
def yX9_asSort : MethodName := ⟨RX9, "asSort", "(IJ)J"⟩
abbrev cX9_put : ByteArray := prog_11_method_97_code
def yX9_put : MethodName := ⟨RX9, "put", "(IIJ)I"⟩
abbrev cX9_element : ByteArray := prog_11_method_98_code
def yX9_element : MethodName := ⟨RX9, "element", "(II)J"⟩
abbrev cX9_shift : ByteArray := prog_11_method_99_code
def yX9_shift : MethodName := ⟨RX9, "shift", "(IIIII)I"⟩
abbrev cX9_taken : ByteArray := prog_11_method_100_code
def yX9_taken : MethodName := ⟨RX9, "taken", "(II)I"⟩
abbrev cX9_count : ByteArray := prog_11_method_101_code
def yX9_count : MethodName := ⟨RX9, "count", "(I)I"⟩
def RJ6 : String := "java/lang/Integer"
def TJ6 : u_T := fun k => match k with
  | _ => ("", "", "", false)
abbrev cJ6_bitCount_0f7a4 : ByteArray := prog_12_method_49_code
def yJ6_bitCount_0f7a4 : MethodName := ⟨RJ6, "bitCount", "(I)I"⟩
def RJ9 : String := "java/lang/Math"
def TJ9 : u_T := fun k => match k with
  | _ => ("", "", "", false)
abbrev cJ9_abs_0f7a4 : ByteArray := prog_13_method_59_code
def yJ9_abs_0f7a4 : MethodName := ⟨RJ9, "abs", "(I)I"⟩
abbrev cJ9_max_7cf53 : ByteArray := prog_13_method_65_code
def yJ9_max_7cf53 : MethodName := ⟨RJ9, "max", "(II)I"⟩
abbrev cJ9_min_7cf53 : ByteArray := prog_13_method_69_code
def yJ9_min_7cf53 : MethodName := ⟨RJ9, "min", "(II)I"⟩
def RJ10 : String := "java/lang/System"
def TJ10 : u_T := fun k => match k with
  | _ => ("", "", "", false)
def RL : String := "SwordAtticLaw"
abbrev cL_law : ByteArray := code
def yL_law : MethodName := ⟨RL, "law", "([I)Z"⟩
end
section
theorem dX0_init_0 : decode cX0_init 0 = .ok (.aload_n 0, 1) := by decide +kernel
theorem dX0_init_1 : decode cX0_init 1 = .ok (.invokespecial 1, 3) := by decide +kernel
theorem dX0_init_4 : decode cX0_init 4 = .ok (.aload_n 0, 1) := by decide +kernel
theorem dX0_init_5 : decode cX0_init 5 = .ok (.iconst 0, 1) := by decide +kernel
theorem dX0_init_6 : decode cX0_init 6 = .ok (.putfield 7, 3) := by decide +kernel
theorem dX0_init_9 : decode cX0_init 9 = .ok (.aload_n 0, 1) := by decide +kernel
theorem dX0_init_10 : decode cX0_init 10 = .ok (.iconst 0, 1) := by decide +kernel
theorem dX0_init_11 : decode cX0_init 11 = .ok (.putfield 13, 3) := by decide +kernel
theorem dX0_init_14 : decode cX0_init 14 = .ok (.aload_n 0, 1) := by decide +kernel
theorem dX0_init_15 : decode cX0_init 15 = .ok (.bipush 50, 2) := by decide +kernel
theorem dX0_init_17 : decode cX0_init 17 = .ok (.newarray .int, 2) := by decide +kernel
theorem dX0_init_19 : decode cX0_init 19 = .ok (.putfield 16, 3) := by decide +kernel
theorem dX0_init_22 : decode cX0_init 22 = .ok (.aload_n 0, 1) := by decide +kernel
theorem dX0_init_23 : decode cX0_init 23 = .ok (.bipush 24, 2) := by decide +kernel
theorem dX0_init_25 : decode cX0_init 25 = .ok (.newarray .int, 2) := by decide +kernel
theorem dX0_init_27 : decode cX0_init 27 = .ok (.putfield 20, 3) := by decide +kernel
theorem dX0_init_30 : decode cX0_init 30 = .ok (.aload_n 0, 1) := by decide +kernel
theorem dX0_init_31 : decode cX0_init 31 = .ok (.iconst 0, 1) := by decide +kernel
theorem dX0_init_32 : decode cX0_init 32 = .ok (.putfield 23, 3) := by decide +kernel
theorem dX0_init_35 : decode cX0_init 35 = .ok (.return_, 1) := by decide +kernel
theorem dX0_add_0 : decode cX0_add 0 = .ok (.aload_n 0, 1) := by decide +kernel
theorem dX0_add_1 : decode cX0_add 1 = .ok (.getfield 16, 3) := by decide +kernel
theorem dX0_add_4 : decode cX0_add 4 = .ok (.aload_n 0, 1) := by decide +kernel
theorem dX0_add_5 : decode cX0_add 5 = .ok (.getfield 7, 3) := by decide +kernel
theorem dX0_add_8 : decode cX0_add 8 = .ok (.iload_n 1, 1) := by decide +kernel
theorem dX0_add_9 : decode cX0_add 9 = .ok (.iastore, 1) := by decide +kernel
theorem dX0_add_10 : decode cX0_add 10 = .ok (.aload_n 0, 1) := by decide +kernel
theorem dX0_add_11 : decode cX0_add 11 = .ok (.dup, 1) := by decide +kernel
theorem dX0_add_12 : decode cX0_add 12 = .ok (.getfield 7, 3) := by decide +kernel
theorem dX0_add_15 : decode cX0_add 15 = .ok (.dup_x1, 1) := by decide +kernel
theorem dX0_add_16 : decode cX0_add 16 = .ok (.iconst 1, 1) := by decide +kernel
theorem dX0_add_17 : decode cX0_add 17 = .ok (.iadd, 1) := by decide +kernel
theorem dX0_add_18 : decode cX0_add 18 = .ok (.putfield 7, 3) := by decide +kernel
theorem dX0_add_21 : decode cX0_add 21 = .ok (.ireturn, 1) := by decide +kernel
theorem dX0_isUnder_0 : decode cX0_isUnder 0 = .ok (.iload_n 0, 1) := by decide +kernel
theorem dX0_isUnder_1 : decode cX0_isUnder 1 = .ok (.istore_n 2, 1) := by decide +kernel
theorem dX0_isUnder_2 : decode cX0_isUnder 2 = .ok (.iconst 0, 1) := by decide +kernel
theorem dX0_isUnder_3 : decode cX0_isUnder 3 = .ok (.istore_n 3, 1) := by decide +kernel
theorem dX0_isUnder_4 : decode cX0_isUnder 4 = .ok (.iload_n 3, 1) := by decide +kernel
theorem dX0_isUnder_5 : decode cX0_isUnder 5 = .ok (.bipush 8, 2) := by decide +kernel
theorem dX0_isUnder_7 : decode cX0_isUnder 7 = .ok (.if_icmp .ge 26, 3) := by decide +kernel
theorem dX0_isUnder_10 : decode cX0_isUnder 10 = .ok (.iload_n 2, 1) := by decide +kernel
theorem dX0_isUnder_11 : decode cX0_isUnder 11 = .ok (.ifCond .lt 22, 3) := by decide +kernel
theorem dX0_isUnder_14 : decode cX0_isUnder 14 = .ok (.iload_n 2, 1) := by decide +kernel
theorem dX0_isUnder_15 : decode cX0_isUnder 15 = .ok (.iload_n 1, 1) := by decide +kernel
theorem dX0_isUnder_16 : decode cX0_isUnder 16 = .ok (.if_icmp .ne 5, 3) := by decide +kernel
theorem dX0_isUnder_19 : decode cX0_isUnder 19 = .ok (.iconst 1, 1) := by decide +kernel
theorem dX0_isUnder_20 : decode cX0_isUnder 20 = .ok (.ireturn, 1) := by decide +kernel
theorem dX0_isUnder_21 : decode cX0_isUnder 21 = .ok (.getstatic 26, 3) := by decide +kernel
theorem dX0_isUnder_24 : decode cX0_isUnder 24 = .ok (.iload_n 2, 1) := by decide +kernel
theorem dX0_isUnder_25 : decode cX0_isUnder 25 = .ok (.iaload, 1) := by decide +kernel
theorem dX0_isUnder_26 : decode cX0_isUnder 26 = .ok (.istore_n 2, 1) := by decide +kernel
theorem dX0_isUnder_27 : decode cX0_isUnder 27 = .ok (.iinc 3 1, 3) := by decide +kernel
theorem dX0_isUnder_30 : decode cX0_isUnder 30 = .ok (.goto (-26), 3) := by decide +kernel
theorem dX0_isUnder_33 : decode cX0_isUnder 33 = .ok (.iconst 0, 1) := by decide +kernel
theorem dX0_isUnder_34 : decode cX0_isUnder 34 = .ok (.ireturn, 1) := by decide +kernel
theorem dX0_perform_0 : decode cX0_perform 0 = .ok (.aload_n 0, 1) := by decide +kernel
theorem dX0_perform_1 : decode cX0_perform 1 = .ok (.iconst 0, 1) := by decide +kernel
theorem dX0_perform_2 : decode cX0_perform 2 = .ok (.putfield 13, 3) := by decide +kernel
theorem dX0_perform_5 : decode cX0_perform 5 = .ok (.iload_n 1, 1) := by decide +kernel
theorem dX0_perform_6 : decode cX0_perform 6 = .ok (.iconst 0, 1) := by decide +kernel
theorem dX0_perform_7 : decode cX0_perform 7 = .ok (.aload_n 0, 1) := by decide +kernel
theorem dX0_perform_8 : decode cX0_perform 8 = .ok (.getfield 7, 3) := by decide +kernel
theorem dX0_perform_11 : decode cX0_perform 11 = .ok (.iconst 1, 1) := by decide +kernel
theorem dX0_perform_12 : decode cX0_perform 12 = .ok (.isub, 1) := by decide +kernel
theorem dX0_perform_13 : decode cX0_perform 13 = .ok (.invokestatic 29, 3) := by decide +kernel
theorem dX0_perform_16 : decode cX0_perform 16 = .ok (.ifCond .eq 12, 3) := by decide +kernel
theorem dX0_perform_19 : decode cX0_perform 19 = .ok (.iload_n 2, 1) := by decide +kernel
theorem dX0_perform_20 : decode cX0_perform 20 = .ok (.iconst 0, 1) := by decide +kernel
theorem dX0_perform_21 : decode cX0_perform 21 = .ok (.iconst 3, 1) := by decide +kernel
theorem dX0_perform_22 : decode cX0_perform 22 = .ok (.invokestatic 29, 3) := by decide +kernel
theorem dX0_perform_25 : decode cX0_perform 25 = .ok (.ifCond .ne 5, 3) := by decide +kernel
theorem dX0_perform_28 : decode cX0_perform 28 = .ok (.iconst 0, 1) := by decide +kernel
theorem dX0_perform_29 : decode cX0_perform 29 = .ok (.ireturn, 1) := by decide +kernel
theorem dX0_perform_30 : decode cX0_perform 30 = .ok (.aload_n 0, 1) := by decide +kernel
theorem dX0_perform_31 : decode cX0_perform 31 = .ok (.iload_n 1, 1) := by decide +kernel
theorem dX0_perform_32 : decode cX0_perform 32 = .ok (.putfield 23, 3) := by decide +kernel
theorem dX0_perform_35 : decode cX0_perform 35 = .ok (.aload_n 0, 1) := by decide +kernel
theorem dX0_perform_36 : decode cX0_perform 36 = .ok (.aload_n 0, 1) := by decide +kernel
theorem dX0_perform_37 : decode cX0_perform 37 = .ok (.getfield 16, 3) := by decide +kernel
theorem dX0_perform_40 : decode cX0_perform 40 = .ok (.iload_n 1, 1) := by decide +kernel
theorem dX0_perform_41 : decode cX0_perform 41 = .ok (.iaload, 1) := by decide +kernel
theorem dX0_perform_42 : decode cX0_perform 42 = .ok (.iload_n 2, 1) := by decide +kernel
theorem dX0_perform_43 : decode cX0_perform 43 = .ok (.iload_n 3, 1) := by decide +kernel
theorem dX0_perform_44 : decode cX0_perform 44 = .ok (.iconst 0, 1) := by decide +kernel
theorem dX0_perform_45 : decode cX0_perform 45 = .ok (.invokevirtual 35, 3) := by decide +kernel
theorem dX0_perform_48 : decode cX0_perform 48 = .ok (.ireturn, 1) := by decide +kernel
theorem dX0_own_0 : decode cX0_own 0 = .ok (.aload_n 0, 1) := by decide +kernel
theorem dX0_own_1 : decode cX0_own 1 = .ok (.aload_n 0, 1) := by decide +kernel
theorem dX0_own_2 : decode cX0_own 2 = .ok (.getfield 16, 3) := by decide +kernel
theorem dX0_own_5 : decode cX0_own 5 = .ok (.aload_n 0, 1) := by decide +kernel
theorem dX0_own_6 : decode cX0_own 6 = .ok (.getfield 23, 3) := by decide +kernel
theorem dX0_own_9 : decode cX0_own 9 = .ok (.iaload, 1) := by decide +kernel
theorem dX0_own_10 : decode cX0_own 10 = .ok (.iload_n 1, 1) := by decide +kernel
theorem dX0_own_11 : decode cX0_own 11 = .ok (.iload_n 2, 1) := by decide +kernel
theorem dX0_own_12 : decode cX0_own 12 = .ok (.iload_n 3, 1) := by decide +kernel
theorem dX0_own_13 : decode cX0_own 13 = .ok (.invokevirtual 35, 3) := by decide +kernel
theorem dX0_own_16 : decode cX0_own 16 = .ok (.ireturn, 1) := by decide +kernel
theorem dX0_above_0 : decode cX0_above 0 = .ok (.aload_n 0, 1) := by decide +kernel
theorem dX0_above_1 : decode cX0_above 1 = .ok (.getstatic 26, 3) := by decide +kernel
theorem dX0_above_4 : decode cX0_above 4 = .ok (.iload_n 1, 1) := by decide +kernel
theorem dX0_above_5 : decode cX0_above 5 = .ok (.iaload, 1) := by decide +kernel
theorem dX0_above_6 : decode cX0_above 6 = .ok (.iload_n 2, 1) := by decide +kernel
theorem dX0_above_7 : decode cX0_above 7 = .ok (.iload_n 3, 1) := by decide +kernel
theorem dX0_above_8 : decode cX0_above 8 = .ok (.iload 4, 2) := by decide +kernel
theorem dX0_above_10 : decode cX0_above 10 = .ok (.invokevirtual 35, 3) := by decide +kernel
theorem dX0_above_13 : decode cX0_above 13 = .ok (.ireturn, 1) := by decide +kernel
theorem dX0_from_0 : decode cX0_from 0 = .ok (.iload_n 1, 1) := by decide +kernel
theorem dX0_from_1 : decode cX0_from 1 = .ok (.istore 5, 2) := by decide +kernel
theorem dX0_from_3 : decode cX0_from 3 = .ok (.iconst 0, 1) := by decide +kernel
theorem dX0_from_4 : decode cX0_from 4 = .ok (.istore 6, 2) := by decide +kernel
theorem dX0_from_6 : decode cX0_from 6 = .ok (.iload 6, 2) := by decide +kernel
theorem dX0_from_8 : decode cX0_from 8 = .ok (.bipush 8, 2) := by decide +kernel
theorem dX0_from_10 : decode cX0_from 10 = .ok (.if_icmp .ge 62, 3) := by decide +kernel
theorem dX0_from_13 : decode cX0_from 13 = .ok (.iload 5, 2) := by decide +kernel
theorem dX0_from_15 : decode cX0_from 15 = .ok (.ifCond .lt 57, 3) := by decide +kernel
theorem dX0_from_18 : decode cX0_from 18 = .ok (.getstatic 39, 3) := by decide +kernel
theorem dX0_from_21 : decode cX0_from 21 = .ok (.iload 5, 2) := by decide +kernel
theorem dX0_from_23 : decode cX0_from 23 = .ok (.iconst 4, 1) := by decide +kernel
theorem dX0_from_24 : decode cX0_from 24 = .ok (.imul, 1) := by decide +kernel
theorem dX0_from_25 : decode cX0_from 25 = .ok (.iload_n 2, 1) := by decide +kernel
theorem dX0_from_26 : decode cX0_from 26 = .ok (.iadd, 1) := by decide +kernel
theorem dX0_from_27 : decode cX0_from 27 = .ok (.iaload, 1) := by decide +kernel
theorem dX0_from_28 : decode cX0_from 28 = .ok (.istore 7, 2) := by decide +kernel
theorem dX0_from_30 : decode cX0_from 30 = .ok (.iload 7, 2) := by decide +kernel
theorem dX0_from_32 : decode cX0_from 32 = .ok (.ifCond .eq 26, 3) := by decide +kernel
theorem dX0_from_35 : decode cX0_from 35 = .ok (.iload 4, 2) := by decide +kernel
theorem dX0_from_37 : decode cX0_from 37 = .ok (.bipush 40, 2) := by decide +kernel
theorem dX0_from_39 : decode cX0_from 39 = .ok (.if_icmp .ge 17, 3) := by decide +kernel
theorem dX0_from_42 : decode cX0_from 42 = .ok (.aload_n 0, 1) := by decide +kernel
theorem dX0_from_43 : decode cX0_from 43 = .ok (.iload 7, 2) := by decide +kernel
theorem dX0_from_45 : decode cX0_from 45 = .ok (.iload_n 3, 1) := by decide +kernel
theorem dX0_from_46 : decode cX0_from 46 = .ok (.iload 4, 2) := by decide +kernel
theorem dX0_from_48 : decode cX0_from 48 = .ok (.iconst 1, 1) := by decide +kernel
theorem dX0_from_49 : decode cX0_from 49 = .ok (.iadd, 1) := by decide +kernel
theorem dX0_from_50 : decode cX0_from 50 = .ok (.invokevirtual 42, 3) := by decide +kernel
theorem dX0_from_53 : decode cX0_from 53 = .ok (.goto 4, 3) := by decide +kernel
theorem dX0_from_56 : decode cX0_from 56 = .ok (.iconst 0, 1) := by decide +kernel
theorem dX0_from_57 : decode cX0_from 57 = .ok (.ireturn, 1) := by decide +kernel
theorem dX0_from_58 : decode cX0_from 58 = .ok (.getstatic 26, 3) := by decide +kernel
theorem dX0_from_61 : decode cX0_from 61 = .ok (.iload 5, 2) := by decide +kernel
theorem dX0_from_63 : decode cX0_from 63 = .ok (.iaload, 1) := by decide +kernel
theorem dX0_from_64 : decode cX0_from 64 = .ok (.istore 5, 2) := by decide +kernel
theorem dX0_from_66 : decode cX0_from 66 = .ok (.iinc 6 1, 3) := by decide +kernel
theorem dX0_from_69 : decode cX0_from 69 = .ok (.goto (-63), 3) := by decide +kernel
theorem dX0_from_72 : decode cX0_from 72 = .ok (.iconst 0, 1) := by decide +kernel
theorem dX0_from_73 : decode cX0_from 73 = .ok (.ireturn, 1) := by decide +kernel
theorem dX0_run_0 : decode cX0_run 0 = .ok (.aload_n 0, 1) := by decide +kernel
theorem dX0_run_1 : decode cX0_run 1 = .ok (.getfield 13, 3) := by decide +kernel
theorem dX0_run_4 : decode cX0_run 4 = .ok (.bipush 24, 2) := by decide +kernel
theorem dX0_run_6 : decode cX0_run 6 = .ok (.if_icmp .ge 13, 3) := by decide +kernel
theorem dX0_run_9 : decode cX0_run 9 = .ok (.aload_n 0, 1) := by decide +kernel
theorem dX0_run_10 : decode cX0_run 10 = .ok (.getfield 20, 3) := by decide +kernel
theorem dX0_run_13 : decode cX0_run 13 = .ok (.aload_n 0, 1) := by decide +kernel
theorem dX0_run_14 : decode cX0_run 14 = .ok (.getfield 13, 3) := by decide +kernel
theorem dX0_run_17 : decode cX0_run 17 = .ok (.iload_n 1, 1) := by decide +kernel
theorem dX0_run_18 : decode cX0_run 18 = .ok (.iastore, 1) := by decide +kernel
theorem dX0_run_19 : decode cX0_run 19 = .ok (.aload_n 0, 1) := by decide +kernel
theorem dX0_run_20 : decode cX0_run 20 = .ok (.dup, 1) := by decide +kernel
theorem dX0_run_21 : decode cX0_run 21 = .ok (.getfield 13, 3) := by decide +kernel
theorem dX0_run_24 : decode cX0_run 24 = .ok (.iconst 1, 1) := by decide +kernel
theorem dX0_run_25 : decode cX0_run 25 = .ok (.iadd, 1) := by decide +kernel
theorem dX0_run_26 : decode cX0_run 26 = .ok (.putfield 13, 3) := by decide +kernel
theorem dX0_run_29 : decode cX0_run 29 = .ok (.iload_n 1, 1) := by decide +kernel
theorem dX0_run_30 : decode cX0_run 30 = .ok (.lookupswitch 267 #[(1, 114), (2, 121), (10, 137), (11, 147), (20, 154), (30, 165), (40, 175), (41, 186), (50, 197), (60, 214), (70, 225), (80, 237), (81, 255)], 114) := by decide +kernel
theorem dX0_run_144 : decode cX0_run 144 = .ok (.iload_n 2, 1) := by decide +kernel
theorem dX0_run_145 : decode cX0_run 145 = .ok (.aload_n 0, 1) := by decide +kernel
theorem dX0_run_146 : decode cX0_run 146 = .ok (.getfield 23, 3) := by decide +kernel
theorem dX0_run_149 : decode cX0_run 149 = .ok (.iadd, 1) := by decide +kernel
theorem dX0_run_150 : decode cX0_run 150 = .ok (.ireturn, 1) := by decide +kernel
theorem dX0_run_151 : decode cX0_run 151 = .ok (.aload_n 0, 1) := by decide +kernel
theorem dX0_run_152 : decode cX0_run 152 = .ok (.iconst 1, 1) := by decide +kernel
theorem dX0_run_153 : decode cX0_run 153 = .ok (.iload_n 2, 1) := by decide +kernel
theorem dX0_run_154 : decode cX0_run 154 = .ok (.iload_n 3, 1) := by decide +kernel
theorem dX0_run_155 : decode cX0_run 155 = .ok (.invokevirtual 46, 3) := by decide +kernel
theorem dX0_run_158 : decode cX0_run 158 = .ok (.aload_n 0, 1) := by decide +kernel
theorem dX0_run_159 : decode cX0_run 159 = .ok (.iconst 2, 1) := by decide +kernel
theorem dX0_run_160 : decode cX0_run 160 = .ok (.iconst 1, 1) := by decide +kernel
theorem dX0_run_161 : decode cX0_run 161 = .ok (.iload_n 3, 1) := by decide +kernel
theorem dX0_run_162 : decode cX0_run 162 = .ok (.invokevirtual 46, 3) := by decide +kernel
theorem dX0_run_165 : decode cX0_run 165 = .ok (.isub, 1) := by decide +kernel
theorem dX0_run_166 : decode cX0_run 166 = .ok (.ireturn, 1) := by decide +kernel
theorem dX0_run_167 : decode cX0_run 167 = .ok (.aload_n 0, 1) := by decide +kernel
theorem dX0_run_168 : decode cX0_run 168 = .ok (.iconst 0, 1) := by decide +kernel
theorem dX0_run_169 : decode cX0_run 169 = .ok (.iload_n 2, 1) := by decide +kernel
theorem dX0_run_170 : decode cX0_run 170 = .ok (.iload_n 3, 1) := by decide +kernel
theorem dX0_run_171 : decode cX0_run 171 = .ok (.invokevirtual 46, 3) := by decide +kernel
theorem dX0_run_174 : decode cX0_run 174 = .ok (.iconst 2, 1) := by decide +kernel
theorem dX0_run_175 : decode cX0_run 175 = .ok (.imul, 1) := by decide +kernel
theorem dX0_run_176 : decode cX0_run 176 = .ok (.ireturn, 1) := by decide +kernel
theorem dX0_run_177 : decode cX0_run 177 = .ok (.iload_n 2, 1) := by decide +kernel
theorem dX0_run_178 : decode cX0_run 178 = .ok (.aload_n 0, 1) := by decide +kernel
theorem dX0_run_179 : decode cX0_run 179 = .ok (.getfield 23, 3) := by decide +kernel
theorem dX0_run_182 : decode cX0_run 182 = .ok (.ixor, 1) := by decide +kernel
theorem dX0_run_183 : decode cX0_run 183 = .ok (.ireturn, 1) := by decide +kernel
theorem dX0_run_184 : decode cX0_run 184 = .ok (.aload_n 0, 1) := by decide +kernel
theorem dX0_run_185 : decode cX0_run 185 = .ok (.iconst 1, 1) := by decide +kernel
theorem dX0_run_186 : decode cX0_run 186 = .ok (.iconst 0, 1) := by decide +kernel
theorem dX0_run_187 : decode cX0_run 187 = .ok (.iload_n 2, 1) := by decide +kernel
theorem dX0_run_188 : decode cX0_run 188 = .ok (.iload_n 3, 1) := by decide +kernel
theorem dX0_run_189 : decode cX0_run 189 = .ok (.invokevirtual 49, 3) := by decide +kernel
theorem dX0_run_192 : decode cX0_run 192 = .ok (.iconst 3, 1) := by decide +kernel
theorem dX0_run_193 : decode cX0_run 193 = .ok (.iadd, 1) := by decide +kernel
theorem dX0_run_194 : decode cX0_run 194 = .ok (.ireturn, 1) := by decide +kernel
theorem dX0_run_195 : decode cX0_run 195 = .ok (.aload_n 0, 1) := by decide +kernel
theorem dX0_run_196 : decode cX0_run 196 = .ok (.iconst 2, 1) := by decide +kernel
theorem dX0_run_197 : decode cX0_run 197 = .ok (.iconst 1, 1) := by decide +kernel
theorem dX0_run_198 : decode cX0_run 198 = .ok (.iload_n 2, 1) := by decide +kernel
theorem dX0_run_199 : decode cX0_run 199 = .ok (.iload_n 3, 1) := by decide +kernel
theorem dX0_run_200 : decode cX0_run 200 = .ok (.invokevirtual 49, 3) := by decide +kernel
theorem dX0_run_203 : decode cX0_run 203 = .ok (.ineg, 1) := by decide +kernel
theorem dX0_run_204 : decode cX0_run 204 = .ok (.ireturn, 1) := by decide +kernel
theorem dX0_run_205 : decode cX0_run 205 = .ok (.aload_n 0, 1) := by decide +kernel
theorem dX0_run_206 : decode cX0_run 206 = .ok (.iconst 3, 1) := by decide +kernel
theorem dX0_run_207 : decode cX0_run 207 = .ok (.iconst 2, 1) := by decide +kernel
theorem dX0_run_208 : decode cX0_run 208 = .ok (.iload_n 2, 1) := by decide +kernel
theorem dX0_run_209 : decode cX0_run 209 = .ok (.iload_n 3, 1) := by decide +kernel
theorem dX0_run_210 : decode cX0_run 210 = .ok (.invokevirtual 49, 3) := by decide +kernel
theorem dX0_run_213 : decode cX0_run 213 = .ok (.iconst 3, 1) := by decide +kernel
theorem dX0_run_214 : decode cX0_run 214 = .ok (.imul, 1) := by decide +kernel
theorem dX0_run_215 : decode cX0_run 215 = .ok (.ireturn, 1) := by decide +kernel
theorem dX0_run_216 : decode cX0_run 216 = .ok (.aload_n 0, 1) := by decide +kernel
theorem dX0_run_217 : decode cX0_run 217 = .ok (.iconst 3, 1) := by decide +kernel
theorem dX0_run_218 : decode cX0_run 218 = .ok (.iconst 1, 1) := by decide +kernel
theorem dX0_run_219 : decode cX0_run 219 = .ok (.iload_n 2, 1) := by decide +kernel
theorem dX0_run_220 : decode cX0_run 220 = .ok (.iconst 1, 1) := by decide +kernel
theorem dX0_run_221 : decode cX0_run 221 = .ok (.iadd, 1) := by decide +kernel
theorem dX0_run_222 : decode cX0_run 222 = .ok (.iload_n 3, 1) := by decide +kernel
theorem dX0_run_223 : decode cX0_run 223 = .ok (.invokevirtual 49, 3) := by decide +kernel
theorem dX0_run_226 : decode cX0_run 226 = .ok (.ireturn, 1) := by decide +kernel
theorem dX0_run_227 : decode cX0_run 227 = .ok (.aload_n 0, 1) := by decide +kernel
theorem dX0_run_228 : decode cX0_run 228 = .ok (.iconst 4, 1) := by decide +kernel
theorem dX0_run_229 : decode cX0_run 229 = .ok (.iconst 2, 1) := by decide +kernel
theorem dX0_run_230 : decode cX0_run 230 = .ok (.iload_n 2, 1) := by decide +kernel
theorem dX0_run_231 : decode cX0_run 231 = .ok (.iload_n 3, 1) := by decide +kernel
theorem dX0_run_232 : decode cX0_run 232 = .ok (.invokevirtual 49, 3) := by decide +kernel
theorem dX0_run_235 : decode cX0_run 235 = .ok (.aload_n 0, 1) := by decide +kernel
theorem dX0_run_236 : decode cX0_run 236 = .ok (.iconst 0, 1) := by decide +kernel
theorem dX0_run_237 : decode cX0_run 237 = .ok (.iconst 2, 1) := by decide +kernel
theorem dX0_run_238 : decode cX0_run 238 = .ok (.iload_n 3, 1) := by decide +kernel
theorem dX0_run_239 : decode cX0_run 239 = .ok (.invokevirtual 46, 3) := by decide +kernel
theorem dX0_run_242 : decode cX0_run 242 = .ok (.isub, 1) := by decide +kernel
theorem dX0_run_243 : decode cX0_run 243 = .ok (.ireturn, 1) := by decide +kernel
theorem dX0_run_244 : decode cX0_run 244 = .ok (.aload_n 0, 1) := by decide +kernel
theorem dX0_run_245 : decode cX0_run 245 = .ok (.iconst 5, 1) := by decide +kernel
theorem dX0_run_246 : decode cX0_run 246 = .ok (.iconst 3, 1) := by decide +kernel
theorem dX0_run_247 : decode cX0_run 247 = .ok (.iload_n 2, 1) := by decide +kernel
theorem dX0_run_248 : decode cX0_run 248 = .ok (.iload_n 3, 1) := by decide +kernel
theorem dX0_run_249 : decode cX0_run 249 = .ok (.invokevirtual 49, 3) := by decide +kernel
theorem dX0_run_252 : decode cX0_run 252 = .ok (.iconst 5, 1) := by decide +kernel
theorem dX0_run_253 : decode cX0_run 253 = .ok (.ixor, 1) := by decide +kernel
theorem dX0_run_254 : decode cX0_run 254 = .ok (.ireturn, 1) := by decide +kernel
theorem dX0_run_255 : decode cX0_run 255 = .ok (.aload_n 0, 1) := by decide +kernel
theorem dX0_run_256 : decode cX0_run 256 = .ok (.bipush 6, 2) := by decide +kernel
theorem dX0_run_258 : decode cX0_run 258 = .ok (.iconst 0, 1) := by decide +kernel
theorem dX0_run_259 : decode cX0_run 259 = .ok (.iload_n 2, 1) := by decide +kernel
theorem dX0_run_260 : decode cX0_run 260 = .ok (.iload_n 3, 1) := by decide +kernel
theorem dX0_run_261 : decode cX0_run 261 = .ok (.invokevirtual 49, 3) := by decide +kernel
theorem dX0_run_264 : decode cX0_run 264 = .ok (.iconst 2, 1) := by decide +kernel
theorem dX0_run_265 : decode cX0_run 265 = .ok (.imul, 1) := by decide +kernel
theorem dX0_run_266 : decode cX0_run 266 = .ok (.ireturn, 1) := by decide +kernel
theorem dX0_run_267 : decode cX0_run 267 = .ok (.aload_n 0, 1) := by decide +kernel
theorem dX0_run_268 : decode cX0_run 268 = .ok (.bipush 7, 2) := by decide +kernel
theorem dX0_run_270 : decode cX0_run 270 = .ok (.iconst 1, 1) := by decide +kernel
theorem dX0_run_271 : decode cX0_run 271 = .ok (.iload_n 2, 1) := by decide +kernel
theorem dX0_run_272 : decode cX0_run 272 = .ok (.iload_n 3, 1) := by decide +kernel
theorem dX0_run_273 : decode cX0_run 273 = .ok (.invokevirtual 49, 3) := by decide +kernel
theorem dX0_run_276 : decode cX0_run 276 = .ok (.aload_n 0, 1) := by decide +kernel
theorem dX0_run_277 : decode cX0_run 277 = .ok (.iconst 2, 1) := by decide +kernel
theorem dX0_run_278 : decode cX0_run 278 = .ok (.iconst 2, 1) := by decide +kernel
theorem dX0_run_279 : decode cX0_run 279 = .ok (.iload_n 3, 1) := by decide +kernel
theorem dX0_run_280 : decode cX0_run 280 = .ok (.invokevirtual 46, 3) := by decide +kernel
theorem dX0_run_283 : decode cX0_run 283 = .ok (.iadd, 1) := by decide +kernel
theorem dX0_run_284 : decode cX0_run 284 = .ok (.ireturn, 1) := by decide +kernel
theorem dX0_run_285 : decode cX0_run 285 = .ok (.aload_n 0, 1) := by decide +kernel
theorem dX0_run_286 : decode cX0_run 286 = .ok (.bipush 7, 2) := by decide +kernel
theorem dX0_run_288 : decode cX0_run 288 = .ok (.iconst 3, 1) := by decide +kernel
theorem dX0_run_289 : decode cX0_run 289 = .ok (.iload_n 2, 1) := by decide +kernel
theorem dX0_run_290 : decode cX0_run 290 = .ok (.iload_n 3, 1) := by decide +kernel
theorem dX0_run_291 : decode cX0_run 291 = .ok (.invokevirtual 49, 3) := by decide +kernel
theorem dX0_run_294 : decode cX0_run 294 = .ok (.iconst 1, 1) := by decide +kernel
theorem dX0_run_295 : decode cX0_run 295 = .ok (.isub, 1) := by decide +kernel
theorem dX0_run_296 : decode cX0_run 296 = .ok (.ireturn, 1) := by decide +kernel
theorem dX0_run_297 : decode cX0_run 297 = .ok (.iconst 0, 1) := by decide +kernel
theorem dX0_run_298 : decode cX0_run 298 = .ok (.ireturn, 1) := by decide +kernel
theorem dX1_init_0 : decode cX1_init 0 = .ok (.aload_n 0, 1) := by decide +kernel
theorem dX1_init_1 : decode cX1_init 1 = .ok (.invokespecial 3, 3) := by decide +kernel
theorem dX1_init_4 : decode cX1_init 4 = .ok (.aload_n 0, 1) := by decide +kernel
theorem dX1_init_5 : decode cX1_init 5 = .ok (.iconst 0, 1) := by decide +kernel
theorem dX1_init_6 : decode cX1_init 6 = .ok (.putfield 9, 3) := by decide +kernel
theorem dX1_init_9 : decode cX1_init 9 = .ok (.aload_n 0, 1) := by decide +kernel
theorem dX1_init_10 : decode cX1_init 10 = .ok (.iconst 0, 1) := by decide +kernel
theorem dX1_init_11 : decode cX1_init 11 = .ok (.putfield 15, 3) := by decide +kernel
theorem dX1_init_14 : decode cX1_init 14 = .ok (.aload_n 0, 1) := by decide +kernel
theorem dX1_init_15 : decode cX1_init 15 = .ok (.bipush 40, 2) := by decide +kernel
theorem dX1_init_17 : decode cX1_init 17 = .ok (.newarray .int, 2) := by decide +kernel
theorem dX1_init_19 : decode cX1_init 19 = .ok (.putfield 18, 3) := by decide +kernel
theorem dX1_init_22 : decode cX1_init 22 = .ok (.aload_n 0, 1) := by decide +kernel
theorem dX1_init_23 : decode cX1_init 23 = .ok (.bipush 40, 2) := by decide +kernel
theorem dX1_init_25 : decode cX1_init 25 = .ok (.newarray .int, 2) := by decide +kernel
theorem dX1_init_27 : decode cX1_init 27 = .ok (.putfield 22, 3) := by decide +kernel
theorem dX1_init_30 : decode cX1_init 30 = .ok (.aload_n 0, 1) := by decide +kernel
theorem dX1_init_31 : decode cX1_init 31 = .ok (.bipush 40, 2) := by decide +kernel
theorem dX1_init_33 : decode cX1_init 33 = .ok (.newarray .int, 2) := by decide +kernel
theorem dX1_init_35 : decode cX1_init 35 = .ok (.putfield 25, 3) := by decide +kernel
theorem dX1_init_38 : decode cX1_init 38 = .ok (.aload_n 0, 1) := by decide +kernel
theorem dX1_init_39 : decode cX1_init 39 = .ok (.bipush 40, 2) := by decide +kernel
theorem dX1_init_41 : decode cX1_init 41 = .ok (.newarray .int, 2) := by decide +kernel
theorem dX1_init_43 : decode cX1_init 43 = .ok (.putfield 28, 3) := by decide +kernel
theorem dX1_init_46 : decode cX1_init 46 = .ok (.return_, 1) := by decide +kernel
theorem dX1_add_0 : decode cX1_add 0 = .ok (.aload_n 0, 1) := by decide +kernel
theorem dX1_add_1 : decode cX1_add 1 = .ok (.getfield 15, 3) := by decide +kernel
theorem dX1_add_4 : decode cX1_add 4 = .ok (.bipush 40, 2) := by decide +kernel
theorem dX1_add_6 : decode cX1_add 6 = .ok (.if_icmp .lt 7, 3) := by decide +kernel
theorem dX1_add_9 : decode cX1_add 9 = .ok (.aload_n 0, 1) := by decide +kernel
theorem dX1_add_10 : decode cX1_add 10 = .ok (.invokevirtual 31, 3) := by decide +kernel
theorem dX1_add_13 : decode cX1_add 13 = .ok (.aload_n 0, 1) := by decide +kernel
theorem dX1_add_14 : decode cX1_add 14 = .ok (.getfield 18, 3) := by decide +kernel
theorem dX1_add_17 : decode cX1_add 17 = .ok (.aload_n 0, 1) := by decide +kernel
theorem dX1_add_18 : decode cX1_add 18 = .ok (.getfield 15, 3) := by decide +kernel
theorem dX1_add_21 : decode cX1_add 21 = .ok (.iload_n 1, 1) := by decide +kernel
theorem dX1_add_22 : decode cX1_add 22 = .ok (.iastore, 1) := by decide +kernel
theorem dX1_add_23 : decode cX1_add 23 = .ok (.aload_n 0, 1) := by decide +kernel
theorem dX1_add_24 : decode cX1_add 24 = .ok (.getfield 22, 3) := by decide +kernel
theorem dX1_add_27 : decode cX1_add 27 = .ok (.aload_n 0, 1) := by decide +kernel
theorem dX1_add_28 : decode cX1_add 28 = .ok (.getfield 15, 3) := by decide +kernel
theorem dX1_add_31 : decode cX1_add 31 = .ok (.iload_n 2, 1) := by decide +kernel
theorem dX1_add_32 : decode cX1_add 32 = .ok (.iastore, 1) := by decide +kernel
theorem dX1_add_33 : decode cX1_add 33 = .ok (.aload_n 0, 1) := by decide +kernel
theorem dX1_add_34 : decode cX1_add 34 = .ok (.getfield 25, 3) := by decide +kernel
theorem dX1_add_37 : decode cX1_add 37 = .ok (.aload_n 0, 1) := by decide +kernel
theorem dX1_add_38 : decode cX1_add 38 = .ok (.getfield 15, 3) := by decide +kernel
theorem dX1_add_41 : decode cX1_add 41 = .ok (.iload_n 3, 1) := by decide +kernel
theorem dX1_add_42 : decode cX1_add 42 = .ok (.iastore, 1) := by decide +kernel
theorem dX1_add_43 : decode cX1_add 43 = .ok (.aload_n 0, 1) := by decide +kernel
theorem dX1_add_44 : decode cX1_add 44 = .ok (.getfield 28, 3) := by decide +kernel
theorem dX1_add_47 : decode cX1_add 47 = .ok (.aload_n 0, 1) := by decide +kernel
theorem dX1_add_48 : decode cX1_add 48 = .ok (.getfield 15, 3) := by decide +kernel
theorem dX1_add_51 : decode cX1_add 51 = .ok (.iload 4, 2) := by decide +kernel
theorem dX1_add_53 : decode cX1_add 53 = .ok (.iastore, 1) := by decide +kernel
theorem dX1_add_54 : decode cX1_add 54 = .ok (.aload_n 0, 1) := by decide +kernel
theorem dX1_add_55 : decode cX1_add 55 = .ok (.dup, 1) := by decide +kernel
theorem dX1_add_56 : decode cX1_add 56 = .ok (.getfield 15, 3) := by decide +kernel
theorem dX1_add_59 : decode cX1_add 59 = .ok (.iconst 1, 1) := by decide +kernel
theorem dX1_add_60 : decode cX1_add 60 = .ok (.iadd, 1) := by decide +kernel
theorem dX1_add_61 : decode cX1_add 61 = .ok (.putfield 15, 3) := by decide +kernel
theorem dX1_add_64 : decode cX1_add 64 = .ok (.aload_n 0, 1) := by decide +kernel
theorem dX1_add_65 : decode cX1_add 65 = .ok (.aload_n 0, 1) := by decide +kernel
theorem dX1_add_66 : decode cX1_add 66 = .ok (.getfield 15, 3) := by decide +kernel
theorem dX1_add_69 : decode cX1_add 69 = .ok (.putfield 9, 3) := by decide +kernel
theorem dX1_add_72 : decode cX1_add 72 = .ok (.return_, 1) := by decide +kernel
theorem dX1_dropFirst_0 : decode cX1_dropFirst 0 = .ok (.aload_n 0, 1) := by decide +kernel
theorem dX1_dropFirst_1 : decode cX1_dropFirst 1 = .ok (.getfield 18, 3) := by decide +kernel
theorem dX1_dropFirst_4 : decode cX1_dropFirst 4 = .ok (.iconst 1, 1) := by decide +kernel
theorem dX1_dropFirst_5 : decode cX1_dropFirst 5 = .ok (.aload_n 0, 1) := by decide +kernel
theorem dX1_dropFirst_6 : decode cX1_dropFirst 6 = .ok (.getfield 18, 3) := by decide +kernel
theorem dX1_dropFirst_9 : decode cX1_dropFirst 9 = .ok (.iconst 0, 1) := by decide +kernel
theorem dX1_dropFirst_10 : decode cX1_dropFirst 10 = .ok (.bipush 39, 2) := by decide +kernel
theorem dX1_dropFirst_12 : decode cX1_dropFirst 12 = .ok (.invokestatic 34, 3) := by decide +kernel
theorem dX1_dropFirst_15 : decode cX1_dropFirst 15 = .ok (.aload_n 0, 1) := by decide +kernel
theorem dX1_dropFirst_16 : decode cX1_dropFirst 16 = .ok (.getfield 22, 3) := by decide +kernel
theorem dX1_dropFirst_19 : decode cX1_dropFirst 19 = .ok (.iconst 1, 1) := by decide +kernel
theorem dX1_dropFirst_20 : decode cX1_dropFirst 20 = .ok (.aload_n 0, 1) := by decide +kernel
theorem dX1_dropFirst_21 : decode cX1_dropFirst 21 = .ok (.getfield 22, 3) := by decide +kernel
theorem dX1_dropFirst_24 : decode cX1_dropFirst 24 = .ok (.iconst 0, 1) := by decide +kernel
theorem dX1_dropFirst_25 : decode cX1_dropFirst 25 = .ok (.bipush 39, 2) := by decide +kernel
theorem dX1_dropFirst_27 : decode cX1_dropFirst 27 = .ok (.invokestatic 34, 3) := by decide +kernel
theorem dX1_dropFirst_30 : decode cX1_dropFirst 30 = .ok (.aload_n 0, 1) := by decide +kernel
theorem dX1_dropFirst_31 : decode cX1_dropFirst 31 = .ok (.getfield 25, 3) := by decide +kernel
theorem dX1_dropFirst_34 : decode cX1_dropFirst 34 = .ok (.iconst 1, 1) := by decide +kernel
theorem dX1_dropFirst_35 : decode cX1_dropFirst 35 = .ok (.aload_n 0, 1) := by decide +kernel
theorem dX1_dropFirst_36 : decode cX1_dropFirst 36 = .ok (.getfield 25, 3) := by decide +kernel
theorem dX1_dropFirst_39 : decode cX1_dropFirst 39 = .ok (.iconst 0, 1) := by decide +kernel
theorem dX1_dropFirst_40 : decode cX1_dropFirst 40 = .ok (.bipush 39, 2) := by decide +kernel
theorem dX1_dropFirst_42 : decode cX1_dropFirst 42 = .ok (.invokestatic 34, 3) := by decide +kernel
theorem dX1_dropFirst_45 : decode cX1_dropFirst 45 = .ok (.aload_n 0, 1) := by decide +kernel
theorem dX1_dropFirst_46 : decode cX1_dropFirst 46 = .ok (.getfield 28, 3) := by decide +kernel
theorem dX1_dropFirst_49 : decode cX1_dropFirst 49 = .ok (.iconst 1, 1) := by decide +kernel
theorem dX1_dropFirst_50 : decode cX1_dropFirst 50 = .ok (.aload_n 0, 1) := by decide +kernel
theorem dX1_dropFirst_51 : decode cX1_dropFirst 51 = .ok (.getfield 28, 3) := by decide +kernel
theorem dX1_dropFirst_54 : decode cX1_dropFirst 54 = .ok (.iconst 0, 1) := by decide +kernel
theorem dX1_dropFirst_55 : decode cX1_dropFirst 55 = .ok (.bipush 39, 2) := by decide +kernel
theorem dX1_dropFirst_57 : decode cX1_dropFirst 57 = .ok (.invokestatic 34, 3) := by decide +kernel
theorem dX1_dropFirst_60 : decode cX1_dropFirst 60 = .ok (.aload_n 0, 1) := by decide +kernel
theorem dX1_dropFirst_61 : decode cX1_dropFirst 61 = .ok (.bipush 39, 2) := by decide +kernel
theorem dX1_dropFirst_63 : decode cX1_dropFirst 63 = .ok (.putfield 15, 3) := by decide +kernel
theorem dX1_dropFirst_66 : decode cX1_dropFirst 66 = .ok (.return_, 1) := by decide +kernel
theorem dX1_stepBack_0 : decode cX1_stepBack 0 = .ok (.aload_n 0, 1) := by decide +kernel
theorem dX1_stepBack_1 : decode cX1_stepBack 1 = .ok (.getfield 15, 3) := by decide +kernel
theorem dX1_stepBack_4 : decode cX1_stepBack 4 = .ok (.ifCond .gt 5, 3) := by decide +kernel
theorem dX1_stepBack_7 : decode cX1_stepBack 7 = .ok (.iconst 0, 1) := by decide +kernel
theorem dX1_stepBack_8 : decode cX1_stepBack 8 = .ok (.ireturn, 1) := by decide +kernel
theorem dX1_stepBack_9 : decode cX1_stepBack 9 = .ok (.aload_n 0, 1) := by decide +kernel
theorem dX1_stepBack_10 : decode cX1_stepBack 10 = .ok (.dup, 1) := by decide +kernel
theorem dX1_stepBack_11 : decode cX1_stepBack 11 = .ok (.getfield 15, 3) := by decide +kernel
theorem dX1_stepBack_14 : decode cX1_stepBack 14 = .ok (.iconst 1, 1) := by decide +kernel
theorem dX1_stepBack_15 : decode cX1_stepBack 15 = .ok (.isub, 1) := by decide +kernel
theorem dX1_stepBack_16 : decode cX1_stepBack 16 = .ok (.putfield 15, 3) := by decide +kernel
theorem dX1_stepBack_19 : decode cX1_stepBack 19 = .ok (.aload_n 0, 1) := by decide +kernel
theorem dX1_stepBack_20 : decode cX1_stepBack 20 = .ok (.aload_n 1, 1) := by decide +kernel
theorem dX1_stepBack_21 : decode cX1_stepBack 21 = .ok (.aload_n 0, 1) := by decide +kernel
theorem dX1_stepBack_22 : decode cX1_stepBack 22 = .ok (.getfield 15, 3) := by decide +kernel
theorem dX1_stepBack_25 : decode cX1_stepBack 25 = .ok (.aload_n 0, 1) := by decide +kernel
theorem dX1_stepBack_26 : decode cX1_stepBack 26 = .ok (.getfield 25, 3) := by decide +kernel
theorem dX1_stepBack_29 : decode cX1_stepBack 29 = .ok (.aload_n 0, 1) := by decide +kernel
theorem dX1_stepBack_30 : decode cX1_stepBack 30 = .ok (.getfield 15, 3) := by decide +kernel
theorem dX1_stepBack_33 : decode cX1_stepBack 33 = .ok (.iaload, 1) := by decide +kernel
theorem dX1_stepBack_34 : decode cX1_stepBack 34 = .ok (.invokevirtual 40, 3) := by decide +kernel
theorem dX1_stepBack_37 : decode cX1_stepBack 37 = .ok (.iconst 1, 1) := by decide +kernel
theorem dX1_stepBack_38 : decode cX1_stepBack 38 = .ok (.ireturn, 1) := by decide +kernel
theorem dX1_stepOn_0 : decode cX1_stepOn 0 = .ok (.aload_n 0, 1) := by decide +kernel
theorem dX1_stepOn_1 : decode cX1_stepOn 1 = .ok (.getfield 15, 3) := by decide +kernel
theorem dX1_stepOn_4 : decode cX1_stepOn 4 = .ok (.aload_n 0, 1) := by decide +kernel
theorem dX1_stepOn_5 : decode cX1_stepOn 5 = .ok (.getfield 9, 3) := by decide +kernel
theorem dX1_stepOn_8 : decode cX1_stepOn 8 = .ok (.if_icmp .lt 5, 3) := by decide +kernel
theorem dX1_stepOn_11 : decode cX1_stepOn 11 = .ok (.iconst 0, 1) := by decide +kernel
theorem dX1_stepOn_12 : decode cX1_stepOn 12 = .ok (.ireturn, 1) := by decide +kernel
theorem dX1_stepOn_13 : decode cX1_stepOn 13 = .ok (.aload_n 0, 1) := by decide +kernel
theorem dX1_stepOn_14 : decode cX1_stepOn 14 = .ok (.aload_n 1, 1) := by decide +kernel
theorem dX1_stepOn_15 : decode cX1_stepOn 15 = .ok (.aload_n 0, 1) := by decide +kernel
theorem dX1_stepOn_16 : decode cX1_stepOn 16 = .ok (.getfield 15, 3) := by decide +kernel
theorem dX1_stepOn_19 : decode cX1_stepOn 19 = .ok (.aload_n 0, 1) := by decide +kernel
theorem dX1_stepOn_20 : decode cX1_stepOn 20 = .ok (.getfield 28, 3) := by decide +kernel
theorem dX1_stepOn_23 : decode cX1_stepOn 23 = .ok (.aload_n 0, 1) := by decide +kernel
theorem dX1_stepOn_24 : decode cX1_stepOn 24 = .ok (.getfield 15, 3) := by decide +kernel
theorem dX1_stepOn_27 : decode cX1_stepOn 27 = .ok (.iaload, 1) := by decide +kernel
theorem dX1_stepOn_28 : decode cX1_stepOn 28 = .ok (.invokevirtual 40, 3) := by decide +kernel
theorem dX1_stepOn_31 : decode cX1_stepOn 31 = .ok (.aload_n 0, 1) := by decide +kernel
theorem dX1_stepOn_32 : decode cX1_stepOn 32 = .ok (.dup, 1) := by decide +kernel
theorem dX1_stepOn_33 : decode cX1_stepOn 33 = .ok (.getfield 15, 3) := by decide +kernel
theorem dX1_stepOn_36 : decode cX1_stepOn 36 = .ok (.iconst 1, 1) := by decide +kernel
theorem dX1_stepOn_37 : decode cX1_stepOn 37 = .ok (.iadd, 1) := by decide +kernel
theorem dX1_stepOn_38 : decode cX1_stepOn 38 = .ok (.putfield 15, 3) := by decide +kernel
theorem dX1_stepOn_41 : decode cX1_stepOn 41 = .ok (.iconst 1, 1) := by decide +kernel
theorem dX1_stepOn_42 : decode cX1_stepOn 42 = .ok (.ireturn, 1) := by decide +kernel
theorem dX1_lay_0 : decode cX1_lay 0 = .ok (.aload_n 0, 1) := by decide +kernel
theorem dX1_lay_1 : decode cX1_lay 1 = .ok (.getfield 22, 3) := by decide +kernel
theorem dX1_lay_4 : decode cX1_lay 4 = .ok (.iload_n 2, 1) := by decide +kernel
theorem dX1_lay_5 : decode cX1_lay 5 = .ok (.iaload, 1) := by decide +kernel
theorem dX1_lay_6 : decode cX1_lay 6 = .ok (.ifCond .ne 21, 3) := by decide +kernel
theorem dX1_lay_9 : decode cX1_lay 9 = .ok (.aload_n 1, 1) := by decide +kernel
theorem dX1_lay_10 : decode cX1_lay 10 = .ok (.iload_n 3, 1) := by decide +kernel
theorem dX1_lay_11 : decode cX1_lay 11 = .ok (.aload_n 0, 1) := by decide +kernel
theorem dX1_lay_12 : decode cX1_lay 12 = .ok (.getfield 18, 3) := by decide +kernel
theorem dX1_lay_15 : decode cX1_lay 15 = .ok (.iload_n 2, 1) := by decide +kernel
theorem dX1_lay_16 : decode cX1_lay 16 = .ok (.iaload, 1) := by decide +kernel
theorem dX1_lay_17 : decode cX1_lay 17 = .ok (.invokevirtual 44, 3) := by decide +kernel
theorem dX1_lay_20 : decode cX1_lay 20 = .ok (.ifCond .eq 7, 3) := by decide +kernel
theorem dX1_lay_23 : decode cX1_lay 23 = .ok (.iconst 1, 1) := by decide +kernel
theorem dX1_lay_24 : decode cX1_lay 24 = .ok (.goto 4, 3) := by decide +kernel
theorem dX1_lay_27 : decode cX1_lay 27 = .ok (.iconst 0, 1) := by decide +kernel
theorem dX1_lay_28 : decode cX1_lay 28 = .ok (.istore 4, 2) := by decide +kernel
theorem dX1_lay_30 : decode cX1_lay 30 = .ok (.iload 4, 2) := by decide +kernel
theorem dX1_lay_32 : decode cX1_lay 32 = .ok (.ifCond .ne 20, 3) := by decide +kernel
theorem dX1_lay_35 : decode cX1_lay 35 = .ok (.aload_n 1, 1) := by decide +kernel
theorem dX1_lay_36 : decode cX1_lay 36 = .ok (.aload_n 0, 1) := by decide +kernel
theorem dX1_lay_37 : decode cX1_lay 37 = .ok (.getfield 18, 3) := by decide +kernel
theorem dX1_lay_40 : decode cX1_lay 40 = .ok (.iload_n 2, 1) := by decide +kernel
theorem dX1_lay_41 : decode cX1_lay 41 = .ok (.iaload, 1) := by decide +kernel
theorem dX1_lay_42 : decode cX1_lay 42 = .ok (.aload_n 0, 1) := by decide +kernel
theorem dX1_lay_43 : decode cX1_lay 43 = .ok (.getfield 22, 3) := by decide +kernel
theorem dX1_lay_46 : decode cX1_lay 46 = .ok (.iload_n 2, 1) := by decide +kernel
theorem dX1_lay_47 : decode cX1_lay 47 = .ok (.iaload, 1) := by decide +kernel
theorem dX1_lay_48 : decode cX1_lay 48 = .ok (.iload_n 3, 1) := by decide +kernel
theorem dX1_lay_49 : decode cX1_lay 49 = .ok (.invokevirtual 50, 3) := by decide +kernel
theorem dX1_lay_52 : decode cX1_lay 52 = .ok (.return_, 1) := by decide +kernel
theorem dX2_init_0 : decode cX2_init 0 = .ok (.aload_n 0, 1) := by decide +kernel
theorem dX2_init_1 : decode cX2_init 1 = .ok (.invokespecial 3, 3) := by decide +kernel
theorem dX2_init_4 : decode cX2_init 4 = .ok (.aload_n 0, 1) := by decide +kernel
theorem dX2_init_5 : decode cX2_init 5 = .ok (.iconst 0, 1) := by decide +kernel
theorem dX2_init_6 : decode cX2_init 6 = .ok (.putfield 9, 3) := by decide +kernel
theorem dX2_init_9 : decode cX2_init 9 = .ok (.aload_n 0, 1) := by decide +kernel
theorem dX2_init_10 : decode cX2_init 10 = .ok (.iconst 5, 1) := by decide +kernel
theorem dX2_init_11 : decode cX2_init 11 = .ok (.newarray .int, 2) := by decide +kernel
theorem dX2_init_13 : decode cX2_init 13 = .ok (.putfield 15, 3) := by decide +kernel
theorem dX2_init_16 : decode cX2_init 16 = .ok (.aload_n 0, 1) := by decide +kernel
theorem dX2_init_17 : decode cX2_init 17 = .ok (.iconst 5, 1) := by decide +kernel
theorem dX2_init_18 : decode cX2_init 18 = .ok (.newarray .int, 2) := by decide +kernel
theorem dX2_init_20 : decode cX2_init 20 = .ok (.putfield 19, 3) := by decide +kernel
theorem dX2_init_23 : decode cX2_init 23 = .ok (.aload_n 0, 1) := by decide +kernel
theorem dX2_init_24 : decode cX2_init 24 = .ok (.bipush 10, 2) := by decide +kernel
theorem dX2_init_26 : decode cX2_init 26 = .ok (.newarray .int, 2) := by decide +kernel
theorem dX2_init_28 : decode cX2_init 28 = .ok (.putfield 22, 3) := by decide +kernel
theorem dX2_init_31 : decode cX2_init 31 = .ok (.aload_n 0, 1) := by decide +kernel
theorem dX2_init_32 : decode cX2_init 32 = .ok (.bipush 10, 2) := by decide +kernel
theorem dX2_init_34 : decode cX2_init 34 = .ok (.newarray .int, 2) := by decide +kernel
theorem dX2_init_36 : decode cX2_init 36 = .ok (.putfield 25, 3) := by decide +kernel
theorem dX2_init_39 : decode cX2_init 39 = .ok (.aload_n 0, 1) := by decide +kernel
theorem dX2_init_40 : decode cX2_init 40 = .ok (.iconst 0, 1) := by decide +kernel
theorem dX2_init_41 : decode cX2_init 41 = .ok (.putfield 28, 3) := by decide +kernel
theorem dX2_init_44 : decode cX2_init 44 = .ok (.aload_n 0, 1) := by decide +kernel
theorem dX2_init_45 : decode cX2_init 45 = .ok (.iconst 0, 1) := by decide +kernel
theorem dX2_init_46 : decode cX2_init 46 = .ok (.putfield 32, 3) := by decide +kernel
theorem dX2_init_49 : decode cX2_init 49 = .ok (.aload_n 0, 1) := by decide +kernel
theorem dX2_init_50 : decode cX2_init 50 = .ok (.iconst 0, 1) := by decide +kernel
theorem dX2_init_51 : decode cX2_init 51 = .ok (.putfield 35, 3) := by decide +kernel
theorem dX2_init_54 : decode cX2_init 54 = .ok (.return_, 1) := by decide +kernel
theorem dX2_add_0 : decode cX2_add 0 = .ok (.aload_n 0, 1) := by decide +kernel
theorem dX2_add_1 : decode cX2_add 1 = .ok (.getfield 15, 3) := by decide +kernel
theorem dX2_add_4 : decode cX2_add 4 = .ok (.iload_n 1, 1) := by decide +kernel
theorem dX2_add_5 : decode cX2_add 5 = .ok (.dup2, 1) := by decide +kernel
theorem dX2_add_6 : decode cX2_add 6 = .ok (.iaload, 1) := by decide +kernel
theorem dX2_add_7 : decode cX2_add 7 = .ok (.iload_n 2, 1) := by decide +kernel
theorem dX2_add_8 : decode cX2_add 8 = .ok (.iadd, 1) := by decide +kernel
theorem dX2_add_9 : decode cX2_add 9 = .ok (.iastore, 1) := by decide +kernel
theorem dX2_add_10 : decode cX2_add 10 = .ok (.return_, 1) := by decide +kernel
theorem dX2_keepImage_0 : decode cX2_keepImage 0 = .ok (.aload_n 0, 1) := by decide +kernel
theorem dX2_keepImage_1 : decode cX2_keepImage 1 = .ok (.iconst 1, 1) := by decide +kernel
theorem dX2_keepImage_2 : decode cX2_keepImage 2 = .ok (.putfield 9, 3) := by decide +kernel
theorem dX2_keepImage_5 : decode cX2_keepImage 5 = .ok (.aload_n 0, 1) := by decide +kernel
theorem dX2_keepImage_6 : decode cX2_keepImage 6 = .ok (.aload_n 1, 1) := by decide +kernel
theorem dX2_keepImage_7 : decode cX2_keepImage 7 = .ok (.getfield 38, 3) := by decide +kernel
theorem dX2_keepImage_10 : decode cX2_keepImage 10 = .ok (.putfield 28, 3) := by decide +kernel
theorem dX2_keepImage_13 : decode cX2_keepImage 13 = .ok (.aload_n 0, 1) := by decide +kernel
theorem dX2_keepImage_14 : decode cX2_keepImage 14 = .ok (.aload_n 1, 1) := by decide +kernel
theorem dX2_keepImage_15 : decode cX2_keepImage 15 = .ok (.getfield 43, 3) := by decide +kernel
theorem dX2_keepImage_18 : decode cX2_keepImage 18 = .ok (.putfield 32, 3) := by decide +kernel
theorem dX2_keepImage_21 : decode cX2_keepImage 21 = .ok (.aload_n 0, 1) := by decide +kernel
theorem dX2_keepImage_22 : decode cX2_keepImage 22 = .ok (.aload_n 1, 1) := by decide +kernel
theorem dX2_keepImage_23 : decode cX2_keepImage 23 = .ok (.getfield 46, 3) := by decide +kernel
theorem dX2_keepImage_26 : decode cX2_keepImage 26 = .ok (.putfield 35, 3) := by decide +kernel
theorem dX2_keepImage_29 : decode cX2_keepImage 29 = .ok (.aload_n 1, 1) := by decide +kernel
theorem dX2_keepImage_30 : decode cX2_keepImage 30 = .ok (.getfield 49, 3) := by decide +kernel
theorem dX2_keepImage_33 : decode cX2_keepImage 33 = .ok (.iconst 0, 1) := by decide +kernel
theorem dX2_keepImage_34 : decode cX2_keepImage 34 = .ok (.aload_n 0, 1) := by decide +kernel
theorem dX2_keepImage_35 : decode cX2_keepImage 35 = .ok (.getfield 22, 3) := by decide +kernel
theorem dX2_keepImage_38 : decode cX2_keepImage 38 = .ok (.iconst 0, 1) := by decide +kernel
theorem dX2_keepImage_39 : decode cX2_keepImage 39 = .ok (.aload_n 0, 1) := by decide +kernel
theorem dX2_keepImage_40 : decode cX2_keepImage 40 = .ok (.getfield 28, 3) := by decide +kernel
theorem dX2_keepImage_43 : decode cX2_keepImage 43 = .ok (.invokestatic 52, 3) := by decide +kernel
theorem dX2_keepImage_46 : decode cX2_keepImage 46 = .ok (.aload_n 1, 1) := by decide +kernel
theorem dX2_keepImage_47 : decode cX2_keepImage 47 = .ok (.getfield 58, 3) := by decide +kernel
theorem dX2_keepImage_50 : decode cX2_keepImage 50 = .ok (.iconst 0, 1) := by decide +kernel
theorem dX2_keepImage_51 : decode cX2_keepImage 51 = .ok (.aload_n 0, 1) := by decide +kernel
theorem dX2_keepImage_52 : decode cX2_keepImage 52 = .ok (.getfield 25, 3) := by decide +kernel
theorem dX2_keepImage_55 : decode cX2_keepImage 55 = .ok (.iconst 0, 1) := by decide +kernel
theorem dX2_keepImage_56 : decode cX2_keepImage 56 = .ok (.aload_n 0, 1) := by decide +kernel
theorem dX2_keepImage_57 : decode cX2_keepImage 57 = .ok (.getfield 28, 3) := by decide +kernel
theorem dX2_keepImage_60 : decode cX2_keepImage 60 = .ok (.invokestatic 52, 3) := by decide +kernel
theorem dX2_keepImage_63 : decode cX2_keepImage 63 = .ok (.aload_n 0, 1) := by decide +kernel
theorem dX2_keepImage_64 : decode cX2_keepImage 64 = .ok (.getfield 15, 3) := by decide +kernel
theorem dX2_keepImage_67 : decode cX2_keepImage 67 = .ok (.iconst 0, 1) := by decide +kernel
theorem dX2_keepImage_68 : decode cX2_keepImage 68 = .ok (.aload_n 0, 1) := by decide +kernel
theorem dX2_keepImage_69 : decode cX2_keepImage 69 = .ok (.getfield 19, 3) := by decide +kernel
theorem dX2_keepImage_72 : decode cX2_keepImage 72 = .ok (.iconst 0, 1) := by decide +kernel
theorem dX2_keepImage_73 : decode cX2_keepImage 73 = .ok (.iconst 5, 1) := by decide +kernel
theorem dX2_keepImage_74 : decode cX2_keepImage 74 = .ok (.invokestatic 52, 3) := by decide +kernel
theorem dX2_keepImage_77 : decode cX2_keepImage 77 = .ok (.return_, 1) := by decide +kernel
theorem dX2_layBack_0 : decode cX2_layBack 0 = .ok (.aload_n 1, 1) := by decide +kernel
theorem dX2_layBack_1 : decode cX2_layBack 1 = .ok (.aload_n 0, 1) := by decide +kernel
theorem dX2_layBack_2 : decode cX2_layBack 2 = .ok (.getfield 32, 3) := by decide +kernel
theorem dX2_layBack_5 : decode cX2_layBack 5 = .ok (.putfield 43, 3) := by decide +kernel
theorem dX2_layBack_8 : decode cX2_layBack 8 = .ok (.aload_n 1, 1) := by decide +kernel
theorem dX2_layBack_9 : decode cX2_layBack 9 = .ok (.aload_n 0, 1) := by decide +kernel
theorem dX2_layBack_10 : decode cX2_layBack 10 = .ok (.getfield 35, 3) := by decide +kernel
theorem dX2_layBack_13 : decode cX2_layBack 13 = .ok (.putfield 46, 3) := by decide +kernel
theorem dX2_layBack_16 : decode cX2_layBack 16 = .ok (.aload_n 0, 1) := by decide +kernel
theorem dX2_layBack_17 : decode cX2_layBack 17 = .ok (.getfield 22, 3) := by decide +kernel
theorem dX2_layBack_20 : decode cX2_layBack 20 = .ok (.iconst 0, 1) := by decide +kernel
theorem dX2_layBack_21 : decode cX2_layBack 21 = .ok (.aload_n 1, 1) := by decide +kernel
theorem dX2_layBack_22 : decode cX2_layBack 22 = .ok (.getfield 49, 3) := by decide +kernel
theorem dX2_layBack_25 : decode cX2_layBack 25 = .ok (.iconst 0, 1) := by decide +kernel
theorem dX2_layBack_26 : decode cX2_layBack 26 = .ok (.aload_n 0, 1) := by decide +kernel
theorem dX2_layBack_27 : decode cX2_layBack 27 = .ok (.getfield 28, 3) := by decide +kernel
theorem dX2_layBack_30 : decode cX2_layBack 30 = .ok (.invokestatic 52, 3) := by decide +kernel
theorem dX2_layBack_33 : decode cX2_layBack 33 = .ok (.aload_n 0, 1) := by decide +kernel
theorem dX2_layBack_34 : decode cX2_layBack 34 = .ok (.getfield 25, 3) := by decide +kernel
theorem dX2_layBack_37 : decode cX2_layBack 37 = .ok (.iconst 0, 1) := by decide +kernel
theorem dX2_layBack_38 : decode cX2_layBack 38 = .ok (.aload_n 1, 1) := by decide +kernel
theorem dX2_layBack_39 : decode cX2_layBack 39 = .ok (.getfield 58, 3) := by decide +kernel
theorem dX2_layBack_42 : decode cX2_layBack 42 = .ok (.iconst 0, 1) := by decide +kernel
theorem dX2_layBack_43 : decode cX2_layBack 43 = .ok (.aload_n 0, 1) := by decide +kernel
theorem dX2_layBack_44 : decode cX2_layBack 44 = .ok (.getfield 28, 3) := by decide +kernel
theorem dX2_layBack_47 : decode cX2_layBack 47 = .ok (.invokestatic 52, 3) := by decide +kernel
theorem dX2_layBack_50 : decode cX2_layBack 50 = .ok (.aload_n 0, 1) := by decide +kernel
theorem dX2_layBack_51 : decode cX2_layBack 51 = .ok (.getfield 19, 3) := by decide +kernel
theorem dX2_layBack_54 : decode cX2_layBack 54 = .ok (.iconst 0, 1) := by decide +kernel
theorem dX2_layBack_55 : decode cX2_layBack 55 = .ok (.aload_n 0, 1) := by decide +kernel
theorem dX2_layBack_56 : decode cX2_layBack 56 = .ok (.getfield 15, 3) := by decide +kernel
theorem dX2_layBack_59 : decode cX2_layBack 59 = .ok (.iconst 0, 1) := by decide +kernel
theorem dX2_layBack_60 : decode cX2_layBack 60 = .ok (.iconst 5, 1) := by decide +kernel
theorem dX2_layBack_61 : decode cX2_layBack 61 = .ok (.invokestatic 52, 3) := by decide +kernel
theorem dX2_layBack_64 : decode cX2_layBack 64 = .ok (.return_, 1) := by decide +kernel
theorem dX3_init_0 : decode cX3_init 0 = .ok (.aload_n 0, 1) := by decide +kernel
theorem dX3_init_1 : decode cX3_init 1 = .ok (.invokespecial 1, 3) := by decide +kernel
theorem dX3_init_4 : decode cX3_init 4 = .ok (.aload_n 0, 1) := by decide +kernel
theorem dX3_init_5 : decode cX3_init 5 = .ok (.iconst 0, 1) := by decide +kernel
theorem dX3_init_6 : decode cX3_init 6 = .ok (.putfield 7, 3) := by decide +kernel
theorem dX3_init_9 : decode cX3_init 9 = .ok (.aload_n 0, 1) := by decide +kernel
theorem dX3_init_10 : decode cX3_init 10 = .ok (.iconst 0, 1) := by decide +kernel
theorem dX3_init_11 : decode cX3_init 11 = .ok (.putfield 13, 3) := by decide +kernel
theorem dX3_init_14 : decode cX3_init 14 = .ok (.aload_n 0, 1) := by decide +kernel
theorem dX3_init_15 : decode cX3_init 15 = .ok (.sipush 128, 3) := by decide +kernel
theorem dX3_init_18 : decode cX3_init 18 = .ok (.newarray .int, 2) := by decide +kernel
theorem dX3_init_20 : decode cX3_init 20 = .ok (.putfield 17, 3) := by decide +kernel
theorem dX3_init_23 : decode cX3_init 23 = .ok (.aload_n 0, 1) := by decide +kernel
theorem dX3_init_24 : decode cX3_init 24 = .ok (.sipush 128, 3) := by decide +kernel
theorem dX3_init_27 : decode cX3_init 27 = .ok (.newarray .int, 2) := by decide +kernel
theorem dX3_init_29 : decode cX3_init 29 = .ok (.putfield 21, 3) := by decide +kernel
theorem dX3_init_32 : decode cX3_init 32 = .ok (.aload_n 0, 1) := by decide +kernel
theorem dX3_init_33 : decode cX3_init 33 = .ok (.sipush 128, 3) := by decide +kernel
theorem dX3_init_36 : decode cX3_init 36 = .ok (.newarray .int, 2) := by decide +kernel
theorem dX3_init_38 : decode cX3_init 38 = .ok (.putfield 24, 3) := by decide +kernel
theorem dX3_init_41 : decode cX3_init 41 = .ok (.aload_n 0, 1) := by decide +kernel
theorem dX3_init_42 : decode cX3_init 42 = .ok (.bipush 6, 2) := by decide +kernel
theorem dX3_init_44 : decode cX3_init 44 = .ok (.newarray .int, 2) := by decide +kernel
theorem dX3_init_46 : decode cX3_init 46 = .ok (.putfield 27, 3) := by decide +kernel
theorem dX3_init_49 : decode cX3_init 49 = .ok (.return_, 1) := by decide +kernel
theorem dX3_become_0 : decode cX3_become 0 = .ok (.aload_n 0, 1) := by decide +kernel
theorem dX3_become_1 : decode cX3_become 1 = .ok (.iconst 1, 1) := by decide +kernel
theorem dX3_become_2 : decode cX3_become 2 = .ok (.putfield 7, 3) := by decide +kernel
theorem dX3_become_5 : decode cX3_become 5 = .ok (.aload_n 0, 1) := by decide +kernel
theorem dX3_become_6 : decode cX3_become 6 = .ok (.aload_n 1, 1) := by decide +kernel
theorem dX3_become_7 : decode cX3_become 7 = .ok (.getfield 13, 3) := by decide +kernel
theorem dX3_become_10 : decode cX3_become 10 = .ok (.putfield 13, 3) := by decide +kernel
theorem dX3_become_13 : decode cX3_become 13 = .ok (.aload_n 1, 1) := by decide +kernel
theorem dX3_become_14 : decode cX3_become 14 = .ok (.getfield 17, 3) := by decide +kernel
theorem dX3_become_17 : decode cX3_become 17 = .ok (.iconst 0, 1) := by decide +kernel
theorem dX3_become_18 : decode cX3_become 18 = .ok (.aload_n 0, 1) := by decide +kernel
theorem dX3_become_19 : decode cX3_become 19 = .ok (.getfield 17, 3) := by decide +kernel
theorem dX3_become_22 : decode cX3_become 22 = .ok (.iconst 0, 1) := by decide +kernel
theorem dX3_become_23 : decode cX3_become 23 = .ok (.sipush 128, 3) := by decide +kernel
theorem dX3_become_26 : decode cX3_become 26 = .ok (.invokestatic 30, 3) := by decide +kernel
theorem dX3_become_29 : decode cX3_become 29 = .ok (.aload_n 1, 1) := by decide +kernel
theorem dX3_become_30 : decode cX3_become 30 = .ok (.getfield 21, 3) := by decide +kernel
theorem dX3_become_33 : decode cX3_become 33 = .ok (.iconst 0, 1) := by decide +kernel
theorem dX3_become_34 : decode cX3_become 34 = .ok (.aload_n 0, 1) := by decide +kernel
theorem dX3_become_35 : decode cX3_become 35 = .ok (.getfield 21, 3) := by decide +kernel
theorem dX3_become_38 : decode cX3_become 38 = .ok (.iconst 0, 1) := by decide +kernel
theorem dX3_become_39 : decode cX3_become 39 = .ok (.sipush 128, 3) := by decide +kernel
theorem dX3_become_42 : decode cX3_become 42 = .ok (.invokestatic 30, 3) := by decide +kernel
theorem dX3_become_45 : decode cX3_become 45 = .ok (.return_, 1) := by decide +kernel
theorem dX3_add_0 : decode cX3_add 0 = .ok (.aload_n 0, 1) := by decide +kernel
theorem dX3_add_1 : decode cX3_add 1 = .ok (.getfield 13, 3) := by decide +kernel
theorem dX3_add_4 : decode cX3_add 4 = .ok (.sipush 128, 3) := by decide +kernel
theorem dX3_add_7 : decode cX3_add 7 = .ok (.if_icmp .ge 33, 3) := by decide +kernel
theorem dX3_add_10 : decode cX3_add 10 = .ok (.aload_n 0, 1) := by decide +kernel
theorem dX3_add_11 : decode cX3_add 11 = .ok (.getfield 17, 3) := by decide +kernel
theorem dX3_add_14 : decode cX3_add 14 = .ok (.aload_n 0, 1) := by decide +kernel
theorem dX3_add_15 : decode cX3_add 15 = .ok (.getfield 13, 3) := by decide +kernel
theorem dX3_add_18 : decode cX3_add 18 = .ok (.iload_n 1, 1) := by decide +kernel
theorem dX3_add_19 : decode cX3_add 19 = .ok (.iastore, 1) := by decide +kernel
theorem dX3_add_20 : decode cX3_add 20 = .ok (.aload_n 0, 1) := by decide +kernel
theorem dX3_add_21 : decode cX3_add 21 = .ok (.getfield 21, 3) := by decide +kernel
theorem dX3_add_24 : decode cX3_add 24 = .ok (.aload_n 0, 1) := by decide +kernel
theorem dX3_add_25 : decode cX3_add 25 = .ok (.getfield 13, 3) := by decide +kernel
theorem dX3_add_28 : decode cX3_add 28 = .ok (.iload_n 2, 1) := by decide +kernel
theorem dX3_add_29 : decode cX3_add 29 = .ok (.iastore, 1) := by decide +kernel
theorem dX3_add_30 : decode cX3_add 30 = .ok (.aload_n 0, 1) := by decide +kernel
theorem dX3_add_31 : decode cX3_add 31 = .ok (.dup, 1) := by decide +kernel
theorem dX3_add_32 : decode cX3_add 32 = .ok (.getfield 13, 3) := by decide +kernel
theorem dX3_add_35 : decode cX3_add 35 = .ok (.iconst 1, 1) := by decide +kernel
theorem dX3_add_36 : decode cX3_add 36 = .ok (.iadd, 1) := by decide +kernel
theorem dX3_add_37 : decode cX3_add 37 = .ok (.putfield 13, 3) := by decide +kernel
theorem dX3_add_40 : decode cX3_add 40 = .ok (.return_, 1) := by decide +kernel
theorem dX3_growth_0 : decode cX3_growth 0 = .ok (.aload_n 0, 1) := by decide +kernel
theorem dX3_growth_1 : decode cX3_growth 1 = .ok (.getfield 7, 3) := by decide +kernel
theorem dX3_growth_4 : decode cX3_growth 4 = .ok (.ifCond .ne 30, 3) := by decide +kernel
theorem dX3_growth_7 : decode cX3_growth 7 = .ok (.iload_n 1, 1) := by decide +kernel
theorem dX3_growth_8 : decode cX3_growth 8 = .ok (.iconst 3, 1) := by decide +kernel
theorem dX3_growth_9 : decode cX3_growth 9 = .ok (.iload 4, 2) := by decide +kernel
theorem dX3_growth_11 : decode cX3_growth 11 = .ok (.imul, 1) := by decide +kernel
theorem dX3_growth_12 : decode cX3_growth 12 = .ok (.iadd, 1) := by decide +kernel
theorem dX3_growth_13 : decode cX3_growth 13 = .ok (.iload_n 2, 1) := by decide +kernel
theorem dX3_growth_14 : decode cX3_growth 14 = .ok (.bipush 20, 2) := by decide +kernel
theorem dX3_growth_16 : decode cX3_growth 16 = .ok (.idiv, 1) := by decide +kernel
theorem dX3_growth_17 : decode cX3_growth 17 = .ok (.isub, 1) := by decide +kernel
theorem dX3_growth_18 : decode cX3_growth 18 = .ok (.bipush 8, 2) := by decide +kernel
theorem dX3_growth_20 : decode cX3_growth 20 = .ok (.iload 5, 2) := by decide +kernel
theorem dX3_growth_22 : decode cX3_growth 22 = .ok (.imul, 1) := by decide +kernel
theorem dX3_growth_23 : decode cX3_growth 23 = .ok (.isub, 1) := by decide +kernel
theorem dX3_growth_24 : decode cX3_growth 24 = .ok (.iconst 2, 1) := by decide +kernel
theorem dX3_growth_25 : decode cX3_growth 25 = .ok (.isub, 1) := by decide +kernel
theorem dX3_growth_26 : decode cX3_growth 26 = .ok (.bipush (-20), 2) := by decide +kernel
theorem dX3_growth_28 : decode cX3_growth 28 = .ok (.bipush 20, 2) := by decide +kernel
theorem dX3_growth_30 : decode cX3_growth 30 = .ok (.invokestatic 36, 3) := by decide +kernel
theorem dX3_growth_33 : decode cX3_growth 33 = .ok (.ireturn, 1) := by decide +kernel
theorem dX3_growth_34 : decode cX3_growth 34 = .ok (.aload_n 0, 1) := by decide +kernel
theorem dX3_growth_35 : decode cX3_growth 35 = .ok (.getfield 27, 3) := by decide +kernel
theorem dX3_growth_38 : decode cX3_growth 38 = .ok (.iconst 0, 1) := by decide +kernel
theorem dX3_growth_39 : decode cX3_growth 39 = .ok (.iload_n 1, 1) := by decide +kernel
theorem dX3_growth_40 : decode cX3_growth 40 = .ok (.iastore, 1) := by decide +kernel
theorem dX3_growth_41 : decode cX3_growth 41 = .ok (.aload_n 0, 1) := by decide +kernel
theorem dX3_growth_42 : decode cX3_growth 42 = .ok (.getfield 27, 3) := by decide +kernel
theorem dX3_growth_45 : decode cX3_growth 45 = .ok (.iconst 1, 1) := by decide +kernel
theorem dX3_growth_46 : decode cX3_growth 46 = .ok (.iload_n 2, 1) := by decide +kernel
theorem dX3_growth_47 : decode cX3_growth 47 = .ok (.iastore, 1) := by decide +kernel
theorem dX3_growth_48 : decode cX3_growth 48 = .ok (.aload_n 0, 1) := by decide +kernel
theorem dX3_growth_49 : decode cX3_growth 49 = .ok (.getfield 27, 3) := by decide +kernel
theorem dX3_growth_52 : decode cX3_growth 52 = .ok (.iconst 2, 1) := by decide +kernel
theorem dX3_growth_53 : decode cX3_growth 53 = .ok (.iload_n 3, 1) := by decide +kernel
theorem dX3_growth_54 : decode cX3_growth 54 = .ok (.iastore, 1) := by decide +kernel
theorem dX3_growth_55 : decode cX3_growth 55 = .ok (.aload_n 0, 1) := by decide +kernel
theorem dX3_growth_56 : decode cX3_growth 56 = .ok (.getfield 27, 3) := by decide +kernel
theorem dX3_growth_59 : decode cX3_growth 59 = .ok (.iconst 3, 1) := by decide +kernel
theorem dX3_growth_60 : decode cX3_growth 60 = .ok (.iload 4, 2) := by decide +kernel
theorem dX3_growth_62 : decode cX3_growth 62 = .ok (.iastore, 1) := by decide +kernel
theorem dX3_growth_63 : decode cX3_growth 63 = .ok (.aload_n 0, 1) := by decide +kernel
theorem dX3_growth_64 : decode cX3_growth 64 = .ok (.getfield 27, 3) := by decide +kernel
theorem dX3_growth_67 : decode cX3_growth 67 = .ok (.iconst 4, 1) := by decide +kernel
theorem dX3_growth_68 : decode cX3_growth 68 = .ok (.iload 5, 2) := by decide +kernel
theorem dX3_growth_70 : decode cX3_growth 70 = .ok (.iastore, 1) := by decide +kernel
theorem dX3_growth_71 : decode cX3_growth 71 = .ok (.aload_n 0, 1) := by decide +kernel
theorem dX3_growth_72 : decode cX3_growth 72 = .ok (.getfield 27, 3) := by decide +kernel
theorem dX3_growth_75 : decode cX3_growth 75 = .ok (.iconst 5, 1) := by decide +kernel
theorem dX3_growth_76 : decode cX3_growth 76 = .ok (.iload 6, 2) := by decide +kernel
theorem dX3_growth_78 : decode cX3_growth 78 = .ok (.iastore, 1) := by decide +kernel
theorem dX3_growth_79 : decode cX3_growth 79 = .ok (.aload_n 0, 1) := by decide +kernel
theorem dX3_growth_80 : decode cX3_growth 80 = .ok (.invokevirtual 42, 3) := by decide +kernel
theorem dX3_growth_83 : decode cX3_growth 83 = .ok (.bipush (-20), 2) := by decide +kernel
theorem dX3_growth_85 : decode cX3_growth 85 = .ok (.bipush 20, 2) := by decide +kernel
theorem dX3_growth_87 : decode cX3_growth 87 = .ok (.invokestatic 36, 3) := by decide +kernel
theorem dX3_growth_90 : decode cX3_growth 90 = .ok (.ireturn, 1) := by decide +kernel
theorem dX3_workedOut_0 : decode cX3_workedOut 0 = .ok (.iconst 0, 1) := by decide +kernel
theorem dX3_workedOut_1 : decode cX3_workedOut 1 = .ok (.istore_n 1, 1) := by decide +kernel
theorem dX3_workedOut_2 : decode cX3_workedOut 2 = .ok (.iconst 0, 1) := by decide +kernel
theorem dX3_workedOut_3 : decode cX3_workedOut 3 = .ok (.istore_n 2, 1) := by decide +kernel
theorem dX3_workedOut_4 : decode cX3_workedOut 4 = .ok (.iload_n 2, 1) := by decide +kernel
theorem dX3_workedOut_5 : decode cX3_workedOut 5 = .ok (.aload_n 0, 1) := by decide +kernel
theorem dX3_workedOut_6 : decode cX3_workedOut 6 = .ok (.getfield 13, 3) := by decide +kernel
theorem dX3_workedOut_9 : decode cX3_workedOut 9 = .ok (.if_icmp .ge 245, 3) := by decide +kernel
theorem dX3_workedOut_12 : decode cX3_workedOut 12 = .ok (.iload_n 1, 1) := by decide +kernel
theorem dX3_workedOut_13 : decode cX3_workedOut 13 = .ok (.sipush 128, 3) := by decide +kernel
theorem dX3_workedOut_16 : decode cX3_workedOut 16 = .ok (.if_icmp .ge 238, 3) := by decide +kernel
theorem dX3_workedOut_19 : decode cX3_workedOut 19 = .ok (.aload_n 0, 1) := by decide +kernel
theorem dX3_workedOut_20 : decode cX3_workedOut 20 = .ok (.getfield 17, 3) := by decide +kernel
theorem dX3_workedOut_23 : decode cX3_workedOut 23 = .ok (.iload_n 2, 1) := by decide +kernel
theorem dX3_workedOut_24 : decode cX3_workedOut 24 = .ok (.iaload, 1) := by decide +kernel
theorem dX3_workedOut_25 : decode cX3_workedOut 25 = .ok (.istore_n 3, 1) := by decide +kernel
theorem dX3_workedOut_26 : decode cX3_workedOut 26 = .ok (.iload_n 3, 1) := by decide +kernel
theorem dX3_workedOut_27 : decode cX3_workedOut 27 = .ok (.bipush 48, 2) := by decide +kernel
theorem dX3_workedOut_29 : decode cX3_workedOut 29 = .ok (.if_icmp .ne 21, 3) := by decide +kernel
theorem dX3_workedOut_32 : decode cX3_workedOut 32 = .ok (.aload_n 0, 1) := by decide +kernel
theorem dX3_workedOut_33 : decode cX3_workedOut 33 = .ok (.getfield 24, 3) := by decide +kernel
theorem dX3_workedOut_36 : decode cX3_workedOut 36 = .ok (.iload_n 1, 1) := by decide +kernel
theorem dX3_workedOut_37 : decode cX3_workedOut 37 = .ok (.iinc 1 1, 3) := by decide +kernel
theorem dX3_workedOut_40 : decode cX3_workedOut 40 = .ok (.aload_n 0, 1) := by decide +kernel
theorem dX3_workedOut_41 : decode cX3_workedOut 41 = .ok (.getfield 21, 3) := by decide +kernel
theorem dX3_workedOut_44 : decode cX3_workedOut 44 = .ok (.iload_n 2, 1) := by decide +kernel
theorem dX3_workedOut_45 : decode cX3_workedOut 45 = .ok (.iaload, 1) := by decide +kernel
theorem dX3_workedOut_46 : decode cX3_workedOut 46 = .ok (.iastore, 1) := by decide +kernel
theorem dX3_workedOut_47 : decode cX3_workedOut 47 = .ok (.goto 201, 3) := by decide +kernel
theorem dX3_workedOut_50 : decode cX3_workedOut 50 = .ok (.iload_n 3, 1) := by decide +kernel
theorem dX3_workedOut_51 : decode cX3_workedOut 51 = .ok (.bipush 110, 2) := by decide +kernel
theorem dX3_workedOut_53 : decode cX3_workedOut 53 = .ok (.if_icmp .ne 44, 3) := by decide +kernel
theorem dX3_workedOut_56 : decode cX3_workedOut 56 = .ok (.aload_n 0, 1) := by decide +kernel
theorem dX3_workedOut_57 : decode cX3_workedOut 57 = .ok (.getfield 24, 3) := by decide +kernel
theorem dX3_workedOut_60 : decode cX3_workedOut 60 = .ok (.iload_n 1, 1) := by decide +kernel
theorem dX3_workedOut_61 : decode cX3_workedOut 61 = .ok (.iinc 1 1, 3) := by decide +kernel
theorem dX3_workedOut_64 : decode cX3_workedOut 64 = .ok (.aload_n 0, 1) := by decide +kernel
theorem dX3_workedOut_65 : decode cX3_workedOut 65 = .ok (.getfield 21, 3) := by decide +kernel
theorem dX3_workedOut_68 : decode cX3_workedOut 68 = .ok (.iload_n 2, 1) := by decide +kernel
theorem dX3_workedOut_69 : decode cX3_workedOut 69 = .ok (.iaload, 1) := by decide +kernel
theorem dX3_workedOut_70 : decode cX3_workedOut 70 = .ok (.iconst 0, 1) := by decide +kernel
theorem dX3_workedOut_71 : decode cX3_workedOut 71 = .ok (.iconst 5, 1) := by decide +kernel
theorem dX3_workedOut_72 : decode cX3_workedOut 72 = .ok (.invokestatic 46, 3) := by decide +kernel
theorem dX3_workedOut_75 : decode cX3_workedOut 75 = .ok (.ifCond .eq 17, 3) := by decide +kernel
theorem dX3_workedOut_78 : decode cX3_workedOut 78 = .ok (.aload_n 0, 1) := by decide +kernel
theorem dX3_workedOut_79 : decode cX3_workedOut 79 = .ok (.getfield 27, 3) := by decide +kernel
theorem dX3_workedOut_82 : decode cX3_workedOut 82 = .ok (.aload_n 0, 1) := by decide +kernel
theorem dX3_workedOut_83 : decode cX3_workedOut 83 = .ok (.getfield 21, 3) := by decide +kernel
theorem dX3_workedOut_86 : decode cX3_workedOut 86 = .ok (.iload_n 2, 1) := by decide +kernel
theorem dX3_workedOut_87 : decode cX3_workedOut 87 = .ok (.iaload, 1) := by decide +kernel
theorem dX3_workedOut_88 : decode cX3_workedOut 88 = .ok (.iaload, 1) := by decide +kernel
theorem dX3_workedOut_89 : decode cX3_workedOut 89 = .ok (.goto 4, 3) := by decide +kernel
theorem dX3_workedOut_92 : decode cX3_workedOut 92 = .ok (.iconst 0, 1) := by decide +kernel
theorem dX3_workedOut_93 : decode cX3_workedOut 93 = .ok (.iastore, 1) := by decide +kernel
theorem dX3_workedOut_94 : decode cX3_workedOut 94 = .ok (.goto 154, 3) := by decide +kernel
theorem dX3_workedOut_97 : decode cX3_workedOut 97 = .ok (.iload_n 1, 1) := by decide +kernel
theorem dX3_workedOut_98 : decode cX3_workedOut 98 = .ok (.iconst 1, 1) := by decide +kernel
theorem dX3_workedOut_99 : decode cX3_workedOut 99 = .ok (.if_icmp .ge 5, 3) := by decide +kernel
theorem dX3_workedOut_102 : decode cX3_workedOut 102 = .ok (.iconst 0, 1) := by decide +kernel
theorem dX3_workedOut_103 : decode cX3_workedOut 103 = .ok (.ireturn, 1) := by decide +kernel
theorem dX3_workedOut_104 : decode cX3_workedOut 104 = .ok (.iload_n 3, 1) := by decide +kernel
theorem dX3_workedOut_105 : decode cX3_workedOut 105 = .ok (.bipush 59, 2) := by decide +kernel
theorem dX3_workedOut_107 : decode cX3_workedOut 107 = .ok (.if_icmp .ne 12, 3) := by decide +kernel
theorem dX3_workedOut_110 : decode cX3_workedOut 110 = .ok (.aload_n 0, 1) := by decide +kernel
theorem dX3_workedOut_111 : decode cX3_workedOut 111 = .ok (.getfield 24, 3) := by decide +kernel
theorem dX3_workedOut_114 : decode cX3_workedOut 114 = .ok (.iload_n 1, 1) := by decide +kernel
theorem dX3_workedOut_115 : decode cX3_workedOut 115 = .ok (.iconst 1, 1) := by decide +kernel
theorem dX3_workedOut_116 : decode cX3_workedOut 116 = .ok (.isub, 1) := by decide +kernel
theorem dX3_workedOut_117 : decode cX3_workedOut 117 = .ok (.iaload, 1) := by decide +kernel
theorem dX3_workedOut_118 : decode cX3_workedOut 118 = .ok (.ireturn, 1) := by decide +kernel
theorem dX3_workedOut_119 : decode cX3_workedOut 119 = .ok (.iload_n 3, 1) := by decide +kernel
theorem dX3_workedOut_120 : decode cX3_workedOut 120 = .ok (.bipush 63, 2) := by decide +kernel
theorem dX3_workedOut_122 : decode cX3_workedOut 122 = .ok (.if_icmp .ne 33, 3) := by decide +kernel
theorem dX3_workedOut_125 : decode cX3_workedOut 125 = .ok (.iinc 1 (-1), 3) := by decide +kernel
theorem dX3_workedOut_128 : decode cX3_workedOut 128 = .ok (.aload_n 0, 1) := by decide +kernel
theorem dX3_workedOut_129 : decode cX3_workedOut 129 = .ok (.getfield 24, 3) := by decide +kernel
theorem dX3_workedOut_132 : decode cX3_workedOut 132 = .ok (.iload_n 1, 1) := by decide +kernel
theorem dX3_workedOut_133 : decode cX3_workedOut 133 = .ok (.iaload, 1) := by decide +kernel
theorem dX3_workedOut_134 : decode cX3_workedOut 134 = .ok (.ifCond .ne 16, 3) := by decide +kernel
theorem dX3_workedOut_137 : decode cX3_workedOut 137 = .ok (.iload_n 2, 1) := by decide +kernel
theorem dX3_workedOut_138 : decode cX3_workedOut 138 = .ok (.aload_n 0, 1) := by decide +kernel
theorem dX3_workedOut_139 : decode cX3_workedOut 139 = .ok (.getfield 21, 3) := by decide +kernel
theorem dX3_workedOut_142 : decode cX3_workedOut 142 = .ok (.iload_n 2, 1) := by decide +kernel
theorem dX3_workedOut_143 : decode cX3_workedOut 143 = .ok (.iaload, 1) := by decide +kernel
theorem dX3_workedOut_144 : decode cX3_workedOut 144 = .ok (.invokestatic 50, 3) := by decide +kernel
theorem dX3_workedOut_147 : decode cX3_workedOut 147 = .ok (.goto 4, 3) := by decide +kernel
theorem dX3_workedOut_150 : decode cX3_workedOut 150 = .ok (.iload_n 2, 1) := by decide +kernel
theorem dX3_workedOut_151 : decode cX3_workedOut 151 = .ok (.istore_n 2, 1) := by decide +kernel
theorem dX3_workedOut_152 : decode cX3_workedOut 152 = .ok (.goto 96, 3) := by decide +kernel
theorem dX3_workedOut_155 : decode cX3_workedOut 155 = .ok (.iload_n 3, 1) := by decide +kernel
theorem dX3_workedOut_156 : decode cX3_workedOut 156 = .ok (.bipush 126, 2) := by decide +kernel
theorem dX3_workedOut_158 : decode cX3_workedOut 158 = .ok (.if_icmp .ne 23, 3) := by decide +kernel
theorem dX3_workedOut_161 : decode cX3_workedOut 161 = .ok (.aload_n 0, 1) := by decide +kernel
theorem dX3_workedOut_162 : decode cX3_workedOut 162 = .ok (.getfield 24, 3) := by decide +kernel
theorem dX3_workedOut_165 : decode cX3_workedOut 165 = .ok (.iload_n 1, 1) := by decide +kernel
theorem dX3_workedOut_166 : decode cX3_workedOut 166 = .ok (.iconst 1, 1) := by decide +kernel
theorem dX3_workedOut_167 : decode cX3_workedOut 167 = .ok (.isub, 1) := by decide +kernel
theorem dX3_workedOut_168 : decode cX3_workedOut 168 = .ok (.aload_n 0, 1) := by decide +kernel
theorem dX3_workedOut_169 : decode cX3_workedOut 169 = .ok (.getfield 24, 3) := by decide +kernel
theorem dX3_workedOut_172 : decode cX3_workedOut 172 = .ok (.iload_n 1, 1) := by decide +kernel
theorem dX3_workedOut_173 : decode cX3_workedOut 173 = .ok (.iconst 1, 1) := by decide +kernel
theorem dX3_workedOut_174 : decode cX3_workedOut 174 = .ok (.isub, 1) := by decide +kernel
theorem dX3_workedOut_175 : decode cX3_workedOut 175 = .ok (.iaload, 1) := by decide +kernel
theorem dX3_workedOut_176 : decode cX3_workedOut 176 = .ok (.ineg, 1) := by decide +kernel
theorem dX3_workedOut_177 : decode cX3_workedOut 177 = .ok (.iastore, 1) := by decide +kernel
theorem dX3_workedOut_178 : decode cX3_workedOut 178 = .ok (.goto 70, 3) := by decide +kernel
theorem dX3_workedOut_181 : decode cX3_workedOut 181 = .ok (.iload_n 3, 1) := by decide +kernel
theorem dX3_workedOut_182 : decode cX3_workedOut 182 = .ok (.bipush 33, 2) := by decide +kernel
theorem dX3_workedOut_184 : decode cX3_workedOut 184 = .ok (.if_icmp .ne 30, 3) := by decide +kernel
theorem dX3_workedOut_187 : decode cX3_workedOut 187 = .ok (.aload_n 0, 1) := by decide +kernel
theorem dX3_workedOut_188 : decode cX3_workedOut 188 = .ok (.getfield 24, 3) := by decide +kernel
theorem dX3_workedOut_191 : decode cX3_workedOut 191 = .ok (.iload_n 1, 1) := by decide +kernel
theorem dX3_workedOut_192 : decode cX3_workedOut 192 = .ok (.iconst 1, 1) := by decide +kernel
theorem dX3_workedOut_193 : decode cX3_workedOut 193 = .ok (.isub, 1) := by decide +kernel
theorem dX3_workedOut_194 : decode cX3_workedOut 194 = .ok (.aload_n 0, 1) := by decide +kernel
theorem dX3_workedOut_195 : decode cX3_workedOut 195 = .ok (.getfield 24, 3) := by decide +kernel
theorem dX3_workedOut_198 : decode cX3_workedOut 198 = .ok (.iload_n 1, 1) := by decide +kernel
theorem dX3_workedOut_199 : decode cX3_workedOut 199 = .ok (.iconst 1, 1) := by decide +kernel
theorem dX3_workedOut_200 : decode cX3_workedOut 200 = .ok (.isub, 1) := by decide +kernel
theorem dX3_workedOut_201 : decode cX3_workedOut 201 = .ok (.iaload, 1) := by decide +kernel
theorem dX3_workedOut_202 : decode cX3_workedOut 202 = .ok (.ifCond .ne 7, 3) := by decide +kernel
theorem dX3_workedOut_205 : decode cX3_workedOut 205 = .ok (.iconst 1, 1) := by decide +kernel
theorem dX3_workedOut_206 : decode cX3_workedOut 206 = .ok (.goto 4, 3) := by decide +kernel
theorem dX3_workedOut_209 : decode cX3_workedOut 209 = .ok (.iconst 0, 1) := by decide +kernel
theorem dX3_workedOut_210 : decode cX3_workedOut 210 = .ok (.iastore, 1) := by decide +kernel
theorem dX3_workedOut_211 : decode cX3_workedOut 211 = .ok (.goto 37, 3) := by decide +kernel
theorem dX3_workedOut_214 : decode cX3_workedOut 214 = .ok (.iload_n 1, 1) := by decide +kernel
theorem dX3_workedOut_215 : decode cX3_workedOut 215 = .ok (.iconst 2, 1) := by decide +kernel
theorem dX3_workedOut_216 : decode cX3_workedOut 216 = .ok (.if_icmp .lt 32, 3) := by decide +kernel
theorem dX3_workedOut_219 : decode cX3_workedOut 219 = .ok (.iinc 1 (-1), 3) := by decide +kernel
theorem dX3_workedOut_222 : decode cX3_workedOut 222 = .ok (.aload_n 0, 1) := by decide +kernel
theorem dX3_workedOut_223 : decode cX3_workedOut 223 = .ok (.getfield 24, 3) := by decide +kernel
theorem dX3_workedOut_226 : decode cX3_workedOut 226 = .ok (.iload_n 1, 1) := by decide +kernel
theorem dX3_workedOut_227 : decode cX3_workedOut 227 = .ok (.iconst 1, 1) := by decide +kernel
theorem dX3_workedOut_228 : decode cX3_workedOut 228 = .ok (.isub, 1) := by decide +kernel
theorem dX3_workedOut_229 : decode cX3_workedOut 229 = .ok (.iload_n 3, 1) := by decide +kernel
theorem dX3_workedOut_230 : decode cX3_workedOut 230 = .ok (.aload_n 0, 1) := by decide +kernel
theorem dX3_workedOut_231 : decode cX3_workedOut 231 = .ok (.getfield 24, 3) := by decide +kernel
theorem dX3_workedOut_234 : decode cX3_workedOut 234 = .ok (.iload_n 1, 1) := by decide +kernel
theorem dX3_workedOut_235 : decode cX3_workedOut 235 = .ok (.iconst 1, 1) := by decide +kernel
theorem dX3_workedOut_236 : decode cX3_workedOut 236 = .ok (.isub, 1) := by decide +kernel
theorem dX3_workedOut_237 : decode cX3_workedOut 237 = .ok (.iaload, 1) := by decide +kernel
theorem dX3_workedOut_238 : decode cX3_workedOut 238 = .ok (.aload_n 0, 1) := by decide +kernel
theorem dX3_workedOut_239 : decode cX3_workedOut 239 = .ok (.getfield 24, 3) := by decide +kernel
theorem dX3_workedOut_242 : decode cX3_workedOut 242 = .ok (.iload_n 1, 1) := by decide +kernel
theorem dX3_workedOut_243 : decode cX3_workedOut 243 = .ok (.iaload, 1) := by decide +kernel
theorem dX3_workedOut_244 : decode cX3_workedOut 244 = .ok (.invokestatic 56, 3) := by decide +kernel
theorem dX3_workedOut_247 : decode cX3_workedOut 247 = .ok (.iastore, 1) := by decide +kernel
theorem dX3_workedOut_248 : decode cX3_workedOut 248 = .ok (.iinc 2 1, 3) := by decide +kernel
theorem dX3_workedOut_251 : decode cX3_workedOut 251 = .ok (.goto (-247), 3) := by decide +kernel
theorem dX3_workedOut_254 : decode cX3_workedOut 254 = .ok (.iconst 0, 1) := by decide +kernel
theorem dX3_workedOut_255 : decode cX3_workedOut 255 = .ok (.ireturn, 1) := by decide +kernel
theorem dX3_joined_0 : decode cX3_joined 0 = .ok (.iload_n 0, 1) := by decide +kernel
theorem dX3_joined_1 : decode cX3_joined 1 = .ok (.tableswitch 202 37 62 #[143, 188, 202, 202, 202, 127, 119, 202, 123, 202, 131, 202, 202, 202, 202, 202, 202, 202, 202, 202, 202, 202, 202, 155, 166, 177], 119) := by decide +kernel
theorem dX3_joined_120 : decode cX3_joined 120 = .ok (.iload_n 1, 1) := by decide +kernel
theorem dX3_joined_121 : decode cX3_joined 121 = .ok (.iload_n 2, 1) := by decide +kernel
theorem dX3_joined_122 : decode cX3_joined 122 = .ok (.iadd, 1) := by decide +kernel
theorem dX3_joined_123 : decode cX3_joined 123 = .ok (.ireturn, 1) := by decide +kernel
theorem dX3_joined_124 : decode cX3_joined 124 = .ok (.iload_n 1, 1) := by decide +kernel
theorem dX3_joined_125 : decode cX3_joined 125 = .ok (.iload_n 2, 1) := by decide +kernel
theorem dX3_joined_126 : decode cX3_joined 126 = .ok (.isub, 1) := by decide +kernel
theorem dX3_joined_127 : decode cX3_joined 127 = .ok (.ireturn, 1) := by decide +kernel
theorem dX3_joined_128 : decode cX3_joined 128 = .ok (.iload_n 1, 1) := by decide +kernel
theorem dX3_joined_129 : decode cX3_joined 129 = .ok (.iload_n 2, 1) := by decide +kernel
theorem dX3_joined_130 : decode cX3_joined 130 = .ok (.imul, 1) := by decide +kernel
theorem dX3_joined_131 : decode cX3_joined 131 = .ok (.ireturn, 1) := by decide +kernel
theorem dX3_joined_132 : decode cX3_joined 132 = .ok (.iload_n 2, 1) := by decide +kernel
theorem dX3_joined_133 : decode cX3_joined 133 = .ok (.ifCond .ne 7, 3) := by decide +kernel
theorem dX3_joined_136 : decode cX3_joined 136 = .ok (.iconst 0, 1) := by decide +kernel
theorem dX3_joined_137 : decode cX3_joined 137 = .ok (.goto 6, 3) := by decide +kernel
theorem dX3_joined_140 : decode cX3_joined 140 = .ok (.iload_n 1, 1) := by decide +kernel
theorem dX3_joined_141 : decode cX3_joined 141 = .ok (.iload_n 2, 1) := by decide +kernel
theorem dX3_joined_142 : decode cX3_joined 142 = .ok (.idiv, 1) := by decide +kernel
theorem dX3_joined_143 : decode cX3_joined 143 = .ok (.ireturn, 1) := by decide +kernel
theorem dX3_joined_144 : decode cX3_joined 144 = .ok (.iload_n 2, 1) := by decide +kernel
theorem dX3_joined_145 : decode cX3_joined 145 = .ok (.ifCond .ne 7, 3) := by decide +kernel
theorem dX3_joined_148 : decode cX3_joined 148 = .ok (.iconst 0, 1) := by decide +kernel
theorem dX3_joined_149 : decode cX3_joined 149 = .ok (.goto 6, 3) := by decide +kernel
theorem dX3_joined_152 : decode cX3_joined 152 = .ok (.iload_n 1, 1) := by decide +kernel
theorem dX3_joined_153 : decode cX3_joined 153 = .ok (.iload_n 2, 1) := by decide +kernel
theorem dX3_joined_154 : decode cX3_joined 154 = .ok (.irem, 1) := by decide +kernel
theorem dX3_joined_155 : decode cX3_joined 155 = .ok (.ireturn, 1) := by decide +kernel
theorem dX3_joined_156 : decode cX3_joined 156 = .ok (.iload_n 1, 1) := by decide +kernel
theorem dX3_joined_157 : decode cX3_joined 157 = .ok (.iload_n 2, 1) := by decide +kernel
theorem dX3_joined_158 : decode cX3_joined 158 = .ok (.if_icmp .ge 7, 3) := by decide +kernel
theorem dX3_joined_161 : decode cX3_joined 161 = .ok (.iconst 1, 1) := by decide +kernel
theorem dX3_joined_162 : decode cX3_joined 162 = .ok (.goto 4, 3) := by decide +kernel
theorem dX3_joined_165 : decode cX3_joined 165 = .ok (.iconst 0, 1) := by decide +kernel
theorem dX3_joined_166 : decode cX3_joined 166 = .ok (.ireturn, 1) := by decide +kernel
theorem dX3_joined_167 : decode cX3_joined 167 = .ok (.iload_n 1, 1) := by decide +kernel
theorem dX3_joined_168 : decode cX3_joined 168 = .ok (.iload_n 2, 1) := by decide +kernel
theorem dX3_joined_169 : decode cX3_joined 169 = .ok (.if_icmp .ne 7, 3) := by decide +kernel
theorem dX3_joined_172 : decode cX3_joined 172 = .ok (.iconst 1, 1) := by decide +kernel
theorem dX3_joined_173 : decode cX3_joined 173 = .ok (.goto 4, 3) := by decide +kernel
theorem dX3_joined_176 : decode cX3_joined 176 = .ok (.iconst 0, 1) := by decide +kernel
theorem dX3_joined_177 : decode cX3_joined 177 = .ok (.ireturn, 1) := by decide +kernel
theorem dX3_joined_178 : decode cX3_joined 178 = .ok (.iload_n 1, 1) := by decide +kernel
theorem dX3_joined_179 : decode cX3_joined 179 = .ok (.iload_n 2, 1) := by decide +kernel
theorem dX3_joined_180 : decode cX3_joined 180 = .ok (.if_icmp .le 7, 3) := by decide +kernel
theorem dX3_joined_183 : decode cX3_joined 183 = .ok (.iconst 1, 1) := by decide +kernel
theorem dX3_joined_184 : decode cX3_joined 184 = .ok (.goto 4, 3) := by decide +kernel
theorem dX3_joined_187 : decode cX3_joined 187 = .ok (.iconst 0, 1) := by decide +kernel
theorem dX3_joined_188 : decode cX3_joined 188 = .ok (.ireturn, 1) := by decide +kernel
theorem dX3_joined_189 : decode cX3_joined 189 = .ok (.iload_n 1, 1) := by decide +kernel
theorem dX3_joined_190 : decode cX3_joined 190 = .ok (.ifCond .eq 11, 3) := by decide +kernel
theorem dX3_joined_193 : decode cX3_joined 193 = .ok (.iload_n 2, 1) := by decide +kernel
theorem dX3_joined_194 : decode cX3_joined 194 = .ok (.ifCond .eq 7, 3) := by decide +kernel
theorem dX3_joined_197 : decode cX3_joined 197 = .ok (.iconst 1, 1) := by decide +kernel
theorem dX3_joined_198 : decode cX3_joined 198 = .ok (.goto 4, 3) := by decide +kernel
theorem dX3_joined_201 : decode cX3_joined 201 = .ok (.iconst 0, 1) := by decide +kernel
theorem dX3_joined_202 : decode cX3_joined 202 = .ok (.ireturn, 1) := by decide +kernel
theorem dX3_joined_203 : decode cX3_joined 203 = .ok (.iload_n 1, 1) := by decide +kernel
theorem dX3_joined_204 : decode cX3_joined 204 = .ok (.ifCond .ne 7, 3) := by decide +kernel
theorem dX3_joined_207 : decode cX3_joined 207 = .ok (.iload_n 2, 1) := by decide +kernel
theorem dX3_joined_208 : decode cX3_joined 208 = .ok (.ifCond .eq 7, 3) := by decide +kernel
theorem dX3_joined_211 : decode cX3_joined 211 = .ok (.iconst 1, 1) := by decide +kernel
theorem dX3_joined_212 : decode cX3_joined 212 = .ok (.goto 4, 3) := by decide +kernel
theorem dX3_joined_215 : decode cX3_joined 215 = .ok (.iconst 0, 1) := by decide +kernel
theorem dX3_joined_216 : decode cX3_joined 216 = .ok (.ireturn, 1) := by decide +kernel
theorem dX4_init_0 : decode cX4_init 0 = .ok (.aload_n 0, 1) := by decide +kernel
theorem dX4_init_1 : decode cX4_init 1 = .ok (.invokespecial 3, 3) := by decide +kernel
theorem dX4_init_4 : decode cX4_init 4 = .ok (.aload_n 0, 1) := by decide +kernel
theorem dX4_init_5 : decode cX4_init 5 = .ok (.iconst 0, 1) := by decide +kernel
theorem dX4_init_6 : decode cX4_init 6 = .ok (.putfield 9, 3) := by decide +kernel
theorem dX4_init_9 : decode cX4_init 9 = .ok (.aload_n 0, 1) := by decide +kernel
theorem dX4_init_10 : decode cX4_init 10 = .ok (.iconst 0, 1) := by decide +kernel
theorem dX4_init_11 : decode cX4_init 11 = .ok (.putfield 15, 3) := by decide +kernel
theorem dX4_init_14 : decode cX4_init 14 = .ok (.aload_n 0, 1) := by decide +kernel
theorem dX4_init_15 : decode cX4_init 15 = .ok (.bipush 10, 2) := by decide +kernel
theorem dX4_init_17 : decode cX4_init 17 = .ok (.putfield 18, 3) := by decide +kernel
theorem dX4_init_20 : decode cX4_init 20 = .ok (.aload_n 0, 1) := by decide +kernel
theorem dX4_init_21 : decode cX4_init 21 = .ok (.iconst 0, 1) := by decide +kernel
theorem dX4_init_22 : decode cX4_init 22 = .ok (.putfield 21, 3) := by decide +kernel
theorem dX4_init_25 : decode cX4_init 25 = .ok (.aload_n 0, 1) := by decide +kernel
theorem dX4_init_26 : decode cX4_init 26 = .ok (.iconst 0, 1) := by decide +kernel
theorem dX4_init_27 : decode cX4_init 27 = .ok (.putfield 24, 3) := by decide +kernel
theorem dX4_init_30 : decode cX4_init 30 = .ok (.aload_n 0, 1) := by decide +kernel
theorem dX4_init_31 : decode cX4_init 31 = .ok (.bipush 10, 2) := by decide +kernel
theorem dX4_init_33 : decode cX4_init 33 = .ok (.newarray .int, 2) := by decide +kernel
theorem dX4_init_35 : decode cX4_init 35 = .ok (.putfield 27, 3) := by decide +kernel
theorem dX4_init_38 : decode cX4_init 38 = .ok (.aload_n 0, 1) := by decide +kernel
theorem dX4_init_39 : decode cX4_init 39 = .ok (.bipush 10, 2) := by decide +kernel
theorem dX4_init_41 : decode cX4_init 41 = .ok (.newarray .int, 2) := by decide +kernel
theorem dX4_init_43 : decode cX4_init 43 = .ok (.putfield 31, 3) := by decide +kernel
theorem dX4_init_46 : decode cX4_init 46 = .ok (.aload_n 0, 1) := by decide +kernel
theorem dX4_init_47 : decode cX4_init 47 = .ok (.bipush 10, 2) := by decide +kernel
theorem dX4_init_49 : decode cX4_init 49 = .ok (.newarray .int, 2) := by decide +kernel
theorem dX4_init_51 : decode cX4_init 51 = .ok (.putfield 34, 3) := by decide +kernel
theorem dX4_init_54 : decode cX4_init 54 = .ok (.aload_n 0, 1) := by decide +kernel
theorem dX4_init_55 : decode cX4_init 55 = .ok (.bipush 10, 2) := by decide +kernel
theorem dX4_init_57 : decode cX4_init 57 = .ok (.newarray .int, 2) := by decide +kernel
theorem dX4_init_59 : decode cX4_init 59 = .ok (.putfield 37, 3) := by decide +kernel
theorem dX4_init_62 : decode cX4_init 62 = .ok (.aload_n 0, 1) := by decide +kernel
theorem dX4_init_63 : decode cX4_init 63 = .ok (.bipush 10, 2) := by decide +kernel
theorem dX4_init_65 : decode cX4_init 65 = .ok (.newarray .int, 2) := by decide +kernel
theorem dX4_init_67 : decode cX4_init 67 = .ok (.putfield 40, 3) := by decide +kernel
theorem dX4_init_70 : decode cX4_init 70 = .ok (.aload_n 0, 1) := by decide +kernel
theorem dX4_init_71 : decode cX4_init 71 = .ok (.bipush 12, 2) := by decide +kernel
theorem dX4_init_73 : decode cX4_init 73 = .ok (.newarray .int, 2) := by decide +kernel
theorem dX4_init_75 : decode cX4_init 75 = .ok (.putfield 43, 3) := by decide +kernel
theorem dX4_init_78 : decode cX4_init 78 = .ok (.aload_n 0, 1) := by decide +kernel
theorem dX4_init_79 : decode cX4_init 79 = .ok (.bipush 10, 2) := by decide +kernel
theorem dX4_init_81 : decode cX4_init 81 = .ok (.newarray .int, 2) := by decide +kernel
theorem dX4_init_83 : decode cX4_init 83 = .ok (.putfield 46, 3) := by decide +kernel
theorem dX4_init_86 : decode cX4_init 86 = .ok (.aload_n 0, 1) := by decide +kernel
theorem dX4_init_87 : decode cX4_init 87 = .ok (.bipush 10, 2) := by decide +kernel
theorem dX4_init_89 : decode cX4_init 89 = .ok (.newarray .int, 2) := by decide +kernel
theorem dX4_init_91 : decode cX4_init 91 = .ok (.putfield 49, 3) := by decide +kernel
theorem dX4_init_94 : decode cX4_init 94 = .ok (.aload_n 0, 1) := by decide +kernel
theorem dX4_init_95 : decode cX4_init 95 = .ok (.bipush 12, 2) := by decide +kernel
theorem dX4_init_97 : decode cX4_init 97 = .ok (.newarray .int, 2) := by decide +kernel
theorem dX4_init_99 : decode cX4_init 99 = .ok (.putfield 52, 3) := by decide +kernel
theorem dX4_init_102 : decode cX4_init 102 = .ok (.iconst 0, 1) := by decide +kernel
theorem dX4_init_103 : decode cX4_init 103 = .ok (.istore_n 1, 1) := by decide +kernel
theorem dX4_init_104 : decode cX4_init 104 = .ok (.iload_n 1, 1) := by decide +kernel
theorem dX4_init_105 : decode cX4_init 105 = .ok (.bipush 12, 2) := by decide +kernel
theorem dX4_init_107 : decode cX4_init 107 = .ok (.if_icmp .ge 16, 3) := by decide +kernel
theorem dX4_init_110 : decode cX4_init 110 = .ok (.aload_n 0, 1) := by decide +kernel
theorem dX4_init_111 : decode cX4_init 111 = .ok (.getfield 43, 3) := by decide +kernel
theorem dX4_init_114 : decode cX4_init 114 = .ok (.iload_n 1, 1) := by decide +kernel
theorem dX4_init_115 : decode cX4_init 115 = .ok (.iconst (-1), 1) := by decide +kernel
theorem dX4_init_116 : decode cX4_init 116 = .ok (.iastore, 1) := by decide +kernel
theorem dX4_init_117 : decode cX4_init 117 = .ok (.iinc 1 1, 3) := by decide +kernel
theorem dX4_init_120 : decode cX4_init 120 = .ok (.goto (-16), 3) := by decide +kernel
theorem dX4_init_123 : decode cX4_init 123 = .ok (.return_, 1) := by decide +kernel
theorem dX4_become_0 : decode cX4_become 0 = .ok (.aload_n 0, 1) := by decide +kernel
theorem dX4_become_1 : decode cX4_become 1 = .ok (.aload_n 1, 1) := by decide +kernel
theorem dX4_become_2 : decode cX4_become 2 = .ok (.getfield 9, 3) := by decide +kernel
theorem dX4_become_5 : decode cX4_become 5 = .ok (.putfield 9, 3) := by decide +kernel
theorem dX4_become_8 : decode cX4_become 8 = .ok (.aload_n 0, 1) := by decide +kernel
theorem dX4_become_9 : decode cX4_become 9 = .ok (.aload_n 1, 1) := by decide +kernel
theorem dX4_become_10 : decode cX4_become 10 = .ok (.getfield 18, 3) := by decide +kernel
theorem dX4_become_13 : decode cX4_become 13 = .ok (.putfield 18, 3) := by decide +kernel
theorem dX4_become_16 : decode cX4_become 16 = .ok (.aload_n 0, 1) := by decide +kernel
theorem dX4_become_17 : decode cX4_become 17 = .ok (.aload_n 1, 1) := by decide +kernel
theorem dX4_become_18 : decode cX4_become 18 = .ok (.getfield 21, 3) := by decide +kernel
theorem dX4_become_21 : decode cX4_become 21 = .ok (.putfield 21, 3) := by decide +kernel
theorem dX4_become_24 : decode cX4_become 24 = .ok (.aload_n 1, 1) := by decide +kernel
theorem dX4_become_25 : decode cX4_become 25 = .ok (.getfield 27, 3) := by decide +kernel
theorem dX4_become_28 : decode cX4_become 28 = .ok (.iconst 0, 1) := by decide +kernel
theorem dX4_become_29 : decode cX4_become 29 = .ok (.aload_n 0, 1) := by decide +kernel
theorem dX4_become_30 : decode cX4_become 30 = .ok (.getfield 27, 3) := by decide +kernel
theorem dX4_become_33 : decode cX4_become 33 = .ok (.iconst 0, 1) := by decide +kernel
theorem dX4_become_34 : decode cX4_become 34 = .ok (.bipush 10, 2) := by decide +kernel
theorem dX4_become_36 : decode cX4_become 36 = .ok (.invokestatic 55, 3) := by decide +kernel
theorem dX4_become_39 : decode cX4_become 39 = .ok (.aload_n 1, 1) := by decide +kernel
theorem dX4_become_40 : decode cX4_become 40 = .ok (.getfield 31, 3) := by decide +kernel
theorem dX4_become_43 : decode cX4_become 43 = .ok (.iconst 0, 1) := by decide +kernel
theorem dX4_become_44 : decode cX4_become 44 = .ok (.aload_n 0, 1) := by decide +kernel
theorem dX4_become_45 : decode cX4_become 45 = .ok (.getfield 31, 3) := by decide +kernel
theorem dX4_become_48 : decode cX4_become 48 = .ok (.iconst 0, 1) := by decide +kernel
theorem dX4_become_49 : decode cX4_become 49 = .ok (.bipush 10, 2) := by decide +kernel
theorem dX4_become_51 : decode cX4_become 51 = .ok (.invokestatic 55, 3) := by decide +kernel
theorem dX4_become_54 : decode cX4_become 54 = .ok (.aload_n 1, 1) := by decide +kernel
theorem dX4_become_55 : decode cX4_become 55 = .ok (.getfield 34, 3) := by decide +kernel
theorem dX4_become_58 : decode cX4_become 58 = .ok (.iconst 0, 1) := by decide +kernel
theorem dX4_become_59 : decode cX4_become 59 = .ok (.aload_n 0, 1) := by decide +kernel
theorem dX4_become_60 : decode cX4_become 60 = .ok (.getfield 34, 3) := by decide +kernel
theorem dX4_become_63 : decode cX4_become 63 = .ok (.iconst 0, 1) := by decide +kernel
theorem dX4_become_64 : decode cX4_become 64 = .ok (.bipush 10, 2) := by decide +kernel
theorem dX4_become_66 : decode cX4_become 66 = .ok (.invokestatic 55, 3) := by decide +kernel
theorem dX4_become_69 : decode cX4_become 69 = .ok (.aload_n 1, 1) := by decide +kernel
theorem dX4_become_70 : decode cX4_become 70 = .ok (.getfield 40, 3) := by decide +kernel
theorem dX4_become_73 : decode cX4_become 73 = .ok (.iconst 0, 1) := by decide +kernel
theorem dX4_become_74 : decode cX4_become 74 = .ok (.aload_n 0, 1) := by decide +kernel
theorem dX4_become_75 : decode cX4_become 75 = .ok (.getfield 40, 3) := by decide +kernel
theorem dX4_become_78 : decode cX4_become 78 = .ok (.iconst 0, 1) := by decide +kernel
theorem dX4_become_79 : decode cX4_become 79 = .ok (.bipush 10, 2) := by decide +kernel
theorem dX4_become_81 : decode cX4_become 81 = .ok (.invokestatic 55, 3) := by decide +kernel
theorem dX4_become_84 : decode cX4_become 84 = .ok (.aload_n 1, 1) := by decide +kernel
theorem dX4_become_85 : decode cX4_become 85 = .ok (.getfield 43, 3) := by decide +kernel
theorem dX4_become_88 : decode cX4_become 88 = .ok (.iconst 0, 1) := by decide +kernel
theorem dX4_become_89 : decode cX4_become 89 = .ok (.aload_n 0, 1) := by decide +kernel
theorem dX4_become_90 : decode cX4_become 90 = .ok (.getfield 43, 3) := by decide +kernel
theorem dX4_become_93 : decode cX4_become 93 = .ok (.iconst 0, 1) := by decide +kernel
theorem dX4_become_94 : decode cX4_become 94 = .ok (.bipush 12, 2) := by decide +kernel
theorem dX4_become_96 : decode cX4_become 96 = .ok (.invokestatic 55, 3) := by decide +kernel
theorem dX4_become_99 : decode cX4_become 99 = .ok (.aload_n 0, 1) := by decide +kernel
theorem dX4_become_100 : decode cX4_become 100 = .ok (.aload_n 1, 1) := by decide +kernel
theorem dX4_become_101 : decode cX4_become 101 = .ok (.invokevirtual 61, 3) := by decide +kernel
theorem dX4_become_104 : decode cX4_become 104 = .ok (.return_, 1) := by decide +kernel
theorem dX4_becomeInMind_0 : decode cX4_becomeInMind 0 = .ok (.aload_n 0, 1) := by decide +kernel
theorem dX4_becomeInMind_1 : decode cX4_becomeInMind 1 = .ok (.aload_n 1, 1) := by decide +kernel
theorem dX4_becomeInMind_2 : decode cX4_becomeInMind 2 = .ok (.getfield 15, 3) := by decide +kernel
theorem dX4_becomeInMind_5 : decode cX4_becomeInMind 5 = .ok (.putfield 15, 3) := by decide +kernel
theorem dX4_becomeInMind_8 : decode cX4_becomeInMind 8 = .ok (.aload_n 1, 1) := by decide +kernel
theorem dX4_becomeInMind_9 : decode cX4_becomeInMind 9 = .ok (.getfield 37, 3) := by decide +kernel
theorem dX4_becomeInMind_12 : decode cX4_becomeInMind 12 = .ok (.iconst 0, 1) := by decide +kernel
theorem dX4_becomeInMind_13 : decode cX4_becomeInMind 13 = .ok (.aload_n 0, 1) := by decide +kernel
theorem dX4_becomeInMind_14 : decode cX4_becomeInMind 14 = .ok (.getfield 37, 3) := by decide +kernel
theorem dX4_becomeInMind_17 : decode cX4_becomeInMind 17 = .ok (.iconst 0, 1) := by decide +kernel
theorem dX4_becomeInMind_18 : decode cX4_becomeInMind 18 = .ok (.bipush 10, 2) := by decide +kernel
theorem dX4_becomeInMind_20 : decode cX4_becomeInMind 20 = .ok (.invokestatic 55, 3) := by decide +kernel
theorem dX4_becomeInMind_23 : decode cX4_becomeInMind 23 = .ok (.return_, 1) := by decide +kernel
theorem dX4_mayCome_0 : decode cX4_mayCome 0 = .ok (.iload_n 1, 1) := by decide +kernel
theorem dX4_mayCome_1 : decode cX4_mayCome 1 = .ok (.invokestatic 65, 3) := by decide +kernel
theorem dX4_mayCome_4 : decode cX4_mayCome 4 = .ok (.ifCond .eq 36, 3) := by decide +kernel
theorem dX4_mayCome_7 : decode cX4_mayCome 7 = .ok (.aload_n 0, 1) := by decide +kernel
theorem dX4_mayCome_8 : decode cX4_mayCome 8 = .ok (.getfield 43, 3) := by decide +kernel
theorem dX4_mayCome_11 : decode cX4_mayCome 11 = .ok (.iload_n 1, 1) := by decide +kernel
theorem dX4_mayCome_12 : decode cX4_mayCome 12 = .ok (.iaload, 1) := by decide +kernel
theorem dX4_mayCome_13 : decode cX4_mayCome 13 = .ok (.ifCond .ge 27, 3) := by decide +kernel
theorem dX4_mayCome_16 : decode cX4_mayCome 16 = .ok (.iload_n 2, 1) := by decide +kernel
theorem dX4_mayCome_17 : decode cX4_mayCome 17 = .ok (.iconst 0, 1) := by decide +kernel
theorem dX4_mayCome_18 : decode cX4_mayCome 18 = .ok (.bipush 9, 2) := by decide +kernel
theorem dX4_mayCome_20 : decode cX4_mayCome 20 = .ok (.invokestatic 69, 3) := by decide +kernel
theorem dX4_mayCome_23 : decode cX4_mayCome 23 = .ok (.ifCond .eq 17, 3) := by decide +kernel
theorem dX4_mayCome_26 : decode cX4_mayCome 26 = .ok (.iload_n 3, 1) := by decide +kernel
theorem dX4_mayCome_27 : decode cX4_mayCome 27 = .ok (.iconst 0, 1) := by decide +kernel
theorem dX4_mayCome_28 : decode cX4_mayCome 28 = .ok (.bipush 99, 2) := by decide +kernel
theorem dX4_mayCome_30 : decode cX4_mayCome 30 = .ok (.invokestatic 69, 3) := by decide +kernel
theorem dX4_mayCome_33 : decode cX4_mayCome 33 = .ok (.ifCond .eq 7, 3) := by decide +kernel
theorem dX4_mayCome_36 : decode cX4_mayCome 36 = .ok (.iconst 1, 1) := by decide +kernel
theorem dX4_mayCome_37 : decode cX4_mayCome 37 = .ok (.goto 4, 3) := by decide +kernel
theorem dX4_mayCome_40 : decode cX4_mayCome 40 = .ok (.iconst 0, 1) := by decide +kernel
theorem dX4_mayCome_41 : decode cX4_mayCome 41 = .ok (.ireturn, 1) := by decide +kernel
theorem dX4_add_0 : decode cX4_add 0 = .ok (.aload_n 0, 1) := by decide +kernel
theorem dX4_add_1 : decode cX4_add 1 = .ok (.dup, 1) := by decide +kernel
theorem dX4_add_2 : decode cX4_add 2 = .ok (.getfield 9, 3) := by decide +kernel
theorem dX4_add_5 : decode cX4_add 5 = .ok (.dup_x1, 1) := by decide +kernel
theorem dX4_add_6 : decode cX4_add 6 = .ok (.iconst 1, 1) := by decide +kernel
theorem dX4_add_7 : decode cX4_add 7 = .ok (.iadd, 1) := by decide +kernel
theorem dX4_add_8 : decode cX4_add 8 = .ok (.putfield 9, 3) := by decide +kernel
theorem dX4_add_11 : decode cX4_add 11 = .ok (.istore 4, 2) := by decide +kernel
theorem dX4_add_13 : decode cX4_add 13 = .ok (.aload_n 0, 1) := by decide +kernel
theorem dX4_add_14 : decode cX4_add 14 = .ok (.getfield 27, 3) := by decide +kernel
theorem dX4_add_17 : decode cX4_add 17 = .ok (.iload 4, 2) := by decide +kernel
theorem dX4_add_19 : decode cX4_add 19 = .ok (.iload_n 1, 1) := by decide +kernel
theorem dX4_add_20 : decode cX4_add 20 = .ok (.iastore, 1) := by decide +kernel
theorem dX4_add_21 : decode cX4_add 21 = .ok (.aload_n 0, 1) := by decide +kernel
theorem dX4_add_22 : decode cX4_add 22 = .ok (.getfield 31, 3) := by decide +kernel
theorem dX4_add_25 : decode cX4_add 25 = .ok (.iload 4, 2) := by decide +kernel
theorem dX4_add_27 : decode cX4_add 27 = .ok (.iload_n 2, 1) := by decide +kernel
theorem dX4_add_28 : decode cX4_add 28 = .ok (.iastore, 1) := by decide +kernel
theorem dX4_add_29 : decode cX4_add 29 = .ok (.aload_n 0, 1) := by decide +kernel
theorem dX4_add_30 : decode cX4_add 30 = .ok (.getfield 34, 3) := by decide +kernel
theorem dX4_add_33 : decode cX4_add 33 = .ok (.iload 4, 2) := by decide +kernel
theorem dX4_add_35 : decode cX4_add 35 = .ok (.iload_n 3, 1) := by decide +kernel
theorem dX4_add_36 : decode cX4_add 36 = .ok (.iastore, 1) := by decide +kernel
theorem dX4_add_37 : decode cX4_add 37 = .ok (.aload_n 0, 1) := by decide +kernel
theorem dX4_add_38 : decode cX4_add 38 = .ok (.getfield 37, 3) := by decide +kernel
theorem dX4_add_41 : decode cX4_add 41 = .ok (.iload 4, 2) := by decide +kernel
theorem dX4_add_43 : decode cX4_add 43 = .ok (.bipush 20, 2) := by decide +kernel
theorem dX4_add_45 : decode cX4_add 45 = .ok (.iastore, 1) := by decide +kernel
theorem dX4_add_46 : decode cX4_add 46 = .ok (.aload_n 0, 1) := by decide +kernel
theorem dX4_add_47 : decode cX4_add 47 = .ok (.getfield 40, 3) := by decide +kernel
theorem dX4_add_50 : decode cX4_add 50 = .ok (.iload 4, 2) := by decide +kernel
theorem dX4_add_52 : decode cX4_add 52 = .ok (.iconst 0, 1) := by decide +kernel
theorem dX4_add_53 : decode cX4_add 53 = .ok (.iastore, 1) := by decide +kernel
theorem dX4_add_54 : decode cX4_add 54 = .ok (.aload_n 0, 1) := by decide +kernel
theorem dX4_add_55 : decode cX4_add 55 = .ok (.getfield 43, 3) := by decide +kernel
theorem dX4_add_58 : decode cX4_add 58 = .ok (.iload_n 1, 1) := by decide +kernel
theorem dX4_add_59 : decode cX4_add 59 = .ok (.iload 4, 2) := by decide +kernel
theorem dX4_add_61 : decode cX4_add 61 = .ok (.iastore, 1) := by decide +kernel
theorem dX4_add_62 : decode cX4_add 62 = .ok (.iload 4, 2) := by decide +kernel
theorem dX4_add_64 : decode cX4_add 64 = .ok (.ireturn, 1) := by decide +kernel
theorem dX4_addFrom_0 : decode cX4_addFrom 0 = .ok (.iconst 0, 1) := by decide +kernel
theorem dX4_addFrom_1 : decode cX4_addFrom 1 = .ok (.istore 4, 2) := by decide +kernel
theorem dX4_addFrom_3 : decode cX4_addFrom 3 = .ok (.iload 4, 2) := by decide +kernel
theorem dX4_addFrom_5 : decode cX4_addFrom 5 = .ok (.iload_n 3, 1) := by decide +kernel
theorem dX4_addFrom_6 : decode cX4_addFrom 6 = .ok (.if_icmp .ge 98, 3) := by decide +kernel
theorem dX4_addFrom_9 : decode cX4_addFrom 9 = .ok (.aload_n 0, 1) := by decide +kernel
theorem dX4_addFrom_10 : decode cX4_addFrom 10 = .ok (.getfield 9, 3) := by decide +kernel
theorem dX4_addFrom_13 : decode cX4_addFrom 13 = .ok (.bipush 10, 2) := by decide +kernel
theorem dX4_addFrom_15 : decode cX4_addFrom 15 = .ok (.if_icmp .ge 89, 3) := by decide +kernel
theorem dX4_addFrom_18 : decode cX4_addFrom 18 = .ok (.iload_n 2, 1) := by decide +kernel
theorem dX4_addFrom_19 : decode cX4_addFrom 19 = .ok (.iconst 3, 1) := by decide +kernel
theorem dX4_addFrom_20 : decode cX4_addFrom 20 = .ok (.iload 4, 2) := by decide +kernel
theorem dX4_addFrom_22 : decode cX4_addFrom 22 = .ok (.imul, 1) := by decide +kernel
theorem dX4_addFrom_23 : decode cX4_addFrom 23 = .ok (.iadd, 1) := by decide +kernel
theorem dX4_addFrom_24 : decode cX4_addFrom 24 = .ok (.istore 5, 2) := by decide +kernel
theorem dX4_addFrom_26 : decode cX4_addFrom 26 = .ok (.aload_n 1, 1) := by decide +kernel
theorem dX4_addFrom_27 : decode cX4_addFrom 27 = .ok (.iload 5, 2) := by decide +kernel
theorem dX4_addFrom_29 : decode cX4_addFrom 29 = .ok (.iconst 3, 1) := by decide +kernel
theorem dX4_addFrom_30 : decode cX4_addFrom 30 = .ok (.invokevirtual 73, 3) := by decide +kernel
theorem dX4_addFrom_33 : decode cX4_addFrom 33 = .ok (.ifCond .ne 6, 3) := by decide +kernel
theorem dX4_addFrom_36 : decode cX4_addFrom 36 = .ok (.goto 68, 3) := by decide +kernel
theorem dX4_addFrom_39 : decode cX4_addFrom 39 = .ok (.aload_n 0, 1) := by decide +kernel
theorem dX4_addFrom_40 : decode cX4_addFrom 40 = .ok (.aload_n 1, 1) := by decide +kernel
theorem dX4_addFrom_41 : decode cX4_addFrom 41 = .ok (.iload 5, 2) := by decide +kernel
theorem dX4_addFrom_43 : decode cX4_addFrom 43 = .ok (.invokevirtual 79, 3) := by decide +kernel
theorem dX4_addFrom_46 : decode cX4_addFrom 46 = .ok (.aload_n 1, 1) := by decide +kernel
theorem dX4_addFrom_47 : decode cX4_addFrom 47 = .ok (.iload 5, 2) := by decide +kernel
theorem dX4_addFrom_49 : decode cX4_addFrom 49 = .ok (.iconst 1, 1) := by decide +kernel
theorem dX4_addFrom_50 : decode cX4_addFrom 50 = .ok (.iadd, 1) := by decide +kernel
theorem dX4_addFrom_51 : decode cX4_addFrom 51 = .ok (.invokevirtual 79, 3) := by decide +kernel
theorem dX4_addFrom_54 : decode cX4_addFrom 54 = .ok (.aload_n 1, 1) := by decide +kernel
theorem dX4_addFrom_55 : decode cX4_addFrom 55 = .ok (.iload 5, 2) := by decide +kernel
theorem dX4_addFrom_57 : decode cX4_addFrom 57 = .ok (.iconst 2, 1) := by decide +kernel
theorem dX4_addFrom_58 : decode cX4_addFrom 58 = .ok (.iadd, 1) := by decide +kernel
theorem dX4_addFrom_59 : decode cX4_addFrom 59 = .ok (.invokevirtual 79, 3) := by decide +kernel
theorem dX4_addFrom_62 : decode cX4_addFrom 62 = .ok (.invokevirtual 83, 3) := by decide +kernel
theorem dX4_addFrom_65 : decode cX4_addFrom 65 = .ok (.ifCond .ne 6, 3) := by decide +kernel
theorem dX4_addFrom_68 : decode cX4_addFrom 68 = .ok (.goto 36, 3) := by decide +kernel
theorem dX4_addFrom_71 : decode cX4_addFrom 71 = .ok (.aload_n 0, 1) := by decide +kernel
theorem dX4_addFrom_72 : decode cX4_addFrom 72 = .ok (.aload_n 1, 1) := by decide +kernel
theorem dX4_addFrom_73 : decode cX4_addFrom 73 = .ok (.iload 5, 2) := by decide +kernel
theorem dX4_addFrom_75 : decode cX4_addFrom 75 = .ok (.invokevirtual 79, 3) := by decide +kernel
theorem dX4_addFrom_78 : decode cX4_addFrom 78 = .ok (.aload_n 1, 1) := by decide +kernel
theorem dX4_addFrom_79 : decode cX4_addFrom 79 = .ok (.iload 5, 2) := by decide +kernel
theorem dX4_addFrom_81 : decode cX4_addFrom 81 = .ok (.iconst 1, 1) := by decide +kernel
theorem dX4_addFrom_82 : decode cX4_addFrom 82 = .ok (.iadd, 1) := by decide +kernel
theorem dX4_addFrom_83 : decode cX4_addFrom 83 = .ok (.invokevirtual 79, 3) := by decide +kernel
theorem dX4_addFrom_86 : decode cX4_addFrom 86 = .ok (.aload_n 1, 1) := by decide +kernel
theorem dX4_addFrom_87 : decode cX4_addFrom 87 = .ok (.iload 5, 2) := by decide +kernel
theorem dX4_addFrom_89 : decode cX4_addFrom 89 = .ok (.iconst 2, 1) := by decide +kernel
theorem dX4_addFrom_90 : decode cX4_addFrom 90 = .ok (.iadd, 1) := by decide +kernel
theorem dX4_addFrom_91 : decode cX4_addFrom 91 = .ok (.invokevirtual 79, 3) := by decide +kernel
theorem dX4_addFrom_94 : decode cX4_addFrom 94 = .ok (.invokevirtual 86, 3) := by decide +kernel
theorem dX4_addFrom_97 : decode cX4_addFrom 97 = .ok (.pop, 1) := by decide +kernel
theorem dX4_addFrom_98 : decode cX4_addFrom 98 = .ok (.iinc 4 1, 3) := by decide +kernel
theorem dX4_addFrom_101 : decode cX4_addFrom 101 = .ok (.goto (-98), 3) := by decide +kernel
theorem dX4_addFrom_104 : decode cX4_addFrom 104 = .ok (.iload 4, 2) := by decide +kernel
theorem dX4_addFrom_106 : decode cX4_addFrom 106 = .ok (.ireturn, 1) := by decide +kernel
theorem dX4_isTakenByOther_0 : decode cX4_isTakenByOther 0 = .ok (.aload_n 0, 1) := by decide +kernel
theorem dX4_isTakenByOther_1 : decode cX4_isTakenByOther 1 = .ok (.getfield 43, 3) := by decide +kernel
theorem dX4_isTakenByOther_4 : decode cX4_isTakenByOther 4 = .ok (.iload_n 1, 1) := by decide +kernel
theorem dX4_isTakenByOther_5 : decode cX4_isTakenByOther 5 = .ok (.iaload, 1) := by decide +kernel
theorem dX4_isTakenByOther_6 : decode cX4_isTakenByOther 6 = .ok (.ifCond .lt 17, 3) := by decide +kernel
theorem dX4_isTakenByOther_9 : decode cX4_isTakenByOther 9 = .ok (.aload_n 0, 1) := by decide +kernel
theorem dX4_isTakenByOther_10 : decode cX4_isTakenByOther 10 = .ok (.getfield 43, 3) := by decide +kernel
theorem dX4_isTakenByOther_13 : decode cX4_isTakenByOther 13 = .ok (.iload_n 1, 1) := by decide +kernel
theorem dX4_isTakenByOther_14 : decode cX4_isTakenByOther 14 = .ok (.iaload, 1) := by decide +kernel
theorem dX4_isTakenByOther_15 : decode cX4_isTakenByOther 15 = .ok (.iload_n 2, 1) := by decide +kernel
theorem dX4_isTakenByOther_16 : decode cX4_isTakenByOther 16 = .ok (.if_icmp .eq 7, 3) := by decide +kernel
theorem dX4_isTakenByOther_19 : decode cX4_isTakenByOther 19 = .ok (.iconst 1, 1) := by decide +kernel
theorem dX4_isTakenByOther_20 : decode cX4_isTakenByOther 20 = .ok (.goto 4, 3) := by decide +kernel
theorem dX4_isTakenByOther_23 : decode cX4_isTakenByOther 23 = .ok (.iconst 0, 1) := by decide +kernel
theorem dX4_isTakenByOther_24 : decode cX4_isTakenByOther 24 = .ok (.ireturn, 1) := by decide +kernel
theorem dX4_get_0 : decode cX4_get 0 = .ok (.iload_n 2, 1) := by decide +kernel
theorem dX4_get_1 : decode cX4_get 1 = .ok (.tableswitch 88 0 6 #[43, 50, 57, 64, 71, 78, 83], 43) := by decide +kernel
theorem dX4_get_44 : decode cX4_get 44 = .ok (.aload_n 0, 1) := by decide +kernel
theorem dX4_get_45 : decode cX4_get 45 = .ok (.getfield 27, 3) := by decide +kernel
theorem dX4_get_48 : decode cX4_get 48 = .ok (.iload_n 1, 1) := by decide +kernel
theorem dX4_get_49 : decode cX4_get 49 = .ok (.iaload, 1) := by decide +kernel
theorem dX4_get_50 : decode cX4_get 50 = .ok (.ireturn, 1) := by decide +kernel
theorem dX4_get_51 : decode cX4_get 51 = .ok (.aload_n 0, 1) := by decide +kernel
theorem dX4_get_52 : decode cX4_get 52 = .ok (.getfield 31, 3) := by decide +kernel
theorem dX4_get_55 : decode cX4_get 55 = .ok (.iload_n 1, 1) := by decide +kernel
theorem dX4_get_56 : decode cX4_get 56 = .ok (.iaload, 1) := by decide +kernel
theorem dX4_get_57 : decode cX4_get 57 = .ok (.ireturn, 1) := by decide +kernel
theorem dX4_get_58 : decode cX4_get 58 = .ok (.aload_n 0, 1) := by decide +kernel
theorem dX4_get_59 : decode cX4_get 59 = .ok (.getfield 34, 3) := by decide +kernel
theorem dX4_get_62 : decode cX4_get 62 = .ok (.iload_n 1, 1) := by decide +kernel
theorem dX4_get_63 : decode cX4_get 63 = .ok (.iaload, 1) := by decide +kernel
theorem dX4_get_64 : decode cX4_get 64 = .ok (.ireturn, 1) := by decide +kernel
theorem dX4_get_65 : decode cX4_get 65 = .ok (.aload_n 0, 1) := by decide +kernel
theorem dX4_get_66 : decode cX4_get 66 = .ok (.getfield 37, 3) := by decide +kernel
theorem dX4_get_69 : decode cX4_get 69 = .ok (.iload_n 1, 1) := by decide +kernel
theorem dX4_get_70 : decode cX4_get 70 = .ok (.iaload, 1) := by decide +kernel
theorem dX4_get_71 : decode cX4_get 71 = .ok (.ireturn, 1) := by decide +kernel
theorem dX4_get_72 : decode cX4_get 72 = .ok (.aload_n 0, 1) := by decide +kernel
theorem dX4_get_73 : decode cX4_get 73 = .ok (.getfield 40, 3) := by decide +kernel
theorem dX4_get_76 : decode cX4_get 76 = .ok (.iload_n 1, 1) := by decide +kernel
theorem dX4_get_77 : decode cX4_get 77 = .ok (.iaload, 1) := by decide +kernel
theorem dX4_get_78 : decode cX4_get 78 = .ok (.ireturn, 1) := by decide +kernel
theorem dX4_get_79 : decode cX4_get 79 = .ok (.aload_n 0, 1) := by decide +kernel
theorem dX4_get_80 : decode cX4_get 80 = .ok (.getfield 15, 3) := by decide +kernel
theorem dX4_get_83 : decode cX4_get 83 = .ok (.ireturn, 1) := by decide +kernel
theorem dX4_get_84 : decode cX4_get 84 = .ok (.aload_n 0, 1) := by decide +kernel
theorem dX4_get_85 : decode cX4_get 85 = .ok (.getfield 18, 3) := by decide +kernel
theorem dX4_get_88 : decode cX4_get 88 = .ok (.ireturn, 1) := by decide +kernel
theorem dX4_get_89 : decode cX4_get 89 = .ok (.aload_n 0, 1) := by decide +kernel
theorem dX4_get_90 : decode cX4_get 90 = .ok (.getfield 21, 3) := by decide +kernel
theorem dX4_get_93 : decode cX4_get 93 = .ok (.ireturn, 1) := by decide +kernel
theorem dX4_set_0 : decode cX4_set 0 = .ok (.iload_n 2, 1) := by decide +kernel
theorem dX4_set_1 : decode cX4_set 1 = .ok (.tableswitch 108 0 6 #[43, 52, 62, 72, 82, 92, 100], 43) := by decide +kernel
theorem dX4_set_44 : decode cX4_set 44 = .ok (.aload_n 0, 1) := by decide +kernel
theorem dX4_set_45 : decode cX4_set 45 = .ok (.iload_n 1, 1) := by decide +kernel
theorem dX4_set_46 : decode cX4_set 46 = .ok (.iload_n 3, 1) := by decide +kernel
theorem dX4_set_47 : decode cX4_set 47 = .ok (.invokevirtual 90, 3) := by decide +kernel
theorem dX4_set_50 : decode cX4_set 50 = .ok (.goto 64, 3) := by decide +kernel
theorem dX4_set_53 : decode cX4_set 53 = .ok (.aload_n 0, 1) := by decide +kernel
theorem dX4_set_54 : decode cX4_set 54 = .ok (.getfield 31, 3) := by decide +kernel
theorem dX4_set_57 : decode cX4_set 57 = .ok (.iload_n 1, 1) := by decide +kernel
theorem dX4_set_58 : decode cX4_set 58 = .ok (.iload_n 3, 1) := by decide +kernel
theorem dX4_set_59 : decode cX4_set 59 = .ok (.iastore, 1) := by decide +kernel
theorem dX4_set_60 : decode cX4_set 60 = .ok (.goto 54, 3) := by decide +kernel
theorem dX4_set_63 : decode cX4_set 63 = .ok (.aload_n 0, 1) := by decide +kernel
theorem dX4_set_64 : decode cX4_set 64 = .ok (.getfield 34, 3) := by decide +kernel
theorem dX4_set_67 : decode cX4_set 67 = .ok (.iload_n 1, 1) := by decide +kernel
theorem dX4_set_68 : decode cX4_set 68 = .ok (.iload_n 3, 1) := by decide +kernel
theorem dX4_set_69 : decode cX4_set 69 = .ok (.iastore, 1) := by decide +kernel
theorem dX4_set_70 : decode cX4_set 70 = .ok (.goto 44, 3) := by decide +kernel
theorem dX4_set_73 : decode cX4_set 73 = .ok (.aload_n 0, 1) := by decide +kernel
theorem dX4_set_74 : decode cX4_set 74 = .ok (.getfield 37, 3) := by decide +kernel
theorem dX4_set_77 : decode cX4_set 77 = .ok (.iload_n 1, 1) := by decide +kernel
theorem dX4_set_78 : decode cX4_set 78 = .ok (.iload_n 3, 1) := by decide +kernel
theorem dX4_set_79 : decode cX4_set 79 = .ok (.iastore, 1) := by decide +kernel
theorem dX4_set_80 : decode cX4_set 80 = .ok (.goto 34, 3) := by decide +kernel
theorem dX4_set_83 : decode cX4_set 83 = .ok (.aload_n 0, 1) := by decide +kernel
theorem dX4_set_84 : decode cX4_set 84 = .ok (.getfield 40, 3) := by decide +kernel
theorem dX4_set_87 : decode cX4_set 87 = .ok (.iload_n 1, 1) := by decide +kernel
theorem dX4_set_88 : decode cX4_set 88 = .ok (.iload_n 3, 1) := by decide +kernel
theorem dX4_set_89 : decode cX4_set 89 = .ok (.iastore, 1) := by decide +kernel
theorem dX4_set_90 : decode cX4_set 90 = .ok (.goto 24, 3) := by decide +kernel
theorem dX4_set_93 : decode cX4_set 93 = .ok (.aload_n 0, 1) := by decide +kernel
theorem dX4_set_94 : decode cX4_set 94 = .ok (.iload_n 3, 1) := by decide +kernel
theorem dX4_set_95 : decode cX4_set 95 = .ok (.putfield 15, 3) := by decide +kernel
theorem dX4_set_98 : decode cX4_set 98 = .ok (.goto 16, 3) := by decide +kernel
theorem dX4_set_101 : decode cX4_set 101 = .ok (.aload_n 0, 1) := by decide +kernel
theorem dX4_set_102 : decode cX4_set 102 = .ok (.iload_n 3, 1) := by decide +kernel
theorem dX4_set_103 : decode cX4_set 103 = .ok (.putfield 18, 3) := by decide +kernel
theorem dX4_set_106 : decode cX4_set 106 = .ok (.goto 8, 3) := by decide +kernel
theorem dX4_set_109 : decode cX4_set 109 = .ok (.aload_n 0, 1) := by decide +kernel
theorem dX4_set_110 : decode cX4_set 110 = .ok (.iload_n 3, 1) := by decide +kernel
theorem dX4_set_111 : decode cX4_set 111 = .ok (.putfield 21, 3) := by decide +kernel
theorem dX4_set_114 : decode cX4_set 114 = .ok (.return_, 1) := by decide +kernel
theorem dX4_move_0 : decode cX4_move 0 = .ok (.aload_n 0, 1) := by decide +kernel
theorem dX4_move_1 : decode cX4_move 1 = .ok (.getfield 43, 3) := by decide +kernel
theorem dX4_move_4 : decode cX4_move 4 = .ok (.aload_n 0, 1) := by decide +kernel
theorem dX4_move_5 : decode cX4_move 5 = .ok (.getfield 27, 3) := by decide +kernel
theorem dX4_move_8 : decode cX4_move 8 = .ok (.iload_n 1, 1) := by decide +kernel
theorem dX4_move_9 : decode cX4_move 9 = .ok (.iaload, 1) := by decide +kernel
theorem dX4_move_10 : decode cX4_move 10 = .ok (.iconst (-1), 1) := by decide +kernel
theorem dX4_move_11 : decode cX4_move 11 = .ok (.iastore, 1) := by decide +kernel
theorem dX4_move_12 : decode cX4_move 12 = .ok (.aload_n 0, 1) := by decide +kernel
theorem dX4_move_13 : decode cX4_move 13 = .ok (.getfield 27, 3) := by decide +kernel
theorem dX4_move_16 : decode cX4_move 16 = .ok (.iload_n 1, 1) := by decide +kernel
theorem dX4_move_17 : decode cX4_move 17 = .ok (.iload_n 2, 1) := by decide +kernel
theorem dX4_move_18 : decode cX4_move 18 = .ok (.iastore, 1) := by decide +kernel
theorem dX4_move_19 : decode cX4_move 19 = .ok (.aload_n 0, 1) := by decide +kernel
theorem dX4_move_20 : decode cX4_move 20 = .ok (.getfield 43, 3) := by decide +kernel
theorem dX4_move_23 : decode cX4_move 23 = .ok (.iload_n 2, 1) := by decide +kernel
theorem dX4_move_24 : decode cX4_move 24 = .ok (.iload_n 1, 1) := by decide +kernel
theorem dX4_move_25 : decode cX4_move 25 = .ok (.iastore, 1) := by decide +kernel
theorem dX4_move_26 : decode cX4_move 26 = .ok (.return_, 1) := by decide +kernel
theorem dX4_changeCots_0 : decode cX4_changeCots 0 = .ok (.aload_n 0, 1) := by decide +kernel
theorem dX4_changeCots_1 : decode cX4_changeCots 1 = .ok (.getfield 43, 3) := by decide +kernel
theorem dX4_changeCots_4 : decode cX4_changeCots 4 = .ok (.iload_n 1, 1) := by decide +kernel
theorem dX4_changeCots_5 : decode cX4_changeCots 5 = .ok (.iaload, 1) := by decide +kernel
theorem dX4_changeCots_6 : decode cX4_changeCots 6 = .ok (.istore_n 3, 1) := by decide +kernel
theorem dX4_changeCots_7 : decode cX4_changeCots 7 = .ok (.aload_n 0, 1) := by decide +kernel
theorem dX4_changeCots_8 : decode cX4_changeCots 8 = .ok (.getfield 43, 3) := by decide +kernel
theorem dX4_changeCots_11 : decode cX4_changeCots 11 = .ok (.iload_n 2, 1) := by decide +kernel
theorem dX4_changeCots_12 : decode cX4_changeCots 12 = .ok (.iaload, 1) := by decide +kernel
theorem dX4_changeCots_13 : decode cX4_changeCots 13 = .ok (.istore 4, 2) := by decide +kernel
theorem dX4_changeCots_15 : decode cX4_changeCots 15 = .ok (.aload_n 0, 1) := by decide +kernel
theorem dX4_changeCots_16 : decode cX4_changeCots 16 = .ok (.getfield 43, 3) := by decide +kernel
theorem dX4_changeCots_19 : decode cX4_changeCots 19 = .ok (.iload_n 1, 1) := by decide +kernel
theorem dX4_changeCots_20 : decode cX4_changeCots 20 = .ok (.iload 4, 2) := by decide +kernel
theorem dX4_changeCots_22 : decode cX4_changeCots 22 = .ok (.iastore, 1) := by decide +kernel
theorem dX4_changeCots_23 : decode cX4_changeCots 23 = .ok (.aload_n 0, 1) := by decide +kernel
theorem dX4_changeCots_24 : decode cX4_changeCots 24 = .ok (.getfield 43, 3) := by decide +kernel
theorem dX4_changeCots_27 : decode cX4_changeCots 27 = .ok (.iload_n 2, 1) := by decide +kernel
theorem dX4_changeCots_28 : decode cX4_changeCots 28 = .ok (.iload_n 3, 1) := by decide +kernel
theorem dX4_changeCots_29 : decode cX4_changeCots 29 = .ok (.iastore, 1) := by decide +kernel
theorem dX4_changeCots_30 : decode cX4_changeCots 30 = .ok (.iload_n 3, 1) := by decide +kernel
theorem dX4_changeCots_31 : decode cX4_changeCots 31 = .ok (.ifCond .lt 10, 3) := by decide +kernel
theorem dX4_changeCots_34 : decode cX4_changeCots 34 = .ok (.aload_n 0, 1) := by decide +kernel
theorem dX4_changeCots_35 : decode cX4_changeCots 35 = .ok (.getfield 27, 3) := by decide +kernel
theorem dX4_changeCots_38 : decode cX4_changeCots 38 = .ok (.iload_n 3, 1) := by decide +kernel
theorem dX4_changeCots_39 : decode cX4_changeCots 39 = .ok (.iload_n 2, 1) := by decide +kernel
theorem dX4_changeCots_40 : decode cX4_changeCots 40 = .ok (.iastore, 1) := by decide +kernel
theorem dX4_changeCots_41 : decode cX4_changeCots 41 = .ok (.iload 4, 2) := by decide +kernel
theorem dX4_changeCots_43 : decode cX4_changeCots 43 = .ok (.ifCond .lt 11, 3) := by decide +kernel
theorem dX4_changeCots_46 : decode cX4_changeCots 46 = .ok (.aload_n 0, 1) := by decide +kernel
theorem dX4_changeCots_47 : decode cX4_changeCots 47 = .ok (.getfield 27, 3) := by decide +kernel
theorem dX4_changeCots_50 : decode cX4_changeCots 50 = .ok (.iload 4, 2) := by decide +kernel
theorem dX4_changeCots_52 : decode cX4_changeCots 52 = .ok (.iload_n 1, 1) := by decide +kernel
theorem dX4_changeCots_53 : decode cX4_changeCots 53 = .ok (.iastore, 1) := by decide +kernel
theorem dX4_changeCots_54 : decode cX4_changeCots 54 = .ok (.return_, 1) := by decide +kernel
theorem dX4_isAwake_0 : decode cX4_isAwake 0 = .ok (.aload_n 0, 1) := by decide +kernel
theorem dX4_isAwake_1 : decode cX4_isAwake 1 = .ok (.getfield 37, 3) := by decide +kernel
theorem dX4_isAwake_4 : decode cX4_isAwake 4 = .ok (.iload_n 1, 1) := by decide +kernel
theorem dX4_isAwake_5 : decode cX4_isAwake 5 = .ok (.iaload, 1) := by decide +kernel
theorem dX4_isAwake_6 : decode cX4_isAwake 6 = .ok (.aload_n 0, 1) := by decide +kernel
theorem dX4_isAwake_7 : decode cX4_isAwake 7 = .ok (.getfield 18, 3) := by decide +kernel
theorem dX4_isAwake_10 : decode cX4_isAwake 10 = .ok (.if_icmp .le 7, 3) := by decide +kernel
theorem dX4_isAwake_13 : decode cX4_isAwake 13 = .ok (.iconst 1, 1) := by decide +kernel
theorem dX4_isAwake_14 : decode cX4_isAwake 14 = .ok (.goto 4, 3) := by decide +kernel
theorem dX4_isAwake_17 : decode cX4_isAwake 17 = .ok (.iconst 0, 1) := by decide +kernel
theorem dX4_isAwake_18 : decode cX4_isAwake 18 = .ok (.ireturn, 1) := by decide +kernel
theorem dX4_awakeSwords_0 : decode cX4_awakeSwords 0 = .ok (.iconst 0, 1) := by decide +kernel
theorem dX4_awakeSwords_1 : decode cX4_awakeSwords 1 = .ok (.istore_n 1, 1) := by decide +kernel
theorem dX4_awakeSwords_2 : decode cX4_awakeSwords 2 = .ok (.iconst 0, 1) := by decide +kernel
theorem dX4_awakeSwords_3 : decode cX4_awakeSwords 3 = .ok (.istore_n 2, 1) := by decide +kernel
theorem dX4_awakeSwords_4 : decode cX4_awakeSwords 4 = .ok (.iload_n 2, 1) := by decide +kernel
theorem dX4_awakeSwords_5 : decode cX4_awakeSwords 5 = .ok (.aload_n 0, 1) := by decide +kernel
theorem dX4_awakeSwords_6 : decode cX4_awakeSwords 6 = .ok (.getfield 9, 3) := by decide +kernel
theorem dX4_awakeSwords_9 : decode cX4_awakeSwords 9 = .ok (.if_icmp .ge 27, 3) := by decide +kernel
theorem dX4_awakeSwords_12 : decode cX4_awakeSwords 12 = .ok (.iload_n 1, 1) := by decide +kernel
theorem dX4_awakeSwords_13 : decode cX4_awakeSwords 13 = .ok (.aload_n 0, 1) := by decide +kernel
theorem dX4_awakeSwords_14 : decode cX4_awakeSwords 14 = .ok (.iload_n 2, 1) := by decide +kernel
theorem dX4_awakeSwords_15 : decode cX4_awakeSwords 15 = .ok (.invokevirtual 94, 3) := by decide +kernel
theorem dX4_awakeSwords_18 : decode cX4_awakeSwords 18 = .ok (.ifCond .eq 9, 3) := by decide +kernel
theorem dX4_awakeSwords_21 : decode cX4_awakeSwords 21 = .ok (.iconst 1, 1) := by decide +kernel
theorem dX4_awakeSwords_22 : decode cX4_awakeSwords 22 = .ok (.iload_n 2, 1) := by decide +kernel
theorem dX4_awakeSwords_23 : decode cX4_awakeSwords 23 = .ok (.ishl, 1) := by decide +kernel
theorem dX4_awakeSwords_24 : decode cX4_awakeSwords 24 = .ok (.goto 4, 3) := by decide +kernel
theorem dX4_awakeSwords_27 : decode cX4_awakeSwords 27 = .ok (.iconst 0, 1) := by decide +kernel
theorem dX4_awakeSwords_28 : decode cX4_awakeSwords 28 = .ok (.ior, 1) := by decide +kernel
theorem dX4_awakeSwords_29 : decode cX4_awakeSwords 29 = .ok (.istore_n 1, 1) := by decide +kernel
theorem dX4_awakeSwords_30 : decode cX4_awakeSwords 30 = .ok (.iinc 2 1, 3) := by decide +kernel
theorem dX4_awakeSwords_33 : decode cX4_awakeSwords 33 = .ok (.goto (-29), 3) := by decide +kernel
theorem dX4_awakeSwords_36 : decode cX4_awakeSwords 36 = .ok (.iload_n 1, 1) := by decide +kernel
theorem dX4_awakeSwords_37 : decode cX4_awakeSwords 37 = .ok (.ireturn, 1) := by decide +kernel
theorem dX4_awakeCots_0 : decode cX4_awakeCots 0 = .ok (.iconst 0, 1) := by decide +kernel
theorem dX4_awakeCots_1 : decode cX4_awakeCots 1 = .ok (.istore_n 1, 1) := by decide +kernel
theorem dX4_awakeCots_2 : decode cX4_awakeCots 2 = .ok (.iconst 0, 1) := by decide +kernel
theorem dX4_awakeCots_3 : decode cX4_awakeCots 3 = .ok (.istore_n 2, 1) := by decide +kernel
theorem dX4_awakeCots_4 : decode cX4_awakeCots 4 = .ok (.iload_n 2, 1) := by decide +kernel
theorem dX4_awakeCots_5 : decode cX4_awakeCots 5 = .ok (.aload_n 0, 1) := by decide +kernel
theorem dX4_awakeCots_6 : decode cX4_awakeCots 6 = .ok (.getfield 9, 3) := by decide +kernel
theorem dX4_awakeCots_9 : decode cX4_awakeCots 9 = .ok (.if_icmp .ge 32, 3) := by decide +kernel
theorem dX4_awakeCots_12 : decode cX4_awakeCots 12 = .ok (.iload_n 1, 1) := by decide +kernel
theorem dX4_awakeCots_13 : decode cX4_awakeCots 13 = .ok (.aload_n 0, 1) := by decide +kernel
theorem dX4_awakeCots_14 : decode cX4_awakeCots 14 = .ok (.iload_n 2, 1) := by decide +kernel
theorem dX4_awakeCots_15 : decode cX4_awakeCots 15 = .ok (.invokevirtual 94, 3) := by decide +kernel
theorem dX4_awakeCots_18 : decode cX4_awakeCots 18 = .ok (.ifCond .eq 14, 3) := by decide +kernel
theorem dX4_awakeCots_21 : decode cX4_awakeCots 21 = .ok (.iconst 1, 1) := by decide +kernel
theorem dX4_awakeCots_22 : decode cX4_awakeCots 22 = .ok (.aload_n 0, 1) := by decide +kernel
theorem dX4_awakeCots_23 : decode cX4_awakeCots 23 = .ok (.getfield 27, 3) := by decide +kernel
theorem dX4_awakeCots_26 : decode cX4_awakeCots 26 = .ok (.iload_n 2, 1) := by decide +kernel
theorem dX4_awakeCots_27 : decode cX4_awakeCots 27 = .ok (.iaload, 1) := by decide +kernel
theorem dX4_awakeCots_28 : decode cX4_awakeCots 28 = .ok (.ishl, 1) := by decide +kernel
theorem dX4_awakeCots_29 : decode cX4_awakeCots 29 = .ok (.goto 4, 3) := by decide +kernel
theorem dX4_awakeCots_32 : decode cX4_awakeCots 32 = .ok (.iconst 0, 1) := by decide +kernel
theorem dX4_awakeCots_33 : decode cX4_awakeCots 33 = .ok (.ior, 1) := by decide +kernel
theorem dX4_awakeCots_34 : decode cX4_awakeCots 34 = .ok (.istore_n 1, 1) := by decide +kernel
theorem dX4_awakeCots_35 : decode cX4_awakeCots 35 = .ok (.iinc 2 1, 3) := by decide +kernel
theorem dX4_awakeCots_38 : decode cX4_awakeCots 38 = .ok (.goto (-34), 3) := by decide +kernel
theorem dX4_awakeCots_41 : decode cX4_awakeCots 41 = .ok (.iload_n 1, 1) := by decide +kernel
theorem dX4_awakeCots_42 : decode cX4_awakeCots 42 = .ok (.ireturn, 1) := by decide +kernel
theorem dX4_howManyAwake_0 : decode cX4_howManyAwake 0 = .ok (.aload_n 0, 1) := by decide +kernel
theorem dX4_howManyAwake_1 : decode cX4_howManyAwake 1 = .ok (.invokevirtual 97, 3) := by decide +kernel
theorem dX4_howManyAwake_4 : decode cX4_howManyAwake 4 = .ok (.invokestatic 101, 3) := by decide +kernel
theorem dX4_howManyAwake_7 : decode cX4_howManyAwake 7 = .ok (.ireturn, 1) := by decide +kernel
theorem dX4_mindOfAll_0 : decode cX4_mindOfAll 0 = .ok (.iconst 0, 1) := by decide +kernel
theorem dX4_mindOfAll_1 : decode cX4_mindOfAll 1 = .ok (.istore_n 1, 1) := by decide +kernel
theorem dX4_mindOfAll_2 : decode cX4_mindOfAll 2 = .ok (.iconst 0, 1) := by decide +kernel
theorem dX4_mindOfAll_3 : decode cX4_mindOfAll 3 = .ok (.istore_n 2, 1) := by decide +kernel
theorem dX4_mindOfAll_4 : decode cX4_mindOfAll 4 = .ok (.iload_n 2, 1) := by decide +kernel
theorem dX4_mindOfAll_5 : decode cX4_mindOfAll 5 = .ok (.aload_n 0, 1) := by decide +kernel
theorem dX4_mindOfAll_6 : decode cX4_mindOfAll 6 = .ok (.getfield 9, 3) := by decide +kernel
theorem dX4_mindOfAll_9 : decode cX4_mindOfAll 9 = .ok (.if_icmp .ge 18, 3) := by decide +kernel
theorem dX4_mindOfAll_12 : decode cX4_mindOfAll 12 = .ok (.iload_n 1, 1) := by decide +kernel
theorem dX4_mindOfAll_13 : decode cX4_mindOfAll 13 = .ok (.aload_n 0, 1) := by decide +kernel
theorem dX4_mindOfAll_14 : decode cX4_mindOfAll 14 = .ok (.getfield 37, 3) := by decide +kernel
theorem dX4_mindOfAll_17 : decode cX4_mindOfAll 17 = .ok (.iload_n 2, 1) := by decide +kernel
theorem dX4_mindOfAll_18 : decode cX4_mindOfAll 18 = .ok (.iaload, 1) := by decide +kernel
theorem dX4_mindOfAll_19 : decode cX4_mindOfAll 19 = .ok (.iadd, 1) := by decide +kernel
theorem dX4_mindOfAll_20 : decode cX4_mindOfAll 20 = .ok (.istore_n 1, 1) := by decide +kernel
theorem dX4_mindOfAll_21 : decode cX4_mindOfAll 21 = .ok (.iinc 2 1, 3) := by decide +kernel
theorem dX4_mindOfAll_24 : decode cX4_mindOfAll 24 = .ok (.goto (-20), 3) := by decide +kernel
theorem dX4_mindOfAll_27 : decode cX4_mindOfAll 27 = .ok (.iload_n 1, 1) := by decide +kernel
theorem dX4_mindOfAll_28 : decode cX4_mindOfAll 28 = .ok (.ireturn, 1) := by decide +kernel
theorem dX4_growth_0 : decode cX4_growth 0 = .ok (.iload_n 3, 1) := by decide +kernel
theorem dX4_growth_1 : decode cX4_growth 1 = .ok (.getstatic 106, 3) := by decide +kernel
theorem dX4_growth_4 : decode cX4_growth 4 = .ok (.aload_n 0, 1) := by decide +kernel
theorem dX4_growth_5 : decode cX4_growth 5 = .ok (.getfield 27, 3) := by decide +kernel
theorem dX4_growth_8 : decode cX4_growth 8 = .ok (.iload_n 2, 1) := by decide +kernel
theorem dX4_growth_9 : decode cX4_growth 9 = .ok (.iaload, 1) := by decide +kernel
theorem dX4_growth_10 : decode cX4_growth 10 = .ok (.iaload, 1) := by decide +kernel
theorem dX4_growth_11 : decode cX4_growth 11 = .ok (.iand, 1) := by decide +kernel
theorem dX4_growth_12 : decode cX4_growth 12 = .ok (.invokestatic 101, 3) := by decide +kernel
theorem dX4_growth_15 : decode cX4_growth 15 = .ok (.istore 5, 2) := by decide +kernel
theorem dX4_growth_17 : decode cX4_growth 17 = .ok (.aload_n 1, 1) := by decide +kernel
theorem dX4_growth_18 : decode cX4_growth 18 = .ok (.aload_n 0, 1) := by decide +kernel
theorem dX4_growth_19 : decode cX4_growth 19 = .ok (.getfield 31, 3) := by decide +kernel
theorem dX4_growth_22 : decode cX4_growth 22 = .ok (.iload_n 2, 1) := by decide +kernel
theorem dX4_growth_23 : decode cX4_growth 23 = .ok (.iaload, 1) := by decide +kernel
theorem dX4_growth_24 : decode cX4_growth 24 = .ok (.aload_n 0, 1) := by decide +kernel
theorem dX4_growth_25 : decode cX4_growth 25 = .ok (.getfield 34, 3) := by decide +kernel
theorem dX4_growth_28 : decode cX4_growth 28 = .ok (.iload_n 2, 1) := by decide +kernel
theorem dX4_growth_29 : decode cX4_growth 29 = .ok (.iaload, 1) := by decide +kernel
theorem dX4_growth_30 : decode cX4_growth 30 = .ok (.aload_n 0, 1) := by decide +kernel
theorem dX4_growth_31 : decode cX4_growth 31 = .ok (.getfield 37, 3) := by decide +kernel
theorem dX4_growth_34 : decode cX4_growth 34 = .ok (.iload_n 2, 1) := by decide +kernel
theorem dX4_growth_35 : decode cX4_growth 35 = .ok (.iaload, 1) := by decide +kernel
theorem dX4_growth_36 : decode cX4_growth 36 = .ok (.iload 5, 2) := by decide +kernel
theorem dX4_growth_38 : decode cX4_growth 38 = .ok (.iload 4, 2) := by decide +kernel
theorem dX4_growth_40 : decode cX4_growth 40 = .ok (.aload_n 0, 1) := by decide +kernel
theorem dX4_growth_41 : decode cX4_growth 41 = .ok (.getfield 15, 3) := by decide +kernel
theorem dX4_growth_44 : decode cX4_growth 44 = .ok (.invokevirtual 109, 3) := by decide +kernel
theorem dX4_growth_47 : decode cX4_growth 47 = .ok (.ireturn, 1) := by decide +kernel
theorem dX4_growthNow_0 : decode cX4_growthNow 0 = .ok (.aload_n 0, 1) := by decide +kernel
theorem dX4_growthNow_1 : decode cX4_growthNow 1 = .ok (.aload_n 1, 1) := by decide +kernel
theorem dX4_growthNow_2 : decode cX4_growthNow 2 = .ok (.iload_n 2, 1) := by decide +kernel
theorem dX4_growthNow_3 : decode cX4_growthNow 3 = .ok (.aload_n 0, 1) := by decide +kernel
theorem dX4_growthNow_4 : decode cX4_growthNow 4 = .ok (.invokevirtual 115, 3) := by decide +kernel
theorem dX4_growthNow_7 : decode cX4_growthNow 7 = .ok (.aload_n 0, 1) := by decide +kernel
theorem dX4_growthNow_8 : decode cX4_growthNow 8 = .ok (.getfield 27, 3) := by decide +kernel
theorem dX4_growthNow_11 : decode cX4_growthNow 11 = .ok (.iload_n 2, 1) := by decide +kernel
theorem dX4_growthNow_12 : decode cX4_growthNow 12 = .ok (.iaload, 1) := by decide +kernel
theorem dX4_growthNow_13 : decode cX4_growthNow 13 = .ok (.aload_n 0, 1) := by decide +kernel
theorem dX4_growthNow_14 : decode cX4_growthNow 14 = .ok (.getfield 21, 3) := by decide +kernel
theorem dX4_growthNow_17 : decode cX4_growthNow 17 = .ok (.if_icmp .ne 7, 3) := by decide +kernel
theorem dX4_growthNow_20 : decode cX4_growthNow 20 = .ok (.iconst 1, 1) := by decide +kernel
theorem dX4_growthNow_21 : decode cX4_growthNow 21 = .ok (.goto 4, 3) := by decide +kernel
theorem dX4_growthNow_24 : decode cX4_growthNow 24 = .ok (.iconst 0, 1) := by decide +kernel
theorem dX4_growthNow_25 : decode cX4_growthNow 25 = .ok (.invokevirtual 118, 3) := by decide +kernel
theorem dX4_growthNow_28 : decode cX4_growthNow 28 = .ok (.ireturn, 1) := by decide +kernel
theorem dX4_passHour_0 : decode cX4_passHour 0 = .ok (.aload_n 0, 1) := by decide +kernel
theorem dX4_passHour_1 : decode cX4_passHour 1 = .ok (.invokevirtual 115, 3) := by decide +kernel
theorem dX4_passHour_4 : decode cX4_passHour 4 = .ok (.istore_n 3, 1) := by decide +kernel
theorem dX4_passHour_5 : decode cX4_passHour 5 = .ok (.iconst 0, 1) := by decide +kernel
theorem dX4_passHour_6 : decode cX4_passHour 6 = .ok (.istore 4, 2) := by decide +kernel
theorem dX4_passHour_8 : decode cX4_passHour 8 = .ok (.iload 4, 2) := by decide +kernel
theorem dX4_passHour_10 : decode cX4_passHour 10 = .ok (.aload_n 0, 1) := by decide +kernel
theorem dX4_passHour_11 : decode cX4_passHour 11 = .ok (.getfield 9, 3) := by decide +kernel
theorem dX4_passHour_14 : decode cX4_passHour 14 = .ok (.if_icmp .ge 40, 3) := by decide +kernel
theorem dX4_passHour_17 : decode cX4_passHour 17 = .ok (.aload_n 0, 1) := by decide +kernel
theorem dX4_passHour_18 : decode cX4_passHour 18 = .ok (.getfield 46, 3) := by decide +kernel
theorem dX4_passHour_21 : decode cX4_passHour 21 = .ok (.iload 4, 2) := by decide +kernel
theorem dX4_passHour_23 : decode cX4_passHour 23 = .ok (.aload_n 0, 1) := by decide +kernel
theorem dX4_passHour_24 : decode cX4_passHour 24 = .ok (.aload_n 1, 1) := by decide +kernel
theorem dX4_passHour_25 : decode cX4_passHour 25 = .ok (.iload 4, 2) := by decide +kernel
theorem dX4_passHour_27 : decode cX4_passHour 27 = .ok (.iload_n 3, 1) := by decide +kernel
theorem dX4_passHour_28 : decode cX4_passHour 28 = .ok (.aload_n 0, 1) := by decide +kernel
theorem dX4_passHour_29 : decode cX4_passHour 29 = .ok (.getfield 27, 3) := by decide +kernel
theorem dX4_passHour_32 : decode cX4_passHour 32 = .ok (.iload 4, 2) := by decide +kernel
theorem dX4_passHour_34 : decode cX4_passHour 34 = .ok (.iaload, 1) := by decide +kernel
theorem dX4_passHour_35 : decode cX4_passHour 35 = .ok (.iload_n 2, 1) := by decide +kernel
theorem dX4_passHour_36 : decode cX4_passHour 36 = .ok (.if_icmp .ne 7, 3) := by decide +kernel
theorem dX4_passHour_39 : decode cX4_passHour 39 = .ok (.iconst 1, 1) := by decide +kernel
theorem dX4_passHour_40 : decode cX4_passHour 40 = .ok (.goto 4, 3) := by decide +kernel
theorem dX4_passHour_43 : decode cX4_passHour 43 = .ok (.iconst 0, 1) := by decide +kernel
theorem dX4_passHour_44 : decode cX4_passHour 44 = .ok (.invokevirtual 118, 3) := by decide +kernel
theorem dX4_passHour_47 : decode cX4_passHour 47 = .ok (.iastore, 1) := by decide +kernel
theorem dX4_passHour_48 : decode cX4_passHour 48 = .ok (.iinc 4 1, 3) := by decide +kernel
theorem dX4_passHour_51 : decode cX4_passHour 51 = .ok (.goto (-43), 3) := by decide +kernel
theorem dX4_passHour_54 : decode cX4_passHour 54 = .ok (.iconst 0, 1) := by decide +kernel
theorem dX4_passHour_55 : decode cX4_passHour 55 = .ok (.istore 4, 2) := by decide +kernel
theorem dX4_passHour_57 : decode cX4_passHour 57 = .ok (.iload 4, 2) := by decide +kernel
theorem dX4_passHour_59 : decode cX4_passHour 59 = .ok (.aload_n 0, 1) := by decide +kernel
theorem dX4_passHour_60 : decode cX4_passHour 60 = .ok (.getfield 9, 3) := by decide +kernel
theorem dX4_passHour_63 : decode cX4_passHour 63 = .ok (.if_icmp .ge 22, 3) := by decide +kernel
theorem dX4_passHour_66 : decode cX4_passHour 66 = .ok (.aload_n 0, 1) := by decide +kernel
theorem dX4_passHour_67 : decode cX4_passHour 67 = .ok (.iload 4, 2) := by decide +kernel
theorem dX4_passHour_69 : decode cX4_passHour 69 = .ok (.aload_n 0, 1) := by decide +kernel
theorem dX4_passHour_70 : decode cX4_passHour 70 = .ok (.getfield 46, 3) := by decide +kernel
theorem dX4_passHour_73 : decode cX4_passHour 73 = .ok (.iload 4, 2) := by decide +kernel
theorem dX4_passHour_75 : decode cX4_passHour 75 = .ok (.iaload, 1) := by decide +kernel
theorem dX4_passHour_76 : decode cX4_passHour 76 = .ok (.invokevirtual 121, 3) := by decide +kernel
theorem dX4_passHour_79 : decode cX4_passHour 79 = .ok (.iinc 4 1, 3) := by decide +kernel
theorem dX4_passHour_82 : decode cX4_passHour 82 = .ok (.goto (-25), 3) := by decide +kernel
theorem dX4_passHour_85 : decode cX4_passHour 85 = .ok (.aload_n 0, 1) := by decide +kernel
theorem dX4_passHour_86 : decode cX4_passHour 86 = .ok (.aload_n 0, 1) := by decide +kernel
theorem dX4_passHour_87 : decode cX4_passHour 87 = .ok (.getfield 15, 3) := by decide +kernel
theorem dX4_passHour_90 : decode cX4_passHour 90 = .ok (.iconst 1, 1) := by decide +kernel
theorem dX4_passHour_91 : decode cX4_passHour 91 = .ok (.iadd, 1) := by decide +kernel
theorem dX4_passHour_92 : decode cX4_passHour 92 = .ok (.bipush 12, 2) := by decide +kernel
theorem dX4_passHour_94 : decode cX4_passHour 94 = .ok (.irem, 1) := by decide +kernel
theorem dX4_passHour_95 : decode cX4_passHour 95 = .ok (.putfield 15, 3) := by decide +kernel
theorem dX4_passHour_98 : decode cX4_passHour 98 = .ok (.return_, 1) := by decide +kernel
theorem dX4_grow_0 : decode cX4_grow 0 = .ok (.aload_n 0, 1) := by decide +kernel
theorem dX4_grow_1 : decode cX4_grow 1 = .ok (.getfield 37, 3) := by decide +kernel
theorem dX4_grow_4 : decode cX4_grow 4 = .ok (.iload_n 1, 1) := by decide +kernel
theorem dX4_grow_5 : decode cX4_grow 5 = .ok (.aload_n 0, 1) := by decide +kernel
theorem dX4_grow_6 : decode cX4_grow 6 = .ok (.getfield 37, 3) := by decide +kernel
theorem dX4_grow_9 : decode cX4_grow 9 = .ok (.iload_n 1, 1) := by decide +kernel
theorem dX4_grow_10 : decode cX4_grow 10 = .ok (.iaload, 1) := by decide +kernel
theorem dX4_grow_11 : decode cX4_grow 11 = .ok (.iload_n 2, 1) := by decide +kernel
theorem dX4_grow_12 : decode cX4_grow 12 = .ok (.iadd, 1) := by decide +kernel
theorem dX4_grow_13 : decode cX4_grow 13 = .ok (.iconst 3, 1) := by decide +kernel
theorem dX4_grow_14 : decode cX4_grow 14 = .ok (.aload_n 0, 1) := by decide +kernel
theorem dX4_grow_15 : decode cX4_grow 15 = .ok (.getfield 40, 3) := by decide +kernel
theorem dX4_grow_18 : decode cX4_grow 18 = .ok (.iload_n 1, 1) := by decide +kernel
theorem dX4_grow_19 : decode cX4_grow 19 = .ok (.iaload, 1) := by decide +kernel
theorem dX4_grow_20 : decode cX4_grow 20 = .ok (.imul, 1) := by decide +kernel
theorem dX4_grow_21 : decode cX4_grow 21 = .ok (.isub, 1) := by decide +kernel
theorem dX4_grow_22 : decode cX4_grow 22 = .ok (.iconst 0, 1) := by decide +kernel
theorem dX4_grow_23 : decode cX4_grow 23 = .ok (.bipush 99, 2) := by decide +kernel
theorem dX4_grow_25 : decode cX4_grow 25 = .ok (.invokestatic 124, 3) := by decide +kernel
theorem dX4_grow_28 : decode cX4_grow 28 = .ok (.iastore, 1) := by decide +kernel
theorem dX4_grow_29 : decode cX4_grow 29 = .ok (.return_, 1) := by decide +kernel
theorem dX4_foresee_0 : decode cX4_foresee 0 = .ok (.aload_n 0, 1) := by decide +kernel
theorem dX4_foresee_1 : decode cX4_foresee 1 = .ok (.invokevirtual 115, 3) := by decide +kernel
theorem dX4_foresee_4 : decode cX4_foresee 4 = .ok (.istore_n 2, 1) := by decide +kernel
theorem dX4_foresee_5 : decode cX4_foresee 5 = .ok (.iconst 0, 1) := by decide +kernel
theorem dX4_foresee_6 : decode cX4_foresee 6 = .ok (.istore_n 3, 1) := by decide +kernel
theorem dX4_foresee_7 : decode cX4_foresee 7 = .ok (.iload_n 3, 1) := by decide +kernel
theorem dX4_foresee_8 : decode cX4_foresee 8 = .ok (.aload_n 0, 1) := by decide +kernel
theorem dX4_foresee_9 : decode cX4_foresee 9 = .ok (.getfield 9, 3) := by decide +kernel
theorem dX4_foresee_12 : decode cX4_foresee 12 = .ok (.if_icmp .ge 37, 3) := by decide +kernel
theorem dX4_foresee_15 : decode cX4_foresee 15 = .ok (.aload_n 0, 1) := by decide +kernel
theorem dX4_foresee_16 : decode cX4_foresee 16 = .ok (.getfield 46, 3) := by decide +kernel
theorem dX4_foresee_19 : decode cX4_foresee 19 = .ok (.iload_n 3, 1) := by decide +kernel
theorem dX4_foresee_20 : decode cX4_foresee 20 = .ok (.aload_n 0, 1) := by decide +kernel
theorem dX4_foresee_21 : decode cX4_foresee 21 = .ok (.aload_n 1, 1) := by decide +kernel
theorem dX4_foresee_22 : decode cX4_foresee 22 = .ok (.iload_n 3, 1) := by decide +kernel
theorem dX4_foresee_23 : decode cX4_foresee 23 = .ok (.iload_n 2, 1) := by decide +kernel
theorem dX4_foresee_24 : decode cX4_foresee 24 = .ok (.iconst 0, 1) := by decide +kernel
theorem dX4_foresee_25 : decode cX4_foresee 25 = .ok (.invokevirtual 118, 3) := by decide +kernel
theorem dX4_foresee_28 : decode cX4_foresee 28 = .ok (.iastore, 1) := by decide +kernel
theorem dX4_foresee_29 : decode cX4_foresee 29 = .ok (.aload_n 0, 1) := by decide +kernel
theorem dX4_foresee_30 : decode cX4_foresee 30 = .ok (.getfield 49, 3) := by decide +kernel
theorem dX4_foresee_33 : decode cX4_foresee 33 = .ok (.iload_n 3, 1) := by decide +kernel
theorem dX4_foresee_34 : decode cX4_foresee 34 = .ok (.aload_n 0, 1) := by decide +kernel
theorem dX4_foresee_35 : decode cX4_foresee 35 = .ok (.aload_n 1, 1) := by decide +kernel
theorem dX4_foresee_36 : decode cX4_foresee 36 = .ok (.iload_n 3, 1) := by decide +kernel
theorem dX4_foresee_37 : decode cX4_foresee 37 = .ok (.iload_n 2, 1) := by decide +kernel
theorem dX4_foresee_38 : decode cX4_foresee 38 = .ok (.iconst 1, 1) := by decide +kernel
theorem dX4_foresee_39 : decode cX4_foresee 39 = .ok (.invokevirtual 118, 3) := by decide +kernel
theorem dX4_foresee_42 : decode cX4_foresee 42 = .ok (.iastore, 1) := by decide +kernel
theorem dX4_foresee_43 : decode cX4_foresee 43 = .ok (.iinc 3 1, 3) := by decide +kernel
theorem dX4_foresee_46 : decode cX4_foresee 46 = .ok (.goto (-39), 3) := by decide +kernel
theorem dX4_foresee_49 : decode cX4_foresee 49 = .ok (.return_, 1) := by decide +kernel
theorem dX4_passHourBehind_0 : decode cX4_passHourBehind 0 = .ok (.aload_n 0, 1) := by decide +kernel
theorem dX4_passHourBehind_1 : decode cX4_passHourBehind 1 = .ok (.aload_n 1, 1) := by decide +kernel
theorem dX4_passHourBehind_2 : decode cX4_passHourBehind 2 = .ok (.invokevirtual 61, 3) := by decide +kernel
theorem dX4_passHourBehind_5 : decode cX4_passHourBehind 5 = .ok (.iconst 0, 1) := by decide +kernel
theorem dX4_passHourBehind_6 : decode cX4_passHourBehind 6 = .ok (.istore_n 3, 1) := by decide +kernel
theorem dX4_passHourBehind_7 : decode cX4_passHourBehind 7 = .ok (.iload_n 3, 1) := by decide +kernel
theorem dX4_passHourBehind_8 : decode cX4_passHourBehind 8 = .ok (.aload_n 0, 1) := by decide +kernel
theorem dX4_passHourBehind_9 : decode cX4_passHourBehind 9 = .ok (.getfield 9, 3) := by decide +kernel
theorem dX4_passHourBehind_12 : decode cX4_passHourBehind 12 = .ok (.if_icmp .ge 39, 3) := by decide +kernel
theorem dX4_passHourBehind_15 : decode cX4_passHourBehind 15 = .ok (.aload_n 0, 1) := by decide +kernel
theorem dX4_passHourBehind_16 : decode cX4_passHourBehind 16 = .ok (.iload_n 3, 1) := by decide +kernel
theorem dX4_passHourBehind_17 : decode cX4_passHourBehind 17 = .ok (.aload_n 0, 1) := by decide +kernel
theorem dX4_passHourBehind_18 : decode cX4_passHourBehind 18 = .ok (.getfield 27, 3) := by decide +kernel
theorem dX4_passHourBehind_21 : decode cX4_passHourBehind 21 = .ok (.iload_n 3, 1) := by decide +kernel
theorem dX4_passHourBehind_22 : decode cX4_passHourBehind 22 = .ok (.iaload, 1) := by decide +kernel
theorem dX4_passHourBehind_23 : decode cX4_passHourBehind 23 = .ok (.iload_n 2, 1) := by decide +kernel
theorem dX4_passHourBehind_24 : decode cX4_passHourBehind 24 = .ok (.if_icmp .ne 12, 3) := by decide +kernel
theorem dX4_passHourBehind_27 : decode cX4_passHourBehind 27 = .ok (.aload_n 1, 1) := by decide +kernel
theorem dX4_passHourBehind_28 : decode cX4_passHourBehind 28 = .ok (.getfield 49, 3) := by decide +kernel
theorem dX4_passHourBehind_31 : decode cX4_passHourBehind 31 = .ok (.iload_n 3, 1) := by decide +kernel
theorem dX4_passHourBehind_32 : decode cX4_passHourBehind 32 = .ok (.iaload, 1) := by decide +kernel
theorem dX4_passHourBehind_33 : decode cX4_passHourBehind 33 = .ok (.goto 9, 3) := by decide +kernel
theorem dX4_passHourBehind_36 : decode cX4_passHourBehind 36 = .ok (.aload_n 1, 1) := by decide +kernel
theorem dX4_passHourBehind_37 : decode cX4_passHourBehind 37 = .ok (.getfield 46, 3) := by decide +kernel
theorem dX4_passHourBehind_40 : decode cX4_passHourBehind 40 = .ok (.iload_n 3, 1) := by decide +kernel
theorem dX4_passHourBehind_41 : decode cX4_passHourBehind 41 = .ok (.iaload, 1) := by decide +kernel
theorem dX4_passHourBehind_42 : decode cX4_passHourBehind 42 = .ok (.invokevirtual 121, 3) := by decide +kernel
theorem dX4_passHourBehind_45 : decode cX4_passHourBehind 45 = .ok (.iinc 3 1, 3) := by decide +kernel
theorem dX4_passHourBehind_48 : decode cX4_passHourBehind 48 = .ok (.goto (-41), 3) := by decide +kernel
theorem dX4_passHourBehind_51 : decode cX4_passHourBehind 51 = .ok (.aload_n 0, 1) := by decide +kernel
theorem dX4_passHourBehind_52 : decode cX4_passHourBehind 52 = .ok (.aload_n 0, 1) := by decide +kernel
theorem dX4_passHourBehind_53 : decode cX4_passHourBehind 53 = .ok (.getfield 15, 3) := by decide +kernel
theorem dX4_passHourBehind_56 : decode cX4_passHourBehind 56 = .ok (.iconst 1, 1) := by decide +kernel
theorem dX4_passHourBehind_57 : decode cX4_passHourBehind 57 = .ok (.iadd, 1) := by decide +kernel
theorem dX4_passHourBehind_58 : decode cX4_passHourBehind 58 = .ok (.bipush 12, 2) := by decide +kernel
theorem dX4_passHourBehind_60 : decode cX4_passHourBehind 60 = .ok (.irem, 1) := by decide +kernel
theorem dX4_passHourBehind_61 : decode cX4_passHourBehind 61 = .ok (.putfield 15, 3) := by decide +kernel
theorem dX4_passHourBehind_64 : decode cX4_passHourBehind 64 = .ok (.return_, 1) := by decide +kernel
theorem dX4_tellAt_0 : decode cX4_tellAt 0 = .ok (.aload_n 0, 1) := by decide +kernel
theorem dX4_tellAt_1 : decode cX4_tellAt 1 = .ok (.getfield 43, 3) := by decide +kernel
theorem dX4_tellAt_4 : decode cX4_tellAt 4 = .ok (.iload_n 1, 1) := by decide +kernel
theorem dX4_tellAt_5 : decode cX4_tellAt 5 = .ok (.iaload, 1) := by decide +kernel
theorem dX4_tellAt_6 : decode cX4_tellAt 6 = .ok (.istore_n 3, 1) := by decide +kernel
theorem dX4_tellAt_7 : decode cX4_tellAt 7 = .ok (.iload_n 3, 1) := by decide +kernel
theorem dX4_tellAt_8 : decode cX4_tellAt 8 = .ok (.ifCond .ge 4, 3) := by decide +kernel
theorem dX4_tellAt_11 : decode cX4_tellAt 11 = .ok (.return_, 1) := by decide +kernel
theorem dX4_tellAt_12 : decode cX4_tellAt 12 = .ok (.aload_n 0, 1) := by decide +kernel
theorem dX4_tellAt_13 : decode cX4_tellAt 13 = .ok (.getfield 31, 3) := by decide +kernel
theorem dX4_tellAt_16 : decode cX4_tellAt 16 = .ok (.iload_n 3, 1) := by decide +kernel
theorem dX4_tellAt_17 : decode cX4_tellAt 17 = .ok (.iaload, 1) := by decide +kernel
theorem dX4_tellAt_18 : decode cX4_tellAt 18 = .ok (.iload_n 2, 1) := by decide +kernel
theorem dX4_tellAt_19 : decode cX4_tellAt 19 = .ok (.if_icmp .gt 16, 3) := by decide +kernel
theorem dX4_tellAt_22 : decode cX4_tellAt 22 = .ok (.aload_n 0, 1) := by decide +kernel
theorem dX4_tellAt_23 : decode cX4_tellAt 23 = .ok (.getfield 37, 3) := by decide +kernel
theorem dX4_tellAt_26 : decode cX4_tellAt 26 = .ok (.iload_n 3, 1) := by decide +kernel
theorem dX4_tellAt_27 : decode cX4_tellAt 27 = .ok (.iaload, 1) := by decide +kernel
theorem dX4_tellAt_28 : decode cX4_tellAt 28 = .ok (.iconst 2, 1) := by decide +kernel
theorem dX4_tellAt_29 : decode cX4_tellAt 29 = .ok (.iload_n 2, 1) := by decide +kernel
theorem dX4_tellAt_30 : decode cX4_tellAt 30 = .ok (.imul, 1) := by decide +kernel
theorem dX4_tellAt_31 : decode cX4_tellAt 31 = .ok (.isub, 1) := by decide +kernel
theorem dX4_tellAt_32 : decode cX4_tellAt 32 = .ok (.goto 11, 3) := by decide +kernel
theorem dX4_tellAt_35 : decode cX4_tellAt 35 = .ok (.aload_n 0, 1) := by decide +kernel
theorem dX4_tellAt_36 : decode cX4_tellAt 36 = .ok (.getfield 37, 3) := by decide +kernel
theorem dX4_tellAt_39 : decode cX4_tellAt 39 = .ok (.iload_n 3, 1) := by decide +kernel
theorem dX4_tellAt_40 : decode cX4_tellAt 40 = .ok (.iaload, 1) := by decide +kernel
theorem dX4_tellAt_41 : decode cX4_tellAt 41 = .ok (.iload_n 2, 1) := by decide +kernel
theorem dX4_tellAt_42 : decode cX4_tellAt 42 = .ok (.iadd, 1) := by decide +kernel
theorem dX4_tellAt_43 : decode cX4_tellAt 43 = .ok (.istore 4, 2) := by decide +kernel
theorem dX4_tellAt_45 : decode cX4_tellAt 45 = .ok (.aload_n 0, 1) := by decide +kernel
theorem dX4_tellAt_46 : decode cX4_tellAt 46 = .ok (.getfield 37, 3) := by decide +kernel
theorem dX4_tellAt_49 : decode cX4_tellAt 49 = .ok (.iload_n 3, 1) := by decide +kernel
theorem dX4_tellAt_50 : decode cX4_tellAt 50 = .ok (.iload 4, 2) := by decide +kernel
theorem dX4_tellAt_52 : decode cX4_tellAt 52 = .ok (.iconst 0, 1) := by decide +kernel
theorem dX4_tellAt_53 : decode cX4_tellAt 53 = .ok (.bipush 99, 2) := by decide +kernel
theorem dX4_tellAt_55 : decode cX4_tellAt 55 = .ok (.invokestatic 124, 3) := by decide +kernel
theorem dX4_tellAt_58 : decode cX4_tellAt 58 = .ok (.iastore, 1) := by decide +kernel
theorem dX4_tellAt_59 : decode cX4_tellAt 59 = .ok (.return_, 1) := by decide +kernel
theorem dX4_touchFrom_0 : decode cX4_touchFrom 0 = .ok (.aload_n 0, 1) := by decide +kernel
theorem dX4_touchFrom_1 : decode cX4_touchFrom 1 = .ok (.iconst 0, 1) := by decide +kernel
theorem dX4_touchFrom_2 : decode cX4_touchFrom 2 = .ok (.putfield 24, 3) := by decide +kernel
theorem dX4_touchFrom_5 : decode cX4_touchFrom 5 = .ok (.iconst 0, 1) := by decide +kernel
theorem dX4_touchFrom_6 : decode cX4_touchFrom 6 = .ok (.istore_n 2, 1) := by decide +kernel
theorem dX4_touchFrom_7 : decode cX4_touchFrom 7 = .ok (.iconst 1, 1) := by decide +kernel
theorem dX4_touchFrom_8 : decode cX4_touchFrom 8 = .ok (.iload_n 1, 1) := by decide +kernel
theorem dX4_touchFrom_9 : decode cX4_touchFrom 9 = .ok (.ishl, 1) := by decide +kernel
theorem dX4_touchFrom_10 : decode cX4_touchFrom 10 = .ok (.istore_n 3, 1) := by decide +kernel
theorem dX4_touchFrom_11 : decode cX4_touchFrom 11 = .ok (.aload_n 0, 1) := by decide +kernel
theorem dX4_touchFrom_12 : decode cX4_touchFrom 12 = .ok (.getfield 43, 3) := by decide +kernel
theorem dX4_touchFrom_15 : decode cX4_touchFrom 15 = .ok (.iload_n 1, 1) := by decide +kernel
theorem dX4_touchFrom_16 : decode cX4_touchFrom 16 = .ok (.iaload, 1) := by decide +kernel
theorem dX4_touchFrom_17 : decode cX4_touchFrom 17 = .ok (.ifCond .lt 13, 3) := by decide +kernel
theorem dX4_touchFrom_20 : decode cX4_touchFrom 20 = .ok (.aload_n 0, 1) := by decide +kernel
theorem dX4_touchFrom_21 : decode cX4_touchFrom 21 = .ok (.getfield 52, 3) := by decide +kernel
theorem dX4_touchFrom_24 : decode cX4_touchFrom 24 = .ok (.iload_n 2, 1) := by decide +kernel
theorem dX4_touchFrom_25 : decode cX4_touchFrom 25 = .ok (.iinc 2 1, 3) := by decide +kernel
theorem dX4_touchFrom_28 : decode cX4_touchFrom 28 = .ok (.iload_n 1, 1) := by decide +kernel
theorem dX4_touchFrom_29 : decode cX4_touchFrom 29 = .ok (.iastore, 1) := by decide +kernel
theorem dX4_touchFrom_30 : decode cX4_touchFrom 30 = .ok (.iconst 0, 1) := by decide +kernel
theorem dX4_touchFrom_31 : decode cX4_touchFrom 31 = .ok (.istore 4, 2) := by decide +kernel
theorem dX4_touchFrom_33 : decode cX4_touchFrom 33 = .ok (.iload 4, 2) := by decide +kernel
theorem dX4_touchFrom_35 : decode cX4_touchFrom 35 = .ok (.iload_n 2, 1) := by decide +kernel
theorem dX4_touchFrom_36 : decode cX4_touchFrom 36 = .ok (.if_icmp .ge 122, 3) := by decide +kernel
theorem dX4_touchFrom_39 : decode cX4_touchFrom 39 = .ok (.iload 4, 2) := by decide +kernel
theorem dX4_touchFrom_41 : decode cX4_touchFrom 41 = .ok (.bipush 12, 2) := by decide +kernel
theorem dX4_touchFrom_43 : decode cX4_touchFrom 43 = .ok (.if_icmp .ge 115, 3) := by decide +kernel
theorem dX4_touchFrom_46 : decode cX4_touchFrom 46 = .ok (.aload_n 0, 1) := by decide +kernel
theorem dX4_touchFrom_47 : decode cX4_touchFrom 47 = .ok (.getfield 52, 3) := by decide +kernel
theorem dX4_touchFrom_50 : decode cX4_touchFrom 50 = .ok (.iload 4, 2) := by decide +kernel
theorem dX4_touchFrom_52 : decode cX4_touchFrom 52 = .ok (.iaload, 1) := by decide +kernel
theorem dX4_touchFrom_53 : decode cX4_touchFrom 53 = .ok (.istore 5, 2) := by decide +kernel
theorem dX4_touchFrom_55 : decode cX4_touchFrom 55 = .ok (.aload_n 0, 1) := by decide +kernel
theorem dX4_touchFrom_56 : decode cX4_touchFrom 56 = .ok (.aload_n 0, 1) := by decide +kernel
theorem dX4_touchFrom_57 : decode cX4_touchFrom 57 = .ok (.getfield 43, 3) := by decide +kernel
theorem dX4_touchFrom_60 : decode cX4_touchFrom 60 = .ok (.iload 5, 2) := by decide +kernel
theorem dX4_touchFrom_62 : decode cX4_touchFrom 62 = .ok (.iaload, 1) := by decide +kernel
theorem dX4_touchFrom_63 : decode cX4_touchFrom 63 = .ok (.invokevirtual 127, 3) := by decide +kernel
theorem dX4_touchFrom_66 : decode cX4_touchFrom 66 = .ok (.ifCond .ne 6, 3) := by decide +kernel
theorem dX4_touchFrom_69 : decode cX4_touchFrom 69 = .ok (.goto 83, 3) := by decide +kernel
theorem dX4_touchFrom_72 : decode cX4_touchFrom 72 = .ok (.iconst 0, 1) := by decide +kernel
theorem dX4_touchFrom_73 : decode cX4_touchFrom 73 = .ok (.istore 6, 2) := by decide +kernel
theorem dX4_touchFrom_75 : decode cX4_touchFrom 75 = .ok (.iload 6, 2) := by decide +kernel
theorem dX4_touchFrom_77 : decode cX4_touchFrom 77 = .ok (.bipush 12, 2) := by decide +kernel
theorem dX4_touchFrom_79 : decode cX4_touchFrom 79 = .ok (.if_icmp .ge 73, 3) := by decide +kernel
theorem dX4_touchFrom_82 : decode cX4_touchFrom 82 = .ok (.getstatic 106, 3) := by decide +kernel
theorem dX4_touchFrom_85 : decode cX4_touchFrom 85 = .ok (.iload 5, 2) := by decide +kernel
theorem dX4_touchFrom_87 : decode cX4_touchFrom 87 = .ok (.iaload, 1) := by decide +kernel
theorem dX4_touchFrom_88 : decode cX4_touchFrom 88 = .ok (.iload_n 3, 1) := by decide +kernel
theorem dX4_touchFrom_89 : decode cX4_touchFrom 89 = .ok (.iconst (-1), 1) := by decide +kernel
end
