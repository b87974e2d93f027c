section
-- ===== PART A: goes FIRST, ahead of the names: the tables' words, and 'selects' of the private methods out of them =====
/-- a private method of a class that the tables say can be made, by its rows of tables_1 -/
def lw_okq (q : MethodName × Nat) : Prop := (q.1.cls ≠ "java/lang/invoke/MethodHandle" ∧ q.1.cls ≠ "java/lang/invoke/VarHandle") ∧ Cond.instantiable q.1.cls q.2 ∈ tables_1 ∧ Cond.privateMethod q.1 ∈ tables_1 ∧ Cond.instanceMethod q.1 ∈ tables_1
theorem lw_p0 : lw_okq (⟨"WordWright", "solveEquations", "()V"⟩, 13) := ⟨⟨by decide +kernel, by decide +kernel⟩, List.mem_of_getElem? (i := 57) (by decide +kernel), List.mem_of_getElem? (i := 481) (by decide +kernel), List.mem_of_getElem? (i := 482) (by decide +kernel)⟩
theorem lw_p1 : lw_okq (⟨"WordWright$Solver", "allow", "(LWordWright$Equations;[LWordWright$Language;)V"⟩, 11) := ⟨⟨by decide +kernel, by decide +kernel⟩, List.mem_of_getElem? (i := 296) (by decide +kernel), List.mem_of_getElem? (i := 489) (by decide +kernel), List.mem_of_getElem? (i := 490) (by decide +kernel)⟩
theorem lw_p2 : lw_okq (⟨"WordWright$Solver", "begin", "(I)V"⟩, 11) := ⟨⟨by decide +kernel, by decide +kernel⟩, List.mem_of_getElem? (i := 296) (by decide +kernel), List.mem_of_getElem? (i := 513) (by decide +kernel), List.mem_of_getElem? (i := 514) (by decide +kernel)⟩
theorem lw_p3 : lw_okq (⟨"WordWright$Solver", "isAllowed", "()Z"⟩, 11) := ⟨⟨by decide +kernel, by decide +kernel⟩, List.mem_of_getElem? (i := 296) (by decide +kernel), List.mem_of_getElem? (i := 517) (by decide +kernel), List.mem_of_getElem? (i := 518) (by decide +kernel)⟩
theorem lw_p4 : lw_okq (⟨"WordWright$Solver", "tieAll", "(LWordWright$Equations;)Z"⟩, 11) := ⟨⟨by decide +kernel, by decide +kernel⟩, List.mem_of_getElem? (i := 296) (by decide +kernel), List.mem_of_getElem? (i := 521) (by decide +kernel), List.mem_of_getElem? (i := 522) (by decide +kernel)⟩
theorem lw_p5 : lw_okq (⟨"WordWright$Solver", "spell", "(LWordWright$Equations;II)I"⟩, 11) := ⟨⟨by decide +kernel, by decide +kernel⟩, List.mem_of_getElem? (i := 296) (by decide +kernel), List.mem_of_getElem? (i := 525) (by decide +kernel), List.mem_of_getElem? (i := 526) (by decide +kernel)⟩
theorem lw_p6 : lw_okq (⟨"WordWright$Solver", "tie", "(II)Z"⟩, 11) := ⟨⟨by decide +kernel, by decide +kernel⟩, List.mem_of_getElem? (i := 296) (by decide +kernel), List.mem_of_getElem? (i := 529) (by decide +kernel), List.mem_of_getElem? (i := 530) (by decide +kernel)⟩
theorem lw_p7 : lw_okq (⟨"WordWright$Solver", "countCase", "()I"⟩, 11) := ⟨⟨by decide +kernel, by decide +kernel⟩, List.mem_of_getElem? (i := 296) (by decide +kernel), List.mem_of_getElem? (i := 539) (by decide +kernel), List.mem_of_getElem? (i := 540) (by decide +kernel)⟩
theorem lw_p8 : lw_okq (⟨"WordWright$Solver", "findTeams", "()V"⟩, 11) := ⟨⟨by decide +kernel, by decide +kernel⟩, List.mem_of_getElem? (i := 296) (by decide +kernel), List.mem_of_getElem? (i := 543) (by decide +kernel), List.mem_of_getElem? (i := 544) (by decide +kernel)⟩
theorem lw_p9 : lw_okq (⟨"WordWright$Solver", "sharesLetter", "(II)Z"⟩, 11) := ⟨⟨by decide +kernel, by decide +kernel⟩, List.mem_of_getElem? (i := 296) (by decide +kernel), List.mem_of_getElem? (i := 547) (by decide +kernel), List.mem_of_getElem? (i := 548) (by decide +kernel)⟩
theorem lw_p10 : lw_okq (⟨"WordWright$Solver", "joinTeams", "(II)V"⟩, 11) := ⟨⟨by decide +kernel, by decide +kernel⟩, List.mem_of_getElem? (i := 296) (by decide +kernel), List.mem_of_getElem? (i := 551) (by decide +kernel), List.mem_of_getElem? (i := 552) (by decide +kernel)⟩
theorem lw_p11 : lw_okq (⟨"WordWright$Solver", "countTeam", "(I)I"⟩, 11) := ⟨⟨by decide +kernel, by decide +kernel⟩, List.mem_of_getElem? (i := 296) (by decide +kernel), List.mem_of_getElem? (i := 555) (by decide +kernel), List.mem_of_getElem? (i := 556) (by decide +kernel)⟩
theorem lw_p12 : lw_okq (⟨"WordWright$Solver", "openLetters", "(I)V"⟩, 11) := ⟨⟨by decide +kernel, by decide +kernel⟩, List.mem_of_getElem? (i := 296) (by decide +kernel), List.mem_of_getElem? (i := 559) (by decide +kernel), List.mem_of_getElem? (i := 560) (by decide +kernel)⟩
theorem lw_p13 : lw_okq (⟨"WordWright$Solver", "isOpen", "(I)Z"⟩, 11) := ⟨⟨by decide +kernel, by decide +kernel⟩, List.mem_of_getElem? (i := 296) (by decide +kernel), List.mem_of_getElem? (i := 563) (by decide +kernel), List.mem_of_getElem? (i := 564) (by decide +kernel)⟩
theorem lw_p14 : lw_okq (⟨"WordWright$Solver", "isTeamAllowed", "(I)Z"⟩, 11) := ⟨⟨by decide +kernel, by decide +kernel⟩, List.mem_of_getElem? (i := 296) (by decide +kernel), List.mem_of_getElem? (i := 567) (by decide +kernel), List.mem_of_getElem? (i := 568) (by decide +kernel)⟩
theorem lw_p15 : lw_okq (⟨"WordWright$Solver", "wordOf", "(I)I"⟩, 11) := ⟨⟨by decide +kernel, by decide +kernel⟩, List.mem_of_getElem? (i := 296) (by decide +kernel), List.mem_of_getElem? (i := 571) (by decide +kernel), List.mem_of_getElem? (i := 572) (by decide +kernel)⟩
def lw_privs_1 : List (MethodName × Nat) := [(⟨"WordWright", "solveEquations", "()V"⟩, 13), (⟨"WordWright$Solver", "allow", "(LWordWright$Equations;[LWordWright$Language;)V"⟩, 11), (⟨"WordWright$Solver", "begin", "(I)V"⟩, 11), (⟨"WordWright$Solver", "isAllowed", "()Z"⟩, 11), (⟨"WordWright$Solver", "tieAll", "(LWordWright$Equations;)Z"⟩, 11), (⟨"WordWright$Solver", "spell", "(LWordWright$Equations;II)I"⟩, 11), (⟨"WordWright$Solver", "tie", "(II)Z"⟩, 11), (⟨"WordWright$Solver", "countCase", "()I"⟩, 11), (⟨"WordWright$Solver", "findTeams", "()V"⟩, 11), (⟨"WordWright$Solver", "sharesLetter", "(II)Z"⟩, 11), (⟨"WordWright$Solver", "joinTeams", "(II)V"⟩, 11), (⟨"WordWright$Solver", "countTeam", "(I)I"⟩, 11), (⟨"WordWright$Solver", "openLetters", "(I)V"⟩, 11), (⟨"WordWright$Solver", "isOpen", "(I)Z"⟩, 11), (⟨"WordWright$Solver", "isTeamAllowed", "(I)Z"⟩, 11), (⟨"WordWright$Solver", "wordOf", "(I)I"⟩, 11)]
theorem lw_r1 : ∀ q ∈ lw_privs_1, lw_okq q := List.forall_mem_cons.mpr ⟨lw_p0, List.forall_mem_cons.mpr ⟨lw_p1, List.forall_mem_cons.mpr ⟨lw_p2, List.forall_mem_cons.mpr ⟨lw_p3, List.forall_mem_cons.mpr ⟨lw_p4, List.forall_mem_cons.mpr ⟨lw_p5, List.forall_mem_cons.mpr ⟨lw_p6, List.forall_mem_cons.mpr ⟨lw_p7, List.forall_mem_cons.mpr ⟨lw_p8, List.forall_mem_cons.mpr ⟨lw_p9, List.forall_mem_cons.mpr ⟨lw_p10, List.forall_mem_cons.mpr ⟨lw_p11, List.forall_mem_cons.mpr ⟨lw_p12, List.forall_mem_cons.mpr ⟨lw_p13, List.forall_mem_cons.mpr ⟨lw_p14, List.forall_mem_cons.mpr ⟨lw_p15, fun _ h => absurd h List.not_mem_nil⟩⟩⟩⟩⟩⟩⟩⟩⟩⟩⟩⟩⟩⟩⟩⟩
theorem lw_p16 : lw_okq (⟨"WordWright$Solver", "keepGuess", "(I)V"⟩, 11) := ⟨⟨by decide +kernel, by decide +kernel⟩, List.mem_of_getElem? (i := 296) (by decide +kernel), List.mem_of_getElem? (i := 575) (by decide +kernel), List.mem_of_getElem? (i := 576) (by decide +kernel)⟩
theorem lw_p17 : lw_okq (⟨"WordWright$Solver", "isGuessBefore", "()Z"⟩, 11) := ⟨⟨by decide +kernel, by decide +kernel⟩, List.mem_of_getElem? (i := 296) (by decide +kernel), List.mem_of_getElem? (i := 579) (by decide +kernel), List.mem_of_getElem? (i := 580) (by decide +kernel)⟩
theorem lw_p18 : lw_okq (⟨"WordWright$Program", "begin", "()V"⟩, 12) := ⟨⟨by decide +kernel, by decide +kernel⟩, List.mem_of_getElem? (i := 375) (by decide +kernel), List.mem_of_getElem? (i := 611) (by decide +kernel), List.mem_of_getElem? (i := 612) (by decide +kernel)⟩
theorem lw_p19 : lw_okq (⟨"WordWright$Program", "take", "(I)V"⟩, 12) := ⟨⟨by decide +kernel, by decide +kernel⟩, List.mem_of_getElem? (i := 375) (by decide +kernel), List.mem_of_getElem? (i := 619) (by decide +kernel), List.mem_of_getElem? (i := 620) (by decide +kernel)⟩
theorem lw_p20 : lw_okq (⟨"WordWright$Program", "passParts", "(ILWordWright$Language;LWordWright$Workshop;)Z"⟩, 12) := ⟨⟨by decide +kernel, by decide +kernel⟩, List.mem_of_getElem? (i := 375) (by decide +kernel), List.mem_of_getElem? (i := 628) (by decide +kernel), List.mem_of_getElem? (i := 629) (by decide +kernel)⟩
theorem lw_p21 : lw_okq (⟨"WordWright$Draft", "split", "()I"⟩, 12) := ⟨⟨by decide +kernel, by decide +kernel⟩, List.mem_of_getElem? (i := 99) (by decide +kernel), List.mem_of_getElem? (i := 657) (by decide +kernel), List.mem_of_getElem? (i := 658) (by decide +kernel)⟩
theorem lw_p22 : lw_okq (⟨"WordWright$Draft", "signOf", "(I)I"⟩, 12) := ⟨⟨by decide +kernel, by decide +kernel⟩, List.mem_of_getElem? (i := 99) (by decide +kernel), List.mem_of_getElem? (i := 661) (by decide +kernel), List.mem_of_getElem? (i := 662) (by decide +kernel)⟩
theorem lw_p23 : lw_okq (⟨"WordWright$Draft", "number", "(LWordWright$Language;)V"⟩, 12) := ⟨⟨by decide +kernel, by decide +kernel⟩, List.mem_of_getElem? (i := 99) (by decide +kernel), List.mem_of_getElem? (i := 665) (by decide +kernel), List.mem_of_getElem? (i := 666) (by decide +kernel)⟩
theorem lw_p24 : lw_okq (⟨"WordWright$Program", "comeTo", "(ILWordWright$Workshop;)Z"⟩, 12) := ⟨⟨by decide +kernel, by decide +kernel⟩, List.mem_of_getElem? (i := 375) (by decide +kernel), List.mem_of_getElem? (i := 681) (by decide +kernel), List.mem_of_getElem? (i := 682) (by decide +kernel)⟩
theorem lw_p25 : lw_okq (⟨"WordWright$Program", "passOn", "(I[LWordWright$Language;[LWordWright$Machine;LWordWright$Workshop;)Z"⟩, 12) := ⟨⟨by decide +kernel, by decide +kernel⟩, List.mem_of_getElem? (i := 375) (by decide +kernel), List.mem_of_getElem? (i := 689) (by decide +kernel), List.mem_of_getElem? (i := 690) (by decide +kernel)⟩
theorem lw_p26 : lw_okq (⟨"WordWright", "amount", "(I)I"⟩, 13) := ⟨⟨by decide +kernel, by decide +kernel⟩, List.mem_of_getElem? (i := 57) (by decide +kernel), List.mem_of_getElem? (i := 723) (by decide +kernel), List.mem_of_getElem? (i := 724) (by decide +kernel)⟩
theorem lw_p27 : lw_okq (⟨"WordWright", "arcCount", "()I"⟩, 13) := ⟨⟨by decide +kernel, by decide +kernel⟩, List.mem_of_getElem? (i := 57) (by decide +kernel), List.mem_of_getElem? (i := 727) (by decide +kernel), List.mem_of_getElem? (i := 728) (by decide +kernel)⟩
theorem lw_p28 : lw_okq (⟨"WordWright", "badCount", "()I"⟩, 13) := ⟨⟨by decide +kernel, by decide +kernel⟩, List.mem_of_getElem? (i := 57) (by decide +kernel), List.mem_of_getElem? (i := 735) (by decide +kernel), List.mem_of_getElem? (i := 736) (by decide +kernel)⟩
theorem lw_p29 : lw_okq (⟨"WordWright", "badWord", "(I)I"⟩, 13) := ⟨⟨by decide +kernel, by decide +kernel⟩, List.mem_of_getElem? (i := 57) (by decide +kernel), List.mem_of_getElem? (i := 739) (by decide +kernel), List.mem_of_getElem? (i := 740) (by decide +kernel)⟩
theorem lw_p30 : lw_okq (⟨"WordWright$Search", "reach", "(II)V"⟩, 7) := ⟨⟨by decide +kernel, by decide +kernel⟩, List.mem_of_getElem? (i := 153) (by decide +kernel), List.mem_of_getElem? (i := 752) (by decide +kernel), List.mem_of_getElem? (i := 753) (by decide +kernel)⟩
theorem lw_p31 : lw_okq (⟨"WordWright$Search", "leastAmong", "(IILWordWright$Machine;LWordWright$Language;LWordWright$Language;)I"⟩, 7) := ⟨⟨by decide +kernel, by decide +kernel⟩, List.mem_of_getElem? (i := 153) (by decide +kernel), List.mem_of_getElem? (i := 756) (by decide +kernel), List.mem_of_getElem? (i := 757) (by decide +kernel)⟩
def lw_privs_2 : List (MethodName × Nat) := [(⟨"WordWright$Solver", "keepGuess", "(I)V"⟩, 11), (⟨"WordWright$Solver", "isGuessBefore", "()Z"⟩, 11), (⟨"WordWright$Program", "begin", "()V"⟩, 12), (⟨"WordWright$Program", "take", "(I)V"⟩, 12), (⟨"WordWright$Program", "passParts", "(ILWordWright$Language;LWordWright$Workshop;)Z"⟩, 12), (⟨"WordWright$Draft", "split", "()I"⟩, 12), (⟨"WordWright$Draft", "signOf", "(I)I"⟩, 12), (⟨"WordWright$Draft", "number", "(LWordWright$Language;)V"⟩, 12), (⟨"WordWright$Program", "comeTo", "(ILWordWright$Workshop;)Z"⟩, 12), (⟨"WordWright$Program", "passOn", "(I[LWordWright$Language;[LWordWright$Machine;LWordWright$Workshop;)Z"⟩, 12), (⟨"WordWright", "amount", "(I)I"⟩, 13), (⟨"WordWright", "arcCount", "()I"⟩, 13), (⟨"WordWright", "badCount", "()I"⟩, 13), (⟨"WordWright", "badWord", "(I)I"⟩, 13), (⟨"WordWright$Search", "reach", "(II)V"⟩, 7), (⟨"WordWright$Search", "leastAmong", "(IILWordWright$Machine;LWordWright$Language;LWordWright$Language;)I"⟩, 7)]
theorem lw_r2 : ∀ q ∈ lw_privs_2, lw_okq q := List.forall_mem_cons.mpr ⟨lw_p16, List.forall_mem_cons.mpr ⟨lw_p17, List.forall_mem_cons.mpr ⟨lw_p18, List.forall_mem_cons.mpr ⟨lw_p19, List.forall_mem_cons.mpr ⟨lw_p20, List.forall_mem_cons.mpr ⟨lw_p21, List.forall_mem_cons.mpr ⟨lw_p22, List.forall_mem_cons.mpr ⟨lw_p23, List.forall_mem_cons.mpr ⟨lw_p24, List.forall_mem_cons.mpr ⟨lw_p25, List.forall_mem_cons.mpr ⟨lw_p26, List.forall_mem_cons.mpr ⟨lw_p27, List.forall_mem_cons.mpr ⟨lw_p28, List.forall_mem_cons.mpr ⟨lw_p29, List.forall_mem_cons.mpr ⟨lw_p30, List.forall_mem_cons.mpr ⟨lw_p31, fun _ h => absurd h List.not_mem_nil⟩⟩⟩⟩⟩⟩⟩⟩⟩⟩⟩⟩⟩⟩⟩⟩
theorem lw_p32 : lw_okq (⟨"WordWright$Search", "goOn", "(ILWordWright$Machine;LWordWright$Language;LWordWright$Language;)V"⟩, 7) := ⟨⟨by decide +kernel, by decide +kernel⟩, List.mem_of_getElem? (i := 153) (by decide +kernel), List.mem_of_getElem? (i := 763) (by decide +kernel), List.mem_of_getElem? (i := 764) (by decide +kernel)⟩
theorem lw_p33 : lw_okq (⟨"WordWright", "mixLanguages", "(J)J"⟩, 13) := ⟨⟨by decide +kernel, by decide +kernel⟩, List.mem_of_getElem? (i := 57) (by decide +kernel), List.mem_of_getElem? (i := 769) (by decide +kernel), List.mem_of_getElem? (i := 770) (by decide +kernel)⟩
theorem lw_p34 : lw_okq (⟨"WordWright", "languageFact", "(LWordWright$Language;I)I"⟩, 13) := ⟨⟨by decide +kernel, by decide +kernel⟩, List.mem_of_getElem? (i := 57) (by decide +kernel), List.mem_of_getElem? (i := 773) (by decide +kernel), List.mem_of_getElem? (i := 774) (by decide +kernel)⟩
theorem lw_p35 : lw_okq (⟨"WordWright", "mixMachines", "(J)J"⟩, 13) := ⟨⟨by decide +kernel, by decide +kernel⟩, List.mem_of_getElem? (i := 57) (by decide +kernel), List.mem_of_getElem? (i := 811) (by decide +kernel), List.mem_of_getElem? (i := 812) (by decide +kernel)⟩
theorem lw_p36 : lw_okq (⟨"WordWright$Writings", "readFrom", "(LWordWright$Machine;II)V"⟩, 1) := ⟨⟨by decide +kernel, by decide +kernel⟩, List.mem_of_getElem? (i := 235) (by decide +kernel), List.mem_of_getElem? (i := 823) (by decide +kernel), List.mem_of_getElem? (i := 824) (by decide +kernel)⟩
theorem lw_p37 : lw_okq (⟨"WordWright$Writings", "readLetter", "(LWordWright$Machine;II)V"⟩, 1) := ⟨⟨by decide +kernel, by decide +kernel⟩, List.mem_of_getElem? (i := 235) (by decide +kernel), List.mem_of_getElem? (i := 828) (by decide +kernel), List.mem_of_getElem? (i := 829) (by decide +kernel)⟩
theorem lw_p38 : lw_okq (⟨"java/lang/Throwable", "fillInStackTrace", "(I)Ljava/lang/Throwable;"⟩, 6) := ⟨⟨by decide +kernel, by decide +kernel⟩, List.mem_of_getElem? (i := 878) (by decide +kernel), List.mem_of_getElem? (i := 876) (by decide +kernel), List.mem_of_getElem? (i := 877) (by decide +kernel)⟩
theorem lw_p39 : lw_okq (⟨"WordWright$Writings", "hasSeveral", "(LWordWright$Machine;I)Z"⟩, 1) := ⟨⟨by decide +kernel, by decide +kernel⟩, List.mem_of_getElem? (i := 235) (by decide +kernel), List.mem_of_getElem? (i := 1167) (by decide +kernel), List.mem_of_getElem? (i := 1168) (by decide +kernel)⟩
theorem lw_p40 : lw_okq (⟨"WordWright$Search", "findLeads", "(LWordWright$Machine;)V"⟩, 7) := ⟨⟨by decide +kernel, by decide +kernel⟩, List.mem_of_getElem? (i := 153) (by decide +kernel), List.mem_of_getElem? (i := 1175) (by decide +kernel), List.mem_of_getElem? (i := 1176) (by decide +kernel)⟩
theorem lw_p41 : lw_okq (⟨"WordWright$Search", "leastRound", "(LWordWright$Machine;I)I"⟩, 7) := ⟨⟨by decide +kernel, by decide +kernel⟩, List.mem_of_getElem? (i := 153) (by decide +kernel), List.mem_of_getElem? (i := 1182) (by decide +kernel), List.mem_of_getElem? (i := 1183) (by decide +kernel)⟩
theorem lw_p42 : lw_okq (⟨"WordWright$Search", "extendRound", "(LWordWright$Machine;I)V"⟩, 7) := ⟨⟨by decide +kernel, by decide +kernel⟩, List.mem_of_getElem? (i := 153) (by decide +kernel), List.mem_of_getElem? (i := 1189) (by decide +kernel), List.mem_of_getElem? (i := 1190) (by decide +kernel)⟩
theorem lw_p43 : lw_okq (⟨"WordWright", "mixWritten", "(JLWordWright$Machine;I)J"⟩, 13) := ⟨⟨by decide +kernel, by decide +kernel⟩, List.mem_of_getElem? (i := 57) (by decide +kernel), List.mem_of_getElem? (i := 1197) (by decide +kernel), List.mem_of_getElem? (i := 1198) (by decide +kernel)⟩
theorem lw_p44 : lw_okq (⟨"WordWright", "mixSchema", "(JI)J"⟩, 13) := ⟨⟨by decide +kernel, by decide +kernel⟩, List.mem_of_getElem? (i := 57) (by decide +kernel), List.mem_of_getElem? (i := 1205) (by decide +kernel), List.mem_of_getElem? (i := 1206) (by decide +kernel)⟩
theorem lw_p45 : lw_okq (⟨"WordWright$Schemas", "lightestWord", "(LWordWright$Language;)I"⟩, 8) := ⟨⟨by decide +kernel, by decide +kernel⟩, List.mem_of_getElem? (i := 339) (by decide +kernel), List.mem_of_getElem? (i := 1214) (by decide +kernel), List.mem_of_getElem? (i := 1215) (by decide +kernel)⟩
theorem lw_p46 : lw_okq (⟨"WordWright$Schemas", "shorten", "(II)V"⟩, 8) := ⟨⟨by decide +kernel, by decide +kernel⟩, List.mem_of_getElem? (i := 339) (by decide +kernel), List.mem_of_getElem? (i := 1219) (by decide +kernel), List.mem_of_getElem? (i := 1220) (by decide +kernel)⟩
theorem lw_p47 : lw_okq (⟨"WordWright$Schemas", "isFit", "(ILWordWright$Language;)Z"⟩, 8) := ⟨⟨by decide +kernel, by decide +kernel⟩, List.mem_of_getElem? (i := 339) (by decide +kernel), List.mem_of_getElem? (i := 1228) (by decide +kernel), List.mem_of_getElem? (i := 1229) (by decide +kernel)⟩
def lw_privs_3 : List (MethodName × Nat) := [(⟨"WordWright$Search", "goOn", "(ILWordWright$Machine;LWordWright$Language;LWordWright$Language;)V"⟩, 7), (⟨"WordWright", "mixLanguages", "(J)J"⟩, 13), (⟨"WordWright", "languageFact", "(LWordWright$Language;I)I"⟩, 13), (⟨"WordWright", "mixMachines", "(J)J"⟩, 13), (⟨"WordWright$Writings", "readFrom", "(LWordWright$Machine;II)V"⟩, 1), (⟨"WordWright$Writings", "readLetter", "(LWordWright$Machine;II)V"⟩, 1), (⟨"java/lang/Throwable", "fillInStackTrace", "(I)Ljava/lang/Throwable;"⟩, 6), (⟨"WordWright$Writings", "hasSeveral", "(LWordWright$Machine;I)Z"⟩, 1), (⟨"WordWright$Search", "findLeads", "(LWordWright$Machine;)V"⟩, 7), (⟨"WordWright$Search", "leastRound", "(LWordWright$Machine;I)I"⟩, 7), (⟨"WordWright$Search", "extendRound", "(LWordWright$Machine;I)V"⟩, 7), (⟨"WordWright", "mixWritten", "(JLWordWright$Machine;I)J"⟩, 13), (⟨"WordWright", "mixSchema", "(JI)J"⟩, 13), (⟨"WordWright$Schemas", "lightestWord", "(LWordWright$Language;)I"⟩, 8), (⟨"WordWright$Schemas", "shorten", "(II)V"⟩, 8), (⟨"WordWright$Schemas", "isFit", "(ILWordWright$Language;)Z"⟩, 8)]
theorem lw_r3 : ∀ q ∈ lw_privs_3, lw_okq q := List.forall_mem_cons.mpr ⟨lw_p32, List.forall_mem_cons.mpr ⟨lw_p33, List.forall_mem_cons.mpr ⟨lw_p34, List.forall_mem_cons.mpr ⟨lw_p35, List.forall_mem_cons.mpr ⟨lw_p36, List.forall_mem_cons.mpr ⟨lw_p37, List.forall_mem_cons.mpr ⟨lw_p38, List.forall_mem_cons.mpr ⟨lw_p39, List.forall_mem_cons.mpr ⟨lw_p40, List.forall_mem_cons.mpr ⟨lw_p41, List.forall_mem_cons.mpr ⟨lw_p42, List.forall_mem_cons.mpr ⟨lw_p43, List.forall_mem_cons.mpr ⟨lw_p44, List.forall_mem_cons.mpr ⟨lw_p45, List.forall_mem_cons.mpr ⟨lw_p46, List.forall_mem_cons.mpr ⟨lw_p47, fun _ h => absurd h List.not_mem_nil⟩⟩⟩⟩⟩⟩⟩⟩⟩⟩⟩⟩⟩⟩⟩⟩
theorem lw_p48 : lw_okq (⟨"WordWright$Schemas", "directStrays", "(III[LWordWright$Language;LWordWright$Search;)I"⟩, 8) := ⟨⟨by decide +kernel, by decide +kernel⟩, List.mem_of_getElem? (i := 339) (by decide +kernel), List.mem_of_getElem? (i := 1237) (by decide +kernel), List.mem_of_getElem? (i := 1238) (by decide +kernel)⟩
theorem lw_p49 : lw_okq (⟨"WordWright", "mixSpans", "(J)J"⟩, 13) := ⟨⟨by decide +kernel, by decide +kernel⟩, List.mem_of_getElem? (i := 57) (by decide +kernel), List.mem_of_getElem? (i := 1245) (by decide +kernel), List.mem_of_getElem? (i := 1246) (by decide +kernel)⟩
theorem lw_p50 : lw_okq (⟨"WordWright", "spanFact", "(III)I"⟩, 13) := ⟨⟨by decide +kernel, by decide +kernel⟩, List.mem_of_getElem? (i := 57) (by decide +kernel), List.mem_of_getElem? (i := 1249) (by decide +kernel), List.mem_of_getElem? (i := 1250) (by decide +kernel)⟩
theorem lw_p51 : lw_okq (⟨"WordWright", "canName", "(III)Z"⟩, 13) := ⟨⟨by decide +kernel, by decide +kernel⟩, List.mem_of_getElem? (i := 57) (by decide +kernel), List.mem_of_getElem? (i := 1263) (by decide +kernel), List.mem_of_getElem? (i := 1264) (by decide +kernel)⟩
theorem lw_p52 : lw_okq (⟨"WordWright", "isLanguage", "(I)Z"⟩, 13) := ⟨⟨by decide +kernel, by decide +kernel⟩, List.mem_of_getElem? (i := 57) (by decide +kernel), List.mem_of_getElem? (i := 1270) (by decide +kernel), List.mem_of_getElem? (i := 1271) (by decide +kernel)⟩
theorem lw_p53 : lw_okq (⟨"WordWright", "isMachine", "(I)Z"⟩, 13) := ⟨⟨by decide +kernel, by decide +kernel⟩, List.mem_of_getElem? (i := 57) (by decide +kernel), List.mem_of_getElem? (i := 1274) (by decide +kernel), List.mem_of_getElem? (i := 1275) (by decide +kernel)⟩
theorem lw_p54 : lw_okq (⟨"WordWright", "build", "(III)Z"⟩, 13) := ⟨⟨by decide +kernel, by decide +kernel⟩, List.mem_of_getElem? (i := 57) (by decide +kernel), List.mem_of_getElem? (i := 1281) (by decide +kernel), List.mem_of_getElem? (i := 1282) (by decide +kernel)⟩
theorem lw_p55 : lw_okq (⟨"WordWright", "numberOfBuilt", "()I"⟩, 13) := ⟨⟨by decide +kernel, by decide +kernel⟩, List.mem_of_getElem? (i := 57) (by decide +kernel), List.mem_of_getElem? (i := 1335) (by decide +kernel), List.mem_of_getElem? (i := 1336) (by decide +kernel)⟩
theorem lw_p56 : lw_okq (⟨"WordWright", "isSchema", "(I)Z"⟩, 13) := ⟨⟨by decide +kernel, by decide +kernel⟩, List.mem_of_getElem? (i := 57) (by decide +kernel), List.mem_of_getElem? (i := 1561) (by decide +kernel), List.mem_of_getElem? (i := 1562) (by decide +kernel)⟩
theorem lw_p57 : lw_okq (⟨"WordWright", "isStep", "(IIII)Z"⟩, 13) := ⟨⟨by decide +kernel, by decide +kernel⟩, List.mem_of_getElem? (i := 57) (by decide +kernel), List.mem_of_getElem? (i := 1613) (by decide +kernel), List.mem_of_getElem? (i := 1614) (by decide +kernel)⟩
theorem lw_p58 : lw_okq (⟨"WordWrightModel$3", "with", "(IJ)J"⟩, 2) := ⟨⟨by decide +kernel, by decide +kernel⟩, List.mem_of_getElem? (i := 1712) (by decide +kernel), List.mem_of_getElem? (i := 1710) (by decide +kernel), List.mem_of_getElem? (i := 1711) (by decide +kernel)⟩
theorem lw_p59 : lw_okq (⟨"WordWrightModel$7", "closed", "(J)J"⟩, 3) := ⟨⟨by decide +kernel, by decide +kernel⟩, List.mem_of_getElem? (i := 1731) (by decide +kernel), List.mem_of_getElem? (i := 1729) (by decide +kernel), List.mem_of_getElem? (i := 1730) (by decide +kernel)⟩
theorem lw_p60 : lw_okq (⟨"WordWrightModel$7", "moved", "(JI)J"⟩, 3) := ⟨⟨by decide +kernel, by decide +kernel⟩, List.mem_of_getElem? (i := 1731) (by decide +kernel), List.mem_of_getElem? (i := 1735) (by decide +kernel), List.mem_of_getElem? (i := 1736) (by decide +kernel)⟩
theorem lw_p61 : lw_okq (⟨"java/util/ArrayList", "add", "(Ljava/lang/Object;[Ljava/lang/Object;I)V"⟩, 3) := ⟨⟨by decide +kernel, by decide +kernel⟩, List.mem_of_getElem? (i := 1889) (by decide +kernel), List.mem_of_getElem? (i := 1961) (by decide +kernel), List.mem_of_getElem? (i := 1962) (by decide +kernel)⟩
theorem lw_p62 : lw_okq (⟨"java/util/ArrayList", "grow", "()[Ljava/lang/Object;"⟩, 3) := ⟨⟨by decide +kernel, by decide +kernel⟩, List.mem_of_getElem? (i := 1889) (by decide +kernel), List.mem_of_getElem? (i := 1965) (by decide +kernel), List.mem_of_getElem? (i := 1966) (by decide +kernel)⟩
theorem lw_p63 : lw_okq (⟨"java/util/ArrayList", "grow", "(I)[Ljava/lang/Object;"⟩, 3) := ⟨⟨by decide +kernel, by decide +kernel⟩, List.mem_of_getElem? (i := 1889) (by decide +kernel), List.mem_of_getElem? (i := 1969) (by decide +kernel), List.mem_of_getElem? (i := 1970) (by decide +kernel)⟩
def lw_privs_4 : List (MethodName × Nat) := [(⟨"WordWright$Schemas", "directStrays", "(III[LWordWright$Language;LWordWright$Search;)I"⟩, 8), (⟨"WordWright", "mixSpans", "(J)J"⟩, 13), (⟨"WordWright", "spanFact", "(III)I"⟩, 13), (⟨"WordWright", "canName", "(III)Z"⟩, 13), (⟨"WordWright", "isLanguage", "(I)Z"⟩, 13), (⟨"WordWright", "isMachine", "(I)Z"⟩, 13), (⟨"WordWright", "build", "(III)Z"⟩, 13), (⟨"WordWright", "numberOfBuilt", "()I"⟩, 13), (⟨"WordWright", "isSchema", "(I)Z"⟩, 13), (⟨"WordWright", "isStep", "(IIII)Z"⟩, 13), (⟨"WordWrightModel$3", "with", "(IJ)J"⟩, 2), (⟨"WordWrightModel$7", "closed", "(J)J"⟩, 3), (⟨"WordWrightModel$7", "moved", "(JI)J"⟩, 3), (⟨"java/util/ArrayList", "add", "(Ljava/lang/Object;[Ljava/lang/Object;I)V"⟩, 3), (⟨"java/util/ArrayList", "grow", "()[Ljava/lang/Object;"⟩, 3), (⟨"java/util/ArrayList", "grow", "(I)[Ljava/lang/Object;"⟩, 3)]
theorem lw_r4 : ∀ q ∈ lw_privs_4, lw_okq q := List.forall_mem_cons.mpr ⟨lw_p48, List.forall_mem_cons.mpr ⟨lw_p49, List.forall_mem_cons.mpr ⟨lw_p50, List.forall_mem_cons.mpr ⟨lw_p51, List.forall_mem_cons.mpr ⟨lw_p52, List.forall_mem_cons.mpr ⟨lw_p53, List.forall_mem_cons.mpr ⟨lw_p54, List.forall_mem_cons.mpr ⟨lw_p55, List.forall_mem_cons.mpr ⟨lw_p56, List.forall_mem_cons.mpr ⟨lw_p57, List.forall_mem_cons.mpr ⟨lw_p58, List.forall_mem_cons.mpr ⟨lw_p59, List.forall_mem_cons.mpr ⟨lw_p60, List.forall_mem_cons.mpr ⟨lw_p61, List.forall_mem_cons.mpr ⟨lw_p62, List.forall_mem_cons.mpr ⟨lw_p63, fun _ h => absurd h List.not_mem_nil⟩⟩⟩⟩⟩⟩⟩⟩⟩⟩⟩⟩⟩⟩⟩⟩
theorem lw_p64 : lw_okq (⟨"WordWrightModel", "isRight", "(III)Z"⟩, 10) := ⟨⟨by decide +kernel, by decide +kernel⟩, List.mem_of_getElem? (i := 1667) (by decide +kernel), List.mem_of_getElem? (i := 2069) (by decide +kernel), List.mem_of_getElem? (i := 2070) (by decide +kernel)⟩
theorem lw_p65 : lw_okq (⟨"WordWrightModel", "no", "(I)I"⟩, 10) := ⟨⟨by decide +kernel, by decide +kernel⟩, List.mem_of_getElem? (i := 1667) (by decide +kernel), List.mem_of_getElem? (i := 2085) (by decide +kernel), List.mem_of_getElem? (i := 2086) (by decide +kernel)⟩
theorem lw_p66 : lw_okq (⟨"WordWrightModel", "made", "(III)LWordWrightModel$Dfa;"⟩, 10) := ⟨⟨by decide +kernel, by decide +kernel⟩, List.mem_of_getElem? (i := 1667) (by decide +kernel), List.mem_of_getElem? (i := 2089) (by decide +kernel), List.mem_of_getElem? (i := 2090) (by decide +kernel)⟩
theorem lw_p67 : lw_okq (⟨"WordWrightModel", "languageNow", "(LWordWrightModel$Dfa;I)I"⟩, 10) := ⟨⟨by decide +kernel, by decide +kernel⟩, List.mem_of_getElem? (i := 1667) (by decide +kernel), List.mem_of_getElem? (i := 2255) (by decide +kernel), List.mem_of_getElem? (i := 2256) (by decide +kernel)⟩
theorem lw_p68 : lw_okq (⟨"WordWrightModel", "least", "(LWordWrightModel$Dfa;)I"⟩, 10) := ⟨⟨by decide +kernel, by decide +kernel⟩, List.mem_of_getElem? (i := 1667) (by decide +kernel), List.mem_of_getElem? (i := 2259) (by decide +kernel), List.mem_of_getElem? (i := 2260) (by decide +kernel)⟩
theorem lw_p69 : lw_okq (⟨"WordWrightModel", "none", "()LWordWrightModel$Dfa;"⟩, 10) := ⟨⟨by decide +kernel, by decide +kernel⟩, List.mem_of_getElem? (i := 1667) (by decide +kernel), List.mem_of_getElem? (i := 2263) (by decide +kernel), List.mem_of_getElem? (i := 2264) (by decide +kernel)⟩
theorem lw_p70 : lw_okq (⟨"WordWrightModel$11", "node", "(IZ)I"⟩, 4) := ⟨⟨by decide +kernel, by decide +kernel⟩, List.mem_of_getElem? (i := 2319) (by decide +kernel), List.mem_of_getElem? (i := 2317) (by decide +kernel), List.mem_of_getElem? (i := 2318) (by decide +kernel)⟩
theorem lw_p71 : lw_okq (⟨"WordWrightModel$10", "node", "(III)I"⟩, 3) := ⟨⟨by decide +kernel, by decide +kernel⟩, List.mem_of_getElem? (i := 2359) (by decide +kernel), List.mem_of_getElem? (i := 2357) (by decide +kernel), List.mem_of_getElem? (i := 2358) (by decide +kernel)⟩
theorem lw_p72 : lw_okq (⟨"java/util/ArrayList", "fastRemove", "([Ljava/lang/Object;I)V"⟩, 3) := ⟨⟨by decide +kernel, by decide +kernel⟩, List.mem_of_getElem? (i := 1889) (by decide +kernel), List.mem_of_getElem? (i := 2610) (by decide +kernel), List.mem_of_getElem? (i := 2611) (by decide +kernel)⟩
theorem lw_p73 : lw_okq (⟨"WordWrightModel$Equations", "letters", "(II[I)J"⟩, 6) := ⟨⟨by decide +kernel, by decide +kernel⟩, List.mem_of_getElem? (i := 1915) (by decide +kernel), List.mem_of_getElem? (i := 2641) (by decide +kernel), List.mem_of_getElem? (i := 2642) (by decide +kernel)⟩
theorem lw_p74 : lw_okq (⟨"WordWrightModel$Equations", "go", "(II[I[I[I)V"⟩, 6) := ⟨⟨by decide +kernel, by decide +kernel⟩, List.mem_of_getElem? (i := 1915) (by decide +kernel), List.mem_of_getElem? (i := 2647) (by decide +kernel), List.mem_of_getElem? (i := 2648) (by decide +kernel)⟩
theorem lw_p75 : lw_okq (⟨"WordWrightModel$Equations", "hasPart", "(II[I)Z"⟩, 6) := ⟨⟨by decide +kernel, by decide +kernel⟩, List.mem_of_getElem? (i := 1915) (by decide +kernel), List.mem_of_getElem? (i := 2651) (by decide +kernel), List.mem_of_getElem? (i := 2652) (by decide +kernel)⟩
theorem lw_p76 : lw_okq (⟨"WordWrightModel$Equations", "fits", "(I[I)Z"⟩, 6) := ⟨⟨by decide +kernel, by decide +kernel⟩, List.mem_of_getElem? (i := 1915) (by decide +kernel), List.mem_of_getElem? (i := 2655) (by decide +kernel), List.mem_of_getElem? (i := 2656) (by decide +kernel)⟩
theorem lw_p77 : lw_okq (⟨"WordWrightModel", "misfitNow", "([LWordWrightModel$Dfa;)I"⟩, 10) := ⟨⟨by decide +kernel, by decide +kernel⟩, List.mem_of_getElem? (i := 1667) (by decide +kernel), List.mem_of_getElem? (i := 2687) (by decide +kernel), List.mem_of_getElem? (i := 2688) (by decide +kernel)⟩
theorem lw_p78 : lw_okq (⟨"WordWrightModel$Spans", "pass", "(ILWordWrightModel$Step;)V"⟩, 5) := ⟨⟨by decide +kernel, by decide +kernel⟩, List.mem_of_getElem? (i := 2760) (by decide +kernel), List.mem_of_getElem? (i := 2777) (by decide +kernel), List.mem_of_getElem? (i := 2778) (by decide +kernel)⟩
theorem lw_p79 : lw_okq (⟨"WordWrightModel$Spans", "copy", "([LWordWrightModel$Dfa;)[LWordWrightModel$Dfa;"⟩, 5) := ⟨⟨by decide +kernel, by decide +kernel⟩, List.mem_of_getElem? (i := 2760) (by decide +kernel), List.mem_of_getElem? (i := 2781) (by decide +kernel), List.mem_of_getElem? (i := 2782) (by decide +kernel)⟩
def lw_privs_5 : List (MethodName × Nat) := [(⟨"WordWrightModel", "isRight", "(III)Z"⟩, 10), (⟨"WordWrightModel", "no", "(I)I"⟩, 10), (⟨"WordWrightModel", "made", "(III)LWordWrightModel$Dfa;"⟩, 10), (⟨"WordWrightModel", "languageNow", "(LWordWrightModel$Dfa;I)I"⟩, 10), (⟨"WordWrightModel", "least", "(LWordWrightModel$Dfa;)I"⟩, 10), (⟨"WordWrightModel", "none", "()LWordWrightModel$Dfa;"⟩, 10), (⟨"WordWrightModel$11", "node", "(IZ)I"⟩, 4), (⟨"WordWrightModel$10", "node", "(III)I"⟩, 3), (⟨"java/util/ArrayList", "fastRemove", "([Ljava/lang/Object;I)V"⟩, 3), (⟨"WordWrightModel$Equations", "letters", "(II[I)J"⟩, 6), (⟨"WordWrightModel$Equations", "go", "(II[I[I[I)V"⟩, 6), (⟨"WordWrightModel$Equations", "hasPart", "(II[I)Z"⟩, 6), (⟨"WordWrightModel$Equations", "fits", "(I[I)Z"⟩, 6), (⟨"WordWrightModel", "misfitNow", "([LWordWrightModel$Dfa;)I"⟩, 10), (⟨"WordWrightModel$Spans", "pass", "(ILWordWrightModel$Step;)V"⟩, 5), (⟨"WordWrightModel$Spans", "copy", "([LWordWrightModel$Dfa;)[LWordWrightModel$Dfa;"⟩, 5)]
theorem lw_r5 : ∀ q ∈ lw_privs_5, lw_okq q := List.forall_mem_cons.mpr ⟨lw_p64, List.forall_mem_cons.mpr ⟨lw_p65, List.forall_mem_cons.mpr ⟨lw_p66, List.forall_mem_cons.mpr ⟨lw_p67, List.forall_mem_cons.mpr ⟨lw_p68, List.forall_mem_cons.mpr ⟨lw_p69, List.forall_mem_cons.mpr ⟨lw_p70, List.forall_mem_cons.mpr ⟨lw_p71, List.forall_mem_cons.mpr ⟨lw_p72, List.forall_mem_cons.mpr ⟨lw_p73, List.forall_mem_cons.mpr ⟨lw_p74, List.forall_mem_cons.mpr ⟨lw_p75, List.forall_mem_cons.mpr ⟨lw_p76, List.forall_mem_cons.mpr ⟨lw_p77, List.forall_mem_cons.mpr ⟨lw_p78, List.forall_mem_cons.mpr ⟨lw_p79, fun _ h => absurd h List.not_mem_nil⟩⟩⟩⟩⟩⟩⟩⟩⟩⟩⟩⟩⟩⟩⟩⟩
theorem lw_p80 : lw_okq (⟨"WordWrightModel$Spans", "orAll", "(LWordWrightModel$Dfa;)LWordWrightModel$Dfa;"⟩, 5) := ⟨⟨by decide +kernel, by decide +kernel⟩, List.mem_of_getElem? (i := 2760) (by decide +kernel), List.mem_of_getElem? (i := 2786) (by decide +kernel), List.mem_of_getElem? (i := 2787) (by decide +kernel)⟩
theorem lw_p81 : lw_okq (⟨"WordWrightModel$Spans", "come", "(I[LWordWrightModel$Dfa;)V"⟩, 5) := ⟨⟨by decide +kernel, by decide +kernel⟩, List.mem_of_getElem? (i := 2760) (by decide +kernel), List.mem_of_getElem? (i := 2793) (by decide +kernel), List.mem_of_getElem? (i := 2794) (by decide +kernel)⟩
theorem lw_p82 : lw_okq (⟨"WordWrightModel", "spanNow", "(LWordWrightModel$Spans;III)I"⟩, 10) := ⟨⟨by decide +kernel, by decide +kernel⟩, List.mem_of_getElem? (i := 1667) (by decide +kernel), List.mem_of_getElem? (i := 2818) (by decide +kernel), List.mem_of_getElem? (i := 2819) (by decide +kernel)⟩
theorem lw_p83 : lw_okq (⟨"WordWrightModel", "badNow", "(LWordWrightModel$Spans;I)I"⟩, 10) := ⟨⟨by decide +kernel, by decide +kernel⟩, List.mem_of_getElem? (i := 1667) (by decide +kernel), List.mem_of_getElem? (i := 2826) (by decide +kernel), List.mem_of_getElem? (i := 2827) (by decide +kernel)⟩
theorem lw_p84 : lw_okq (⟨"WordWrightModel", "manyNow", "(ILWordWrightModel$Spans;)I"⟩, 10) := ⟨⟨by decide +kernel, by decide +kernel⟩, List.mem_of_getElem? (i := 1667) (by decide +kernel), List.mem_of_getElem? (i := 2834) (by decide +kernel), List.mem_of_getElem? (i := 2835) (by decide +kernel)⟩
def lw_privs_6 : List (MethodName × Nat) := [(⟨"WordWrightModel$Spans", "orAll", "(LWordWrightModel$Dfa;)LWordWrightModel$Dfa;"⟩, 5), (⟨"WordWrightModel$Spans", "come", "(I[LWordWrightModel$Dfa;)V"⟩, 5), (⟨"WordWrightModel", "spanNow", "(LWordWrightModel$Spans;III)I"⟩, 10), (⟨"WordWrightModel", "badNow", "(LWordWrightModel$Spans;I)I"⟩, 10), (⟨"WordWrightModel", "manyNow", "(ILWordWrightModel$Spans;)I"⟩, 10)]
theorem lw_r6 : ∀ q ∈ lw_privs_6, lw_okq q := List.forall_mem_cons.mpr ⟨lw_p80, List.forall_mem_cons.mpr ⟨lw_p81, List.forall_mem_cons.mpr ⟨lw_p82, List.forall_mem_cons.mpr ⟨lw_p83, List.forall_mem_cons.mpr ⟨lw_p84, fun _ h => absurd h List.not_mem_nil⟩⟩⟩⟩⟩
def lw_privs : List (MethodName × Nat) := lw_privs_1 ++ (lw_privs_2 ++ (lw_privs_3 ++ (lw_privs_4 ++ (lw_privs_5 ++ (lw_privs_6)))))
def lw_tbl : List Cond := k2_sels lw_privs ++ tables_1
theorem lw_privs_ok : ∀ q ∈ lw_privs, lw_okq q := by
  show ∀ q ∈ lw_privs_1 ++ (lw_privs_2 ++ (lw_privs_3 ++ (lw_privs_4 ++ (lw_privs_5 ++ (lw_privs_6))))), lw_okq q
  exact List.forall_mem_append.mpr ⟨lw_r1, List.forall_mem_append.mpr ⟨lw_r2, List.forall_mem_append.mpr ⟨lw_r3, List.forall_mem_append.mpr ⟨lw_r4, List.forall_mem_append.mpr ⟨lw_r5, lw_r6⟩⟩⟩⟩⟩
/-- the streams that the claim lets the run draw from -/
abbrev lw_cs : List Choice := [Jvm.Choice.named "NaN.bits"]
theorem lw_bits : nanBits ∈ lw_cs := by first | decide | exact List.mem_cons_self | simp [lw_cs, nanBits]
end
section
/-! ===== BEGIN words of one list among another's, by their places ===== -/
theorem goodIn_r {big : List Cond} (ws : List Cond) (ps : List Nat) (hp : ws = ps.filterMap (fun i => big[i]?)) (h : ws.all goodWord = true) : GoodIn big ws := by
  intro w hw
  have h1 := List.all_eq_true.mp h w hw
  rw [hp] at hw
  obtain ⟨i, -, hi⟩ := List.mem_filterMap.mp hw
  have hm : w ∈ big := by first | exact List.mem_of_getElem? hi | exact List.getElem?_mem hi
  exact ⟨hm, good_of_word h1⟩
theorem goodIn_app {big a b : List Cond} (ha : GoodIn big a) (hb : GoodIn big b) : GoodIn big (a ++ b) := fun w h => (List.mem_append.mp h).elim (ha w) (hb w)
theorem goodIn_ca {big a b : List Cond} {c : Cond} (ha : GoodIn big (c :: a)) (hb : GoodIn big b) : GoodIn big (c :: (a ++ b)) := fun w h => (List.mem_cons.mp h).elim (fun e => ha w (List.mem_cons.mpr (Or.inl e))) (fun h => (List.mem_append.mp h).elim (fun h => ha w (List.mem_cons.mpr (Or.inr h))) (hb w))
theorem goodIn_sub {big ws : List Cond} (hm : ∀ w ∈ ws, w ∈ big) (h : ws.all goodWord = true) : GoodIn big ws := fun w hw => ⟨hm w hw, good_of_word (List.all_eq_true.mp h w hw)⟩
/-! ===== END ===== -/
/-! ===== BEGIN exceptions that leave a method, and their catching by the caller (launches without stack traces) ===== -/
section VXA
/-! The laws vx_back, vx_callV, vx_callS, vx_callSW, vx_throw0, vx_throwS follow proofs of the library, with one case more: JvmDerived/Free/Laws.lean (Back.of_free), Shelf42/LK1.lean (callV, callS), Shelf/KitTraced.lean (throwNew0V, throwNewS). -/
/-- where a method has thrown q: the class by its name, the cell, what was written, the world -/
def vx_T (XC : String → State → State → Prop) (st : State) (q : Addr) (t : State) (mc ms : Nat) (free : Addr → Prop) : Prop :=
  ∃ (E : String) (ce : Cell) (L : List Loc), XC E st t ∧ t.heap[q]? = some ce ∧ ce.vm = .none ∧ st.vm.findClass E = some ce.cls ∧ st.WarmedH t.vm ∧ st.sameButNew ({ t with vm := st.vm } : State) L mc ms ∧ ∀ z ∈ L, free z.base
def vx_Q (Qc : Array Value → State → Outcome → State → Prop) (XC : String → State → State → Prop) (mc ms : Nat) (free : Addr → Prop) : Array Value → State → Outcome → State → Prop := fun a st o t =>
  (Qc a st o t ∧ ∃ L, FrameEnd st o t L mc ms ∧ ∀ q ∈ L, free q.base) ∨ ∃ q, o = .threw q ∧ vx_T XC st q t mc ms free
/-- a callee that returns or throws -/
def vx_Met (l : Launch) (y : MethodName) (ws : List Cond) (rm : Room) (Pc : Array Value → State → Prop) (Qc : Array Value → State → Outcome → State → Prop) (XC : String → State → State → Prop) (mc ms : Nat) (free : Addr → Prop) : Prop :=
  MetFree l y (headSpec ws rm) Pc (fun _ _ _ _ _ => True) (vx_Q Qc XC mc ms free)
def vx_Post (XC : String → State → State → Prop) (mc ms : Nat) (free : Addr → Prop) : Pt → Array Value → Addr → Pt → Prop := fun A a q B =>
  ∃ (g : JFrame) (mk : MethodId) (t : State) (L : List Loc) (E : String) (ce : Cell), B.U.heap = t.heap ∧ B.U.vm = t.vm ∧ XC E (A.U.calling g mk a) t ∧ t.heap[q]? = some ce ∧ ce.vm = .none ∧ A.U.vm.findClass E = some ce.cls ∧ B.locs = A.locs ++ L ∧ (∀ z ∈ L, free z.base) ∧ B.cells = A.cells + mc ∧ B.slots = A.slots + ms
def vx_Back (l : Launch) (R : Room) (p : Program) (e : Env) (below : List Frame) (s : State) (sargs : Array Value) (y : MethodName) (len W9 : Nat)
    (Pre : Pt → Array Value → Prop) (Post : Pt → Array Value → Option Value → Pt → Prop) (PostX : Pt → Array Value → Addr → Pt → Prop) : Prop :=
  ∀ (m : MethodId) (meth : Method) (c : Code) (A : Pt) (g : JFrame) (ig : Instr) (mk : MethodId) (a : Array Value),
    Stand p l e R s m sargs below meth c A.U A.locs A.cells A.slots → g.method = m → g.locals.size = c.maxLocals → decode c.code g.pc = .ok (ig, len) →
    2 * g.monitorRoom + (g.stack.map fun v => v.category).sum ≤ W9 → A.U.methodNamed? y = some mk → Pre A a →
    (∃ (v : Option Value) (B : Pt), Stand p l e R s m sargs below meth c B.U B.locs B.cells B.slots ∧ Post A a v B ∧
      Steps p.tables e below (doInvoke e (A.U.setTop g) [] mk a).1 (B.U.setTop { g with pc := g.pc + len, stack := v.toList ++ g.stack })) ∨
    (∃ (q : Addr) (B : Pt), Stand p l e R s m sargs below meth c B.U B.locs B.cells B.slots ∧ PostX A a q B ∧
      Steps p.tables e below (doInvoke e (A.U.setTop g) [] mk a).1 ((B.U.setTop g).pushFrame (.throwing q)))
section Payer
variable {l : Launch} {R : Room} {p : Program} {e : Env} {below : List Frame} {s : State} {sargs : Array Value} {y : MethodName} {len W9 : Nat}
theorem vx_back {ws : List Cond} {rm : Room} {Pc : Array Value → State → Prop} {Qc : Array Value → State → Outcome → State → Prop} {XC : String → State → State → Prop} {mc ms : Nat} {free : Addr → Prop} {bytes : ByteArray} {maxL : Nat} {ret : Option FieldType}
    (hM : vx_Met l y ws rm Pc Qc XC mc ms free) (hblind : FrameBlind Pc) (hrc : rm.cells = mc) (hrs : rm.slots = ms)
    (hframes : rm.frames + 1 ≤ R.frames) (hlocals : W9 + (maxL + 11) + rm.locals ≤ R.locals)
    (hws : ∀ w ∈ ws, ∀ a' U, s.WarmedH U.vm → w.before a' U = true) (hcode : Cond.code y bytes maxL ret ∈ ws) (hinit : ∀ a' U, s.WarmedH U.vm → (Cond.initialized y.cls).before a' U = true) :
    vx_Back l R p e below s sargs y len W9 (PreOf R mc ms Pc) (PostOf Qc mc ms free) (vx_Post XC mc ms free) := by
  intro m meth c A g ig mk a X hg hsize hdg hW hn hp
  have h1 : (headSpec ws rm).pre.before a A.U = true := atoms_intro fun w hw => hws w hw _ _ X.warmed
  have h2 : (Cond.code y bytes maxL ret).before a A.U = true := hws _ hcode _ _ X.warmed
  have h3 : (Cond.initialized y.cls).before a A.U = true := hinit _ _ X.warmed
  have h4 : A.cells + (headSpec ws rm).room.cells ≤ R.cells := by rw [show (headSpec ws rm).room.cells = mc from hrc]; exact hp.1
  have h5 : A.slots + (headSpec ws rm).room.slots ≤ R.slots := by rw [show (headSpec ws rm).room.slots = ms from hrs]; exact hp.2.1
  have hPc : Pc a (A.U.calling g mk a) := hblind _ _ _ _ hp.2.2
  obtain ⟨U, Ls, c0, s0⟩ := A
  dsimp only [Pt.U, Pt.locs, Pt.cells, Pt.slots] at h1 h2 h3 h4 h5 X hn hPc ⊢
  obtain ⟨methY, cY, hmY, hcY, -, hlY, -, -, -, -⟩ := Cond.code_spec hn h2
  obtain ⟨kY, hkY, -⟩ := className_of_methodNamed hn
  have hinitY : kY.init = .initialized := Cond.initialized_spec (findClass_of_methodNamed hn) hkY h3
  have h : At U g.method c below := by rw [hg]; exact X.here
  have hlocals9 : W9 + (maxL + 11) + (headSpec ws rm).room.locals ≤ R.locals := hlocals
  have happ : (headSpec ws rm).appliesLoose y e.platform (U.calling g mk a) = true :=
    Spec.appliesLoose_calling (g := g) h hdg hn hkY hinitY
      (X.room_calling (g := g) (R' := (headSpec ws rm).room) hsize hmY hcY hframes (by rw [hlY]; omega) h4 h5) h1
  obtain ⟨mid, hmid⟩ := h.above
  have hfr : (U.setTop g).frames = (.java g :: mid) ++ below := by rw [State.frames_setTop' g h.top, hmid]; rfl
  obtain ⟨o, s₂, hsteps, -, hend, hq⟩ := Steps.callFree hM p X.admits X.cas X.clock (acts := []) hfr happ hPc trivial
  have hq' : vx_Q Qc XC mc ms free a (U.calling g mk a) o s₂ := hq
  rw [State.frames_setTop' g h.top] at hend
  obtain ⟨g₀, hg0⟩ := Option.isSome_iff_exists.mp h.top
  obtain ⟨r, hr⟩ := State.topJava?_eq_some.mp hg0
  have hr' : (({ U with heap := s₂.heap, slotsUsed := s₂.slotsUsed } : State).setVm s₂.vm).frames = .java g₀ :: r := hr
  rcases hq' with ⟨hqc, L, hfe, hL⟩ | ⟨q, rfl, E, ce, L, hx, hce, hcv, hcl, hW₂, hsm, hL⟩
  · obtain ⟨⟨v, rfl⟩, hW₂, e2, q2, q3, q4, q5, q6⟩ := id hfe
    have e3 : s₂ = ({ (U.calling g mk a).setFrames s₂.frames with heap := s₂.heap, slotsUsed := s₂.slotsUsed } : State).setVm s₂.vm := by
      have : s₂ = ({ s₂ with vm := (U.calling g mk a).vm } : State).setVm s₂.vm := rfl
      rw [e2] at this
      exact this
    obtain ⟨c₂, i₂, len₂, hc₂, hd₂, hf₂⟩ := hend
    have hW' : U.WarmedH s₂.vm := hW₂
    have hcc : c₂ = c := by
      have h1 : s₂.code? g.method = U.code? g.method := by
        rw [State.code?_eq, State.code?_eq, hW'.alike.method?]
      exact Option.some.inj (hc₂.symm.trans (h1.trans h.code))
    subst hcc
    have hlen : len₂ = len := by rw [hdg] at hd₂; cases hd₂; rfl
    subst hlen
    have hs₂ : s₂ = (({ U with heap := s₂.heap, slotsUsed := s₂.slotsUsed } : State).setVm s₂.vm).setTop { g with pc := g.pc + len₂, stack := v.toList ++ g.stack } := by
      refine e3.trans ?_
      rw [hf₂, State.calling_eq h.top, State.setFrames_setFrames, State.setTop_of_frames _ hr', hr]
      rfl
    have hsame : U.sameButNew ({ U with heap := s₂.heap, slotsUsed := s₂.slotsUsed } : State) L mc ms := by
      refine ⟨?_, q2, q3, q4, q5, q6⟩
      obtain ⟨t, ht, -⟩ := State.frames_cons hr
      show ({ U with heap := s₂.heap, slotsUsed := s₂.slotsUsed } : State) = { U.setFrames U.frames with heap := s₂.heap, slotsUsed := s₂.slotsUsed }
      rw [State.setFrames_self ht]
    subst hg
    refine Or.inl ⟨v, ⟨(({ U with heap := s₂.heap, slotsUsed := s₂.slotsUsed } : State).setVm s₂.vm), Ls ++ L, c0 + mc, s0 + ms⟩,
      ⟨X.admits, X.cas, X.clock, X.frames, X.room, X.hears, X.method, X.code, (X.here.setHeapUsed s₂.heap s₂.slotsUsed).setVm hW'.alike, X.tail, State.WarmedH.trans X.warmed hW', X.limits, X.bytes, X.same.trans (hsame.setVm s.vm)⟩,
      ⟨g, mk, s₂, L, rfl, rfl, hqc, rfl, hL, rfl, rfl⟩, ?_⟩
    show Steps p.tables e below _ ((({ U with heap := s₂.heap, slotsUsed := s₂.slotsUsed } : State).setVm s₂.vm).setTop { g with pc := g.pc + len₂, stack := v.toList ++ g.stack })
    rw [← hs₂]
    exact hsteps
  · obtain ⟨e2, q2, q3, q4, q5, q6⟩ := id hsm
    have e3 : s₂ = ({ (U.calling g mk a).setFrames s₂.frames with heap := s₂.heap, slotsUsed := s₂.slotsUsed } : State).setVm s₂.vm := by
      have : s₂ = ({ s₂ with vm := (U.calling g mk a).vm } : State).setVm s₂.vm := rfl
      rw [e2] at this
      exact this
    have hf₂ : s₂.frames = .throwing q :: .java g :: U.frames.tail := hend
    have hW' : U.WarmedH s₂.vm := hW₂
    have hs₂ : s₂ = ((({ U with heap := s₂.heap, slotsUsed := s₂.slotsUsed } : State).setVm s₂.vm).setTop g).pushFrame (.throwing q) := by
      refine e3.trans ?_
      rw [hf₂, State.calling_eq h.top, State.setFrames_setFrames, State.pushFrame, State.frames_setTop _ hr', State.setTop_of_frames _ hr', State.setFrames_setFrames, hr]
      rfl
    have hsame : U.sameButNew ({ U with heap := s₂.heap, slotsUsed := s₂.slotsUsed } : State) L mc ms := by
      refine ⟨?_, q2, q3, q4, q5, q6⟩
      obtain ⟨t, ht, -⟩ := State.frames_cons hr
      show ({ U with heap := s₂.heap, slotsUsed := s₂.slotsUsed } : State) = { U.setFrames U.frames with heap := s₂.heap, slotsUsed := s₂.slotsUsed }
      rw [State.setFrames_self ht]
    subst hg
    refine Or.inr ⟨q, ⟨(({ U with heap := s₂.heap, slotsUsed := s₂.slotsUsed } : State).setVm s₂.vm), Ls ++ L, c0 + mc, s0 + ms⟩,
      ⟨X.admits, X.cas, X.clock, X.frames, X.room, X.hears, X.method, X.code, (X.here.setHeapUsed s₂.heap s₂.slotsUsed).setVm hW'.alike, X.tail, State.WarmedH.trans X.warmed hW', X.limits, X.bytes, X.same.trans (hsame.setVm s.vm)⟩,
      ⟨g, mk, s₂, L, E, ce, rfl, rfl, hx, hce, hcv, hcl, rfl, hL, rfl, rfl⟩, ?_⟩
    show Steps p.tables e below _ (((({ U with heap := s₂.heap, slotsUsed := s₂.slotsUsed } : State).setVm s₂.vm).setTop g).pushFrame (.throwing q))
    rw [← hs₂]
    exact hsteps
end Payer
section Calls
variable {p : Program} {l : Launch} {e : Env} {R : Room} {s : State} {m : MethodId} {args : Array Value} {below : List Frame} {meth : Method} {c : Code} {T : State} {locs : List Loc} {cells slots : Nat}
theorem vx_callV (X : Stand p l e R s m args below meth c T locs cells slots) (hexec : p.tables.exec = Jvm.exec) {own C : String} {index : Nat} {y : MethodName} {bytes : ByteArray} {maxL : Nat} {ret : Option FieldType}
    (hown : s.vm.findClass own = some m.cls) (hlink : (Cond.methodLink own index y).before args s = true) (hinst : (Cond.instanceMethod y).before args s = true) (hsel : (Cond.selects C y y).before args s = true)
    (hcode : (Cond.code y bytes maxL ret).before args s = true) (hy : y.cls ≠ "java/lang/invoke/MethodHandle" ∧ y.cls ≠ "java/lang/invoke/VarHandle")
    {W9 : Nat} {Pre : Pt → Array Value → Prop} {Post : Pt → Array Value → Option Value → Pt → Prop} {PostX : Pt → Array Value → Addr → Pt → Prop} (hK : vx_Back l R p e below s args y 3 W9 Pre Post PostX)
    {b : Addr} {cellB : Cell} (hcell : T.heap[b]? = some cellB) (hobj : cellB.vm.isStatics = false) (hcls : s.vm.findClass C = some cellB.cls)
    {g : JFrame} (hg : g.method = m) (hsize : g.locals.size = c.maxLocals) {argsL rest : List Value} (hlen : ∀ sig, parseMethodDescriptor y.desc = some sig → argsL.length = sig.parameters.length)
    (hstack : g.stack = argsL.reverse ++ .ref b :: rest) (hW : 2 * g.monitorRoom + (rest.map fun v => v.category).sum ≤ W9) (hdg : decode c.code g.pc = .ok (.invokevirtual index, 3))
    (hpre : ∀ vm₁, s.WarmedH vm₁ → Pre ⟨T.setVm vm₁, locs, cells, slots⟩ (Value.ref b :: argsL).toArray) :
    (∃ (v : Option Value) (vm₁ : Vm) (B : Pt), s.WarmedH vm₁ ∧ Stand p l e R s m args below meth c B.U B.locs B.cells B.slots ∧ Post ⟨T.setVm vm₁, locs, cells, slots⟩ (Value.ref b :: argsL).toArray v B ∧
      ∀ target, Steps p.tables e below (B.U.setTop { g with pc := g.pc + 3, stack := v.toList ++ rest }) target → Steps p.tables e below (T.setTop g) target) ∨
    (∃ (q : Addr) (vm₁ : Vm) (B : Pt), s.WarmedH vm₁ ∧ Stand p l e R s m args below meth c B.U B.locs B.cells B.slots ∧ PostX ⟨T.setVm vm₁, locs, cells, slots⟩ (Value.ref b :: argsL).toArray q B ∧
      Steps p.tables e below (T.setTop g) ((B.U.setTop { g with stack := rest }).pushFrame (.throwing q))) := by
  obtain ⟨mk, methM, hnamed, hmethM, hstM, habM⟩ := Cond.instanceMethod_spec hinst
  obtain ⟨methM', cM, hmethM', -, -, -, -, -, -, hsigM⟩ := Cond.code_spec hnamed hcode
  cases hmethM.symm.trans hmethM'
  obtain ⟨c2, r2, m2, q1, q2, q3, q4, kP, hkP, hkPi⟩ := Cond.selects_spec hsel
  cases hcls.symm.trans q1
  cases (State.methodFound?_of_named hnamed hy).symm.trans q2
  cases hnamed.symm.trans q3
  have hselP : selectMethod e.platform s.vm cellB.cls mk = .method mk := by rw [Launch.admits_selectMethod X.admits]; exact q4
  obtain ⟨vm₁, X₁, hstep₁⟩ := X.invokevirtual hexec hown hlink hnamed hmethM hstM hkP hkPi hy (a := b) (cell := cellB) hcell
    (fun z h => by rw [h] at hobj; cases hobj) hselP hmethM habM hkP hkPi (g := g) hg (argsL := argsL) (rest := rest) (hlen _ hsigM) hstack hdg
  rcases hK m meth c ⟨T.setVm vm₁, locs, cells, slots⟩ { g with stack := rest } (.invokevirtual index) mk (Value.ref b :: argsL).toArray X₁ hg hsize hdg hW (X₁.named hnamed) (hpre vm₁ X₁.warmed) with ⟨v, B, X', hpost, hsteps⟩ | ⟨q, B, X', hpost, hsteps⟩
  · exact Or.inl ⟨v, vm₁, B, X₁.warmed, X', hpost, fun target h => hstep₁ _ fun acts => by rw [doInvoke_state]; exact hsteps.trans h⟩
  · exact Or.inr ⟨q, vm₁, B, X₁.warmed, X', hpost, hstep₁ _ fun acts => by rw [doInvoke_state]; exact hsteps⟩
theorem vx_callS (X : Stand p l e R s m args below meth c T locs cells slots) (hexec : p.tables.exec = Jvm.exec) {own : String} {index : Nat} {y : MethodName} {bytes : ByteArray} {maxL : Nat} {ret : Option FieldType}
    (hown : s.vm.findClass own = some m.cls) (hlink : (Cond.methodLink own index y).before args s = true) (hstat : (Cond.static y).before args s = true) (hinit : (Cond.initialized y.cls).before args s = true)
    (hcode : (Cond.code y bytes maxL ret).before args s = true) (hy : y.cls ≠ "java/lang/invoke/MethodHandle" ∧ y.cls ≠ "java/lang/invoke/VarHandle")
    {W9 : Nat} {Pre : Pt → Array Value → Prop} {Post : Pt → Array Value → Option Value → Pt → Prop} {PostX : Pt → Array Value → Addr → Pt → Prop} (hK : vx_Back l R p e below s args y 3 W9 Pre Post PostX)
    {g : JFrame} (hg : g.method = m) (hsize : g.locals.size = c.maxLocals) {argsL rest : List Value} (hlen : ∀ sig, parseMethodDescriptor y.desc = some sig → argsL.length = sig.parameters.length)
    (hstack : g.stack = argsL.reverse ++ rest) (hW : 2 * g.monitorRoom + (rest.map fun v => v.category).sum ≤ W9) (hdg : decode c.code g.pc = .ok (.invokestatic index, 3))
    (hpre : ∀ vm₁, s.WarmedH vm₁ → Pre ⟨T.setVm vm₁, locs, cells, slots⟩ argsL.toArray) :
    (∃ (v : Option Value) (vm₁ : Vm) (B : Pt), s.WarmedH vm₁ ∧ Stand p l e R s m args below meth c B.U B.locs B.cells B.slots ∧ Post ⟨T.setVm vm₁, locs, cells, slots⟩ argsL.toArray v B ∧
      ∀ target, Steps p.tables e below (B.U.setTop { g with pc := g.pc + 3, stack := v.toList ++ rest }) target → Steps p.tables e below (T.setTop g) target) ∨
    (∃ (q : Addr) (vm₁ : Vm) (B : Pt), s.WarmedH vm₁ ∧ Stand p l e R s m args below meth c B.U B.locs B.cells B.slots ∧ PostX ⟨T.setVm vm₁, locs, cells, slots⟩ argsL.toArray q B ∧
      Steps p.tables e below (T.setTop g) ((B.U.setTop { g with stack := rest }).pushFrame (.throwing q))) := by
  obtain ⟨mk, hnamed⟩ := Cond.code_named hcode
  obtain ⟨methM, cM, hmethM, -, -, -, -, -, -, hsigM⟩ := Cond.code_spec hnamed hcode
  have hstatic : methM.isStatic = true := Cond.static_spec hnamed hmethM hstat
  obtain ⟨kP, hkP, -⟩ := className_of_methodNamed hnamed
  have hinitP : kP.init = .initialized := Cond.initialized_spec (findClass_of_methodNamed hnamed) hkP hinit
  obtain ⟨vm₁, X₁, hstep₁⟩ := X.invokestatic hexec hown hlink hnamed hmethM hstatic hkP hinitP hy (g := g) hg (argsL := argsL) (rest := rest) (hlen _ hsigM) hstack hdg
  rcases hK m meth c ⟨T.setVm vm₁, locs, cells, slots⟩ { g with stack := rest } (.invokestatic index) mk argsL.toArray X₁ hg hsize hdg hW (X₁.named hnamed) (hpre vm₁ X₁.warmed) with ⟨v, B, X', hpost, hsteps⟩ | ⟨q, B, X', hpost, hsteps⟩
  · exact Or.inl ⟨v, vm₁, B, X₁.warmed, X', hpost, fun target h => hstep₁ _ fun acts => by rw [doInvoke_state]; exact hsteps.trans h⟩
  · exact Or.inr ⟨q, vm₁, B, X₁.warmed, X', hpost, hstep₁ _ fun acts => by rw [doInvoke_state]; exact hsteps⟩
end Calls
theorem vx_cls {s : State} {T : State} {vm₁ : Vm} {E : String} {k : ClassId} (hW : s.WarmedH vm₁) (h : (T.setVm vm₁).vm.findClass E = some k) : s.vm.findClass E = some k := by
  have h1 : vm₁.findClass E = some k := h
  rw [hW.alike.findClass] at h1
  exact h1
/-- the method's frame g, with q thrown over it -/
def vx_W (p : Program) (l : Launch) (e : Env) (R : Room) (s : State) (m : MethodId) (args : Array Value) (below : List Frame) (meth : Method) (c : Code) (H : Heap) (locs : List Loc) (cells slots : Nat) (Q : State → Prop) (g : JFrame) (q : Addr) : Prop :=
  ∀ T : State, T.heap = H → Stand p l e R s m args below meth c T locs cells slots → ∃ t, Steps p.tables e below ((T.setTop g).pushFrame (.throwing q)) t ∧ Q t
def vx_Run (p : Program) (l : Launch) (e : Env) (R : Room) (s : State) (m : MethodId) (args : Array Value) (below : List Frame) (meth : Method) (c : Code) (H : Heap) (locs : List Loc) (cells slots mc ms : Nat) (g : JFrame) (rest : List Value) (Qa : State → Outcome → State → Prop) (XC : String → State → State → Prop) (free : Addr → Prop) : Prop :=
  ∀ T : State, T.heap = H → Stand p l e R s m args below meth c T locs cells slots →
    (∃ (v : Option Value) (st₀ t T' : State) (L : List Loc), st₀.heap = H ∧ Stand p l e R s m args below meth c T' (locs ++ L) (cells + mc) (slots + ms) ∧ (∀ q ∈ L, free q.base) ∧ T'.heap = t.heap ∧ T'.vm = t.vm ∧ Qa st₀ (.returned v) t ∧
      Goes p e below T g T' { g with pc := g.pc + 3, stack := v.toList ++ rest }) ∨
    (∃ (q : Addr) (st₀ t T' : State) (L : List Loc) (E : String) (ce : Cell), st₀.heap = H ∧ Stand p l e R s m args below meth c T' (locs ++ L) (cells + mc) (slots + ms) ∧ (∀ z ∈ L, free z.base) ∧ T'.heap = t.heap ∧ T'.vm = t.vm ∧ XC E st₀ t ∧ t.heap[q]? = some ce ∧ ce.vm = .none ∧ s.vm.findClass E = some ce.cls ∧
      Steps p.tables e below (T.setTop g) ((T'.setTop { g with stack := rest }).pushFrame (.throwing q)))
def vx_X {S : Type} (px : S → Prop) (B : String → S → State → Prop) (A : Nat → Prop) : String → State → State → Prop := fun E st t => ∃ u : S, px u ∧ B E u t ∧ va_F A st t
section Runs
variable {p : Program} {l : Launch} {e : Env} {R : Room} {s : State} {m : MethodId} {args : Array Value} {below : List Frame} {meth : Method} {c : Code} {H : Heap} {locs : List Loc} {cells slots : Nat}
variable {y : MethodName} {bytes cc : ByteArray} {maxL nL mc ms n index : Nat} {ret : Option FieldType} {ws : List Cond} {rm : Room} {Pc : Array Value → State → Prop} {Qc : Array Value → State → Outcome → State → Prop} {XC : String → State → State → Prop} {free : Addr → Prop} {Ts : List Cond} {own C : String} {b : Addr} {As rest : List Value} {g : JFrame}
theorem vx_callBack (cb : CallB R s args own index y bytes maxL ret ws rm mc ms n) (hM : vx_Met l y ws rm Pc Qc XC mc ms free) (hbl : FrameBlind Pc) : vx_Back l R p e below s args y 3 8 (PreOf R mc ms Pc) (PostOf Qc mc ms free) (vx_Post XC mc ms free) := by
  obtain ⟨hrc, hrs, hfr, hlo, hws, hcw, -, hini, -⟩ := cb
  exact vx_back (bytes := bytes) (maxL := maxL) (ret := ret) hM hbl hrc hrs hfr hlo hws hcw (fun a' U hW => word_at hW (Or.inl (by first | rfl | simp [Cond.onTables, Cond.keeps, Cond.steady])) hini)
theorem vx_runV (S : CallFix p m c cc nL s args Ts own) (hM : vx_Met l y ws rm Pc Qc XC mc ms free) (cw : CallW R s args own C index y bytes maxL ret ws rm mc ms n) (hp : PreV s H C b Pc As)
    (hg : g.method = m) (hn : As.length = n) (hsize : g.locals.size = nL) (hstack : g.stack = As.reverse ++ .ref b :: rest) (hW : 2 * g.monitorRoom + (rest.map fun v => v.category).sum ≤ 8) (hdg : decode cc g.pc = .ok (.invokevirtual index, 3)) (hf : cells + mc ≤ R.cells ∧ slots + ms ≤ R.slots) :
    vx_Run p l e R s m args below meth c H locs cells slots mc ms g rest (Qc (Value.ref b :: As).toArray) XC free := by
  have hK : vx_Back l R p e below s args y 3 8 (PreOf R mc ms Pc) (PostOf Qc mc ms free) (vx_Post XC mc ms free) := vx_callBack cw.1 hM hp.1
  obtain ⟨⟨-, -, -, -, -, -, hcode, -, hy, hlen, hl⟩, hin, hse⟩ := cw
  obtain ⟨hx, hb, hml, ho, -⟩ := S
  obtain ⟨-, ⟨cellB, hcB, hoB, hclB⟩, hPc⟩ := hp
  intro T hT X
  rcases vx_callV X hx (C := C) (bytes := bytes) (maxL := maxL) (ret := ret) ho hl hin hse hcode hy hK (by rw [hT]; exact hcB) hoB hclB hg (hsize.trans hml.symm) (argsL := As) (rest := rest) (fun sig h => hn.trans (hlen sig h)) hstack hW (by rw [hb]; exact hdg)
    (fun vm₁ hW₁ => ⟨hf.1, hf.2, hPc (T.setVm vm₁) hT hW₁⟩) with ⟨v, vm₁, ⟨U', l2, c2, s2⟩, hW₁, X', ⟨g', mk, t, L, e1, e2, hq, h1, hL, h2, h3⟩, st⟩ | ⟨q, vm₁, ⟨U', l2, c2, s2⟩, hW₁, X', ⟨g', mk, t, L, E, ce, e1, e2, hq, hce, hcv, hcl, h1, hL, h2, h3⟩, st⟩
  · dsimp only [Pt.U, Pt.locs, Pt.cells, Pt.slots] at X' e1 e2 h1 h2 h3 st
    subst h1; subst h2; subst h3
    exact Or.inl ⟨v, (T.setVm vm₁).calling g' mk (Value.ref b :: As).toArray, t, U', L, hT, X', hL, e1, e2, hq, st⟩
  · dsimp only [Pt.U, Pt.locs, Pt.cells, Pt.slots] at X' e1 e2 h1 h2 h3 st hcl
    subst h1; subst h2; subst h3
    exact Or.inr ⟨q, (T.setVm vm₁).calling g' mk (Value.ref b :: As).toArray, t, U', L, E, ce, hT, X', hL, e1, e2, hq, hce, hcv, vx_cls hW₁ hcl, st⟩
theorem vx_runS (S : CallFix p m c cc nL s args Ts own) (hM : vx_Met l y ws rm Pc Qc XC mc ms free) (cw : CallB R s args own index y bytes maxL ret ws rm mc ms n ∧ (Cond.static y).before args s = true) (hp : PreS s H Pc As)
    (hg : g.method = m) (hn : As.length = n) (hsize : g.locals.size = nL) (hstack : g.stack = As.reverse ++ rest) (hW : 2 * g.monitorRoom + (rest.map fun v => v.category).sum ≤ 8) (hdg : decode cc g.pc = .ok (.invokestatic index, 3)) (hf : cells + mc ≤ R.cells ∧ slots + ms ≤ R.slots) :
    vx_Run p l e R s m args below meth c H locs cells slots mc ms g rest (Qc As.toArray) XC free := by
  have hK : vx_Back l R p e below s args y 3 8 (PreOf R mc ms Pc) (PostOf Qc mc ms free) (vx_Post XC mc ms free) := vx_callBack cw.1 hM hp.1
  obtain ⟨⟨-, -, -, -, -, -, hcode, hini, hy, hlen, hl⟩, hstt⟩ := cw
  obtain ⟨hx, hb, hml, ho, -⟩ := S
  intro T hT X
  rcases vx_callS X hx (bytes := bytes) (maxL := maxL) (ret := ret) ho hl hstt hini hcode hy hK hg (hsize.trans hml.symm) (argsL := As) (rest := rest) (fun sig h => hn.trans (hlen sig h)) hstack hW (by rw [hb]; exact hdg)
    (fun vm₁ hW₁ => ⟨hf.1, hf.2, hp.2 (T.setVm vm₁) hT hW₁⟩) with ⟨v, vm₁, ⟨U', l2, c2, s2⟩, hW₁, X', ⟨g', mk, t, L, e1, e2, hq, h1, hL, h2, h3⟩, st⟩ | ⟨q, vm₁, ⟨U', l2, c2, s2⟩, hW₁, X', ⟨g', mk, t, L, E, ce, e1, e2, hq, hce, hcv, hcl, h1, hL, h2, h3⟩, st⟩
  · dsimp only [Pt.U, Pt.locs, Pt.cells, Pt.slots] at X' e1 e2 h1 h2 h3 st
    subst h1; subst h2; subst h3
    exact Or.inl ⟨v, (T.setVm vm₁).calling g' mk As.toArray, t, U', L, hT, X', hL, e1, e2, hq, st⟩
  · dsimp only [Pt.U, Pt.locs, Pt.cells, Pt.slots] at X' e1 e2 h1 h2 h3 st hcl
    subst h1; subst h2; subst h3
    exact Or.inr ⟨q, (T.setVm vm₁).calling g' mk As.toArray, t, U', L, E, ce, hT, X', hL, e1, e2, hq, hce, hcv, vx_cls hW₁ hcl, st⟩
end Runs
section Rows
variable {p : Program} {l : Launch} {e : Env} {R : Room} {s : State} {m : MethodId} {args : Array Value} {below : List Frame} {meth : Method} {c : Code} {H : Heap} {locs : List Loc} {cells slots : Nat} {Q : State → Prop}
variable {mc ms : Nat} {free : Addr → Prop} {A0 A1 : Nat → Prop} {H0 : Heap} {a : Array Value} {pc : Nat} {ls : Array Slot} {st0 rest : List Value}
theorem vx_keep {st₀ t T' : State} {L : List Loc} (h0 : st₀.heap = H) (e1 : T'.heap = t.heap) (hS : va_S A0 H0 H locs) (hA : ∀ q, q < H.size → A1 q → A0 q) (hf : ∀ q, free q → A0 q) (hL : ∀ q ∈ L, free q.base) (hF : va_F A1 st₀ t) :
    H.size ≤ T'.heap.size ∧ (∀ q : Nat, q < H.size → ¬ A1 q → T'.heap[q]? = H[q]?) ∧ va_S A0 H0 T'.heap (locs ++ L) := by
  obtain ⟨hz, hk⟩ := hF
  rw [h0] at hz hk
  exact ⟨by rw [e1]; exact hz, fun q h1 h2 => by rw [e1]; exact hk q h1 h2,
    ⟨Nat.le_trans hS.1 (by rw [e1]; exact hz), fun q h1 h2 => by rw [e1, hk q (Nat.lt_of_lt_of_le h1 hS.1) (fun z => h2 (hA q (Nat.lt_of_lt_of_le h1 hS.1) z))]; exact hS.2.1 q h1 h2, fun q hq => by
      rcases List.mem_append.mp hq with h | h
      · exact hS.2.2 q h
      · exact hf _ (hL q h)⟩⟩
theorem vx_calli {S SX : Type} {post : Int32 → S → Prop} {px : SX → Prop} {B : S → State → Prop} {BX : String → SX → State → Prop} {AX : Nat → Prop} (hr : vx_Run p l e R s m args below meth c H locs cells slots mc ms (F0 m pc ls st0) rest (va_Qi post B A1 a) (vx_X px BX AX) free) (hS : va_S A0 H0 H locs) (hA : ∀ q, q < H.size → A1 q → A0 q) (hf : ∀ q, free q → A0 q) (hAX : ∀ q, q < H.size → AX q → A0 q)
    (kx : ∀ (E : String) (ce : Cell) (q9 : Addr) (u : SX) (t : State) (H1 : Heap) (locs1 : List Loc), t.heap = H1 → s.vm.Alike t.vm → px u → BX E u t → H.size ≤ H1.size → (∀ q : Nat, q < H.size → ¬ AX q → H1[q]? = H[q]?) → va_S A0 H0 H1 locs1 → H1[q9]? = some ce → ce.vm = .none → s.vm.findClass E = some ce.cls → vx_W p l e R s m args below meth c H1 locs1 (cells + mc) (slots + ms) Q (F0 m pc ls rest) q9)
    (kk : ∀ (r : Int32) (u : S) (t : State) (H1 : Heap) (locs1 : List Loc), t.heap = H1 → s.vm.Alike t.vm → post r u → B u t → H.size ≤ H1.size → (∀ q : Nat, q < H.size → ¬ A1 q → H1[q]? = H[q]?) → va_S A0 H0 H1 locs1 → W p l e R s m args below meth c H1 locs1 (cells + mc) (slots + ms) Q (F0 m (pc + 3) ls (.int r :: rest))) : W p l e R s m args below meth c H locs cells slots Q (F0 m pc ls st0) := by
  intro T hT X
  rcases hr T hT X with ⟨v, st₀, t, T', L, h0, X', hL, e1, e2, ⟨⟨r, u, hv, hp, hb⟩, hF⟩, st⟩ | ⟨q, st₀, t, T', L, E, ce, h0, X', hL, e1, e2, ⟨u, hp, hb, hF⟩, hce, hcv, hcl, st⟩
  · cases hv
    obtain ⟨k1, k2, k3⟩ := vx_keep h0 e1 hS hA hf hL hF
    obtain ⟨t2, a1, b1⟩ := kk r u t T'.heap (locs ++ L) e1.symm (by rw [← e2]; exact X'.warmed.alike) hp hb k1 k2 k3 T' rfl X'
    exact ⟨t2, st t2 a1, b1⟩
  · obtain ⟨k1, k2, k3⟩ := vx_keep h0 e1 hS hAX hf hL hF
    obtain ⟨t2, a1, b1⟩ := kx E ce q u t T'.heap (locs ++ L) e1.symm (by rw [← e2]; exact X'.warmed.alike) hp hb k1 k2 k3 (by rw [e1]; exact hce) hcv hcl T' rfl X'
    exact ⟨t2, st.trans a1, b1⟩
theorem vx_calll {S SX : Type} {post : Int64 → S → Prop} {px : SX → Prop} {B : S → State → Prop} {BX : String → SX → State → Prop} {AX : Nat → Prop} (hr : vx_Run p l e R s m args below meth c H locs cells slots mc ms (F0 m pc ls st0) rest (va_Ql post B A1 a) (vx_X px BX AX) free) (hS : va_S A0 H0 H locs) (hA : ∀ q, q < H.size → A1 q → A0 q) (hf : ∀ q, free q → A0 q) (hAX : ∀ q, q < H.size → AX q → A0 q)
    (kx : ∀ (E : String) (ce : Cell) (q9 : Addr) (u : SX) (t : State) (H1 : Heap) (locs1 : List Loc), t.heap = H1 → s.vm.Alike t.vm → px u → BX E u t → H.size ≤ H1.size → (∀ q : Nat, q < H.size → ¬ AX q → H1[q]? = H[q]?) → va_S A0 H0 H1 locs1 → H1[q9]? = some ce → ce.vm = .none → s.vm.findClass E = some ce.cls → vx_W p l e R s m args below meth c H1 locs1 (cells + mc) (slots + ms) Q (F0 m pc ls rest) q9)
    (kk : ∀ (r : Int64) (u : S) (t : State) (H1 : Heap) (locs1 : List Loc), t.heap = H1 → s.vm.Alike t.vm → post r u → B u t → H.size ≤ H1.size → (∀ q : Nat, q < H.size → ¬ A1 q → H1[q]? = H[q]?) → va_S A0 H0 H1 locs1 → W p l e R s m args below meth c H1 locs1 (cells + mc) (slots + ms) Q (F0 m (pc + 3) ls (.long r :: rest))) : W p l e R s m args below meth c H locs cells slots Q (F0 m pc ls st0) := by
  intro T hT X
  rcases hr T hT X with ⟨v, st₀, t, T', L, h0, X', hL, e1, e2, ⟨⟨r, u, hv, hp, hb⟩, hF⟩, st⟩ | ⟨q, st₀, t, T', L, E, ce, h0, X', hL, e1, e2, ⟨u, hp, hb, hF⟩, hce, hcv, hcl, st⟩
  · cases hv
    obtain ⟨k1, k2, k3⟩ := vx_keep h0 e1 hS hA hf hL hF
    obtain ⟨t2, a1, b1⟩ := kk r u t T'.heap (locs ++ L) e1.symm (by rw [← e2]; exact X'.warmed.alike) hp hb k1 k2 k3 T' rfl X'
    exact ⟨t2, st t2 a1, b1⟩
  · obtain ⟨k1, k2, k3⟩ := vx_keep h0 e1 hS hAX hf hL hF
    obtain ⟨t2, a1, b1⟩ := kx E ce q u t T'.heap (locs ++ L) e1.symm (by rw [← e2]; exact X'.warmed.alike) hp hb k1 k2 k3 (by rw [e1]; exact hce) hcv hcl T' rfl X'
    exact ⟨t2, st.trans a1, b1⟩
theorem vx_callf {S SX : Type} {post : UInt32 → S → Prop} {px : SX → Prop} {B : S → State → Prop} {BX : String → SX → State → Prop} {AX : Nat → Prop} (hr : vx_Run p l e R s m args below meth c H locs cells slots mc ms (F0 m pc ls st0) rest (va_Qf post B A1 a) (vx_X px BX AX) free) (hS : va_S A0 H0 H locs) (hA : ∀ q, q < H.size → A1 q → A0 q) (hf : ∀ q, free q → A0 q) (hAX : ∀ q, q < H.size → AX q → A0 q)
    (kx : ∀ (E : String) (ce : Cell) (q9 : Addr) (u : SX) (t : State) (H1 : Heap) (locs1 : List Loc), t.heap = H1 → s.vm.Alike t.vm → px u → BX E u t → H.size ≤ H1.size → (∀ q : Nat, q < H.size → ¬ AX q → H1[q]? = H[q]?) → va_S A0 H0 H1 locs1 → H1[q9]? = some ce → ce.vm = .none → s.vm.findClass E = some ce.cls → vx_W p l e R s m args below meth c H1 locs1 (cells + mc) (slots + ms) Q (F0 m pc ls rest) q9)
    (kk : ∀ (r : UInt32) (u : S) (t : State) (H1 : Heap) (locs1 : List Loc), t.heap = H1 → s.vm.Alike t.vm → post r u → B u t → H.size ≤ H1.size → (∀ q : Nat, q < H.size → ¬ A1 q → H1[q]? = H[q]?) → va_S A0 H0 H1 locs1 → W p l e R s m args below meth c H1 locs1 (cells + mc) (slots + ms) Q (F0 m (pc + 3) ls (.float r :: rest))) : W p l e R s m args below meth c H locs cells slots Q (F0 m pc ls st0) := by
  intro T hT X
  rcases hr T hT X with ⟨v, st₀, t, T', L, h0, X', hL, e1, e2, ⟨⟨r, u, hv, hp, hb⟩, hF⟩, st⟩ | ⟨q, st₀, t, T', L, E, ce, h0, X', hL, e1, e2, ⟨u, hp, hb, hF⟩, hce, hcv, hcl, st⟩
  · cases hv
    obtain ⟨k1, k2, k3⟩ := vx_keep h0 e1 hS hA hf hL hF
    obtain ⟨t2, a1, b1⟩ := kk r u t T'.heap (locs ++ L) e1.symm (by rw [← e2]; exact X'.warmed.alike) hp hb k1 k2 k3 T' rfl X'
    exact ⟨t2, st t2 a1, b1⟩
  · obtain ⟨k1, k2, k3⟩ := vx_keep h0 e1 hS hAX hf hL hF
    obtain ⟨t2, a1, b1⟩ := kx E ce q u t T'.heap (locs ++ L) e1.symm (by rw [← e2]; exact X'.warmed.alike) hp hb k1 k2 k3 (by rw [e1]; exact hce) hcv hcl T' rfl X'
    exact ⟨t2, st.trans a1, b1⟩
theorem vx_calld {S SX : Type} {post : UInt64 → S → Prop} {px : SX → Prop} {B : S → State → Prop} {BX : String → SX → State → Prop} {AX : Nat → Prop} (hr : vx_Run p l e R s m args below meth c H locs cells slots mc ms (F0 m pc ls st0) rest (va_Qd post B A1 a) (vx_X px BX AX) free) (hS : va_S A0 H0 H locs) (hA : ∀ q, q < H.size → A1 q → A0 q) (hf : ∀ q, free q → A0 q) (hAX : ∀ q, q < H.size → AX q → A0 q)
    (kx : ∀ (E : String) (ce : Cell) (q9 : Addr) (u : SX) (t : State) (H1 : Heap) (locs1 : List Loc), t.heap = H1 → s.vm.Alike t.vm → px u → BX E u t → H.size ≤ H1.size → (∀ q : Nat, q < H.size → ¬ AX q → H1[q]? = H[q]?) → va_S A0 H0 H1 locs1 → H1[q9]? = some ce → ce.vm = .none → s.vm.findClass E = some ce.cls → vx_W p l e R s m args below meth c H1 locs1 (cells + mc) (slots + ms) Q (F0 m pc ls rest) q9)
    (kk : ∀ (r : UInt64) (u : S) (t : State) (H1 : Heap) (locs1 : List Loc), t.heap = H1 → s.vm.Alike t.vm → post r u → B u t → H.size ≤ H1.size → (∀ q : Nat, q < H.size → ¬ A1 q → H1[q]? = H[q]?) → va_S A0 H0 H1 locs1 → W p l e R s m args below meth c H1 locs1 (cells + mc) (slots + ms) Q (F0 m (pc + 3) ls (.double r :: rest))) : W p l e R s m args below meth c H locs cells slots Q (F0 m pc ls st0) := by
  intro T hT X
  rcases hr T hT X with ⟨v, st₀, t, T', L, h0, X', hL, e1, e2, ⟨⟨r, u, hv, hp, hb⟩, hF⟩, st⟩ | ⟨q, st₀, t, T', L, E, ce, h0, X', hL, e1, e2, ⟨u, hp, hb, hF⟩, hce, hcv, hcl, st⟩
  · cases hv
    obtain ⟨k1, k2, k3⟩ := vx_keep h0 e1 hS hA hf hL hF
    obtain ⟨t2, a1, b1⟩ := kk r u t T'.heap (locs ++ L) e1.symm (by rw [← e2]; exact X'.warmed.alike) hp hb k1 k2 k3 T' rfl X'
    exact ⟨t2, st t2 a1, b1⟩
  · obtain ⟨k1, k2, k3⟩ := vx_keep h0 e1 hS hAX hf hL hF
    obtain ⟨t2, a1, b1⟩ := kx E ce q u t T'.heap (locs ++ L) e1.symm (by rw [← e2]; exact X'.warmed.alike) hp hb k1 k2 k3 (by rw [e1]; exact hce) hcv hcl T' rfl X'
    exact ⟨t2, st.trans a1, b1⟩
theorem vx_callv {S SX : Type} {post : S → Prop} {px : SX → Prop} {B : S → State → Prop} {BX : String → SX → State → Prop} {AX : Nat → Prop} (hr : vx_Run p l e R s m args below meth c H locs cells slots mc ms (F0 m pc ls st0) rest (va_Qv post B A1 a) (vx_X px BX AX) free) (hS : va_S A0 H0 H locs) (hA : ∀ q, q < H.size → A1 q → A0 q) (hf : ∀ q, free q → A0 q) (hAX : ∀ q, q < H.size → AX q → A0 q)
    (kx : ∀ (E : String) (ce : Cell) (q9 : Addr) (u : SX) (t : State) (H1 : Heap) (locs1 : List Loc), t.heap = H1 → s.vm.Alike t.vm → px u → BX E u t → H.size ≤ H1.size → (∀ q : Nat, q < H.size → ¬ AX q → H1[q]? = H[q]?) → va_S A0 H0 H1 locs1 → H1[q9]? = some ce → ce.vm = .none → s.vm.findClass E = some ce.cls → vx_W p l e R s m args below meth c H1 locs1 (cells + mc) (slots + ms) Q (F0 m pc ls rest) q9)
    (kk : ∀ (u : S) (t : State) (H1 : Heap) (locs1 : List Loc), t.heap = H1 → s.vm.Alike t.vm → post u → B u t → H.size ≤ H1.size → (∀ q : Nat, q < H.size → ¬ A1 q → H1[q]? = H[q]?) → va_S A0 H0 H1 locs1 → W p l e R s m args below meth c H1 locs1 (cells + mc) (slots + ms) Q (F0 m (pc + 3) ls (rest))) : W p l e R s m args below meth c H locs cells slots Q (F0 m pc ls st0) := by
  intro T hT X
  rcases hr T hT X with ⟨v, st₀, t, T', L, h0, X', hL, e1, e2, ⟨⟨u, hv, hp, hb⟩, hF⟩, st⟩ | ⟨q, st₀, t, T', L, E, ce, h0, X', hL, e1, e2, ⟨u, hp, hb, hF⟩, hce, hcv, hcl, st⟩
  · cases hv
    obtain ⟨k1, k2, k3⟩ := vx_keep h0 e1 hS hA hf hL hF
    obtain ⟨t2, a1, b1⟩ := kk u t T'.heap (locs ++ L) e1.symm (by rw [← e2]; exact X'.warmed.alike) hp hb k1 k2 k3 T' rfl X'
    exact ⟨t2, st t2 a1, b1⟩
  · obtain ⟨k1, k2, k3⟩ := vx_keep h0 e1 hS hAX hf hL hF
    obtain ⟨t2, a1, b1⟩ := kx E ce q u t T'.heap (locs ++ L) e1.symm (by rw [← e2]; exact X'.warmed.alike) hp hb k1 k2 k3 (by rw [e1]; exact hce) hcv hcl T' rfl X'
    exact ⟨t2, st.trans a1, b1⟩
/-- caught by the row x of this method's table; the rows ahead don't take it -/
theorem vx_catch {own name : String} {E : String} {ce : Cell} {q : Addr} (hown : s.vm.findClass own = some m.cls) (pre : List ExceptionTableEntry) (x : ExceptionTableEntry) (suf : List ExceptionTableEntry) (hsplit : c.exceptionTable.toList = pre ++ x :: suf)
    (hpass : ∀ z ∈ pre, covers z pc = false ∨ (z.catchType ≠ 0 ∧ ∃ nm : String, (Cond.classLink own z.catchType nm).before args s = true ∧ va_Nc E nm s)) (hx : covers x pc = true) (h0 : x.catchType ≠ 0)
    (hlink : (Cond.classLink own x.catchType name).before args s = true) (hcast : (Cond.castable E name).before args s = true) (hcell : H[q]? = some ce) (hv : ce.vm = .none) (hcl : s.vm.findClass E = some ce.cls)
    (kk : W p l e R s m args below meth c H locs cells slots Q (F0 m x.handlerPc ls [.ref q])) : vx_W p l e R s m args below meth c H locs cells slots Q (F0 m pc ls rest) q := by
  intro T hT X
  have hpl : e.platform.magicAccessors = ({} : Platform).magicAccessors := by rw [X.admits.platform]
  obtain ⟨c3, c4, hc3, hc4, hasg⟩ := Cond.castable_spec hcast
  cases Option.some.inj (hc3.symm.trans hcl)
  obtain ⟨c5, hc5, hcl5⟩ := Cond.classLink_spec hown hlink e.platform hpl
  cases Option.some.inj (hc4.symm.trans hc5)
  obtain ⟨vm', X', st⟩ := X.thenCaughtThrough q (g := F0 m pc ls rest) rfl (Steps.refl _) (by rw [hT]; exact hcell) (by rw [hv]; rfl) (by obtain ⟨k9, h9, -⟩ := Vm.findClass_spec hcl; exact ⟨k9, h9⟩) pre x suf hsplit
    (fun z hz => by
      rcases hpass z hz with h | ⟨hz0, nm, hl1, hn1⟩
      · exact Or.inl h
      · obtain ⟨c6, hc6, hcl6⟩ := Cond.classLink_spec hown hl1 e.platform hpl
        obtain ⟨a8, b8, h1, h2, h3⟩ := hn1
        cases Option.some.inj (h1.symm.trans hcl)
        cases Option.some.inj (h2.symm.trans hc6)
        exact Or.inr ⟨hz0, _, hcl6, h3⟩) hx (Or.inr ⟨h0, c4, hcl5, hasg⟩)
  obtain ⟨t, a1, b1⟩ := kk (T.setVm vm') hT X'
  exact ⟨t, st.trans a1, b1⟩
end Rows
section Ends
variable {p : Program} {l : Launch} {e : Env} {R : Room} {s : State} {m : MethodId} {args : Array Value} {below : List Frame} {meth : Method} {c : Code} {H : Heap} {locs : List Loc} {cells slots : Nat} {Q : State → Prop}
variable {mc ms : Nat} {free : Addr → Prop} {A0 A1 : Nat → Prop} {H0 : Heap} {a : Array Value} {ls : Array Slot} {st0 rest : List Value}
variable {Qc : Array Value → State → Outcome → State → Prop} {XC : String → State → State → Prop}
/-- what a body that may throw owes at its end -/
def vx_MQ (below : List Frame) (Qc : Array Value → State → Outcome → State → Prop) (XC : String → State → State → Prop) (a : Array Value) (s : State) (mc ms : Nat) (free : Addr → Prop) : State → Prop := fun t =>
  ∃ o, t.status = .running ∧ Ended t below o ∧ vx_Q Qc XC mc ms free a s o t
theorem vx_ret {g : JFrame} {mc ms : Nat} (k : W p l e R s m args below meth c H locs cells slots (MQ below Qc args s mc ms free) g) : W p l e R s m args below meth c H locs cells slots (vx_MQ below Qc XC args s mc ms free) g := by
  intro T hT X
  obtain ⟨t, a1, o, b1, b2, b3, b4⟩ := k T hT X
  exact ⟨t, a1, o, b1, b2, Or.inl ⟨b3, b4⟩⟩
/-- not caught here: it goes on to the caller -/
theorem vx_widen {g : JFrame} {q : Addr} {k n : Nat} (h1 : cells ≤ k) (h2 : slots ≤ n) (kk : vx_W p l e R s m args below meth c H locs k n Q g q) : vx_W p l e R s m args below meth c H locs cells slots Q g q := fun T hT X => kk T hT (stand_widen X h1 h2)
theorem vx_out {pc : Nat} {E : String} {ce : Cell} {q : Addr} {mc ms : Nat} (hout : ∀ x ∈ c.exceptionTable.toList, covers x pc = false) (hlocks : meth.locks = false) (hcell : H[q]? = some ce) (hv : ce.vm = .none) (hcl : s.vm.findClass E = some ce.cls)
    (hx : ∀ t : State, t.heap = H → s.vm.Alike t.vm → XC E s t) (hf : ∀ z ∈ locs, free z.base) (hc : cells ≤ mc) (hs : slots ≤ ms) :
    vx_W p l e R s m args below meth c H locs cells slots (vx_MQ below Qc XC args s mc ms free) (F0 m pc ls rest) q := by
  intro T hT X
  obtain ⟨st1, hrun, hend, hW, hsm⟩ := X.leaveThrown q (g := F0 m pc ls rest) rfl rfl rfl hout hlocks
  have hcell9 : (T.setFrames (.throwing q :: below)).heap[q]? = some ce := by
    show T.heap[q]? = some ce
    rw [hT]; exact hcell
  exact ⟨_, st1, .threw q, hrun, hend, Or.inr ⟨q, rfl, E, ce, locs, hx _ hT hW.alike, hcell9, hv, hcl, hW, hsm.mono hc hs, hf⟩⟩
theorem vx_frame {U : State} {k n : Nat} (h : s.sameButNew ({ U with vm := s.vm } : State) locs k n) : s.heap.size ≤ U.heap.size ∧ ∀ q : Nat, q < s.heap.size → (∀ z ∈ locs, z.base ≠ q) → U.heap[q]? = s.heap[q]? := by
  obtain ⟨-, h2, -, -, -, h6⟩ := h
  refine ⟨h2, fun q hq hz => ?_⟩
  obtain ⟨c9, e1, e2, e3, e4⟩ := h6 q _ (Array.getElem?_eq_getElem hq)
  have hs : c9.slots = (s.heap[q]).slots := Array.ext_getElem? fun i => e4 i fun hm => hz _ hm rfl
  have h9 : c9 = s.heap[q] := by
    rw [hs] at e2
    exact e2
  have e5 : U.heap[q]? = some c9 := e1
  rw [e5, h9, Array.getElem?_eq_getElem hq]
/-- the words of a throw but the four that speak of the heap -/
def vx_no (w : Cond) : Bool := decide (w ≠ .isRef (.static Bundle.tN "UNASSIGNED_STACK" Bundle.steD)) && decide (w ≠ .isRef (.static Bundle.tN "SUPPRESSED_SENTINEL" Bundle.listD)) && decide (w ≠ .laysStatic Bundle.tN "UNASSIGNED_STACK" Bundle.steD) && decide (w ≠ .laysStatic Bundle.tN "SUPPRESSED_SENTINEL" Bundle.listD)
def vx_at0 (own : String) (ic : Nat) (X : String) (names : List String) : List Cond := (Bundle.ownAtoms0 own ic X names).filter vx_no
def vx_atS (own : String) (ic : Nat) (X : String) (names : List String) : List Cond := (Bundle.ownAtoms own ic X names).filter vx_no
/-- a word that the tables alone decide, or a good one -/
def vx_ot (w : Cond) : Bool := w.onTables || goodWord w
theorem vx_ot_at {args a' : Array Value} {s U : State} {w : Cond} (hW : s.WarmedH U.vm) (hvm : s.vm = U.vm) (hg : vx_ot w = true) (h : w.before args s = true) : w.before a' U = true := by
  simp only [vx_ot, Bool.or_eq_true] at hg
  rcases hg with hg | hg
  · exact va_tabs hg hvm h
  · exact word_at hW (good_of_word hg) h
/-- a list's words: the good ones out of the method's own list, the others by premises of their own -/
theorem vx_hat {args : Array Value} {s : State} {L B : List Cond} (h1 : ∀ w ∈ L.filter goodWord, w.before args s = true) (h2 : ∀ w ∈ L.filter (fun w => !goodWord w), w ∈ B) (h3 : ∀ w ∈ B, w.before args s = true) : ∀ w ∈ L, w.before args s = true := by
  intro w hw
  by_cases g : goodWord w = true
  · exact h1 w (List.mem_filter.mpr ⟨hw, g⟩)
  · refine h3 w (h2 w (List.mem_filter.mpr ⟨hw, ?_⟩))
    show (!goodWord w) = true
    cases hgw : goodWord w
    · rfl
    · exact absurd hgw g
theorem vx_c {args : Array Value} {s : State} {w : Cond} {B : List Cond} (h : w.before args s = true) (t : ∀ w ∈ B, w.before args s = true) : ∀ w' ∈ w :: B, w'.before args s = true := fun w' h' => (List.mem_cons.mp h').elim (fun e => by rw [e]; exact h) (t w')
theorem vx_n {args : Array Value} {s : State} : ∀ w ∈ ([] : List Cond), w.before args s = true := fun _ h => nomatch h
theorem vx_own {args : Array Value} {s : State} {L : List Cond} (h1 : ∀ w ∈ L.filter vx_no, w.before args s = true)
    (hU : (Cond.isRef (.static Bundle.tN "UNASSIGNED_STACK" Bundle.steD)).before args s = true) (hN : (Cond.isRef (.static Bundle.tN "SUPPRESSED_SENTINEL" Bundle.listD)).before args s = true)
    (lU : (Cond.laysStatic Bundle.tN "UNASSIGNED_STACK" Bundle.steD).before args s = true) (lN : (Cond.laysStatic Bundle.tN "SUPPRESSED_SENTINEL" Bundle.listD).before args s = true) : ∀ w ∈ L, w.before args s = true := by
  intro w hw
  by_cases e1 : w = .isRef (.static Bundle.tN "UNASSIGNED_STACK" Bundle.steD)
  · rw [e1]; exact hU
  · by_cases e2 : w = .isRef (.static Bundle.tN "SUPPRESSED_SENTINEL" Bundle.listD)
    · rw [e2]; exact hN
    · by_cases e3 : w = .laysStatic Bundle.tN "UNASSIGNED_STACK" Bundle.steD
      · rw [e3]; exact lU
      · by_cases e4 : w = .laysStatic Bundle.tN "SUPPRESSED_SENTINEL" Bundle.listD
        · rw [e4]; exact lN
        · exact h1 w (List.mem_filter.mpr ⟨hw, by unfold vx_no; rw [decide_eq_true e1, decide_eq_true e2, decide_eq_true e3, decide_eq_true e4]; rfl⟩)
/-- where a static field lies, its class's statics cell in H -/
def vx_L (C n d : String) (A : Nat → Prop) (U : State) (H : Heap) : Prop := ∃ (c : ClassId) (k : Class) (i : Nat) (f : Field) (a : Nat) (cell : Cell), U.vm.findClass C = some c ∧ U.fieldFound? C n d = some (c, k, i, f) ∧ f.isStatic = true ∧ k.statics = some a ∧ H[a]? = some cell ∧ cell.vm.isStatics = true ∧ cell.cls = c ∧ f.slot < cell.slots.size ∧ k.staticTypes[f.slot]? = some f.type ∧ ¬ A a
theorem vx_L.moved {C n d : String} {A : Nat → Prop} {u U : State} {H : Heap} (hvm : u.vm.Alike U.vm) (h : vx_L C n d A u H) : vx_L C n d A U H := by
  obtain ⟨c, k, i, f, a, cell, h1, h2, h3, h4, h5, h6, h7, h8, h9, h10⟩ := h
  obtain ⟨k', hi', he⟩ := State.fieldFound?_setVm hvm h2
  exact ⟨c, k', i, f, a, cell, by rw [hvm.findClass]; exact h1, hi', h3, by rw [he]; exact h4, h5, h6, h7, h8, by rw [he]; exact h9, h10⟩
theorem vx_L.kept {C n d : String} {A : Nat → Prop} {U : State} {H H1 : Heap} (h : vx_L C n d A U H) (hq : ∀ a : Nat, a < H.size → ¬ A a → H1[a]? = H[a]?) : vx_L C n d A U H1 := by
  obtain ⟨c, k, i, f, a, cell, h1, h2, h3, h4, h5, h6, h7, h8, h9, h10⟩ := h
  exact ⟨c, k, i, f, a, cell, h1, h2, h3, h4, by rw [hq a (Array.getElem?_eq_some_iff.mp h5).1 h10]; exact h5, h6, h7, h8, h9, h10⟩
theorem vx_L.narrow {C n d : String} {A B : Nat → Prop} {U : State} {H : Heap} (h : vx_L C n d A U H) (hAB : ∀ q, B q → A q) : vx_L C n d B U H := by
  obtain ⟨c, k, i, f, a, cell, h1, h2, h3, h4, h5, h6, h7, h8, h9, h10⟩ := h
  exact ⟨c, k, i, f, a, cell, h1, h2, h3, h4, h5, h6, h7, h8, h9, fun z => h10 (hAB _ z)⟩
theorem vx_L.word {C n d : String} {A : Nat → Prop} {s : State} {args : Array Value} (h : vx_L C n d A s s.heap) : (Cond.laysStatic C n d).before args s = true := by
  obtain ⟨c, k, i, f, a, cell, h1, h2, h3, h4, h5, h6, h7, h8, h9, -⟩ := h
  show (Cond.laysStatic C n d).holds args s none s [] = true
  exact Cond.laysStatic_of h1 h2 h3 h4 h5 h6 h7 h8 h9
/-- .. and what it holds: null or some reference -/
def vx_Zq (C n d : String) (A : Nat → Prop) (U : State) (H : Heap) : Prop := va_Zq C n d A U H ∧ vx_L C n d A U H
theorem vx_Zq.moved {C n d : String} {A : Nat → Prop} {u U : State} {H : Heap} (hvm : u.vm.Alike U.vm) (h : vx_Zq C n d A u H) : vx_Zq C n d A U H := ⟨va_Zq.moved hvm h.1, vx_L.moved hvm h.2⟩
theorem vx_Zq.kept {C n d : String} {A : Nat → Prop} {U : State} {H H1 : Heap} (h : vx_Zq C n d A U H) (hq : ∀ a : Nat, a < H.size → ¬ A a → H1[a]? = H[a]?) : vx_Zq C n d A U H1 := ⟨va_Zq.kept h.1 hq, vx_L.kept h.2 hq⟩
theorem vx_Zq.narrow {C n d : String} {A B : Nat → Prop} {U : State} {H : Heap} (h : vx_Zq C n d A U H) (hAB : ∀ q, B q → A q) : vx_Zq C n d B U H := ⟨va_Zq.narrow h.1 hAB, vx_L.narrow h.2 hAB⟩
theorem vx_Zqof {args : Array Value} {s : State} {C n d : String} {A : Nat → Prop} (hl : (Cond.laysStatic C n d).before args s = true) (hini : (Cond.initialized C).before args s = true) (h : (Cond.isRef (.static C n d)).before args s = true) (hA : ∀ a : Nat, a < s.heap.size → ¬ A a) : vx_Zq C n d A s s.heap := by
  refine ⟨va_Zqof hl hini h hA, ?_⟩
  obtain ⟨c, k, i, f, a, cell, h1, h2, h3, h4, h5, h6, h7, h8, h9⟩ := Cond.laysStatic_spec hl
  exact ⟨c, k, i, f, a, cell, h1, h2, h3, h4, h5, h6, h7, h8, h9, hA a (Array.getElem?_eq_some_iff.mp h5).1⟩
theorem vx_isRef {C n d : String} {v : Value} {A : Nat → Prop} {s : State} {args : Array Value} (h : va_Z C n d v A s s.heap) (hv : v.isRef = true) : (Cond.isRef (.static C n d)).before args s = true := by
  obtain ⟨cf, kf, fi, f, a, cell, h1, h2, h3, h4, h5, h6, h7, -⟩ := h
  have he : (Term.static C n d).eval args s none [] s = some v := by
    simp [Term.eval, State.fieldNamed?, h1, h2, h4, h5, h6, h7]
  simp only [Cond.before, Cond.holds, Cond.value, he]
  cases v <;> simp_all [Value.isRef]
theorem vx_isRefq {C n d : String} {A : Nat → Prop} {s : State} {args : Array Value} (h : va_Zq C n d A s s.heap) : (Cond.isRef (.static C n d)).before args s = true := by
  rcases h with h | ⟨t, h⟩
  · exact vx_isRef h rfl
  · exact vx_isRef h rfl
/-- the same frame, seen from here: as if the method were called anew in this heap -/
theorem vx_rebase {T : State} (X : Stand p l e R s m args below meth c T locs cells slots) {R' : Room} (hf : R'.frames ≤ R.frames) (hl : R'.locals ≤ R.locals) (hc : cells + R'.cells ≤ R.cells) (hs : slots + R'.slots ≤ R.slots) :
    Stand p l e R' ((T.setVm s.vm).setFrames (.invoking m args :: below)) m args below meth c T [] 0 0 := by
  have htop : (T.setVm s.vm).topJava?.isSome := X.here.top
  have hF : ((T.setVm s.vm).setFrames (.invoking m args :: below)).frames = .invoking m args :: below := State.frames_setFrames _ (State.cur_lt_of_top htop)
  obtain ⟨g₀, hg0⟩ := Option.isSome_iff_exists.mp htop
  obtain ⟨r, hr⟩ := State.topJava?_eq_some.mp hg0
  have hl9 : e.platform.stackLimits (T.setVm s.vm).me = e.platform.stackLimits s.me := X.limits
  have hb9 : (T.setVm s.vm).me.stackBytes = s.me.stackBytes := X.bytes
  refine ⟨X.admits, X.cas, X.clock, hF, ?_, X.hears, X.method, X.code, X.here, X.tail, X.warmed, ?_, ?_, ?_⟩
  · have h := X.room
    have hU : ((T.setVm s.vm).setFrames (.invoking m args :: below)).localsInUse = s.localsInUse := by
      rw [State.localsInUse_invoking hF (meth := meth) (c := c) X.method X.code, State.localsInUse_invoking X.frames X.method X.code]
    simp only [State.hasRoom, Bool.and_eq_true, decide_eq_true_eq] at h ⊢
    obtain ⟨⟨⟨⟨h1, h2, h3, h4, h5, h6⟩, h7⟩, h8⟩, h9⟩ := h
    rw [X.frames, List.length_cons] at h2 h3
    have q1 := X.heapSize
    have q2 := X.used
    simp only [hF, hU, List.length_cons, State.stackLimits_setFrames, State.stackBytes_setFrames, hl9, hb9]
    refine ⟨⟨⟨⟨by omega, by omega, by omega, by omega, by omega, h6⟩, ?_⟩, ?_⟩, X.book⟩
    · show T.heap.size + R'.cells ≤ e.platform.maxCells
      omega
    · show T.slotsUsed + R'.slots ≤ e.platform.maxSlots
      omega
  · rw [State.stackLimits_setFrames]; rfl
  · rw [State.stackBytes_setFrames]; rfl
  · refine ⟨?_, Nat.le_refl _, Nat.le_refl _, ?_, ?_, fun a c9 h9 => ⟨c9, h9, rfl, rfl, fun _ _ => rfl⟩⟩
    · obtain ⟨t, ht, -⟩ := State.frames_cons hr
      show T.setVm s.vm = { ((T.setVm s.vm).setFrames (.invoking m args :: below)).setFrames (T.setVm s.vm).frames with heap := T.heap, slotsUsed := T.slotsUsed }
      rw [State.setFrames_setFrames, State.setFrames_self ht]
      rfl
    · show T.slotsUsed = T.slotsUsed + ((T.heap.toList.drop T.heap.size).map (·.slots.size)).sum
      rw [List.drop_eq_nil_of_le (Nat.le_of_eq Array.length_toList)]
      rfl
    · show ((T.heap.toList.drop T.heap.size).map (·.slots.size)).sum ≤ 0
      rw [List.drop_eq_nil_of_le (Nat.le_of_eq Array.length_toList)]
      exact Nat.le_refl _
/-- 'throw new E()': new; dup; invokespecial; athrow -/
theorem vx_throw0 {cc : ByteArray} {pc : Nat} (hexec : p.tables.exec = Jvm.exec) (hb : c.code = cc) (hl : l.stackTraces = false) {own cls : String} {names : List String} {ik ic mc ms : Nat} {A : Nat → Prop}
    (hown : s.vm.findClass own = some m.cls) (hcls : Bundle.fit cls = true) (hnames : ∀ n ∈ names, Bundle.fit n = true)
    (hk : (Cond.classLink own ik cls).before args s = true) (hini : (Cond.initialized cls).before args s = true) (hat : ∀ w ∈ vx_at0 own ic cls names, w.before args s = true)
    (hgood : ∀ w ∈ Cond.classLink own ik cls :: Cond.initialized cls :: vx_at0 own ic cls names, vx_ot w = true)
    (hU : vx_Zq Bundle.tN "UNASSIGNED_STACK" Bundle.steD A s s.heap) (hN : vx_Zq Bundle.tN "SUPPRESSED_SENTINEL" Bundle.listD A s s.heap) (hS : va_S A s.heap H locs) (hsize : ls.size = c.maxLocals)
    (d0 : decode cc pc = .ok (.new ik, 3)) (d3 : decode cc (pc + 3) = .ok (.dup, 1)) (d4 : decode cc (pc + 4) = .ok (.invokespecial ic, 3)) (d7 : decode cc (pc + 7) = .ok (.athrow, 1))
    (hout : ∀ x ∈ c.exceptionTable.toList, covers x (pc + 7) = false)
    (hRframes : names.length + 3 < R.frames) (hRlocals : (rest.map fun v => v.category).sum + (13 * (names.length + 1) + 42) ≤ R.locals) (hRcells : cells + 1 ≤ R.cells) (hRslots : slots + 6 ≤ R.slots) (hlocks : meth.locks = false)
    (hx : ∀ t : State, s.vm.Alike t.vm → H.size ≤ t.heap.size → (∀ q : Nat, q < H.size → t.heap[q]? = H[q]?) → XC cls s t)
    (hf : ∀ z ∈ locs, free z.base) (hc : cells + 1 ≤ mc) (hs : slots + 6 ≤ ms) :
    W p l e R s m args below meth c H locs cells slots (vx_MQ below Qc XC args s mc ms free) (F0 m pc ls rest) := by
  intro T hT X
  have htr : e.platform.stackTraces = false := (show e.platform.stackTraces = l.stackTraces by rw [X.admits.platform]).trans hl
  have Y := vx_rebase X (R' := { frames := R.frames, locals := R.locals, cells := 1, slots := 6 }) (Nat.le_refl _) (Nat.le_refl _) hRcells hRslots
  obtain ⟨s', hA⟩ : ∃ z, z = (T.setVm s.vm).setFrames (.invoking m args :: below) := ⟨_, rfl⟩
  rw [← hA] at Y
  have hvm : s'.vm = s.vm := by rw [hA]; rfl
  have hhp : s'.heap = H := by rw [hA]; exact hT
  have hW0 : s.WarmedH s'.vm := by rw [hvm]; exact State.WarmedH.refl s
  have hat' : ∀ w ∈ vx_at0 own ic cls names, w.before args s' = true := fun w hw => vx_ot_at hW0 hvm.symm (hgood w (List.mem_cons_of_mem _ (List.mem_cons_of_mem _ hw))) (hat w hw)
  have hk' : (Cond.classLink own ik cls).before args s' = true := vx_ot_at hW0 hvm.symm (hgood _ List.mem_cons_self) hk
  have hini' : (Cond.initialized cls).before args s' = true := vx_ot_at hW0 hvm.symm (hgood _ (List.mem_cons_of_mem _ List.mem_cons_self)) hini
  have hU' : vx_Zq Bundle.tN "UNASSIGNED_STACK" Bundle.steD A s' s'.heap := by rw [hhp]; exact vx_Zq.moved hW0.alike (hU.kept hS.2.1)
  have hN' : vx_Zq Bundle.tN "SUPPRESSED_SENTINEL" Bundle.listD A s' s'.heap := by rw [hhp]; exact vx_Zq.moved hW0.alike (hN.kept hS.2.1)
  have h : ∀ w ∈ Bundle.ownAtoms0 own ic cls names, w.before args s' = true := vx_own hat' (vx_isRefq hU'.1) (vx_isRefq hN'.1) hU'.2.word hN'.2.word
  have hown' : s'.vm.findClass own = some m.cls := by rw [hvm]; exact hown
  have hins : (Cond.instantiable cls 6).before args s' = true := h _ (by simp [Bundle.ownAtoms0])
  obtain ⟨vm₁, cX, kX, hfX, hkX, -, -, X₁, st1⟩ := Y.newCold hexec (own := own) (C := cls) (index := ik) (n := 6) hown' hk' hins hini'
    (g := F0 m pc ls rest) rfl (by rw [hb]; exact d0) (Nat.le_refl _) (Nat.le_refl _)
  generalize hT1 : (T.setVm vm₁).pushCell { cls := cX, slots := kX.instanceTypes.map defaultValue, vm := .none } = T1 at X₁ st1
  have hcat : (Value.ref T.heap.size).category = 1 := rfl
  have hcellA : T1.heap[T.heap.size]? = some (freshCell cX kX) := by rw [← hT1]; exact State.heap_pushCell_size _ _
  have d3' : decode c.code (pc + 3) = .ok (.dup, 1) := by rw [hb]; exact d3
  obtain ⟨U, hsteps, hrun, hend, hW, hsame, ce, hce, hO⟩ := X₁.ctorThrow0 hexec htr (own := own) (cls := cls) (names := names) (ic := ic) hown' hcls hnames h (fun x hx => nomatch hx) hfX hkX hcellA (by rw [hhp, hT]; exact Nat.le_refl _)
    (g := { method := m, pc := pc + 4, locals := ls, stack := .ref T.heap.size :: .ref T.heap.size :: rest, locked := none }) rfl hsize rfl rfl (rest := rest) rfl
    (by rw [hb]; exact d4) (by rw [hb]; exact d7) hout hRframes (by simp only [List.map_cons, List.sum_cons, hcat]; omega) hlocks
  obtain ⟨f1, f2⟩ := vx_frame hsame
  rw [hhp] at f1 f2
  have hWs : s.WarmedH U.vm := State.WarmedH.trans hW0 hW
  have hcl : s.vm.findClass cls = some ce.cls := by
    have h9 := hO.cls
    rw [hvm] at h9
    exact h9
  have hall : s.sameButNew ({ U with vm := s.vm } : State) locs mc ms := by
    subst hA
    obtain ⟨e1, e2⟩ := hsame
    rw [State.setFrames_setFrames] at e1
    have h2 : (T.setVm s.vm).sameButNew ({ U with vm := s.vm } : State) [] (0 + 1) (0 + 6) := ⟨e1, e2⟩
    have h3 := X.same.trans h2
    rw [List.append_nil] at h3
    exact h3.mono hc hs
  refine ⟨U, ?_, .threw T.heap.size, hrun, hend, Or.inr ⟨T.heap.size, rfl, cls, ce, locs, hx U hWs.alike f1 (fun q hq => f2 q hq (fun z hz => nomatch hz)), hce, hO.vm, hcl, hWs, hall, hf⟩⟩
  refine st1 _ ?_
  show Steps p.tables e below (T1.setTop { method := m, pc := pc + 3, locals := ls, stack := .ref T.heap.size :: rest, locked := none }) _
  jvm_step X₁.here [X₁.here.top, hexec, d3', Value.category]
  exact hsteps
/-- 'throw new E("text")': new; dup; ldc; invokespecial; athrow -/
theorem vx_throwS {cc : ByteArray} {pc : Nat} (hexec : p.tables.exec = Jvm.exec) (hb : c.code = cc) (hl : l.stackTraces = false) {own cls text : String} {names : List String} {ik is ic mc ms sa : Nat} {A : Nat → Prop}
    (hown : s.vm.findClass own = some m.cls) (hcls : Bundle.fit cls = true) (hnames : ∀ n ∈ names, Bundle.fit n = true)
    (hk : (Cond.classLink own ik cls).before args s = true) (hini : (Cond.initialized cls).before args s = true) (hstr : vk_R own is text sa s) (hat : ∀ w ∈ vx_atS own ic cls names, w.before args s = true)
    (hgood : ∀ w ∈ Cond.classLink own ik cls :: Cond.initialized cls :: vx_atS own ic cls names, vx_ot w = true)
    (hU : vx_Zq Bundle.tN "UNASSIGNED_STACK" Bundle.steD A s s.heap) (hN : vx_Zq Bundle.tN "SUPPRESSED_SENTINEL" Bundle.listD A s s.heap) (hS : va_S A s.heap H locs) (hsize : ls.size = c.maxLocals)
    (d0 : decode cc pc = .ok (.new ik, 3)) (d3 : decode cc (pc + 3) = .ok (.dup, 1)) (d4 : decode cc (pc + 4) = .ok (.ldc is, 2)) (d6 : decode cc (pc + 6) = .ok (.invokespecial ic, 3)) (d9 : decode cc (pc + 9) = .ok (.athrow, 1))
    (hout : ∀ x ∈ c.exceptionTable.toList, covers x (pc + 9) = false)
    (hRframes : names.length + 3 < R.frames) (hRlocals : (rest.map fun v => v.category).sum + (13 * (names.length + 1) + 43) ≤ R.locals) (hRcells : cells + 1 ≤ R.cells) (hRslots : slots + 6 ≤ R.slots) (hlocks : meth.locks = false)
    (hx : ∀ t : State, s.vm.Alike t.vm → H.size ≤ t.heap.size → (∀ q : Nat, q < H.size → t.heap[q]? = H[q]?) → XC cls s t)
    (hf : ∀ z ∈ locs, free z.base) (hc : cells + 1 ≤ mc) (hs : slots + 6 ≤ ms) :
    W p l e R s m args below meth c H locs cells slots (vx_MQ below Qc XC args s mc ms free) (F0 m pc ls rest) := by
  intro T hT X
  have htr : e.platform.stackTraces = false := (show e.platform.stackTraces = l.stackTraces by rw [X.admits.platform]).trans hl
  have Y := vx_rebase X (R' := { frames := R.frames, locals := R.locals, cells := 1, slots := 6 }) (Nat.le_refl _) (Nat.le_refl _) hRcells hRslots
  obtain ⟨s', hA⟩ : ∃ z, z = (T.setVm s.vm).setFrames (.invoking m args :: below) := ⟨_, rfl⟩
  rw [← hA] at Y
  have hvm : s'.vm = s.vm := by rw [hA]; rfl
  have hhp : s'.heap = H := by rw [hA]; exact hT
  have hW0 : s.WarmedH s'.vm := by rw [hvm]; exact State.WarmedH.refl s
  have hat' : ∀ w ∈ vx_atS own ic cls names, w.before args s' = true := fun w hw => vx_ot_at hW0 hvm.symm (hgood w (List.mem_cons_of_mem _ (List.mem_cons_of_mem _ hw))) (hat w hw)
  have hk' : (Cond.classLink own ik cls).before args s' = true := vx_ot_at hW0 hvm.symm (hgood _ List.mem_cons_self) hk
  have hini' : (Cond.initialized cls).before args s' = true := vx_ot_at hW0 hvm.symm (hgood _ (List.mem_cons_of_mem _ List.mem_cons_self)) hini
  have hU' : vx_Zq Bundle.tN "UNASSIGNED_STACK" Bundle.steD A s' s'.heap := by rw [hhp]; exact vx_Zq.moved hW0.alike (hU.kept hS.2.1)
  have hN' : vx_Zq Bundle.tN "SUPPRESSED_SENTINEL" Bundle.listD A s' s'.heap := by rw [hhp]; exact vx_Zq.moved hW0.alike (hN.kept hS.2.1)
  have h : ∀ w ∈ Bundle.ownAtoms own ic cls names, w.before args s' = true := vx_own hat' (vx_isRefq hU'.1) (vx_isRefq hN'.1) hU'.2.word hN'.2.word
  have hown' : s'.vm.findClass own = some m.cls := by rw [hvm]; exact hown
  have hins : (Cond.instantiable cls 6).before args s' = true := h _ (by simp [Bundle.ownAtoms])
  obtain ⟨vm₁, cX, kX, hfX, hkX, -, -, X₁, st1⟩ := Y.newCold hexec (own := own) (C := cls) (index := ik) (n := 6) hown' hk' hins hini'
    (g := F0 m pc ls rest) rfl (by rw [hb]; exact d0) (Nat.le_refl _) (Nat.le_refl _)
  generalize hT1 : (T.setVm vm₁).pushCell { cls := cX, slots := kX.instanceTypes.map defaultValue, vm := .none } = T1 at X₁ st1
  have hcat : (Value.ref T.heap.size).category = 1 := rfl
  have hcellA : T1.heap[T.heap.size]? = some (freshCell cX kX) := by rw [← hT1]; exact State.heap_pushCell_size _ _
  have d3' : decode c.code (pc + 3) = .ok (.dup, 1) := by rw [hb]; exact d3
  have d4' : decode c.code (pc + 4) = .ok (.ldc is, 2) := by rw [hb]; exact d4
  have hstr' : vk_R own is text sa s' := vk_R.warm hW0 hstr
  obtain ⟨U, hsteps, hrun, hend, hW, hsame, ce, hce, hO⟩ := X₁.ctorThrowS hexec htr (own := own) (cls := cls) (names := names) (ic := ic) hown' hcls hnames h (fun x hx => nomatch hx) hfX hkX hcellA (by rw [hhp, hT]; exact Nat.le_refl _) (msg := .ref sa) rfl
    (g := { method := m, pc := pc + 6, locals := ls, stack := .ref sa :: .ref T.heap.size :: .ref T.heap.size :: rest, locked := none }) rfl hsize rfl rfl (rest := rest) rfl
    (by rw [hb]; exact d6) (by rw [hb]; exact d9) hout hRframes (by simp only [List.map_cons, List.sum_cons, hcat]; omega) hlocks
  obtain ⟨f1, f2⟩ := vx_frame hsame
  rw [hhp] at f1 f2
  have hWs : s.WarmedH U.vm := State.WarmedH.trans hW0 hW
  have hcl : s.vm.findClass cls = some ce.cls := by
    have h9 := hO.cls
    rw [hvm] at h9
    exact h9
  have hall : s.sameButNew ({ U with vm := s.vm } : State) locs mc ms := by
    subst hA
    obtain ⟨e1, e2⟩ := hsame
    rw [State.setFrames_setFrames] at e1
    have h2 : (T.setVm s.vm).sameButNew ({ U with vm := s.vm } : State) [] (0 + 1) (0 + 6) := ⟨e1, e2⟩
    have h3 := X.same.trans h2
    rw [List.append_nil] at h3
    exact h3.mono hc hs
  refine ⟨U, ?_, .threw T.heap.size, hrun, hend, Or.inr ⟨T.heap.size, rfl, cls, ce, locs, hx U hWs.alike f1 (fun q hq => f2 q hq (fun z hz => nomatch hz)), hce, hO.vm, hcl, hWs, hall, hf⟩⟩
  refine st1 _ ?_
  show Steps p.tables e below (T1.setTop { method := m, pc := pc + 3, locals := ls, stack := .ref T.heap.size :: rest, locked := none }) _
  jvm_step X₁.here [X₁.here.top, hexec, d3', Value.category]
  exact X₁.ldcString hexec (own := own) (text := text) (index := is) (a := sa) hown' hstr'.1 hstr'.2
    (g := { method := m, pc := pc + 4, locals := ls, stack := .ref T.heap.size :: .ref T.heap.size :: rest, locked := none }) rfl d4' _ hsteps
/-- 'throw new E("text")', the text by a wide index -/
theorem vx_throwSW {cc : ByteArray} {pc : Nat} (hexec : p.tables.exec = Jvm.exec) (hb : c.code = cc) (hl : l.stackTraces = false) {own cls text : String} {names : List String} {ik is ic mc ms sa : Nat} {A : Nat → Prop}
    (hown : s.vm.findClass own = some m.cls) (hcls : Bundle.fit cls = true) (hnames : ∀ n ∈ names, Bundle.fit n = true)
    (hk : (Cond.classLink own ik cls).before args s = true) (hini : (Cond.initialized cls).before args s = true) (hstr : vk_R own is text sa s) (hat : ∀ w ∈ vx_atS own ic cls names, w.before args s = true)
    (hgood : ∀ w ∈ Cond.classLink own ik cls :: Cond.initialized cls :: vx_atS own ic cls names, vx_ot w = true)
    (hU : vx_Zq Bundle.tN "UNASSIGNED_STACK" Bundle.steD A s s.heap) (hN : vx_Zq Bundle.tN "SUPPRESSED_SENTINEL" Bundle.listD A s s.heap) (hS : va_S A s.heap H locs) (hsize : ls.size = c.maxLocals)
    (d0 : decode cc pc = .ok (.new ik, 3)) (d3 : decode cc (pc + 3) = .ok (.dup, 1)) (d4 : decode cc (pc + 4) = .ok (.ldc_w is, 3)) (d7 : decode cc (pc + 7) = .ok (.invokespecial ic, 3)) (d10 : decode cc (pc + 10) = .ok (.athrow, 1))
    (hout : ∀ x ∈ c.exceptionTable.toList, covers x (pc + 10) = false)
    (hRframes : names.length + 3 < R.frames) (hRlocals : (rest.map fun v => v.category).sum + (13 * (names.length + 1) + 43) ≤ R.locals) (hRcells : cells + 1 ≤ R.cells) (hRslots : slots + 6 ≤ R.slots) (hlocks : meth.locks = false)
    (hx : ∀ t : State, s.vm.Alike t.vm → H.size ≤ t.heap.size → (∀ q : Nat, q < H.size → t.heap[q]? = H[q]?) → XC cls s t)
    (hf : ∀ z ∈ locs, free z.base) (hc : cells + 1 ≤ mc) (hs : slots + 6 ≤ ms) :
    W p l e R s m args below meth c H locs cells slots (vx_MQ below Qc XC args s mc ms free) (F0 m pc ls rest) := by
  intro T hT X
  have htr : e.platform.stackTraces = false := (show e.platform.stackTraces = l.stackTraces by rw [X.admits.platform]).trans hl
  have Y := vx_rebase X (R' := { frames := R.frames, locals := R.locals, cells := 1, slots := 6 }) (Nat.le_refl _) (Nat.le_refl _) hRcells hRslots
  obtain ⟨s', hA⟩ : ∃ z, z = (T.setVm s.vm).setFrames (.invoking m args :: below) := ⟨_, rfl⟩
  rw [← hA] at Y
  have hvm : s'.vm = s.vm := by rw [hA]; rfl
  have hhp : s'.heap = H := by rw [hA]; exact hT
  have hW0 : s.WarmedH s'.vm := by rw [hvm]; exact State.WarmedH.refl s
  have hat' : ∀ w ∈ vx_atS own ic cls names, w.before args s' = true := fun w hw => vx_ot_at hW0 hvm.symm (hgood w (List.mem_cons_of_mem _ (List.mem_cons_of_mem _ hw))) (hat w hw)
  have hk' : (Cond.classLink own ik cls).before args s' = true := vx_ot_at hW0 hvm.symm (hgood _ List.mem_cons_self) hk
  have hini' : (Cond.initialized cls).before args s' = true := vx_ot_at hW0 hvm.symm (hgood _ (List.mem_cons_of_mem _ List.mem_cons_self)) hini
  have hU' : vx_Zq Bundle.tN "UNASSIGNED_STACK" Bundle.steD A s' s'.heap := by rw [hhp]; exact vx_Zq.moved hW0.alike (hU.kept hS.2.1)
  have hN' : vx_Zq Bundle.tN "SUPPRESSED_SENTINEL" Bundle.listD A s' s'.heap := by rw [hhp]; exact vx_Zq.moved hW0.alike (hN.kept hS.2.1)
  have h : ∀ w ∈ Bundle.ownAtoms own ic cls names, w.before args s' = true := vx_own hat' (vx_isRefq hU'.1) (vx_isRefq hN'.1) hU'.2.word hN'.2.word
  have hown' : s'.vm.findClass own = some m.cls := by rw [hvm]; exact hown
  have hins : (Cond.instantiable cls 6).before args s' = true := h _ (by simp [Bundle.ownAtoms])
  obtain ⟨vm₁, cX, kX, hfX, hkX, -, -, X₁, st1⟩ := Y.newCold hexec (own := own) (C := cls) (index := ik) (n := 6) hown' hk' hins hini'
    (g := F0 m pc ls rest) rfl (by rw [hb]; exact d0) (Nat.le_refl _) (Nat.le_refl _)
  generalize hT1 : (T.setVm vm₁).pushCell { cls := cX, slots := kX.instanceTypes.map defaultValue, vm := .none } = T1 at X₁ st1
  have hcat : (Value.ref T.heap.size).category = 1 := rfl
  have hcellA : T1.heap[T.heap.size]? = some (freshCell cX kX) := by rw [← hT1]; exact State.heap_pushCell_size _ _
  have d3' : decode c.code (pc + 3) = .ok (.dup, 1) := by rw [hb]; exact d3
  have d4' : decode c.code (pc + 4) = .ok (.ldc_w is, 3) := by rw [hb]; exact d4
  have hstr' : vk_R own is text sa s' := vk_R.warm hW0 hstr
  obtain ⟨U, hsteps, hrun, hend, hW, hsame, ce, hce, hO⟩ := X₁.ctorThrowS hexec htr (own := own) (cls := cls) (names := names) (ic := ic) hown' hcls hnames h (fun x hx => nomatch hx) hfX hkX hcellA (by rw [hhp, hT]; exact Nat.le_refl _) (msg := .ref sa) rfl
    (g := { method := m, pc := pc + 7, locals := ls, stack := .ref sa :: .ref T.heap.size :: .ref T.heap.size :: rest, locked := none }) rfl hsize rfl rfl (rest := rest) rfl
    (by rw [hb]; exact d7) (by rw [hb]; exact d10) hout hRframes (by simp only [List.map_cons, List.sum_cons, hcat]; omega) hlocks
  obtain ⟨f1, f2⟩ := vx_frame hsame
  rw [hhp] at f1 f2
  have hWs : s.WarmedH U.vm := State.WarmedH.trans hW0 hW
  have hcl : s.vm.findClass cls = some ce.cls := by
    have h9 := hO.cls
    rw [hvm] at h9
    exact h9
  have hall : s.sameButNew ({ U with vm := s.vm } : State) locs mc ms := by
    subst hA
    obtain ⟨e1, e2⟩ := hsame
    rw [State.setFrames_setFrames] at e1
    have h2 : (T.setVm s.vm).sameButNew ({ U with vm := s.vm } : State) [] (0 + 1) (0 + 6) := ⟨e1, e2⟩
    have h3 := X.same.trans h2
    rw [List.append_nil] at h3
    exact h3.mono hc hs
  refine ⟨U, ?_, .threw T.heap.size, hrun, hend, Or.inr ⟨T.heap.size, rfl, cls, ce, locs, hx U hWs.alike f1 (fun q hq => f2 q hq (fun z hz => nomatch hz)), hce, hO.vm, hcl, hWs, hall, hf⟩⟩
  refine st1 _ ?_
  show Steps p.tables e below (T1.setTop { method := m, pc := pc + 3, locals := ls, stack := .ref T.heap.size :: rest, locked := none }) _
  jvm_step X₁.here [X₁.here.top, hexec, d3', Value.category]
  exact X₁.ldcStringW hexec (own := own) (text := text) (index := is) (a := sa) hown' hstr'.1 hstr'.2
    (g := { method := m, pc := pc + 4, locals := ls, stack := .ref T.heap.size :: .ref T.heap.size :: rest, locked := none }) rfl d4' _ hsteps
end Ends
section Bodies
variable {l : Launch}
theorem vx_ofW {y : MethodName} {ws ws' : List Cond} {rm : Room} {Pc : Array Value → State → Prop} {Qc : Array Value → State → Outcome → State → Prop} {XC : String → State → State → Prop} {mc ms : Nat} {free : Addr → Prop} {cc : ByteArray} {maxL : Nat} {ret : Option FieldType}
    (hy : plainName y.cls = true) (hw : ws = Cond.code y cc maxL ret :: ws')
    (body : ∀ p e s m args below meth c s₁, BodyLoose p l y (headSpec ws rm) cc maxL ret e s m args below meth c s₁ → c.maxLocals = maxL → (∀ x ∈ c.exceptionTable.toList, False) → Pc args s →
      W p l e (headSpec ws rm).room s m args below meth c s.heap [] 0 0 (vx_MQ below Qc XC args s mc ms free) (entryFrame m args maxL)) : vx_Met l y ws rm Pc Qc XC mc ms free := by
  refine MetFree.of_bodyS (code := cc) (maxLocals := maxL) (ret := ret) hy ?_ ?_
  · intro args s m h hn
    obtain ⟨meth, c, h1, h2, h3, h4, h5, h6, -, -⟩ := Cond.code_spec hn (atoms_spec (ws := ws) h _ (by rw [hw]; exact List.mem_cons_self))
    exact ⟨meth, c, h1, h2, h3, h4, h5, h6⟩
  · intro p e s m args below meth c s₁ B hml hP _
    have hh0 : s₁.heap = s.heap := by rw [B.state]; rfl
    have ht : ∀ x ∈ c.exceptionTable.toList, False := by
      obtain ⟨meth9, c9, h1, h2, -, -, -, -, h7, -⟩ := Cond.code_spec B.named (atoms_spec (ws := ws) B.pre _ (by rw [hw]; exact List.mem_cons_self))
      cases Option.some.inj (h1.symm.trans B.method)
      cases Option.some.inj (h2.symm.trans (Stand.of_body B).code)
      intro x hx
      rw [Array.isEmpty_iff.mp h7] at hx
      cases hx
    obtain ⟨t, a1, o, b1, b2, b3⟩ := body p e s m args below meth c s₁ B hml ht hP s₁ hh0 (Stand.of_body B)
    exact ⟨t, o, a1, b1, b2, b3⟩
/-- the table of a body with handlers -/
theorem vx_table {p : Program} {x y : MethodName} {S : Spec} {cc bytes : ByteArray} {maxL maxL' : Nat} {ret ret' : Option FieldType} {e : Env} {s s₁ : State} {m : MethodId} {args : Array Value} {below : List Frame} {meth : Method} {c : Code} {hh : List (Nat × Nat × Nat × Nat)}
    (B : BodyLoose p l y S cc maxL ret e s m args below meth c s₁) (h : (Cond.codeWith y bytes maxL' ret' hh).before args s = true) : c.exceptionTable.toList = tableOf hh := by
  obtain ⟨m9, meth9, c9, hn9, h1, h2, -, -, h6, -⟩ := Cond.codeWith_spec h
  cases Option.some.inj (hn9.symm.trans B.named)
  cases Option.some.inj (h1.symm.trans B.method)
  cases Option.some.inj (h2.symm.trans (Stand.of_body B).code)
  rw [← h6, table_eq]
end Bodies
end VXA
/-! ===== END ===== -/
/-! ===== BEGIN a static call of a method with an exception table ===== -/
section VXS
variable {p : Program} {l : Launch} {e : Env} {R : Room} {s : State} {m : MethodId} {args : Array Value} {below : List Frame} {meth : Method} {c : Code} {T : State} {H : Heap} {locs : List Loc} {cells slots : Nat}
abbrev vx_CSW (R : Room) (s : State) (args : Array Value) (own : String) (index : Nat) (y : MethodName) (bytes : ByteArray) (maxL : Nat) (ret : Option FieldType) (hh : List (Nat × Nat × Nat × Nat)) (ws : List Cond) (rm : Room) (mc ms n : Nat) : Prop :=
  (rm.cells = mc ∧ rm.slots = ms ∧ rm.frames + 1 ≤ R.frames ∧ 8 + (maxL + 11) + rm.locals ≤ R.locals ∧ (∀ w ∈ ws, ∀ (a' : Array Value) (U : State), s.WarmedH U.vm → w.before a' U = true) ∧ Cond.codeWith y bytes maxL ret hh ∈ ws) ∧
  (Cond.codeWith y bytes maxL ret hh).before args s = true ∧ (Cond.initialized y.cls).before args s = true ∧ (y.cls ≠ "java/lang/invoke/MethodHandle" ∧ y.cls ≠ "java/lang/invoke/VarHandle") ∧
  (∀ sig, parseMethodDescriptor y.desc = some sig → n = sig.parameters.length) ∧ (Cond.methodLink own index y).before args s = true ∧ (Cond.static y).before args s = true
theorem vx_cwSW {own : String} {index maxL mc ms : Nat} {y : MethodName} {bytes : ByteArray} {ret : Option FieldType} {hh : List (Nat × Nat × Nat × Nat)} {Ts ws ws' : List Cond} {rm : Room} (n : Nat) (ht : ∀ w ∈ Ts, w.before args s = true) (hT : GoodIn Ts (va_wsS own index y ws)) (hw : ws = Cond.codeWith y bytes maxL ret hh :: ws') (hrc : rm.cells = mc) (hrs : rm.slots = ms)
    (hd : y.cls ≠ "java/lang/invoke/MethodHandle" ∧ y.cls ≠ "java/lang/invoke/VarHandle" ∧ (parseMethodDescriptor y.desc).map (fun d => d.parameters.length) = some n) (hR : rm.frames + 1 ≤ R.frames ∧ 8 + (maxL + 11) + rm.locals ≤ R.locals) :
    vx_CSW R s args own index y bytes maxL ret hh ws rm mc ms n := by
  have ok : ∀ w ∈ va_wsS own index y ws, w.before args s = true := fun w h => ht w (hT w h).1
  have hG : GoodIn Ts ws := fun w h => hT w (by unfold va_wsS; exact List.mem_append_right _ h)
  have hc : Cond.codeWith y bytes maxL ret hh ∈ ws := by rw [hw]; exact List.mem_cons_self
  refine ⟨⟨hrc, hrs, hR.1, hR.2, pay_in ht hG, hc⟩, ht _ (hG _ hc).1, ok _ (by simp [va_wsS]), ⟨hd.1, hd.2.1⟩, fun sig h => ?_, ok _ (by simp [va_wsS]), ok _ (by simp [va_wsS])⟩
  have h2 := hd.2.2
  rw [h] at h2
  exact (Option.some.inj h2).symm
theorem vx_callSW (X : Stand p l e R s m args below meth c T locs cells slots) (hexec : p.tables.exec = Jvm.exec) {own : String} {index : Nat} {y : MethodName} {bytes : ByteArray} {maxL : Nat} {ret : Option FieldType} {hh : List (Nat × Nat × Nat × Nat)}
    (hown : s.vm.findClass own = some m.cls) (hlink : (Cond.methodLink own index y).before args s = true) (hstat : (Cond.static y).before args s = true) (hinit : (Cond.initialized y.cls).before args s = true)
    (hcode : (Cond.codeWith y bytes maxL ret hh).before args s = true) (hy : y.cls ≠ "java/lang/invoke/MethodHandle" ∧ y.cls ≠ "java/lang/invoke/VarHandle")
    {W9 : Nat} {Pre : Pt → Array Value → Prop} {Post : Pt → Array Value → Option Value → Pt → Prop} (hK : Back l R p e below s args y 3 W9 Pre Post)
    {g : JFrame} (hg : g.method = m) (hsize : g.locals.size = c.maxLocals) {argsL rest : List Value} (hlen : ∀ sig, parseMethodDescriptor y.desc = some sig → argsL.length = sig.parameters.length)
    (hstack : g.stack = argsL.reverse ++ rest) (hW : 2 * g.monitorRoom + (rest.map fun v => v.category).sum ≤ W9) (hdg : decode c.code g.pc = .ok (.invokestatic index, 3))
    (hpre : ∀ vm₁, s.WarmedH vm₁ → Pre ⟨T.setVm vm₁, locs, cells, slots⟩ argsL.toArray) :
    ∃ (v : Option Value) (vm₁ : Vm) (B : Pt), s.WarmedH vm₁ ∧ Stand p l e R s m args below meth c B.U B.locs B.cells B.slots ∧ Post ⟨T.setVm vm₁, locs, cells, slots⟩ argsL.toArray v B ∧
      ∀ target, Steps p.tables e below (B.U.setTop { g with pc := g.pc + 3, stack := v.toList ++ rest }) target → Steps p.tables e below (T.setTop g) target := by
  obtain ⟨mk, methM, cM, hnamed, hmethM, -, -, -, -, -, -, hsigM⟩ := Cond.codeWith_spec hcode
  have hstatic : methM.isStatic = true := Cond.static_spec hnamed hmethM hstat
  obtain ⟨kP, hkP, -⟩ := className_of_methodNamed hnamed
  have hinitP : kP.init = .initialized := Cond.initialized_spec (findClass_of_methodNamed hnamed) hkP hinit
  obtain ⟨vm₁, X₁, hstep₁⟩ := X.invokestatic hexec hown hlink hnamed hmethM hstatic hkP hinitP hy (g := g) hg (argsL := argsL) (rest := rest) (hlen _ hsigM) hstack hdg
  obtain ⟨v, B, X', hpost, hsteps⟩ := hK m meth c ⟨T.setVm vm₁, locs, cells, slots⟩ { g with stack := rest } (.invokestatic index) mk argsL.toArray X₁ hg hsize hdg hW (X₁.named hnamed) (hpre vm₁ X₁.warmed)
  exact ⟨v, vm₁, B, X₁.warmed, X', hpost, fun target h => hstep₁ _ fun acts => by rw [doInvoke_state]; exact hsteps.trans h⟩
theorem vx_runSW {y : MethodName} {bytes cc : ByteArray} {maxL nL mc ms n index : Nat} {ret : Option FieldType} {hh : List (Nat × Nat × Nat × Nat)} {ws : List Cond} {rm : Room} {Pc : Array Value → State → Prop} {Qc : Array Value → State → Outcome → State → Prop} {free : Addr → Prop} {Ts : List Cond} {own : String} {As rest : List Value} {g : JFrame}
    (S : CallFix p m c cc nL s args Ts own) (hM : Met l y ws rm Pc Qc mc ms free) (cw : vx_CSW R s args own index y bytes maxL ret hh ws rm mc ms n) (hp : PreS s H Pc As)
    (hg : g.method = m) (hn : As.length = n) (hsize : g.locals.size = nL) (hstack : g.stack = As.reverse ++ rest) (hW : 2 * g.monitorRoom + (rest.map fun v => v.category).sum ≤ 8) (hdg : decode cc g.pc = .ok (.invokestatic index, 3)) (hf : cells + mc ≤ R.cells ∧ slots + ms ≤ R.slots) :
    va_Run p l e R s m args below meth c H locs cells slots mc ms g rest (Qc As.toArray) (free) := by
  obtain ⟨⟨hrc, hrs, hfr, hlo, hws, hcw⟩, hcode, hini, hy, hlen, hl, hstt⟩ := cw
  have hK : Back l R p e below s args y 3 8 (PreOf R mc ms Pc) (PostOf Qc mc ms free) := va_backW (hh := hh) (bytes := bytes) (maxL := maxL) (ret := ret) hM hp.1 hrc hrs hfr hlo hws hcw (fun a' U hW => word_at hW (Or.inl (by first | rfl | simp [Cond.onTables, Cond.keeps, Cond.steady])) hini)
  obtain ⟨hx, hb, hml, ho, -⟩ := S
  intro T hT X
  obtain ⟨v, vm₁, ⟨U', l2, c2, s2⟩, hW₁, X', ⟨g', mk, t, L, e1, e2, hq, h1, hL, h2, h3⟩, st⟩ := vx_callSW X hx (hh := hh) (bytes := bytes) (maxL := maxL) (ret := ret) ho hl hstt hini hcode hy hK hg (hsize.trans hml.symm) (argsL := As) (rest := rest) (fun sig h => hn.trans (hlen sig h)) hstack hW (by rw [hb]; exact hdg)
    (fun vm₁ hW₁ => ⟨hf.1, hf.2, hp.2 (T.setVm vm₁) hT hW₁⟩)
  dsimp only [Pt.U, Pt.locs, Pt.cells, Pt.slots] at X' e1 e2 h1 h2 h3 st
  subst h1; subst h2; subst h3
  exact ⟨v, (T.setVm vm₁).calling g' mk As.toArray, t, U', L, hT, X', hL, e1, e2, hq, st⟩
/-- not caught here, past rows that name other classes: it goes on to the caller -/
theorem vx_outP {p : Program} {l : Launch} {e : Env} {R : Room} {s : State} {m : MethodId} {args : Array Value} {below : List Frame} {meth : Method} {c : Code} {H : Heap} {locs : List Loc} {cells slots : Nat} {free : Addr → Prop} {ls : Array Slot} {rest : List Value} {Qc : Array Value → State → Outcome → State → Prop} {XC : String → State → State → Prop}
    {pc : Nat} {own E : String} {ce : Cell} {q : Addr} {mc ms : Nat} (hown : s.vm.findClass own = some m.cls) (hlocks : meth.locks = false)
    (hpass : ∀ z ∈ c.exceptionTable.toList, covers z pc = false ∨ (z.catchType ≠ 0 ∧ ∃ nm : String, (Cond.classLink own z.catchType nm).before args s = true ∧ va_Nc E nm s)) (hcell : H[q]? = some ce) (hv : ce.vm = .none) (hcl : s.vm.findClass E = some ce.cls)
    (hx : ∀ t : State, t.heap = H → s.vm.Alike t.vm → XC E s t) (hf : ∀ z ∈ locs, free z.base) (hc : cells ≤ mc) (hs : slots ≤ ms) :
    vx_W p l e R s m args below meth c H locs cells slots (vx_MQ below Qc XC args s mc ms free) (F0 m pc ls rest) q := by
  intro T hT X
  have hpl : e.platform.magicAccessors = ({} : Platform).magicAccessors := by rw [X.admits.platform]
  obtain ⟨vm', hW', X', st⟩ := X.outThrough hlocks q (g := F0 m pc ls rest) rfl rfl rfl (cell := ce) (by rw [hT]; exact hcell) (by rw [hv]; rfl)
    (by obtain ⟨k9, h9, -⟩ := Vm.findClass_spec hcl; exact ⟨k9, h9⟩) (fun z hz => by
      rcases hpass z hz with h | ⟨hz0, nm, hl1, hn1⟩
      · exact Or.inl h
      · obtain ⟨c6, hc6, hcl6⟩ := Cond.classLink_spec hown hl1 e.platform hpl
        obtain ⟨a8, b8, h1, h2, h3⟩ := hn1
        cases Option.some.inj (h1.symm.trans hcl)
        cases Option.some.inj (h2.symm.trans hc6)
        exact Or.inr ⟨hz0, _, hcl6, h3⟩)
  obtain ⟨g₀, hfr⟩ := X'.frames_eq
  have hcell9 : ((T.setVm vm').setFrames (.throwing q :: below)).heap[q]? = some ce := by
    show T.heap[q]? = some ce
    rw [hT]; exact hcell
  have hend : Ended ((T.setVm vm').setFrames (.throwing q :: below)) below (.threw q) := State.frames_setFrames _ (State.cur_lt_of_frames hfr)
  refine ⟨(T.setVm vm').setFrames (.throwing q :: below), ?_, .threw q, X'.here.running, hend, Or.inr ⟨q, rfl, E, ce, locs, hx _ hT (X'.ends _).1.alike, hcell9, hv, hcl, (X'.ends _).1, (X'.ends _).2.mono hc hs, hf⟩⟩
  rw [X.pushThrowing_eq]
  exact st
/-- a thing of a world lies in the heap -/
theorem vx_lt {D : va_G} {cl : List vw_C} {ws : va_W} {H1 : Heap} (h : va_P D cl ws H1) {k : Nat} {q : Nat × va_E} (hk : ws[k]? = some q) : q.1 < H1.size := (h k q hk).lt
end VXS
/-! ===== END ===== -/
/-! ===== BEGIN methods with a table of their own: called by a name, returning or throwing ===== -/
section VXH
/-! vx_backW, vx_callVX, vx_callSX, vx_callVW, vx_runVW, vx_runVX, vx_runSX, vx_ofWH follow the same proofs as their sisters above (Free/Laws.lean, Shelf42/LK1.lean); vx_outP calls Shelf42/NT130.lean (outThrough). -/
section
variable {l : Launch} {R : Room} {p : Program} {e : Env} {below : List Frame} {s : State} {sargs : Array Value} {y : MethodName} {len W9 : Nat}
theorem vx_backW {ws : List Cond} {rm : Room} {Pc : Array Value → State → Prop} {Qc : Array Value → State → Outcome → State → Prop} {XC : String → State → State → Prop} {mc ms : Nat} {free : Addr → Prop} {bytes : ByteArray} {maxL : Nat} {ret : Option FieldType} {hh : List (Nat × Nat × Nat × Nat)}
    (hM : vx_Met l y ws rm Pc Qc XC mc ms free) (hblind : FrameBlind Pc) (hrc : rm.cells = mc) (hrs : rm.slots = ms)
    (hframes : rm.frames + 1 ≤ R.frames) (hlocals : W9 + (maxL + 11) + rm.locals ≤ R.locals)
    (hws : ∀ w ∈ ws, ∀ a' U, s.WarmedH U.vm → w.before a' U = true) (hcode : Cond.codeWith y bytes maxL ret hh ∈ ws) (hinit : ∀ a' U, s.WarmedH U.vm → (Cond.initialized y.cls).before a' U = true) :
    vx_Back l R p e below s sargs y len W9 (PreOf R mc ms Pc) (PostOf Qc mc ms free) (vx_Post XC mc ms free) := by
  intro m meth c A g ig mk a X hg hsize hdg hW hn hp
  have h1 : (headSpec ws rm).pre.before a A.U = true := atoms_intro fun w hw => hws w hw _ _ X.warmed
  have h2 : (Cond.codeWith y bytes maxL ret hh).before a A.U = true := hws _ hcode _ _ X.warmed
  have h3 : (Cond.initialized y.cls).before a A.U = true := hinit _ _ X.warmed
  have h4 : A.cells + (headSpec ws rm).room.cells ≤ R.cells := by rw [show (headSpec ws rm).room.cells = mc from hrc]; exact hp.1
  have h5 : A.slots + (headSpec ws rm).room.slots ≤ R.slots := by rw [show (headSpec ws rm).room.slots = ms from hrs]; exact hp.2.1
  have hPc : Pc a (A.U.calling g mk a) := hblind _ _ _ _ hp.2.2
  obtain ⟨U, Ls, c0, s0⟩ := A
  dsimp only [Pt.U, Pt.locs, Pt.cells, Pt.slots] at h1 h2 h3 h4 h5 X hn hPc ⊢
  obtain ⟨m9, methY, cY, hn9, hmY, hcY, -, hlY, -⟩ := Cond.codeWith_spec h2
  cases Option.some.inj (hn9.symm.trans hn)
  obtain ⟨kY, hkY, -⟩ := className_of_methodNamed hn
  have hinitY : kY.init = .initialized := Cond.initialized_spec (findClass_of_methodNamed hn) hkY h3
  have h : At U g.method c below := by rw [hg]; exact X.here
  have hlocals9 : W9 + (maxL + 11) + (headSpec ws rm).room.locals ≤ R.locals := hlocals
  have happ : (headSpec ws rm).appliesLoose y e.platform (U.calling g mk a) = true :=
    Spec.appliesLoose_calling (g := g) h hdg hn hkY hinitY
      (X.room_calling (g := g) (R' := (headSpec ws rm).room) hsize hmY hcY hframes (by rw [hlY]; omega) h4 h5) h1
  obtain ⟨mid, hmid⟩ := h.above
  have hfr : (U.setTop g).frames = (.java g :: mid) ++ below := by rw [State.frames_setTop' g h.top, hmid]; rfl
  obtain ⟨o, s₂, hsteps, -, hend, hq⟩ := Steps.callFree hM p X.admits X.cas X.clock (acts := []) hfr happ hPc trivial
  have hq' : vx_Q Qc XC mc ms free a (U.calling g mk a) o s₂ := hq
  rw [State.frames_setTop' g h.top] at hend
  obtain ⟨g₀, hg0⟩ := Option.isSome_iff_exists.mp h.top
  obtain ⟨r, hr⟩ := State.topJava?_eq_some.mp hg0
  have hr' : (({ U with heap := s₂.heap, slotsUsed := s₂.slotsUsed } : State).setVm s₂.vm).frames = .java g₀ :: r := hr
  rcases hq' with ⟨hqc, L, hfe, hL⟩ | ⟨q, rfl, E, ce, L, hx, hce, hcv, hcl, hW₂, hsm, hL⟩
  · obtain ⟨⟨v, rfl⟩, hW₂, e2, q2, q3, q4, q5, q6⟩ := id hfe
    have e3 : s₂ = ({ (U.calling g mk a).setFrames s₂.frames with heap := s₂.heap, slotsUsed := s₂.slotsUsed } : State).setVm s₂.vm := by
      have : s₂ = ({ s₂ with vm := (U.calling g mk a).vm } : State).setVm s₂.vm := rfl
      rw [e2] at this
      exact this
    obtain ⟨c₂, i₂, len₂, hc₂, hd₂, hf₂⟩ := hend
    have hW' : U.WarmedH s₂.vm := hW₂
    have hcc : c₂ = c := by
      have h1 : s₂.code? g.method = U.code? g.method := by
        rw [State.code?_eq, State.code?_eq, hW'.alike.method?]
      exact Option.some.inj (hc₂.symm.trans (h1.trans h.code))
    subst hcc
    have hlen : len₂ = len := by rw [hdg] at hd₂; cases hd₂; rfl
    subst hlen
    have hs₂ : s₂ = (({ U with heap := s₂.heap, slotsUsed := s₂.slotsUsed } : State).setVm s₂.vm).setTop { g with pc := g.pc + len₂, stack := v.toList ++ g.stack } := by
      refine e3.trans ?_
      rw [hf₂, State.calling_eq h.top, State.setFrames_setFrames, State.setTop_of_frames _ hr', hr]
      rfl
    have hsame : U.sameButNew ({ U with heap := s₂.heap, slotsUsed := s₂.slotsUsed } : State) L mc ms := by
      refine ⟨?_, q2, q3, q4, q5, q6⟩
      obtain ⟨t, ht, -⟩ := State.frames_cons hr
      show ({ U with heap := s₂.heap, slotsUsed := s₂.slotsUsed } : State) = { U.setFrames U.frames with heap := s₂.heap, slotsUsed := s₂.slotsUsed }
      rw [State.setFrames_self ht]
    subst hg
    refine Or.inl ⟨v, ⟨(({ U with heap := s₂.heap, slotsUsed := s₂.slotsUsed } : State).setVm s₂.vm), Ls ++ L, c0 + mc, s0 + ms⟩,
      ⟨X.admits, X.cas, X.clock, X.frames, X.room, X.hears, X.method, X.code, (X.here.setHeapUsed s₂.heap s₂.slotsUsed).setVm hW'.alike, X.tail, State.WarmedH.trans X.warmed hW', X.limits, X.bytes, X.same.trans (hsame.setVm s.vm)⟩,
      ⟨g, mk, s₂, L, rfl, rfl, hqc, rfl, hL, rfl, rfl⟩, ?_⟩
    show Steps p.tables e below _ ((({ U with heap := s₂.heap, slotsUsed := s₂.slotsUsed } : State).setVm s₂.vm).setTop { g with pc := g.pc + len₂, stack := v.toList ++ g.stack })
    rw [← hs₂]
    exact hsteps
  · obtain ⟨e2, q2, q3, q4, q5, q6⟩ := id hsm
    have e3 : s₂ = ({ (U.calling g mk a).setFrames s₂.frames with heap := s₂.heap, slotsUsed := s₂.slotsUsed } : State).setVm s₂.vm := by
      have : s₂ = ({ s₂ with vm := (U.calling g mk a).vm } : State).setVm s₂.vm := rfl
      rw [e2] at this
      exact this
    have hf₂ : s₂.frames = .throwing q :: .java g :: U.frames.tail := hend
    have hW' : U.WarmedH s₂.vm := hW₂
    have hs₂ : s₂ = ((({ U with heap := s₂.heap, slotsUsed := s₂.slotsUsed } : State).setVm s₂.vm).setTop g).pushFrame (.throwing q) := by
      refine e3.trans ?_
      rw [hf₂, State.calling_eq h.top, State.setFrames_setFrames, State.pushFrame, State.frames_setTop _ hr', State.setTop_of_frames _ hr', State.setFrames_setFrames, hr]
      rfl
    have hsame : U.sameButNew ({ U with heap := s₂.heap, slotsUsed := s₂.slotsUsed } : State) L mc ms := by
      refine ⟨?_, q2, q3, q4, q5, q6⟩
      obtain ⟨t, ht, -⟩ := State.frames_cons hr
      show ({ U with heap := s₂.heap, slotsUsed := s₂.slotsUsed } : State) = { U.setFrames U.frames with heap := s₂.heap, slotsUsed := s₂.slotsUsed }
      rw [State.setFrames_self ht]
    subst hg
    refine Or.inr ⟨q, ⟨(({ U with heap := s₂.heap, slotsUsed := s₂.slotsUsed } : State).setVm s₂.vm), Ls ++ L, c0 + mc, s0 + ms⟩,
      ⟨X.admits, X.cas, X.clock, X.frames, X.room, X.hears, X.method, X.code, (X.here.setHeapUsed s₂.heap s₂.slotsUsed).setVm hW'.alike, X.tail, State.WarmedH.trans X.warmed hW', X.limits, X.bytes, X.same.trans (hsame.setVm s.vm)⟩,
      ⟨g, mk, s₂, L, E, ce, rfl, rfl, hx, hce, hcv, hcl, rfl, hL, rfl, rfl⟩, ?_⟩
    show Steps p.tables e below _ (((({ U with heap := s₂.heap, slotsUsed := s₂.slotsUsed } : State).setVm s₂.vm).setTop g).pushFrame (.throwing q))
    rw [← hs₂]
    exact hsteps
end
variable {p : Program} {l : Launch} {e : Env} {R : Room} {s : State} {m : MethodId} {args : Array Value} {below : List Frame} {meth : Method} {c : Code} {T : State} {H : Heap} {locs : List Loc} {cells slots : Nat}
theorem vx_callVX (X : Stand p l e R s m args below meth c T locs cells slots) (hexec : p.tables.exec = Jvm.exec) {own C : String} {index : Nat} {y : MethodName} {bytes : ByteArray} {maxL : Nat} {ret : Option FieldType} {hh : List (Nat × Nat × Nat × Nat)}
    (hown : s.vm.findClass own = some m.cls) (hlink : (Cond.methodLink own index y).before args s = true) (hinst : (Cond.instanceMethod y).before args s = true) (hsel : (Cond.selects C y y).before args s = true)
    (hcode : (Cond.codeWith y bytes maxL ret hh).before args s = true) (hy : y.cls ≠ "java/lang/invoke/MethodHandle" ∧ y.cls ≠ "java/lang/invoke/VarHandle")
    {W9 : Nat} {Pre : Pt → Array Value → Prop} {Post : Pt → Array Value → Option Value → Pt → Prop} {PostX : Pt → Array Value → Addr → Pt → Prop} (hK : vx_Back l R p e below s args y 3 W9 Pre Post PostX)
    {b : Addr} {cellB : Cell} (hcell : T.heap[b]? = some cellB) (hobj : cellB.vm.isStatics = false) (hcls : s.vm.findClass C = some cellB.cls)
    {g : JFrame} (hg : g.method = m) (hsize : g.locals.size = c.maxLocals) {argsL rest : List Value} (hlen : ∀ sig, parseMethodDescriptor y.desc = some sig → argsL.length = sig.parameters.length)
    (hstack : g.stack = argsL.reverse ++ .ref b :: rest) (hW : 2 * g.monitorRoom + (rest.map fun v => v.category).sum ≤ W9) (hdg : decode c.code g.pc = .ok (.invokevirtual index, 3))
    (hpre : ∀ vm₁, s.WarmedH vm₁ → Pre ⟨T.setVm vm₁, locs, cells, slots⟩ (Value.ref b :: argsL).toArray) :
    (∃ (v : Option Value) (vm₁ : Vm) (B : Pt), s.WarmedH vm₁ ∧ Stand p l e R s m args below meth c B.U B.locs B.cells B.slots ∧ Post ⟨T.setVm vm₁, locs, cells, slots⟩ (Value.ref b :: argsL).toArray v B ∧
      ∀ target, Steps p.tables e below (B.U.setTop { g with pc := g.pc + 3, stack := v.toList ++ rest }) target → Steps p.tables e below (T.setTop g) target) ∨
    (∃ (q : Addr) (vm₁ : Vm) (B : Pt), s.WarmedH vm₁ ∧ Stand p l e R s m args below meth c B.U B.locs B.cells B.slots ∧ PostX ⟨T.setVm vm₁, locs, cells, slots⟩ (Value.ref b :: argsL).toArray q B ∧
      Steps p.tables e below (T.setTop g) ((B.U.setTop { g with stack := rest }).pushFrame (.throwing q))) := by
  obtain ⟨mk, methM, hnamed, hmethM, hstM, habM⟩ := Cond.instanceMethod_spec hinst
  obtain ⟨m8, methM', cM, hn8, hmethM', -, -, -, -, -, -, hsigM⟩ := Cond.codeWith_spec hcode
  cases Option.some.inj (hn8.symm.trans hnamed)
  cases hmethM.symm.trans hmethM'
  obtain ⟨c2, r2, m2, q1, q2, q3, q4, kP, hkP, hkPi⟩ := Cond.selects_spec hsel
  cases hcls.symm.trans q1
  cases (State.methodFound?_of_named hnamed hy).symm.trans q2
  cases hnamed.symm.trans q3
  have hselP : selectMethod e.platform s.vm cellB.cls mk = .method mk := by rw [Launch.admits_selectMethod X.admits]; exact q4
  obtain ⟨vm₁, X₁, hstep₁⟩ := X.invokevirtual hexec hown hlink hnamed hmethM hstM hkP hkPi hy (a := b) (cell := cellB) hcell
    (fun z h => by rw [h] at hobj; cases hobj) hselP hmethM habM hkP hkPi (g := g) hg (argsL := argsL) (rest := rest) (hlen _ hsigM) hstack hdg
  rcases hK m meth c ⟨T.setVm vm₁, locs, cells, slots⟩ { g with stack := rest } (.invokevirtual index) mk (Value.ref b :: argsL).toArray X₁ hg hsize hdg hW (X₁.named hnamed) (hpre vm₁ X₁.warmed) with ⟨v, B, X', hpost, hsteps⟩ | ⟨q, B, X', hpost, hsteps⟩
  · exact Or.inl ⟨v, vm₁, B, X₁.warmed, X', hpost, fun target h => hstep₁ _ fun acts => by rw [doInvoke_state]; exact hsteps.trans h⟩
  · exact Or.inr ⟨q, vm₁, B, X₁.warmed, X', hpost, hstep₁ _ fun acts => by rw [doInvoke_state]; exact hsteps⟩
theorem vx_callSX (X : Stand p l e R s m args below meth c T locs cells slots) (hexec : p.tables.exec = Jvm.exec) {own : String} {index : Nat} {y : MethodName} {bytes : ByteArray} {maxL : Nat} {ret : Option FieldType} {hh : List (Nat × Nat × Nat × Nat)}
    (hown : s.vm.findClass own = some m.cls) (hlink : (Cond.methodLink own index y).before args s = true) (hstat : (Cond.static y).before args s = true) (hinit : (Cond.initialized y.cls).before args s = true)
    (hcode : (Cond.codeWith y bytes maxL ret hh).before args s = true) (hy : y.cls ≠ "java/lang/invoke/MethodHandle" ∧ y.cls ≠ "java/lang/invoke/VarHandle")
    {W9 : Nat} {Pre : Pt → Array Value → Prop} {Post : Pt → Array Value → Option Value → Pt → Prop} {PostX : Pt → Array Value → Addr → Pt → Prop} (hK : vx_Back l R p e below s args y 3 W9 Pre Post PostX)
    {g : JFrame} (hg : g.method = m) (hsize : g.locals.size = c.maxLocals) {argsL rest : List Value} (hlen : ∀ sig, parseMethodDescriptor y.desc = some sig → argsL.length = sig.parameters.length)
    (hstack : g.stack = argsL.reverse ++ rest) (hW : 2 * g.monitorRoom + (rest.map fun v => v.category).sum ≤ W9) (hdg : decode c.code g.pc = .ok (.invokestatic index, 3))
    (hpre : ∀ vm₁, s.WarmedH vm₁ → Pre ⟨T.setVm vm₁, locs, cells, slots⟩ argsL.toArray) :
    (∃ (v : Option Value) (vm₁ : Vm) (B : Pt), s.WarmedH vm₁ ∧ Stand p l e R s m args below meth c B.U B.locs B.cells B.slots ∧ Post ⟨T.setVm vm₁, locs, cells, slots⟩ argsL.toArray v B ∧
      ∀ target, Steps p.tables e below (B.U.setTop { g with pc := g.pc + 3, stack := v.toList ++ rest }) target → Steps p.tables e below (T.setTop g) target) ∨
    (∃ (q : Addr) (vm₁ : Vm) (B : Pt), s.WarmedH vm₁ ∧ Stand p l e R s m args below meth c B.U B.locs B.cells B.slots ∧ PostX ⟨T.setVm vm₁, locs, cells, slots⟩ argsL.toArray q B ∧
      Steps p.tables e below (T.setTop g) ((B.U.setTop { g with stack := rest }).pushFrame (.throwing q))) := by
  obtain ⟨mk, methM, cM, hnamed, hmethM, -, -, -, -, -, -, hsigM⟩ := Cond.codeWith_spec hcode
  have hstatic : methM.isStatic = true := Cond.static_spec hnamed hmethM hstat
  obtain ⟨kP, hkP, -⟩ := className_of_methodNamed hnamed
  have hinitP : kP.init = .initialized := Cond.initialized_spec (findClass_of_methodNamed hnamed) hkP hinit
  obtain ⟨vm₁, X₁, hstep₁⟩ := X.invokestatic hexec hown hlink hnamed hmethM hstatic hkP hinitP hy (g := g) hg (argsL := argsL) (rest := rest) (hlen _ hsigM) hstack hdg
  rcases hK m meth c ⟨T.setVm vm₁, locs, cells, slots⟩ { g with stack := rest } (.invokestatic index) mk argsL.toArray X₁ hg hsize hdg hW (X₁.named hnamed) (hpre vm₁ X₁.warmed) with ⟨v, B, X', hpost, hsteps⟩ | ⟨q, B, X', hpost, hsteps⟩
  · exact Or.inl ⟨v, vm₁, B, X₁.warmed, X', hpost, fun target h => hstep₁ _ fun acts => by rw [doInvoke_state]; exact hsteps.trans h⟩
  · exact Or.inr ⟨q, vm₁, B, X₁.warmed, X', hpost, hstep₁ _ fun acts => by rw [doInvoke_state]; exact hsteps⟩
theorem vx_callVW (X : Stand p l e R s m args below meth c T locs cells slots) (hexec : p.tables.exec = Jvm.exec) {own C : String} {index : Nat} {y : MethodName} {bytes : ByteArray} {maxL : Nat} {ret : Option FieldType} {hh : List (Nat × Nat × Nat × Nat)}
    (hown : s.vm.findClass own = some m.cls) (hlink : (Cond.methodLink own index y).before args s = true) (hinst : (Cond.instanceMethod y).before args s = true) (hsel : (Cond.selects C y y).before args s = true)
    (hcode : (Cond.codeWith y bytes maxL ret hh).before args s = true) (hy : y.cls ≠ "java/lang/invoke/MethodHandle" ∧ y.cls ≠ "java/lang/invoke/VarHandle")
    {W9 : Nat} {Pre : Pt → Array Value → Prop} {Post : Pt → Array Value → Option Value → Pt → Prop} (hK : Back l R p e below s args y 3 W9 Pre Post)
    {b : Addr} {cellB : Cell} (hcell : T.heap[b]? = some cellB) (hobj : cellB.vm.isStatics = false) (hcls : s.vm.findClass C = some cellB.cls)
    {g : JFrame} (hg : g.method = m) (hsize : g.locals.size = c.maxLocals) {argsL rest : List Value} (hlen : ∀ sig, parseMethodDescriptor y.desc = some sig → argsL.length = sig.parameters.length)
    (hstack : g.stack = argsL.reverse ++ .ref b :: rest) (hW : 2 * g.monitorRoom + (rest.map fun v => v.category).sum ≤ W9) (hdg : decode c.code g.pc = .ok (.invokevirtual index, 3))
    (hpre : ∀ vm₁, s.WarmedH vm₁ → Pre ⟨T.setVm vm₁, locs, cells, slots⟩ (Value.ref b :: argsL).toArray) :
    ∃ (v : Option Value) (vm₁ : Vm) (B : Pt), s.WarmedH vm₁ ∧ Stand p l e R s m args below meth c B.U B.locs B.cells B.slots ∧ Post ⟨T.setVm vm₁, locs, cells, slots⟩ (Value.ref b :: argsL).toArray v B ∧
      ∀ target, Steps p.tables e below (B.U.setTop { g with pc := g.pc + 3, stack := v.toList ++ rest }) target → Steps p.tables e below (T.setTop g) target := by
  obtain ⟨mk, methM, hnamed, hmethM, hstM, habM⟩ := Cond.instanceMethod_spec hinst
  obtain ⟨m8, methM', cM, hn8, hmethM', -, -, -, -, -, -, hsigM⟩ := Cond.codeWith_spec hcode
  cases Option.some.inj (hn8.symm.trans hnamed)
  cases hmethM.symm.trans hmethM'
  obtain ⟨c2, r2, m2, q1, q2, q3, q4, kP, hkP, hkPi⟩ := Cond.selects_spec hsel
  cases hcls.symm.trans q1
  cases (State.methodFound?_of_named hnamed hy).symm.trans q2
  cases hnamed.symm.trans q3
  have hselP : selectMethod e.platform s.vm cellB.cls mk = .method mk := by rw [Launch.admits_selectMethod X.admits]; exact q4
  obtain ⟨vm₁, X₁, hstep₁⟩ := X.invokevirtual hexec hown hlink hnamed hmethM hstM hkP hkPi hy (a := b) (cell := cellB) hcell
    (fun z h => by rw [h] at hobj; cases hobj) hselP hmethM habM hkP hkPi (g := g) hg (argsL := argsL) (rest := rest) (hlen _ hsigM) hstack hdg
  obtain ⟨v, B, X', hpost, hsteps⟩ := hK m meth c ⟨T.setVm vm₁, locs, cells, slots⟩ { g with stack := rest } (.invokevirtual index) mk (Value.ref b :: argsL).toArray X₁ hg hsize hdg hW (X₁.named hnamed) (hpre vm₁ X₁.warmed)
  exact ⟨v, vm₁, B, X₁.warmed, X', hpost, fun target h => hstep₁ _ fun acts => by rw [doInvoke_state]; exact hsteps.trans h⟩
abbrev vx_CVW (R : Room) (s : State) (args : Array Value) (own C : String) (index : Nat) (y : MethodName) (bytes : ByteArray) (maxL : Nat) (ret : Option FieldType) (hh : List (Nat × Nat × Nat × Nat)) (ws : List Cond) (rm : Room) (mc ms n : Nat) : Prop :=
  (rm.cells = mc ∧ rm.slots = ms ∧ rm.frames + 1 ≤ R.frames ∧ 8 + (maxL + 11) + rm.locals ≤ R.locals ∧ (∀ w ∈ ws, ∀ (a' : Array Value) (U : State), s.WarmedH U.vm → w.before a' U = true) ∧ Cond.codeWith y bytes maxL ret hh ∈ ws) ∧
  (Cond.codeWith y bytes maxL ret hh).before args s = true ∧ (Cond.initialized y.cls).before args s = true ∧ (y.cls ≠ "java/lang/invoke/MethodHandle" ∧ y.cls ≠ "java/lang/invoke/VarHandle") ∧
  (∀ sig, parseMethodDescriptor y.desc = some sig → n = sig.parameters.length) ∧ (Cond.methodLink own index y).before args s = true ∧ (Cond.instanceMethod y).before args s = true ∧ (Cond.selects C y y).before args s = true
theorem vx_cwVW {own C : String} {index maxL mc ms : Nat} {y : MethodName} {bytes : ByteArray} {ret : Option FieldType} {hh : List (Nat × Nat × Nat × Nat)} {Ts ws ws' : List Cond} {rm : Room} (n : Nat) (ht : ∀ w ∈ Ts, w.before args s = true) (hT : GoodIn Ts (wsV own index C y ws)) (hw : ws = Cond.codeWith y bytes maxL ret hh :: ws') (hrc : rm.cells = mc) (hrs : rm.slots = ms)
    (hd : y.cls = C ∧ y.cls ≠ "java/lang/invoke/MethodHandle" ∧ y.cls ≠ "java/lang/invoke/VarHandle" ∧ (parseMethodDescriptor y.desc).map (fun d => d.parameters.length) = some n) (hR : rm.frames + 1 ≤ R.frames ∧ 8 + (maxL + 11) + rm.locals ≤ R.locals) :
    vx_CVW R s args own C index y bytes maxL ret hh ws rm mc ms n := by
  obtain ⟨hC, hd⟩ := hd
  subst hC
  have ok : ∀ w ∈ wsV own index y.cls y ws, w.before args s = true := fun w h => ht w (hT w h).1
  have hG : GoodIn Ts ws := fun w h => hT w (by unfold wsV; exact List.mem_append_right _ h)
  have hc : Cond.codeWith y bytes maxL ret hh ∈ ws := by rw [hw]; exact List.mem_cons_self
  refine ⟨⟨hrc, hrs, hR.1, hR.2, pay_in ht hG, hc⟩, ht _ (hG _ hc).1, ok _ (by simp [wsV]), ⟨hd.1, hd.2.1⟩, fun sig h => ?_, ok _ (by simp [wsV]), ok _ (by simp [wsV]), ok _ (by simp [wsV])⟩
  have h2 := hd.2.2
  rw [h] at h2
  exact (Option.some.inj h2).symm
theorem vx_runVW {y : MethodName} {bytes cc : ByteArray} {maxL nL mc ms n index : Nat} {ret : Option FieldType} {hh : List (Nat × Nat × Nat × Nat)} {ws : List Cond} {rm : Room} {Pc : Array Value → State → Prop} {Qc : Array Value → State → Outcome → State → Prop} {free : Addr → Prop} {Ts : List Cond} {own C : String} {b : Addr} {As rest : List Value} {g : JFrame}
    (S : CallFix p m c cc nL s args Ts own) (hM : Met l y ws rm Pc Qc mc ms free) (cw : vx_CVW R s args own C index y bytes maxL ret hh ws rm mc ms n) (hp : PreV s H C b Pc As)
    (hg : g.method = m) (hn : As.length = n) (hsize : g.locals.size = nL) (hstack : g.stack = As.reverse ++ .ref b :: rest) (hW : 2 * g.monitorRoom + (rest.map fun v => v.category).sum ≤ 8) (hdg : decode cc g.pc = .ok (.invokevirtual index, 3)) (hf : cells + mc ≤ R.cells ∧ slots + ms ≤ R.slots) :
    va_Run p l e R s m args below meth c H locs cells slots mc ms g rest (Qc (Value.ref b :: As).toArray) free := by
  obtain ⟨⟨hrc, hrs, hfr, hlo, hws, hcw⟩, hcode, hini, hy, hlen, hl, hin, hse⟩ := cw
  have hK : Back l R p e below s args y 3 8 (PreOf R mc ms Pc) (PostOf Qc mc ms free) := va_backW (hh := hh) (bytes := bytes) (maxL := maxL) (ret := ret) hM hp.1 hrc hrs hfr hlo hws hcw (fun a' U hW => word_at hW (Or.inl (by first | rfl | simp [Cond.onTables, Cond.keeps, Cond.steady])) hini)
  obtain ⟨hx, hb, hml, ho, -⟩ := S
  obtain ⟨-, ⟨cellB, hcB, hoB, hclB⟩, hPc⟩ := hp
  intro T hT X
  obtain ⟨v, vm₁, ⟨U', l2, c2, s2⟩, hW₁, X', ⟨g', mk, t, L, e1, e2, hq, h1, hL, h2, h3⟩, st⟩ := vx_callVW X hx (C := C) (hh := hh) (bytes := bytes) (maxL := maxL) (ret := ret) ho hl hin hse hcode hy hK (by rw [hT]; exact hcB) hoB hclB hg (hsize.trans hml.symm) (argsL := As) (rest := rest) (fun sig h => hn.trans (hlen sig h)) hstack hW (by rw [hb]; exact hdg)
    (fun vm₁ hW₁ => ⟨hf.1, hf.2, hPc (T.setVm vm₁) hT hW₁⟩)
  dsimp only [Pt.U, Pt.locs, Pt.cells, Pt.slots] at X' e1 e2 h1 h2 h3 st
  subst h1; subst h2; subst h3
  exact ⟨v, (T.setVm vm₁).calling g' mk (Value.ref b :: As).toArray, t, U', L, hT, X', hL, e1, e2, hq, st⟩
section
variable {y : MethodName} {bytes cc : ByteArray} {maxL nL mc ms n index : Nat} {ret : Option FieldType} {ws : List Cond} {rm : Room} {Pc : Array Value → State → Prop} {Qc : Array Value → State → Outcome → State → Prop} {XC : String → State → State → Prop} {free : Addr → Prop} {Ts : List Cond} {own C : String} {b : Addr} {As rest : List Value} {g : JFrame}
theorem vx_runVX {hh : List (Nat × Nat × Nat × Nat)} (S : CallFix p m c cc nL s args Ts own) (hM : vx_Met l y ws rm Pc Qc XC mc ms free) (cw : vx_CVW R s args own C index y bytes maxL ret hh ws rm mc ms n) (hp : PreV s H C b Pc As)
    (hg : g.method = m) (hn : As.length = n) (hsize : g.locals.size = nL) (hstack : g.stack = As.reverse ++ .ref b :: rest) (hW : 2 * g.monitorRoom + (rest.map fun v => v.category).sum ≤ 8) (hdg : decode cc g.pc = .ok (.invokevirtual index, 3)) (hf : cells + mc ≤ R.cells ∧ slots + ms ≤ R.slots) :
    vx_Run p l e R s m args below meth c H locs cells slots mc ms g rest (Qc (Value.ref b :: As).toArray) XC free := by
  obtain ⟨⟨hrc, hrs, hfr, hlo, hws, hcw⟩, hcode, hini, hy, hlen, hl, hin, hse⟩ := cw
  have hK : vx_Back l R p e below s args y 3 8 (PreOf R mc ms Pc) (PostOf Qc mc ms free) (vx_Post XC mc ms free) := vx_backW (hh := hh) (bytes := bytes) (maxL := maxL) (ret := ret) hM hp.1 hrc hrs hfr hlo hws hcw (fun a' U hW => word_at hW (Or.inl (by first | rfl | simp [Cond.onTables, Cond.keeps, Cond.steady])) hini)
  obtain ⟨hx, hb, hml, ho, -⟩ := S
  obtain ⟨-, ⟨cellB, hcB, hoB, hclB⟩, hPc⟩ := hp
  intro T hT X
  rcases vx_callVX X hx (C := C) (hh := hh) (bytes := bytes) (maxL := maxL) (ret := ret) ho hl hin hse hcode hy hK (by rw [hT]; exact hcB) hoB hclB hg (hsize.trans hml.symm) (argsL := As) (rest := rest) (fun sig h => hn.trans (hlen sig h)) hstack hW (by rw [hb]; exact hdg)
    (fun vm₁ hW₁ => ⟨hf.1, hf.2, hPc (T.setVm vm₁) hT hW₁⟩) with ⟨v, vm₁, ⟨U', l2, c2, s2⟩, hW₁, X', ⟨g', mk, t, L, e1, e2, hq, h1, hL, h2, h3⟩, st⟩ | ⟨q, vm₁, ⟨U', l2, c2, s2⟩, hW₁, X', ⟨g', mk, t, L, E, ce, e1, e2, hq, hce, hcv, hcl, h1, hL, h2, h3⟩, st⟩
  · dsimp only [Pt.U, Pt.locs, Pt.cells, Pt.slots] at X' e1 e2 h1 h2 h3 st
    subst h1; subst h2; subst h3
    exact Or.inl ⟨v, (T.setVm vm₁).calling g' mk (Value.ref b :: As).toArray, t, U', L, hT, X', hL, e1, e2, hq, st⟩
  · dsimp only [Pt.U, Pt.locs, Pt.cells, Pt.slots] at X' e1 e2 h1 h2 h3 st hcl
    subst h1; subst h2; subst h3
    exact Or.inr ⟨q, (T.setVm vm₁).calling g' mk (Value.ref b :: As).toArray, t, U', L, E, ce, hT, X', hL, e1, e2, hq, hce, hcv, vx_cls hW₁ hcl, st⟩
theorem vx_runSX {hh : List (Nat × Nat × Nat × Nat)} (S : CallFix p m c cc nL s args Ts own) (hM : vx_Met l y ws rm Pc Qc XC mc ms free) (cw : vx_CSW R s args own index y bytes maxL ret hh ws rm mc ms n) (hp : PreS s H Pc As)
    (hg : g.method = m) (hn : As.length = n) (hsize : g.locals.size = nL) (hstack : g.stack = As.reverse ++ rest) (hW : 2 * g.monitorRoom + (rest.map fun v => v.category).sum ≤ 8) (hdg : decode cc g.pc = .ok (.invokestatic index, 3)) (hf : cells + mc ≤ R.cells ∧ slots + ms ≤ R.slots) :
    vx_Run p l e R s m args below meth c H locs cells slots mc ms g rest (Qc As.toArray) XC free := by
  obtain ⟨⟨hrc, hrs, hfr, hlo, hws, hcw⟩, hcode, hini, hy, hlen, hl, hstt⟩ := cw
  have hK : vx_Back l R p e below s args y 3 8 (PreOf R mc ms Pc) (PostOf Qc mc ms free) (vx_Post XC mc ms free) := vx_backW (hh := hh) (bytes := bytes) (maxL := maxL) (ret := ret) hM hp.1 hrc hrs hfr hlo hws hcw (fun a' U hW => word_at hW (Or.inl (by first | rfl | simp [Cond.onTables, Cond.keeps, Cond.steady])) hini)
  obtain ⟨hx, hb, hml, ho, -⟩ := S
  intro T hT X
  rcases vx_callSX X hx (hh := hh) (bytes := bytes) (maxL := maxL) (ret := ret) ho hl hstt hini hcode hy hK hg (hsize.trans hml.symm) (argsL := As) (rest := rest) (fun sig h => hn.trans (hlen sig h)) hstack hW (by rw [hb]; exact hdg)
    (fun vm₁ hW₁ => ⟨hf.1, hf.2, hp.2 (T.setVm vm₁) hT hW₁⟩) with ⟨v, vm₁, ⟨U', l2, c2, s2⟩, hW₁, X', ⟨g', mk, t, L, e1, e2, hq, h1, hL, h2, h3⟩, st⟩ | ⟨q, vm₁, ⟨U', l2, c2, s2⟩, hW₁, X', ⟨g', mk, t, L, E, ce, e1, e2, hq, hce, hcv, hcl, h1, hL, h2, h3⟩, st⟩
  · dsimp only [Pt.U, Pt.locs, Pt.cells, Pt.slots] at X' e1 e2 h1 h2 h3 st
    subst h1; subst h2; subst h3
    exact Or.inl ⟨v, (T.setVm vm₁).calling g' mk As.toArray, t, U', L, hT, X', hL, e1, e2, hq, st⟩
  · dsimp only [Pt.U, Pt.locs, Pt.cells, Pt.slots] at X' e1 e2 h1 h2 h3 st hcl
    subst h1; subst h2; subst h3
    exact Or.inr ⟨q, (T.setVm vm₁).calling g' mk As.toArray, t, U', L, E, ce, hT, X', hL, e1, e2, hq, hce, hcv, vx_cls hW₁ hcl, st⟩
end
end VXH
theorem vx_ofWH {l : Launch} {y : MethodName} {ws ws' : List Cond} {rm : Room} {Pc : Array Value → State → Prop} {Qc : Array Value → State → Outcome → State → Prop} {XC : String → State → State → Prop} {mc ms : Nat} {free : Addr → Prop} {cc : ByteArray} {maxL : Nat} {ret : Option FieldType} {hh : List (Nat × Nat × Nat × Nat)}
    (hy : plainName y.cls = true) (hw : ws = Cond.codeWith y cc maxL ret hh :: ws')
    (body : ∀ p e s m args below meth c s₁, BodyLoose p l y (headSpec ws rm) cc maxL ret e s m args below meth c s₁ → c.maxLocals = maxL → Pc args s →
      W p l e (headSpec ws rm).room s m args below meth c s.heap [] 0 0 (vx_MQ below Qc XC args s mc ms free) (entryFrame m args maxL)) : vx_Met l y ws rm Pc Qc XC mc ms free := by
  refine MetFree.of_bodyS (code := cc) (maxLocals := maxL) (ret := ret) hy ?_ ?_
  · intro args s m h hn
    obtain ⟨m9, meth, c, hn9, h1, h2, h3, h4, -, h5, h6, -⟩ := Cond.codeWith_spec (atoms_spec (ws := ws) h _ (by rw [hw]; exact List.mem_cons_self))
    cases hn.symm.trans hn9
    exact ⟨meth, c, h1, h2, h3, h4, h5, h6⟩
  · intro p e s m args below meth c s₁ B hml hP _
    have hh0 : s₁.heap = s.heap := by rw [B.state]; rfl
    obtain ⟨t, a1, o, b1, b2, b3⟩ := body p e s m args below meth c s₁ B hml hP s₁ hh0 (Stand.of_body B)
    exact ⟨t, o, a1, b1, b2, b3⟩
/-! ===== END ===== -/
/-! ===== BEGIN what the machine throws by itself, no traces kept ===== -/
section VXM
set_option maxHeartbeats 1000000 in
/-- the machine throws cls with the message text, no traces kept: from its note over the frame g to 'throwing' over the same frame (follows the proofs of Stand.vmThrowsMessage, Shelf/KitTracedVmS.lean, and Stand.throwsMessageColdBareV, StandMessageColdV.lean, without the step out of the frame) -/
theorem vx_vmAt {p : Program} {l : Launch} {e : Env} {R : Room} {s : State} {m₀ : MethodId} {args : Array Value} {below : List Frame} {meth : Method} {c : Code} {W : State} {locs : List Loc} {cells slots : Nat}
    (X : Stand p l e R s m₀ args below meth c W locs cells slots) (hexec : p.tables.exec = Jvm.exec) (htr : e.platform.stackTraces = false) {cls : String} {names : List String} {text : String}
    (hcls : Bundle.fit cls = true) (hnames : ∀ n ∈ names, Bundle.fit n = true) (hsoe : (cls == "java/lang/StackOverflowError") = false) (hoom : (cls == "java/lang/OutOfMemoryError") = false)
    (h : ∀ a ∈ Bundle.messageArmAtoms cls names, a.before args s = true)
    (hlocs : ∀ x ∈ locs, ∀ cell, s.heap[x.base]? = some cell → cell.vm.isStatics = false)
    (htext : (text == notModelled) = false) (hlimit : ¬ (stringBytes (stringToUtf16 text)).size > e.platform.arrayLengthLimit) (hheap : ¬ (stringBytes (stringToUtf16 text)).size * componentBytes .byte > e.platform.maxHeapBytes)
    {g : JFrame} (hg : g.method = m₀) (hsize : g.locals.size = c.maxLocals)
    (hRframes : names.length + 4 < R.frames) (hRlocals : 2 * g.monitorRoom + (g.stack.map fun v => v.category).sum + 10240 ≤ R.locals) (hshort : 13 * names.length + 55 ≤ 10240)
    (hRcells : cells + 3 ≤ R.cells) (hRslots : slots + ((stringBytes (stringToUtf16 text)).size + 4 + 6) ≤ R.slots) (hlocks : meth.locks = false) :
    ∃ (S : State) (q : Addr) (ce : Cell), (∀ target, Steps p.tables e below ((S.setTop g).pushFrame (.throwing q)) target → Steps p.tables e below ((W.setTop g).pushFrame (.throwNew cls (some text) none)) target) ∧
      Stand p l e R s m₀ args below meth c S locs (cells + 3) (slots + ((stringBytes (stringToUtf16 text)).size + 4 + 6)) ∧ S.heap[q]? = some ce ∧ s.vm.findClass cls = some ce.cls ∧ ce.vm = .none := by
  have howns : e.platform.frameOwnsMonitors = true := by rw [X.admits.platform]
  have hfin : e.platform.finalization = false := by rw [X.admits.platform]
  have hpl : e.platform.magicAccessors = ({} : Platform).magicAccessors := by rw [X.admits.platform]
  have a : ∀ x, x ∈ Bundle.messageArmAtoms cls names → x.holds args s none s [] = true := fun x hx => h x hx
  obtain ⟨T, Z0, L, -, Y⟩ := ThrowableC.of_atoms (args := args) howns hfin hpl (fun x hx => h x (by simp [Bundle.messageArmAtoms, hx]))
  obtain ⟨Z, M, LZ, LM, hnZ⟩ := Init0T.ofS_atoms (args := args) hpl L Y (fun x hx => h x (by simp [Bundle.messageArmAtoms, hx]))
  obtain ⟨P1, Ps, hlen, L1, hL, hP1m, hlink1, hlink⟩ := Bundle.chainS (args := args) hpl hnZ names cls hcls hnames (fun x hx => h x (by simp [Bundle.messageArmAtoms, hx]))
  obtain ⟨Zs, LZs, hn4, hfitv, hfitc⟩ := StringT.of_atoms (args := args) (fun x hx => h x (by simp [Bundle.messageArmAtoms, hx]))
  have hfound : s.vm.findClass cls = some P1.m.cls := findClass_of_methodNamed hP1m
  obtain ⟨c1, kX, hc1, hk, hord, -, -, hn6⟩ := Cond.instantiable_spec (a (.instantiable cls 6) (by simp [Bundle.messageArmAtoms]))
  cases Option.some.inj (hc1.symm.trans hfound)
  have hinit := Cond.initialized_spec hfound hk (a (.initialized cls) (by simp [Bundle.messageArmAtoms]))
  have hctor : kX.findMethod "<init>" "(Ljava/lang/String;)V" = some P1.m.idx := findMethod_of_methodNamed hP1m hk
  have hsel0 : selectMethod e.platform s.vm P1.m.cls T.fill0 = .method T.fill0 := by
    obtain ⟨c2, r2, m2, q1, q2, q3, q4, -⟩ := Cond.selects_spec (a (.selects cls Bundle.tFill0 Bundle.tFill0) (by simp [Bundle.messageArmAtoms]))
    cases Option.some.inj (q1.symm.trans hfound)
    cases Option.some.inj (q2.symm.trans (State.methodFound?_of_named Y.fill0 (by decide)))
    cases Option.some.inj (q3.symm.trans Y.fill0)
    rw [Launch.admits_selectMethod X.admits]; exact q4
  have hselF : selectMethod e.platform s.vm P1.m.cls T.fill = .method T.fill := by
    obtain ⟨c2, r2, m2, q1, q2, q3, q4, -⟩ := Cond.selects_spec (a (.selects cls Bundle.tFill Bundle.tFill) (by simp [Bundle.messageArmAtoms]))
    cases Option.some.inj (q1.symm.trans hfound)
    cases Option.some.inj (q2.symm.trans (State.methodFound?_of_named Y.fill (by decide)))
    cases Option.some.inj (q3.symm.trans Y.fill)
    rw [Launch.admits_selectMethod X.admits]; exact q4
  obtain ⟨cellS0, hcS0, hiss⟩ := Y.statics
  obtain ⟨u0, hu0⟩ := Cond.staticRefV Y.unassigned L.unassignedStatic L.statics hcS0 hiss (a (.isRef (.static Bundle.tN "UNASSIGNED_STACK" Bundle.steD)) (by simp [Bundle.messageArmAtoms]))
  obtain ⟨sen, hsen⟩ := Cond.staticRefV Y.sentinel L.sentinelStatic L.statics hcS0 hiss (a (.isRef (.static Bundle.tN "SUPPRESSED_SENTINEL" Bundle.listD)) (by simp [Bundle.messageArmAtoms]))
  obtain ⟨ci198, i198, fB, hk198, hg198, ha198, hsB, -, hnB, htB, hffB⟩ := Cond.ownField (t := .object "java/lang/Object") Y.found L.cls (by decide +kernel) (a (.fieldLink Bundle.tN 198 Bundle.tN "backtrace" "Ljava/lang/Object;") (by simp [Bundle.messageArmAtoms])) (a (.lays Bundle.tN Bundle.tN "backtrace" "Ljava/lang/Object;") (by simp [Bundle.messageArmAtoms])) e.platform hpl
  obtain ⟨cellS, hcS', heS, -, hkeep⟩ := X.same.2.2.2.2.2 T.aS cellS0 hcS0
  have hcellS : W.heap[T.aS]? = some cellS := hcS'
  have hout' : ∀ i, (⟨T.aS, i⟩ : Loc) ∉ locs := fun i hmem => by
    have := hlocs _ hmem cellS0 hcS0
    rw [hiss] at this; cases this
  have hknownS : cellS.vm ≠ .unknown := by
    rw [heS]; intro hu
    rw [show cellS0.vm = .unknown from hu] at hiss
    cases hiss
  have hvU : cellS.slots[T.fUnassigned.slot]? = some u0.v := by rw [hkeep _ (hout' _)]; exact hu0
  have hvSen : cellS.slots[T.fSentinel.slot]? = some sen.v := by rw [hkeep _ (hout' _)]; exact hsen
  obtain ⟨iM, hffM⟩ := Y.msg
  obtain ⟨tyC, dC, hdC, hdnC⟩ := Cond.laysAt hfound hk Y.cause (a (.lays cls Bundle.tN "cause" "Ljava/lang/Throwable;") (by simp [Bundle.messageArmAtoms]))
  obtain ⟨tyS, dS, hdS, hdnS⟩ := Cond.laysAt hfound hk Y.stack (a (.lays cls Bundle.tN "stackTrace" Bundle.steD) (by simp [Bundle.messageArmAtoms]))
  obtain ⟨tyP, dP, hdP, hdnP⟩ := Cond.laysAt hfound hk Y.supp (a (.lays cls Bundle.tN "suppressedExceptions" Bundle.listD) (by simp [Bundle.messageArmAtoms]))
  obtain ⟨tyM, dM, hdM, hdnM⟩ := Cond.laysAt hfound hk hffM (a (.lays cls Bundle.tN "detailMessage" "Ljava/lang/String;") (by simp [Bundle.messageArmAtoms]))
  obtain ⟨tyB, dB, hdB, hdnB⟩ := Cond.laysAt hfound hk hffB (a (.lays cls Bundle.tN "backtrace" "Ljava/lang/Object;") (by simp [Bundle.messageArmAtoms]))
  have bC := Cond.laysApart hdB hdC hdnB hdnC (by rw [hnB, Y.causeName]; decide)
  have bS := Cond.laysApart hdB hdS hdnB hdnS (by rw [hnB, Y.stackName]; decide)
  have bP := Cond.laysApart hdB hdP hdnB hdnP (by rw [hnB, Y.suppName]; decide)
  have hbk : ((preparedCellV T.toThrowableT (freshCell P1.m.cls kX) (W.heap.size + 2) u0 sen).withEntry W.cur).slots[fB.slot]? = some .null := by
    have := fresh_default (c := P1.m.cls) tyB
    rw [htB] at this
    simpa [preparedCellV, Cell.setSlot, Cell.withEntry, Array.getElem?_setIfInBounds, bC, bS, bP, bC.symm, bS.symm, bP.symm, defaultValue] using this
  have tkC := Takes.of_laid (v := .ref (W.heap.size + 2)) hk hord tyC (by rw [Y.causeType]; rfl)
  have tkS := Takes.of_laid (v := u0.v) hk hord tyS (by rw [Y.stackType]; exact fits_refV_array _ u0)
  have tkP := Takes.of_laid (v := sen.v) hk hord tyP (by rw [Y.suppType]; exact fits_refV_object _ sen)
  have tkM := Takes.of_laid (v := .ref (W.heap.size + 1)) hk hord tyM (by rw [Y.msgType]; rfl)
  have hskip : SkipFacts T e.platform s (fun u => u) u0 ((preparedCellV T.toThrowableT (freshCell P1.m.cls kX) (W.heap.size + 2) u0 sen).withEntry W.cur) := ⟨{ ci198 := ci198, i198 := i198, fBack := fB }, ⟨hk198, hg198, ha198, hsB⟩, hbk, fun _ _ => rfl⟩
  have h0 : At W g.method c below := by rw [hg]; exact X.here
  obtain ⟨hbeyond, hfreeW⟩ := X.vmMayThrow hsize (.throwNew cls (some text) none) (fun f hf => by cases hf) rfl hRlocals
  have hfr' : W.frames.length + Ps.length + 4 < (e.platform.stackLimits W.me).1 := by have := X.framesAbove hRframes; omega
  have hwd' : (stackUse (.java g :: W.frames.tail)).2 + 13 * Ps.length + 55 ≤ (e.platform.stackLimits W.me).2 := by have := X.stackAbove hsize (K := 13 * Ps.length + 55) (by omega); omega
  have hslots : W.slotsUsed + (stringBytes (stringToUtf16 text)).size + Zs.kS.instanceTypes.size + kX.instanceTypes.size ≤ e.platform.maxSlots := by
    have := X.slotsAbove hRslots
    rw [hn4, hn6]
    omega
  obtain ⟨vm', hW', st⟩ := Steps.vmThrowsMessageColdByV p (s₀ := s) (S := W) (g := g) h0 hexec T L Z LZ M LM X.warmed (t := W.cur) rfl Zs LZs P1 L1 Ps hL hlink1 hlink hsoe hoom hfound hk hinit hord hctor
    (Launch.admits_hotImplicitExceptions X.admits) hbeyond hfreeW htext hlimit hheap (X.cellsAbove hRcells) hslots (hfitv _) (hfitc _)
    (Nn := fun u => u) heapOnly_id (fun _ _ => rfl) (fun _ => rfl) (fun u x y => setCell_twice _ _ _ _) (fun _ => Nat.le_refl _) (cN := ((preparedCellV T.toThrowableT (freshCell P1.m.cls kX) (W.heap.size + 2) u0 sen).withEntry W.cur))
    hsel0 hcellS hknownS hvU tkS (fun _ hu => hu) (fun _ hu => hu) rfl rfl rfl (by simp [preparedCellV, Cell.setSlot, Cell.withEntry]) hskip (fun _ _ hA hW _ hroom _ hrest => L.nativeOff p htr hA hW hroom hrest) hselF hvSen tkC tkP tkM Y.objLocals rfl hfr' hwd'
  rw [plainBareV_eq T.toThrowableT (W.heap.size + 2) u0 sen (.ref (W.heap.size + 1)) W.cur rfl rfl] at st
  obtain ⟨-, -, w3, w4, -, -, -⟩ := withThrown_facts e.platform W Zs text P1.m.cls kX
  have X3 := ((X.pushed (bytesOf Zs.cB (stringToUtf16 text))).pushed (stringAt Zs.cS Zs.kS Zs.fv Zs.fc (stringToUtf16 text) W.heap.size)).pushed (freshCell P1.m.cls kX)
  rw [← withString_eq] at X3
  have X4 := X3.noted hW'
  have ha : (W.heap.size + 2) < ((withThrown W Zs text P1.m.cls kX).setVm vm').heap.size := by show _ < (withThrown W Zs text P1.m.cls kX).heap.size; rw [w3]; omega
  have hcell : ((withThrown W Zs text P1.m.cls kX).setVm vm').heap[(W.heap.size + 2)]? = some (freshCell P1.m.cls kX) := w4
  have X5 := ((((X4.stored hcell T.fCause.slot (.ref (W.heap.size + 2))).storedAgain ha T.fStack.slot u0.v).storedAgain ha T.fSupp.slot sen.v).storedAgain ha T.fStack.slot u0.v).storedAgain ha T.fMsg.slot (.ref (W.heap.size + 1))
  obtain ⟨g₁, hfrM⟩ := X5.frames_eq
  have hU : ((((withThrown W Zs text P1.m.cls kX).setVm vm').setCell (W.heap.size + 2) (plainBareV T.toThrowableT (freshCell P1.m.cls kX) (W.heap.size + 2) u0 sen (.ref (W.heap.size + 1)))).setTop g).pushFrame (.throwing (W.heap.size + 2)) = (((withThrown W Zs text P1.m.cls kX).setVm vm').setCell (W.heap.size + 2) (plainBareV T.toThrowableT (freshCell P1.m.cls kX) (W.heap.size + 2) u0 sen (.ref (W.heap.size + 1)))).setFrames (.throwing (W.heap.size + 2) :: .java g :: below) := by
    rw [State.pushFrame, State.frames_setTop _ hfrM, State.setTop_of_frames _ hfrM, State.setFrames_setFrames]
  have b1 : (bytesOf Zs.cB (stringToUtf16 text)).slots.size = (stringBytes (stringToUtf16 text)).size := by
    rw [(Cell.writeAll_facts _ _).2.2]; simp [bytes0]
  have b2 : (stringAt Zs.cS Zs.kS Zs.fv Zs.fc (stringToUtf16 text) W.heap.size).slots.size = 4 := by simp [string0, Cell.setSlot, hn4]
  have b3 : (freshCell P1.m.cls kX).slots.size = 6 := by simp [hn6]
  rw [b1, b2, b3] at X5
  have e9 : slots + (stringBytes (stringToUtf16 text)).size + 4 + 6 = slots + ((stringBytes (stringToUtf16 text)).size + 4 + 6) := by omega
  rw [e9] at X5
  simp only [List.append_assoc, List.cons_append, List.nil_append] at X5
  refine ⟨((withThrown W Zs text P1.m.cls kX).setVm vm').setCell (W.heap.size + 2) (plainBareV T.toThrowableT (freshCell P1.m.cls kX) (W.heap.size + 2) u0 sen (.ref (W.heap.size + 1))), W.heap.size + 2, _, fun target ht => st _ (by rw [X.tail, ← hU]; exact ht),
    X5.forget (fun y hy => ?_), heapAt_setCell_self _ ha, hfound, rfl⟩
  simp only [List.mem_cons, List.not_mem_nil, or_false] at hy
  have hge : s.heap.size ≤ W.heap.size := X.same.2.1
  rcases hy with rfl | rfl | rfl | rfl | rfl <;> exact Nat.le_trans hge (Nat.le_add_right _ 2)
set_option maxHeartbeats 1000000 in
/-- the machine throws NullPointerException, no traces kept: from its note over the frame g to 'throwing' over the same frame (follows the proof of Stand.vmThrowsNpe, Shelf42/KT2.lean; throwsNpeColdBareVAt, Shelf42/NT91.lean, called) -/
theorem vx_npeAt {p : Program} {l : Launch} {e : Env} {R : Room} {s : State} {m₀ : MethodId} {args : Array Value} {below : List Frame} {meth : Method} {c : Code} {W : State} {locs : List Loc} {cells slots : Nat}
    (X : Stand p l e R s m₀ args below meth c W locs cells slots) (hexec : p.tables.exec = Jvm.exec) (htr : e.platform.stackTraces = false) {n : Nat}
    (h : ∀ a ∈ Bundle.npeArmAtoms n, a.before args s = true)
    (hlocs : ∀ x ∈ locs, ∀ cell, s.heap[x.base]? = some cell → cell.vm.isStatics = false)
    {g : JFrame} (hg : g.method = m₀) (hsize : g.locals.size = c.maxLocals)
    (hRframes : 7 < R.frames) (hRlocals : 2 * g.monitorRoom + (g.stack.map fun v => v.category).sum + 10240 ≤ R.locals)
    (hRcells : cells + 1 ≤ R.cells) (hRslots : slots + n ≤ R.slots) (hlocks : meth.locks = false) :
    ∃ (S : State) (q : Addr) (ce : Cell), (∀ target, Steps p.tables e below ((S.setTop g).pushFrame (.throwing q)) target → Steps p.tables e below ((W.setTop g).pushFrame (.throwNew "java/lang/NullPointerException" none none)) target) ∧
      Stand p l e R s m₀ args below meth c S locs (cells + 1) (slots + n) ∧ S.heap[q]? = some ce ∧ s.vm.findClass "java/lang/NullPointerException" = some ce.cls ∧ ce.vm = .none := by
  have howns : e.platform.frameOwnsMonitors = true := by rw [X.admits.platform]
  have hfin : e.platform.finalization = false := by rw [X.admits.platform]
  have hpl : e.platform.magicAccessors = ({} : Platform).magicAccessors := by rw [X.admits.platform]
  have hpl2 : e.platform.arrayCloneIsPublic = true := by rw [X.admits.platform]
  have a' : ∀ x, x ∈ Bundle.npeArmAtoms n → x.holds args s none s [] = true := fun x hx => h x hx
  obtain ⟨T, Z, L, LZ, Y⟩ := ThrowableC.of_atoms (args := args) howns hfin hpl (fun x hx => h x (by simp [Bundle.npeArmAtoms, hx]))
  obtain ⟨N, LN, hcN, hnNF, hordN, hffS⟩ := NpeC.of_atoms (args := args) hpl hpl2 L Y (fun x hx => h x (by simp [Bundle.npeArmAtoms, hx]))
  obtain ⟨P1, L1, hP1m, hP1s⟩ := PassC.of_atoms (args := args) (s := s) hpl (X := Bundle.nN) (Y := Bundle.rN) (by decide) (by decide) LibCode.NullPointerException.Init0.at_0 LibCode.NullPointerException.Init0.at_1 LibCode.NullPointerException.Init0.at_4 (fun x hx => h x (by simp [Bundle.npeArmAtoms, hx]))
  obtain ⟨PR, LR, hPRm, hPRs⟩ := PassC.of_atoms (args := args) (s := s) hpl (X := Bundle.rN) (Y := Bundle.eN) (by decide) (by decide) LibCode.RuntimeException.Init0.at_0 LibCode.RuntimeException.Init0.at_1 LibCode.RuntimeException.Init0.at_4 (fun x hx => h x (by simp [Bundle.npeArmAtoms, hx]))
  obtain ⟨PE, LEx, hPEm, hPEs⟩ := PassC.of_atoms (args := args) (s := s) hpl (X := Bundle.eN) (Y := Bundle.tN) (by decide) (by decide) LibCode.Exception.Init0.at_0 LibCode.Exception.Init0.at_1 LibCode.Exception.Init0.at_4 (fun x hx => h x (by simp [Bundle.npeArmAtoms, hx]))
  have hfound : s.vm.findClass Bundle.nN = some P1.m.cls := findClass_of_methodNamed hP1m
  have ecls : N.cN = P1.m.cls := Option.some.inj (hcN.symm.trans hfound)
  have hk : s.vm.classes[P1.m.cls]? = some N.kN := by rw [← ecls]; exact LN.cls
  have hinit := Cond.initialized_spec hfound hk (a' (.initialized Bundle.nN) (by simp [Bundle.npeArmAtoms]))
  have hctor : N.kN.findMethod "<init>" "()V" = some P1.m.idx := findMethod_of_methodNamed hP1m hk
  obtain ⟨c1, k1, hc1, hk1, -, -, -, hn⟩ := Cond.instantiable_spec (a' (.instantiable Bundle.nN n) (by simp [Bundle.npeArmAtoms]))
  cases Option.some.inj (hc1.symm.trans hfound)
  cases Option.some.inj (hk1.symm.trans hk)
  have hfsz : (freshCell P1.m.cls N.kN).slots.size = n := by simp [hn]
  have hlink1 : P1.sup = PR.m := Option.some.inj (hP1s.symm.trans hPRm)
  have hlinkR : PR.sup = PE.m := Option.some.inj (hPRs.symm.trans hPEm)
  have hlinkE : PE.sup = Z.m T.toThrowableT := Option.some.inj (hPEs.symm.trans Y.init0)
  have hLs : ∀ P, P ∈ [PR, PE] → P.Links0 e.platform s := fun P hP => by
    simp only [List.mem_cons, List.not_mem_nil, or_false] at hP
    rcases hP with rfl | rfl
    · exact LR
    · exact LEx
  have hsel0 : selectMethod e.platform s.vm P1.m.cls T.fill0 = .method T.fill0 := by
    obtain ⟨c2, r2, m2, q1, q2, q3, q4, -⟩ := Cond.selects_spec (a' (.selects Bundle.nN Bundle.tFill0 Bundle.tFill0) (by simp [Bundle.npeArmAtoms]))
    cases Option.some.inj (q1.symm.trans hfound)
    cases Option.some.inj (q2.symm.trans (State.methodFound?_of_named Y.fill0 (by decide)))
    cases Option.some.inj (q3.symm.trans Y.fill0)
    rw [Launch.admits_selectMethod X.admits]; exact q4
  have hselF : selectMethod e.platform s.vm P1.m.cls T.fill = .method N.fill := by
    obtain ⟨c2, r2, m2, q1, q2, q3, q4, -⟩ := Cond.selects_spec (a' (.selects Bundle.nN Bundle.tFill Bundle.nFill) (by simp [Bundle.npeArmAtoms]))
    cases Option.some.inj (q1.symm.trans hfound)
    cases Option.some.inj (q2.symm.trans (State.methodFound?_of_named Y.fill (by decide)))
    cases Option.some.inj (q3.symm.trans hnNF)
    rw [Launch.admits_selectMethod X.admits]; exact q4
  obtain ⟨cellS0, hcS0, hiss⟩ := Y.statics
  obtain ⟨u0, hu0⟩ := Cond.staticRefV Y.unassigned L.unassignedStatic L.statics hcS0 hiss (a' (.isRef (.static Bundle.tN "UNASSIGNED_STACK" Bundle.steD)) (by simp [Bundle.npeArmAtoms]))
  obtain ⟨sen, hsen⟩ := Cond.staticRefV Y.sentinel L.sentinelStatic L.statics hcS0 hiss (a' (.isRef (.static Bundle.tN "SUPPRESSED_SENTINEL" Bundle.listD)) (by simp [Bundle.npeArmAtoms]))
  obtain ⟨ci198, i198, fB, hk198, hg198, ha198, hsB, -, hnB, htB, hffB⟩ := Cond.ownField (t := .object "java/lang/Object") Y.found L.cls (by decide +kernel) (a' (.fieldLink Bundle.tN 198 Bundle.tN "backtrace" Bundle.objD) (by simp [Bundle.npeArmAtoms])) (a' (.lays Bundle.tN Bundle.tN "backtrace" Bundle.objD) (by simp [Bundle.npeArmAtoms])) e.platform hpl
  obtain ⟨cellS, hcS', heS, -, hkeep⟩ := X.same.2.2.2.2.2 T.aS cellS0 hcS0
  have hcellS : W.heap[T.aS]? = some cellS := hcS'
  have hout' : ∀ i, (⟨T.aS, i⟩ : Loc) ∉ locs := fun i hmem => by
    have := hlocs _ hmem cellS0 hcS0
    rw [hiss] at this; cases this
  have hknownS : cellS.vm ≠ .unknown := by
    rw [heS]; intro hu
    rw [show cellS0.vm = .unknown from hu] at hiss
    cases hiss
  have hvU : cellS.slots[T.fUnassigned.slot]? = some u0.v := by rw [hkeep _ (hout' _)]; exact hu0
  have hvSen : cellS.slots[T.fSentinel.slot]? = some sen.v := by rw [hkeep _ (hout' _)]; exact hsen
  obtain ⟨tyC, dC, hdC, hdnC⟩ := Cond.laysAt hfound hk Y.cause (a' (.lays Bundle.nN Bundle.tN "cause" "Ljava/lang/Throwable;") (by simp [Bundle.npeArmAtoms]))
  obtain ⟨tyS, dS, hdS, hdnS⟩ := Cond.laysAt hfound hk Y.stack (a' (.lays Bundle.nN Bundle.tN "stackTrace" Bundle.steD) (by simp [Bundle.npeArmAtoms]))
  obtain ⟨tyP, dP, hdP, hdnP⟩ := Cond.laysAt hfound hk Y.supp (a' (.lays Bundle.nN Bundle.tN "suppressedExceptions" Bundle.listD) (by simp [Bundle.npeArmAtoms]))
  obtain ⟨tyX, dX, hdX, hdnX⟩ := Cond.laysAt hfound hk hffS (a' (.lays Bundle.nN Bundle.nN "extendedMessageState" "I") (by simp [Bundle.npeArmAtoms, Bundle.npeAtoms]))
  obtain ⟨hnX, htX⟩ := State.fieldFound?_type hffS (t := .int) (by decide +kernel)
  have xC := Cond.laysApart hdC hdX hdnC hdnX (by rw [hnX, Y.causeName]; decide)
  have xS := Cond.laysApart hdS hdX hdnS hdnX (by rw [hnX, Y.stackName]; decide)
  have xP := Cond.laysApart hdP hdX hdnP hdnX (by rw [hnX, Y.suppName]; decide)
  have hv0 : (freshCell P1.m.cls N.kN).slots[N.fState.slot]? = some (.int 0) := by
    have := fresh_default (c := P1.m.cls) tyX
    rw [htX] at this; exact this
  obtain ⟨tyB, dB, hdB, hdnB⟩ := Cond.laysAt hfound hk hffB (a' (.lays Bundle.nN Bundle.tN "backtrace" Bundle.objD) (by simp [Bundle.npeArmAtoms]))
  have bC := Cond.laysApart hdB hdC hdnB hdnC (by rw [hnB, Y.causeName]; decide)
  have bS := Cond.laysApart hdB hdS hdnB hdnS (by rw [hnB, Y.stackName]; decide)
  have bP := Cond.laysApart hdB hdP hdnB hdnP (by rw [hnB, Y.suppName]; decide)
  have bX := Cond.laysApart hdB hdX hdnB hdnX (by rw [hnB, hnX]; decide)
  have hbk : ((npeCell N.toNpeT (preparedCellV T.toThrowableT (freshCell P1.m.cls N.kN) W.heap.size u0 sen) W.cur).withEntry W.cur).slots[fB.slot]? = some .null := by
    have := fresh_default (c := P1.m.cls) tyB
    rw [htB] at this
    simpa [npeCell, preparedCellV, Cell.setSlot, Cell.withEntry, Array.getElem?_setIfInBounds, bC, bS, bP, bX, bC.symm, bS.symm, bP.symm, bX.symm, defaultValue] using this
  have tkC := Takes.of_laid (v := .ref W.heap.size) hk hordN tyC (by rw [Y.causeType]; rfl)
  have tkS := Takes.of_laid (v := u0.v) hk hordN tyS (by rw [Y.stackType]; exact fits_refV_array _ u0)
  have tkP := Takes.of_laid (v := sen.v) hk hordN tyP (by rw [Y.suppType]; exact fits_refV_object _ sen)
  have tkX := Takes.of_laid (v := .int 1) hk hordN tyX (by rw [htX]; rfl)
  have hskip : SkipFacts T e.platform s (fun u => u) u0 ((npeCell N.toNpeT (preparedCellV T.toThrowableT (freshCell P1.m.cls N.kN) W.heap.size u0 sen) W.cur).withEntry W.cur) := ⟨{ ci198 := ci198, i198 := i198, fBack := fB }, ⟨hk198, hg198, ha198, hsB⟩, hbk, fun _ _ => rfl⟩
  obtain ⟨vm', X3, st, -⟩ := X.throwsNpeColdBareVAt hexec hg hsize T L Z LZ N LN P1 L1 [PR, PE] hLs hlink1 ⟨hlinkR, hlinkE, trivial⟩ hfound hk hinit hordN hctor hsel0 hselF hcellS hknownS hvU hvSen
    hv0 xC xS xP tkC tkS tkP tkX Y.objLocals hskip (fun _ _ hA hW _ hroom _ hrest => L.nativeOff p htr hA hW hroom hrest) (by simpa using hRframes) hRlocals (by simp) hRcells (by rw [hn]; exact hRslots)
  have hlt : W.heap.size < ((W.pushCell (freshCell P1.m.cls N.kN)).setVm vm').heap.size := by
    show W.heap.size < (W.pushCell (freshCell P1.m.cls N.kN)).heap.size
    rw [State.heap_size_pushCell]; omega
  rw [hfsz] at X3
  obtain ⟨g₁, hfrM⟩ := X3.frames_eq
  have hU : ((((W.pushCell (freshCell P1.m.cls N.kN)).setVm vm').setCell W.heap.size (npeBareV T.toThrowableT N.toNpeT (freshCell P1.m.cls N.kN) W.heap.size u0 sen)).setTop g).pushFrame (.throwing W.heap.size) = (((W.pushCell (freshCell P1.m.cls N.kN)).setVm vm').setCell W.heap.size (npeBareV T.toThrowableT N.toNpeT (freshCell P1.m.cls N.kN) W.heap.size u0 sen)).setFrames (.throwing W.heap.size :: .java g :: below) := by
    rw [State.pushFrame, State.frames_setTop _ hfrM, State.setTop_of_frames _ hfrM, State.setFrames_setFrames]
  refine ⟨_, W.heap.size, _, fun target ht => st.trans (by rw [← hU]; exact ht), X3.forget (fun y hy => ?_), heapAt_setCell_self _ hlt, hfound, rfl⟩
  simp only [List.mem_cons, List.not_mem_nil, or_false] at hy
  have hge : s.heap.size ≤ W.heap.size := X.same.2.1
  rcases hy with rfl | rfl | rfl | rfl | rfl <;> exact hge
/-- the words of a machine's NullPointerException, but the four that speak of the heap -/
def vx_atN (n : Nat) : List Cond := (Bundle.npeArmAtoms n).filter vx_no
/-- the words of a machine's throw with a message, but the four that speak of the heap -/
def vx_atM (X : String) (names : List String) : List Cond := (Bundle.messageArmAtoms X names).filter vx_no
section
variable {p : Program} {l : Launch} {e : Env} {R : Room} {s : State} {m : MethodId} {args : Array Value} {below : List Frame} {meth : Method} {c : Code} {H : Heap} {locs : List Loc} {cells slots : Nat}
/-- a frame seen from a rebased start, seen from the first start again -/
theorem vx_back9 {T S : State} {R' : Room} {k n : Nat} (X : Stand p l e R s m args below meth c T locs cells slots) (Y : Stand p l e R' ((T.setVm s.vm).setFrames (.invoking m args :: below)) m args below meth c T [] 0 0) (Z : Stand p l e R' ((T.setVm s.vm).setFrames (.invoking m args :: below)) m args below meth c S [] k n) :
    Stand p l e R s m args below meth c S locs (cells + k) (slots + n) := by
  have hW0 : s.WarmedH ((T.setVm s.vm).setFrames (.invoking m args :: below)).vm := State.WarmedH.refl s
  refine { admits := X.admits, cas := X.cas, clock := X.clock, frames := X.frames, room := X.room, hears := X.hears, method := X.method, code := X.code, here := Z.here, tail := Z.tail, warmed := State.WarmedH.trans hW0 Z.warmed, limits := Z.limits.trans (Y.limits.symm.trans X.limits), bytes := Z.bytes.trans (Y.bytes.symm.trans X.bytes), same := ?_ }
  obtain ⟨e1, e2⟩ := Z.same
  rw [State.setFrames_setFrames] at e1
  have h2 : (T.setVm s.vm).sameButNew (S.setVm s.vm) [] k n := ⟨e1, e2⟩
  have h3 := X.same.trans h2
  rw [List.append_nil] at h3
  exact h3
/-- from the machine's note that E is thrown here with this text -/
def vx_Note (p : Program) (l : Launch) (e : Env) (R : Room) (s : State) (m : MethodId) (args : Array Value) (below : List Frame) (meth : Method) (c : Code) (H : Heap) (locs : List Loc) (cells slots : Nat) (Q : State → Prop) (g : JFrame) (E text : String) : Prop :=
  ∀ T : State, T.heap = H → Stand p l e R s m args below meth c T locs cells slots → ∃ t, Steps p.tables e below ((T.setTop g).pushFrame (.throwNew E (some text) none)) t ∧ Q t
theorem vx_vm {pc : Nat} {ls : Array Slot} {rest : List Value} {Q : State → Prop} (hexec : p.tables.exec = Jvm.exec) (hl : l.stackTraces = false) {cls text : String} {names : List String} {nb : Nat} {A : Nat → Prop}
    (hcls : Bundle.fit cls = true) (hnames : ∀ n ∈ names, Bundle.fit n = true) (hsoe : (cls == "java/lang/StackOverflowError") = false) (hoom : (cls == "java/lang/OutOfMemoryError") = false)
    (hat : ∀ w ∈ vx_atM cls names, w.before args s = true) (hgood : ∀ w ∈ vx_atM cls names, vx_ot w = true)
    (hU : vx_Zq Bundle.tN "UNASSIGNED_STACK" Bundle.steD A s s.heap) (hN : vx_Zq Bundle.tN "SUPPRESSED_SENTINEL" Bundle.listD A s s.heap) (hS : va_S A s.heap H locs) (hsize : ls.size = c.maxLocals)
    (htext : (text == notModelled) = false) (hnb : (stringBytes (stringToUtf16 text)).size ≤ nb) (hnb1 : nb ≤ 1000)
    (hRframes : names.length + 4 < R.frames) (hRlocals : (rest.map fun v => v.category).sum + 10240 ≤ R.locals) (hshort : 13 * names.length + 55 ≤ 10240) (hRcells : cells + 3 ≤ R.cells) (hRslots : slots + (nb + 10) ≤ R.slots) (hlocks : meth.locks = false)
    (k : ∀ (H1 : Heap) (q9 : Addr) (ce : Cell), H.size ≤ H1.size → (∀ q : Nat, q < H.size → H1[q]? = H[q]?) → va_S A s.heap H1 locs → H1[q9]? = some ce → ce.vm = .none → s.vm.findClass cls = some ce.cls → vx_W p l e R s m args below meth c H1 locs (cells + 3) (slots + (nb + 10)) Q (F0 m pc ls rest) q9) :
    vx_Note p l e R s m args below meth c H locs cells slots Q (F0 m pc ls rest) cls text := by
  intro T hT X
  have htr : e.platform.stackTraces = false := (show e.platform.stackTraces = l.stackTraces by rw [X.admits.platform]).trans hl
  have Y := vx_rebase X (R' := { frames := R.frames, locals := R.locals, cells := 3, slots := nb + 10 }) (Nat.le_refl _) (Nat.le_refl _) hRcells hRslots
  have hhp : ((T.setVm s.vm).setFrames (.invoking m args :: below)).heap = H := hT
  have hW0 : s.WarmedH ((T.setVm s.vm).setFrames (.invoking m args :: below)).vm := State.WarmedH.refl s
  have hat' : ∀ w ∈ vx_atM cls names, w.before args ((T.setVm s.vm).setFrames (.invoking m args :: below)) = true := fun w hw => vx_ot_at hW0 rfl (hgood w hw) (hat w hw)
  have hU' : vx_Zq Bundle.tN "UNASSIGNED_STACK" Bundle.steD A ((T.setVm s.vm).setFrames (.invoking m args :: below)) ((T.setVm s.vm).setFrames (.invoking m args :: below)).heap := by rw [hhp]; exact vx_Zq.moved hW0.alike (hU.kept hS.2.1)
  have hN' : vx_Zq Bundle.tN "SUPPRESSED_SENTINEL" Bundle.listD A ((T.setVm s.vm).setFrames (.invoking m args :: below)) ((T.setVm s.vm).setFrames (.invoking m args :: below)).heap := by rw [hhp]; exact vx_Zq.moved hW0.alike (hN.kept hS.2.1)
  obtain ⟨S, q, ce, st, Z, hce, hcl', hv⟩ := vx_vmAt Y hexec htr (cls := cls) (names := names) (text := text) hcls hnames hsoe hoom (vx_own hat' (vx_isRefq hU'.1) (vx_isRefq hN'.1) hU'.2.word hN'.2.word) (fun x hx => nomatch hx) htext
    (by rw [Launch.admits_arrayLengthLimit X.admits]; omega) (by rw [Launch.admits_maxHeapBytes X.admits]; simp only [componentBytes]; omega)
    (g := F0 m pc ls rest) rfl hsize hRframes (by show 2 * 0 + (rest.map fun v => v.category).sum + 10240 ≤ R.locals; omega) hshort (by show 0 + 3 ≤ 3; omega) (by show 0 + (_ + 4 + 6) ≤ nb + 10; omega) hlocks
  obtain ⟨f1, f2⟩ := vx_frame Z.same
  have f1' : H.size ≤ S.heap.size := by rw [← hT]; exact f1
  have f2' : ∀ q : Nat, q < H.size → S.heap[q]? = H[q]? := fun q hq => by
    rw [← hT]
    exact f2 q (by rw [← hT] at hq; exact hq) (fun z hz => nomatch hz)
  have X5 := vx_back9 X Y Z
  have X6 : Stand p l e R s m args below meth c S locs (cells + 3) (slots + (nb + 10)) := { X5 with same := X5.same.mono (by omega) (by omega) }
  obtain ⟨t, a1, b1⟩ := k S.heap q ce f1' f2' ⟨Nat.le_trans hS.1 f1', fun q h1 h2 => (f2' q (Nat.lt_of_lt_of_le h1 hS.1)).trans (hS.2.1 q h1 h2), hS.2.2⟩ hce hv hcl' S rfl X6
  exact ⟨t, st t a1, b1⟩
/-- from the machine's note that NullPointerException is thrown here -/
def vx_NoteN (p : Program) (l : Launch) (e : Env) (R : Room) (s : State) (m : MethodId) (args : Array Value) (below : List Frame) (meth : Method) (c : Code) (H : Heap) (locs : List Loc) (cells slots : Nat) (Q : State → Prop) (g : JFrame) : Prop :=
  ∀ T : State, T.heap = H → Stand p l e R s m args below meth c T locs cells slots → ∃ t, Steps p.tables e below ((T.setTop g).pushFrame (.throwNew "java/lang/NullPointerException" none none)) t ∧ Q t
theorem vx_npe {pc : Nat} {ls : Array Slot} {rest : List Value} {Q : State → Prop} (hexec : p.tables.exec = Jvm.exec) (hl : l.stackTraces = false) {nb : Nat} {A : Nat → Prop}
    (hat : ∀ w ∈ vx_atN nb, w.before args s = true) (hgood : ∀ w ∈ vx_atN nb, vx_ot w = true)
    (hU : vx_Zq Bundle.tN "UNASSIGNED_STACK" Bundle.steD A s s.heap) (hN : vx_Zq Bundle.tN "SUPPRESSED_SENTINEL" Bundle.listD A s s.heap) (hS : va_S A s.heap H locs) (hsize : ls.size = c.maxLocals)
    (hRframes : 7 < R.frames) (hRlocals : (rest.map fun v => v.category).sum + 10240 ≤ R.locals) (hRcells : cells + 1 ≤ R.cells) (hRslots : slots + nb ≤ R.slots) (hlocks : meth.locks = false)
    (k : ∀ (H1 : Heap) (q9 : Addr) (ce : Cell), H.size ≤ H1.size → (∀ q : Nat, q < H.size → H1[q]? = H[q]?) → va_S A s.heap H1 locs → H1[q9]? = some ce → ce.vm = .none → s.vm.findClass "java/lang/NullPointerException" = some ce.cls → vx_W p l e R s m args below meth c H1 locs (cells + 1) (slots + nb) Q (F0 m pc ls rest) q9) :
    vx_NoteN p l e R s m args below meth c H locs cells slots Q (F0 m pc ls rest) := by
  intro T hT X
  have htr : e.platform.stackTraces = false := (show e.platform.stackTraces = l.stackTraces by rw [X.admits.platform]).trans hl
  have Y := vx_rebase X (R' := { frames := R.frames, locals := R.locals, cells := 1, slots := nb }) (Nat.le_refl _) (Nat.le_refl _) hRcells hRslots
  have hhp : ((T.setVm s.vm).setFrames (.invoking m args :: below)).heap = H := hT
  have hW0 : s.WarmedH ((T.setVm s.vm).setFrames (.invoking m args :: below)).vm := State.WarmedH.refl s
  have hat' : ∀ w ∈ vx_atN nb, w.before args ((T.setVm s.vm).setFrames (.invoking m args :: below)) = true := fun w hw => vx_ot_at hW0 rfl (hgood w hw) (hat w hw)
  have hU' : vx_Zq Bundle.tN "UNASSIGNED_STACK" Bundle.steD A ((T.setVm s.vm).setFrames (.invoking m args :: below)) ((T.setVm s.vm).setFrames (.invoking m args :: below)).heap := by rw [hhp]; exact vx_Zq.moved hW0.alike (hU.kept hS.2.1)
  have hN' : vx_Zq Bundle.tN "SUPPRESSED_SENTINEL" Bundle.listD A ((T.setVm s.vm).setFrames (.invoking m args :: below)) ((T.setVm s.vm).setFrames (.invoking m args :: below)).heap := by rw [hhp]; exact vx_Zq.moved hW0.alike (hN.kept hS.2.1)
  obtain ⟨S, q, ce, st, Z, hce, hcl', hv⟩ := vx_npeAt Y hexec htr (n := nb) (vx_own hat' (vx_isRefq hU'.1) (vx_isRefq hN'.1) hU'.2.word hN'.2.word) (fun x hx => nomatch hx)
    (g := F0 m pc ls rest) rfl hsize hRframes (by show 2 * 0 + (rest.map fun v => v.category).sum + 10240 ≤ R.locals; omega) (by show 0 + 1 ≤ 1; omega) (by show 0 + nb ≤ nb; omega) hlocks
  obtain ⟨f1, f2⟩ := vx_frame Z.same
  have f1' : H.size ≤ S.heap.size := by rw [← hT]; exact f1
  have f2' : ∀ q : Nat, q < H.size → S.heap[q]? = H[q]? := fun q hq => by
    rw [← hT]
    exact f2 q (by rw [← hT] at hq; exact hq) (fun z hz => nomatch hz)
  have X5 := vx_back9 X Y Z
  have X6 : Stand p l e R s m args below meth c S locs (cells + 1) (slots + nb) := { X5 with same := X5.same.mono (by omega) (by omega) }
  obtain ⟨t, a1, b1⟩ := k S.heap q ce f1' f2' ⟨Nat.le_trans hS.1 f1', fun q h1 h2 => (f2' q (Nat.lt_of_lt_of_le h1 hS.1)).trans (hS.2.1 q h1 h2), hS.2.2⟩ hce hv hcl' S rfl X6
  exact ⟨t, st t a1, b1⟩
variable {Q : State → Prop} {cc : ByteArray} {pc : Nat} {ls : Array Slot} {rest : List Value}
theorem vx_idivZ (hexec : p.tables.exec = Jvm.exec) (hb : c.code = cc) {a b : Int32} (h0 : b = 0) (d : decode cc pc = .ok (.idiv, 1)) (k : vx_Note p l e R s m args below meth c H locs cells slots Q (F0 m pc ls rest) "java/lang/ArithmeticException" "/ by zero") :
    W p l e R s m args below meth c H locs cells slots Q (F0 m pc ls (.int b :: .int a :: rest)) := by
  intro T hT X
  obtain ⟨t, st, q⟩ := k T hT X
  exact ⟨t, X.idivZero hexec (g := F0 m pc ls (.int b :: .int a :: rest)) rfl (a := a) (rest := rest) (by rw [h0]) (by rw [hb]; exact d) t st, q⟩
theorem vx_iremZ (hexec : p.tables.exec = Jvm.exec) (hb : c.code = cc) {a b : Int32} (h0 : b = 0) (d : decode cc pc = .ok (.irem, 1)) (k : vx_Note p l e R s m args below meth c H locs cells slots Q (F0 m pc ls rest) "java/lang/ArithmeticException" "/ by zero") :
    W p l e R s m args below meth c H locs cells slots Q (F0 m pc ls (.int b :: .int a :: rest)) := by
  intro T hT X
  obtain ⟨t, st, q⟩ := k T hT X
  exact ⟨t, X.iremZero hexec (g := F0 m pc ls (.int b :: .int a :: rest)) rfl (a := a) (rest := rest) (by rw [h0]) (by rw [hb]; exact d) t st, q⟩
theorem vx_ldivZ (hexec : p.tables.exec = Jvm.exec) (hb : c.code = cc) {a b : Int64} (h0 : b = 0) (d : decode cc pc = .ok (.ldiv, 1)) (k : vx_Note p l e R s m args below meth c H locs cells slots Q (F0 m pc ls rest) "java/lang/ArithmeticException" "/ by zero") :
    W p l e R s m args below meth c H locs cells slots Q (F0 m pc ls (.long b :: .long a :: rest)) := by
  intro T hT X
  obtain ⟨t, st, q⟩ := k T hT X
  exact ⟨t, X.ldivZero hexec (g := F0 m pc ls (.long b :: .long a :: rest)) rfl (a := a) (rest := rest) (by rw [h0]) (by rw [hb]; exact d) t st, q⟩
theorem vx_lremZ (hexec : p.tables.exec = Jvm.exec) (hb : c.code = cc) {a b : Int64} (h0 : b = 0) (d : decode cc pc = .ok (.lrem, 1)) (k : vx_Note p l e R s m args below meth c H locs cells slots Q (F0 m pc ls rest) "java/lang/ArithmeticException" "/ by zero") :
    W p l e R s m args below meth c H locs cells slots Q (F0 m pc ls (.long b :: .long a :: rest)) := by
  intro T hT X
  obtain ⟨t, st, q⟩ := k T hT X
  exact ⟨t, X.lremZero hexec (g := F0 m pc ls (.long b :: .long a :: rest)) rfl (a := a) (rest := rest) (by rw [h0]) (by rw [hb]; exact d) t st, q⟩
theorem vx_ialdZ {D : va_G} {cl : List vw_C} {ws : va_W} {tys : List (ClassId × FieldType)} {a : Nat} (hexec : p.tables.exec = Jvm.exec) (hb : c.code = cc) (hK : va_K D cl tys s) (hP : va_P D cl ws H) (q0 t0 : Nat) {cA : ClassId} {n : Nat} {f : Nat → Int32} (ha : ws[q0]? = some (a, .inl (cA, n, .inl f))) (ht : tys[t0]? = some (cA, .int)) {i : Int32} (hout : ¬ vp_in i n) (hdg : decode cc pc = .ok (.iaload, 1))
    (k : ∀ tx : String, tx = (toString "Index " ++ toString i ++ toString " out of bounds for length " ++ toString n : String) → vx_Note p l e R s m args below meth c H locs cells slots Q (F0 m pc ls rest) "java/lang/ArrayIndexOutOfBoundsException" tx) : W p l e R s m args below meth c H locs cells slots Q (F0 m pc ls (.int i :: .ref a :: rest)) := by
  intro T hT X
  obtain ⟨t, st, q⟩ := k _ rfl T hT X
  refine ⟨t, ?_, q⟩
  have h1 := X.ialoadOut hexec (by rw [hT]; exact hP q0 _ ha) ((hK.2 t0 _ ht).1 n (fun j => .int (f j))) (j := i) (by show (i < 0 ∨ (arrV _ _ _).slots.size ≤ _); rw [arrV_size]; exact Classical.byContradiction hout) (g := F0 m pc ls (.int i :: .ref a :: rest)) rfl (rest := rest) rfl (by rw [hb]; exact hdg) t
  simp only [arrV_size] at h1
  exact h1 st
theorem vx_iastZ {D : va_G} {cl : List vw_C} {ws : va_W} {tys : List (ClassId × FieldType)} {a : Nat} (hexec : p.tables.exec = Jvm.exec) (hb : c.code = cc) (hK : va_K D cl tys s) (hP : va_P D cl ws H) (q0 t0 : Nat) {cA : ClassId} {n : Nat} {f : Nat → Int32} (ha : ws[q0]? = some (a, .inl (cA, n, .inl f))) (ht : tys[t0]? = some (cA, .int)) {i : Int32} {x : Int32} (hout : ¬ vp_in i n) (hdg : decode cc pc = .ok (.iastore, 1))
    (k : ∀ tx : String, tx = (toString "Index " ++ toString i ++ toString " out of bounds for length " ++ toString n : String) → vx_Note p l e R s m args below meth c H locs cells slots Q (F0 m pc ls rest) "java/lang/ArrayIndexOutOfBoundsException" tx) : W p l e R s m args below meth c H locs cells slots Q (F0 m pc ls (.int x :: .int i :: .ref a :: rest)) := by
  intro T hT X
  obtain ⟨t, st, q⟩ := k _ rfl T hT X
  refine ⟨t, ?_, q⟩
  have h1 := X.iastoreOut hexec (by rw [hT]; exact hP q0 _ ha) ((hK.2 t0 _ ht).1 n (fun j => .int (f j))) (j := i) (by show (i < 0 ∨ (arrV _ _ _).slots.size ≤ _); rw [arrV_size]; exact Classical.byContradiction hout) (g := F0 m pc ls (.int x :: .int i :: .ref a :: rest)) rfl (rest := rest) rfl (by rw [hb]; exact hdg) t
  simp only [arrV_size] at h1
  exact h1 st
theorem vx_baldZ {D : va_G} {cl : List vw_C} {ws : va_W} {tys : List (ClassId × FieldType)} {a : Nat} (hexec : p.tables.exec = Jvm.exec) (hb : c.code = cc) (hK : va_K D cl tys s) (hP : va_P D cl ws H) (q0 t0 : Nat) {cA : ClassId} {n : Nat} {f : Nat → Int32} (ha : ws[q0]? = some (a, .inl (cA, n, .inl f))) (ht : tys[t0]? = some (cA, .byte)) {i : Int32} (hout : ¬ vp_in i n) (hdg : decode cc pc = .ok (.baload, 1))
    (k : ∀ tx : String, tx = (toString "Index " ++ toString i ++ toString " out of bounds for length " ++ toString n : String) → vx_Note p l e R s m args below meth c H locs cells slots Q (F0 m pc ls rest) "java/lang/ArrayIndexOutOfBoundsException" tx) : W p l e R s m args below meth c H locs cells slots Q (F0 m pc ls (.int i :: .ref a :: rest)) := by
  intro T hT X
  obtain ⟨t, st, q⟩ := k _ rfl T hT X
  refine ⟨t, ?_, q⟩
  have h1 := X.baloadOut hexec (by rw [hT]; exact hP q0 _ ha) ((hK.2 t0 _ ht).1 n (fun j => .int (f j))) (j := i) (by show (i < 0 ∨ (arrV _ _ _).slots.size ≤ _); rw [arrV_size]; exact Classical.byContradiction hout) (g := F0 m pc ls (.int i :: .ref a :: rest)) rfl (rest := rest) rfl (by rw [hb]; exact hdg) t
  simp only [arrV_size] at h1
  exact h1 st
theorem vx_bastZ {D : va_G} {cl : List vw_C} {ws : va_W} {tys : List (ClassId × FieldType)} {a : Nat} (hexec : p.tables.exec = Jvm.exec) (hb : c.code = cc) (hK : va_K D cl tys s) (hP : va_P D cl ws H) (q0 t0 : Nat) {cA : ClassId} {n : Nat} {f : Nat → Int32} (ha : ws[q0]? = some (a, .inl (cA, n, .inl f))) (ht : tys[t0]? = some (cA, .byte)) {i : Int32} {x : Int32} (hout : ¬ vp_in i n) (hdg : decode cc pc = .ok (.bastore, 1))
    (k : ∀ tx : String, tx = (toString "Index " ++ toString i ++ toString " out of bounds for length " ++ toString n : String) → vx_Note p l e R s m args below meth c H locs cells slots Q (F0 m pc ls rest) "java/lang/ArrayIndexOutOfBoundsException" tx) : W p l e R s m args below meth c H locs cells slots Q (F0 m pc ls (.int x :: .int i :: .ref a :: rest)) := by
  intro T hT X
  obtain ⟨t, st, q⟩ := k _ rfl T hT X
  refine ⟨t, ?_, q⟩
  have h1 := X.bastoreOut hexec (by rw [hT]; exact hP q0 _ ha) ((hK.2 t0 _ ht).1 n (fun j => .int (f j))) (j := i) (by show (i < 0 ∨ (arrV _ _ _).slots.size ≤ _); rw [arrV_size]; exact Classical.byContradiction hout) (g := F0 m pc ls (.int x :: .int i :: .ref a :: rest)) rfl (rest := rest) rfl (by rw [hb]; exact hdg) t
  simp only [arrV_size] at h1
  exact h1 st
theorem vx_zaldZ {D : va_G} {cl : List vw_C} {ws : va_W} {tys : List (ClassId × FieldType)} {a : Nat} (hexec : p.tables.exec = Jvm.exec) (hb : c.code = cc) (hK : va_K D cl tys s) (hP : va_P D cl ws H) (q0 t0 : Nat) {cA : ClassId} {n : Nat} {f : Nat → Int32} (ha : ws[q0]? = some (a, .inl (cA, n, .inl f))) (ht : tys[t0]? = some (cA, .boolean)) {i : Int32} (hout : ¬ vp_in i n) (hdg : decode cc pc = .ok (.baload, 1))
    (k : ∀ tx : String, tx = (toString "Index " ++ toString i ++ toString " out of bounds for length " ++ toString n : String) → vx_Note p l e R s m args below meth c H locs cells slots Q (F0 m pc ls rest) "java/lang/ArrayIndexOutOfBoundsException" tx) : W p l e R s m args below meth c H locs cells slots Q (F0 m pc ls (.int i :: .ref a :: rest)) := by
  intro T hT X
  obtain ⟨t, st, q⟩ := k _ rfl T hT X
  refine ⟨t, ?_, q⟩
  have h1 := X.baloadOut hexec (by rw [hT]; exact hP q0 _ ha) ((hK.2 t0 _ ht).1 n (fun j => .int (f j))) (j := i) (by show (i < 0 ∨ (arrV _ _ _).slots.size ≤ _); rw [arrV_size]; exact Classical.byContradiction hout) (g := F0 m pc ls (.int i :: .ref a :: rest)) rfl (rest := rest) rfl (by rw [hb]; exact hdg) t
  simp only [arrV_size] at h1
  exact h1 st
theorem vx_zastZ {D : va_G} {cl : List vw_C} {ws : va_W} {tys : List (ClassId × FieldType)} {a : Nat} (hexec : p.tables.exec = Jvm.exec) (hb : c.code = cc) (hK : va_K D cl tys s) (hP : va_P D cl ws H) (q0 t0 : Nat) {cA : ClassId} {n : Nat} {f : Nat → Int32} (ha : ws[q0]? = some (a, .inl (cA, n, .inl f))) (ht : tys[t0]? = some (cA, .boolean)) {i : Int32} {x : Int32} (hout : ¬ vp_in i n) (hdg : decode cc pc = .ok (.bastore, 1))
    (k : ∀ tx : String, tx = (toString "Index " ++ toString i ++ toString " out of bounds for length " ++ toString n : String) → vx_Note p l e R s m args below meth c H locs cells slots Q (F0 m pc ls rest) "java/lang/ArrayIndexOutOfBoundsException" tx) : W p l e R s m args below meth c H locs cells slots Q (F0 m pc ls (.int x :: .int i :: .ref a :: rest)) := by
  intro T hT X
  obtain ⟨t, st, q⟩ := k _ rfl T hT X
  refine ⟨t, ?_, q⟩
  have h1 := X.bastoreOut hexec (by rw [hT]; exact hP q0 _ ha) ((hK.2 t0 _ ht).1 n (fun j => .int (f j))) (j := i) (by show (i < 0 ∨ (arrV _ _ _).slots.size ≤ _); rw [arrV_size]; exact Classical.byContradiction hout) (g := F0 m pc ls (.int x :: .int i :: .ref a :: rest)) rfl (rest := rest) rfl (by rw [hb]; exact hdg) t
  simp only [arrV_size] at h1
  exact h1 st
theorem vx_caldZ {D : va_G} {cl : List vw_C} {ws : va_W} {tys : List (ClassId × FieldType)} {a : Nat} (hexec : p.tables.exec = Jvm.exec) (hb : c.code = cc) (hK : va_K D cl tys s) (hP : va_P D cl ws H) (q0 t0 : Nat) {cA : ClassId} {n : Nat} {f : Nat → Int32} (ha : ws[q0]? = some (a, .inl (cA, n, .inl f))) (ht : tys[t0]? = some (cA, .char)) {i : Int32} (hout : ¬ vp_in i n) (hdg : decode cc pc = .ok (.caload, 1))
    (k : ∀ tx : String, tx = (toString "Index " ++ toString i ++ toString " out of bounds for length " ++ toString n : String) → vx_Note p l e R s m args below meth c H locs cells slots Q (F0 m pc ls rest) "java/lang/ArrayIndexOutOfBoundsException" tx) : W p l e R s m args below meth c H locs cells slots Q (F0 m pc ls (.int i :: .ref a :: rest)) := by
  intro T hT X
  obtain ⟨t, st, q⟩ := k _ rfl T hT X
  refine ⟨t, ?_, q⟩
  have h1 := X.caloadOut hexec (by rw [hT]; exact hP q0 _ ha) ((hK.2 t0 _ ht).1 n (fun j => .int (f j))) (j := i) (by show (i < 0 ∨ (arrV _ _ _).slots.size ≤ _); rw [arrV_size]; exact Classical.byContradiction hout) (g := F0 m pc ls (.int i :: .ref a :: rest)) rfl (rest := rest) rfl (by rw [hb]; exact hdg) t
  simp only [arrV_size] at h1
  exact h1 st
theorem vx_castZ {D : va_G} {cl : List vw_C} {ws : va_W} {tys : List (ClassId × FieldType)} {a : Nat} (hexec : p.tables.exec = Jvm.exec) (hb : c.code = cc) (hK : va_K D cl tys s) (hP : va_P D cl ws H) (q0 t0 : Nat) {cA : ClassId} {n : Nat} {f : Nat → Int32} (ha : ws[q0]? = some (a, .inl (cA, n, .inl f))) (ht : tys[t0]? = some (cA, .char)) {i : Int32} {x : Int32} (hout : ¬ vp_in i n) (hdg : decode cc pc = .ok (.castore, 1))
    (k : ∀ tx : String, tx = (toString "Index " ++ toString i ++ toString " out of bounds for length " ++ toString n : String) → vx_Note p l e R s m args below meth c H locs cells slots Q (F0 m pc ls rest) "java/lang/ArrayIndexOutOfBoundsException" tx) : W p l e R s m args below meth c H locs cells slots Q (F0 m pc ls (.int x :: .int i :: .ref a :: rest)) := by
  intro T hT X
  obtain ⟨t, st, q⟩ := k _ rfl T hT X
  refine ⟨t, ?_, q⟩
  have h1 := X.castoreOut hexec (by rw [hT]; exact hP q0 _ ha) ((hK.2 t0 _ ht).1 n (fun j => .int (f j))) (j := i) (by show (i < 0 ∨ (arrV _ _ _).slots.size ≤ _); rw [arrV_size]; exact Classical.byContradiction hout) (g := F0 m pc ls (.int x :: .int i :: .ref a :: rest)) rfl (rest := rest) rfl (by rw [hb]; exact hdg) t
  simp only [arrV_size] at h1
  exact h1 st
theorem vx_saldZ {D : va_G} {cl : List vw_C} {ws : va_W} {tys : List (ClassId × FieldType)} {a : Nat} (hexec : p.tables.exec = Jvm.exec) (hb : c.code = cc) (hK : va_K D cl tys s) (hP : va_P D cl ws H) (q0 t0 : Nat) {cA : ClassId} {n : Nat} {f : Nat → Int32} (ha : ws[q0]? = some (a, .inl (cA, n, .inl f))) (ht : tys[t0]? = some (cA, .short)) {i : Int32} (hout : ¬ vp_in i n) (hdg : decode cc pc = .ok (.saload, 1))
    (k : ∀ tx : String, tx = (toString "Index " ++ toString i ++ toString " out of bounds for length " ++ toString n : String) → vx_Note p l e R s m args below meth c H locs cells slots Q (F0 m pc ls rest) "java/lang/ArrayIndexOutOfBoundsException" tx) : W p l e R s m args below meth c H locs cells slots Q (F0 m pc ls (.int i :: .ref a :: rest)) := by
  intro T hT X
  obtain ⟨t, st, q⟩ := k _ rfl T hT X
  refine ⟨t, ?_, q⟩
  have h1 := X.saloadOut hexec (by rw [hT]; exact hP q0 _ ha) ((hK.2 t0 _ ht).1 n (fun j => .int (f j))) (j := i) (by show (i < 0 ∨ (arrV _ _ _).slots.size ≤ _); rw [arrV_size]; exact Classical.byContradiction hout) (g := F0 m pc ls (.int i :: .ref a :: rest)) rfl (rest := rest) rfl (by rw [hb]; exact hdg) t
  simp only [arrV_size] at h1
  exact h1 st
theorem vx_sastZ {D : va_G} {cl : List vw_C} {ws : va_W} {tys : List (ClassId × FieldType)} {a : Nat} (hexec : p.tables.exec = Jvm.exec) (hb : c.code = cc) (hK : va_K D cl tys s) (hP : va_P D cl ws H) (q0 t0 : Nat) {cA : ClassId} {n : Nat} {f : Nat → Int32} (ha : ws[q0]? = some (a, .inl (cA, n, .inl f))) (ht : tys[t0]? = some (cA, .short)) {i : Int32} {x : Int32} (hout : ¬ vp_in i n) (hdg : decode cc pc = .ok (.sastore, 1))
    (k : ∀ tx : String, tx = (toString "Index " ++ toString i ++ toString " out of bounds for length " ++ toString n : String) → vx_Note p l e R s m args below meth c H locs cells slots Q (F0 m pc ls rest) "java/lang/ArrayIndexOutOfBoundsException" tx) : W p l e R s m args below meth c H locs cells slots Q (F0 m pc ls (.int x :: .int i :: .ref a :: rest)) := by
  intro T hT X
  obtain ⟨t, st, q⟩ := k _ rfl T hT X
  refine ⟨t, ?_, q⟩
  have h1 := X.sastoreOut hexec (by rw [hT]; exact hP q0 _ ha) ((hK.2 t0 _ ht).1 n (fun j => .int (f j))) (j := i) (by show (i < 0 ∨ (arrV _ _ _).slots.size ≤ _); rw [arrV_size]; exact Classical.byContradiction hout) (g := F0 m pc ls (.int x :: .int i :: .ref a :: rest)) rfl (rest := rest) rfl (by rw [hb]; exact hdg) t
  simp only [arrV_size] at h1
  exact h1 st
theorem vx_laldZ {D : va_G} {cl : List vw_C} {ws : va_W} {tys : List (ClassId × FieldType)} {a : Nat} (hexec : p.tables.exec = Jvm.exec) (hb : c.code = cc) (hK : va_K D cl tys s) (hP : va_P D cl ws H) (q0 t0 : Nat) {cA : ClassId} {n : Nat} {f : Nat → Int64} (ha : ws[q0]? = some (a, .inl (cA, n, .inr (.inl f)))) (ht : tys[t0]? = some (cA, .long)) {i : Int32} (hout : ¬ vp_in i n) (hdg : decode cc pc = .ok (.laload, 1))
    (k : ∀ tx : String, tx = (toString "Index " ++ toString i ++ toString " out of bounds for length " ++ toString n : String) → vx_Note p l e R s m args below meth c H locs cells slots Q (F0 m pc ls rest) "java/lang/ArrayIndexOutOfBoundsException" tx) : W p l e R s m args below meth c H locs cells slots Q (F0 m pc ls (.int i :: .ref a :: rest)) := by
  intro T hT X
  obtain ⟨t, st, q⟩ := k _ rfl T hT X
  refine ⟨t, ?_, q⟩
  have h1 := X.laloadOut hexec (by rw [hT]; exact hP q0 _ ha) ((hK.2 t0 _ ht).1 n (fun j => .long (f j))) (j := i) (by show (i < 0 ∨ (arrV _ _ _).slots.size ≤ _); rw [arrV_size]; exact Classical.byContradiction hout) (g := F0 m pc ls (.int i :: .ref a :: rest)) rfl (rest := rest) rfl (by rw [hb]; exact hdg) t
  simp only [arrV_size] at h1
  exact h1 st
theorem vx_lastZ {D : va_G} {cl : List vw_C} {ws : va_W} {tys : List (ClassId × FieldType)} {a : Nat} (hexec : p.tables.exec = Jvm.exec) (hb : c.code = cc) (hK : va_K D cl tys s) (hP : va_P D cl ws H) (q0 t0 : Nat) {cA : ClassId} {n : Nat} {f : Nat → Int64} (ha : ws[q0]? = some (a, .inl (cA, n, .inr (.inl f)))) (ht : tys[t0]? = some (cA, .long)) {i : Int32} {x : Int64} (hout : ¬ vp_in i n) (hdg : decode cc pc = .ok (.lastore, 1))
    (k : ∀ tx : String, tx = (toString "Index " ++ toString i ++ toString " out of bounds for length " ++ toString n : String) → vx_Note p l e R s m args below meth c H locs cells slots Q (F0 m pc ls rest) "java/lang/ArrayIndexOutOfBoundsException" tx) : W p l e R s m args below meth c H locs cells slots Q (F0 m pc ls (.long x :: .int i :: .ref a :: rest)) := by
  intro T hT X
  obtain ⟨t, st, q⟩ := k _ rfl T hT X
  refine ⟨t, ?_, q⟩
  have h1 := X.lastoreOut hexec (by rw [hT]; exact hP q0 _ ha) ((hK.2 t0 _ ht).1 n (fun j => .long (f j))) (j := i) (by show (i < 0 ∨ (arrV _ _ _).slots.size ≤ _); rw [arrV_size]; exact Classical.byContradiction hout) (g := F0 m pc ls (.long x :: .int i :: .ref a :: rest)) rfl (rest := rest) rfl (by rw [hb]; exact hdg) t
  simp only [arrV_size] at h1
  exact h1 st
theorem vx_faldZ {D : va_G} {cl : List vw_C} {ws : va_W} {tys : List (ClassId × FieldType)} {a : Nat} (hexec : p.tables.exec = Jvm.exec) (hb : c.code = cc) (hK : va_K D cl tys s) (hP : va_P D cl ws H) (q0 t0 : Nat) {cA : ClassId} {n : Nat} {f : Nat → UInt32} (ha : ws[q0]? = some (a, .inl (cA, n, .inr (.inr (.inl f))))) (ht : tys[t0]? = some (cA, .float)) {i : Int32} (hout : ¬ vp_in i n) (hdg : decode cc pc = .ok (.faload, 1))
    (k : ∀ tx : String, tx = (toString "Index " ++ toString i ++ toString " out of bounds for length " ++ toString n : String) → vx_Note p l e R s m args below meth c H locs cells slots Q (F0 m pc ls rest) "java/lang/ArrayIndexOutOfBoundsException" tx) : W p l e R s m args below meth c H locs cells slots Q (F0 m pc ls (.int i :: .ref a :: rest)) := by
  intro T hT X
  obtain ⟨t, st, q⟩ := k _ rfl T hT X
  refine ⟨t, ?_, q⟩
  have h1 := X.faloadOut hexec (by rw [hT]; exact hP q0 _ ha) ((hK.2 t0 _ ht).1 n (fun j => .float (f j))) (j := i) (by show (i < 0 ∨ (arrV _ _ _).slots.size ≤ _); rw [arrV_size]; exact Classical.byContradiction hout) (g := F0 m pc ls (.int i :: .ref a :: rest)) rfl (rest := rest) rfl (by rw [hb]; exact hdg) t
  simp only [arrV_size] at h1
  exact h1 st
theorem vx_fastZ {D : va_G} {cl : List vw_C} {ws : va_W} {tys : List (ClassId × FieldType)} {a : Nat} (hexec : p.tables.exec = Jvm.exec) (hb : c.code = cc) (hK : va_K D cl tys s) (hP : va_P D cl ws H) (q0 t0 : Nat) {cA : ClassId} {n : Nat} {f : Nat → UInt32} (ha : ws[q0]? = some (a, .inl (cA, n, .inr (.inr (.inl f))))) (ht : tys[t0]? = some (cA, .float)) {i : Int32} {x : UInt32} (hout : ¬ vp_in i n) (hdg : decode cc pc = .ok (.fastore, 1))
    (k : ∀ tx : String, tx = (toString "Index " ++ toString i ++ toString " out of bounds for length " ++ toString n : String) → vx_Note p l e R s m args below meth c H locs cells slots Q (F0 m pc ls rest) "java/lang/ArrayIndexOutOfBoundsException" tx) : W p l e R s m args below meth c H locs cells slots Q (F0 m pc ls (.float x :: .int i :: .ref a :: rest)) := by
  intro T hT X
  obtain ⟨t, st, q⟩ := k _ rfl T hT X
  refine ⟨t, ?_, q⟩
  have h1 := X.fastoreOut hexec (by rw [hT]; exact hP q0 _ ha) ((hK.2 t0 _ ht).1 n (fun j => .float (f j))) (j := i) (by show (i < 0 ∨ (arrV _ _ _).slots.size ≤ _); rw [arrV_size]; exact Classical.byContradiction hout) (g := F0 m pc ls (.float x :: .int i :: .ref a :: rest)) rfl (rest := rest) rfl (by rw [hb]; exact hdg) t
  simp only [arrV_size] at h1
  exact h1 st
theorem vx_daldZ {D : va_G} {cl : List vw_C} {ws : va_W} {tys : List (ClassId × FieldType)} {a : Nat} (hexec : p.tables.exec = Jvm.exec) (hb : c.code = cc) (hK : va_K D cl tys s) (hP : va_P D cl ws H) (q0 t0 : Nat) {cA : ClassId} {n : Nat} {f : Nat → UInt64} (ha : ws[q0]? = some (a, .inl (cA, n, .inr (.inr (.inr (.inl f)))))) (ht : tys[t0]? = some (cA, .double)) {i : Int32} (hout : ¬ vp_in i n) (hdg : decode cc pc = .ok (.daload, 1))
    (k : ∀ tx : String, tx = (toString "Index " ++ toString i ++ toString " out of bounds for length " ++ toString n : String) → vx_Note p l e R s m args below meth c H locs cells slots Q (F0 m pc ls rest) "java/lang/ArrayIndexOutOfBoundsException" tx) : W p l e R s m args below meth c H locs cells slots Q (F0 m pc ls (.int i :: .ref a :: rest)) := by
  intro T hT X
  obtain ⟨t, st, q⟩ := k _ rfl T hT X
  refine ⟨t, ?_, q⟩
  have h1 := X.daloadOut hexec (by rw [hT]; exact hP q0 _ ha) ((hK.2 t0 _ ht).1 n (fun j => .double (f j))) (j := i) (by show (i < 0 ∨ (arrV _ _ _).slots.size ≤ _); rw [arrV_size]; exact Classical.byContradiction hout) (g := F0 m pc ls (.int i :: .ref a :: rest)) rfl (rest := rest) rfl (by rw [hb]; exact hdg) t
  simp only [arrV_size] at h1
  exact h1 st
theorem vx_dastZ {D : va_G} {cl : List vw_C} {ws : va_W} {tys : List (ClassId × FieldType)} {a : Nat} (hexec : p.tables.exec = Jvm.exec) (hb : c.code = cc) (hK : va_K D cl tys s) (hP : va_P D cl ws H) (q0 t0 : Nat) {cA : ClassId} {n : Nat} {f : Nat → UInt64} (ha : ws[q0]? = some (a, .inl (cA, n, .inr (.inr (.inr (.inl f)))))) (ht : tys[t0]? = some (cA, .double)) {i : Int32} {x : UInt64} (hout : ¬ vp_in i n) (hdg : decode cc pc = .ok (.dastore, 1))
    (k : ∀ tx : String, tx = (toString "Index " ++ toString i ++ toString " out of bounds for length " ++ toString n : String) → vx_Note p l e R s m args below meth c H locs cells slots Q (F0 m pc ls rest) "java/lang/ArrayIndexOutOfBoundsException" tx) : W p l e R s m args below meth c H locs cells slots Q (F0 m pc ls (.double x :: .int i :: .ref a :: rest)) := by
  intro T hT X
  obtain ⟨t, st, q⟩ := k _ rfl T hT X
  refine ⟨t, ?_, q⟩
  have h1 := X.dastoreOut hexec (by rw [hT]; exact hP q0 _ ha) ((hK.2 t0 _ ht).1 n (fun j => .double (f j))) (j := i) (by show (i < 0 ∨ (arrV _ _ _).slots.size ≤ _); rw [arrV_size]; exact Classical.byContradiction hout) (g := F0 m pc ls (.double x :: .int i :: .ref a :: rest)) rfl (rest := rest) rfl (by rw [hb]; exact hdg) t
  simp only [arrV_size] at h1
  exact h1 st
theorem vx_arraylengthN (hexec : p.tables.exec = Jvm.exec) (hb : c.code = cc) (hdg : decode cc pc = .ok (.arraylength, 1)) (k : vx_NoteN p l e R s m args below meth c H locs cells slots Q (F0 m pc ls rest)) : W p l e R s m args below meth c H locs cells slots Q (F0 m pc ls (.null :: rest)) := by
  intro T hT X
  obtain ⟨t, st, q⟩ := k T hT X
  exact ⟨t, X.arraylengthNull hexec (g := F0 m pc ls (.null :: rest)) rfl (rest := rest) rfl (by rw [hb]; exact hdg) t st, q⟩
theorem vx_ialoadN (hexec : p.tables.exec = Jvm.exec) (hb : c.code = cc) {i : Int32} (hdg : decode cc pc = .ok (.iaload, 1)) (k : vx_NoteN p l e R s m args below meth c H locs cells slots Q (F0 m pc ls rest)) : W p l e R s m args below meth c H locs cells slots Q (F0 m pc ls (.int i :: .null :: rest)) := by
  intro T hT X
  obtain ⟨t, st, q⟩ := k T hT X
  exact ⟨t, X.ialoadNull hexec (g := F0 m pc ls (.int i :: .null :: rest)) rfl (rest := rest) rfl (by rw [hb]; exact hdg) t st, q⟩
theorem vx_laloadN (hexec : p.tables.exec = Jvm.exec) (hb : c.code = cc) {i : Int32} (hdg : decode cc pc = .ok (.laload, 1)) (k : vx_NoteN p l e R s m args below meth c H locs cells slots Q (F0 m pc ls rest)) : W p l e R s m args below meth c H locs cells slots Q (F0 m pc ls (.int i :: .null :: rest)) := by
  intro T hT X
  obtain ⟨t, st, q⟩ := k T hT X
  exact ⟨t, X.laloadNull hexec (g := F0 m pc ls (.int i :: .null :: rest)) rfl (rest := rest) rfl (by rw [hb]; exact hdg) t st, q⟩
theorem vx_faloadN (hexec : p.tables.exec = Jvm.exec) (hb : c.code = cc) {i : Int32} (hdg : decode cc pc = .ok (.faload, 1)) (k : vx_NoteN p l e R s m args below meth c H locs cells slots Q (F0 m pc ls rest)) : W p l e R s m args below meth c H locs cells slots Q (F0 m pc ls (.int i :: .null :: rest)) := by
  intro T hT X
  obtain ⟨t, st, q⟩ := k T hT X
  exact ⟨t, X.faloadNull hexec (g := F0 m pc ls (.int i :: .null :: rest)) rfl (rest := rest) rfl (by rw [hb]; exact hdg) t st, q⟩
theorem vx_daloadN (hexec : p.tables.exec = Jvm.exec) (hb : c.code = cc) {i : Int32} (hdg : decode cc pc = .ok (.daload, 1)) (k : vx_NoteN p l e R s m args below meth c H locs cells slots Q (F0 m pc ls rest)) : W p l e R s m args below meth c H locs cells slots Q (F0 m pc ls (.int i :: .null :: rest)) := by
  intro T hT X
  obtain ⟨t, st, q⟩ := k T hT X
  exact ⟨t, X.daloadNull hexec (g := F0 m pc ls (.int i :: .null :: rest)) rfl (rest := rest) rfl (by rw [hb]; exact hdg) t st, q⟩
theorem vx_aaloadN (hexec : p.tables.exec = Jvm.exec) (hb : c.code = cc) {i : Int32} (hdg : decode cc pc = .ok (.aaload, 1)) (k : vx_NoteN p l e R s m args below meth c H locs cells slots Q (F0 m pc ls rest)) : W p l e R s m args below meth c H locs cells slots Q (F0 m pc ls (.int i :: .null :: rest)) := by
  intro T hT X
  obtain ⟨t, st, q⟩ := k T hT X
  exact ⟨t, X.aaloadNull hexec (g := F0 m pc ls (.int i :: .null :: rest)) rfl (rest := rest) rfl (by rw [hb]; exact hdg) t st, q⟩
theorem vx_baloadN (hexec : p.tables.exec = Jvm.exec) (hb : c.code = cc) {i : Int32} (hdg : decode cc pc = .ok (.baload, 1)) (k : vx_NoteN p l e R s m args below meth c H locs cells slots Q (F0 m pc ls rest)) : W p l e R s m args below meth c H locs cells slots Q (F0 m pc ls (.int i :: .null :: rest)) := by
  intro T hT X
  obtain ⟨t, st, q⟩ := k T hT X
  exact ⟨t, X.baloadNull hexec (g := F0 m pc ls (.int i :: .null :: rest)) rfl (rest := rest) rfl (by rw [hb]; exact hdg) t st, q⟩
theorem vx_caloadN (hexec : p.tables.exec = Jvm.exec) (hb : c.code = cc) {i : Int32} (hdg : decode cc pc = .ok (.caload, 1)) (k : vx_NoteN p l e R s m args below meth c H locs cells slots Q (F0 m pc ls rest)) : W p l e R s m args below meth c H locs cells slots Q (F0 m pc ls (.int i :: .null :: rest)) := by
  intro T hT X
  obtain ⟨t, st, q⟩ := k T hT X
  exact ⟨t, X.caloadNull hexec (g := F0 m pc ls (.int i :: .null :: rest)) rfl (rest := rest) rfl (by rw [hb]; exact hdg) t st, q⟩
theorem vx_saloadN (hexec : p.tables.exec = Jvm.exec) (hb : c.code = cc) {i : Int32} (hdg : decode cc pc = .ok (.saload, 1)) (k : vx_NoteN p l e R s m args below meth c H locs cells slots Q (F0 m pc ls rest)) : W p l e R s m args below meth c H locs cells slots Q (F0 m pc ls (.int i :: .null :: rest)) := by
  intro T hT X
  obtain ⟨t, st, q⟩ := k T hT X
  exact ⟨t, X.saloadNull hexec (g := F0 m pc ls (.int i :: .null :: rest)) rfl (rest := rest) rfl (by rw [hb]; exact hdg) t st, q⟩
theorem vx_iastoreN (hexec : p.tables.exec = Jvm.exec) (hb : c.code = cc) {x : Int32} {i : Int32} (hdg : decode cc pc = .ok (.iastore, 1)) (k : vx_NoteN p l e R s m args below meth c H locs cells slots Q (F0 m pc ls rest)) : W p l e R s m args below meth c H locs cells slots Q (F0 m pc ls (.int x :: .int i :: .null :: rest)) := by
  intro T hT X
  obtain ⟨t, st, q⟩ := k T hT X
  exact ⟨t, X.iastoreNull hexec (g := F0 m pc ls (.int x :: .int i :: .null :: rest)) rfl (rest := rest) rfl (by rw [hb]; exact hdg) t st, q⟩
theorem vx_lastoreN (hexec : p.tables.exec = Jvm.exec) (hb : c.code = cc) {x : Int64} {i : Int32} (hdg : decode cc pc = .ok (.lastore, 1)) (k : vx_NoteN p l e R s m args below meth c H locs cells slots Q (F0 m pc ls rest)) : W p l e R s m args below meth c H locs cells slots Q (F0 m pc ls (.long x :: .int i :: .null :: rest)) := by
  intro T hT X
  obtain ⟨t, st, q⟩ := k T hT X
  exact ⟨t, X.lastoreNull hexec (g := F0 m pc ls (.long x :: .int i :: .null :: rest)) rfl (rest := rest) rfl (by rw [hb]; exact hdg) t st, q⟩
theorem vx_fastoreN (hexec : p.tables.exec = Jvm.exec) (hb : c.code = cc) {x : UInt32} {i : Int32} (hdg : decode cc pc = .ok (.fastore, 1)) (k : vx_NoteN p l e R s m args below meth c H locs cells slots Q (F0 m pc ls rest)) : W p l e R s m args below meth c H locs cells slots Q (F0 m pc ls (.float x :: .int i :: .null :: rest)) := by
  intro T hT X
  obtain ⟨t, st, q⟩ := k T hT X
  exact ⟨t, X.fastoreNull hexec (g := F0 m pc ls (.float x :: .int i :: .null :: rest)) rfl (rest := rest) rfl (by rw [hb]; exact hdg) t st, q⟩
theorem vx_dastoreN (hexec : p.tables.exec = Jvm.exec) (hb : c.code = cc) {x : UInt64} {i : Int32} (hdg : decode cc pc = .ok (.dastore, 1)) (k : vx_NoteN p l e R s m args below meth c H locs cells slots Q (F0 m pc ls rest)) : W p l e R s m args below meth c H locs cells slots Q (F0 m pc ls (.double x :: .int i :: .null :: rest)) := by
  intro T hT X
  obtain ⟨t, st, q⟩ := k T hT X
  exact ⟨t, X.dastoreNull hexec (g := F0 m pc ls (.double x :: .int i :: .null :: rest)) rfl (rest := rest) rfl (by rw [hb]; exact hdg) t st, q⟩
theorem vx_bastoreN (hexec : p.tables.exec = Jvm.exec) (hb : c.code = cc) {x : Int32} {i : Int32} (hdg : decode cc pc = .ok (.bastore, 1)) (k : vx_NoteN p l e R s m args below meth c H locs cells slots Q (F0 m pc ls rest)) : W p l e R s m args below meth c H locs cells slots Q (F0 m pc ls (.int x :: .int i :: .null :: rest)) := by
  intro T hT X
  obtain ⟨t, st, q⟩ := k T hT X
  exact ⟨t, X.bastoreNull hexec (g := F0 m pc ls (.int x :: .int i :: .null :: rest)) rfl (rest := rest) rfl (by rw [hb]; exact hdg) t st, q⟩
theorem vx_castoreN (hexec : p.tables.exec = Jvm.exec) (hb : c.code = cc) {x : Int32} {i : Int32} (hdg : decode cc pc = .ok (.castore, 1)) (k : vx_NoteN p l e R s m args below meth c H locs cells slots Q (F0 m pc ls rest)) : W p l e R s m args below meth c H locs cells slots Q (F0 m pc ls (.int x :: .int i :: .null :: rest)) := by
  intro T hT X
  obtain ⟨t, st, q⟩ := k T hT X
  exact ⟨t, X.castoreNull hexec (g := F0 m pc ls (.int x :: .int i :: .null :: rest)) rfl (rest := rest) rfl (by rw [hb]; exact hdg) t st, q⟩
theorem vx_sastoreN (hexec : p.tables.exec = Jvm.exec) (hb : c.code = cc) {x : Int32} {i : Int32} (hdg : decode cc pc = .ok (.sastore, 1)) (k : vx_NoteN p l e R s m args below meth c H locs cells slots Q (F0 m pc ls rest)) : W p l e R s m args below meth c H locs cells slots Q (F0 m pc ls (.int x :: .int i :: .null :: rest)) := by
  intro T hT X
  obtain ⟨t, st, q⟩ := k T hT X
  exact ⟨t, X.sastoreNull hexec (g := F0 m pc ls (.int x :: .int i :: .null :: rest)) rfl (rest := rest) rfl (by rw [hb]; exact hdg) t st, q⟩
theorem vx_invokeN {own C : String} {index maxL : Nat} {y : MethodName} {bytes : ByteArray} {ret : Option FieldType} (hexec : p.tables.exec = Jvm.exec) (hb : c.code = cc) (hown : s.vm.findClass own = some m.cls) (hlink : (Cond.methodLink own index y).before args s = true) (hinst : (Cond.instanceMethod y).before args s = true) (hcode : (Cond.code y bytes maxL ret).before args s = true) (hsel : (Cond.selects C y y).before args s = true)
    (hx : y.cls ≠ "java/lang/invoke/MethodHandle" ∧ y.cls ≠ "java/lang/invoke/VarHandle") {As : List Value} (hlen : (parseMethodDescriptor y.desc).map (fun d => d.parameters.length) = some As.length) (hdg : decode cc pc = .ok (.invokevirtual index, 3))
    (k : vx_NoteN p l e R s m args below meth c H locs cells slots Q (F0 m pc ls rest)) {st0 : List Value} (hst : st0 = As.reverse ++ .null :: rest) : W p l e R s m args below meth c H locs cells slots Q (F0 m pc ls st0) := by
  intro T hT X
  obtain ⟨r0, r, hn, hrm, hstR, hsigR⟩ := va_Decl.of hinst hcode
  obtain ⟨c2, r2, m2, q1, q2, q3, q4, kP, hkP, hkPi⟩ := Cond.selects_spec hsel
  cases hn.symm.trans q3
  have hl9 : As.length = r.sig.parameters.length := by
    rw [hsigR] at hlen
    exact (Option.some.inj hlen).symm
  obtain ⟨vm', X1, st1⟩ := X.invokevirtualNull hexec hown hlink hn hrm hstR hkP hkPi hx (g := F0 m pc ls st0) rfl (argsL := As) (rest := rest) hl9 hst (by rw [hb]; exact hdg)
  obtain ⟨t, st, q⟩ := k (T.setVm vm') hT X1
  exact ⟨t, st1 t st, q⟩
theorem vx_newarrayZ {atype : ArrayType} (hexec : p.tables.exec = Jvm.exec) (hb : c.code = cc) {n : Int32} (h0 : n < 0) (hdg : decode cc pc = .ok (.newarray atype, 2)) (k : ∀ tx : String, tx = toString n → vx_Note p l e R s m args below meth c H locs cells slots Q (F0 m pc ls rest) "java/lang/NegativeArraySizeException" tx) : W p l e R s m args below meth c H locs cells slots Q (F0 m pc ls (.int n :: rest)) := by
  intro T hT X
  obtain ⟨t, st, q⟩ := k _ rfl T hT X
  exact ⟨t, X.newarrayNegative hexec (g := F0 m pc ls (.int n :: rest)) rfl h0 (rest := rest) rfl (by rw [hb]; exact hdg) t st, q⟩
end
end VXM
/-! ===== END ===== -/
/-! ===== BEGIN an exception as an object: made, kept, thrown later (no traces kept) ===== -/
section VXK
variable {p : Program} {l : Launch} {e : Env} {R : Room} {s : State} {m₀ : MethodId} {args : Array Value} {below : List Frame} {meth : Method} {c : Code} {W : State} {locs : List Loc} {cells slots : Nat}
set_option maxHeartbeats 1000000 in
theorem vx_ctorMadeS (X : Stand p l e R s m₀ args below meth c W locs cells slots) (hexec : p.tables.exec = Jvm.exec) (htr : e.platform.stackTraces = false) {own cls : String} {names : List String} {ic : Nat}
    (hown : s.vm.findClass own = some m₀.cls) (hcls : Bundle.fit cls = true) (hnames : ∀ n ∈ names, Bundle.fit n = true)
    (h : ∀ a ∈ Bundle.ownAtoms own ic cls names, a.before args s = true)
    (hlocs : ∀ x ∈ locs, ∀ cell, s.heap[x.base]? = some cell → cell.vm.isStatics = false)
    {a : Addr} {cX : ClassId} {kX : Class} (hfoundX : s.vm.findClass cls = some cX) (hkX : s.vm.classes[cX]? = some kX) (hcell : W.heap[a]? = some (freshCell cX kX)) (hnew : s.heap.size ≤ a)
    {msg : Value} (hmsg : msg.isRef = true)
    {g : JFrame} (hg : g.method = m₀) (hsize : g.locals.size = c.maxLocals) {rest : List Value} (hstack : g.stack = msg :: .ref a :: .ref a :: rest)
    (hd6 : decode c.code g.pc = .ok (.invokespecial ic, 3))
    (hRframes : names.length + 3 < R.frames) (hRlocals : 2 * g.monitorRoom + ((Value.ref a :: rest).map fun v => v.category).sum + (13 * (names.length + 1) + 42) ≤ R.locals) :
    ∃ (V : State) (ce : Cell) (L : List Loc), Stand p l e R s m₀ args below meth c (V.setCell a ce) (locs ++ L) cells slots ∧ (∀ y ∈ L, y.base = a) ∧ a < V.heap.size ∧ ce.cls = cX ∧ ce.vm = .none ∧
      ∀ target, Steps p.tables e below ((V.setCell a ce).setTop { g with stack := .ref a :: rest, pc := g.pc + 3 }) target → Steps p.tables e below (W.setTop g) target := by
  have howns : e.platform.frameOwnsMonitors = true := by rw [X.admits.platform]
  have hfin : e.platform.finalization = false := by rw [X.admits.platform]
  have hpl : e.platform.magicAccessors = ({} : Platform).magicAccessors := by rw [X.admits.platform]
  have a' : ∀ x, x ∈ Bundle.ownAtoms own ic cls names → x.holds args s none s [] = true := fun x hx => h x hx
  obtain ⟨T, Z0, L, -, Y⟩ := ThrowableC.of_atoms (args := args) howns hfin hpl (fun x hx => h x (by simp [Bundle.ownAtoms, hx]))
  obtain ⟨Z, M, LZ, LM, hnZ⟩ := Init0T.ofS_atoms (args := args) hpl L Y (fun x hx => h x (by simp [Bundle.ownAtoms, hx]))
  obtain ⟨P1, Ps, hlen, L1, hL, hP1m, hlink1, hlink⟩ := Bundle.chainS (args := args) hpl hnZ names cls hcls hnames (fun x hx => h x (by simp [Bundle.ownAtoms, hx]))
  have hfound : s.vm.findClass cls = some P1.m.cls := findClass_of_methodNamed hP1m
  cases Option.some.inj (hfoundX.symm.trans hfound)
  obtain ⟨c1, kX', hc1, hk, hord, -, -, hn6⟩ := Cond.instantiable_spec (a' (.instantiable cls 6) (by simp [Bundle.ownAtoms]))
  cases Option.some.inj (hc1.symm.trans hfound)
  cases Option.some.inj (hkX.symm.trans hk)
  have hsel0 : selectMethod e.platform s.vm P1.m.cls T.fill0 = .method T.fill0 := by
    obtain ⟨c2, r2, m2, q1, q2, q3, q4, -⟩ := Cond.selects_spec (a' (.selects cls Bundle.tFill0 Bundle.tFill0) (by simp [Bundle.ownAtoms]))
    cases Option.some.inj (q1.symm.trans hfound)
    cases Option.some.inj (q2.symm.trans (State.methodFound?_of_named Y.fill0 (by decide)))
    cases Option.some.inj (q3.symm.trans Y.fill0)
    rw [Launch.admits_selectMethod X.admits]; exact q4
  have hselF : selectMethod e.platform s.vm P1.m.cls T.fill = .method T.fill := by
    obtain ⟨c2, r2, m2, q1, q2, q3, q4, -⟩ := Cond.selects_spec (a' (.selects cls Bundle.tFill Bundle.tFill) (by simp [Bundle.ownAtoms]))
    cases Option.some.inj (q1.symm.trans hfound)
    cases Option.some.inj (q2.symm.trans (State.methodFound?_of_named Y.fill (by decide)))
    cases Option.some.inj (q3.symm.trans Y.fill)
    rw [Launch.admits_selectMethod X.admits]; exact q4
  obtain ⟨cellS0, hcS0, hiss⟩ := Y.statics
  obtain ⟨u0, hu0⟩ := Cond.staticRefV Y.unassigned L.unassignedStatic L.statics hcS0 hiss (a' (.isRef (.static Bundle.tN "UNASSIGNED_STACK" Bundle.steD)) (by simp [Bundle.ownAtoms]))
  obtain ⟨sen, hsen⟩ := Cond.staticRefV Y.sentinel L.sentinelStatic L.statics hcS0 hiss (a' (.isRef (.static Bundle.tN "SUPPRESSED_SENTINEL" Bundle.listD)) (by simp [Bundle.ownAtoms]))
  obtain ⟨ci198, i198, fB, hk198, hg198, ha198, hsB, -, hnB, htB, hffB⟩ := Cond.ownField (t := .object "java/lang/Object") Y.found L.cls (by decide +kernel) (a' (.fieldLink Bundle.tN 198 Bundle.tN "backtrace" "Ljava/lang/Object;") (by simp [Bundle.ownAtoms])) (a' (.lays Bundle.tN Bundle.tN "backtrace" "Ljava/lang/Object;") (by simp [Bundle.ownAtoms])) e.platform hpl
  obtain ⟨cellS, hcS', heS, -, hkeep⟩ := X.same.2.2.2.2.2 T.aS cellS0 hcS0
  have hcellS : W.heap[T.aS]? = some cellS := hcS'
  have hout' : ∀ i, (⟨T.aS, i⟩ : Loc) ∉ locs := fun i hmem => by
    have := hlocs _ hmem cellS0 hcS0
    rw [hiss] at this; cases this
  have hknownS : cellS.vm ≠ .unknown := by
    rw [heS]; intro hu
    rw [show cellS0.vm = .unknown from hu] at hiss
    cases hiss
  have hneS : T.aS ≠ a := Nat.ne_of_lt (Nat.lt_of_lt_of_le (Array.getElem?_eq_some_iff.mp hcS0).1 hnew)
  obtain ⟨iM, hffM⟩ := Y.msg
  obtain ⟨tyC, dC, hdC, hdnC⟩ := Cond.laysAt hfound hk Y.cause (a' (.lays cls Bundle.tN "cause" "Ljava/lang/Throwable;") (by simp [Bundle.ownAtoms]))
  obtain ⟨tyS, dS, hdS, hdnS⟩ := Cond.laysAt hfound hk Y.stack (a' (.lays cls Bundle.tN "stackTrace" Bundle.steD) (by simp [Bundle.ownAtoms]))
  obtain ⟨tyP, dP, hdP, hdnP⟩ := Cond.laysAt hfound hk Y.supp (a' (.lays cls Bundle.tN "suppressedExceptions" Bundle.listD) (by simp [Bundle.ownAtoms]))
  obtain ⟨tyM, dM, hdM, hdnM⟩ := Cond.laysAt hfound hk hffM (a' (.lays cls Bundle.tN "detailMessage" "Ljava/lang/String;") (by simp [Bundle.ownAtoms]))
  obtain ⟨tyB, dB, hdB, hdnB⟩ := Cond.laysAt hfound hk hffB (a' (.lays cls Bundle.tN "backtrace" "Ljava/lang/Object;") (by simp [Bundle.ownAtoms]))
  have bC := Cond.laysApart hdB hdC hdnB hdnC (by rw [hnB, Y.causeName]; decide)
  have bS := Cond.laysApart hdB hdS hdnB hdnS (by rw [hnB, Y.stackName]; decide)
  have bP := Cond.laysApart hdB hdP hdnB hdnP (by rw [hnB, Y.suppName]; decide)
  have hskip : SkipFacts T e.platform s (fun u => u) u0 ((preparedCellV T.toThrowableT (freshCell P1.m.cls kX) a u0 sen).withEntry W.cur) :=
    ⟨{ ci198 := ci198, i198 := i198, fBack := fB }, ⟨hk198, hg198, ha198, hsB⟩, by
      have := fresh_default (c := P1.m.cls) tyB
      rw [htB] at this
      simpa [preparedCellV, Cell.setSlot, Cell.withEntry, Array.getElem?_setIfInBounds, bC, bS, bP, bC.symm, bS.symm, bP.symm, defaultValue] using this, fun _ _ => rfl⟩
  obtain ⟨tm, methC, cdC, kC, vm₁, hnC, -, -, -, -, -, -, -, hW₁, st1⟩ := Steps.initColdS (tb := p.tables) (e := e) (below := below) (s := s) (U := W) X.here hexec X.warmed hpl hown (t := Bundle.initS cls) rfl rfl (Bundle.fit_spec hcls).2
    (a' (.methodLink own ic (Bundle.initS cls)) (by simp [Bundle.ownAtoms])) (h (.instanceMethod (Bundle.initS cls)) (by cases names <;> simp [Bundle.ownAtoms, Bundle.chainSAtoms, Bundle.passSAtoms])) (bytes := Bundle.six) (maxL := 2) (h (.code (Bundle.initS cls) Bundle.six 2 none) (by cases names <;> simp [Bundle.ownAtoms, Bundle.chainSAtoms, Bundle.passSAtoms]))
    (f := g) hg (a := a) (msg := msg) (rest := .ref a :: rest) hstack hd6
  cases Option.some.inj (hnC.symm.trans hP1m)
  have X₁ := X.noted hW₁
  obtain ⟨vm₂, X₂, st2⟩ := X₁.ctorMessageOffV hexec (g := { g with stack := .ref a :: rest }) hg hsize T L Z LZ M LM (P1 :: Ps)
    (fun P hP => by rcases List.mem_cons.mp hP with rfl | hP; exact L1; exact hL P hP) ⟨hlink1, hlink⟩ (u0 := u0) (sen := sen) (self := a) hmsg (cell := freshCell P1.m.cls kX) (cellS := cellS)
    hcell (fun _ => by simp) (by simp) rfl rfl hsel0 hselF hcellS hneS hknownS (by rw [hkeep _ (hout' _)]; exact hu0) (by rw [hkeep _ (hout' _)]; exact hsen)
    (Takes.of_laid hk hord tyC (by rw [Y.causeType]; rfl)) (Takes.of_laid hk hord tyS (by rw [Y.stackType]; exact fits_refV_array _ u0)) (Takes.of_laid hk hord tyP (by rw [Y.suppType]; exact fits_refV_object _ sen))
    (Takes.of_laid hk hord tyM (by rw [Y.msgType]; exact fits_refV_object _ ⟨msg, hmsg⟩)) Y.objLocals hskip htr [] hd6
    (by simp only [List.length_cons, hlen]; omega) (by simp only [List.length_cons, hlen]; exact hRlocals)
  have hlt : a < ((W.setVm vm₁).setVm vm₂).heap.size := (Array.getElem?_eq_some_iff.mp hcell).1
  refine ⟨(W.setVm vm₁).setVm vm₂, _, _, X₂, fun y hy => ?_, hlt, rfl, rfl, fun target hwalk => st1 _ (fun acts => ?_)⟩
  · simp only [List.mem_cons, List.not_mem_nil, or_false] at hy
    rcases hy with rfl | rfl | rfl | rfl | rfl <;> rfl
  · rw [doInvoke_state]
    exact st2 _ hwalk
set_option maxHeartbeats 1000000 in
theorem vx_ctorMade0 (X : Stand p l e R s m₀ args below meth c W locs cells slots) (hexec : p.tables.exec = Jvm.exec) (htr : e.platform.stackTraces = false) {own cls : String} {names : List String} {ic : Nat}
    (hown : s.vm.findClass own = some m₀.cls) (hcls : Bundle.fit cls = true) (hnames : ∀ n ∈ names, Bundle.fit n = true)
    (h : ∀ a ∈ Bundle.ownAtoms0 own ic cls names, a.before args s = true)
    (hlocs : ∀ x ∈ locs, ∀ cell, s.heap[x.base]? = some cell → cell.vm.isStatics = false)
    {a : Addr} {cX : ClassId} {kX : Class} (hfoundX : s.vm.findClass cls = some cX) (hkX : s.vm.classes[cX]? = some kX) (hcell : W.heap[a]? = some (freshCell cX kX)) (hnew : s.heap.size ≤ a)
    {g : JFrame} (hg : g.method = m₀) (hsize : g.locals.size = c.maxLocals) {rest : List Value} (hstack : g.stack = .ref a :: .ref a :: rest)
    (hd6 : decode c.code g.pc = .ok (.invokespecial ic, 3))
    (hRframes : names.length + 3 < R.frames) (hRlocals : 2 * g.monitorRoom + ((Value.ref a :: rest).map fun v => v.category).sum + (13 * (names.length + 1) + 41) ≤ R.locals) :
    ∃ (V : State) (ce : Cell) (L : List Loc), Stand p l e R s m₀ args below meth c (V.setCell a ce) (locs ++ L) cells slots ∧ (∀ y ∈ L, y.base = a) ∧ a < V.heap.size ∧ ce.cls = cX ∧ ce.vm = .none ∧
      ∀ target, Steps p.tables e below ((V.setCell a ce).setTop { g with stack := .ref a :: rest, pc := g.pc + 3 }) target → Steps p.tables e below (W.setTop g) target := by
  have howns : e.platform.frameOwnsMonitors = true := by rw [X.admits.platform]
  have hfin : e.platform.finalization = false := by rw [X.admits.platform]
  have hpl : e.platform.magicAccessors = ({} : Platform).magicAccessors := by rw [X.admits.platform]
  have a' : ∀ x, x ∈ Bundle.ownAtoms0 own ic cls names → x.holds args s none s [] = true := fun x hx => h x hx
  obtain ⟨T, Z, L, LZ, Y⟩ := ThrowableC.of_atoms (args := args) howns hfin hpl (fun x hx => h x (by simp [Bundle.ownAtoms0, hx]))
  obtain ⟨P1, Ps, hlen, L1, hL, hP1m, hlink1, hlink⟩ := Bundle.chain0 (args := args) hpl Y.init0 names cls hcls hnames (fun x hx => h x (by simp [Bundle.ownAtoms0, hx]))
  have hfound : s.vm.findClass cls = some P1.m.cls := findClass_of_methodNamed hP1m
  cases Option.some.inj (hfoundX.symm.trans hfound)
  obtain ⟨c1, kX', hc1, hk, hord, -, -, hn6⟩ := Cond.instantiable_spec (a' (.instantiable cls 6) (by simp [Bundle.ownAtoms0]))
  cases Option.some.inj (hc1.symm.trans hfound)
  cases Option.some.inj (hkX.symm.trans hk)
  have hsel0 : selectMethod e.platform s.vm P1.m.cls T.fill0 = .method T.fill0 := by
    obtain ⟨c2, r2, m2, q1, q2, q3, q4, -⟩ := Cond.selects_spec (a' (.selects cls Bundle.tFill0 Bundle.tFill0) (by simp [Bundle.ownAtoms0]))
    cases Option.some.inj (q1.symm.trans hfound)
    cases Option.some.inj (q2.symm.trans (State.methodFound?_of_named Y.fill0 (by decide)))
    cases Option.some.inj (q3.symm.trans Y.fill0)
    rw [Launch.admits_selectMethod X.admits]; exact q4
  have hselF : selectMethod e.platform s.vm P1.m.cls T.fill = .method T.fill := by
    obtain ⟨c2, r2, m2, q1, q2, q3, q4, -⟩ := Cond.selects_spec (a' (.selects cls Bundle.tFill Bundle.tFill) (by simp [Bundle.ownAtoms0]))
    cases Option.some.inj (q1.symm.trans hfound)
    cases Option.some.inj (q2.symm.trans (State.methodFound?_of_named Y.fill (by decide)))
    cases Option.some.inj (q3.symm.trans Y.fill)
    rw [Launch.admits_selectMethod X.admits]; exact q4
  obtain ⟨cellS0, hcS0, hiss⟩ := Y.statics
  obtain ⟨u0, hu0⟩ := Cond.staticRefV Y.unassigned L.unassignedStatic L.statics hcS0 hiss (a' (.isRef (.static Bundle.tN "UNASSIGNED_STACK" Bundle.steD)) (by simp [Bundle.ownAtoms0]))
  obtain ⟨sen, hsen⟩ := Cond.staticRefV Y.sentinel L.sentinelStatic L.statics hcS0 hiss (a' (.isRef (.static Bundle.tN "SUPPRESSED_SENTINEL" Bundle.listD)) (by simp [Bundle.ownAtoms0]))
  obtain ⟨ci198, i198, fB, hk198, hg198, ha198, hsB, -, hnB, htB, hffB⟩ := Cond.ownField (t := .object "java/lang/Object") Y.found L.cls (by decide +kernel) (a' (.fieldLink Bundle.tN 198 Bundle.tN "backtrace" "Ljava/lang/Object;") (by simp [Bundle.ownAtoms0])) (a' (.lays Bundle.tN Bundle.tN "backtrace" "Ljava/lang/Object;") (by simp [Bundle.ownAtoms0])) e.platform hpl
  obtain ⟨cellS, hcS', heS, -, hkeep⟩ := X.same.2.2.2.2.2 T.aS cellS0 hcS0
  have hcellS : W.heap[T.aS]? = some cellS := hcS'
  have hout' : ∀ i, (⟨T.aS, i⟩ : Loc) ∉ locs := fun i hmem => by
    have := hlocs _ hmem cellS0 hcS0
    rw [hiss] at this; cases this
  have hknownS : cellS.vm ≠ .unknown := by
    rw [heS]; intro hu
    rw [show cellS0.vm = .unknown from hu] at hiss
    cases hiss
  have hneS : T.aS ≠ a := Nat.ne_of_lt (Nat.lt_of_lt_of_le (Array.getElem?_eq_some_iff.mp hcS0).1 hnew)
  obtain ⟨iM, hffM⟩ := Y.msg
  obtain ⟨tyC, dC, hdC, hdnC⟩ := Cond.laysAt hfound hk Y.cause (a' (.lays cls Bundle.tN "cause" "Ljava/lang/Throwable;") (by simp [Bundle.ownAtoms0]))
  obtain ⟨tyS, dS, hdS, hdnS⟩ := Cond.laysAt hfound hk Y.stack (a' (.lays cls Bundle.tN "stackTrace" Bundle.steD) (by simp [Bundle.ownAtoms0]))
  obtain ⟨tyP, dP, hdP, hdnP⟩ := Cond.laysAt hfound hk Y.supp (a' (.lays cls Bundle.tN "suppressedExceptions" Bundle.listD) (by simp [Bundle.ownAtoms0]))
  obtain ⟨tyM, dM, hdM, hdnM⟩ := Cond.laysAt hfound hk hffM (a' (.lays cls Bundle.tN "detailMessage" "Ljava/lang/String;") (by simp [Bundle.ownAtoms0]))
  obtain ⟨tyB, dB, hdB, hdnB⟩ := Cond.laysAt hfound hk hffB (a' (.lays cls Bundle.tN "backtrace" "Ljava/lang/Object;") (by simp [Bundle.ownAtoms0]))
  have bC := Cond.laysApart hdB hdC hdnB hdnC (by rw [hnB, Y.causeName]; decide)
  have bS := Cond.laysApart hdB hdS hdnB hdnS (by rw [hnB, Y.stackName]; decide)
  have bP := Cond.laysApart hdB hdP hdnB hdnP (by rw [hnB, Y.suppName]; decide)
  have hskip : SkipFacts T e.platform s (fun u => u) u0 ((preparedCellV T.toThrowableT (freshCell P1.m.cls kX) a u0 sen).withEntry W.cur) :=
    ⟨{ ci198 := ci198, i198 := i198, fBack := fB }, ⟨hk198, hg198, ha198, hsB⟩, by
      have := fresh_default (c := P1.m.cls) tyB
      rw [htB] at this
      simpa [preparedCellV, Cell.setSlot, Cell.withEntry, Array.getElem?_setIfInBounds, bC, bS, bP, bC.symm, bS.symm, bP.symm, defaultValue] using this, fun _ _ => rfl⟩
  obtain ⟨tm, methC, cdC, kC, vm₁, hnC, -, -, -, -, -, -, -, hW₁, st1⟩ := Steps.initCold (tb := p.tables) (e := e) (below := below) (s := s) (U := W) X.here hexec X.warmed hpl hown (t := Bundle.init0 cls) rfl rfl (Bundle.fit_spec hcls).2
    (a' (.methodLink own ic (Bundle.init0 cls)) (by simp [Bundle.ownAtoms0])) (h (.instanceMethod (Bundle.init0 cls)) (by cases names <;> simp [Bundle.ownAtoms0, Bundle.chain0Atoms, Bundle.passAtoms])) (bytes := Bundle.five) (maxL := 1) (h (.code (Bundle.init0 cls) Bundle.five 1 none) (by cases names <;> simp [Bundle.ownAtoms0, Bundle.chain0Atoms, Bundle.passAtoms]))
    (f := g) hg (a := a) (rest := .ref a :: rest) hstack hd6
  cases Option.some.inj (hnC.symm.trans hP1m)
  have X₁ := X.noted hW₁
  obtain ⟨vm₂, X₂, st2⟩ := X₁.ctorPlainOffV hexec (g := { g with stack := .ref a :: rest }) hg hsize T L Z LZ (P1 :: Ps)
    (fun P hP => by rcases List.mem_cons.mp hP with rfl | hP; exact L1; exact hL P hP) ⟨hlink1, hlink⟩ (u0 := u0) (sen := sen) (self := a) (cell := freshCell P1.m.cls kX) (cellS := cellS)
    hcell (fun _ => by simp) (by simp) rfl rfl hsel0 hselF hcellS hneS hknownS (by rw [hkeep _ (hout' _)]; exact hu0) (by rw [hkeep _ (hout' _)]; exact hsen)
    (Takes.of_laid hk hord tyC (by rw [Y.causeType]; rfl)) (Takes.of_laid hk hord tyS (by rw [Y.stackType]; exact fits_refV_array _ u0)) (Takes.of_laid hk hord tyP (by rw [Y.suppType]; exact fits_refV_object _ sen)) Y.objLocals hskip htr [] hd6
    (by simp only [List.length_cons, hlen]; omega) (by simp only [List.length_cons, hlen]; exact hRlocals)
  have hlt : a < ((W.setVm vm₁).setVm vm₂).heap.size := (Array.getElem?_eq_some_iff.mp hcell).1
  refine ⟨(W.setVm vm₁).setVm vm₂, _, _, X₂, fun y hy => ?_, hlt, rfl, rfl, fun target hwalk => st1 _ (fun acts => ?_)⟩
  · simp only [List.mem_cons, List.not_mem_nil, or_false] at hy
    rcases hy with rfl | rfl | rfl | rfl <;> rfl
  · rw [doInvoke_state]
    exact st2 _ hwalk
end VXK
section VXK2
variable {p : Program} {l : Launch} {e : Env} {R : Room} {s : State} {m : MethodId} {args : Array Value} {below : List Frame} {meth : Method} {c : Code} {H : Heap} {locs : List Loc} {cells slots : Nat} {Q : State → Prop}
variable {ls : Array Slot} {rest : List Value} {D : va_G} {cl : List vw_C} {tys : List (ClassId × FieldType)} {ws : va_W}
/-- 'new E("text")' that isn't thrown at once: the object goes on the stack -/
theorem vx_makeS {cc : ByteArray} {pc : Nat} (hexec : p.tables.exec = Jvm.exec) (hb : c.code = cc) (hl : l.stackTraces = false) {own cls text : String} {names : List String} {ik is ic sa ci : Nat} {A : Nat → Prop} {T0 : u_T}
    (hown : s.vm.findClass own = some m.cls) (hcls : Bundle.fit cls = true) (hnames : ∀ n ∈ names, Bundle.fit n = true)
    (hk : (Cond.classLink own ik cls).before args s = true) (hini : (Cond.initialized cls).before args s = true) (hstr : vk_R own is text sa s) (hat : ∀ w ∈ vx_atS own ic cls names, w.before args s = true)
    (hgood : ∀ w ∈ Cond.classLink own ik cls :: Cond.initialized cls :: vx_atS own ic cls names, vx_ot w = true)
    (hU : vx_Zq Bundle.tN "UNASSIGNED_STACK" Bundle.steD A s s.heap) (hN : vx_Zq Bundle.tN "SUPPRESSED_SENTINEL" Bundle.listD A s s.heap) (hS : va_S A s.heap H locs) (hsize : ls.size = c.maxLocals)
    (d0 : decode cc pc = .ok (.new ik, 3)) (d3 : decode cc (pc + 3) = .ok (.dup, 1)) (d4 : decode cc (pc + 4) = .ok (.ldc is, 2)) (d6 : decode cc (pc + 6) = .ok (.invokespecial ic, 3))
    (hK : va_K D cl tys s) (hP : va_P D cl ws H) (hD : va_D A ws) (hA : ∀ q, s.heap.size ≤ q → A q) (hc : cl[ci]? = some (cls, T0, 0))
    (hRframes : names.length + 3 < R.frames) (hRlocals : (rest.map fun v => v.category).sum + (13 * (names.length + 1) + 43) ≤ R.locals) (hRcells : cells + 1 ≤ R.cells) (hRslots : slots + 6 ≤ R.slots)
    (kk : ∀ (q : Nat) (H1 : Heap), va_P D cl (ws ++ [(q, .inr (ci, []))]) H1 → va_D A (ws ++ [(q, .inr (ci, []))]) → va_S A s.heap H1 locs → W p l e R s m args below meth c H1 locs (cells + 1) (slots + 6) Q (F0 m (pc + 9) ls (.ref q :: rest))) :
    W p l e R s m args below meth c H locs cells slots Q (F0 m pc ls rest) := by
  intro T hT X
  subst hT
  have htr : e.platform.stackTraces = false := (show e.platform.stackTraces = l.stackTraces by rw [X.admits.platform]).trans hl
  have Y := vx_rebase X (R' := { frames := R.frames, locals := R.locals, cells := 1, slots := 6 }) (Nat.le_refl _) (Nat.le_refl _) hRcells hRslots
  obtain ⟨s', hA'⟩ : ∃ z, z = (T.setVm s.vm).setFrames (.invoking m args :: below) := ⟨_, rfl⟩
  rw [← hA'] at Y
  have hvm : s'.vm = s.vm := by rw [hA']; rfl
  have hhp : s'.heap = T.heap := by rw [hA']; rfl
  have hW0 : s.WarmedH s'.vm := by rw [hvm]; exact State.WarmedH.refl s
  have hat' : ∀ w ∈ vx_atS own ic cls names, w.before args s' = true := fun w hw => vx_ot_at hW0 hvm.symm (hgood w (List.mem_cons_of_mem _ (List.mem_cons_of_mem _ hw))) (hat w hw)
  have hk' : (Cond.classLink own ik cls).before args s' = true := vx_ot_at hW0 hvm.symm (hgood _ List.mem_cons_self) hk
  have hini' : (Cond.initialized cls).before args s' = true := vx_ot_at hW0 hvm.symm (hgood _ (List.mem_cons_of_mem _ List.mem_cons_self)) hini
  have hU' : vx_Zq Bundle.tN "UNASSIGNED_STACK" Bundle.steD A s' s'.heap := by rw [hhp]; exact vx_Zq.moved hW0.alike (hU.kept hS.2.1)
  have hN' : vx_Zq Bundle.tN "SUPPRESSED_SENTINEL" Bundle.listD A s' s'.heap := by rw [hhp]; exact vx_Zq.moved hW0.alike (hN.kept hS.2.1)
  have h : ∀ w ∈ Bundle.ownAtoms own ic cls names, w.before args s' = true := vx_own hat' (vx_isRefq hU'.1) (vx_isRefq hN'.1) hU'.2.word hN'.2.word
  have hown' : s'.vm.findClass own = some m.cls := by rw [hvm]; exact hown
  have hins : (Cond.instantiable cls 6).before args s' = true := h _ (by simp [Bundle.ownAtoms])
  obtain ⟨vm₁, cX, kX, hfX, hkX, -, -, X₁, st1⟩ := Y.newCold hexec (own := own) (C := cls) (index := ik) (n := 6) hown' hk' hins hini'
    (g := F0 m pc ls rest) rfl (by rw [hb]; exact d0) (Nat.le_refl _) (Nat.le_refl _)
  generalize hT1 : (T.setVm vm₁).pushCell { cls := cX, slots := kX.instanceTypes.map defaultValue, vm := .none } = T1 at X₁ st1
  have hcat : (Value.ref T.heap.size).category = 1 := rfl
  have hcellA : T1.heap[T.heap.size]? = some (freshCell cX kX) := by rw [← hT1]; exact State.heap_pushCell_size _ _
  have d3' : decode c.code (pc + 3) = .ok (.dup, 1) := by rw [hb]; exact d3
  have d4' : decode c.code (pc + 4) = .ok (.ldc is, 2) := by rw [hb]; exact d4
  have hstr' : vk_R own is text sa s' := vk_R.warm hW0 hstr
  obtain ⟨V, ce, L, Z, hL, hlt, hcl9, hvm9, st⟩ := vx_ctorMadeS X₁ hexec htr (own := own) (cls := cls) (names := names) (ic := ic) hown' hcls hnames h (fun x hx => nomatch hx) hfX hkX hcellA (by rw [hhp]; exact Nat.le_refl _) (msg := .ref sa) rfl
    (g := { method := m, pc := pc + 6, locals := ls, stack := .ref sa :: .ref T.heap.size :: .ref T.heap.size :: rest, locked := none }) rfl hsize (rest := rest) rfl
    (by rw [hb]; exact d6) hRframes (by simp only [List.map_cons, List.sum_cons, hcat]; omega)
  have Z0 := Stand.forget (locs := []) Z (fun y hy => by rw [hL y hy, hhp]; exact Nat.le_refl _)
  obtain ⟨f1, f2⟩ := vx_frame Z0.same
  rw [hhp] at f1 f2
  have hcid : ce.cls = D.1 ci := by
    rw [hcl9]
    have h1 := (hK.1 ci _ hc).2.1
    rw [hvm] at hfX
    exact Option.some.inj (hfX.symm.trans h1)
  have hh : (V.setCell T.heap.size ce).heap[T.heap.size]? = some ce := heapAt_setCell_self (s := V) ce hlt
  subst hA'
  have X5 := vx_back9 X Y Z0
  have X6 : Stand p l e R s m args below meth c (V.setCell T.heap.size ce) locs (cells + 1) (slots + 6) := { X5 with same := X5.same.mono (by omega) (by omega) }
  have hk9 : ∀ (k : Nat) (x : Nat × va_E), ws[k]? = some x → (V.setCell T.heap.size ce).heap[x.1]? = T.heap[x.1]? := fun k x hx => f2 x.1 ((hP k x hx).lt) (fun z hz => nomatch hz)
  obtain ⟨t, a1, b1⟩ := kk T.heap.size (V.setCell T.heap.size ce).heap ((hP.kept hk9).app (fun k x hx => by
      have hz : k < 1 := (List.getElem?_eq_some_iff.mp hx).1
      rw [show k = 0 by omega] at hx
      cases hx
      exact ⟨_, hc, ce, hh, hcid, hvm9, fun k hk => absurd hk (Nat.not_lt_zero k)⟩)) (hD.push hP rfl (hA _ hS.1)) ⟨Nat.le_trans hS.1 f1, fun q h1 h2 => (f2 q (Nat.lt_of_lt_of_le h1 hS.1) (fun z hz => nomatch hz)).trans (hS.2.1 q h1 h2), hS.2.2⟩ _ rfl X6
  refine ⟨t, st1 _ ?_, b1⟩
  show Steps p.tables e below (T1.setTop { method := m, pc := pc + 3, locals := ls, stack := .ref T.heap.size :: rest, locked := none }) _
  jvm_step X₁.here [X₁.here.top, hexec, d3', Value.category]
  exact X₁.ldcString hexec (own := own) (text := text) (index := is) (a := sa) hown' hstr'.1 hstr'.2
    (g := { method := m, pc := pc + 4, locals := ls, stack := .ref T.heap.size :: .ref T.heap.size :: rest, locked := none }) rfl d4' _ (st _ a1)
/-- 'new E()' that isn't thrown at once: the object goes on the stack -/
theorem vx_make0 {cc : ByteArray} {pc : Nat} (hexec : p.tables.exec = Jvm.exec) (hb : c.code = cc) (hl : l.stackTraces = false) {own cls : String} {names : List String} {ik ic ci : Nat} {A : Nat → Prop} {T0 : u_T}
    (hown : s.vm.findClass own = some m.cls) (hcls : Bundle.fit cls = true) (hnames : ∀ n ∈ names, Bundle.fit n = true)
    (hk : (Cond.classLink own ik cls).before args s = true) (hini : (Cond.initialized cls).before args s = true) (hat : ∀ w ∈ vx_at0 own ic cls names, w.before args s = true)
    (hgood : ∀ w ∈ Cond.classLink own ik cls :: Cond.initialized cls :: vx_at0 own ic cls names, vx_ot w = true)
    (hU : vx_Zq Bundle.tN "UNASSIGNED_STACK" Bundle.steD A s s.heap) (hN : vx_Zq Bundle.tN "SUPPRESSED_SENTINEL" Bundle.listD A s s.heap) (hS : va_S A s.heap H locs) (hsize : ls.size = c.maxLocals)
    (d0 : decode cc pc = .ok (.new ik, 3)) (d3 : decode cc (pc + 3) = .ok (.dup, 1)) (d4 : decode cc (pc + 4) = .ok (.invokespecial ic, 3))
    (hK : va_K D cl tys s) (hP : va_P D cl ws H) (hD : va_D A ws) (hA : ∀ q, s.heap.size ≤ q → A q) (hc : cl[ci]? = some (cls, T0, 0))
    (hRframes : names.length + 3 < R.frames) (hRlocals : (rest.map fun v => v.category).sum + (13 * (names.length + 1) + 42) ≤ R.locals) (hRcells : cells + 1 ≤ R.cells) (hRslots : slots + 6 ≤ R.slots)
    (kk : ∀ (q : Nat) (H1 : Heap), va_P D cl (ws ++ [(q, .inr (ci, []))]) H1 → va_D A (ws ++ [(q, .inr (ci, []))]) → va_S A s.heap H1 locs → W p l e R s m args below meth c H1 locs (cells + 1) (slots + 6) Q (F0 m (pc + 7) ls (.ref q :: rest))) :
    W p l e R s m args below meth c H locs cells slots Q (F0 m pc ls rest) := by
  intro T hT X
  subst hT
  have htr : e.platform.stackTraces = false := (show e.platform.stackTraces = l.stackTraces by rw [X.admits.platform]).trans hl
  have Y := vx_rebase X (R' := { frames := R.frames, locals := R.locals, cells := 1, slots := 6 }) (Nat.le_refl _) (Nat.le_refl _) hRcells hRslots
  obtain ⟨s', hA'⟩ : ∃ z, z = (T.setVm s.vm).setFrames (.invoking m args :: below) := ⟨_, rfl⟩
  rw [← hA'] at Y
  have hvm : s'.vm = s.vm := by rw [hA']; rfl
  have hhp : s'.heap = T.heap := by rw [hA']; rfl
  have hW0 : s.WarmedH s'.vm := by rw [hvm]; exact State.WarmedH.refl s
  have hat' : ∀ w ∈ vx_at0 own ic cls names, w.before args s' = true := fun w hw => vx_ot_at hW0 hvm.symm (hgood w (List.mem_cons_of_mem _ (List.mem_cons_of_mem _ hw))) (hat w hw)
  have hk' : (Cond.classLink own ik cls).before args s' = true := vx_ot_at hW0 hvm.symm (hgood _ List.mem_cons_self) hk
  have hini' : (Cond.initialized cls).before args s' = true := vx_ot_at hW0 hvm.symm (hgood _ (List.mem_cons_of_mem _ List.mem_cons_self)) hini
  have hU' : vx_Zq Bundle.tN "UNASSIGNED_STACK" Bundle.steD A s' s'.heap := by rw [hhp]; exact vx_Zq.moved hW0.alike (hU.kept hS.2.1)
  have hN' : vx_Zq Bundle.tN "SUPPRESSED_SENTINEL" Bundle.listD A s' s'.heap := by rw [hhp]; exact vx_Zq.moved hW0.alike (hN.kept hS.2.1)
  have h : ∀ w ∈ Bundle.ownAtoms0 own ic cls names, w.before args s' = true := vx_own hat' (vx_isRefq hU'.1) (vx_isRefq hN'.1) hU'.2.word hN'.2.word
  have hown' : s'.vm.findClass own = some m.cls := by rw [hvm]; exact hown
  have hins : (Cond.instantiable cls 6).before args s' = true := h _ (by simp [Bundle.ownAtoms0])
  obtain ⟨vm₁, cX, kX, hfX, hkX, -, -, X₁, st1⟩ := Y.newCold hexec (own := own) (C := cls) (index := ik) (n := 6) hown' hk' hins hini'
    (g := F0 m pc ls rest) rfl (by rw [hb]; exact d0) (Nat.le_refl _) (Nat.le_refl _)
  generalize hT1 : (T.setVm vm₁).pushCell { cls := cX, slots := kX.instanceTypes.map defaultValue, vm := .none } = T1 at X₁ st1
  have hcat : (Value.ref T.heap.size).category = 1 := rfl
  have hcellA : T1.heap[T.heap.size]? = some (freshCell cX kX) := by rw [← hT1]; exact State.heap_pushCell_size _ _
  have d3' : decode c.code (pc + 3) = .ok (.dup, 1) := by rw [hb]; exact d3
  obtain ⟨V, ce, L, Z, hL, hlt, hcl9, hvm9, st⟩ := vx_ctorMade0 X₁ hexec htr (own := own) (cls := cls) (names := names) (ic := ic) hown' hcls hnames h (fun x hx => nomatch hx) hfX hkX hcellA (by rw [hhp]; exact Nat.le_refl _)
    (g := { method := m, pc := pc + 4, locals := ls, stack := .ref T.heap.size :: .ref T.heap.size :: rest, locked := none }) rfl hsize (rest := rest) rfl
    (by rw [hb]; exact d4) hRframes (by simp only [List.map_cons, List.sum_cons, hcat]; omega)
  have Z0 := Stand.forget (locs := []) Z (fun y hy => by rw [hL y hy, hhp]; exact Nat.le_refl _)
  obtain ⟨f1, f2⟩ := vx_frame Z0.same
  rw [hhp] at f1 f2
  have hcid : ce.cls = D.1 ci := by
    rw [hcl9]
    have h1 := (hK.1 ci _ hc).2.1
    rw [hvm] at hfX
    exact Option.some.inj (hfX.symm.trans h1)
  have hh : (V.setCell T.heap.size ce).heap[T.heap.size]? = some ce := heapAt_setCell_self (s := V) ce hlt
  subst hA'
  have X5 := vx_back9 X Y Z0
  have X6 : Stand p l e R s m args below meth c (V.setCell T.heap.size ce) locs (cells + 1) (slots + 6) := { X5 with same := X5.same.mono (by omega) (by omega) }
  have hk9 : ∀ (k : Nat) (x : Nat × va_E), ws[k]? = some x → (V.setCell T.heap.size ce).heap[x.1]? = T.heap[x.1]? := fun k x hx => f2 x.1 ((hP k x hx).lt) (fun z hz => nomatch hz)
  obtain ⟨t, a1, b1⟩ := kk T.heap.size (V.setCell T.heap.size ce).heap ((hP.kept hk9).app (fun k x hx => by
      have hz : k < 1 := (List.getElem?_eq_some_iff.mp hx).1
      rw [show k = 0 by omega] at hx
      cases hx
      exact ⟨_, hc, ce, hh, hcid, hvm9, fun k hk => absurd hk (Nat.not_lt_zero k)⟩)) (hD.push hP rfl (hA _ hS.1)) ⟨Nat.le_trans hS.1 f1, fun q h1 h2 => (f2 q (Nat.lt_of_lt_of_le h1 hS.1) (fun z hz => nomatch hz)).trans (hS.2.1 q h1 h2), hS.2.2⟩ _ rfl X6
  refine ⟨t, st1 _ ?_, b1⟩
  show Steps p.tables e below (T1.setTop { method := m, pc := pc + 3, locals := ls, stack := .ref T.heap.size :: rest, locked := none }) _
  jvm_step X₁.here [X₁.here.top, hexec, d3', Value.category]
  exact st _ a1
/-- 'throw x' of an object that was made before -/
theorem vx_athrow {cc : ByteArray} {pc : Nat} (hexec : p.tables.exec = Jvm.exec) (hb : c.code = cc) {q : Addr} (hdg : decode cc pc = .ok (.athrow, 1)) (k : vx_W p l e R s m args below meth c H locs cells slots Q (F0 m pc ls rest) q) : W p l e R s m args below meth c H locs cells slots Q (F0 m pc ls (.ref q :: rest)) := by
  intro T hT X
  obtain ⟨t, st, hq⟩ := k T hT X
  refine ⟨t, ?_, hq⟩
  have hdg' : decode c.code pc = .ok (.athrow, 1) := by rw [hb]; exact hdg
  jvm_step X.here [X.here.top, hexec, hdg', athrow.wp_sem]
  exact st
end VXK2
/-! ===== END ===== -/
/-! ===== BEGIN a constructor that throws (launches without stack traces) ===== -/
section VXIA
variable {p : Program} {l : Launch} {e : Env} {R : Room} {s : State} {m : MethodId} {args : Array Value} {below : List Frame} {meth : Method} {c : Code} {T : State} {locs : List Loc} {cells slots : Nat}
theorem vx_callI (X : Stand p l e R s m args below meth c T locs cells slots) (hexec : p.tables.exec = Jvm.exec) {own : String} {index : Nat} {y : MethodName} {bytes : ByteArray} {maxL : Nat}
    (hown : s.vm.findClass own = some m.cls) (hy1 : y.name = "<init>") (hlink : (Cond.methodLink own index y).before args s = true) (hinst : (Cond.instanceMethod y).before args s = true)
    (hcode : (Cond.code y bytes maxL none).before args s = true) (hy : y.cls ≠ "java/lang/invoke/MethodHandle" ∧ y.cls ≠ "java/lang/invoke/VarHandle")
    {W9 : Nat} {Pre : Pt → Array Value → Prop} {Post : Pt → Array Value → Option Value → Pt → Prop} {PostX : Pt → Array Value → Addr → Pt → Prop} (hK : vx_Back l R p e below s args y 3 W9 Pre Post PostX)
    {g : JFrame} (hg : g.method = m) (hsize : g.locals.size = c.maxLocals) {a : Addr} {argsL rest : List Value} (hlen : ∀ sig, parseMethodDescriptor y.desc = some sig → argsL.length = sig.parameters.length)
    (hstack : g.stack = argsL.reverse ++ .ref a :: rest) (hW : 2 * g.monitorRoom + (rest.map fun v => v.category).sum ≤ W9) (hdg : decode c.code g.pc = .ok (.invokespecial index, 3))
    (hpre : ∀ vm₁, s.WarmedH vm₁ → Pre ⟨T.setVm vm₁, locs, cells, slots⟩ (Value.ref a :: argsL).toArray) :
    (∃ (v : Option Value) (vm₁ : Vm) (B : Pt), s.WarmedH vm₁ ∧ Stand p l e R s m args below meth c B.U B.locs B.cells B.slots ∧ Post ⟨T.setVm vm₁, locs, cells, slots⟩ (Value.ref a :: argsL).toArray v B ∧
      ∀ target, Steps p.tables e below (B.U.setTop { g with pc := g.pc + 3, stack := v.toList ++ rest }) target → Steps p.tables e below (T.setTop g) target) ∨
    (∃ (q : Addr) (vm₁ : Vm) (B : Pt), s.WarmedH vm₁ ∧ Stand p l e R s m args below meth c B.U B.locs B.cells B.slots ∧ PostX ⟨T.setVm vm₁, locs, cells, slots⟩ (Value.ref a :: argsL).toArray q B ∧
      Steps p.tables e below (T.setTop g) ((B.U.setTop { g with stack := rest }).pushFrame (.throwing q))) := by
  subst hg
  have hpl : e.platform.magicAccessors = ({} : Platform).magicAccessors := by rw [X.admits.platform]
  obtain ⟨mk, methM, cM, kP, vm₁, hnamed, hmethM, hcodeM, -, hlocalsM, -, hkP, -, hW₁, hstep₁⟩ := Steps.initColdArgs (e := e) X.here hexec X.warmed hpl hown hy1 hy hlink hinst hcode (f := g) rfl hlen hstack hdg
  have X₁ := X.noted hW₁
  rcases hK g.method meth c ⟨T.setVm vm₁, locs, cells, slots⟩ { g with stack := rest } (.invokespecial index) mk (Value.ref a :: argsL).toArray X₁ rfl hsize hdg hW (X₁.named hnamed) (hpre vm₁ X₁.warmed) with ⟨v, B, X', hpost, hsteps⟩ | ⟨q, B, X', hpost, hsteps⟩
  · exact Or.inl ⟨v, vm₁, B, X₁.warmed, X', hpost, fun target h => hstep₁ _ fun acts => by rw [doInvoke_state]; exact hsteps.trans h⟩
  · exact Or.inr ⟨q, vm₁, B, X₁.warmed, X', hpost, hstep₁ _ fun acts => by rw [doInvoke_state]; exact hsteps⟩
end VXIA
section VXIB
variable {p : Program} {l : Launch} {e : Env} {R : Room} {s : State} {m : MethodId} {args : Array Value} {below : List Frame} {meth : Method} {c : Code} {H : Heap} {locs : List Loc} {cells slots : Nat}
variable {y : MethodName} {bytes cc : ByteArray} {maxL nL mc ms n index : Nat} {ret : Option FieldType} {ws : List Cond} {rm : Room} {Pc : Array Value → State → Prop} {Qc : Array Value → State → Outcome → State → Prop} {XC : String → State → State → Prop} {free : Addr → Prop} {Ts : List Cond} {own C : String} {b : Addr} {As rest : List Value} {g : JFrame}
theorem vx_runI (S : CallFix p m c cc nL s args Ts own) (hM : vx_Met l y ws rm Pc Qc XC mc ms free) (cw : CallB R s args own index y bytes maxL none ws rm mc ms n ∧ y.name = "<init>" ∧ (Cond.instanceMethod y).before args s = true) (hp : PreS s H Pc (.ref b :: As))
    (hg : g.method = m) (hn : As.length = n) (hsize : g.locals.size = nL) (hstack : g.stack = As.reverse ++ .ref b :: rest) (hW : 2 * g.monitorRoom + (rest.map fun v => v.category).sum ≤ 8) (hdg : decode cc g.pc = .ok (.invokespecial index, 3)) (hf : cells + mc ≤ R.cells ∧ slots + ms ≤ R.slots) :
    vx_Run p l e R s m args below meth c H locs cells slots mc ms g rest (Qc (Value.ref b :: As).toArray) XC free := by
  have hK : vx_Back l R p e below s args y 3 8 (PreOf R mc ms Pc) (PostOf Qc mc ms free) (vx_Post XC mc ms free) := vx_callBack cw.1 hM hp.1
  obtain ⟨⟨-, -, -, -, -, -, hcode, -, hy, hlen, hl⟩, hy1, hin⟩ := cw
  obtain ⟨hx, hb, hml, ho, -⟩ := S
  have hPc := hp.2
  intro T hT X
  rcases vx_callI X hx (bytes := bytes) (maxL := maxL) ho hy1 hl hin hcode hy hK hg (hsize.trans hml.symm) (a := b) (argsL := As) (rest := rest) (fun sig h => hn.trans (hlen sig h)) hstack hW (by rw [hb]; exact hdg)
    (fun vm₁ hW₁ => ⟨hf.1, hf.2, hPc (T.setVm vm₁) hT hW₁⟩) with ⟨v, vm₁, ⟨U', l2, c2, s2⟩, hW₁, X', ⟨g', mk, t, L, e1, e2, hq, h1, hL, h2, h3⟩, st⟩ | ⟨q, vm₁, ⟨U', l2, c2, s2⟩, hW₁, X', ⟨g', mk, t, L, E, ce, e1, e2, hq, hce, hcv, hcl, h1, hL, h2, h3⟩, st⟩
  · dsimp only [Pt.U, Pt.locs, Pt.cells, Pt.slots] at X' e1 e2 h1 h2 h3 st
    subst h1; subst h2; subst h3
    exact Or.inl ⟨v, (T.setVm vm₁).calling g' mk (Value.ref b :: As).toArray, t, U', L, hT, X', hL, e1, e2, hq, st⟩
  · dsimp only [Pt.U, Pt.locs, Pt.cells, Pt.slots] at X' e1 e2 h1 h2 h3 st hcl
    subst h1; subst h2; subst h3
    exact Or.inr ⟨q, (T.setVm vm₁).calling g' mk (Value.ref b :: As).toArray, t, U', L, E, ce, hT, X', hL, e1, e2, hq, hce, hcv, vx_cls hW₁ hcl, st⟩
end VXIB
/-! ===== END ===== -/
/-! ===== BEGIN a private constructor of a nest mate that throws ===== -/
section VXIC
variable {p : Program} {l : Launch} {e : Env} {R : Room} {s : State} {m : MethodId} {args : Array Value} {below : List Frame} {meth : Method} {c : Code} {T : State} {locs : List Loc} {cells slots : Nat}
theorem vx_callIN (X : Stand p l e R s m args below meth c T locs cells slots) (hexec : p.tables.exec = Jvm.exec) {own : String} {index : Nat} {host : String} {y : MethodName} {bytes : ByteArray} {maxL : Nat}
    (hown : s.vm.findClass own = some m.cls) (hy1 : y.name = "<init>") (hlink : (Cond.methodLinkNest own index y host).before args s = true) (hinst : (Cond.instanceMethod y).before args s = true)
    (hcode : (Cond.code y bytes maxL none).before args s = true) (hy : y.cls ≠ "java/lang/invoke/MethodHandle" ∧ y.cls ≠ "java/lang/invoke/VarHandle")
    {W9 : Nat} {Pre : Pt → Array Value → Prop} {Post : Pt → Array Value → Option Value → Pt → Prop} {PostX : Pt → Array Value → Addr → Pt → Prop} (hK : vx_Back l R p e below s args y 3 W9 Pre Post PostX)
    {g : JFrame} (hg : g.method = m) (hsize : g.locals.size = c.maxLocals) {a : Addr} {argsL rest : List Value} (hlen : ∀ sig, parseMethodDescriptor y.desc = some sig → argsL.length = sig.parameters.length)
    (hstack : g.stack = argsL.reverse ++ .ref a :: rest) (hW : 2 * g.monitorRoom + (rest.map fun v => v.category).sum ≤ W9) (hdg : decode c.code g.pc = .ok (.invokespecial index, 3))
    (hpre : ∀ vm₁, s.WarmedH vm₁ → Pre ⟨T.setVm vm₁, locs, cells, slots⟩ (Value.ref a :: argsL).toArray) :
    (∃ (v : Option Value) (vm₁ : Vm) (B : Pt), s.WarmedH vm₁ ∧ Stand p l e R s m args below meth c B.U B.locs B.cells B.slots ∧ Post ⟨T.setVm vm₁, locs, cells, slots⟩ (Value.ref a :: argsL).toArray v B ∧
      ∀ target, Steps p.tables e below (B.U.setTop { g with pc := g.pc + 3, stack := v.toList ++ rest }) target → Steps p.tables e below (T.setTop g) target) ∨
    (∃ (q : Addr) (vm₁ : Vm) (B : Pt), s.WarmedH vm₁ ∧ Stand p l e R s m args below meth c B.U B.locs B.cells B.slots ∧ PostX ⟨T.setVm vm₁, locs, cells, slots⟩ (Value.ref a :: argsL).toArray q B ∧
      Steps p.tables e below (T.setTop g) ((B.U.setTop { g with stack := rest }).pushFrame (.throwing q))) := by
  subst hg
  have hpl : e.platform.magicAccessors = ({} : Platform).magicAccessors := by rw [X.admits.platform]
  obtain ⟨mk, methM, cM, kP, vm₁, hnamed, hmethM, hcodeM, -, hlocalsM, -, hkP, -, hW₁, hstep₁⟩ := Steps.initColdArgsNest (e := e) X.here hexec X.warmed hpl hown hy1 hy hlink hinst hcode (f := g) rfl hlen hstack hdg
  have X₁ := X.noted hW₁
  rcases hK g.method meth c ⟨T.setVm vm₁, locs, cells, slots⟩ { g with stack := rest } (.invokespecial index) mk (Value.ref a :: argsL).toArray X₁ rfl hsize hdg hW (X₁.named hnamed) (hpre vm₁ X₁.warmed) with ⟨v, B, X', hpost, hsteps⟩ | ⟨q, B, X', hpost, hsteps⟩
  · exact Or.inl ⟨v, vm₁, B, X₁.warmed, X', hpost, fun target h => hstep₁ _ fun acts => by rw [doInvoke_state]; exact hsteps.trans h⟩
  · exact Or.inr ⟨q, vm₁, B, X₁.warmed, X', hpost, hstep₁ _ fun acts => by rw [doInvoke_state]; exact hsteps⟩
end VXIC
section VXID
variable {p : Program} {l : Launch} {e : Env} {R : Room} {s : State} {m : MethodId} {args : Array Value} {below : List Frame} {meth : Method} {c : Code} {H : Heap} {locs : List Loc} {cells slots : Nat}
theorem vx_runIN {y : MethodName} {bytes cc : ByteArray} {maxL nL mc ms n index : Nat} {ws : List Cond} {rm : Room} {Pc : Array Value → State → Prop} {Qc : Array Value → State → Outcome → State → Prop} {XC : String → State → State → Prop} {free : Addr → Prop} {Ts : List Cond} {own host : String} {b : Addr} {As rest : List Value} {g : JFrame}
    (S : CallFix p m c cc nL s args Ts own) (hM : vx_Met l y ws rm Pc Qc XC mc ms free) (cw : va_CN R s args own index y host bytes maxL none ws rm mc ms n ∧ y.name = "<init>" ∧ (Cond.instanceMethod y).before args s = true) (hp : PreS s H Pc (.ref b :: As))
    (hg : g.method = m) (hn : As.length = n) (hsize : g.locals.size = nL) (hstack : g.stack = As.reverse ++ .ref b :: rest) (hW : 2 * g.monitorRoom + (rest.map fun v => v.category).sum ≤ 8) (hdg : decode cc g.pc = .ok (.invokespecial index, 3)) (hf : cells + mc ≤ R.cells ∧ slots + ms ≤ R.slots) :
    vx_Run p l e R s m args below meth c H locs cells slots mc ms g rest (Qc (Value.ref b :: As).toArray) XC free := by
  obtain ⟨⟨⟨hrc, hrs, hfr, hlo, hws, hcw⟩, hcode, hini, hy, hlen, hl⟩, hx1, hx2⟩ := cw
  have hK : vx_Back l R p e below s args y 3 8 (PreOf R mc ms Pc) (PostOf Qc mc ms free) (vx_Post XC mc ms free) := vx_back (bytes := bytes) (maxL := maxL) (ret := none) hM hp.1 hrc hrs hfr hlo hws hcw (fun a' U hW => word_at hW (Or.inl (by first | rfl | simp [Cond.onTables, Cond.keeps, Cond.steady])) hini)
  obtain ⟨hx, hb, hml, ho, -⟩ := S
  have hPc := hp.2
  intro T hT X
  rcases vx_callIN X hx (bytes := bytes) (maxL := maxL) ho hx1 hl hx2 hcode hy hK hg (hsize.trans hml.symm) (a := b) (argsL := As) (rest := rest) (fun sig h => hn.trans (hlen sig h)) hstack hW (by rw [hb]; exact hdg)
    (fun vm₁ hW₁ => ⟨hf.1, hf.2, hPc (T.setVm vm₁) hT hW₁⟩) with ⟨v, vm₁, ⟨U', l2, c2, s2⟩, hW₁, X', ⟨g', mk, t, L, e1, e2, hq, h1, hL, h2, h3⟩, st⟩ | ⟨q, vm₁, ⟨U', l2, c2, s2⟩, hW₁, X', ⟨g', mk, t, L, E, ce, e1, e2, hq, hce, hcv, hcl, h1, hL, h2, h3⟩, st⟩
  · dsimp only [Pt.U, Pt.locs, Pt.cells, Pt.slots] at X' e1 e2 h1 h2 h3 st
    subst h1; subst h2; subst h3
    exact Or.inl ⟨v, (T.setVm vm₁).calling g' mk (Value.ref b :: As).toArray, t, U', L, hT, X', hL, e1, e2, hq, st⟩
  · dsimp only [Pt.U, Pt.locs, Pt.cells, Pt.slots] at X' e1 e2 h1 h2 h3 st hcl
    subst h1; subst h2; subst h3
    exact Or.inr ⟨q, (T.setVm vm₁).calling g' mk (Value.ref b :: As).toArray, t, U', L, E, ce, hT, X', hL, e1, e2, hq, hce, hcv, vx_cls hW₁ hcl, st⟩
end VXID
/-! ===== END ===== -/
/-! ===== BEGIN a method of a class above, found by the receiver, that may throw (follows va_callVU, va_runU of this kit) ===== -/
section
variable {p : Program} {l : Launch} {e : Env} {R : Room} {s : State} {m : MethodId} {args : Array Value} {below : List Frame} {meth : Method} {c : Code} {H : Heap} {locs : List Loc} {cells slots : Nat}
theorem vx_callVU {T : State} {locs : List Loc} {cells slots : Nat} (X : Stand p l e R s m args below meth c T locs cells slots) (hexec : p.tables.exec = Jvm.exec) {own C owner : String} {index : Nat} {x y : MethodName} {bytes : ByteArray} {maxL : Nat} {ret : Option FieldType}
    (hown : s.vm.findClass own = some m.cls) (hlink : (Cond.methodLink own index x).before args s = true) (hsame : (Cond.sameMethod x.cls owner x.name x.desc).before args s = true)
    (hd0 : va_Decl s ⟨owner, x.name, x.desc⟩) (howner : owner ≠ "java/lang/invoke/MethodHandle" ∧ owner ≠ "java/lang/invoke/VarHandle")
    (hsel : (Cond.selects C x y).before args s = true) (hinst : (Cond.instanceMethod y).before args s = true) (hcode : (Cond.code y bytes maxL ret).before args s = true)
    {W : Nat} {Pre : Pt → Array Value → Prop} {Post : Pt → Array Value → Option Value → Pt → Prop} {PostX : Pt → Array Value → Addr → Pt → Prop} (hK : vx_Back l R p e below s args y 3 W Pre Post PostX)
    {b : Addr} {cellB : Cell} (hcell : T.heap[b]? = some cellB) (hobj : cellB.vm.isStatics = false) (hcls : s.vm.findClass C = some cellB.cls)
    {g : JFrame} (hg : g.method = m) (hsize : g.locals.size = c.maxLocals) {argsL rest : List Value} (hlen : ∀ sig, parseMethodDescriptor x.desc = some sig → argsL.length = sig.parameters.length)
    (hstack : g.stack = argsL.reverse ++ .ref b :: rest) (hW : 2 * g.monitorRoom + (rest.map fun v => v.category).sum ≤ W) (hdg : decode c.code g.pc = .ok (.invokevirtual index, 3))
    (hpre : ∀ vm₁, s.WarmedH vm₁ → Pre ⟨T.setVm vm₁, locs, cells, slots⟩ (Value.ref b :: argsL).toArray) :
    (∃ (v : Option Value) (vm₁ : Vm) (B : Pt), s.WarmedH vm₁ ∧ Stand p l e R s m args below meth c B.U B.locs B.cells B.slots ∧ Post ⟨T.setVm vm₁, locs, cells, slots⟩ (Value.ref b :: argsL).toArray v B ∧
      ∀ target, Steps p.tables e below (B.U.setTop { g with pc := g.pc + 3, stack := v.toList ++ rest }) target → Steps p.tables e below (T.setTop g) target) ∨
    (∃ (q : Addr) (vm₁ : Vm) (B : Pt), s.WarmedH vm₁ ∧ Stand p l e R s m args below meth c B.U B.locs B.cells B.slots ∧ PostX ⟨T.setVm vm₁, locs, cells, slots⟩ (Value.ref b :: argsL).toArray q B ∧
      Steps p.tables e below (T.setTop g) ((B.U.setTop { g with stack := rest }).pushFrame (.throwing q))) := by
  obtain ⟨r0, r, hn, hrm, hstR, hsigR⟩ := hd0
  obtain ⟨cn, ck, r1, hcn, hck, hni, hf, hn1⟩ := Cond.sameMethod_found hsame
  cases hn.symm.trans hn1
  obtain ⟨mk, methM, hnamed, hmethM, -, habM⟩ := Cond.instanceMethod_spec hinst
  obtain ⟨c2, r2, m2, q1, q2, q3, q4, kP, hkP, hkPi⟩ := Cond.selects_spec hsel
  cases hcls.symm.trans q1
  cases hf.symm.trans q2
  cases hnamed.symm.trans q3
  have hselP : selectMethod e.platform s.vm cellB.cls r0 = .method mk := by rw [Launch.admits_selectMethod X.admits]; exact q4
  obtain ⟨vm₁, X₁, hstep₁⟩ := X.invokevirtualUp hexec hown hlink hsame howner hn hrm hstR (a := b) (cell := cellB) hcell
    (fun z h => by rw [h] at hobj; cases hobj) hselP hmethM habM hkP hkPi (g := g) hg (argsL := argsL) (rest := rest) (hlen _ hsigR) hstack hdg
  rcases hK m meth c ⟨T.setVm vm₁, locs, cells, slots⟩ { g with stack := rest } (.invokevirtual index) mk (Value.ref b :: argsL).toArray X₁ hg hsize hdg hW (X₁.named hnamed) (hpre vm₁ X₁.warmed) with ⟨v, B, X', hpost, hsteps⟩ | ⟨q, B, X', hpost, hsteps⟩
  · exact Or.inl ⟨v, vm₁, B, X₁.warmed, X', hpost, fun target h => hstep₁ _ fun acts => by rw [doInvoke_state]; exact hsteps.trans h⟩
  · exact Or.inr ⟨q, vm₁, B, X₁.warmed, X', hpost, hstep₁ _ fun acts => by rw [doInvoke_state]; exact hsteps⟩
theorem vx_runU {x y : MethodName} {bytes cc : ByteArray} {maxL nL mc ms n index : Nat} {ret : Option FieldType} {ws : List Cond} {rm : Room} {Pc : Array Value → State → Prop} {Qc : Array Value → State → Outcome → State → Prop} {XC : String → State → State → Prop} {free : Addr → Prop} {Ts : List Cond} {own C owner : String} {b : Addr} {As rest : List Value} {g : JFrame}
    (S : CallFix p m c cc nL s args Ts own) (hM : vx_Met l y ws rm Pc Qc XC mc ms free) (cw : va_CU R s args own C owner index x y bytes maxL ret ws rm mc ms n) (hp : PreV s H C b Pc As)
    (hg : g.method = m) (hn : As.length = n) (hsize : g.locals.size = nL) (hstack : g.stack = As.reverse ++ .ref b :: rest) (hW : 2 * g.monitorRoom + (rest.map fun v => v.category).sum ≤ 8) (hdg : decode cc g.pc = .ok (.invokevirtual index, 3)) (hf : cells + mc ≤ R.cells ∧ slots + ms ≤ R.slots) :
    vx_Run p l e R s m args below meth c H locs cells slots mc ms g rest (Qc (Value.ref b :: As).toArray) XC free := by
  obtain ⟨hrc, hrs, hfr, hlo, hws, hcw⟩ := cw.back
  have hini := cw.init
  have hK : vx_Back l R p e below s args y 3 8 (PreOf R mc ms Pc) (PostOf Qc mc ms free) (vx_Post XC mc ms free) := vx_back (bytes := bytes) (maxL := maxL) (ret := ret) hM hp.1 hrc hrs hfr hlo hws hcw (fun a' U hW => word_at hW (Or.inl (by first | rfl | simp [Cond.onTables, Cond.keeps, Cond.steady])) hini)
  obtain ⟨hx, hb, hml, ho, -⟩ := S
  obtain ⟨-, ⟨cellB, hcB, hoB, hclB⟩, hPc⟩ := hp
  intro T hT X
  rcases vx_callVU X hx (C := C) (owner := owner) (bytes := bytes) (maxL := maxL) (ret := ret) ho cw.link cw.same cw.decl cw.notMH cw.sel cw.inst cw.code hK (by rw [hT]; exact hcB) hoB hclB hg (hsize.trans hml.symm) (argsL := As) (rest := rest) (fun sig h => hn.trans (cw.len sig h)) hstack hW (by rw [hb]; exact hdg)
    (fun vm₁ hW₁ => ⟨hf.1, hf.2, hPc (T.setVm vm₁) hT hW₁⟩) with ⟨v, vm₁, ⟨U', l2, c2, s2⟩, hW₁, X', ⟨g', mk, t, L, e1, e2, hq, h1, hL, h2, h3⟩, st⟩ | ⟨q, vm₁, ⟨U', l2, c2, s2⟩, hW₁, X', ⟨g', mk, t, L, E, ce, e1, e2, hq, hce, hcv, hcl, h1, hL, h2, h3⟩, st⟩
  · dsimp only [Pt.U, Pt.locs, Pt.cells, Pt.slots] at X' e1 e2 h1 h2 h3 st
    subst h1; subst h2; subst h3
    exact Or.inl ⟨v, (T.setVm vm₁).calling g' mk (Value.ref b :: As).toArray, t, U', L, hT, X', hL, e1, e2, hq, st⟩
  · dsimp only [Pt.U, Pt.locs, Pt.cells, Pt.slots] at X' e1 e2 h1 h2 h3 st hcl
    subst h1; subst h2; subst h3
    exact Or.inr ⟨q, (T.setVm vm₁).calling g' mk (Value.ref b :: As).toArray, t, U', L, E, ce, hT, X', hL, e1, e2, hq, hce, hcv, vx_cls hW₁ hcl, st⟩
end
/-! ===== END ===== -/
/-! ===== BEGIN super.m(..) that may throw (follows va_callSU, va_runSU) ===== -/
section
variable {p : Program} {l : Launch} {e : Env} {R : Room} {s : State} {m : MethodId} {args : Array Value} {below : List Frame} {meth : Method} {c : Code} {H : Heap} {locs : List Loc} {cells slots : Nat}
theorem vx_callSU {T : State} {locs : List Loc} {cells slots : Nat} (X : Stand p l e R s m args below meth c T locs cells slots) (hexec : p.tables.exec = Jvm.exec) {own : String} {index : Nat} {y : MethodName} {bytes : ByteArray} {maxL : Nat} {ret : Option FieldType}
    (hown : s.vm.findClass own = some m.cls) (hlink : (Cond.methodLink own index y).before args s = true) (hsame : (Cond.sameMethod y.cls y.cls y.name y.desc).before args s = true) (hsup : (Cond.superclass own y.cls).before args s = true)
    (hinst : (Cond.instanceMethod y).before args s = true) (hcode : (Cond.code y bytes maxL ret).before args s = true) (hno : y.name ≠ "<init>")
    {W : Nat} {Pre : Pt → Array Value → Prop} {Post : Pt → Array Value → Option Value → Pt → Prop} {PostX : Pt → Array Value → Addr → Pt → Prop} (hK : vx_Back l R p e below s args y 3 W Pre Post PostX)
    {b : Addr} {cellB : Cell} {kB : Class} (hcell : T.heap[b]? = some cellB) (hobj : cellB.vm.isStatics = false) (hkB : s.vm.classes[cellB.cls]? = some kB)
    {g : JFrame} (hg : g.method = m) (hsize : g.locals.size = c.maxLocals) {argsL rest : List Value} (hlen : ∀ sig, parseMethodDescriptor y.desc = some sig → argsL.length = sig.parameters.length)
    (hstack : g.stack = argsL.reverse ++ .ref b :: rest) (hW : 2 * g.monitorRoom + (rest.map fun v => v.category).sum ≤ W) (hdg : decode c.code g.pc = .ok (.invokespecial index, 3))
    (hpre : ∀ vm₁, s.WarmedH vm₁ → Pre ⟨T.setVm vm₁, locs, cells, slots⟩ (Value.ref b :: argsL).toArray) :
    (∃ (v : Option Value) (vm₁ : Vm) (B : Pt), s.WarmedH vm₁ ∧ Stand p l e R s m args below meth c B.U B.locs B.cells B.slots ∧ Post ⟨T.setVm vm₁, locs, cells, slots⟩ (Value.ref b :: argsL).toArray v B ∧
      ∀ target, Steps p.tables e below (B.U.setTop { g with pc := g.pc + 3, stack := v.toList ++ rest }) target → Steps p.tables e below (T.setTop g) target) ∨
    (∃ (q : Addr) (vm₁ : Vm) (B : Pt), s.WarmedH vm₁ ∧ Stand p l e R s m args below meth c B.U B.locs B.cells B.slots ∧ PostX ⟨T.setVm vm₁, locs, cells, slots⟩ (Value.ref b :: argsL).toArray q B ∧
      Steps p.tables e below (T.setTop g) ((B.U.setTop { g with stack := rest }).pushFrame (.throwing q))) := by
  obtain ⟨mk, methM, hnamed, hmethM, hstM, habM⟩ := Cond.instanceMethod_spec hinst
  obtain ⟨methM', cM, hmethM', -, -, -, -, -, -, hsigM⟩ := Cond.code_spec hnamed hcode
  cases hmethM.symm.trans hmethM'
  obtain ⟨ps, dk, kp, hps, hdk, hkp, hsuper, -, -, hnid⟩ := Cond.superclass_spec hown hsup
  have hn : s.methodNamed? ⟨y.cls, y.name, y.desc⟩ = some mk := hnamed
  have hpm : ps = mk.cls := Option.some.inj (hps.symm.trans (findClass_of_methodNamed hnamed))
  have hsub : s.vm.isSubclass ps mk.cls = true := by rw [hpm]; simp [Vm.isSubclass, Vm.isSubclassAux]
  obtain ⟨vm₁, X₁, hstep₁⟩ := X.invokespecialUp hexec hown hlink hsame hn hmethM hstM habM hno hdk hnid hps hsuper hsub (a := b) (cell := cellB) hcell
    (fun z h => by rw [h] at hobj; cases hobj) hkB (g := g) hg (argsL := argsL) (rest := rest) (hlen _ hsigM) hstack hdg
  rcases hK m meth c ⟨T.setVm vm₁, locs, cells, slots⟩ { g with stack := rest } (.invokespecial index) mk (Value.ref b :: argsL).toArray X₁ hg hsize hdg hW (X₁.named hnamed) (hpre vm₁ X₁.warmed) with ⟨v, B, X', hpost, hsteps⟩ | ⟨q, B, X', hpost, hsteps⟩
  · exact Or.inl ⟨v, vm₁, B, X₁.warmed, X', hpost, fun target h => hstep₁ _ (by rw [doInvoke_state]; exact hsteps.trans h)⟩
  · exact Or.inr ⟨q, vm₁, B, X₁.warmed, X', hpost, hstep₁ _ (by rw [doInvoke_state]; exact hsteps)⟩
theorem vx_runSU {y : MethodName} {bytes cc : ByteArray} {maxL nL mc ms n index : Nat} {ret : Option FieldType} {ws : List Cond} {rm : Room} {Pc : Array Value → State → Prop} {Qc : Array Value → State → Outcome → State → Prop} {XC : String → State → State → Prop} {free : Addr → Prop} {Ts : List Cond} {own C : String} {cC : ClassId} {b : Addr} {As rest : List Value} {g : JFrame}
    (hat : ClassAt s C cC) (S : CallFix p m c cc nL s args Ts own) (hM : vx_Met l y ws rm Pc Qc XC mc ms free) (cw : va_CS R s args own index y bytes maxL ret ws rm mc ms n) (hp : PreV s H C b Pc As)
    (hg : g.method = m) (hn : As.length = n) (hsize : g.locals.size = nL) (hstack : g.stack = As.reverse ++ .ref b :: rest) (hW : 2 * g.monitorRoom + (rest.map fun v => v.category).sum ≤ 8) (hdg : decode cc g.pc = .ok (.invokespecial index, 3)) (hf : cells + mc ≤ R.cells ∧ slots + ms ≤ R.slots) :
    vx_Run p l e R s m args below meth c H locs cells slots mc ms g rest (Qc (Value.ref b :: As).toArray) XC free := by
  obtain ⟨⟨hrc, hrs, hfr, hlo, hws, hcw⟩, hl1, hl2, hl3, hl4, hini, hcode, hno, hlen⟩ := cw
  have hK : vx_Back l R p e below s args y 3 8 (PreOf R mc ms Pc) (PostOf Qc mc ms free) (vx_Post XC mc ms free) := vx_back (bytes := bytes) (maxL := maxL) (ret := ret) hM hp.1 hrc hrs hfr hlo hws hcw (fun a' U hW => word_at hW (Or.inl (by first | rfl | simp [Cond.onTables, Cond.keeps, Cond.steady])) hini)
  obtain ⟨hx, hb, hml, ho, -⟩ := S
  obtain ⟨-, ⟨cellB, hcB, hoB, hclB⟩, hPc⟩ := hp
  obtain ⟨hfc, kB, hkB, -⟩ := hat
  cases hfc.symm.trans hclB
  intro T hT X
  rcases vx_callSU X hx (bytes := bytes) (maxL := maxL) (ret := ret) ho hl1 hl2 hl3 hl4 hcode hno hK (by rw [hT]; exact hcB) hoB hkB hg (hsize.trans hml.symm) (argsL := As) (rest := rest) (fun sig h => hn.trans (hlen sig h)) hstack hW (by rw [hb]; exact hdg)
    (fun vm₁ hW₁ => ⟨hf.1, hf.2, hPc (T.setVm vm₁) hT hW₁⟩) with ⟨v, vm₁, ⟨U', l2, c2, s2⟩, hW₁, X', ⟨g', mk, t, L, e1, e2, hq, h1, hL, h2, h3⟩, st⟩ | ⟨q, vm₁, ⟨U', l2, c2, s2⟩, hW₁, X', ⟨g', mk, t, L, E, ce, e1, e2, hq, hce, hcv, hcl, h1, hL, h2, h3⟩, st⟩
  · dsimp only [Pt.U, Pt.locs, Pt.cells, Pt.slots] at X' e1 e2 h1 h2 h3 st
    subst h1; subst h2; subst h3
    exact Or.inl ⟨v, (T.setVm vm₁).calling g' mk (Value.ref b :: As).toArray, t, U', L, hT, X', hL, e1, e2, hq, st⟩
  · dsimp only [Pt.U, Pt.locs, Pt.cells, Pt.slots] at X' e1 e2 h1 h2 h3 st hcl
    subst h1; subst h2; subst h3
    exact Or.inr ⟨q, (T.setVm vm₁).calling g' mk (Value.ref b :: As).toArray, t, U', L, E, ce, hT, X', hL, e1, e2, hq, hce, hcv, vx_cls hW₁ hcl, st⟩
end
/-! ===== END ===== -/
/-! ===== BEGIN a private method of a nest mate that may throw (follows va_callVN, va_callSN, va_runVN, va_runSN) ===== -/
section
variable {p : Program} {l : Launch} {e : Env} {R : Room} {s : State} {m : MethodId} {args : Array Value} {below : List Frame} {meth : Method} {c : Code} {H : Heap} {locs : List Loc} {cells slots : Nat}
variable {T : State}
theorem vx_callVN (X : Stand p l e R s m args below meth c T locs cells slots) (hexec : p.tables.exec = Jvm.exec) {own C : String} {index : Nat} {host : String} {y : MethodName} {bytes : ByteArray} {maxL : Nat} {ret : Option FieldType}
    (hown : s.vm.findClass own = some m.cls) (hlink : (Cond.methodLinkNest own index y host).before args s = true) (hinst : (Cond.instanceMethod y).before args s = true) (hsel : (Cond.selects C y y).before args s = true)
    (hcode : (Cond.code y bytes maxL ret).before args s = true) (hy : y.cls ≠ "java/lang/invoke/MethodHandle" ∧ y.cls ≠ "java/lang/invoke/VarHandle")
    {W : Nat} {Pre : Pt → Array Value → Prop} {Post : Pt → Array Value → Option Value → Pt → Prop} {PostX : Pt → Array Value → Addr → Pt → Prop} (hK : vx_Back l R p e below s args y 3 W Pre Post PostX)
    {b : Addr} {cellB : Cell} (hcell : T.heap[b]? = some cellB) (hobj : cellB.vm.isStatics = false) (hcls : s.vm.findClass C = some cellB.cls)
    {g : JFrame} (hg : g.method = m) (hsize : g.locals.size = c.maxLocals) {argsL rest : List Value} (hlen : ∀ sig, parseMethodDescriptor y.desc = some sig → argsL.length = sig.parameters.length)
    (hstack : g.stack = argsL.reverse ++ .ref b :: rest) (hW : 2 * g.monitorRoom + (rest.map fun v => v.category).sum ≤ W) (hdg : decode c.code g.pc = .ok (.invokevirtual index, 3))
    (hpre : ∀ vm₁, s.WarmedH vm₁ → Pre ⟨T.setVm vm₁, locs, cells, slots⟩ (Value.ref b :: argsL).toArray) :
    (∃ (v : Option Value) (vm₁ : Vm) (B : Pt), s.WarmedH vm₁ ∧ Stand p l e R s m args below meth c B.U B.locs B.cells B.slots ∧ Post ⟨T.setVm vm₁, locs, cells, slots⟩ (Value.ref b :: argsL).toArray v B ∧
      ∀ target, Steps p.tables e below (B.U.setTop { g with pc := g.pc + 3, stack := v.toList ++ rest }) target → Steps p.tables e below (T.setTop g) target) ∨
    (∃ (q : Addr) (vm₁ : Vm) (B : Pt), s.WarmedH vm₁ ∧ Stand p l e R s m args below meth c B.U B.locs B.cells B.slots ∧ PostX ⟨T.setVm vm₁, locs, cells, slots⟩ (Value.ref b :: argsL).toArray q B ∧
      Steps p.tables e below (T.setTop g) ((B.U.setTop { g with stack := rest }).pushFrame (.throwing q))) := by
  obtain ⟨mk, methM, hnamed, hmethM, hstM, habM⟩ := Cond.instanceMethod_spec hinst
  obtain ⟨methM', cM, hmethM', -, -, -, -, -, -, hsigM⟩ := Cond.code_spec hnamed hcode
  cases hmethM.symm.trans hmethM'
  obtain ⟨c2, r2, m2, q1, q2, q3, q4, kP, hkP, hkPi⟩ := Cond.selects_spec hsel
  cases hcls.symm.trans q1
  cases (State.methodFound?_of_named hnamed hy).symm.trans q2
  cases hnamed.symm.trans q3
  have hselP : selectMethod e.platform s.vm cellB.cls mk = .method mk := by rw [Launch.admits_selectMethod X.admits]; exact q4
  obtain ⟨vm₁, X₁, hstep₁⟩ := X.invokevirtualNest hexec hown hlink hnamed hmethM hstM hkP hkPi hy (a := b) (cell := cellB) hcell
    (fun z h => by rw [h] at hobj; cases hobj) hselP hmethM habM hkP hkPi (g := g) hg (argsL := argsL) (rest := rest) (hlen _ hsigM) hstack hdg
  rcases hK m meth c ⟨T.setVm vm₁, locs, cells, slots⟩ { g with stack := rest } (.invokevirtual index) mk (Value.ref b :: argsL).toArray X₁ hg hsize hdg hW (X₁.named hnamed) (hpre vm₁ X₁.warmed) with ⟨v, B, X', hpost, hsteps⟩ | ⟨q, B, X', hpost, hsteps⟩
  · exact Or.inl ⟨v, vm₁, B, X₁.warmed, X', hpost, fun target h => hstep₁ _ fun acts => by rw [doInvoke_state]; exact hsteps.trans h⟩
  · exact Or.inr ⟨q, vm₁, B, X₁.warmed, X', hpost, hstep₁ _ fun acts => by rw [doInvoke_state]; exact hsteps⟩
theorem vx_callSN (X : Stand p l e R s m args below meth c T locs cells slots) (hexec : p.tables.exec = Jvm.exec) {own : String} {index : Nat} {host : String} {y : MethodName} {bytes : ByteArray} {maxL : Nat} {ret : Option FieldType}
    (hown : s.vm.findClass own = some m.cls) (hlink : (Cond.methodLinkNest own index y host).before args s = true) (hstat : (Cond.static y).before args s = true) (hinit : (Cond.initialized y.cls).before args s = true)
    (hcode : (Cond.code y bytes maxL ret).before args s = true) (hy : y.cls ≠ "java/lang/invoke/MethodHandle" ∧ y.cls ≠ "java/lang/invoke/VarHandle")
    {W : Nat} {Pre : Pt → Array Value → Prop} {Post : Pt → Array Value → Option Value → Pt → Prop} {PostX : Pt → Array Value → Addr → Pt → Prop} (hK : vx_Back l R p e below s args y 3 W Pre Post PostX)
    {g : JFrame} (hg : g.method = m) (hsize : g.locals.size = c.maxLocals) {argsL rest : List Value} (hlen : ∀ sig, parseMethodDescriptor y.desc = some sig → argsL.length = sig.parameters.length)
    (hstack : g.stack = argsL.reverse ++ rest) (hW : 2 * g.monitorRoom + (rest.map fun v => v.category).sum ≤ W) (hdg : decode c.code g.pc = .ok (.invokestatic index, 3))
    (hpre : ∀ vm₁, s.WarmedH vm₁ → Pre ⟨T.setVm vm₁, locs, cells, slots⟩ argsL.toArray) :
    (∃ (v : Option Value) (vm₁ : Vm) (B : Pt), s.WarmedH vm₁ ∧ Stand p l e R s m args below meth c B.U B.locs B.cells B.slots ∧ Post ⟨T.setVm vm₁, locs, cells, slots⟩ argsL.toArray v B ∧
      ∀ target, Steps p.tables e below (B.U.setTop { g with pc := g.pc + 3, stack := v.toList ++ rest }) target → Steps p.tables e below (T.setTop g) target) ∨
    (∃ (q : Addr) (vm₁ : Vm) (B : Pt), s.WarmedH vm₁ ∧ Stand p l e R s m args below meth c B.U B.locs B.cells B.slots ∧ PostX ⟨T.setVm vm₁, locs, cells, slots⟩ argsL.toArray q B ∧
      Steps p.tables e below (T.setTop g) ((B.U.setTop { g with stack := rest }).pushFrame (.throwing q))) := by
  obtain ⟨mk, hnamed⟩ := Cond.code_named hcode
  obtain ⟨methM, cM, hmethM, -, -, -, -, -, -, hsigM⟩ := Cond.code_spec hnamed hcode
  have hstatic : methM.isStatic = true := Cond.static_spec hnamed hmethM hstat
  obtain ⟨kP, hkP, -⟩ := className_of_methodNamed hnamed
  have hinitP : kP.init = .initialized := Cond.initialized_spec (findClass_of_methodNamed hnamed) hkP hinit
  obtain ⟨vm₁, X₁, hstep₁⟩ := X.invokestaticNest hexec hown hlink hnamed hmethM hstatic hkP hinitP hy (g := g) hg (argsL := argsL) (rest := rest) (hlen _ hsigM) hstack hdg
  rcases hK m meth c ⟨T.setVm vm₁, locs, cells, slots⟩ { g with stack := rest } (.invokestatic index) mk argsL.toArray X₁ hg hsize hdg hW (X₁.named hnamed) (hpre vm₁ X₁.warmed) with ⟨v, B, X', hpost, hsteps⟩ | ⟨q, B, X', hpost, hsteps⟩
  · exact Or.inl ⟨v, vm₁, B, X₁.warmed, X', hpost, fun target h => hstep₁ _ fun acts => by rw [doInvoke_state]; exact hsteps.trans h⟩
  · exact Or.inr ⟨q, vm₁, B, X₁.warmed, X', hpost, hstep₁ _ fun acts => by rw [doInvoke_state]; exact hsteps⟩
theorem vx_runVN {y : MethodName} {bytes cc : ByteArray} {maxL nL mc ms n index : Nat} {ret : Option FieldType} {ws : List Cond} {rm : Room} {Pc : Array Value → State → Prop} {Qc : Array Value → State → Outcome → State → Prop} {XC : String → State → State → Prop} {free : Addr → Prop} {Ts : List Cond} {own C host : String} {b : Addr} {As rest : List Value} {g : JFrame}
    (S : CallFix p m c cc nL s args Ts own) (hM : vx_Met l y ws rm Pc Qc XC mc ms free) (cw : va_CN R s args own index y host bytes maxL ret ws rm mc ms n ∧ (Cond.instanceMethod y).before args s = true ∧ (Cond.selects C y y).before args s = true) (hp : PreV s H C b Pc As)
    (hg : g.method = m) (hn : As.length = n) (hsize : g.locals.size = nL) (hstack : g.stack = As.reverse ++ .ref b :: rest) (hW : 2 * g.monitorRoom + (rest.map fun v => v.category).sum ≤ 8) (hdg : decode cc g.pc = .ok (.invokevirtual index, 3)) (hf : cells + mc ≤ R.cells ∧ slots + ms ≤ R.slots) :
    vx_Run p l e R s m args below meth c H locs cells slots mc ms g rest (Qc (Value.ref b :: As).toArray) XC free := by
  obtain ⟨⟨⟨hrc, hrs, hfr, hlo, hws, hcw⟩, hcode, hini, hy, hlen, hl⟩, hx1, hx2⟩ := cw
  have hK : vx_Back l R p e below s args y 3 8 (PreOf R mc ms Pc) (PostOf Qc mc ms free) (vx_Post XC mc ms free) := vx_back (bytes := bytes) (maxL := maxL) (ret := ret) hM hp.1 hrc hrs hfr hlo hws hcw (fun a' U hW => word_at hW (Or.inl (by first | rfl | simp [Cond.onTables, Cond.keeps, Cond.steady])) hini)
  obtain ⟨hx, hb, hml, ho, -⟩ := S
  obtain ⟨-, ⟨cellB, hcB, hoB, hclB⟩, hPc⟩ := hp
  intro T hT X
  rcases vx_callVN X hx (C := C) (bytes := bytes) (maxL := maxL) (ret := ret) ho hl hx1 hx2 hcode hy hK (by rw [hT]; exact hcB) hoB hclB hg (hsize.trans hml.symm) (argsL := As) (rest := rest) (fun sig h => hn.trans (hlen sig h)) hstack hW (by rw [hb]; exact hdg)
    (fun vm₁ hW₁ => ⟨hf.1, hf.2, hPc (T.setVm vm₁) hT hW₁⟩) with ⟨v, vm₁, ⟨U', l2, c2, s2⟩, hW₁, X', ⟨g', mk, t, L, e1, e2, hq, h1, hL, h2, h3⟩, st⟩ | ⟨q, vm₁, ⟨U', l2, c2, s2⟩, hW₁, X', ⟨g', mk, t, L, E, ce, e1, e2, hq, hce, hcv, hcl, h1, hL, h2, h3⟩, st⟩
  · dsimp only [Pt.U, Pt.locs, Pt.cells, Pt.slots] at X' e1 e2 h1 h2 h3 st
    subst h1; subst h2; subst h3
    exact Or.inl ⟨v, (T.setVm vm₁).calling g' mk (Value.ref b :: As).toArray, t, U', L, hT, X', hL, e1, e2, hq, st⟩
  · dsimp only [Pt.U, Pt.locs, Pt.cells, Pt.slots] at X' e1 e2 h1 h2 h3 st hcl
    subst h1; subst h2; subst h3
    exact Or.inr ⟨q, (T.setVm vm₁).calling g' mk (Value.ref b :: As).toArray, t, U', L, E, ce, hT, X', hL, e1, e2, hq, hce, hcv, vx_cls hW₁ hcl, st⟩
theorem vx_runSN {y : MethodName} {bytes cc : ByteArray} {maxL nL mc ms n index : Nat} {ret : Option FieldType} {ws : List Cond} {rm : Room} {Pc : Array Value → State → Prop} {Qc : Array Value → State → Outcome → State → Prop} {XC : String → State → State → Prop} {free : Addr → Prop} {Ts : List Cond} {own host : String} {As rest : List Value} {g : JFrame}
    (S : CallFix p m c cc nL s args Ts own) (hM : vx_Met l y ws rm Pc Qc XC mc ms free) (cw : va_CN R s args own index y host bytes maxL ret ws rm mc ms n ∧ (Cond.static y).before args s = true ∧ True) (hp : PreS s H Pc As)
    (hg : g.method = m) (hn : As.length = n) (hsize : g.locals.size = nL) (hstack : g.stack = As.reverse ++ rest) (hW : 2 * g.monitorRoom + (rest.map fun v => v.category).sum ≤ 8) (hdg : decode cc g.pc = .ok (.invokestatic index, 3)) (hf : cells + mc ≤ R.cells ∧ slots + ms ≤ R.slots) :
    vx_Run p l e R s m args below meth c H locs cells slots mc ms g rest (Qc As.toArray) XC free := by
  obtain ⟨⟨⟨hrc, hrs, hfr, hlo, hws, hcw⟩, hcode, hini, hy, hlen, hl⟩, hx1, hx2⟩ := cw
  have hK : vx_Back l R p e below s args y 3 8 (PreOf R mc ms Pc) (PostOf Qc mc ms free) (vx_Post XC mc ms free) := vx_back (bytes := bytes) (maxL := maxL) (ret := ret) hM hp.1 hrc hrs hfr hlo hws hcw (fun a' U hW => word_at hW (Or.inl (by first | rfl | simp [Cond.onTables, Cond.keeps, Cond.steady])) hini)
  obtain ⟨hx, hb, hml, ho, -⟩ := S
  have hPc := hp.2
  intro T hT X
  rcases vx_callSN X hx (bytes := bytes) (maxL := maxL) (ret := ret) ho hl hx1 hini hcode hy hK hg (hsize.trans hml.symm) (argsL := As) (rest := rest) (fun sig h => hn.trans (hlen sig h)) hstack hW (by rw [hb]; exact hdg)
    (fun vm₁ hW₁ => ⟨hf.1, hf.2, hPc (T.setVm vm₁) hT hW₁⟩) with ⟨v, vm₁, ⟨U', l2, c2, s2⟩, hW₁, X', ⟨g', mk, t, L, e1, e2, hq, h1, hL, h2, h3⟩, st⟩ | ⟨q, vm₁, ⟨U', l2, c2, s2⟩, hW₁, X', ⟨g', mk, t, L, E, ce, e1, e2, hq, hce, hcv, hcl, h1, hL, h2, h3⟩, st⟩
  · dsimp only [Pt.U, Pt.locs, Pt.cells, Pt.slots] at X' e1 e2 h1 h2 h3 st
    subst h1; subst h2; subst h3
    exact Or.inl ⟨v, (T.setVm vm₁).calling g' mk As.toArray, t, U', L, hT, X', hL, e1, e2, hq, st⟩
  · dsimp only [Pt.U, Pt.locs, Pt.cells, Pt.slots] at X' e1 e2 h1 h2 h3 st hcl
    subst h1; subst h2; subst h3
    exact Or.inr ⟨q, (T.setVm vm₁).calling g' mk As.toArray, t, U', L, E, ce, hT, X', hL, e1, e2, hq, hce, hcv, vx_cls hW₁ hcl, st⟩
end
/-! ===== END ===== -/
/-! ===== BEGIN calls by an interface of methods that may throw (vx_callIF, vx_runF follow va_callIF, va_runF of this kit) ===== -/
section
variable {p : Program} {l : Launch} {e : Env} {R : Room} {s : State} {m : MethodId} {args : Array Value} {below : List Frame} {meth : Method} {c : Code} {H : Heap} {locs : List Loc} {cells slots : Nat} {Q : State → Prop}
variable {mc ms : Nat} {free : Addr → Prop} {A0 A1 : Nat → Prop} {H0 : Heap} {a : Array Value} {pc : Nat} {ls : Array Slot} {st0 rest : List Value}
def vx_Run5 (p : Program) (l : Launch) (e : Env) (R : Room) (s : State) (m : MethodId) (args : Array Value) (below : List Frame) (meth : Method) (c : Code) (H : Heap) (locs : List Loc) (cells slots mc ms : Nat) (g : JFrame) (rest : List Value) (Qa : State → Outcome → State → Prop) (XC : String → State → State → Prop) (free : Addr → Prop) : Prop :=
  ∀ T : State, T.heap = H → Stand p l e R s m args below meth c T locs cells slots →
    (∃ (v : Option Value) (st₀ t T' : State) (L : List Loc), st₀.heap = H ∧ Stand p l e R s m args below meth c T' (locs ++ L) (cells + mc) (slots + ms) ∧ (∀ q ∈ L, free q.base) ∧ T'.heap = t.heap ∧ T'.vm = t.vm ∧ Qa st₀ (.returned v) t ∧
      Goes p e below T g T' { g with pc := g.pc + 5, stack := v.toList ++ rest }) ∨
    (∃ (q : Addr) (st₀ t T' : State) (L : List Loc) (E : String) (ce : Cell), st₀.heap = H ∧ Stand p l e R s m args below meth c T' (locs ++ L) (cells + mc) (slots + ms) ∧ (∀ z ∈ L, free z.base) ∧ T'.heap = t.heap ∧ T'.vm = t.vm ∧ XC E st₀ t ∧ t.heap[q]? = some ce ∧ ce.vm = .none ∧ s.vm.findClass E = some ce.cls ∧
      Steps p.tables e below (T.setTop g) ((T'.setTop { g with stack := rest }).pushFrame (.throwing q)))
theorem vx_callIF {T : State} (X : Stand p l e R s m args below meth c T locs cells slots) (hexec : p.tables.exec = Jvm.exec) {own C : String} {index count : Nat} {x y : MethodName} {bytes : ByteArray} {maxL : Nat} {ret : Option FieldType}
    (hown : s.vm.findClass own = some m.cls) (hlink : (Cond.methodLink own index x).before args s = true) (hdecl : (Cond.declares x).before args s = true) (hface : (Cond.interfaceMethod x.cls x.cls x.name x.desc).before args s = true)
    (hsel : (Cond.selects C x y).before args s = true) (hinst : (Cond.instanceMethod y).before args s = true) (hpub : (Cond.publicMethod y).before args s = true) (hunh : (Cond.unhidden C x.name x.desc).before args s = true)
    (hcast : (Cond.castable C x.cls).before args s = true) (hcode : (Cond.code y bytes maxL ret).before args s = true) (hx : x.cls ≠ "java/lang/invoke/MethodHandle" ∧ x.cls ≠ "java/lang/invoke/VarHandle")
    {W9 : Nat} {Pre : Pt → Array Value → Prop} {Post : Pt → Array Value → Option Value → Pt → Prop} {PostX : Pt → Array Value → Addr → Pt → Prop} (hK : vx_Back l R p e below s args y 5 W9 Pre Post PostX)
    {b : Addr} {cellB : Cell} {kB : Class} (hcell : T.heap[b]? = some cellB) (hobj : cellB.vm.isStatics = false) (hcls : s.vm.findClass C = some cellB.cls) (hkB : s.vm.classes[cellB.cls]? = some kB)
    {g : JFrame} (hg : g.method = m) (hsize : g.locals.size = c.maxLocals) {argsL rest : List Value} (hlen : ∀ sig, parseMethodDescriptor x.desc = some sig → argsL.length = sig.parameters.length)
    (hstack : g.stack = argsL.reverse ++ .ref b :: rest) (hW : 2 * g.monitorRoom + (rest.map fun v => v.category).sum ≤ W9) (hdg : decode c.code g.pc = .ok (.invokeinterface index count, 5))
    (hpre : ∀ vm₁, s.WarmedH vm₁ → Pre ⟨T.setVm vm₁, locs, cells, slots⟩ (Value.ref b :: argsL).toArray) :
    (∃ (v : Option Value) (vm₁ : Vm) (B : Pt), s.WarmedH vm₁ ∧ Stand p l e R s m args below meth c B.U B.locs B.cells B.slots ∧ Post ⟨T.setVm vm₁, locs, cells, slots⟩ (Value.ref b :: argsL).toArray v B ∧
      ∀ target, Steps p.tables e below (B.U.setTop { g with pc := g.pc + 5, stack := v.toList ++ rest }) target → Steps p.tables e below (T.setTop g) target) ∨
    (∃ (q : Addr) (vm₁ : Vm) (B : Pt), s.WarmedH vm₁ ∧ Stand p l e R s m args below meth c B.U B.locs B.cells B.slots ∧ PostX ⟨T.setVm vm₁, locs, cells, slots⟩ (Value.ref b :: argsL).toArray q B ∧
      Steps p.tables e below (T.setTop g) ((B.U.setTop { g with stack := rest }).pushFrame (.throwing q))) := by
  obtain ⟨r0, r, hn, hrm, hstR, hsigR⟩ := Cond.declares_spec hdecl
  obtain ⟨cL, kL, r1, hcL, hkL, hiL, hfoundL, hn1⟩ := Cond.interfaceMethod_spec hface
  cases hn.symm.trans hn1
  have hr0cls : r0.cls = cL := Option.some.inj ((findClass_of_methodNamed hn).symm.trans hcL)
  obtain ⟨hnameR, hdescR⟩ := name_of_methodNamed hn hrm
  obtain ⟨mk, methM, hnamed, hmethM, -, habM⟩ := Cond.instanceMethod_spec hinst
  obtain ⟨c2, r2, m2, q1, q2, q3, q4, -⟩ := Cond.selects_spec hsel
  cases hcls.symm.trans q1
  cases hfoundL.symm.trans q2
  cases hnamed.symm.trans q3
  have hselP : selectMethod e.platform s.vm cellB.cls r0 = .method mk := by rw [Launch.admits_selectMethod X.admits]; exact q4
  have hpubM : hasFlag methM.accessFlags Acc.public_ = true := Cond.publicMethod_spec hnamed hmethM hpub
  have hway : ((cellB.cls :: s.vm.superclasses cellB.cls).any fun k => (declaredIn s.vm r.name r.desc k).any fun (_, z) => z.isPrivate || z.isStatic) = false := by
    rw [hnameR, hdescR]; exact Cond.unhidden_spec hcls hunh
  obtain ⟨c3, t3, w1, w2, w3⟩ := Cond.castable_spec hcast
  cases hcls.symm.trans w1
  cases hcL.symm.trans w2
  obtain ⟨vm₁, X₁, hstep₁⟩ := X.invokeinterface hexec hown hlink hn hrm hstR (by rw [hr0cls]; exact hkL) hiL hx (a := b) (cell := cellB) (kcell := kB) hcell
    (fun z h => by rw [h] at hobj; cases hobj) hkB (by rw [hr0cls]; exact w3) hselP hmethM hway hpubM habM (g := g) hg (argsL := argsL) (rest := rest) (hlen _ hsigR) hstack hdg
  rcases hK m meth c ⟨T.setVm vm₁, locs, cells, slots⟩ { g with stack := rest } (.invokeinterface index count) mk (Value.ref b :: argsL).toArray X₁ hg hsize hdg hW (X₁.named hnamed) (hpre vm₁ X₁.warmed) with ⟨v, B, X', hpost, hsteps⟩ | ⟨q, B, X', hpost, hsteps⟩
  · exact Or.inl ⟨v, vm₁, B, X₁.warmed, X', hpost, fun target h => hstep₁ _ fun acts => by rw [doInvoke_state]; exact hsteps.trans h⟩
  · exact Or.inr ⟨q, vm₁, B, X₁.warmed, X', hpost, hstep₁ _ fun acts => by rw [doInvoke_state]; exact hsteps⟩
theorem vx_runF {x y : MethodName} {bytes cc : ByteArray} {maxL nL mc ms n index count : Nat} {ret : Option FieldType} {ws : List Cond} {rm : Room} {Pc : Array Value → State → Prop} {Qc : Array Value → State → Outcome → State → Prop} {XC : String → State → State → Prop} {free : Addr → Prop} {Ts : List Cond} {own C : String} {cC : ClassId} {b : Addr} {As rest : List Value} {g : JFrame}
    (hat : ClassAt s C cC) (S : CallFix p m c cc nL s args Ts own) (hM : vx_Met l y ws rm Pc Qc XC mc ms free) (cw : va_CI R s args own C index x y bytes maxL ret ws rm mc ms n) (hp : PreV s H C b Pc As)
    (hg : g.method = m) (hn : As.length = n) (hsize : g.locals.size = nL) (hstack : g.stack = As.reverse ++ .ref b :: rest) (hW : 2 * g.monitorRoom + (rest.map fun v => v.category).sum ≤ 8) (hdg : decode cc g.pc = .ok (.invokeinterface index count, 5)) (hf : cells + mc ≤ R.cells ∧ slots + ms ≤ R.slots) :
    vx_Run5 p l e R s m args below meth c H locs cells slots mc ms g rest (Qc (Value.ref b :: As).toArray) XC free := by
  obtain ⟨hrc, hrs, hfr, hlo, hws, hcw⟩ := cw.back
  have hini := cw.init
  have hK : vx_Back l R p e below s args y 5 8 (PreOf R mc ms Pc) (PostOf Qc mc ms free) (vx_Post XC mc ms free) := vx_back (bytes := bytes) (maxL := maxL) (ret := ret) hM hp.1 hrc hrs hfr hlo hws hcw (fun a' U hW => word_at hW (Or.inl (by first | rfl | simp [Cond.onTables, Cond.keeps, Cond.steady])) hini)
  obtain ⟨hx, hb, hml, ho, -⟩ := S
  obtain ⟨-, ⟨cellB, hcB, hoB, hclB⟩, hPc⟩ := hp
  obtain ⟨hfc, kB, hkB, -⟩ := hat
  cases hfc.symm.trans hclB
  intro T hT X
  rcases vx_callIF X hx (C := C) (bytes := bytes) (maxL := maxL) (ret := ret) ho cw.link cw.decl cw.face cw.sel cw.inst cw.pub cw.unh cw.cast cw.code cw.notMH hK (by rw [hT]; exact hcB) hoB hclB hkB hg (hsize.trans hml.symm) (argsL := As) (rest := rest) (fun sig h => hn.trans (cw.len sig h)) hstack hW (by rw [hb]; exact hdg)
    (fun vm₁ hW₁ => ⟨hf.1, hf.2, hPc (T.setVm vm₁) hT hW₁⟩) with ⟨v, vm₁, ⟨U', l2, c2, s2⟩, hW₁, X', ⟨g', mk, t, L, e1, e2, hq, h1, hL, h2, h3⟩, st⟩ | ⟨q, vm₁, ⟨U', l2, c2, s2⟩, hW₁, X', ⟨g', mk, t, L, E, ce, e1, e2, hq, hce, hcv, hcl, h1, hL, h2, h3⟩, st⟩
  · dsimp only [Pt.U, Pt.locs, Pt.cells, Pt.slots] at X' e1 e2 h1 h2 h3 st
    subst h1; subst h2; subst h3
    exact Or.inl ⟨v, (T.setVm vm₁).calling g' mk (Value.ref b :: As).toArray, t, U', L, hT, X', hL, e1, e2, hq, st⟩
  · dsimp only [Pt.U, Pt.locs, Pt.cells, Pt.slots] at X' e1 e2 h1 h2 h3 st hcl
    subst h1; subst h2; subst h3
    exact Or.inr ⟨q, (T.setVm vm₁).calling g' mk (Value.ref b :: As).toArray, t, U', L, E, ce, hT, X', hL, e1, e2, hq, hce, hcv, vx_cls hW₁ hcl, st⟩
theorem vx_callFv {S SX : Type} {post : S → Prop} {px : SX → Prop} {B : S → State → Prop} {BX : String → SX → State → Prop} {AX : Nat → Prop} (hr : vx_Run5 p l e R s m args below meth c H locs cells slots mc ms (F0 m pc ls st0) rest (va_Qv post B A1 a) (vx_X px BX AX) free) (hS : va_S A0 H0 H locs) (hA : ∀ q, q < H.size → A1 q → A0 q) (hf : ∀ q, free q → A0 q) (hAX : ∀ q, q < H.size → AX q → A0 q)
    (kx : ∀ (E : String) (ce : Cell) (q9 : Addr) (u : SX) (t : State) (H1 : Heap) (locs1 : List Loc), t.heap = H1 → s.vm.Alike t.vm → px u → BX E u t → H.size ≤ H1.size → (∀ q : Nat, q < H.size → ¬ AX q → H1[q]? = H[q]?) → va_S A0 H0 H1 locs1 → H1[q9]? = some ce → ce.vm = .none → s.vm.findClass E = some ce.cls → vx_W p l e R s m args below meth c H1 locs1 (cells + mc) (slots + ms) Q (F0 m pc ls rest) q9)
    (kk : ∀ (u : S) (t : State) (H1 : Heap) (locs1 : List Loc), t.heap = H1 → s.vm.Alike t.vm → post u → B u t → H.size ≤ H1.size → (∀ q : Nat, q < H.size → ¬ A1 q → H1[q]? = H[q]?) → va_S A0 H0 H1 locs1 → W p l e R s m args below meth c H1 locs1 (cells + mc) (slots + ms) Q (F0 m (pc + 5) ls (rest))) : W p l e R s m args below meth c H locs cells slots Q (F0 m pc ls st0) := by
  intro T hT X
  rcases hr T hT X with ⟨v, st₀, t, T', L, h0, X', hL, e1, e2, ⟨⟨u, hv, hp, hb⟩, hF⟩, st⟩ | ⟨q, st₀, t, T', L, E, ce, h0, X', hL, e1, e2, ⟨u, hp, hb, hF⟩, hce, hcv, hcl, st⟩
  · cases hv
    obtain ⟨k1, k2, k3⟩ := vx_keep h0 e1 hS hA hf hL hF
    obtain ⟨t2, a1, b1⟩ := kk u t T'.heap (locs ++ L) e1.symm (by rw [← e2]; exact X'.warmed.alike) hp hb k1 k2 k3 T' rfl X'
    exact ⟨t2, st t2 a1, b1⟩
  · obtain ⟨k1, k2, k3⟩ := vx_keep h0 e1 hS hAX hf hL hF
    obtain ⟨t2, a1, b1⟩ := kx E ce q u t T'.heap (locs ++ L) e1.symm (by rw [← e2]; exact X'.warmed.alike) hp hb k1 k2 k3 (by rw [e1]; exact hce) hcv hcl T' rfl X'
    exact ⟨t2, st.trans a1, b1⟩
theorem vx_callFi {S SX : Type} {post : Int32 → S → Prop} {px : SX → Prop} {B : S → State → Prop} {BX : String → SX → State → Prop} {AX : Nat → Prop} (hr : vx_Run5 p l e R s m args below meth c H locs cells slots mc ms (F0 m pc ls st0) rest (va_Qi post B A1 a) (vx_X px BX AX) free) (hS : va_S A0 H0 H locs) (hA : ∀ q, q < H.size → A1 q → A0 q) (hf : ∀ q, free q → A0 q) (hAX : ∀ q, q < H.size → AX q → A0 q)
    (kx : ∀ (E : String) (ce : Cell) (q9 : Addr) (u : SX) (t : State) (H1 : Heap) (locs1 : List Loc), t.heap = H1 → s.vm.Alike t.vm → px u → BX E u t → H.size ≤ H1.size → (∀ q : Nat, q < H.size → ¬ AX q → H1[q]? = H[q]?) → va_S A0 H0 H1 locs1 → H1[q9]? = some ce → ce.vm = .none → s.vm.findClass E = some ce.cls → vx_W p l e R s m args below meth c H1 locs1 (cells + mc) (slots + ms) Q (F0 m pc ls rest) q9)
    (kk : ∀ (r : Int32) (u : S) (t : State) (H1 : Heap) (locs1 : List Loc), t.heap = H1 → s.vm.Alike t.vm → post r u → B u t → H.size ≤ H1.size → (∀ q : Nat, q < H.size → ¬ A1 q → H1[q]? = H[q]?) → va_S A0 H0 H1 locs1 → W p l e R s m args below meth c H1 locs1 (cells + mc) (slots + ms) Q (F0 m (pc + 5) ls (.int r :: rest))) : W p l e R s m args below meth c H locs cells slots Q (F0 m pc ls st0) := by
  intro T hT X
  rcases hr T hT X with ⟨v, st₀, t, T', L, h0, X', hL, e1, e2, ⟨⟨r, u, hv, hp, hb⟩, hF⟩, st⟩ | ⟨q, st₀, t, T', L, E, ce, h0, X', hL, e1, e2, ⟨u, hp, hb, hF⟩, hce, hcv, hcl, st⟩
  · cases hv
    obtain ⟨k1, k2, k3⟩ := vx_keep h0 e1 hS hA hf hL hF
    obtain ⟨t2, a1, b1⟩ := kk r u t T'.heap (locs ++ L) e1.symm (by rw [← e2]; exact X'.warmed.alike) hp hb k1 k2 k3 T' rfl X'
    exact ⟨t2, st t2 a1, b1⟩
  · obtain ⟨k1, k2, k3⟩ := vx_keep h0 e1 hS hAX hf hL hF
    obtain ⟨t2, a1, b1⟩ := kx E ce q u t T'.heap (locs ++ L) e1.symm (by rw [← e2]; exact X'.warmed.alike) hp hb k1 k2 k3 (by rw [e1]; exact hce) hcv hcl T' rfl X'
    exact ⟨t2, st.trans a1, b1⟩
theorem vx_callFl {S SX : Type} {post : Int64 → S → Prop} {px : SX → Prop} {B : S → State → Prop} {BX : String → SX → State → Prop} {AX : Nat → Prop} (hr : vx_Run5 p l e R s m args below meth c H locs cells slots mc ms (F0 m pc ls st0) rest (va_Ql post B A1 a) (vx_X px BX AX) free) (hS : va_S A0 H0 H locs) (hA : ∀ q, q < H.size → A1 q → A0 q) (hf : ∀ q, free q → A0 q) (hAX : ∀ q, q < H.size → AX q → A0 q)
    (kx : ∀ (E : String) (ce : Cell) (q9 : Addr) (u : SX) (t : State) (H1 : Heap) (locs1 : List Loc), t.heap = H1 → s.vm.Alike t.vm → px u → BX E u t → H.size ≤ H1.size → (∀ q : Nat, q < H.size → ¬ AX q → H1[q]? = H[q]?) → va_S A0 H0 H1 locs1 → H1[q9]? = some ce → ce.vm = .none → s.vm.findClass E = some ce.cls → vx_W p l e R s m args below meth c H1 locs1 (cells + mc) (slots + ms) Q (F0 m pc ls rest) q9)
    (kk : ∀ (r : Int64) (u : S) (t : State) (H1 : Heap) (locs1 : List Loc), t.heap = H1 → s.vm.Alike t.vm → post r u → B u t → H.size ≤ H1.size → (∀ q : Nat, q < H.size → ¬ A1 q → H1[q]? = H[q]?) → va_S A0 H0 H1 locs1 → W p l e R s m args below meth c H1 locs1 (cells + mc) (slots + ms) Q (F0 m (pc + 5) ls (.long r :: rest))) : W p l e R s m args below meth c H locs cells slots Q (F0 m pc ls st0) := by
  intro T hT X
  rcases hr T hT X with ⟨v, st₀, t, T', L, h0, X', hL, e1, e2, ⟨⟨r, u, hv, hp, hb⟩, hF⟩, st⟩ | ⟨q, st₀, t, T', L, E, ce, h0, X', hL, e1, e2, ⟨u, hp, hb, hF⟩, hce, hcv, hcl, st⟩
  · cases hv
    obtain ⟨k1, k2, k3⟩ := vx_keep h0 e1 hS hA hf hL hF
    obtain ⟨t2, a1, b1⟩ := kk r u t T'.heap (locs ++ L) e1.symm (by rw [← e2]; exact X'.warmed.alike) hp hb k1 k2 k3 T' rfl X'
    exact ⟨t2, st t2 a1, b1⟩
  · obtain ⟨k1, k2, k3⟩ := vx_keep h0 e1 hS hAX hf hL hF
    obtain ⟨t2, a1, b1⟩ := kx E ce q u t T'.heap (locs ++ L) e1.symm (by rw [← e2]; exact X'.warmed.alike) hp hb k1 k2 k3 (by rw [e1]; exact hce) hcv hcl T' rfl X'
    exact ⟨t2, st.trans a1, b1⟩
theorem vx_callFf {S SX : Type} {post : UInt32 → S → Prop} {px : SX → Prop} {B : S → State → Prop} {BX : String → SX → State → Prop} {AX : Nat → Prop} (hr : vx_Run5 p l e R s m args below meth c H locs cells slots mc ms (F0 m pc ls st0) rest (va_Qf post B A1 a) (vx_X px BX AX) free) (hS : va_S A0 H0 H locs) (hA : ∀ q, q < H.size → A1 q → A0 q) (hf : ∀ q, free q → A0 q) (hAX : ∀ q, q < H.size → AX q → A0 q)
    (kx : ∀ (E : String) (ce : Cell) (q9 : Addr) (u : SX) (t : State) (H1 : Heap) (locs1 : List Loc), t.heap = H1 → s.vm.Alike t.vm → px u → BX E u t → H.size ≤ H1.size → (∀ q : Nat, q < H.size → ¬ AX q → H1[q]? = H[q]?) → va_S A0 H0 H1 locs1 → H1[q9]? = some ce → ce.vm = .none → s.vm.findClass E = some ce.cls → vx_W p l e R s m args below meth c H1 locs1 (cells + mc) (slots + ms) Q (F0 m pc ls rest) q9)
    (kk : ∀ (r : UInt32) (u : S) (t : State) (H1 : Heap) (locs1 : List Loc), t.heap = H1 → s.vm.Alike t.vm → post r u → B u t → H.size ≤ H1.size → (∀ q : Nat, q < H.size → ¬ A1 q → H1[q]? = H[q]?) → va_S A0 H0 H1 locs1 → W p l e R s m args below meth c H1 locs1 (cells + mc) (slots + ms) Q (F0 m (pc + 5) ls (.float r :: rest))) : W p l e R s m args below meth c H locs cells slots Q (F0 m pc ls st0) := by
  intro T hT X
  rcases hr T hT X with ⟨v, st₀, t, T', L, h0, X', hL, e1, e2, ⟨⟨r, u, hv, hp, hb⟩, hF⟩, st⟩ | ⟨q, st₀, t, T', L, E, ce, h0, X', hL, e1, e2, ⟨u, hp, hb, hF⟩, hce, hcv, hcl, st⟩
  · cases hv
    obtain ⟨k1, k2, k3⟩ := vx_keep h0 e1 hS hA hf hL hF
    obtain ⟨t2, a1, b1⟩ := kk r u t T'.heap (locs ++ L) e1.symm (by rw [← e2]; exact X'.warmed.alike) hp hb k1 k2 k3 T' rfl X'
    exact ⟨t2, st t2 a1, b1⟩
  · obtain ⟨k1, k2, k3⟩ := vx_keep h0 e1 hS hAX hf hL hF
    obtain ⟨t2, a1, b1⟩ := kx E ce q u t T'.heap (locs ++ L) e1.symm (by rw [← e2]; exact X'.warmed.alike) hp hb k1 k2 k3 (by rw [e1]; exact hce) hcv hcl T' rfl X'
    exact ⟨t2, st.trans a1, b1⟩
theorem vx_callFd {S SX : Type} {post : UInt64 → S → Prop} {px : SX → Prop} {B : S → State → Prop} {BX : String → SX → State → Prop} {AX : Nat → Prop} (hr : vx_Run5 p l e R s m args below meth c H locs cells slots mc ms (F0 m pc ls st0) rest (va_Qd post B A1 a) (vx_X px BX AX) free) (hS : va_S A0 H0 H locs) (hA : ∀ q, q < H.size → A1 q → A0 q) (hf : ∀ q, free q → A0 q) (hAX : ∀ q, q < H.size → AX q → A0 q)
    (kx : ∀ (E : String) (ce : Cell) (q9 : Addr) (u : SX) (t : State) (H1 : Heap) (locs1 : List Loc), t.heap = H1 → s.vm.Alike t.vm → px u → BX E u t → H.size ≤ H1.size → (∀ q : Nat, q < H.size → ¬ AX q → H1[q]? = H[q]?) → va_S A0 H0 H1 locs1 → H1[q9]? = some ce → ce.vm = .none → s.vm.findClass E = some ce.cls → vx_W p l e R s m args below meth c H1 locs1 (cells + mc) (slots + ms) Q (F0 m pc ls rest) q9)
    (kk : ∀ (r : UInt64) (u : S) (t : State) (H1 : Heap) (locs1 : List Loc), t.heap = H1 → s.vm.Alike t.vm → post r u → B u t → H.size ≤ H1.size → (∀ q : Nat, q < H.size → ¬ A1 q → H1[q]? = H[q]?) → va_S A0 H0 H1 locs1 → W p l e R s m args below meth c H1 locs1 (cells + mc) (slots + ms) Q (F0 m (pc + 5) ls (.double r :: rest))) : W p l e R s m args below meth c H locs cells slots Q (F0 m pc ls st0) := by
  intro T hT X
  rcases hr T hT X with ⟨v, st₀, t, T', L, h0, X', hL, e1, e2, ⟨⟨r, u, hv, hp, hb⟩, hF⟩, st⟩ | ⟨q, st₀, t, T', L, E, ce, h0, X', hL, e1, e2, ⟨u, hp, hb, hF⟩, hce, hcv, hcl, st⟩
  · cases hv
    obtain ⟨k1, k2, k3⟩ := vx_keep h0 e1 hS hA hf hL hF
    obtain ⟨t2, a1, b1⟩ := kk r u t T'.heap (locs ++ L) e1.symm (by rw [← e2]; exact X'.warmed.alike) hp hb k1 k2 k3 T' rfl X'
    exact ⟨t2, st t2 a1, b1⟩
  · obtain ⟨k1, k2, k3⟩ := vx_keep h0 e1 hS hAX hf hL hF
    obtain ⟨t2, a1, b1⟩ := kx E ce q u t T'.heap (locs ++ L) e1.symm (by rw [← e2]; exact X'.warmed.alike) hp hb k1 k2 k3 (by rw [e1]; exact hce) hcv hcl T' rfl X'
    exact ⟨t2, st.trans a1, b1⟩
end
/-! ===== END ===== -/
/-! ===== BEGIN by an interface, a method with a table of its own that may throw (follows va_callIFW, va_runFW) ===== -/
section
variable {p : Program} {l : Launch} {e : Env} {R : Room} {s : State} {m : MethodId} {args : Array Value} {below : List Frame} {meth : Method} {c : Code} {H : Heap} {locs : List Loc} {cells slots : Nat}
theorem vx_callIFW {T : State} (X : Stand p l e R s m args below meth c T locs cells slots) (hexec : p.tables.exec = Jvm.exec) {own C : String} {index count : Nat} {x y : MethodName} {bytes : ByteArray} {maxL : Nat} {ret : Option FieldType} {hh : List (Nat × Nat × Nat × Nat)}
    (hown : s.vm.findClass own = some m.cls) (hlink : (Cond.methodLink own index x).before args s = true) (hdecl : (Cond.declares x).before args s = true) (hface : (Cond.interfaceMethod x.cls x.cls x.name x.desc).before args s = true)
    (hsel : (Cond.selects C x y).before args s = true) (hinst : (Cond.instanceMethod y).before args s = true) (hpub : (Cond.publicMethod y).before args s = true) (hunh : (Cond.unhidden C x.name x.desc).before args s = true)
    (hcast : (Cond.castable C x.cls).before args s = true) (hcode : (Cond.codeWith y bytes maxL ret hh).before args s = true) (hx : x.cls ≠ "java/lang/invoke/MethodHandle" ∧ x.cls ≠ "java/lang/invoke/VarHandle")
    {W : Nat} {Pre : Pt → Array Value → Prop} {Post : Pt → Array Value → Option Value → Pt → Prop} {PostX : Pt → Array Value → Addr → Pt → Prop} (hK : vx_Back l R p e below s args y 5 W Pre Post PostX)
    {b : Addr} {cellB : Cell} {kB : Class} (hcell : T.heap[b]? = some cellB) (hobj : cellB.vm.isStatics = false) (hcls : s.vm.findClass C = some cellB.cls) (hkB : s.vm.classes[cellB.cls]? = some kB)
    {g : JFrame} (hg : g.method = m) (hsize : g.locals.size = c.maxLocals) {argsL rest : List Value} (hlen : ∀ sig, parseMethodDescriptor x.desc = some sig → argsL.length = sig.parameters.length)
    (hstack : g.stack = argsL.reverse ++ .ref b :: rest) (hW : 2 * g.monitorRoom + (rest.map fun v => v.category).sum ≤ W) (hdg : decode c.code g.pc = .ok (.invokeinterface index count, 5))
    (hpre : ∀ vm₁, s.WarmedH vm₁ → Pre ⟨T.setVm vm₁, locs, cells, slots⟩ (Value.ref b :: argsL).toArray) :
    (∃ (v : Option Value) (vm₁ : Vm) (B : Pt), s.WarmedH vm₁ ∧ Stand p l e R s m args below meth c B.U B.locs B.cells B.slots ∧ Post ⟨T.setVm vm₁, locs, cells, slots⟩ (Value.ref b :: argsL).toArray v B ∧
      ∀ target, Steps p.tables e below (B.U.setTop { g with pc := g.pc + 5, stack := v.toList ++ rest }) target → Steps p.tables e below (T.setTop g) target) ∨
    (∃ (q : Addr) (vm₁ : Vm) (B : Pt), s.WarmedH vm₁ ∧ Stand p l e R s m args below meth c B.U B.locs B.cells B.slots ∧ PostX ⟨T.setVm vm₁, locs, cells, slots⟩ (Value.ref b :: argsL).toArray q B ∧
      Steps p.tables e below (T.setTop g) ((B.U.setTop { g with stack := rest }).pushFrame (.throwing q))) := by
  obtain ⟨r0, r, hn, hrm, hstR, hsigR⟩ := Cond.declares_spec hdecl
  obtain ⟨cL, kL, r1, hcL, hkL, hiL, hfoundL, hn1⟩ := Cond.interfaceMethod_spec hface
  cases hn.symm.trans hn1
  have hr0cls : r0.cls = cL := Option.some.inj ((findClass_of_methodNamed hn).symm.trans hcL)
  obtain ⟨hnameR, hdescR⟩ := name_of_methodNamed hn hrm
  obtain ⟨mk, methM, hnamed, hmethM, -, habM⟩ := Cond.instanceMethod_spec hinst
  obtain ⟨c2, r2, m2, q1, q2, q3, q4, -⟩ := Cond.selects_spec hsel
  cases hcls.symm.trans q1
  cases hfoundL.symm.trans q2
  cases hnamed.symm.trans q3
  have hselP : selectMethod e.platform s.vm cellB.cls r0 = .method mk := by rw [Launch.admits_selectMethod X.admits]; exact q4
  have hpubM : hasFlag methM.accessFlags Acc.public_ = true := Cond.publicMethod_spec hnamed hmethM hpub
  have hway : ((cellB.cls :: s.vm.superclasses cellB.cls).any fun k => (declaredIn s.vm r.name r.desc k).any fun (_, z) => z.isPrivate || z.isStatic) = false := by
    rw [hnameR, hdescR]; exact Cond.unhidden_spec hcls hunh
  obtain ⟨c3, t3, w1, w2, w3⟩ := Cond.castable_spec hcast
  cases hcls.symm.trans w1
  cases hcL.symm.trans w2
  obtain ⟨vm₁, X₁, hstep₁⟩ := X.invokeinterface hexec hown hlink hn hrm hstR (by rw [hr0cls]; exact hkL) hiL hx (a := b) (cell := cellB) (kcell := kB) hcell
    (fun z h => by rw [h] at hobj; cases hobj) hkB (by rw [hr0cls]; exact w3) hselP hmethM hway hpubM habM (g := g) hg (argsL := argsL) (rest := rest) (hlen _ hsigR) hstack hdg
  rcases hK m meth c ⟨T.setVm vm₁, locs, cells, slots⟩ { g with stack := rest } (.invokeinterface index count) mk (Value.ref b :: argsL).toArray X₁ hg hsize hdg hW (X₁.named hnamed) (hpre vm₁ X₁.warmed) with ⟨v, B, X', hpost, hsteps⟩ | ⟨q, B, X', hpost, hsteps⟩
  · exact Or.inl ⟨v, vm₁, B, X₁.warmed, X', hpost, fun target h => hstep₁ _ fun acts => by rw [doInvoke_state]; exact hsteps.trans h⟩
  · exact Or.inr ⟨q, vm₁, B, X₁.warmed, X', hpost, hstep₁ _ fun acts => by rw [doInvoke_state]; exact hsteps⟩
theorem vx_runFW {x y : MethodName} {bytes cc : ByteArray} {maxL nL mc ms n index count : Nat} {ret : Option FieldType} {hh : List (Nat × Nat × Nat × Nat)} {ws : List Cond} {rm : Room} {Pc : Array Value → State → Prop} {Qc : Array Value → State → Outcome → State → Prop} {XC : String → State → State → Prop} {free : Addr → Prop} {Ts : List Cond} {own C : String} {cC : ClassId} {b : Addr} {As rest : List Value} {g : JFrame}
    (hat : ClassAt s C cC) (S : CallFix p m c cc nL s args Ts own) (hM : vx_Met l y ws rm Pc Qc XC mc ms free) (cw : va_CIW R s args own C index x y bytes maxL ret hh ws rm mc ms n) (hp : PreV s H C b Pc As)
    (hg : g.method = m) (hn : As.length = n) (hsize : g.locals.size = nL) (hstack : g.stack = As.reverse ++ .ref b :: rest) (hW : 2 * g.monitorRoom + (rest.map fun v => v.category).sum ≤ 8) (hdg : decode cc g.pc = .ok (.invokeinterface index count, 5)) (hf : cells + mc ≤ R.cells ∧ slots + ms ≤ R.slots) :
    vx_Run5 p l e R s m args below meth c H locs cells slots mc ms g rest (Qc (Value.ref b :: As).toArray) XC free := by
  obtain ⟨hrc, hrs, hfr, hlo, hws, hcw⟩ := cw.back
  have hini := cw.init
  have hK : vx_Back l R p e below s args y 5 8 (PreOf R mc ms Pc) (PostOf Qc mc ms free) (vx_Post XC mc ms free) := vx_backW (hh := hh) (bytes := bytes) (maxL := maxL) (ret := ret) hM hp.1 hrc hrs hfr hlo hws hcw (fun a' U hW => word_at hW (Or.inl (by first | rfl | simp [Cond.onTables, Cond.keeps, Cond.steady])) hini)
  obtain ⟨hx, hb, hml, ho, -⟩ := S
  obtain ⟨-, ⟨cellB, hcB, hoB, hclB⟩, hPc⟩ := hp
  obtain ⟨hfc, kB, hkB, -⟩ := hat
  cases hfc.symm.trans hclB
  intro T hT X
  rcases vx_callIFW X hx (C := C) (hh := hh) (bytes := bytes) (maxL := maxL) (ret := ret) ho cw.link cw.decl cw.face cw.sel cw.inst cw.pub cw.unh cw.cast cw.code cw.notMH hK (by rw [hT]; exact hcB) hoB hclB hkB hg (hsize.trans hml.symm) (argsL := As) (rest := rest) (fun sig h => hn.trans (cw.len sig h)) hstack hW (by rw [hb]; exact hdg)
    (fun vm₁ hW₁ => ⟨hf.1, hf.2, hPc (T.setVm vm₁) hT hW₁⟩) with ⟨v, vm₁, ⟨U', l2, c2, s2⟩, hW₁, X', ⟨g', mk, t, L, e1, e2, hq, h1, hL, h2, h3⟩, st⟩ | ⟨q, vm₁, ⟨U', l2, c2, s2⟩, hW₁, X', ⟨g', mk, t, L, E, ce, e1, e2, hq, hce, hcv, hcl, h1, hL, h2, h3⟩, st⟩
  · dsimp only [Pt.U, Pt.locs, Pt.cells, Pt.slots] at X' e1 e2 h1 h2 h3 st
    subst h1; subst h2; subst h3
    exact Or.inl ⟨v, (T.setVm vm₁).calling g' mk (Value.ref b :: As).toArray, t, U', L, hT, X', hL, e1, e2, hq, st⟩
  · dsimp only [Pt.U, Pt.locs, Pt.cells, Pt.slots] at X' e1 e2 h1 h2 h3 st hcl
    subst h1; subst h2; subst h3
    exact Or.inr ⟨q, (T.setVm vm₁).calling g' mk (Value.ref b :: As).toArray, t, U', L, E, ce, hT, X', hL, e1, e2, hq, hce, hcv, vx_cls hW₁ hcl, st⟩
end
/-! ===== END ===== -/
/-! ===== BEGIN .. of methods that hand back an object of the pool ===== -/
section
variable {p : Program} {l : Launch} {e : Env} {R : Room} {s : State} {m : MethodId} {args : Array Value} {below : List Frame} {meth : Method} {c : Code} {H : Heap} {locs : List Loc} {cells slots : Nat} {Q : State → Prop}
variable {mc ms : Nat} {free : Addr → Prop} {A0 A1 : Nat → Prop} {H0 : Heap} {a : Array Value} {pc : Nat} {ls : Array Slot} {st0 rest : List Value}
theorem vx_callq {S SX : Type} {post : Option Nat → S → Prop} {px : SX → Prop} {B : S → State → Prop} {BX : String → SX → State → Prop} {AX : Nat → Prop} (hr : vx_Run p l e R s m args below meth c H locs cells slots mc ms (F0 m pc ls st0) rest (va_Qq post B A1 a) (vx_X px BX AX) free) (hS : va_S A0 H0 H locs) (hA : ∀ q, q < H.size → A1 q → A0 q) (hf : ∀ q, free q → A0 q) (hAX : ∀ q, q < H.size → AX q → A0 q)
    (kx : ∀ (E : String) (ce : Cell) (q9 : Addr) (u : SX) (t : State) (H1 : Heap) (locs1 : List Loc), t.heap = H1 → s.vm.Alike t.vm → px u → BX E u t → H.size ≤ H1.size → (∀ q : Nat, q < H.size → ¬ AX q → H1[q]? = H[q]?) → va_S A0 H0 H1 locs1 → H1[q9]? = some ce → ce.vm = .none → s.vm.findClass E = some ce.cls → vx_W p l e R s m args below meth c H1 locs1 (cells + mc) (slots + ms) Q (F0 m pc ls rest) q9)
    (kk : ∀ (r : Option Nat) (u : S) (t : State) (H1 : Heap) (locs1 : List Loc), t.heap = H1 → s.vm.Alike t.vm → post r u → B u t → H.size ≤ H1.size → (∀ q : Nat, q < H.size → ¬ A1 q → H1[q]? = H[q]?) → va_S A0 H0 H1 locs1 → W p l e R s m args below meth c H1 locs1 (cells + mc) (slots + ms) Q (F0 m (pc + 3) ls (va_rf r :: rest))) : W p l e R s m args below meth c H locs cells slots Q (F0 m pc ls st0) := by
  intro T hT X
  rcases hr T hT X with ⟨v, st₀, t, T', L, h0, X', hL, e1, e2, ⟨⟨r, u, hv, hp, hb⟩, hF⟩, st⟩ | ⟨q, st₀, t, T', L, E, ce, h0, X', hL, e1, e2, ⟨u, hp, hb, hF⟩, hce, hcv, hcl, st⟩
  · cases hv
    obtain ⟨k1, k2, k3⟩ := vx_keep h0 e1 hS hA hf hL hF
    obtain ⟨t2, a1, b1⟩ := kk r u t T'.heap (locs ++ L) e1.symm (by rw [← e2]; exact X'.warmed.alike) hp hb k1 k2 k3 T' rfl X'
    exact ⟨t2, st t2 a1, b1⟩
  · obtain ⟨k1, k2, k3⟩ := vx_keep h0 e1 hS hAX hf hL hF
    obtain ⟨t2, a1, b1⟩ := kx E ce q u t T'.heap (locs ++ L) e1.symm (by rw [← e2]; exact X'.warmed.alike) hp hb k1 k2 k3 (by rw [e1]; exact hce) hcv hcl T' rfl X'
    exact ⟨t2, st.trans a1, b1⟩
end
/-! ===== END ===== -/
/-! ===== BEGIN .. a constant ===== -/
section
variable {p : Program} {l : Launch} {e : Env} {R : Room} {s : State} {m : MethodId} {args : Array Value} {below : List Frame} {meth : Method} {c : Code} {H : Heap} {locs : List Loc} {cells slots : Nat} {Q : State → Prop}
variable {mc ms : Nat} {free : Addr → Prop} {A0 A1 : Nat → Prop} {H0 : Heap} {a : Array Value} {pc : Nat} {ls : Array Slot} {st0 rest : List Value}
theorem vx_calle {ad : Nat → Nat} {S SX : Type} {post : Option Nat → S → Prop} {px : SX → Prop} {B : S → State → Prop} {BX : String → SX → State → Prop} {AX : Nat → Prop} (hr : vx_Run p l e R s m args below meth c H locs cells slots mc ms (F0 m pc ls st0) rest (va_Qe ad post B A1 a) (vx_X px BX AX) free) (hS : va_S A0 H0 H locs) (hA : ∀ q, q < H.size → A1 q → A0 q) (hf : ∀ q, free q → A0 q) (hAX : ∀ q, q < H.size → AX q → A0 q)
    (kx : ∀ (E : String) (ce : Cell) (q9 : Addr) (u : SX) (t : State) (H1 : Heap) (locs1 : List Loc), t.heap = H1 → s.vm.Alike t.vm → px u → BX E u t → H.size ≤ H1.size → (∀ q : Nat, q < H.size → ¬ AX q → H1[q]? = H[q]?) → va_S A0 H0 H1 locs1 → H1[q9]? = some ce → ce.vm = .none → s.vm.findClass E = some ce.cls → vx_W p l e R s m args below meth c H1 locs1 (cells + mc) (slots + ms) Q (F0 m pc ls rest) q9)
    (kk : ∀ (r : Option Nat) (u : S) (t : State) (H1 : Heap) (locs1 : List Loc), t.heap = H1 → s.vm.Alike t.vm → post r u → B u t → H.size ≤ H1.size → (∀ q : Nat, q < H.size → ¬ A1 q → H1[q]? = H[q]?) → va_S A0 H0 H1 locs1 → W p l e R s m args below meth c H1 locs1 (cells + mc) (slots + ms) Q (F0 m (pc + 3) ls (va_re ad r :: rest))) : W p l e R s m args below meth c H locs cells slots Q (F0 m pc ls st0) := by
  intro T hT X
  rcases hr T hT X with ⟨v, st₀, t, T', L, h0, X', hL, e1, e2, ⟨⟨r, u, hv, hp, hb⟩, hF⟩, st⟩ | ⟨q, st₀, t, T', L, E, ce, h0, X', hL, e1, e2, ⟨u, hp, hb, hF⟩, hce, hcv, hcl, st⟩
  · cases hv
    obtain ⟨k1, k2, k3⟩ := vx_keep h0 e1 hS hA hf hL hF
    obtain ⟨t2, a1, b1⟩ := kk r u t T'.heap (locs ++ L) e1.symm (by rw [← e2]; exact X'.warmed.alike) hp hb k1 k2 k3 T' rfl X'
    exact ⟨t2, st t2 a1, b1⟩
  · obtain ⟨k1, k2, k3⟩ := vx_keep h0 e1 hS hAX hf hL hF
    obtain ⟨t2, a1, b1⟩ := kx E ce q u t T'.heap (locs ++ L) e1.symm (by rw [← e2]; exact X'.warmed.alike) hp hb k1 k2 k3 (by rw [e1]; exact hce) hcv hcl T' rfl X'
    exact ⟨t2, st.trans a1, b1⟩
end
/-! ===== END ===== -/
/-! ===== BEGIN .. by an interface, an object ===== -/
section
variable {p : Program} {l : Launch} {e : Env} {R : Room} {s : State} {m : MethodId} {args : Array Value} {below : List Frame} {meth : Method} {c : Code} {H : Heap} {locs : List Loc} {cells slots : Nat} {Q : State → Prop}
variable {mc ms : Nat} {free : Addr → Prop} {A0 A1 : Nat → Prop} {H0 : Heap} {a : Array Value} {pc : Nat} {ls : Array Slot} {st0 rest : List Value}
theorem vx_callFq {S SX : Type} {post : Option Nat → S → Prop} {px : SX → Prop} {B : S → State → Prop} {BX : String → SX → State → Prop} {AX : Nat → Prop} (hr : vx_Run5 p l e R s m args below meth c H locs cells slots mc ms (F0 m pc ls st0) rest (va_Qq post B A1 a) (vx_X px BX AX) free) (hS : va_S A0 H0 H locs) (hA : ∀ q, q < H.size → A1 q → A0 q) (hf : ∀ q, free q → A0 q) (hAX : ∀ q, q < H.size → AX q → A0 q)
    (kx : ∀ (E : String) (ce : Cell) (q9 : Addr) (u : SX) (t : State) (H1 : Heap) (locs1 : List Loc), t.heap = H1 → s.vm.Alike t.vm → px u → BX E u t → H.size ≤ H1.size → (∀ q : Nat, q < H.size → ¬ AX q → H1[q]? = H[q]?) → va_S A0 H0 H1 locs1 → H1[q9]? = some ce → ce.vm = .none → s.vm.findClass E = some ce.cls → vx_W p l e R s m args below meth c H1 locs1 (cells + mc) (slots + ms) Q (F0 m pc ls rest) q9)
    (kk : ∀ (r : Option Nat) (u : S) (t : State) (H1 : Heap) (locs1 : List Loc), t.heap = H1 → s.vm.Alike t.vm → post r u → B u t → H.size ≤ H1.size → (∀ q : Nat, q < H.size → ¬ A1 q → H1[q]? = H[q]?) → va_S A0 H0 H1 locs1 → W p l e R s m args below meth c H1 locs1 (cells + mc) (slots + ms) Q (F0 m (pc + 5) ls (va_rf r :: rest))) : W p l e R s m args below meth c H locs cells slots Q (F0 m pc ls st0) := by
  intro T hT X
  rcases hr T hT X with ⟨v, st₀, t, T', L, h0, X', hL, e1, e2, ⟨⟨r, u, hv, hp, hb⟩, hF⟩, st⟩ | ⟨q, st₀, t, T', L, E, ce, h0, X', hL, e1, e2, ⟨u, hp, hb, hF⟩, hce, hcv, hcl, st⟩
  · cases hv
    obtain ⟨k1, k2, k3⟩ := vx_keep h0 e1 hS hA hf hL hF
    obtain ⟨t2, a1, b1⟩ := kk r u t T'.heap (locs ++ L) e1.symm (by rw [← e2]; exact X'.warmed.alike) hp hb k1 k2 k3 T' rfl X'
    exact ⟨t2, st t2 a1, b1⟩
  · obtain ⟨k1, k2, k3⟩ := vx_keep h0 e1 hS hAX hf hL hF
    obtain ⟨t2, a1, b1⟩ := kx E ce q u t T'.heap (locs ++ L) e1.symm (by rw [← e2]; exact X'.warmed.alike) hp hb k1 k2 k3 (by rw [e1]; exact hce) hcv hcl T' rfl X'
    exact ⟨t2, st.trans a1, b1⟩
end
/-! ===== END ===== -/
/-! ===== BEGIN .. by an interface, a constant ===== -/
section
variable {p : Program} {l : Launch} {e : Env} {R : Room} {s : State} {m : MethodId} {args : Array Value} {below : List Frame} {meth : Method} {c : Code} {H : Heap} {locs : List Loc} {cells slots : Nat} {Q : State → Prop}
variable {mc ms : Nat} {free : Addr → Prop} {A0 A1 : Nat → Prop} {H0 : Heap} {a : Array Value} {pc : Nat} {ls : Array Slot} {st0 rest : List Value}
theorem vx_callFe {ad : Nat → Nat} {S SX : Type} {post : Option Nat → S → Prop} {px : SX → Prop} {B : S → State → Prop} {BX : String → SX → State → Prop} {AX : Nat → Prop} (hr : vx_Run5 p l e R s m args below meth c H locs cells slots mc ms (F0 m pc ls st0) rest (va_Qe ad post B A1 a) (vx_X px BX AX) free) (hS : va_S A0 H0 H locs) (hA : ∀ q, q < H.size → A1 q → A0 q) (hf : ∀ q, free q → A0 q) (hAX : ∀ q, q < H.size → AX q → A0 q)
    (kx : ∀ (E : String) (ce : Cell) (q9 : Addr) (u : SX) (t : State) (H1 : Heap) (locs1 : List Loc), t.heap = H1 → s.vm.Alike t.vm → px u → BX E u t → H.size ≤ H1.size → (∀ q : Nat, q < H.size → ¬ AX q → H1[q]? = H[q]?) → va_S A0 H0 H1 locs1 → H1[q9]? = some ce → ce.vm = .none → s.vm.findClass E = some ce.cls → vx_W p l e R s m args below meth c H1 locs1 (cells + mc) (slots + ms) Q (F0 m pc ls rest) q9)
    (kk : ∀ (r : Option Nat) (u : S) (t : State) (H1 : Heap) (locs1 : List Loc), t.heap = H1 → s.vm.Alike t.vm → post r u → B u t → H.size ≤ H1.size → (∀ q : Nat, q < H.size → ¬ A1 q → H1[q]? = H[q]?) → va_S A0 H0 H1 locs1 → W p l e R s m args below meth c H1 locs1 (cells + mc) (slots + ms) Q (F0 m (pc + 5) ls (va_re ad r :: rest))) : W p l e R s m args below meth c H locs cells slots Q (F0 m pc ls st0) := by
  intro T hT X
  rcases hr T hT X with ⟨v, st₀, t, T', L, h0, X', hL, e1, e2, ⟨⟨r, u, hv, hp, hb⟩, hF⟩, st⟩ | ⟨q, st₀, t, T', L, E, ce, h0, X', hL, e1, e2, ⟨u, hp, hb, hF⟩, hce, hcv, hcl, st⟩
  · cases hv
    obtain ⟨k1, k2, k3⟩ := vx_keep h0 e1 hS hA hf hL hF
    obtain ⟨t2, a1, b1⟩ := kk r u t T'.heap (locs ++ L) e1.symm (by rw [← e2]; exact X'.warmed.alike) hp hb k1 k2 k3 T' rfl X'
    exact ⟨t2, st t2 a1, b1⟩
  · obtain ⟨k1, k2, k3⟩ := vx_keep h0 e1 hS hAX hf hL hF
    obtain ⟨t2, a1, b1⟩ := kx E ce q u t T'.heap (locs ++ L) e1.symm (by rw [← e2]; exact X'.warmed.alike) hp hb k1 k2 k3 (by rw [e1]; exact hce) hcv hcl T' rfl X'
    exact ⟨t2, st.trans a1, b1⟩
end
/-! ===== END ===== -/
/-! ===== BEGIN what the machine throws by itself: null at a field, at athrow ===== -/
section VXM2
variable {p : Program} {l : Launch} {e : Env} {R : Room} {s : State} {m : MethodId} {args : Array Value} {below : List Frame} {meth : Method} {c : Code} {H : Heap} {locs : List Loc} {cells slots : Nat}
variable {Q : State → Prop} {cc : ByteArray} {pc : Nat} {ls : Array Slot} {rest : List Value}
theorem vx_getfN {D cl tys} {own ref C : String} {T : u_T} {N ci index : Nat} {Ts : List Cond} (hexec : p.tables.exec = Jvm.exec) (hb : c.code = cc) (hts : ∀ w ∈ Ts, w.before args s = true) (hin : ∀ w ∈ u_ws C T N, w ∈ Ts) (hown : s.vm.findClass own = some m.cls) (hK : va_K D cl tys s) (hc : cl[ci]? = some (C, T, N)) (k : Nat) (hk : k < N) (hlink : (Cond.fieldLink own index ref (T k).2.1 (T k).2.2.1).before args s = true) (hsame : ∀ x, s.fieldFound? (T k).1 (T k).2.1 (T k).2.2.1 = some x → s.fieldFound? ref (T k).2.1 (T k).2.2.1 = some x) (hdg : decode cc pc = .ok (.getfield index, 3)) (kk : vx_NoteN p l e R s m args below meth c H locs cells slots Q (F0 m pc ls rest)) : W p l e R s m args below meth c H locs cells slots Q (F0 m pc ls (.null :: rest)) := by
  obtain ⟨hS, hfc, kC, hkC, -⟩ := hK.1 ci _ hc
  obtain ⟨cf, kf, fi, f, hi, -⟩ := hS k hk
  intro U hU X
  obtain ⟨vm', X1, st1⟩ := X.getfieldNull hexec hown hlink (hsame _ hi) (u_facts hfc hkC (u_lays hts hin hk) hi).1 (g := F0 m pc ls (.null :: rest)) rfl (rest := rest) rfl (by rw [hb]; exact hdg)
  obtain ⟨t, st, q⟩ := kk (U.setVm vm') hU X1
  exact ⟨t, st1 t st, q⟩
theorem vx_getfNN {D cl tys} {own ref C host : String} {T : u_T} {N ci index : Nat} {Ts : List Cond} (hexec : p.tables.exec = Jvm.exec) (hb : c.code = cc) (hts : ∀ w ∈ Ts, w.before args s = true) (hin : ∀ w ∈ u_ws C T N, w ∈ Ts) (hown : s.vm.findClass own = some m.cls) (hK : va_K D cl tys s) (hc : cl[ci]? = some (C, T, N)) (k : Nat) (hk : k < N) (hlink : (Cond.fieldLinkNest own index ref (T k).2.1 (T k).2.2.1 host).before args s = true) (hsame : ∀ x, s.fieldFound? (T k).1 (T k).2.1 (T k).2.2.1 = some x → s.fieldFound? ref (T k).2.1 (T k).2.2.1 = some x) (hdg : decode cc pc = .ok (.getfield index, 3)) (kk : vx_NoteN p l e R s m args below meth c H locs cells slots Q (F0 m pc ls rest)) : W p l e R s m args below meth c H locs cells slots Q (F0 m pc ls (.null :: rest)) := by
  obtain ⟨hS, hfc, kC, hkC, -⟩ := hK.1 ci _ hc
  obtain ⟨cf, kf, fi, f, hi, -⟩ := hS k hk
  intro U hU X
  obtain ⟨vm', X1, st1⟩ := X.getfieldNullNest hexec hown hlink (hsame _ hi) (u_facts hfc hkC (u_lays hts hin hk) hi).1 (g := F0 m pc ls (.null :: rest)) rfl (rest := rest) rfl (by rw [hb]; exact hdg)
  obtain ⟨t, st, q⟩ := kk (U.setVm vm') hU X1
  exact ⟨t, st1 t st, q⟩
theorem vx_putfN {D cl tys} {own ref C : String} {T : u_T} {N ci index : Nat} {Ts : List Cond} (hexec : p.tables.exec = Jvm.exec) (hb : c.code = cc) (hts : ∀ w ∈ Ts, w.before args s = true) (hin : ∀ w ∈ u_ws C T N, w ∈ Ts) (hown : s.vm.findClass own = some m.cls) (hK : va_K D cl tys s) (hc : cl[ci]? = some (C, T, N)) (k : Nat) (hk : k < N) (hlink : (Cond.fieldLink own index ref (T k).2.1 (T k).2.2.1).before args s = true) (hsame : ∀ x, s.fieldFound? (T k).1 (T k).2.1 (T k).2.2.1 = some x → s.fieldFound? ref (T k).2.1 (T k).2.2.1 = some x) (hfin : (T k).2.2.2 = false) {v : Value} (hdg : decode cc pc = .ok (.putfield index, 3)) (kk : vx_NoteN p l e R s m args below meth c H locs cells slots Q (F0 m pc ls rest)) : W p l e R s m args below meth c H locs cells slots Q (F0 m pc ls (v :: .null :: rest)) := by
  obtain ⟨hS, hfc, kC, hkC, -⟩ := hK.1 ci _ hc
  obtain ⟨cf, kf, fi, f, hi, -⟩ := hS k hk
  have hlay := hts _ (hin _ (u_in_lay hk))
  unfold u_lay at hlay
  rw [if_neg (by rw [hfin]; decide)] at hlay
  obtain ⟨c9, k9, cf9, kf9, fi9, f9, -, -, hi9, hst9, hnf9, -⟩ := Cond.lays_spec hlay
  cases hi.symm.trans hi9
  intro U hU X
  obtain ⟨vm', X1, st1⟩ := X.putfieldNull hexec hown hlink (hsame _ hi) hst9 hnf9 (g := F0 m pc ls (v :: .null :: rest)) rfl (v := v) (rest := rest) rfl (by rw [hb]; exact hdg)
  obtain ⟨t, st, q⟩ := kk (U.setVm vm') hU X1
  exact ⟨t, st1 t st, q⟩
theorem vx_putfNN {D cl tys} {own ref C host : String} {T : u_T} {N ci index : Nat} {Ts : List Cond} (hexec : p.tables.exec = Jvm.exec) (hb : c.code = cc) (hts : ∀ w ∈ Ts, w.before args s = true) (hin : ∀ w ∈ u_ws C T N, w ∈ Ts) (hown : s.vm.findClass own = some m.cls) (hK : va_K D cl tys s) (hc : cl[ci]? = some (C, T, N)) (k : Nat) (hk : k < N) (hlink : (Cond.fieldLinkNest own index ref (T k).2.1 (T k).2.2.1 host).before args s = true) (hsame : ∀ x, s.fieldFound? (T k).1 (T k).2.1 (T k).2.2.1 = some x → s.fieldFound? ref (T k).2.1 (T k).2.2.1 = some x) (hfin : (T k).2.2.2 = false) {v : Value} (hdg : decode cc pc = .ok (.putfield index, 3)) (kk : vx_NoteN p l e R s m args below meth c H locs cells slots Q (F0 m pc ls rest)) : W p l e R s m args below meth c H locs cells slots Q (F0 m pc ls (v :: .null :: rest)) := by
  obtain ⟨hS, hfc, kC, hkC, -⟩ := hK.1 ci _ hc
  obtain ⟨cf, kf, fi, f, hi, -⟩ := hS k hk
  have hlay := hts _ (hin _ (u_in_lay hk))
  unfold u_lay at hlay
  rw [if_neg (by rw [hfin]; decide)] at hlay
  obtain ⟨c9, k9, cf9, kf9, fi9, f9, -, -, hi9, hst9, hnf9, -⟩ := Cond.lays_spec hlay
  cases hi.symm.trans hi9
  intro U hU X
  obtain ⟨vm', X1, st1⟩ := X.putfieldNullNest hexec hown hlink (hsame _ hi) hst9 hnf9 (g := F0 m pc ls (v :: .null :: rest)) rfl (v := v) (rest := rest) rfl (by rw [hb]; exact hdg)
  obtain ⟨t, st, q⟩ := kk (U.setVm vm') hU X1
  exact ⟨t, st1 t st, q⟩
theorem vx_athrowN (hexec : p.tables.exec = Jvm.exec) (hb : c.code = cc) (hdg : decode cc pc = .ok (.athrow, 1)) (k : vx_NoteN p l e R s m args below meth c H locs cells slots Q (F0 m pc ls rest)) : W p l e R s m args below meth c H locs cells slots Q (F0 m pc ls (.null :: rest)) := by
  intro T hT X
  obtain ⟨t, st, q⟩ := k T hT X
  exact ⟨t, X.athrowNull hexec (g := F0 m pc ls (.null :: rest)) rfl (rest := rest) rfl (by rw [hb]; exact hdg) t st, q⟩
end VXM2
/-! ===== END ===== -/
end
section
/-! A small interpreter of bytecode, for the kernel: ints and longs as numbers, cells as numbers of 64 bits a place, the heap as a tree. -/
-- a value: an int, a reference (0 null, 8192 the script, 16384 the lists' first array, else a cell's number), a long, or two numbers: below 2^32 an int from the first to the second one; 2^32 + c an int with c in its last six bits; 2^33 nothing known; 2^34 a double by its bits
abbrev rV : Type := Nat ⊕ (Nat ⊕ (Nat ⊕ (Nat × Nat)))
-- a cell: 2 c + 2 an object of the class c, 2 t + 1 an array of the type t, 0 nothing known; its length; its places
abbrev rC : Type := Nat × (Nat × Nat)
def rT : Nat → Type := fun d => Nat.rec rC (fun _ T => T × T) d
-- the heap: the cells; how many numbers are used, how many cells and slots were made, the script
abbrev rH : Type := rT 9 × (Nat × (Nat × (Nat × List rV)))
abbrev rO : Type := Option rV ⊕ Nat
abbrev rR : Type := Option (rO × rH)
abbrev rJ : Type := Nat → List rV → List rV → rH → rR
abbrev rP : Type := (rJ × rJ) → List rV → List rV → rH → rR
abbrev vI (n : Nat) : rV := .inl n
abbrev vR (n : Nat) : rV := .inr (.inl n)
abbrev vL (n : Nat) : rV := .inr (.inr (.inl n))
abbrev vX (a b : Nat) : rV := .inr (.inr (.inr (a, b)))
def vU : rV := vX 8589934592 0
noncomputable def rC2 (v : rV) : Bool := @Sum.rec _ _ (fun _ => Bool) (fun _ => false) (fun w => @Sum.rec _ _ (fun _ => Bool) (fun _ => false) (fun w => @Sum.rec _ _ (fun _ => Bool) (fun _ => true) (fun p => Nat.beq p.1 17179869184) w) w) v
noncomputable def rDj (v : rV) : rV := @Bool.rec (fun _ => rV) v vU (rC2 v)
noncomputable def nG0 (L : List rV) : rV := @List.rec _ (fun _ => rV) vU (fun x _ _ => x) L
noncomputable def nS0 (v : rV) (L : List rV) : List rV := @List.rec _ (fun _ => List rV) [v] (fun _ r _ => v :: r) L
noncomputable def nD0 (v : rV) (L : List rV) : List rV := @List.rec _ (fun _ => List rV) [v, vU] (fun _ r _ => v :: nS0 vU r) L
noncomputable def nG1 (L : List rV) : rV := @List.rec _ (fun _ => rV) vU (fun _ r _ => nG0 r) L
noncomputable def nS1 (v : rV) (L : List rV) : List rV := @List.rec _ (fun _ => List rV) (vU :: nS0 v []) (fun x r _ => rDj x :: nS0 v r) L
noncomputable def nD1 (v : rV) (L : List rV) : List rV := @List.rec _ (fun _ => List rV) (vU :: nD0 v []) (fun x r _ => rDj x :: nD0 v r) L
noncomputable def nG2 (L : List rV) : rV := @List.rec _ (fun _ => rV) vU (fun _ r _ => nG1 r) L
noncomputable def nS2 (v : rV) (L : List rV) : List rV := @List.rec _ (fun _ => List rV) (vU :: nS1 v []) (fun x r _ => x :: nS1 v r) L
noncomputable def nD2 (v : rV) (L : List rV) : List rV := @List.rec _ (fun _ => List rV) (vU :: nD1 v []) (fun x r _ => x :: nD1 v r) L
noncomputable def nG3 (L : List rV) : rV := @List.rec _ (fun _ => rV) vU (fun _ r _ => nG2 r) L
noncomputable def nS3 (v : rV) (L : List rV) : List rV := @List.rec _ (fun _ => List rV) (vU :: nS2 v []) (fun x r _ => x :: nS2 v r) L
noncomputable def nD3 (v : rV) (L : List rV) : List rV := @List.rec _ (fun _ => List rV) (vU :: nD2 v []) (fun x r _ => x :: nD2 v r) L
noncomputable def nG4 (L : List rV) : rV := @List.rec _ (fun _ => rV) vU (fun _ r _ => nG3 r) L
noncomputable def nS4 (v : rV) (L : List rV) : List rV := @List.rec _ (fun _ => List rV) (vU :: nS3 v []) (fun x r _ => x :: nS3 v r) L
noncomputable def nD4 (v : rV) (L : List rV) : List rV := @List.rec _ (fun _ => List rV) (vU :: nD3 v []) (fun x r _ => x :: nD3 v r) L
noncomputable def nG5 (L : List rV) : rV := @List.rec _ (fun _ => rV) vU (fun _ r _ => nG4 r) L
noncomputable def nS5 (v : rV) (L : List rV) : List rV := @List.rec _ (fun _ => List rV) (vU :: nS4 v []) (fun x r _ => x :: nS4 v r) L
noncomputable def nD5 (v : rV) (L : List rV) : List rV := @List.rec _ (fun _ => List rV) (vU :: nD4 v []) (fun x r _ => x :: nD4 v r) L
noncomputable def nG6 (L : List rV) : rV := @List.rec _ (fun _ => rV) vU (fun _ r _ => nG5 r) L
noncomputable def nS6 (v : rV) (L : List rV) : List rV := @List.rec _ (fun _ => List rV) (vU :: nS5 v []) (fun x r _ => x :: nS5 v r) L
noncomputable def nD6 (v : rV) (L : List rV) : List rV := @List.rec _ (fun _ => List rV) (vU :: nD5 v []) (fun x r _ => x :: nD5 v r) L
noncomputable def nG7 (L : List rV) : rV := @List.rec _ (fun _ => rV) vU (fun _ r _ => nG6 r) L
noncomputable def nS7 (v : rV) (L : List rV) : List rV := @List.rec _ (fun _ => List rV) (vU :: nS6 v []) (fun x r _ => x :: nS6 v r) L
noncomputable def nD7 (v : rV) (L : List rV) : List rV := @List.rec _ (fun _ => List rV) (vU :: nD6 v []) (fun x r _ => x :: nD6 v r) L
noncomputable def nG8 (L : List rV) : rV := @List.rec _ (fun _ => rV) vU (fun _ r _ => nG7 r) L
noncomputable def nS8 (v : rV) (L : List rV) : List rV := @List.rec _ (fun _ => List rV) (vU :: nS7 v []) (fun x r _ => x :: nS7 v r) L
noncomputable def nD8 (v : rV) (L : List rV) : List rV := @List.rec _ (fun _ => List rV) (vU :: nD7 v []) (fun x r _ => x :: nD7 v r) L
noncomputable def nG9 (L : List rV) : rV := @List.rec _ (fun _ => rV) vU (fun _ r _ => nG8 r) L
noncomputable def nS9 (v : rV) (L : List rV) : List rV := @List.rec _ (fun _ => List rV) (vU :: nS8 v []) (fun x r _ => x :: nS8 v r) L
noncomputable def nD9 (v : rV) (L : List rV) : List rV := @List.rec _ (fun _ => List rV) (vU :: nD8 v []) (fun x r _ => x :: nD8 v r) L
noncomputable def nG10 (L : List rV) : rV := @List.rec _ (fun _ => rV) vU (fun _ r _ => nG9 r) L
noncomputable def nS10 (v : rV) (L : List rV) : List rV := @List.rec _ (fun _ => List rV) (vU :: nS9 v []) (fun x r _ => x :: nS9 v r) L
noncomputable def nD10 (v : rV) (L : List rV) : List rV := @List.rec _ (fun _ => List rV) (vU :: nD9 v []) (fun x r _ => x :: nD9 v r) L
noncomputable def nG11 (L : List rV) : rV := @List.rec _ (fun _ => rV) vU (fun _ r _ => nG10 r) L
noncomputable def nS11 (v : rV) (L : List rV) : List rV := @List.rec _ (fun _ => List rV) (vU :: nS10 v []) (fun x r _ => x :: nS10 v r) L
noncomputable def nD11 (v : rV) (L : List rV) : List rV := @List.rec _ (fun _ => List rV) (vU :: nD10 v []) (fun x r _ => x :: nD10 v r) L
noncomputable def nG12 (L : List rV) : rV := @List.rec _ (fun _ => rV) vU (fun _ r _ => nG11 r) L
noncomputable def nS12 (v : rV) (L : List rV) : List rV := @List.rec _ (fun _ => List rV) (vU :: nS11 v []) (fun x r _ => x :: nS11 v r) L
noncomputable def nD12 (v : rV) (L : List rV) : List rV := @List.rec _ (fun _ => List rV) (vU :: nD11 v []) (fun x r _ => x :: nD11 v r) L
noncomputable def nG13 (L : List rV) : rV := @List.rec _ (fun _ => rV) vU (fun _ r _ => nG12 r) L
noncomputable def nS13 (v : rV) (L : List rV) : List rV := @List.rec _ (fun _ => List rV) (vU :: nS12 v []) (fun x r _ => x :: nS12 v r) L
noncomputable def nD13 (v : rV) (L : List rV) : List rV := @List.rec _ (fun _ => List rV) (vU :: nD12 v []) (fun x r _ => x :: nD12 v r) L
noncomputable def nG14 (L : List rV) : rV := @List.rec _ (fun _ => rV) vU (fun _ r _ => nG13 r) L
noncomputable def nS14 (v : rV) (L : List rV) : List rV := @List.rec _ (fun _ => List rV) (vU :: nS13 v []) (fun x r _ => x :: nS13 v r) L
noncomputable def nD14 (v : rV) (L : List rV) : List rV := @List.rec _ (fun _ => List rV) (vU :: nD13 v []) (fun x r _ => x :: nD13 v r) L
noncomputable def nG15 (L : List rV) : rV := @List.rec _ (fun _ => rV) vU (fun _ r _ => nG14 r) L
noncomputable def nS15 (v : rV) (L : List rV) : List rV := @List.rec _ (fun _ => List rV) (vU :: nS14 v []) (fun x r _ => x :: nS14 v r) L
noncomputable def nD15 (v : rV) (L : List rV) : List rV := @List.rec _ (fun _ => List rV) (vU :: nD14 v []) (fun x r _ => x :: nD14 v r) L
noncomputable def nG16 (L : List rV) : rV := @List.rec _ (fun _ => rV) vU (fun _ r _ => nG15 r) L
noncomputable def nS16 (v : rV) (L : List rV) : List rV := @List.rec _ (fun _ => List rV) (vU :: nS15 v []) (fun x r _ => x :: nS15 v r) L
noncomputable def nD16 (v : rV) (L : List rV) : List rV := @List.rec _ (fun _ => List rV) (vU :: nD15 v []) (fun x r _ => x :: nD15 v r) L
noncomputable def tG0 (t : rT 0) (_ : Nat) : rC := t
noncomputable def tS0 (_ : rT 0) (_ : Nat) (c : rC) : rT 0 := c
noncomputable def tG1 (t : rT 1) (i : Nat) : rC := @Prod.rec (rT 0) (rT 0) (fun _ => rC) (fun a b => @Bool.rec (fun _ => rC) (tG0 b i) (tG0 a i) (Nat.beq (Nat.land i 1) 0)) t
noncomputable def tS1 (t : rT 1) (i : Nat) (c : rC) : rT 1 := @Prod.rec (rT 0) (rT 0) (fun _ => rT 1) (fun a b => @Bool.rec (fun _ => rT 1) (a, tS0 b i c) (tS0 a i c, b) (Nat.beq (Nat.land i 1) 0)) t
noncomputable def tG2 (t : rT 2) (i : Nat) : rC := @Prod.rec (rT 1) (rT 1) (fun _ => rC) (fun a b => @Bool.rec (fun _ => rC) (tG1 b i) (tG1 a i) (Nat.beq (Nat.land i 2) 0)) t
noncomputable def tS2 (t : rT 2) (i : Nat) (c : rC) : rT 2 := @Prod.rec (rT 1) (rT 1) (fun _ => rT 2) (fun a b => @Bool.rec (fun _ => rT 2) (a, tS1 b i c) (tS1 a i c, b) (Nat.beq (Nat.land i 2) 0)) t
noncomputable def tG3 (t : rT 3) (i : Nat) : rC := @Prod.rec (rT 2) (rT 2) (fun _ => rC) (fun a b => @Bool.rec (fun _ => rC) (tG2 b i) (tG2 a i) (Nat.beq (Nat.land i 4) 0)) t
noncomputable def tS3 (t : rT 3) (i : Nat) (c : rC) : rT 3 := @Prod.rec (rT 2) (rT 2) (fun _ => rT 3) (fun a b => @Bool.rec (fun _ => rT 3) (a, tS2 b i c) (tS2 a i c, b) (Nat.beq (Nat.land i 4) 0)) t
noncomputable def tG4 (t : rT 4) (i : Nat) : rC := @Prod.rec (rT 3) (rT 3) (fun _ => rC) (fun a b => @Bool.rec (fun _ => rC) (tG3 b i) (tG3 a i) (Nat.beq (Nat.land i 8) 0)) t
noncomputable def tS4 (t : rT 4) (i : Nat) (c : rC) : rT 4 := @Prod.rec (rT 3) (rT 3) (fun _ => rT 4) (fun a b => @Bool.rec (fun _ => rT 4) (a, tS3 b i c) (tS3 a i c, b) (Nat.beq (Nat.land i 8) 0)) t
noncomputable def tG5 (t : rT 5) (i : Nat) : rC := @Prod.rec (rT 4) (rT 4) (fun _ => rC) (fun a b => @Bool.rec (fun _ => rC) (tG4 b i) (tG4 a i) (Nat.beq (Nat.land i 16) 0)) t
noncomputable def tS5 (t : rT 5) (i : Nat) (c : rC) : rT 5 := @Prod.rec (rT 4) (rT 4) (fun _ => rT 5) (fun a b => @Bool.rec (fun _ => rT 5) (a, tS4 b i c) (tS4 a i c, b) (Nat.beq (Nat.land i 16) 0)) t
noncomputable def tG6 (t : rT 6) (i : Nat) : rC := @Prod.rec (rT 5) (rT 5) (fun _ => rC) (fun a b => @Bool.rec (fun _ => rC) (tG5 b i) (tG5 a i) (Nat.beq (Nat.land i 32) 0)) t
noncomputable def tS6 (t : rT 6) (i : Nat) (c : rC) : rT 6 := @Prod.rec (rT 5) (rT 5) (fun _ => rT 6) (fun a b => @Bool.rec (fun _ => rT 6) (a, tS5 b i c) (tS5 a i c, b) (Nat.beq (Nat.land i 32) 0)) t
noncomputable def tG7 (t : rT 7) (i : Nat) : rC := @Prod.rec (rT 6) (rT 6) (fun _ => rC) (fun a b => @Bool.rec (fun _ => rC) (tG6 b i) (tG6 a i) (Nat.beq (Nat.land i 64) 0)) t
noncomputable def tS7 (t : rT 7) (i : Nat) (c : rC) : rT 7 := @Prod.rec (rT 6) (rT 6) (fun _ => rT 7) (fun a b => @Bool.rec (fun _ => rT 7) (a, tS6 b i c) (tS6 a i c, b) (Nat.beq (Nat.land i 64) 0)) t
noncomputable def tG8 (t : rT 8) (i : Nat) : rC := @Prod.rec (rT 7) (rT 7) (fun _ => rC) (fun a b => @Bool.rec (fun _ => rC) (tG7 b i) (tG7 a i) (Nat.beq (Nat.land i 128) 0)) t
noncomputable def tS8 (t : rT 8) (i : Nat) (c : rC) : rT 8 := @Prod.rec (rT 7) (rT 7) (fun _ => rT 8) (fun a b => @Bool.rec (fun _ => rT 8) (a, tS7 b i c) (tS7 a i c, b) (Nat.beq (Nat.land i 128) 0)) t
noncomputable def tG9 (t : rT 9) (i : Nat) : rC := @Prod.rec (rT 8) (rT 8) (fun _ => rC) (fun a b => @Bool.rec (fun _ => rC) (tG8 b i) (tG8 a i) (Nat.beq (Nat.land i 256) 0)) t
noncomputable def tS9 (t : rT 9) (i : Nat) (c : rC) : rT 9 := @Prod.rec (rT 8) (rT 8) (fun _ => rT 9) (fun a b => @Bool.rec (fun _ => rT 9) (a, tS8 b i c) (tS8 a i c, b) (Nat.beq (Nat.land i 256) 0)) t
noncomputable def tE0 : rT 0 := (0, (0, 0))
noncomputable def tE1 : rT 1 := (tE0, tE0)
noncomputable def tE2 : rT 2 := (tE1, tE1)
noncomputable def tE3 : rT 3 := (tE2, tE2)
noncomputable def tE4 : rT 4 := (tE3, tE3)
noncomputable def tE5 : rT 5 := (tE4, tE4)
noncomputable def tE6 : rT 6 := (tE5, tE5)
noncomputable def tE7 : rT 7 := (tE6, tE6)
noncomputable def tE8 : rT 8 := (tE7, tE7)
noncomputable def tE9 : rT 9 := (tE8, tE8)
noncomputable def rAt (h : rH) (a : Nat) : rC := @Prod.rec _ _ (fun _ => rC) (fun t _ => tG9 t a) h
noncomputable def rPut (h : rH) (a : Nat) (c : rC) : rH := @Prod.rec _ _ (fun _ => rH) (fun t r => (tS9 t a c, r)) h
noncomputable def rScr (h : rH) : List rV := h.2.2.2.2
noncomputable def rNew (h : rH) (c : rC) (sz : Nat) (k : Nat → rH → rR) : rR := @Prod.rec _ _ (fun _ => rR) (fun t r => @Prod.rec _ _ (fun _ => rR) (fun n r => @Prod.rec _ _ (fun _ => rR) (fun cs r => @Prod.rec _ _ (fun _ => rR) (fun sl sc => @Bool.rec (fun _ => rR) (none) (k n (tS9 t n c, (Nat.succ n, (Nat.succ cs, (Nat.add sl sz, sc))))) (Nat.ble n 510)) (r)) (r)) (r)) (h)
noncomputable def rSp (d p m s : Nat) : Nat := Nat.xor d (Nat.shiftLeft (Nat.xor (Nat.mod (Nat.shiftRight d (Nat.mul 64 p)) (Nat.pow 2 (Nat.mul 64 m))) s) (Nat.mul 64 p))
noncomputable def rPl (d p : Nat) : Nat := Nat.mod (Nat.shiftRight d (Nat.mul 64 p)) 18446744073709551616
noncomputable def aDv (x y : Nat) : Bool := @Bool.rec (fun _ => Bool) (@Bool.rec (fun _ => Bool) (Nat.ble x 2147483647) (false) (Nat.ble 2147483648 y)) (false) (Nat.ble y 0)
noncomputable def aDl (x y : Nat) : Bool := @Bool.rec (fun _ => Bool) (@Bool.rec (fun _ => Bool) (Nat.ble x 9223372036854775807) (false) (Nat.ble 9223372036854775808 y)) (false) (Nat.ble y 0)
noncomputable def xN (_ _ _ : Nat) : Option rV := none
noncomputable def sI (x : Nat) : Nat := Nat.xor x 2147483648
noncomputable def sL (x : Nat) : Nat := Nat.xor x 9223372036854775808
noncomputable def fAdd (x y : Nat) : Nat := Nat.mod (Nat.add x y) 4294967296
noncomputable def fSub (x y : Nat) : Nat := Nat.mod (Nat.add x (Nat.sub 4294967296 y)) 4294967296
noncomputable def fMul (x y : Nat) : Nat := Nat.mod (Nat.mul x y) 4294967296
noncomputable def fAnd (x y : Nat) : Nat := Nat.land x y
noncomputable def fOr (x y : Nat) : Nat := Nat.lor x y
noncomputable def fXor (x y : Nat) : Nat := Nat.xor x y
noncomputable def fShl (x y : Nat) : Nat := Nat.mod (Nat.shiftLeft x (Nat.mod y 32)) 4294967296
noncomputable def fShr (x y : Nat) : Nat := @Bool.rec (fun _ => Nat) (Nat.shiftRight x (Nat.mod y 32)) (Nat.sub 4294967295 (Nat.shiftRight (Nat.sub 4294967295 x) (Nat.mod y 32))) (Nat.ble 2147483648 x)
noncomputable def fUsh (x y : Nat) : Nat := Nat.shiftRight x (Nat.mod y 32)
noncomputable def fDiv (x y : Nat) : Nat := Nat.div x y
noncomputable def fRem (x y : Nat) : Nat := Nat.mod x y
noncomputable def fMax (x y : Nat) : Nat := @Bool.rec (fun _ => Nat) (y) (x) (Nat.ble (sI y) (sI x))
noncomputable def fMin (x y : Nat) : Nat := @Bool.rec (fun _ => Nat) (y) (x) (Nat.ble (sI x) (sI y))
noncomputable def fI2l (x : Nat) : Nat := @Bool.rec (fun _ => Nat) (x) (Nat.add x 18446744069414584320) (Nat.ble 2147483648 x)
noncomputable def fLadd (x y : Nat) : Nat := Nat.mod (Nat.add x y) 18446744073709551616
noncomputable def fLsub (x y : Nat) : Nat := Nat.mod (Nat.add x (Nat.sub 18446744073709551616 y)) 18446744073709551616
noncomputable def fLmul (x y : Nat) : Nat := Nat.mod (Nat.mul x y) 18446744073709551616
noncomputable def fLshl (x y : Nat) : Nat := Nat.mod (Nat.shiftLeft x (Nat.mod y 64)) 18446744073709551616
noncomputable def fLshr (x y : Nat) : Nat := @Bool.rec (fun _ => Nat) (Nat.shiftRight x (Nat.mod y 64)) (Nat.sub 18446744073709551615 (Nat.shiftRight (Nat.sub 18446744073709551615 x) (Nat.mod y 64))) (Nat.ble 9223372036854775808 x)
noncomputable def fLush (x y : Nat) : Nat := Nat.shiftRight x (Nat.mod y 64)
noncomputable def fLcmp (x y : Nat) : Nat := @Bool.rec (fun _ => Nat) (@Bool.rec (fun _ => Nat) (4294967295) (1) (Nat.ble (sL y) (sL x))) (0) (Nat.beq x y)
noncomputable def gIv (p q m : Nat) (k : Option rV) : Option rV := @Bool.rec (fun _ => Option rV) (none) (@Bool.rec (fun _ => Option rV) (none) (k) (Nat.ble q m)) (Nat.ble p q)
noncomputable def gAdd (x p q : Nat) : Option rV := gIv p q 2147483647 (@Bool.rec (fun _ => Option rV) (none) (some (vX (Nat.add x p) (Nat.add x q))) (Nat.ble (Nat.add x q) 2147483647))
noncomputable def gMk (p q : Nat) : Option rV := @Bool.rec (fun _ => Option rV) (some (vX p q)) (some (vI p)) (Nat.beq p q)
noncomputable def gShr (p q y : Nat) : Option rV := gIv p q 2147483647 (gMk (Nat.shiftRight p (Nat.mod y 32)) (Nat.shiftRight q (Nat.mod y 32)))
noncomputable def gDiv (p q y : Nat) : Option rV := @Bool.rec (fun _ => Option rV) (@Bool.rec (fun _ => Option rV) (none) (gIv p q 2147483647 (gMk (Nat.div p y) (Nat.div q y))) (Nat.ble y 2147483647)) (none) (Nat.ble y 0)
noncomputable def gAnd (p q y : Nat) : Option rV := @Bool.rec (fun _ => Option rV) (@Bool.rec (fun _ => Option rV) (none) (gIv p q 4294967295 (some (vX 0 3))) (Nat.beq y 3)) (@Bool.rec (fun _ => Option rV) (none) (@Bool.rec (fun _ => Option rV) (none) (some (vI (Nat.sub p 4294967296))) (Nat.ble p 4294967359)) (Nat.ble 4294967296 p)) (Nat.beq y 63)
noncomputable def cEq (x y : Nat) : Bool := Nat.beq x y
noncomputable def cNe (x y : Nat) : Bool := @Bool.rec (fun _ => Bool) (true) (false) (Nat.beq x y)
noncomputable def cLt (x y : Nat) : Bool := @Bool.rec (fun _ => Bool) (true) (false) (Nat.ble (sI y) (sI x))
noncomputable def cGe (x y : Nat) : Bool := Nat.ble (sI y) (sI x)
noncomputable def cGt (x y : Nat) : Bool := @Bool.rec (fun _ => Bool) (true) (false) (Nat.ble (sI x) (sI y))
noncomputable def cLe (x y : Nat) : Bool := Nat.ble (sI x) (sI y)
noncomputable def gSg (p q : Nat) (k : Option Bool) : Option Bool := @Bool.rec (fun _ => Option Bool) (none) (@Bool.rec (fun _ => Option Bool) (@Bool.rec (fun _ => Option Bool) (none) (@Bool.rec (fun _ => Option Bool) (none) (k) (Nat.ble q 4294967295)) (Nat.ble 2147483648 p)) (k) (Nat.ble q 2147483647)) (Nat.ble p q)
noncomputable def gLt (p q y : Nat) : Option Bool := gSg p q (@Bool.rec (fun _ => Option Bool) (@Bool.rec (fun _ => Option Bool) (none) (some false) (Nat.ble (sI y) (sI p))) (some true) (Nat.ble (Nat.succ (sI q)) (sI y)))
noncomputable def gGe (p q y : Nat) : Option Bool := gSg p q (@Bool.rec (fun _ => Option Bool) (@Bool.rec (fun _ => Option Bool) (none) (some true) (Nat.ble (sI y) (sI p))) (some false) (Nat.ble (Nat.succ (sI q)) (sI y)))
noncomputable def gGt (p q y : Nat) : Option Bool := gSg p q (@Bool.rec (fun _ => Option Bool) (@Bool.rec (fun _ => Option Bool) (none) (some false) (Nat.ble (sI q) (sI y))) (some true) (Nat.ble (Nat.succ (sI y)) (sI p)))
noncomputable def gLe (p q y : Nat) : Option Bool := gSg p q (@Bool.rec (fun _ => Option Bool) (@Bool.rec (fun _ => Option Bool) (none) (some true) (Nat.ble (sI q) (sI y))) (some false) (Nat.ble (Nat.succ (sI y)) (sI p)))
noncomputable def gEq (p q y : Nat) : Option Bool := @Bool.rec (fun _ => Option Bool) (none) (@Bool.rec (fun _ => Option Bool) (none) (@Bool.rec (fun _ => Option Bool) (@Bool.rec (fun _ => Option Bool) (none) (some false) (Nat.ble (Nat.succ q) y)) (some false) (Nat.ble (Nat.succ y) p)) (Nat.ble q 4294967295)) (Nat.ble p q)
noncomputable def gNe (p q y : Nat) : Option Bool := @Bool.rec (fun _ => Option Bool) (none) (@Bool.rec (fun _ => Option Bool) (none) (@Bool.rec (fun _ => Option Bool) (@Bool.rec (fun _ => Option Bool) (none) (some true) (Nat.ble (Nat.succ q) y)) (some true) (Nat.ble (Nat.succ y) p)) (Nat.ble q 4294967295)) (Nat.ble p q)
noncomputable def rN (n : Nat) (k : Nat → rR) : rR := @Nat.rec (fun _ => rR) (k 0) (fun m _ => k (Nat.succ m)) n
noncomputable def rNth (l : List rP) (n : Nat) (df : rP) : rP := @List.rec _ (fun _ => Nat → rP) (fun _ => df) (fun p _ ih n => @Nat.rec (fun _ => rP) p (fun m _ => ih m) n) l n
noncomputable def oNone : rP := fun j L S h => none
noncomputable def oIlX (nx : rP) (j : rJ × rJ) (L S : List rV) (h : rH) (w : Nat ⊕ (Nat ⊕ (Nat × Nat))) : rR := @Sum.rec _ _ (fun _ => rR) (fun _ => none) (fun w => @Sum.rec _ _ (fun _ => rR) (fun _ => none) (fun w => @Prod.rec _ _ (fun _ => rR) (fun a b => @Bool.rec (fun _ => rR) (nx j L (vX a b :: S) h) (none) (Nat.ble 8589934592 a)) (w)) (w)) (w)
noncomputable def oIl (g : List rV → rV) (nx : rP) : rP := fun j L S h => @Sum.rec _ _ (fun _ => rR) (fun n => nx j L (vI n :: S) h) (oIlX nx j L S h) (g L)
noncomputable def oAl (g : List rV → rV) (nx : rP) : rP := fun j L S h => @Sum.rec _ _ (fun _ => rR) (fun _ => none) (fun w => @Sum.rec _ _ (fun _ => rR) (fun n => nx j L (vR n :: S) h) (fun _ => none) (w)) (g L)
noncomputable def oLl (g : List rV → rV) (nx : rP) : rP := fun j L S h => @Sum.rec _ _ (fun _ => rR) (fun _ => none) (fun w => @Sum.rec _ _ (fun _ => rR) (fun _ => none) (fun w => @Sum.rec _ _ (fun _ => rR) (fun n => nx j L (vL n :: S) h) (fun _ => none) (w)) (w)) (g L)
noncomputable def oDl (g : List rV → rV) (nx : rP) : rP := fun j L S h => @Sum.rec _ _ (fun _ => rR) (fun _ => none) (fun w => @Sum.rec _ _ (fun _ => rR) (fun _ => none) (fun w => @Sum.rec _ _ (fun _ => rR) (fun _ => none) (fun w => @Prod.rec _ _ (fun _ => rR) (fun a b => @Bool.rec (fun _ => rR) (none) (nx j L (vX a b :: S) h) (Nat.beq a 17179869184)) (w)) (w)) (w)) (g L)
noncomputable def oIsX (g : rV → List rV → List rV) (nx : rP) (j : rJ × rJ) (L S : List rV) (h : rH) (w : Nat ⊕ (Nat ⊕ (Nat × Nat))) : rR := @Sum.rec _ _ (fun _ => rR) (fun _ => none) (fun w => @Sum.rec _ _ (fun _ => rR) (fun _ => none) (fun w => @Prod.rec _ _ (fun _ => rR) (fun a b => @Bool.rec (fun _ => rR) (nx j (g (vX a b) L) S h) (none) (Nat.ble 8589934592 a)) (w)) (w)) (w)
noncomputable def oIs (g : rV → List rV → List rV) (nx : rP) : rP := fun j L S h => @List.rec _ (fun _ => rR) none (fun v S _ => @Sum.rec _ _ (fun _ => rR) (fun n => nx j (g (vI n) L) S h) (oIsX g nx j L S h) (v)) S
noncomputable def oAs (g : rV → List rV → List rV) (nx : rP) : rP := fun j L S h => @List.rec _ (fun _ => rR) none (fun v S _ => @Sum.rec _ _ (fun _ => rR) (fun _ => none) (fun w => @Sum.rec _ _ (fun _ => rR) (fun n => nx j (g (vR n) L) S h) (fun _ => none) (w)) (v)) S
noncomputable def oLs (g : rV → List rV → List rV) (nx : rP) : rP := fun j L S h => @List.rec _ (fun _ => rR) none (fun v S _ => @Sum.rec _ _ (fun _ => rR) (fun _ => none) (fun w => @Sum.rec _ _ (fun _ => rR) (fun _ => none) (fun w => @Sum.rec _ _ (fun _ => rR) (fun n => nx j (g (vL n) L) S h) (fun _ => none) (w)) (w)) (v)) S
noncomputable def oDs (g : rV → List rV → List rV) (nx : rP) : rP := fun j L S h => @List.rec _ (fun _ => rR) none (fun v S _ => @Sum.rec _ _ (fun _ => rR) (fun _ => none) (fun w => @Sum.rec _ _ (fun _ => rR) (fun _ => none) (fun w => @Sum.rec _ _ (fun _ => rR) (fun _ => none) (fun w => @Prod.rec _ _ (fun _ => rR) (fun a b => @Bool.rec (fun _ => rR) (none) (nx j (g (vX a b) L) S h) (Nat.beq a 17179869184)) (w)) (w)) (w)) (v)) S
noncomputable def oPsh (v : rV) (nx : rP) : rP := fun j L S h => nx j L (v :: S) h
noncomputable def oDup (nx : rP) : rP := fun j L S h => @List.rec _ (fun _ => rR) none (fun v S _ => @Bool.rec (fun _ => rR) (nx j L (v :: v :: S) h) (none) (rC2 v)) S
noncomputable def oDup2 (nx : rP) : rP := fun j L S h => @List.rec _ (fun _ => rR) none (fun v S _ => @List.rec _ (fun _ => rR) none (fun w S _ => @Bool.rec (fun _ => rR) (@Bool.rec (fun _ => rR) (nx j L (v :: w :: v :: w :: S) h) (none) (rC2 w)) (none) (rC2 v)) S) S
noncomputable def oDupX (nx : rP) : rP := fun j L S h => @List.rec _ (fun _ => rR) none (fun v S _ => @List.rec _ (fun _ => rR) none (fun w S _ => @Bool.rec (fun _ => rR) (@Bool.rec (fun _ => rR) (nx j L (v :: w :: v :: S) h) (none) (rC2 w)) (none) (rC2 v)) S) S
noncomputable def oPop (nx : rP) : rP := fun j L S h => @List.rec _ (fun _ => rR) none (fun v S _ => @Bool.rec (fun _ => rR) (nx j L S h) (none) (rC2 v)) S
noncomputable def oBinX (f : Nat → Nat → Nat) (g : Nat → Nat → Nat → Option rV) (nx : rP) (j : rJ × rJ) (L S : List rV) (h : rH) (y : Nat) (w : Nat ⊕ (Nat ⊕ (Nat × Nat))) : rR := @Sum.rec _ _ (fun _ => rR) (fun _ => none) (fun w => @Sum.rec _ _ (fun _ => rR) (fun _ => none) (fun w => @Prod.rec _ _ (fun _ => rR) (fun p q => @Option.rec _ (fun _ => rR) (none) (fun v => nx j L (v :: S) h) (g p q y)) (w)) (w)) (w)
noncomputable def oBinY (e : Nat → Nat → Nat → Option rV) (nx : rP) (j : rJ × rJ) (L S : List rV) (h : rH) (a : rV) (w : Nat ⊕ (Nat ⊕ (Nat × Nat))) : rR := @Sum.rec _ _ (fun _ => rR) (fun _ => none) (fun w => @Sum.rec _ _ (fun _ => rR) (fun _ => none) (fun w => @Prod.rec _ _ (fun _ => rR) (fun p q => @Sum.rec _ _ (fun _ => rR) (fun x => @Option.rec _ (fun _ => rR) (none) (fun v => nx j L (v :: S) h) (e x p q)) (fun _ => none) (a)) (w)) (w)) (w)
noncomputable def oBin (f : Nat → Nat → Nat) (g e : Nat → Nat → Nat → Option rV) (nx : rP) : rP := fun j L S h => @List.rec _ (fun _ => rR) none (fun b S _ => @List.rec _ (fun _ => rR) none (fun a S _ => @Sum.rec _ _ (fun _ => rR) (fun y => @Sum.rec _ _ (fun _ => rR) (fun x => nx j L (vI (f x y) :: S) h) (oBinX f g nx j L S h y) (a)) (oBinY e nx j L S h a) (b)) S) S
noncomputable def oDiv (ok : Nat → Nat → Bool) (f : Nat → Nat → Nat) (g : Nat → Nat → Nat → Option rV) (nx : rP) : rP := fun j L S h => @List.rec _ (fun _ => rR) none (fun b S _ => @List.rec _ (fun _ => rR) none (fun a S _ => @Sum.rec _ _ (fun _ => rR) (fun y => @Sum.rec _ _ (fun _ => rR) (fun x => @Bool.rec (fun _ => rR) (none) (nx j L (vI (f x y) :: S) h) (ok x y)) (oBinX f g nx j L S h y) (a)) (fun _ => none) (b)) S) S
noncomputable def oBinL (ok : Nat → Nat → Bool) (f : Nat → Nat → Nat) (nx : rP) : rP := fun j L S h => @List.rec _ (fun _ => rR) none (fun b S _ => @List.rec _ (fun _ => rR) none (fun a S _ => @Sum.rec _ _ (fun _ => rR) (fun _ => none) (fun w => @Sum.rec _ _ (fun _ => rR) (fun _ => none) (fun w => @Sum.rec _ _ (fun _ => rR) (fun y => @Sum.rec _ _ (fun _ => rR) (fun _ => none) (fun w => @Sum.rec _ _ (fun _ => rR) (fun _ => none) (fun w => @Sum.rec _ _ (fun _ => rR) (fun x => @Bool.rec (fun _ => rR) (none) (nx j L (vL (f x y) :: S) h) (ok x y)) (fun _ => none) (w)) (w)) (a)) (fun _ => none) (w)) (w)) (b)) S) S
noncomputable def oShL (f : Nat → Nat → Nat) (nx : rP) : rP := fun j L S h => @List.rec _ (fun _ => rR) none (fun b S _ => @List.rec _ (fun _ => rR) none (fun a S _ => @Sum.rec _ _ (fun _ => rR) (fun y => @Sum.rec _ _ (fun _ => rR) (fun _ => none) (fun w => @Sum.rec _ _ (fun _ => rR) (fun _ => none) (fun w => @Sum.rec _ _ (fun _ => rR) (fun x => nx j L (vL (f x y) :: S) h) (fun _ => none) (w)) (w)) (a)) (fun _ => none) (b)) S) S
noncomputable def oLcmp (f : Nat → Nat → Nat) (nx : rP) : rP := fun j L S h => @List.rec _ (fun _ => rR) none (fun b S _ => @List.rec _ (fun _ => rR) none (fun a S _ => @Sum.rec _ _ (fun _ => rR) (fun _ => none) (fun w => @Sum.rec _ _ (fun _ => rR) (fun _ => none) (fun w => @Sum.rec _ _ (fun _ => rR) (fun y => @Sum.rec _ _ (fun _ => rR) (fun _ => none) (fun w => @Sum.rec _ _ (fun _ => rR) (fun _ => none) (fun w => @Sum.rec _ _ (fun _ => rR) (fun x => nx j L (vI (f x y) :: S) h) (fun _ => none) (w)) (w)) (a)) (fun _ => none) (w)) (w)) (b)) S) S
noncomputable def oI2l (nx : rP) : rP := fun j L S h => @List.rec _ (fun _ => rR) none (fun a S _ => @Sum.rec _ _ (fun _ => rR) (fun x => nx j L (vL (fI2l x) :: S) h) (fun _ => none) (a)) S
noncomputable def oL2i (nx : rP) : rP := fun j L S h => @List.rec _ (fun _ => rR) none (fun a S _ => @Sum.rec _ _ (fun _ => rR) (fun _ => none) (fun w => @Sum.rec _ _ (fun _ => rR) (fun _ => none) (fun w => @Sum.rec _ _ (fun _ => rR) (fun x => nx j L (vI (Nat.mod x 4294967296) :: S) h) (fun _ => none) (w)) (w)) (a)) S
noncomputable def oI2d (nx : rP) : rP := fun j L S h => @List.rec _ (fun _ => rR) none (fun a S _ => @Sum.rec _ _ (fun _ => rR) (fun x => @Bool.rec (fun _ => rR) (none) (nx j L (vX 17179869184 4611686018427387904 :: S) h) (Nat.beq x 2)) (fun _ => none) (a)) S
noncomputable def oDdiv (nx : rP) : rP := fun j L S h => @List.rec _ (fun _ => rR) none (fun b S _ => @List.rec _ (fun _ => rR) none (fun a S _ => @Sum.rec _ _ (fun _ => rR) (fun _ => none) (fun w => @Sum.rec _ _ (fun _ => rR) (fun _ => none) (fun w => @Sum.rec _ _ (fun _ => rR) (fun _ => none) (fun w => @Prod.rec _ _ (fun _ => rR) (fun p q => @Sum.rec _ _ (fun _ => rR) (fun _ => none) (fun w => @Sum.rec _ _ (fun _ => rR) (fun _ => none) (fun w => @Sum.rec _ _ (fun _ => rR) (fun _ => none) (fun w => @Prod.rec _ _ (fun _ => rR) (fun u w => @Bool.rec (fun _ => rR) (none) (@Bool.rec (fun _ => rR) (none) (@Bool.rec (fun _ => rR) (none) (@Bool.rec (fun _ => rR) (none) (nx j L (vX 17179869184 4607182418800017408 :: S) h) (Nat.beq w 4611686018427387904)) (Nat.beq q 4611686018427387904)) (Nat.beq u 17179869184)) (Nat.beq p 17179869184)) (w)) (w)) (w)) (a)) (w)) (w)) (w)) (b)) S) S
noncomputable def oDcmp (nx : rP) : rP := fun j L S h => @List.rec _ (fun _ => rR) none (fun b S _ => @List.rec _ (fun _ => rR) none (fun a S _ => @Sum.rec _ _ (fun _ => rR) (fun _ => none) (fun w => @Sum.rec _ _ (fun _ => rR) (fun _ => none) (fun w => @Sum.rec _ _ (fun _ => rR) (fun _ => none) (fun w => @Prod.rec _ _ (fun _ => rR) (fun p q => @Sum.rec _ _ (fun _ => rR) (fun _ => none) (fun w => @Sum.rec _ _ (fun _ => rR) (fun _ => none) (fun w => @Sum.rec _ _ (fun _ => rR) (fun _ => none) (fun w => @Prod.rec _ _ (fun _ => rR) (fun u w => @Bool.rec (fun _ => rR) (none) (@Bool.rec (fun _ => rR) (none) (@Bool.rec (fun _ => rR) (none) (@Bool.rec (fun _ => rR) (none) (nx j L (vI 0 :: S) h) (Nat.beq w 4607182418800017408)) (Nat.beq q 4607182418800017408)) (Nat.beq u 17179869184)) (Nat.beq p 17179869184)) (w)) (w)) (w)) (a)) (w)) (w)) (w)) (b)) S) S
noncomputable def oInc (g : List rV → rV) (s : rV → List rV → List rV) (n : Nat) (nx : rP) : rP := fun j L S h => @Sum.rec _ _ (fun _ => rR) (fun x => nx j (s (vI (fAdd x n)) L) S h) (fun _ => none) (g L)
noncomputable def rBr (o : Option Bool) (t f : rR) : rR := @Option.rec _ (fun _ => rR) (none) (fun b => @Bool.rec (fun _ => rR) (f) (t) (b)) (o)
noncomputable def oIfX (g : Nat → Nat → Option Bool) (t f : rP) (j : rJ × rJ) (L S : List rV) (h : rH) (w : Nat ⊕ (Nat ⊕ (Nat × Nat))) : rR := @Sum.rec _ _ (fun _ => rR) (fun _ => none) (fun w => @Sum.rec _ _ (fun _ => rR) (fun _ => none) (fun w => @Prod.rec _ _ (fun _ => rR) (fun p q => rBr (g p q) (t j L S h) (f j L S h)) (w)) (w)) (w)
noncomputable def oIf (c : Nat → Bool) (g : Nat → Nat → Option Bool) (t f : rP) : rP := fun j L S h => @List.rec _ (fun _ => rR) none (fun a S _ => @Sum.rec _ _ (fun _ => rR) (fun x => @Bool.rec (fun _ => rR) (f j L S h) (t j L S h) (c x)) (oIfX g t f j L S h) (a)) S
noncomputable def oIc (c : Nat → Nat → Bool) (g : Nat → Nat → Nat → Option Bool) (t f : rP) : rP := fun j L S h => @List.rec _ (fun _ => rR) none (fun b S _ => @List.rec _ (fun _ => rR) none (fun a S _ => @Sum.rec _ _ (fun _ => rR) (fun y => @Sum.rec _ _ (fun _ => rR) (fun x => @Bool.rec (fun _ => rR) (f j L S h) (t j L S h) (c x y)) (oIfX (fun p q => g p q y) t f j L S h) (a)) (fun _ => none) (b)) S) S
noncomputable def oAeq (t : rP) : rP := fun j L S h => @List.rec _ (fun _ => rR) none (fun b S _ => @List.rec _ (fun _ => rR) none (fun a S _ => @Sum.rec _ _ (fun _ => rR) (fun _ => none) (fun w => @Sum.rec _ _ (fun _ => rR) (fun y => @Sum.rec _ _ (fun _ => rR) (fun _ => none) (fun w => @Sum.rec _ _ (fun _ => rR) (fun x => @Bool.rec (fun _ => rR) (none) (t j L S h) (Nat.beq x y)) (fun _ => none) (w)) (a)) (fun _ => none) (w)) (b)) S) S
noncomputable def oGo (nx : rP) : rP := fun j L S h => nx j L S h
noncomputable def oJb (id : Nat) : rP := fun j L S h => @Prod.rec _ _ (fun _ => rR) (fun jb _ => jb id L S h) (j)
noncomputable def oTswX (len : Nat) (df : rP) (j : rJ × rJ) (L S : List rV) (h : rH) (w : Nat ⊕ (Nat ⊕ (Nat × Nat))) : rR := @Sum.rec _ _ (fun _ => rR) (fun _ => none) (fun w => @Sum.rec _ _ (fun _ => rR) (fun _ => none) (fun w => @Prod.rec _ _ (fun _ => rR) (fun p q => @Bool.rec (fun _ => rR) (none) (@Bool.rec (fun _ => rR) (none) (@Bool.rec (fun _ => rR) (df j L S h) (none) (Nat.ble 4294967296 q)) (Nat.ble p q)) (Nat.ble len p)) (w)) (w)) (w)
noncomputable def oTsw (ps : List rP) (len : Nat) (df : rP) : rP := fun j L S h => @List.rec _ (fun _ => rR) none (fun a S _ => @Sum.rec _ _ (fun _ => rR) (fun x => rNth ps x df j L S h) (oTswX len df j L S h) (a)) S
noncomputable def oLsw (x1 x2 : Nat) (p1 p2 df : rP) : rP := fun j L S h => @List.rec _ (fun _ => rR) none (fun a S _ => @Sum.rec _ _ (fun _ => rR) (fun x => @Bool.rec (fun _ => rR) (@Bool.rec (fun _ => rR) (df j L S h) (p2 j L S h) (Nat.beq x x2)) (p1 j L S h) (Nat.beq x x1)) (fun _ => none) (a)) S
noncomputable def oGf (kd p : Nat) (mk : Nat → rV) (nx : rP) : rP := fun j L S h => @List.rec _ (fun _ => rR) none (fun o S _ => @Sum.rec _ _ (fun _ => rR) (fun _ => none) (fun w => @Sum.rec _ _ (fun _ => rR) (fun a => @Prod.rec _ _ (fun _ => rR) (fun k q => @Bool.rec (fun _ => rR) (none) (nx j L (mk (rPl q.2 p) :: S) h) (Nat.beq k kd)) (rAt h a)) (fun _ => none) (w)) (o)) S
noncomputable def rUn (ty : Nat) (v : rV) (k : Nat → rR) : rR := @Bool.rec (fun _ => rR) (@Bool.rec (fun _ => rR) (@Bool.rec (fun _ => rR) (@Sum.rec _ _ (fun _ => rR) (fun x => @Bool.rec (fun _ => rR) (none) (k x) (Nat.ble x 1)) (fun _ => none) (v)) (@Sum.rec _ _ (fun _ => rR) (fun _ => none) (fun w => @Sum.rec _ _ (fun _ => rR) (fun _ => none) (fun w => @Sum.rec _ _ (fun _ => rR) (k) (fun _ => none) (w)) (w)) (v)) (Nat.beq ty 1)) (@Sum.rec _ _ (fun _ => rR) (fun _ => none) (fun w => @Sum.rec _ _ (fun _ => rR) (k) (fun _ => none) (w)) (v)) (Nat.beq ty 2)) (@Sum.rec _ _ (fun _ => rR) (k) (fun _ => none) (v)) (Nat.beq ty 0)
noncomputable def oPf (kd p ty : Nat) (nx : rP) : rP := fun j L S h => @List.rec _ (fun _ => rR) none (fun v S _ => @List.rec _ (fun _ => rR) none (fun o S _ => @Sum.rec _ _ (fun _ => rR) (fun _ => none) (fun w => @Sum.rec _ _ (fun _ => rR) (fun a => rUn ty v fun x => @Prod.rec _ _ (fun _ => rR) (fun k q => @Bool.rec (fun _ => rR) (none) (rN (rSp q.2 p 1 x) fun d => nx j L S (rPut h a (k, (q.1, d)))) (Nat.beq k kd)) (rAt h a)) (fun _ => none) (w)) (o)) S) S
noncomputable def oNew (kd sz : Nat) (nx : rP) : rP := fun j L S h => rNew h (kd, (0, 0)) sz fun a h => nx j L (vR a :: S) h
noncomputable def oNwa (kd : Nat) (nx : rP) : rP := fun j L S h => @List.rec _ (fun _ => rR) none (fun n S _ => @Sum.rec _ _ (fun _ => rR) (fun x => @Bool.rec (fun _ => rR) (none) (rNew h (kd, (x, 0)) x fun a h => nx j L (vR a :: S) h) (Nat.ble x 65536)) (fun _ => none) (n)) S
noncomputable def rRep (c : rC) (sz k : Nat) : (List Nat → rH → rR) → rH → rR := @Nat.rec (fun _ => (List Nat → rH → rR) → rH → rR) (fun kk h => kk [] h) (fun _ ih kk h => rNew h c sz fun a h1 => ih (fun l h2 => kk (a :: l) h2) h1) k
noncomputable def rLay (l : List Nat) : Nat := @List.rec _ (fun _ => Nat) 0 (fun a _ r => Nat.add a (Nat.mul 18446744073709551616 r)) l
noncomputable def oMul (kd kd2 n1 n2 : Nat) (nx : rP) : rP := fun j L S h => @List.rec _ (fun _ => rR) none (fun b S _ => @List.rec _ (fun _ => rR) none (fun a S _ => @Sum.rec _ _ (fun _ => rR) (fun y => @Sum.rec _ _ (fun _ => rR) (fun x => @Bool.rec (fun _ => rR) (none) (@Bool.rec (fun _ => rR) (none) (rNew h (kd, (n1, 0)) n1 fun o h => rRep (kd2, (n2, 0)) n2 n1 (fun l h => rN (rLay l) fun d => nx j L (vR o :: S) (rPut h o (kd, (n1, d)))) h) (Nat.beq y n2)) (Nat.beq x n1)) (fun _ => none) (a)) (fun _ => none) (b)) S) S
noncomputable def rLen (l : List rV) : Nat := @List.rec _ (fun _ => Nat) 0 (fun _ _ r => Nat.succ r) l
noncomputable def oEnt (k : Nat) (nx : rP) : rP := fun j L S h => @Bool.rec (fun _ => rR) (none) (nx j L S h) (Nat.ble (rLen L) k)
noncomputable def oLen (nx : rP) : rP := fun j L S h => @List.rec _ (fun _ => rR) none (fun o S _ => @Sum.rec _ _ (fun _ => rR) (fun _ => none) (fun w => @Sum.rec _ _ (fun _ => rR) (fun a => @Bool.rec (fun _ => rR) (@Bool.rec (fun _ => rR) (@Prod.rec _ _ (fun _ => rR) (fun k q => @Bool.rec (fun _ => rR) (none) (nx j L (vI q.1 :: S) h) (Nat.beq (Nat.land k 1) 1)) (rAt h a)) (nx j L (vI 0 :: S) h) (Nat.beq a 16384)) (nx j L (vI (rLen (rScr h)) :: S) h) (Nat.beq a 8192)) (fun _ => none) (w)) (o)) S
noncomputable def rSame (dt x : Nat) (n : Nat) : Nat → Bool := @Nat.rec (fun _ => Nat → Bool) (fun _ => true) (fun _ ih i => @Bool.rec (fun _ => Bool) false (ih (Nat.succ i)) (Nat.beq (rPl dt i) x)) n
noncomputable def rLg (l : List rV) (n : Nat) : rV := @List.rec _ (fun _ => Nat → rV) (fun _ => vU) (fun x _ ih n => @Nat.rec (fun _ => rV) x (fun m _ => ih m) n) l n
noncomputable def oIls (v : rV) (nx : rP) (j : rJ × rJ) (L S : List rV) (h : rH) : rR := @Sum.rec _ _ (fun _ => rR) (fun n => nx j L (vI n :: S) h) (oIlX nx j L S h) (v)
noncomputable def oIalS (nx : rP) (j : rJ × rJ) (L S : List rV) (h : rH) (i : rV) : rR := @Sum.rec _ _ (fun _ => rR) (fun x => oIls (rLg (rScr h) x) nx j L S h) (fun _ => none) (i)
noncomputable def oIalX (nx : rP) (j : rJ × rJ) (L S : List rV) (h : rH) (ln dt : Nat) (w : Nat ⊕ (Nat ⊕ (Nat × Nat))) : rR := @Sum.rec _ _ (fun _ => rR) (fun _ => none) (fun w => @Sum.rec _ _ (fun _ => rR) (fun _ => none) (fun w => @Prod.rec _ _ (fun _ => rR) (fun p q => @Bool.rec (fun _ => rR) (@Bool.rec (fun _ => rR) (none) (@Bool.rec (fun _ => rR) (none) (nx j L (vI (rPl dt p) :: S) h) (rSame dt (rPl dt p) (Nat.sub (Nat.succ q) p) p)) (Nat.ble p q)) (none) (Nat.ble ln q)) (w)) (w)) (w)
noncomputable def oIal (nx : rP) : rP := fun j L S h => @List.rec _ (fun _ => rR) none (fun i S _ => @List.rec _ (fun _ => rR) none (fun o S _ => @Sum.rec _ _ (fun _ => rR) (fun _ => none) (fun w => @Sum.rec _ _ (fun _ => rR) (fun a => @Prod.rec _ _ (fun _ => rR) (fun k q => @Bool.rec (fun _ => rR) (@Bool.rec (fun _ => rR) (none) (oIalS nx j L S h i) (Nat.beq a 8192)) (@Sum.rec _ _ (fun _ => rR) (fun x => @Bool.rec (fun _ => rR) (nx j L (vI (rPl q.2 x) :: S) h) (none) (Nat.ble q.1 x)) (oIalX nx j L S h q.1 q.2) (i)) (Nat.beq k 1)) (rAt h a)) (fun _ => none) (w)) (o)) S) S
noncomputable def oAld (kd : Nat) (mk : Nat → rV) (nx : rP) : rP := fun j L S h => @List.rec _ (fun _ => rR) none (fun i S _ => @List.rec _ (fun _ => rR) none (fun o S _ => @Sum.rec _ _ (fun _ => rR) (fun _ => none) (fun w => @Sum.rec _ _ (fun _ => rR) (fun a => @Sum.rec _ _ (fun _ => rR) (fun x => @Prod.rec _ _ (fun _ => rR) (fun k q => @Bool.rec (fun _ => rR) (none) (@Bool.rec (fun _ => rR) (nx j L (mk (rPl q.2 x) :: S) h) (none) (Nat.ble q.1 x)) (Nat.beq k kd)) (rAt h a)) (fun _ => none) (i)) (fun _ => none) (w)) (o)) S) S
noncomputable def oAal (nx : rP) : rP := fun j L S h => @List.rec _ (fun _ => rR) none (fun i S _ => @List.rec _ (fun _ => rR) none (fun o S _ => @Sum.rec _ _ (fun _ => rR) (fun _ => none) (fun w => @Sum.rec _ _ (fun _ => rR) (fun a => @Sum.rec _ _ (fun _ => rR) (fun x => @Prod.rec _ _ (fun _ => rR) (fun k q => @Bool.rec (fun _ => rR) (none) (@Bool.rec (fun _ => rR) (none) (@Bool.rec (fun _ => rR) (nx j L (vR (rPl q.2 x) :: S) h) (none) (Nat.ble q.1 x)) (Nat.ble 7 k)) (Nat.beq (Nat.land k 1) 1)) (rAt h a)) (fun _ => none) (i)) (fun _ => none) (w)) (o)) S) S
noncomputable def oAst (kd ty : Nat) (nx : rP) : rP := fun j L S h => @List.rec _ (fun _ => rR) none (fun v S _ => @List.rec _ (fun _ => rR) none (fun i S _ => @List.rec _ (fun _ => rR) none (fun o S _ => @Sum.rec _ _ (fun _ => rR) (fun _ => none) (fun w => @Sum.rec _ _ (fun _ => rR) (fun a => @Sum.rec _ _ (fun _ => rR) (fun x => rUn ty v fun w => @Prod.rec _ _ (fun _ => rR) (fun k q => @Bool.rec (fun _ => rR) (none) (@Bool.rec (fun _ => rR) (rN (rSp q.2 x 1 w) fun d => nx j L S (rPut h a (k, (q.1, d)))) (none) (Nat.ble q.1 x)) (Nat.beq k kd)) (rAt h a)) (fun _ => none) (i)) (fun _ => none) (w)) (o)) S) S) S
noncomputable def oAas (ok : Nat → Nat → Bool) (nx : rP) : rP := fun j L S h => @List.rec _ (fun _ => rR) none (fun v S _ => @List.rec _ (fun _ => rR) none (fun i S _ => @List.rec _ (fun _ => rR) none (fun o S _ => @Sum.rec _ _ (fun _ => rR) (fun _ => none) (fun w => @Sum.rec _ _ (fun _ => rR) (fun a => @Sum.rec _ _ (fun _ => rR) (fun x => @Sum.rec _ _ (fun _ => rR) (fun _ => none) (fun w => @Sum.rec _ _ (fun _ => rR) (fun w => @Prod.rec _ _ (fun _ => rR) (fun k q => @Prod.rec _ _ (fun _ => rR) (fun kv _ => @Bool.rec (fun _ => rR) (none) (@Bool.rec (fun _ => rR) (rN (rSp q.2 x 1 w) fun d => nx j L S (rPut h a (k, (q.1, d)))) (none) (Nat.ble q.1 x)) (ok k kv)) (rAt h w)) (rAt h a)) (fun _ => none) (w)) (v)) (fun _ => none) (i)) (fun _ => none) (w)) (o)) S) S) S
noncomputable def oCst (ok : Nat → Bool) (nx : rP) : rP := fun j L S h => @List.rec _ (fun _ => rR) none (fun o S _ => @Sum.rec _ _ (fun _ => rR) (fun _ => none) (fun w => @Sum.rec _ _ (fun _ => rR) (fun a => @Prod.rec _ _ (fun _ => rR) (fun k _ => @Bool.rec (fun _ => rR) (none) (nx j L (vR a :: S) h) (ok k)) (rAt h a)) (fun _ => none) (w)) (o)) S
noncomputable def rArg (n : Nat) : List rV → List rV → (List rV → List rV → rR) → rR := @Nat.rec (fun _ => List rV → List rV → (List rV → List rV → rR) → rR) (fun A S k => k A S) (fun _ ih A S k => @List.rec _ (fun _ => rR) none (fun v S _ => @Bool.rec (fun _ => rR) (ih (v :: A) S k) (ih (v :: vU :: A) S k) (rC2 v)) S) n
noncomputable def rSh (S : List rV) (k : rR) : rR := @List.rec _ (fun _ => rR) k (fun _ S1 _ => @List.rec _ (fun _ => rR) k (fun _ S2 _ => @List.rec _ (fun _ => rR) k (fun _ S3 _ => @List.rec _ (fun _ => rR) k (fun _ S4 _ => @List.rec _ (fun _ => rR) k (fun _ _ _ => none) S4) S3) S2) S1) S
noncomputable def rRet (r : rR) (k : Option rV → rH → rR) (x : Nat → rH → rR) : rR := @Option.rec _ (fun _ => rR) (none) (fun p => @Prod.rec _ _ (fun _ => rR) (fun o h => @Sum.rec _ _ (fun _ => rR) (fun v => k v h) (fun e => x e h) o) (p)) (r)
noncomputable def rAns (v : Option rV) (S : List rV) : List rV := @Option.rec _ (fun _ => List rV) S (fun w => w :: S) v
noncomputable def oMx (f : Nat → Nat → Nat) (nx : rP) : rP := fun j L S h => @List.rec _ (fun _ => rR) none (fun b S _ => @List.rec _ (fun _ => rR) none (fun a S _ => @Sum.rec _ _ (fun _ => rR) (fun y => @Sum.rec _ _ (fun _ => rR) (fun x => rSh S (nx j L (vI (f x y) :: S) h)) (fun _ => none) (a)) (fun _ => none) (b)) S) S
noncomputable def oCs (id n : Nat) (nx : rP) : rP := fun j L S h => rArg n [] S fun A S => rSh S (@Prod.rec _ _ (fun _ => rR) (fun _ jc => rRet (jc id A [] h) (fun v h => nx j L (rAns v S) h) (fun _ _ => none)) (j))
noncomputable def oCv (kd id n : Nat) (nx : rP) : rP := fun j L S h => rArg n [] S fun A S => @List.rec _ (fun _ => rR) none (fun o S _ => @Sum.rec _ _ (fun _ => rR) (fun _ => none) (fun w => @Sum.rec _ _ (fun _ => rR) (fun a => rSh S (@Prod.rec _ _ (fun _ => rR) (fun k _ => @Bool.rec (fun _ => rR) (none) (@Prod.rec _ _ (fun _ => rR) (fun _ jc => rRet (jc id (vR a :: A) [] h) (fun v h => nx j L (rAns v S) h) (fun _ _ => none)) (j)) (Nat.beq k kd)) (rAt h a))) (fun _ => none) (w)) (o)) S
noncomputable def rAlt (al : List (Nat × Nat)) (k : Nat) (f : Nat → rR) : rR := @List.rec _ (fun _ => rR) none (fun q _ ih => @Bool.rec (fun _ => rR) (ih) (f q.2) (Nat.beq k q.1)) al
noncomputable def oCp (al : List (Nat × Nat)) (n : Nat) (nx : rP) : rP := fun j L S h => rArg n [] S fun A S => @List.rec _ (fun _ => rR) none (fun o S _ => @Sum.rec _ _ (fun _ => rR) (fun _ => none) (fun w => @Sum.rec _ _ (fun _ => rR) (fun a => rSh S (@Prod.rec _ _ (fun _ => rR) (fun k _ => rAlt al k fun id => @Prod.rec _ _ (fun _ => rR) (fun _ jc => rRet (jc id (vR a :: A) [] h) (fun v h => nx j L (rAns v S) h) (fun _ _ => none)) (j)) (rAt h a))) (fun _ => none) (w)) (o)) S
noncomputable def oCi (id n : Nat) (nx : rP) : rP := fun j L S h => rArg n [] S fun A S => @List.rec _ (fun _ => rR) none (fun o S _ => @Sum.rec _ _ (fun _ => rR) (fun _ => none) (fun w => @Sum.rec _ _ (fun _ => rR) (fun a => rSh S (@Bool.rec (fun _ => rR) (@Prod.rec _ _ (fun _ => rR) (fun _ jc => rRet (jc id (vR a :: A) [] h) (fun v h => nx j L (rAns v S) h) (fun _ _ => none)) (j)) (none) (Nat.beq a 0))) (fun _ => none) (w)) (o)) S
noncomputable def oOi (nx : rP) : rP := fun j L S h => @List.rec _ (fun _ => rR) none (fun o S _ => @Sum.rec _ _ (fun _ => rR) (fun _ => none) (fun w => @Sum.rec _ _ (fun _ => rR) (fun a => rSh S (@Bool.rec (fun _ => rR) (nx j L S h) (none) (Nat.beq a 0))) (fun _ => none) (w)) (o)) S
noncomputable def rCat (h : rH) (k : Nat → rH → rR) : rR := @Prod.rec _ _ (fun _ => rR) (fun t r => @Prod.rec _ _ (fun _ => rR) (fun n r => @Bool.rec (fun _ => rR) (none) (k n (t, (Nat.succ n, r))) (Nat.ble n 510)) (r)) (h)
noncomputable def oCh (kd id n : Nat) (ex : Nat → rP) (nx : rP) : rP := fun j L S h => rArg n [] S fun A S => @List.rec _ (fun _ => rR) none (fun o S _ => @Sum.rec _ _ (fun _ => rR) (fun _ => none) (fun w => @Sum.rec _ _ (fun _ => rR) (fun a => rSh S (@Prod.rec _ _ (fun _ => rR) (fun k _ => @Bool.rec (fun _ => rR) (none) (@Prod.rec _ _ (fun _ => rR) (fun _ jc => rRet (jc id (vR a :: A) [] h) (fun v h => nx j L (rAns v S) h) (fun e h => rCat h fun q h => ex e j L [vR q] h)) (j)) (Nat.beq k kd)) (rAt h a))) (fun _ => none) (w)) (o)) S
noncomputable def oThr (e : Nat) : rP := fun j L S h => rSh S (@Prod.rec _ _ (fun _ => rR) (fun t r => @Prod.rec _ _ (fun _ => rR) (fun n r => @Prod.rec _ _ (fun _ => rR) (fun cs r => @Prod.rec _ _ (fun _ => rR) (fun sl sc => some (.inr e, (t, (n, (Nat.succ cs, (Nat.add sl 6, sc)))))) (r)) (r)) (r)) (h))
noncomputable def rEnd (S : List rV) (k : rR) : rR := @List.rec _ (fun _ => rR) k (fun _ _ _ => none) S
noncomputable def oRi (lim : Nat) : rP := fun j L S h => @List.rec _ (fun _ => rR) none (fun v S _ => rEnd S (@Sum.rec _ _ (fun _ => rR) (fun x => @Bool.rec (fun _ => rR) (some (.inl (some (vI x)), h)) (none) (Nat.ble lim x)) (fun _ => none) (v))) S
noncomputable def oRl : rP := fun j L S h => @List.rec _ (fun _ => rR) none (fun v S _ => rEnd S (@Sum.rec _ _ (fun _ => rR) (fun _ => none) (fun w => @Sum.rec _ _ (fun _ => rR) (fun _ => none) (fun w => @Sum.rec _ _ (fun _ => rR) (fun x => some (.inl (some (vL x)), h)) (fun _ => none) (w)) (w)) (v))) S
noncomputable def oRa : rP := fun j L S h => @List.rec _ (fun _ => rR) none (fun v S _ => rEnd S (@Sum.rec _ _ (fun _ => rR) (fun _ => none) (fun w => @Sum.rec _ _ (fun _ => rR) (fun x => some (.inl (some (vR x)), h)) (fun _ => none) (w)) (v))) S
noncomputable def oRd : rP := fun j L S h => @List.rec _ (fun _ => rR) none (fun v S _ => rEnd S (@Sum.rec _ _ (fun _ => rR) (fun _ => none) (fun w => @Sum.rec _ _ (fun _ => rR) (fun _ => none) (fun w => @Sum.rec _ _ (fun _ => rR) (fun _ => none) (fun w => @Prod.rec _ _ (fun _ => rR) (fun a b => @Bool.rec (fun _ => rR) (none) (some (.inl (some (vX a b)), h)) (Nat.beq a 17179869184)) (w)) (w)) (w)) (v))) S
noncomputable def oRv : rP := fun j L S h => rEnd S (some (.inl none, h))
noncomputable def oCpy (nx : rP) : rP := fun j L S h => @List.rec _ (fun _ => rR) none (fun n S _ => @List.rec _ (fun _ => rR) none (fun q S _ => @List.rec _ (fun _ => rR) none (fun d S _ => @List.rec _ (fun _ => rR) none (fun p S _ => @List.rec _ (fun _ => rR) none (fun s S _ => @Sum.rec _ _ (fun _ => rR) (fun n => @Sum.rec _ _ (fun _ => rR) (fun q => @Sum.rec _ _ (fun _ => rR) (fun _ => none) (fun w => @Sum.rec _ _ (fun _ => rR) (fun d => @Sum.rec _ _ (fun _ => rR) (fun p => @Sum.rec _ _ (fun _ => rR) (fun _ => none) (fun w => @Sum.rec _ _ (fun _ => rR) (fun s => rSh S (@Bool.rec (fun _ => rR) (@Prod.rec _ _ (fun _ => rR) (fun k u => @Bool.rec (fun _ => rR) (none) (@Bool.rec (fun _ => rR) (none) (@Prod.rec _ _ (fun _ => rR) (fun k2 u2 => @Bool.rec (fun _ => rR) (none) (@Bool.rec (fun _ => rR) (none) (rN (rSp u2.2 q n (Nat.mod (Nat.shiftRight u.2 (Nat.mul 64 p)) (Nat.pow 2 (Nat.mul 64 n)))) fun e => nx j L S (rPut h d (k2, (u2.1, e)))) (Nat.ble (Nat.add q n) u2.1)) (Nat.beq k2 1)) (rAt h d)) (Nat.ble (Nat.add p n) u.1)) (Nat.beq k 1)) (rAt h s)) (none) (Nat.beq s d))) (fun _ => none) (w)) (s)) (fun _ => none) (p)) (fun _ => none) (w)) (d)) (fun _ => none) (q)) (fun _ => none) (n)) S) S) S) S) S
noncomputable def rLp (tb : Nat → Unit × rP) (jc : rJ) (n : Nat) : rJ := @Nat.rec (fun _ => rJ) (fun _ _ _ _ => none) (fun _ ih id L S h => @Prod.rec _ _ (fun _ => rR) (fun _ c => c (ih, jc) L S h) (tb id)) n
noncomputable def rMc (tb : Nat → Unit × rP) (f d : Nat) : rJ := @Nat.rec (fun _ => rJ) (fun _ _ _ _ => none) (fun _ ih => rLp tb ih f) d
noncomputable def aT (_ _ : Nat) : Bool := true
end
section
-- ===== what an instruction's outcome says of its start =====
theorem iB {α : Type} {b : Bool} {f t : Option α} {r : α} (h : @Bool.rec (fun _ => Option α) f t b = some r) : (b = true ∧ t = some r) ∨ (b = false ∧ f = some r) := by
  cases b
  · exact Or.inr ⟨rfl, h⟩
  · exact Or.inl ⟨rfl, h⟩
theorem iBt {α : Type} {b : Bool} {t : Option α} {r : α} (h : @Bool.rec (fun _ => Option α) none t b = some r) : b = true ∧ t = some r := by
  cases b
  · cases h
  · exact ⟨rfl, h⟩
theorem iBf {α : Type} {b : Bool} {f : Option α} {r : α} (h : @Bool.rec (fun _ => Option α) f none b = some r) : b = false ∧ f = some r := by
  cases b
  · exact ⟨rfl, h⟩
  · cases h
theorem iP {S : List rV} {r : rO × rH} {k : rV → List rV → rR → rR} (h : @List.rec rV (fun _ => rR) none k S = some r) : ∃ v S', S = v :: S' ∧ k v S' (@List.rec rV (fun _ => rR) none k S') = some r := by
  cases S with
  | nil => cases h
  | cons v S' => exact ⟨v, S', rfl, h⟩
theorem iI {v : rV} {r : rO × rH} {k : Nat → rR} (h : @Sum.rec _ _ (fun _ => rR) k (fun _ => none) v = some r) : ∃ n, v = vI n ∧ k n = some r := by
  cases v with
  | inl n => exact ⟨n, rfl, h⟩
  | inr w => cases h
theorem iS {v : rV} {r : rO × rH} {k : Nat → rR} {g : Nat ⊕ (Nat ⊕ (Nat × Nat)) → rR} (h : @Sum.rec _ _ (fun _ => rR) k g v = some r) : (∃ n, v = vI n ∧ k n = some r) ∨ ∃ w, v = .inr w ∧ g w = some r := by
  cases v with
  | inl n => exact Or.inl ⟨n, rfl, h⟩
  | inr w => exact Or.inr ⟨w, rfl, h⟩
theorem iA {v : rV} {r : rO × rH} {k : Nat → rR} (h : @Sum.rec _ _ (fun _ => rR) (fun _ => none) (fun w => @Sum.rec _ _ (fun _ => rR) k (fun _ => none) w) v = some r) : ∃ n, v = vR n ∧ k n = some r := by
  rcases v with n | n | w
  · cases h
  · exact ⟨n, rfl, h⟩
  · cases h
theorem iL {v : rV} {r : rO × rH} {k : Nat → rR} (h : @Sum.rec _ _ (fun _ => rR) (fun _ => none) (fun w => @Sum.rec _ _ (fun _ => rR) (fun _ => none) (fun w => @Sum.rec _ _ (fun _ => rR) k (fun _ => none) w) w) v = some r) : ∃ n, v = vL n ∧ k n = some r := by
  rcases v with n | n | n | w
  · cases h
  · cases h
  · exact ⟨n, rfl, h⟩
  · cases h
theorem iX {v : rV} {r : rO × rH} {k : Nat × Nat → rR} (h : @Sum.rec _ _ (fun _ => rR) (fun _ => none) (fun w => @Sum.rec _ _ (fun _ => rR) (fun _ => none) (fun w => @Sum.rec _ _ (fun _ => rR) (fun _ => none) k w) w) v = some r) : ∃ a b, v = vX a b ∧ k (a, b) = some r := by
  rcases v with n | n | n | ⟨a, b⟩
  · cases h
  · cases h
  · cases h
  · exact ⟨a, b, rfl, h⟩
theorem iX1 {w : Nat ⊕ (Nat ⊕ (Nat × Nat))} {r : rO × rH} {k : Nat × Nat → rR} (h : @Sum.rec _ _ (fun _ => rR) (fun _ => none) (fun w => @Sum.rec _ _ (fun _ => rR) (fun _ => none) k w) w = some r) : ∃ a b, (.inr w : rV) = vX a b ∧ k (a, b) = some r := by
  rcases w with n | n | ⟨a, b⟩
  · cases h
  · cases h
  · exact ⟨a, b, rfl, h⟩
theorem iC {c : rC} {r : rO × rH} {k : Nat → Nat × Nat → rR} (h : @Prod.rec _ _ (fun _ => rR) k c = some r) : k c.1 c.2 = some r := h
theorem iN {n : Nat} {r : rO × rH} {k : Nat → rR} (h : rN n k = some r) : k n = some r := by
  cases n with
  | zero => exact h
  | succ m => exact h
theorem iO {α : Type} {o : Option α} {r : rO × rH} {k : α → rR} (h : @Option.rec _ (fun _ => rR) none k o = some r) : ∃ v, o = some v ∧ k v = some r := by
  cases o with
  | none => cases h
  | some v => exact ⟨v, rfl, h⟩
theorem bq {a b : Nat} (h : Nat.beq a b = true) : a = b := Nat.eq_of_beq_eq_true h
theorem bqf {a b : Nat} (h : Nat.beq a b = false) : a ≠ b := Nat.ne_of_beq_eq_false h
theorem bl {a b : Nat} (h : Nat.ble a b = true) : a ≤ b := Nat.le_of_ble_eq_true h
theorem blf {a b : Nat} (h : Nat.ble a b = false) : b < a := Nat.not_le.mp (fun q => by rw [Nat.ble_eq_true_of_le q] at h; cases h)
-- ===== places of a number =====
theorem rPl_lt (d p : Nat) : rPl d p < 18446744073709551616 := Nat.mod_lt _ (by decide)
theorem rPl_bit (d p k : Nat) : (rPl d p).testBit k = (decide (k < 64) && d.testBit (64 * p + k)) := by
  show ((d >>> (64 * p)) % 2 ^ 64).testBit k = _
  rw [Nat.testBit_mod_two_pow, Nat.testBit_shiftRight]
theorem rSp_bit (d p m s k : Nat) (hs : s < 2 ^ (64 * m)) : (rSp d p m s).testBit k = if 64 * p ≤ k ∧ k < 64 * p + 64 * m then s.testBit (k - 64 * p) else d.testBit k := by
  show (d ^^^ ((((d >>> (64 * p)) % 2 ^ (64 * m)) ^^^ s) <<< (64 * p))).testBit k = _
  rw [Nat.testBit_xor, Nat.testBit_shiftLeft, Nat.testBit_xor, Nat.testBit_mod_two_pow, Nat.testBit_shiftRight]
  by_cases h1 : 64 * p ≤ k
  · by_cases h2 : k < 64 * p + 64 * m
    · rw [if_pos ⟨h1, h2⟩, show 64 * p + (k - 64 * p) = k by omega, decide_eq_true (show k ≥ 64 * p from h1), decide_eq_true (show k - 64 * p < 64 * m by omega)]
      cases d.testBit k <;> cases s.testBit (k - 64 * p) <;> rfl
    · have hz : s.testBit (k - 64 * p) = false := Nat.testBit_lt_two_pow (Nat.lt_of_lt_of_le hs (Nat.pow_le_pow_right (by decide) (by omega)))
      rw [if_neg (fun q => h2 q.2), hz, decide_eq_false (show ¬ k - 64 * p < 64 * m by omega)]
      cases d.testBit k <;> cases (decide (k ≥ 64 * p)) <;> rfl
  · rw [if_neg (fun q => h1 q.1), decide_eq_false (show ¬ k ≥ 64 * p from h1)]
    cases d.testBit k <;> rfl
theorem rPl_rSp (d p m s q : Nat) (hs : s < 2 ^ (64 * m)) : rPl (rSp d p m s) q = if p ≤ q ∧ q < p + m then rPl s (q - p) else rPl d q := by
  apply Nat.eq_of_testBit_eq
  intro k
  rw [rPl_bit]
  by_cases hk : k < 64
  · rw [rSp_bit _ _ _ _ _ hs]
    by_cases h : p ≤ q ∧ q < p + m
    · rw [if_pos h, if_pos (by omega), rPl_bit, show 64 * q + k - 64 * p = 64 * (q - p) + k by omega]
    · rw [if_neg h, if_neg (by omega), rPl_bit]
  · rw [decide_eq_false hk]
    split <;> (rw [rPl_bit, decide_eq_false hk]; simp)
theorem rPl_0 (q : Nat) : rPl 0 q = 0 := by
  apply Nat.eq_of_testBit_eq
  intro k
  rw [rPl_bit, Nat.zero_testBit]
  simp
theorem rPl_self {s : Nat} (hs : s < 18446744073709551616) : rPl s 0 = s := by
  apply Nat.eq_of_testBit_eq
  intro k
  rw [rPl_bit, show 64 * 0 + k = k by omega]
  by_cases hk : k < 64
  · rw [decide_eq_true hk]; rfl
  · rw [decide_eq_false hk, Nat.testBit_lt_two_pow (Nat.lt_of_lt_of_le (show s < 2 ^ 64 from hs) (Nat.pow_le_pow_right (by decide) (by omega)))]
    rfl
theorem rPl_put (d p s q : Nat) (hs : s < 18446744073709551616) : rPl (rSp d p 1 s) q = if q = p then s else rPl d q := by
  rw [rPl_rSp _ _ _ _ _ (show s < 2 ^ (64 * 1) from hs)]
  by_cases h : q = p
  · subst h
    rw [if_pos (by omega), if_pos rfl, Nat.sub_self, rPl_self hs]
  · rw [if_neg (by omega), if_neg h]
theorem rPl_cut (d p n q : Nat) (hq : q < n) : rPl (Nat.mod (Nat.shiftRight d (Nat.mul 64 p)) (Nat.pow 2 (Nat.mul 64 n))) q = rPl d (p + q) := by
  apply Nat.eq_of_testBit_eq
  intro k
  rw [rPl_bit, rPl_bit]
  by_cases hk : k < 64
  · show (_ && (((d >>> (64 * p)) % 2 ^ (64 * n)).testBit (64 * q + k))) = _
    rw [Nat.testBit_mod_two_pow, Nat.testBit_shiftRight, decide_eq_true (show 64 * q + k < 64 * n by omega), show 64 * p + (64 * q + k) = 64 * (p + q) + k by omega]
    rfl
  · rw [decide_eq_false hk]; rfl
-- ===== locals =====
theorem rDj_U : rDj vU = vU := rfl
def gOk (i : Nat) (g : List rV → rV) : Prop := ∀ L, g L = L.getD i vU
theorem gOk_s {i : Nat} {g g' : List rV → rV} (h : gOk i g) (e : ∀ L, g' L = @List.rec rV (fun _ => rV) vU (fun _ r _ => g r) L) : gOk (i + 1) g' := by
  intro L
  rw [e]
  cases L with
  | nil => rfl
  | cons x r => exact h r
def sOk (i : Nat) (s : rV → List rV → List rV) : Prop := ∀ v L j, (s v L).getD j vU = if j = i then v else if j + 1 = i then rDj (L.getD j vU) else L.getD j vU
def dOk (i : Nat) (s : rV → List rV → List rV) : Prop := ∀ v L j, (s v L).getD j vU = if j = i then v else if j = i + 1 then vU else if j + 1 = i then rDj (L.getD j vU) else L.getD j vU
theorem sOk_1 {s s' : rV → List rV → List rV} (h : sOk 0 s) (e : ∀ v L, s' v L = @List.rec rV (fun _ => List rV) (vU :: s v []) (fun x r _ => rDj x :: s v r) L) : sOk 1 s' := by
  intro v L j
  rw [e]
  cases L with
  | nil =>
    cases j with
    | zero => rfl
    | succ j => have := h v [] j; simp at this ⊢; exact this
  | cons x r =>
    cases j with
    | zero => rfl
    | succ j => have := h v r j; simp at this ⊢; exact this
theorem sOk_s {i : Nat} {s s' : rV → List rV → List rV} (h : sOk (i + 1) s) (e : ∀ v L, s' v L = @List.rec rV (fun _ => List rV) (vU :: s v []) (fun x r _ => x :: s v r) L) : sOk (i + 2) s' := by
  intro v L j
  rw [e]
  cases L with
  | nil =>
    cases j with
    | zero => rfl
    | succ j => have := h v [] j; simp at this ⊢; exact this
  | cons x r =>
    cases j with
    | zero => rfl
    | succ j => have := h v r j; simp at this ⊢; exact this
theorem dOk_1 {s s' : rV → List rV → List rV} (h : dOk 0 s) (e : ∀ v L, s' v L = @List.rec rV (fun _ => List rV) (vU :: s v []) (fun x r _ => rDj x :: s v r) L) : dOk 1 s' := by
  intro v L j
  rw [e]
  cases L with
  | nil =>
    cases j with
    | zero => rfl
    | succ j => have := h v [] j; simp at this ⊢; exact this
  | cons x r =>
    cases j with
    | zero => rfl
    | succ j => have := h v r j; simp at this ⊢; exact this
theorem dOk_s {i : Nat} {s s' : rV → List rV → List rV} (h : dOk (i + 1) s) (e : ∀ v L, s' v L = @List.rec rV (fun _ => List rV) (vU :: s v []) (fun x r _ => x :: s v r) L) : dOk (i + 2) s' := by
  intro v L j
  rw [e]
  cases L with
  | nil =>
    cases j with
    | zero => rfl
    | succ j => have := h v [] j; simp at this ⊢; exact this
  | cons x r =>
    cases j with
    | zero => rfl
    | succ j => have := h v r j; simp at this ⊢; exact this
theorem gk0 : gOk 0 nG0 := by
  intro L
  cases L <;> rfl
theorem sk0 : sOk 0 nS0 := by
  intro v L j
  cases L <;> cases j <;> simp [nS0]
theorem dk0 : dOk 0 nD0 := by
  intro v L j
  cases L with
  | nil =>
    rcases j with _ | _ | j <;> simp [nD0]
  | cons x r =>
    cases r with
    | nil => rcases j with _ | _ | j <;> simp [nD0, nS0]
    | cons y r => rcases j with _ | _ | j <;> simp [nD0, nS0]
theorem gk1 : gOk 1 nG1 := gOk_s gk0 (fun _ => rfl)
theorem sk1 : sOk 1 nS1 := sOk_1 sk0 (fun _ _ => rfl)
theorem dk1 : dOk 1 nD1 := dOk_1 dk0 (fun _ _ => rfl)
theorem gk2 : gOk 2 nG2 := gOk_s gk1 (fun _ => rfl)
theorem sk2 : sOk 2 nS2 := sOk_s sk1 (fun _ _ => rfl)
theorem dk2 : dOk 2 nD2 := dOk_s dk1 (fun _ _ => rfl)
theorem gk3 : gOk 3 nG3 := gOk_s gk2 (fun _ => rfl)
theorem sk3 : sOk 3 nS3 := sOk_s sk2 (fun _ _ => rfl)
theorem dk3 : dOk 3 nD3 := dOk_s dk2 (fun _ _ => rfl)
theorem gk4 : gOk 4 nG4 := gOk_s gk3 (fun _ => rfl)
theorem sk4 : sOk 4 nS4 := sOk_s sk3 (fun _ _ => rfl)
theorem dk4 : dOk 4 nD4 := dOk_s dk3 (fun _ _ => rfl)
theorem gk5 : gOk 5 nG5 := gOk_s gk4 (fun _ => rfl)
theorem sk5 : sOk 5 nS5 := sOk_s sk4 (fun _ _ => rfl)
theorem dk5 : dOk 5 nD5 := dOk_s dk4 (fun _ _ => rfl)
theorem gk6 : gOk 6 nG6 := gOk_s gk5 (fun _ => rfl)
theorem sk6 : sOk 6 nS6 := sOk_s sk5 (fun _ _ => rfl)
theorem dk6 : dOk 6 nD6 := dOk_s dk5 (fun _ _ => rfl)
theorem gk7 : gOk 7 nG7 := gOk_s gk6 (fun _ => rfl)
theorem sk7 : sOk 7 nS7 := sOk_s sk6 (fun _ _ => rfl)
theorem dk7 : dOk 7 nD7 := dOk_s dk6 (fun _ _ => rfl)
theorem gk8 : gOk 8 nG8 := gOk_s gk7 (fun _ => rfl)
theorem sk8 : sOk 8 nS8 := sOk_s sk7 (fun _ _ => rfl)
theorem dk8 : dOk 8 nD8 := dOk_s dk7 (fun _ _ => rfl)
theorem gk9 : gOk 9 nG9 := gOk_s gk8 (fun _ => rfl)
theorem sk9 : sOk 9 nS9 := sOk_s sk8 (fun _ _ => rfl)
theorem dk9 : dOk 9 nD9 := dOk_s dk8 (fun _ _ => rfl)
theorem gk10 : gOk 10 nG10 := gOk_s gk9 (fun _ => rfl)
theorem sk10 : sOk 10 nS10 := sOk_s sk9 (fun _ _ => rfl)
theorem dk10 : dOk 10 nD10 := dOk_s dk9 (fun _ _ => rfl)
theorem gk11 : gOk 11 nG11 := gOk_s gk10 (fun _ => rfl)
theorem sk11 : sOk 11 nS11 := sOk_s sk10 (fun _ _ => rfl)
theorem dk11 : dOk 11 nD11 := dOk_s dk10 (fun _ _ => rfl)
theorem gk12 : gOk 12 nG12 := gOk_s gk11 (fun _ => rfl)
theorem sk12 : sOk 12 nS12 := sOk_s sk11 (fun _ _ => rfl)
theorem dk12 : dOk 12 nD12 := dOk_s dk11 (fun _ _ => rfl)
theorem gk13 : gOk 13 nG13 := gOk_s gk12 (fun _ => rfl)
theorem sk13 : sOk 13 nS13 := sOk_s sk12 (fun _ _ => rfl)
theorem dk13 : dOk 13 nD13 := dOk_s dk12 (fun _ _ => rfl)
theorem gk14 : gOk 14 nG14 := gOk_s gk13 (fun _ => rfl)
theorem sk14 : sOk 14 nS14 := sOk_s sk13 (fun _ _ => rfl)
theorem dk14 : dOk 14 nD14 := dOk_s dk13 (fun _ _ => rfl)
theorem gk15 : gOk 15 nG15 := gOk_s gk14 (fun _ => rfl)
theorem sk15 : sOk 15 nS15 := sOk_s sk14 (fun _ _ => rfl)
theorem dk15 : dOk 15 nD15 := dOk_s dk14 (fun _ _ => rfl)
theorem gk16 : gOk 16 nG16 := gOk_s gk15 (fun _ => rfl)
theorem sk16 : sOk 16 nS16 := sOk_s sk15 (fun _ _ => rfl)
theorem dk16 : dOk 16 nD16 := dOk_s dk15 (fun _ _ => rfl)
-- ===== the tree =====
theorem land_pow (i d : Nat) : Nat.beq (Nat.land i (2 ^ d)) 0 = !(i.testBit d) := by
  have e : Nat.land i (2 ^ d) = i &&& 2 ^ d := rfl
  rw [e]
  cases h : i.testBit d with
  | true =>
    have : (i &&& 2 ^ d).testBit d = true := by rw [Nat.testBit_and, h, Nat.testBit_two_pow_self]; rfl
    cases hz : Nat.beq (i &&& 2 ^ d) 0 with
    | false => rfl
    | true =>
      rw [Nat.eq_of_beq_eq_true hz, Nat.zero_testBit] at this
      cases this
  | false =>
    have : i &&& 2 ^ d = 0 := by
      apply Nat.eq_of_testBit_eq
      intro k
      rw [Nat.testBit_and, Nat.testBit_two_pow, Nat.zero_testBit]
      by_cases hk : d = k
      · subst hk; rw [h]; rfl
      · rw [decide_eq_false hk]; simp
    rw [this]; rfl
def tAg (d a b : Nat) : Prop := ∀ i, i < d → a.testBit i = b.testBit i
theorem tAg_s {d a b : Nat} : tAg (d + 1) a b ↔ tAg d a b ∧ a.testBit d = b.testBit d := by
  refine ⟨fun h => ⟨fun i hi => h i (by omega), h d (by omega)⟩, fun h i hi => ?_⟩
  by_cases e : i = d
  · subst e; exact h.2
  · exact h.1 i (by omega)
def tOk (d : Nat) (g : rT d → Nat → rC) (s : rT d → Nat → rC → rT d) : Prop := (∀ t a b c, tAg d a b → g (s t a c) b = c) ∧ (∀ t a b c, ¬ tAg d a b → g (s t a c) b = g t b) ∧ ∀ t a b, tAg d a b → g t a = g t b
def rMk {d : Nat} (x y : rT d) : rT (d + 1) := (x, y)
theorem rMk_all {d : Nat} (t : rT (d + 1)) : ∃ x y : rT d, t = rMk x y := ⟨t.1, t.2, rfl⟩
theorem tOk_s {d : Nat} {g : rT d → Nat → rC} {s : rT d → Nat → rC → rT d} {g' : rT (d + 1) → Nat → rC} {s' : rT (d + 1) → Nat → rC → rT (d + 1)} (h : tOk d g s)
    (eg : ∀ (x y : rT d) i, g' (rMk x y) i = @Bool.rec (fun _ => rC) (g y i) (g x i) (Nat.beq (Nat.land i (2 ^ d)) 0))
    (es : ∀ (x y : rT d) i c, s' (rMk x y) i c = @Bool.rec (fun _ => rT (d + 1)) (rMk x (s y i c)) (rMk (s x i c) y) (Nat.beq (Nat.land i (2 ^ d)) 0)) : tOk (d + 1) g' s' := by
  obtain ⟨h1, h2, h3⟩ := h
  refine ⟨fun t a b c hab => ?_, fun t a b c hab => ?_, fun t a b hab => ?_⟩
  · obtain ⟨x, y, rfl⟩ := rMk_all t
    obtain ⟨ha, hb⟩ := tAg_s.mp hab
    rw [es, land_pow]
    cases ht : a.testBit d with
    | true => rw [show (!true) = false from rfl]; show g' (rMk x (s y a c)) b = c; rw [eg, land_pow, ← hb, ht]; exact h1 y a b c ha
    | false => rw [show (!false) = true from rfl]; show g' (rMk (s x a c) y) b = c; rw [eg, land_pow, ← hb, ht]; exact h1 x a b c ha
  · obtain ⟨x, y, rfl⟩ := rMk_all t
    rw [es, land_pow]
    cases ht : a.testBit d with
    | true =>
      rw [show (!true) = false from rfl]
      show g' (rMk x (s y a c)) b = g' (rMk x y) b
      rw [eg, eg, land_pow]
      cases hb : b.testBit d with
      | true => exact h2 y a b c (fun q => hab (tAg_s.mpr ⟨q, by rw [ht, hb]⟩))
      | false => rfl
    | false =>
      rw [show (!false) = true from rfl]
      show g' (rMk (s x a c) y) b = g' (rMk x y) b
      rw [eg, eg, land_pow]
      cases hb : b.testBit d with
      | true => rfl
      | false => exact h2 x a b c (fun q => hab (tAg_s.mpr ⟨q, by rw [ht, hb]⟩))
  · obtain ⟨x, y, rfl⟩ := rMk_all t
    obtain ⟨ha, hb⟩ := tAg_s.mp hab
    rw [eg, eg, land_pow, land_pow, ← hb]
    cases a.testBit d with
    | true => exact h3 y a b ha
    | false => exact h3 x a b ha
theorem tk0 : tOk 0 tG0 tS0 := ⟨fun _ _ _ _ _ => rfl, fun _ _ _ _ h => absurd (fun i hi => absurd hi (Nat.not_lt_zero i)) h, fun _ _ _ _ => rfl⟩
theorem tk1 : tOk 1 tG1 tS1 := tOk_s tk0 (fun _ _ _ => rfl) (fun _ _ _ _ => rfl)
theorem tk2 : tOk 2 tG2 tS2 := tOk_s tk1 (fun _ _ _ => rfl) (fun _ _ _ _ => rfl)
theorem tk3 : tOk 3 tG3 tS3 := tOk_s tk2 (fun _ _ _ => rfl) (fun _ _ _ _ => rfl)
theorem tk4 : tOk 4 tG4 tS4 := tOk_s tk3 (fun _ _ _ => rfl) (fun _ _ _ _ => rfl)
theorem tk5 : tOk 5 tG5 tS5 := tOk_s tk4 (fun _ _ _ => rfl) (fun _ _ _ _ => rfl)
theorem tk6 : tOk 6 tG6 tS6 := tOk_s tk5 (fun _ _ _ => rfl) (fun _ _ _ _ => rfl)
theorem tk7 : tOk 7 tG7 tS7 := tOk_s tk6 (fun _ _ _ => rfl) (fun _ _ _ _ => rfl)
theorem tk8 : tOk 8 tG8 tS8 := tOk_s tk7 (fun _ _ _ => rfl) (fun _ _ _ _ => rfl)
theorem tk9 : tOk 9 tG9 tS9 := tOk_s tk8 (fun _ _ _ => rfl) (fun _ _ _ _ => rfl)
theorem tAg9 {a b : Nat} (ha : a < 512) (hb : b < 512) : tAg 9 a b ↔ a = b := by
  refine ⟨fun h => Nat.eq_of_testBit_eq fun i => ?_, fun h => by subst h; exact fun _ _ => rfl⟩
  by_cases hi : i < 9
  · exact h i hi
  · rw [Nat.testBit_lt_two_pow (Nat.lt_of_lt_of_le (show a < 2 ^ 9 from ha) (Nat.pow_le_pow_right (by decide) (by omega))), Nat.testBit_lt_two_pow (Nat.lt_of_lt_of_le (show b < 2 ^ 9 from hb) (Nat.pow_le_pow_right (by decide) (by omega)))]
theorem tSet_eq (t : rT 9) (a : Nat) (c : rC) : tG9 (tS9 t a c) a = c := tk9.1 t a a c (fun _ _ => rfl)
theorem tSet_ne (t : rT 9) {a b : Nat} (c : rC) (ha : a < 512) (hb : b < 512) (h : a ≠ b) : tG9 (tS9 t a c) b = tG9 t b := tk9.2.1 t a b c (fun q => h ((tAg9 ha hb).mp q))
theorem tGet_e1 (t : rT 9) : tG9 t 8192 = tG9 t 0 := tk9.2.2 t 8192 0 (fun i hi => by
  rcases (by omega : i = 0 ∨ i = 1 ∨ i = 2 ∨ i = 3 ∨ i = 4 ∨ i = 5 ∨ i = 6 ∨ i = 7 ∨ i = 8) with rfl | rfl | rfl | rfl | rfl | rfl | rfl | rfl | rfl <;> decide)
theorem tGet_e2 (t : rT 9) : tG9 t 16384 = tG9 t 0 := tk9.2.2 t 16384 0 (fun i hi => by
  rcases (by omega : i = 0 ∨ i = 1 ∨ i = 2 ∨ i = 3 ∨ i = 4 ∨ i = 5 ∨ i = 6 ∨ i = 7 ∨ i = 8) with rfl | rfl | rfl | rfl | rfl | rfl | rfl | rfl | rfl <;> decide)
end
section
-- ===== ints and longs as numbers =====
theorem nI_bv (n : Nat) : (nI n).toBitVec = BitVec.ofNat 32 n := rfl
theorem nI_bvn {n : Nat} (h : n < 4294967296) : (nI n).toBitVec.toNat = n := by
  rw [nI_bv, BitVec.toNat_ofNat]; exact Nat.mod_eq_of_lt h
theorem nI_mod (n : Nat) : nI (n % 4294967296) = nI n := by
  apply Int32.toBitVec_inj.mp
  rw [nI_bv, nI_bv]
  apply BitVec.eq_of_toNat_eq
  rw [BitVec.toNat_ofNat, BitVec.toNat_ofNat]
  exact Nat.mod_mod _ _
theorem nI_all (x : Int32) : ∃ n, n < 4294967296 ∧ x = nI n := ⟨x.toBitVec.toNat, x.toBitVec.isLt, by
  apply Int32.toBitVec_inj.mp
  rw [nI_bv]
  apply BitVec.eq_of_toNat_eq
  rw [BitVec.toNat_ofNat]
  exact (Nat.mod_eq_of_lt x.toBitVec.isLt).symm⟩
theorem nI_ti {n : Nat} (h : n < 4294967296) : (nI n).toInt = if n < 2147483648 then (n : Int) else (n : Int) - 4294967296 := by
  show (nI n).toBitVec.toInt = _
  rw [BitVec.toInt_eq_toNat_cond, nI_bvn h]
  by_cases hh : n < 2147483648
  · rw [if_pos hh, if_pos (by omega)]
  · rw [if_neg hh, if_neg (by omega)]; omega
theorem nI_inj {a b : Nat} (ha : a < 4294967296) (hb : b < 4294967296) : nI a = nI b ↔ a = b := by
  refine ⟨fun h => ?_, fun h => by rw [h]⟩
  have := congrArg (fun z : Int32 => z.toBitVec.toNat) h
  simp only [nI_bvn ha, nI_bvn hb] at this
  exact this
theorem m_add (x y : Nat) : nI x + nI y = nI (fAdd x y) := by
  rw [nI_add]; exact (nI_mod _).symm
theorem m_mul (x y : Nat) : nI x * nI y = nI (fMul x y) := by
  rw [pk_mul]; exact (nI_mod _).symm
theorem m_sub {x y : Nat} (hx : x < 4294967296) (hy : y < 4294967296) : nI x - nI y = nI (fSub x y) := by
  apply Int32.toBitVec_inj.mp
  rw [Int32.toBitVec_sub]
  apply BitVec.eq_of_toNat_eq
  rw [BitVec.toNat_sub, nI_bvn hx, nI_bvn hy]
  show _ = (nI ((x + (4294967296 - y)) % 4294967296)).toBitVec.toNat
  rw [nI_bvn (Nat.mod_lt _ (by decide)), Nat.add_comm x]
theorem m_and {x y : Nat} : nI x &&& nI y = nI (fAnd x y) := by
  apply Int32.toBitVec_inj.mp
  rw [Int32.toBitVec_and]
  apply BitVec.eq_of_toNat_eq
  show (BitVec.ofNat 32 x &&& BitVec.ofNat 32 y).toNat = (BitVec.ofNat 32 (x &&& y)).toNat
  rw [BitVec.toNat_and, BitVec.toNat_ofNat, BitVec.toNat_ofNat, BitVec.toNat_ofNat, Nat.and_mod_two_pow]
theorem m_or {x y : Nat} : nI x ||| nI y = nI (fOr x y) := by
  apply Int32.toBitVec_inj.mp
  rw [Int32.toBitVec_or]
  apply BitVec.eq_of_toNat_eq
  show (BitVec.ofNat 32 x ||| BitVec.ofNat 32 y).toNat = (BitVec.ofNat 32 (x ||| y)).toNat
  rw [BitVec.toNat_or, BitVec.toNat_ofNat, BitVec.toNat_ofNat, BitVec.toNat_ofNat, Nat.or_mod_two_pow]
theorem m_and_lt {x y : Nat} (hx : x < 4294967296) : fAnd x y < 4294967296 := Nat.lt_of_le_of_lt Nat.and_le_left hx
theorem m_or_lt {x y : Nat} (hx : x < 4294967296) (hy : y < 4294967296) : fOr x y < 4294967296 := Nat.or_lt_two_pow (n := 32) hx hy
theorem m_31 {y : Nat} (hy : y < 4294967296) : nI y &&& 31 = nI (y % 32) := by
  have h := pk_andN (n := y) hy (m := 31) 5 (by decide)
  exact h
theorem m_smod : ∀ j, j < 32 → ((nI j).toBitVec.smod 32).toNat = j := by decide +kernel
theorem m_shl {x y : Nat} (hx : x < 4294967296) (hy : y < 4294967296) : nI x <<< (nI y &&& 31) = nI (fShl x y) := by
  rw [m_31 hy]
  apply Int32.toBitVec_inj.mp
  apply BitVec.eq_of_toNat_eq
  rw [pk_shl _ _ (y % 32) (m_smod _ (Nat.mod_lt _ (by decide))), nI_bvn hx]
  show _ = (nI ((x <<< (y % 32)) % 4294967296)).toBitVec.toNat
  rw [nI_bvn (Nat.mod_lt _ (by decide)), Nat.shiftLeft_eq]
theorem m_shl_lt (x y : Nat) : fShl x y < 4294967296 := Nat.mod_lt _ (by decide)
theorem m_int {x y : Int32} (h : x.toInt = y.toInt) : x = y := Int32.toInt_inj.mp h
theorem m_shr {x y : Nat} (hx : x < 4294967296) (hy : y < 4294967296) : nI x >>> (nI y &&& 31) = nI (fShr x y) ∧ fShr x y < 4294967296 := by
  rw [m_31 hy]
  have hk : y % 32 < 32 := Nat.mod_lt _ (by decide)
  generalize hj : y % 32 = j at hk
  have e : (nI x >>> nI j).toInt = (nI x).toInt >>> j := pk_shr _ _ j (m_smod _ hk)
  by_cases h : x < 2147483648
  · have hf : fShr x y = x >>> j := by
      unfold fShr
      rw [show Nat.ble 2147483648 x = false from Bool.eq_false_iff.mpr (fun q => absurd (Nat.le_of_ble_eq_true q) (by omega)), show Nat.mod y 32 = j from hj]
      rfl
    have hl : x >>> j ≤ x := by rw [Nat.shiftRight_eq_div_pow]; exact Nat.div_le_self _ _
    refine ⟨m_int ?_, by rw [hf]; omega⟩
    rw [e, hf, nI_ti hx, if_pos h, nI_ti (by omega), if_pos (by omega)]
    rfl
  · have hf : fShr x y = 4294967295 - (4294967295 - x) >>> j := by
      unfold fShr
      rw [show Nat.ble 2147483648 x = true from Nat.ble_eq_true_of_le (by omega), show Nat.mod y 32 = j from hj]
      rfl
    have hl : (4294967295 - x) >>> j ≤ 4294967295 - x := by rw [Nat.shiftRight_eq_div_pow]; exact Nat.div_le_self _ _
    have e2 : ((x : Int) - 4294967296) >>> j = Int.negSucc ((4294967295 - x) >>> j) := by rw [show (x : Int) - 4294967296 = Int.negSucc (4294967295 - x) by omega]; rfl
    generalize (4294967295 - x) >>> j = z at hf hl e2
    refine ⟨m_int ?_, by rw [hf]; omega⟩
    rw [e, hf, nI_ti hx, if_neg h, nI_ti (by omega), if_neg (by omega), e2]
    omega
theorem m_ushr {x y : Nat} (hx : x < 4294967296) (hy : y < 4294967296) : ((nI x).toUInt32 >>> ((nI y).toUInt32 &&& Int32.toUInt32 31)).toInt32 = nI (fUsh x y) ∧ fUsh x y < 4294967296 := by
  have hs : (((nI y).toUInt32 &&& Int32.toUInt32 31).toBitVec % 32).toNat = y % 32 := by
    show (((BitVec.ofNat 32 y) &&& (31 : BitVec 32)) % 32).toNat = y % 32
    rw [BitVec.toNat_umod, BitVec.toNat_and, BitVec.toNat_ofNat, Nat.mod_eq_of_lt hy]
    show (y &&& (2 ^ 5 - 1)) % 32 = y % 32
    rw [Nat.and_two_pow_sub_one_eq_mod]
    exact Nat.mod_mod _ _
  have e := pk_ushr (nI x) (nI y) (y % 32) hs
  rw [nI_bvn hx] at e
  have hl : fUsh x y ≤ x := by show x >>> (y % 32) ≤ x; rw [Nat.shiftRight_eq_div_pow]; exact Nat.div_le_self _ _
  refine ⟨?_, by omega⟩
  apply Int32.toBitVec_inj.mp
  apply BitVec.eq_of_toNat_eq
  rw [e, nI_bvn (by omega)]
  show _ = x >>> (y % 32)
  rw [Nat.shiftRight_eq_div_pow]
theorem m_div {x y : Nat} (h : aDv x y = true) : ¬ nI y = 0 ∧ nI x / nI y = nI (fDiv x y) ∧ fDiv x y < 4294967296 ∧ nI x - nI x / nI y * nI y = nI (fRem x y) ∧ fRem x y < 4294967296 := by
  unfold aDv at h
  have h1 : ¬ Nat.ble y 0 = true := fun q => by rw [q] at h; cases h
  rw [Bool.eq_false_iff.mpr h1] at h
  have h2 : ¬ Nat.ble 2147483648 y = true := fun q => by rw [q] at h; cases h
  rw [Bool.eq_false_iff.mpr h2] at h
  have h3 : x ≤ 2147483647 := Nat.le_of_ble_eq_true h
  have h4 : 0 < y := Nat.not_le.mp (fun q => h1 (Nat.ble_eq_true_of_le q))
  have h5 : y < 2147483648 := Nat.not_le.mp (fun q => h2 (Nat.ble_eq_true_of_le q))
  have l1 : x / y ≤ x := Nat.div_le_self _ _
  have l2 : x % y ≤ x := Nat.mod_le _ _
  exact ⟨nI_ne0 h4 h5, pk_div (show x < 2 ^ 31 by omega) h4 h5, by show x / y < _; omega, pk_rem (show x < 2 ^ 31 by omega) h4 h5, by show x % y < _; omega⟩
theorem xr_lo {k x : Nat} (h : x < 2 ^ k) : x ^^^ 2 ^ k = 2 ^ k + x := by
  have e : 2 ^ k + x = 2 ^ k ||| x := by
    have := Nat.two_pow_add_eq_or_of_lt h 1
    rw [Nat.mul_one] at this
    exact this
  rw [e]
  apply Nat.eq_of_testBit_eq
  intro i
  rw [Nat.testBit_xor, Nat.testBit_or, Nat.testBit_two_pow]
  by_cases c : k = i
  · subst c
    rw [Nat.testBit_lt_two_pow h]; simp
  · rw [decide_eq_false c]; simp
theorem xr_hi {k x : Nat} (h : 2 ^ k ≤ x) (h2 : x < 2 ^ (k + 1)) : x ^^^ 2 ^ k = x - 2 ^ k := by
  have h3 : x - 2 ^ k < 2 ^ k := by rw [Nat.pow_succ] at h2; omega
  have e := xr_lo h3
  rw [show 2 ^ k + (x - 2 ^ k) = x by omega] at e
  rw [← e, Nat.xor_assoc, Nat.xor_self, Nat.xor_zero]
  rw [e]
theorem m_sI {a : Nat} (h : a < 4294967296) : sI a = if a < 2147483648 then a + 2147483648 else a - 2147483648 := by
  by_cases c : a < 2147483648
  · rw [if_pos c, Nat.add_comm]; exact xr_lo (k := 31) c
  · rw [if_neg c]; exact xr_hi (k := 31) (by omega) h
theorem m_sL {a : Nat} (h : a < 18446744073709551616) : sL a = if a < 9223372036854775808 then a + 9223372036854775808 else a - 9223372036854775808 := by
  by_cases c : a < 9223372036854775808
  · rw [if_pos c, Nat.add_comm]; exact xr_lo (k := 63) c
  · rw [if_neg c]; exact xr_hi (k := 63) (by omega) h
theorem m_lt {x y : Nat} (hx : x < 4294967296) (hy : y < 4294967296) : nI x < nI y ↔ sI x < sI y := by
  rw [Int32.lt_iff_toInt_lt, nI_ti hx, nI_ti hy, m_sI hx, m_sI hy]
  split <;> split <;> omega
theorem m_le {x y : Nat} (hx : x < 4294967296) (hy : y < 4294967296) : nI x ≤ nI y ↔ sI x ≤ sI y := by
  rw [Int32.le_iff_toInt_le, nI_ti hx, nI_ti hy, m_sI hx, m_sI hy]
  split <;> split <;> omega
theorem m_sI_mono {x y : Nat} (h : x ≤ y) (hy : y < 4294967296) (hs : y < 2147483648 ∨ 2147483648 ≤ x) : sI x ≤ sI y := by
  rw [m_sI (by omega), m_sI hy]
  split <;> split <;> omega
-- longs
theorem lN_mod (n : Nat) : lN (n % 18446744073709551616) = lN n := by
  apply Int64.toBitVec_inj.mp
  show BitVec.ofNat 64 (n % 18446744073709551616) = BitVec.ofNat 64 n
  apply BitVec.eq_of_toNat_eq
  rw [BitVec.toNat_ofNat, BitVec.toNat_ofNat]
  exact Nat.mod_mod _ _
theorem lN_bvn {n : Nat} (h : n < 18446744073709551616) : (lN n).toBitVec.toNat = n := by
  show (BitVec.ofNat 64 n).toNat = n
  rw [BitVec.toNat_ofNat]; exact Nat.mod_eq_of_lt h
theorem lN_ti9 {n : Nat} (h : n < 18446744073709551616) : (lN n).toInt = if n < 9223372036854775808 then (n : Int) else (n : Int) - 18446744073709551616 := by
  show (lN n).toBitVec.toInt = _
  rw [BitVec.toInt_eq_toNat_cond, lN_bvn h]
  by_cases hh : n < 9223372036854775808
  · rw [if_pos hh, if_pos (by omega)]
  · rw [if_neg hh, if_neg (by omega)]; omega
theorem lN_inj9 {a b : Nat} (ha : a < 18446744073709551616) (hb : b < 18446744073709551616) : lN a = lN b ↔ a = b := by
  refine ⟨fun h => ?_, fun h => by rw [h]⟩
  have := congrArg (fun z : Int64 => z.toBitVec.toNat) h
  simp only [lN_bvn ha, lN_bvn hb] at this
  exact this
theorem ml_add (x y : Nat) : lN x + lN y = lN (fLadd x y) := by
  rw [lN_add]; exact (lN_mod _).symm
theorem ml_mul (x y : Nat) : lN x * lN y = lN (fLmul x y) := by
  rw [lN_mul]; exact (lN_mod _).symm
theorem ml_and {x y : Nat} : lN x &&& lN y = lN (fAnd x y) := by
  apply Int64.toBitVec_inj.mp
  rw [Int64.toBitVec_and]
  apply BitVec.eq_of_toNat_eq
  show (BitVec.ofNat 64 x &&& BitVec.ofNat 64 y).toNat = (BitVec.ofNat 64 (x &&& y)).toNat
  rw [BitVec.toNat_and, BitVec.toNat_ofNat, BitVec.toNat_ofNat, BitVec.toNat_ofNat, Nat.and_mod_two_pow]
theorem ml_or {x y : Nat} : lN x ||| lN y = lN (fOr x y) := by
  apply Int64.toBitVec_inj.mp
  rw [Int64.toBitVec_or]
  apply BitVec.eq_of_toNat_eq
  show (BitVec.ofNat 64 x ||| BitVec.ofNat 64 y).toNat = (BitVec.ofNat 64 (x ||| y)).toNat
  rw [BitVec.toNat_or, BitVec.toNat_ofNat, BitVec.toNat_ofNat, BitVec.toNat_ofNat, Nat.or_mod_two_pow]
theorem ml_int {x y : Int64} (h : x.toInt = y.toInt) : x = y := Int64.toInt_inj.mp h
theorem ml_div {x y : Nat} (h : aDl x y = true) : ¬ lN y = 0 ∧ lN x / lN y = lN (fDiv x y) ∧ fDiv x y < 18446744073709551616 ∧ lN x - lN x / lN y * lN y = lN (fRem x y) ∧ fRem x y < 18446744073709551616 := by
  unfold aDl at h
  have h1 : ¬ Nat.ble y 0 = true := fun q => by rw [q] at h; cases h
  rw [Bool.eq_false_iff.mpr h1] at h
  have h2 : ¬ Nat.ble 9223372036854775808 y = true := fun q => by rw [q] at h; cases h
  rw [Bool.eq_false_iff.mpr h2] at h
  have h3 : x ≤ 9223372036854775807 := Nat.le_of_ble_eq_true h
  have h4 : 0 < y := Nat.not_le.mp (fun q => h1 (Nat.ble_eq_true_of_le q))
  have h5 : y < 9223372036854775808 := Nat.not_le.mp (fun q => h2 (Nat.ble_eq_true_of_le q))
  have l1 : x / y ≤ x := Nat.div_le_self _ _
  have l2 : x % y ≤ x := Nat.mod_le _ _
  refine ⟨fun q => ?_, pk_lDiv (show x < 2 ^ 63 by omega) h4 h5, by show x / y < _; omega, pk_lRem (show x < 2 ^ 63 by omega) h4 h5, by show x % y < _; omega⟩
  have := (lN_inj9 (a := y) (b := 0) (by omega) (by decide)).mp q
  omega
theorem m_i2l {x : Nat} (hx : x < 4294967296) : (nI x).toInt64 = lN (fI2l x) ∧ fI2l x < 18446744073709551616 := by
  by_cases h : x < 2147483648
  · have hf : fI2l x = x := by
      unfold fI2l
      rw [show Nat.ble 2147483648 x = false from Bool.eq_false_iff.mpr (fun q => absurd (Nat.le_of_ble_eq_true q) (by omega))]
    rw [hf]
    exact ⟨nI_l h, by omega⟩
  · have hf : fI2l x = x + 18446744069414584320 := by
      unfold fI2l
      rw [show Nat.ble 2147483648 x = true from Nat.ble_eq_true_of_le (by omega)]
    rw [hf]
    refine ⟨ml_int ?_, by omega⟩
    rw [Int32.toInt_toInt64, nI_ti hx, if_neg h, lN_ti9 (by omega), if_neg (by omega)]
    omega
theorem m_l2i (x : Nat) : (lN x).toInt32 = nI (Nat.mod x 4294967296) := by
  rw [lN_i]; exact (nI_mod _).symm
theorem m_lcmp_lt {x y : Nat} (hx : x < 18446744073709551616) (hy : y < 18446744073709551616) : lN x < lN y ↔ sL x < sL y := by
  rw [Int64.lt_iff_toInt_lt, lN_ti9 hx, lN_ti9 hy, m_sL hx, m_sL hy]
  split <;> split <;> omega
theorem m_63 {y : Nat} (hy : y < 4294967296) : (nI y).toInt64 &&& 63 = lN (y % 64) := by
  obtain ⟨e, hl⟩ := m_i2l hy
  rw [e, show (63 : Int64) = lN 63 from rfl, ml_and]
  congr 1
  show fI2l y &&& (2 ^ 6 - 1) = y % 64
  rw [Nat.and_two_pow_sub_one_eq_mod]
  unfold fI2l
  cases Nat.ble 2147483648 y
  · rfl
  · show (y + 18446744069414584320) % 64 = y % 64
    omega
theorem m_smodL : ∀ j, j < 64 → ((lN j).toBitVec.smod 64).toNat = j := by decide +kernel
theorem ml_shl {x y : Nat} (hx : x < 18446744073709551616) (hy : y < 4294967296) : lN x <<< ((nI y).toInt64 &&& 63) = lN (fLshl x y) ∧ fLshl x y < 18446744073709551616 := by
  rw [m_63 hy]
  refine ⟨?_, Nat.mod_lt _ (by decide)⟩
  apply Int64.toBitVec_inj.mp
  apply BitVec.eq_of_toNat_eq
  show ((lN x).toBitVec <<< ((lN (y % 64)).toBitVec.smod 64).toNat).toNat = (lN ((x <<< (y % 64)) % 18446744073709551616)).toBitVec.toNat
  rw [m_smodL _ (Nat.mod_lt _ (by decide)), BitVec.toNat_shiftLeft, lN_bvn hx, lN_bvn (Nat.mod_lt _ (by decide))]
theorem ml_shr {x y : Nat} (hx : x < 18446744073709551616) (hy : y < 4294967296) : lN x >>> ((nI y).toInt64 &&& 63) = lN (fLshr x y) ∧ fLshr x y < 18446744073709551616 := by
  rw [m_63 hy]
  have hk : y % 64 < 64 := Nat.mod_lt _ (by decide)
  generalize hj : y % 64 = j at hk
  have e : (lN x >>> lN j).toInt = (lN x).toInt >>> j := by
    show ((lN x).toBitVec.sshiftRight ((lN j).toBitVec.smod 64).toNat).toInt = _
    rw [m_smodL _ hk, BitVec.toInt_sshiftRight]
    rfl
  by_cases h : x < 9223372036854775808
  · have hf : fLshr x y = x >>> j := by
      unfold fLshr
      rw [show Nat.ble 9223372036854775808 x = false from Bool.eq_false_iff.mpr (fun q => absurd (Nat.le_of_ble_eq_true q) (by omega)), show Nat.mod y 64 = j from hj]
      rfl
    have hl : x >>> j ≤ x := by rw [Nat.shiftRight_eq_div_pow]; exact Nat.div_le_self _ _
    refine ⟨ml_int ?_, by rw [hf]; omega⟩
    rw [e, hf, lN_ti9 hx, if_pos h, lN_ti9 (by omega), if_pos (by omega)]
    rfl
  · have hf : fLshr x y = 18446744073709551615 - (18446744073709551615 - x) >>> j := by
      unfold fLshr
      rw [show Nat.ble 9223372036854775808 x = true from Nat.ble_eq_true_of_le (by omega), show Nat.mod y 64 = j from hj]
      rfl
    have hl : (18446744073709551615 - x) >>> j ≤ 18446744073709551615 - x := by rw [Nat.shiftRight_eq_div_pow]; exact Nat.div_le_self _ _
    have e2 : ((x : Int) - 18446744073709551616) >>> j = Int.negSucc ((18446744073709551615 - x) >>> j) := by rw [show (x : Int) - 18446744073709551616 = Int.negSucc (18446744073709551615 - x) by omega]; rfl
    generalize (18446744073709551615 - x) >>> j = z at hf hl e2
    refine ⟨ml_int ?_, by rw [hf]; omega⟩
    rw [e, hf, lN_ti9 hx, if_neg h, lN_ti9 (by omega), if_neg (by omega), e2]
    omega
theorem ml_ush {x y : Nat} (hx : x < 18446744073709551616) (hy : y < 4294967296) : ((lN x).toUInt64 >>> ((nI y).toInt64.toUInt64 &&& Int64.toUInt64 63)).toInt64 = lN (fLush x y) ∧ fLush x y < 18446744073709551616 := by
  have hl : fLush x y ≤ x := by show x >>> (y % 64) ≤ x; rw [Nat.shiftRight_eq_div_pow]; exact Nat.div_le_self _ _
  refine ⟨?_, by omega⟩
  have h63 : ((nI y).toInt64 &&& 63).toBitVec.toNat = y % 64 := by rw [m_63 hy, lN_bvn (by omega)]
  have hs : (((nI y).toInt64.toUInt64 &&& Int64.toUInt64 63).toBitVec % 64).toNat = y % 64 := by
    show (((nI y).toInt64 &&& 63).toBitVec % 64).toNat = y % 64
    rw [BitVec.toNat_umod, h63]
    exact Nat.mod_mod _ _
  have e : ((lN x).toUInt64 >>> ((nI y).toInt64.toUInt64 &&& Int64.toUInt64 63)).toInt64.toBitVec = (lN x).toBitVec >>> (y % 64) := by
    rw [← hs]
    exact UInt64.toBitVec_shiftRight _ _
  apply Int64.toBitVec_inj.mp
  apply BitVec.eq_of_toNat_eq
  rw [e, BitVec.toNat_ushiftRight, lN_bvn hx, lN_bvn (by omega)]
  rfl
theorem ml_cmp {x y : Nat} (hx : x < 18446744073709551616) (hy : y < 18446744073709551616) : lg_cmp (lN x) (lN y) = nI (fLcmp x y) ∧ fLcmp x y < 4294967296 := by
  have q1 := m_lcmp_lt hy hx
  have q2 := lN_inj9 hx hy
  have u1 := m_sL hx
  have u2 := m_sL hy
  unfold lg_cmp fLcmp
  by_cases c1 : x = y
  · have hb : Nat.beq x y = true := by subst c1; exact Nat.beq_refl x
    rw [hb, if_neg (fun h => absurd (q1.mp h) (by subst c1; omega)), if_pos (q2.mpr c1)]
    exact ⟨rfl, (by decide : 0 < 4294967296)⟩
  · have hb : Nat.beq x y = false := Bool.eq_false_iff.mpr (fun h => c1 (Nat.eq_of_beq_eq_true h))
    rw [hb]
    by_cases c2 : sL y < sL x
    · rw [if_pos (q1.mpr c2), show Nat.ble (sL y) (sL x) = true from Nat.ble_eq_true_of_le (by omega)]
      exact ⟨rfl, by decide⟩
    · have hne : sL x ≠ sL y := by
        rw [u1, u2]
        split <;> split <;> omega
      rw [if_neg (fun h => c2 (q1.mp h)), if_neg (fun h => c1 (q2.mp h)), show Nat.ble (sL y) (sL x) = false from Bool.eq_false_iff.mpr (fun h => absurd (Nat.le_of_ble_eq_true h) (by omega))]
      exact ⟨rfl, by decide⟩
end
section
-- ===== what the interpreter's things are in the machine =====
-- the good words of the tables
def rTG : List Cond := lw_tbl.filter goodWord
theorem rTG_good : ∀ {ws : List Cond}, (∀ w ∈ ws, w ∈ rTG) → GoodIn rTG ws := fun h w hw => ⟨h w hw, good_of_word (List.mem_filter.mp (h w hw)).2⟩
-- a method: its name, code, locals, answer, table
abbrev rM : Type := MethodName × ByteArray × Nat × Option FieldType × Option (List (Nat × Nat × Nat × Nat))
abbrev rMy (M : rM) : MethodName := M.1
abbrev rMc_ (M : rM) : ByteArray := M.2.1
abbrev rMl (M : rM) : Nat := M.2.2.1
abbrev rMr (M : rM) : Option FieldType := M.2.2.2.1
abbrev rMh (M : rM) : Option (List (Nat × Nat × Nat × Nat)) := M.2.2.2.2
-- a world: the cells from b0 on are its own; what lies below; which number a class and a field's place has; the script's and the lists' first array's addresses; the script; classes and array types by number
abbrev rW : Type := Nat × Heap × va_G × Nat × Nat × List rV
abbrev wB (w : rW) : Nat := w.1
abbrev wH (w : rW) : Heap := w.2.1
abbrev wD (w : rW) : va_G := w.2.2.1
abbrev wE (w : rW) : Nat := w.2.2.2.1
abbrev wF (w : rW) : Nat := w.2.2.2.2.1
abbrev wS (w : rW) : List rV := w.2.2.2.2.2
abbrev hN (h : rH) : Nat := h.2.1
abbrev hC (h : rH) : Nat := h.2.2.1
abbrev hL (h : rH) : Nat := h.2.2.2.1
def rVi (x : rV) (y : Int32) : Prop := match x with
  | .inl k => k < 4294967296 ∧ y = nI k
  | .inr (.inr (.inr (a, b))) => (∃ t, t < 4294967296 ∧ y = nI t ∧ a ≤ t ∧ t ≤ b) ∨ (4294967296 ≤ b ∧ a < 8589934592 ∧ ∃ t, t < 4294967296 ∧ y = nI t ∧ a = t % 64 + 4294967296)
  | _ => False
def rVal (w : rW) (ad : Nat → Nat) (n : Nat) (x : rV) (v : Value) : Prop := match x with
  | .inl k => k < 4294967296 ∧ v = .int (nI k)
  | .inr (.inl k) => (k = 0 ∧ v = .null) ∨ (k = 8192 ∧ v = .ref (wE w)) ∨ (k = 16384 ∧ v = .ref (wF w)) ∨ (0 < k ∧ k < n ∧ v = .ref (ad k))
  | .inr (.inr (.inl k)) => k < 18446744073709551616 ∧ v = .long (lN k)
  | .inr (.inr (.inr (a, b))) => (∃ y : Int32, v = .int y ∧ rVi (vX a b) y) ∨ (a = 17179869184 ∧ v = .double (UInt64.ofNat b))
def rExt (n : Nat) (ad ad' : Nat → Nat) : Prop := ∀ k, k < n → ad' k = ad k
theorem rExt.rf {n : Nat} {ad : Nat → Nat} : rExt n ad ad := fun _ _ => rfl
theorem rExt.tr {n n' : Nat} {a b c : Nat → Nat} (h : rExt n a b) (h2 : rExt n' b c) (hn : n ≤ n') : rExt n a c := fun k hk => (h2 k (by omega)).trans (h k hk)
section REL
variable {w : rW} {ad ad' : Nat → Nat} {n n' : Nat}
theorem rVal.mono {x : rV} {v : Value} (h : rVal w ad n x v) (hn : n ≤ n') (he : rExt n ad ad') : rVal w ad' n' x v := by
  rcases x with k | k | k | ⟨a, b⟩
  · exact h
  · rcases h with h | h | h | ⟨h1, h2, h3⟩
    · exact Or.inl h
    · exact Or.inr (Or.inl h)
    · exact Or.inr (Or.inr (Or.inl h))
    · exact Or.inr (Or.inr (Or.inr ⟨h1, by omega, by rw [he k h2]; exact h3⟩))
  · exact h
  · exact h
theorem rVal.i {k : Nat} {v : Value} (h : rVal w ad n (vI k) v) : k < 4294967296 ∧ v = .int (nI k) := h
theorem rVal.l {k : Nat} {v : Value} (h : rVal w ad n (vL k) v) : k < 18446744073709551616 ∧ v = .long (lN k) := h
theorem rVal.r {k : Nat} {v : Value} (h : rVal w ad n (vR k) v) : (k = 0 ∧ v = .null) ∨ (k = 8192 ∧ v = .ref (wE w)) ∨ (k = 16384 ∧ v = .ref (wF w)) ∨ (0 < k ∧ k < n ∧ v = .ref (ad k)) := h
-- an int that isn't known
theorem rVal.xi {a b : Nat} {v : Value} (h : rVal w ad n (vX a b) v) (ha : a ≠ 17179869184) : ∃ y : Int32, v = .int y ∧ rVi (vX a b) y := by
  rcases h with h | ⟨h, -⟩
  · exact h
  · exact absurd h ha
theorem rVi.lim {a b : Nat} {y : Int32} (h : rVi (vX a b) y) : a < 8589934592 := by
  rcases h with ⟨t, h1, -, h2, -⟩ | ⟨-, h, -⟩
  · omega
  · exact h
-- between two numbers
theorem rVal.iv {p q : Nat} {v : Value} (h : rVal w ad n (vX p q) v) (hpq : p ≤ q) (hq : q < 4294967296) : ∃ t, t < 4294967296 ∧ v = .int (nI t) ∧ p ≤ t ∧ t ≤ q := by
  obtain ⟨y, e, h2⟩ := h.xi (by omega)
  subst e
  rcases h2 with ⟨t, h1, e2, h3, h4⟩ | ⟨h5, -⟩
  · exact ⟨t, h1, by rw [e2], h3, h4⟩
  · omega
theorem rVal.mk {p q t : Nat} (ht : t < 4294967296) (h1 : p ≤ t) (h2 : t ≤ q) : rVal w ad n (vX p q) (.int (nI t)) := Or.inl ⟨_, rfl, Or.inl ⟨t, ht, rfl, h1, h2⟩⟩
theorem rVal.d {a b : Nat} {v : Value} (h : rVal w ad n (vX a b) v) (ha : a = 17179869184) : v = .double (UInt64.ofNat b) := by
  rcases h with ⟨y, -, h⟩ | ⟨-, h⟩
  · have := h.lim; omega
  · exact h
theorem rVal.int {x : rV} {v : Value} (h : rVal w ad n x v) (hx : (∃ k, x = vI k) ∨ ∃ a b, x = vX a b ∧ a < 8589934592) : ∃ y : Int32, v = .int y ∧ rVi x y := by
  rcases hx with ⟨k, rfl⟩ | ⟨a, b, rfl, hl⟩
  · exact ⟨_, h.i.2, h.i.1, rfl⟩
  · exact h.xi (by omega)
theorem rVi.val {x : rV} {y : Int32} (h : rVi x y) : rVal w ad n x (.int y) := by
  rcases x with k | k | k | ⟨a, b⟩
  · exact ⟨h.1, by rw [h.2]⟩
  · exact h.elim
  · exact h.elim
  · exact Or.inl ⟨y, rfl, h⟩
theorem rC2_X (a b : Nat) : rC2 (vX a b) = Nat.beq a 17179869184 := rfl
theorem rVal.cat {x : rV} {v : Value} (h : rVal w ad n x v) : (rC2 x = true ∧ v.category = 2) ∨ (rC2 x = false ∧ v.category = 1) := by
  rcases x with k | k | k | ⟨a, b⟩
  · exact Or.inr ⟨rfl, by rw [h.i.2]; rfl⟩
  · refine Or.inr ⟨rfl, ?_⟩
    rcases h with ⟨-, h⟩ | ⟨-, h⟩ | ⟨-, h⟩ | ⟨-, -, h⟩ <;> (rw [h]; rfl)
  · exact Or.inl ⟨rfl, by rw [h.l.2]; rfl⟩
  · rw [show rC2 (.inr (.inr (.inr (a, b)))) = Nat.beq a 17179869184 from rC2_X a b]
    rcases h with ⟨y, e, h2⟩ | ⟨h2, e⟩
    · have hl := h2.lim
      rw [e]
      refine Or.inr ⟨Bool.eq_false_iff.mpr (fun q => ?_), rfl⟩
      have := Nat.eq_of_beq_eq_true q
      omega
    · rw [h2, e]
      exact Or.inl ⟨Nat.beq_refl _, rfl⟩
theorem rVal.c1 {x : rV} {v : Value} (h : rVal w ad n x v) (hc : rC2 x = false) : v.category = 1 := by
  rcases h.cat with ⟨h1, -⟩ | ⟨-, h2⟩
  · rw [hc] at h1; cases h1
  · exact h2
theorem rVal.c2 {x : rV} {v : Value} (h : rVal w ad n x v) (hc : rC2 x = true) : v.category = 2 := by
  rcases h.cat with ⟨-, h1⟩ | ⟨h2, -⟩
  · exact h1
  · rw [hc] at h2; cases h2
-- the stack
def rStk (w : rW) (ad : Nat → Nat) (n : Nat) : List rV → List Value → Prop
  | [], [] => True
  | x :: S, v :: st => rVal w ad n x v ∧ rStk w ad n S st
  | _, _ => False
theorem rStk.cons {x : rV} {S : List rV} {st : List Value} (h : rStk w ad n (x :: S) st) : ∃ v st', st = v :: st' ∧ rVal w ad n x v ∧ rStk w ad n S st' := by
  cases st with
  | nil => exact h.elim
  | cons v st' => exact ⟨v, st', rfl, h.1, h.2⟩
theorem rStk.nil {st : List Value} (h : rStk w ad n [] st) : st = [] := by
  cases st with
  | nil => rfl
  | cons v st' => exact h.elim
theorem rStk.mono : ∀ {S : List rV} {st : List Value}, rStk w ad n S st → n ≤ n' → rExt n ad ad' → rStk w ad' n' S st
  | [], [], _, _, _ => trivial
  | _ :: _, _ :: _, h, hn, he => ⟨h.1.mono hn he, h.2.mono hn he⟩
  | [], _ :: _, h, _, _ => h.elim
  | _ :: _, [], h, _, _ => h.elim
-- the locals
def rLoc (w : rW) (ad : Nat → Nat) (n : Nat) (L : List rV) (lv : List (Nat × Value)) : Prop := ∀ i, L.getD i vU = vU ∨ ∃ v, (i, v) ∈ lv ∧ rVal w ad n (L.getD i vU) v
theorem rLoc.mono {L : List rV} {lv : List (Nat × Value)} (h : rLoc w ad n L lv) (hn : n ≤ n') (he : rExt n ad ad') : rLoc w ad' n' L lv := fun i => (h i).imp id (fun ⟨v, h1, h2⟩ => ⟨v, h1, h2.mono hn he⟩)
theorem vU_no {v : Value} (h : rVal w ad n vU v) : False := by
  rcases h with ⟨y, -, h⟩ | ⟨h, -⟩
  · have := h.lim; omega
  · omega
theorem rLoc.get {L : List rV} {lv : List (Nat × Value)} (h : rLoc w ad n L lv) {ls : Array Slot} {nL : Nat} (hl : lv_has ls nL lv) {i : Nat} {x : rV} (hx : L.getD i vU = x) (hne : x ≠ vU) : ∃ v, ls[i]? = some (.val v) ∧ (i, v) ∈ lv ∧ rVal w ad n x v := by
  rcases h i with h | ⟨v, h1, h2⟩
  · exact absurd (hx.symm.trans h) hne
  · exact ⟨v, hl.2.2 _ h1, h1, by rw [← hx]; exact h2⟩
theorem rDj_val {x : rV} {v : Value} (h : rVal w ad n x v) : rDj x = vU ∨ (rDj x = x ∧ v.category = 1) := by
  unfold rDj
  rcases h.cat with ⟨h1, -⟩ | ⟨h1, h2⟩
  · rw [h1]; exact Or.inl rfl
  · rw [h1]; exact Or.inr ⟨rfl, h2⟩
theorem rLoc.set1 {L : List rV} {lv : List (Nat × Value)} (h : rLoc w ad n L lv) {i : Nat} {s : rV → List rV → List rV} (hs : sOk i s) {x : rV} {v : Value} (hv : rVal w ad n x v) :
    rLoc w ad n (s x L) ((i, v) :: lv.filter (fun q => !(q.1 == i) && !(q.1 + 1 == i && q.2.category == 2))) := by
  intro j
  rw [hs x L j]
  by_cases c1 : j = i
  · rw [if_pos c1, c1]
    exact Or.inr ⟨v, List.mem_cons_self, hv⟩
  · rw [if_neg c1]
    by_cases c2 : j + 1 = i
    · rw [if_pos c2]
      rcases h j with hj | ⟨u, h1, h2⟩
      · rw [hj]; exact Or.inl rDj_U
      · rcases rDj_val h2 with e | ⟨e, hc⟩
        · exact Or.inl e
        · rw [e]
          refine Or.inr ⟨u, List.mem_cons_of_mem _ (List.mem_filter.mpr ⟨h1, ?_⟩), h2⟩
          simp [c1, hc]
    · rw [if_neg c2]
      rcases h j with hj | ⟨u, h1, h2⟩
      · exact Or.inl hj
      · refine Or.inr ⟨u, List.mem_cons_of_mem _ (List.mem_filter.mpr ⟨h1, ?_⟩), h2⟩
        simp [c1, c2]
theorem rLoc.set2 {L : List rV} {lv : List (Nat × Value)} (h : rLoc w ad n L lv) {i : Nat} {s : rV → List rV → List rV} (hs : dOk i s) {x : rV} {v : Value} (hv : rVal w ad n x v) :
    rLoc w ad n (s x L) ((i, v) :: lv.filter (fun q => !(q.1 == i) && (!(q.1 == i + 1) && !(q.1 + 1 == i && q.2.category == 2)))) := by
  intro j
  rw [hs x L j]
  by_cases c1 : j = i
  · rw [if_pos c1, c1]
    exact Or.inr ⟨v, List.mem_cons_self, hv⟩
  · rw [if_neg c1]
    by_cases c3 : j = i + 1
    · rw [if_pos c3]; exact Or.inl rfl
    · rw [if_neg c3]
      by_cases c2 : j + 1 = i
      · rw [if_pos c2]
        rcases h j with hj | ⟨u, h1, h2⟩
        · rw [hj]; exact Or.inl rDj_U
        · rcases rDj_val h2 with e | ⟨e, hc⟩
          · exact Or.inl e
          · rw [e]
            refine Or.inr ⟨u, List.mem_cons_of_mem _ (List.mem_filter.mpr ⟨h1, ?_⟩), h2⟩
            simp [c1, c3, hc]
      · rw [if_neg c2]
        rcases h j with hj | ⟨u, h1, h2⟩
        · exact Or.inl hj
        · refine Or.inr ⟨u, List.mem_cons_of_mem _ (List.mem_filter.mpr ⟨h1, ?_⟩), h2⟩
          simp [c1, c2, c3]
end REL
end
section
-- the classes whose objects the heap holds: fields in the order of their slots
def kT0 : u_T := fun k => match k with
  | 0 => ("WordWright", "languages", "[LWordWright$Language;", true)
  | 1 => ("WordWright", "languageCount", "I", false)
  | 2 => ("WordWright", "machines", "[LWordWright$Machine;", true)
  | 3 => ("WordWright", "machineCount", "I", false)
  | 4 => ("WordWright", "built", "LWordWright$Language;", true)
  | 5 => ("WordWright", "ways", "[I", true)
  | 6 => ("WordWright", "workshop", "LWordWright$Workshop;", true)
  | 7 => ("WordWright", "search", "LWordWright$Search;", true)
  | 8 => ("WordWright", "writings", "LWordWright$Writings;", true)
  | 9 => ("WordWright", "equations", "LWordWright$Equations;", true)
  | 10 => ("WordWright", "solver", "LWordWright$Solver;", true)
  | 11 => ("WordWright", "schemas", "LWordWright$Schemas;", true)
  | _ => ("WordWright", "program", "LWordWright$Program;", true)
def kY0 : Nat → FieldType := fun k => match k with
  | 0 => .array (.object "WordWright$Language")
  | 1 => .int
  | 2 => .array (.object "WordWright$Machine")
  | 3 => .int
  | 4 => .object "WordWright$Language"
  | 5 => .array (.int)
  | 6 => .object "WordWright$Workshop"
  | 7 => .object "WordWright$Search"
  | 8 => .object "WordWright$Writings"
  | 9 => .object "WordWright$Equations"
  | 10 => .object "WordWright$Solver"
  | 11 => .object "WordWright$Schemas"
  | _ => .object "WordWright$Program"
def kT1 : u_T := fun k => match k with
  | 0 => ("WordWright$Draft", "count", "I", false)
  | 1 => ("WordWright$Draft", "keys", "[J", true)
  | 2 => ("WordWright$Draft", "isEnd", "[Z", true)
  | 3 => ("WordWright$Draft", "to", "[I", true)
  | 4 => ("WordWright$Draft", "places", "[I", true)
  | 5 => ("WordWright$Draft", "base", "I", false)
  | 6 => ("WordWright$Draft", "group", "[I", false)
  | 7 => ("WordWright$Draft", "finer", "[I", false)
  | 8 => ("WordWright$Draft", "signs", "[I", true)
  | 9 => ("WordWright$Draft", "samples", "[I", true)
  | 10 => ("WordWright$Draft", "order", "[I", true)
  | _ => ("WordWright$Draft", "numbers", "[I", true)
def kY1 : Nat → FieldType := fun k => match k with
  | 0 => .int
  | 1 => .array (.long)
  | 2 => .array (.boolean)
  | 3 => .array (.int)
  | 4 => .array (.int)
  | 5 => .int
  | 6 => .array (.int)
  | 7 => .array (.int)
  | 8 => .array (.int)
  | 9 => .array (.int)
  | 10 => .array (.int)
  | _ => .array (.int)
def kT2 : u_T := fun k => match k with
  | 0 => ("WordWright$Equations", "language", "[I", true)
  | 1 => ("WordWright$Equations", "most", "[I", true)
  | 2 => ("WordWright$Equations", "count", "I", false)
  | 3 => ("WordWright$Equations", "symbols", "[I", true)
  | 4 => ("WordWright$Equations", "lengths", "[I", true)
  | 5 => ("WordWright$Equations", "isSolved", "Z", false)
  | 6 => ("WordWright$Equations", "found", "I", false)
  | _ => ("WordWright$Equations", "first", "[I", true)
def kY2 : Nat → FieldType := fun k => match k with
  | 0 => .array (.int)
  | 1 => .array (.int)
  | 2 => .int
  | 3 => .array (.int)
  | 4 => .array (.int)
  | 5 => .boolean
  | 6 => .int
  | _ => .array (.int)
def kT3 : u_T := fun k => match k with
  | 0 => ("WordWright$Language", "size", "I", false)
  | 1 => ("WordWright$Language", "ends", "I", false)
  | _ => ("WordWright$Language", "to", "[I", true)
def kY3 : Nat → FieldType := fun k => match k with
  | 0 => .int
  | 1 => .int
  | _ => .array (.int)
def kT4 : u_T := fun k => match k with
  | 0 => ("WordWright$Machine", "arcs", "I", false)
  | 1 => ("WordWright$Machine", "ends", "I", false)
  | 2 => ("WordWright$Machine", "from", "[I", true)
  | 3 => ("WordWright$Machine", "read", "[I", true)
  | 4 => ("WordWright$Machine", "to", "[I", true)
  | _ => ("WordWright$Machine", "wrote", "[I", true)
def kY4 : Nat → FieldType := fun k => match k with
  | 0 => .int
  | 1 => .int
  | 2 => .array (.int)
  | 3 => .array (.int)
  | 4 => .array (.int)
  | _ => .array (.int)
def kT5 : u_T := fun k => match k with
  | 0 => ("WordWright$Program", "count", "I", false)
  | 1 => ("WordWright$Program", "sorts", "[I", true)
  | 2 => ("WordWright$Program", "as", "[I", true)
  | 3 => ("WordWright$Program", "bs", "[I", true)
  | 4 => ("WordWright$Program", "cs", "[I", true)
  | 5 => ("WordWright$Program", "came", "[Z", true)
  | 6 => ("WordWright$Program", "spans", "[LWordWright$Language;", true)
  | 7 => ("WordWright$Program", "rounds", "I", false)
  | 8 => ("WordWright$Program", "isSeen", "Z", false)
  | 9 => ("WordWright$Program", "passed", "[LWordWright$Language;", true)
  | 10 => ("WordWright$Program", "whole", "LWordWright$Language;", true)
  | _ => ("WordWright$Program", "merged", "LWordWright$Language;", true)
def kY5 : Nat → FieldType := fun k => match k with
  | 0 => .int
  | 1 => .array (.int)
  | 2 => .array (.int)
  | 3 => .array (.int)
  | 4 => .array (.int)
  | 5 => .array (.boolean)
  | 6 => .array (.object "WordWright$Language")
  | 7 => .int
  | 8 => .boolean
  | 9 => .array (.object "WordWright$Language")
  | 10 => .object "WordWright$Language"
  | _ => .object "WordWright$Language"
def kT6 : u_T := fun k => match k with
  | 0 => ("WordWright$Schemas", "count", "I", false)
  | 1 => ("WordWright$Schemas", "content", "[I", true)
  | 2 => ("WordWright$Schemas", "nodes", "I", false)
  | 3 => ("WordWright$Schemas", "parents", "[I", true)
  | 4 => ("WordWright$Schemas", "letters", "[I", true)
  | 5 => ("WordWright$Schemas", "weights", "[I", true)
  | 6 => ("WordWright$Schemas", "distances", "[I", true)
  | _ => ("WordWright$Schemas", "copier", "LWordWright$Machine;", true)
def kY6 : Nat → FieldType := fun k => match k with
  | 0 => .int
  | 1 => .array (.int)
  | 2 => .int
  | 3 => .array (.int)
  | 4 => .array (.int)
  | 5 => .array (.int)
  | 6 => .array (.int)
  | _ => .object "WordWright$Machine"
def kT7 : u_T := fun k => match k with
  | 0 => ("WordWright$Search", "copier", "LWordWright$Machine;", true)
  | 1 => ("WordWright$Search", "nothing", "LWordWright$Language;", true)
  | 2 => ("WordWright$Search", "words", "[I", true)
  | 3 => ("WordWright$Search", "queue", "[I", true)
  | 4 => ("WordWright$Search", "queued", "I", false)
  | 5 => ("WordWright$Search", "leads", "[I", true)
  | _ => ("WordWright$Search", "rounds", "[I", true)
def kY7 : Nat → FieldType := fun k => match k with
  | 0 => .object "WordWright$Machine"
  | 1 => .object "WordWright$Language"
  | 2 => .array (.int)
  | 3 => .array (.int)
  | 4 => .int
  | 5 => .array (.int)
  | _ => .array (.int)
def kT8 : u_T := fun k => match k with
  | 0 => ("WordWright$Solver", "found", "I", false)
  | 1 => ("WordWright$Solver", "first", "[I", true)
  | 2 => ("WordWright$Solver", "allowed", "[I", true)
  | 3 => ("WordWright$Solver", "length", "[I", true)
  | 4 => ("WordWright$Solver", "ties", "[I", true)
  | 5 => ("WordWright$Solver", "spelled", "[I", true)
  | 6 => ("WordWright$Solver", "team", "[I", true)
  | 7 => ("WordWright$Solver", "open", "[I", true)
  | 8 => ("WordWright$Solver", "opened", "I", false)
  | 9 => ("WordWright$Solver", "values", "[I", true)
  | _ => ("WordWright$Solver", "guess", "[I", true)
def kY8 : Nat → FieldType := fun k => match k with
  | 0 => .int
  | 1 => .array (.int)
  | 2 => .array (.int)
  | 3 => .array (.int)
  | 4 => .array (.int)
  | 5 => .array (.int)
  | 6 => .array (.int)
  | 7 => .array (.int)
  | 8 => .int
  | 9 => .array (.int)
  | _ => .array (.int)
def kT9 : u_T := fun k => match k with
  | _ => ("WordWright$Workshop", "draft", "LWordWright$Draft;", true)
def kY9 : Nat → FieldType := fun k => match k with
  | _ => .object "WordWright$Draft"
def kT10 : u_T := fun k => match k with
  | _ => ("WordWright$Writings", "states", "[I", true)
def kY10 : Nat → FieldType := fun k => match k with
  | _ => .array (.int)
def kT11 : u_T := fun k => match k with
  | 0 => ("WordWrightModel", "thrown", "I", false)
  | 1 => ("WordWrightModel", "all", "LWordWrightModel$Dfa;", true)
  | 2 => ("WordWrightModel", "languages", "Ljava/util/List;", true)
  | 3 => ("WordWrightModel", "machines", "Ljava/util/List;", true)
  | 4 => ("WordWrightModel", "equations", "LWordWrightModel$Equations;", true)
  | 5 => ("WordWrightModel", "schemas", "Ljava/util/List;", true)
  | 6 => ("WordWrightModel", "letters", "[I", true)
  | 7 => ("WordWrightModel", "parents", "[I", true)
  | 8 => ("WordWrightModel", "nodes", "I", false)
  | _ => ("WordWrightModel", "steps", "Ljava/util/List;", true)
def kY11 : Nat → FieldType := fun k => match k with
  | 0 => .int
  | 1 => .object "WordWrightModel$Dfa"
  | 2 => .object "java/util/List"
  | 3 => .object "java/util/List"
  | 4 => .object "WordWrightModel$Equations"
  | 5 => .object "java/util/List"
  | 6 => .array (.int)
  | 7 => .array (.int)
  | 8 => .int
  | _ => .object "java/util/List"
def kT12 : u_T := fun k => match k with
  | 0 => ("WordWrightModel$1", "val$kind", "I", true)
  | _ => ("WordWrightModel$1", "val$a", "I", true)
def kY12 : Nat → FieldType := fun k => match k with
  | 0 => .int
  | _ => .int
def kT13 : u_T := fun k => match k with
  | 0 => ("WordWrightModel$2", "val$a", "LWordWrightModel$Dfa;", true)
  | 1 => ("WordWrightModel$2", "val$b", "LWordWrightModel$Dfa;", true)
  | _ => ("WordWrightModel$2", "val$kind", "I", true)
def kY13 : Nat → FieldType := fun k => match k with
  | 0 => .object "WordWrightModel$Dfa"
  | 1 => .object "WordWrightModel$Dfa"
  | _ => .int
def kT14 : u_T := fun k => match k with
  | 0 => ("WordWrightModel$3", "val$a", "LWordWrightModel$Dfa;", true)
  | _ => ("WordWrightModel$3", "val$b", "LWordWrightModel$Dfa;", true)
def kY14 : Nat → FieldType := fun k => match k with
  | 0 => .object "WordWrightModel$Dfa"
  | _ => .object "WordWrightModel$Dfa"
def kT15 : u_T := fun k => match k with
  | _ => ("WordWrightModel$4", "val$a", "LWordWrightModel$Dfa;", true)
def kY15 : Nat → FieldType := fun k => match k with
  | _ => .object "WordWrightModel$Dfa"
def kT16 : u_T := fun k => match k with
  | _ => ("WordWrightModel$5", "val$a", "LWordWrightModel$Dfa;", true)
def kY16 : Nat → FieldType := fun k => match k with
  | _ => .object "WordWrightModel$Dfa"
def kT17 : u_T := fun k => match k with
  | 0 => ("WordWrightModel$6", "val$a", "LWordWrightModel$Dfa;", true)
  | _ => ("WordWrightModel$6", "val$live", "[Z", true)
def kY17 : Nat → FieldType := fun k => match k with
  | 0 => .object "WordWrightModel$Dfa"
  | _ => .array (.boolean)
def kT18 : u_T := fun k => match k with
  | 0 => ("WordWrightModel$9", "val$a", "LWordWrightModel$Dfa;", true)
  | _ => ("WordWrightModel$9", "val$b", "LWordWrightModel$Dfa;", true)
def kY18 : Nat → FieldType := fun k => match k with
  | 0 => .object "WordWrightModel$Dfa"
  | _ => .object "WordWrightModel$Dfa"
def kT19 : u_T := fun k => match k with
  | 0 => ("WordWrightModel$Dfa", "n", "I", true)
  | 1 => ("WordWrightModel$Dfa", "next", "[I", true)
  | _ => ("WordWrightModel$Dfa", "ends", "[Z", true)
def kY19 : Nat → FieldType := fun k => match k with
  | 0 => .int
  | 1 => .array (.int)
  | _ => .array (.boolean)
def kT20 : u_T := fun k => match k with
  | 0 => ("WordWrightModel$Equations", "all", "Ljava/util/List;", true)
  | 1 => ("WordWrightModel$Equations", "languages", "[LWordWrightModel$Dfa;", true)
  | 2 => ("WordWrightModel$Equations", "mosts", "[I", true)
  | 3 => ("WordWrightModel$Equations", "domains", "[[I", true)
  | 4 => ("WordWrightModel$Equations", "best", "[I", false)
  | _ => ("WordWrightModel$Equations", "count", "I", false)
def kY20 : Nat → FieldType := fun k => match k with
  | 0 => .object "java/util/List"
  | 1 => .array (.object "WordWrightModel$Dfa")
  | 2 => .array (.int)
  | 3 => .array (.array (.int))
  | 4 => .array (.int)
  | _ => .int
def kT21 : u_T := fun k => match k with
  | 0 => ("WordWrightModel$Machine", "from", "[I", true)
  | 1 => ("WordWrightModel$Machine", "letter", "[I", true)
  | 2 => ("WordWrightModel$Machine", "to", "[I", true)
  | 3 => ("WordWrightModel$Machine", "out", "[I", true)
  | 4 => ("WordWrightModel$Machine", "arcs", "I", false)
  | _ => ("WordWrightModel$Machine", "finals", "I", false)
def kY21 : Nat → FieldType := fun k => match k with
  | 0 => .array (.int)
  | 1 => .array (.int)
  | 2 => .array (.int)
  | 3 => .array (.int)
  | 4 => .int
  | _ => .int
def kT22 : u_T := fun k => match k with
  | 0 => ("WordWrightModel$Spans", "spans", "[[LWordWrightModel$Dfa;", true)
  | 1 => ("WordWrightModel$Spans", "areThere", "[Z", true)
  | 2 => ("WordWrightModel$Spans", "rounds", "I", false)
  | 3 => ("WordWrightModel$Spans", "isMore", "Z", false)
  | _ => ("WordWrightModel$Spans", "this$0", "LWordWrightModel;", true)
def kY22 : Nat → FieldType := fun k => match k with
  | 0 => .array (.array (.object "WordWrightModel$Dfa"))
  | 1 => .array (.boolean)
  | 2 => .int
  | 3 => .boolean
  | _ => .object "WordWrightModel"
def kT23 : u_T := fun k => match k with
  | 0 => ("WordWrightModel$Step", "sort", "I", true)
  | 1 => ("WordWrightModel$Step", "a", "I", true)
  | 2 => ("WordWrightModel$Step", "b", "I", true)
  | _ => ("WordWrightModel$Step", "c", "I", true)
def kY23 : Nat → FieldType := fun k => match k with
  | 0 => .int
  | 1 => .int
  | 2 => .int
  | _ => .int
def kT24 : u_T := fun k => match k with
  | 0 => ("java/util/AbstractList", "modCount", "I", false)
  | 1 => ("java/util/ArrayList", "elementData", "[Ljava/lang/Object;", false)
  | _ => ("java/util/ArrayList", "size", "I", false)
def kY24 : Nat → FieldType := fun k => match k with
  | 0 => .int
  | 1 => .array (.object "java/lang/Object")
  | _ => .int
def rCls : List vw_C := [("WordWright", kT0, 13), ("WordWright$Draft", kT1, 12), ("WordWright$Equations", kT2, 8), ("WordWright$Language", kT3, 3), ("WordWright$Machine", kT4, 6), ("WordWright$Program", kT5, 12), ("WordWright$Schemas", kT6, 8), ("WordWright$Search", kT7, 7), ("WordWright$Solver", kT8, 11), ("WordWright$Workshop", kT9, 1), ("WordWright$Writings", kT10, 1), ("WordWrightModel", kT11, 10), ("WordWrightModel$1", kT12, 2), ("WordWrightModel$2", kT13, 3), ("WordWrightModel$3", kT14, 2), ("WordWrightModel$4", kT15, 1), ("WordWrightModel$5", kT16, 1), ("WordWrightModel$6", kT17, 2), ("WordWrightModel$9", kT18, 2), ("WordWrightModel$Dfa", kT19, 3), ("WordWrightModel$Equations", kT20, 6), ("WordWrightModel$Machine", kT21, 6), ("WordWrightModel$Spans", kT22, 5), ("WordWrightModel$Step", kT23, 4), ("java/util/ArrayList", kT24, 3)]
def rFts : List (Nat → FieldType) := [kY0, kY1, kY2, kY3, kY4, kY5, kY6, kY7, kY8, kY9, kY10, kY11, kY12, kY13, kY14, kY15, kY16, kY17, kY18, kY19, kY20, kY21, kY22, kY23, kY24]
def rFt (ci : Nat) : Nat → FieldType := rFts.getD ci (fun _ => .int)
def rAts : List FieldType := [.int, .boolean, .long, .object "java/lang/Object", .object "WordWrightModel$Dfa", .object "WordWright$Language", .object "WordWright$Machine", .array (.int), .array (.object "WordWrightModel$Dfa")]
def rFact (ci : Nat) (r : vw_C) : Prop := (∀ w ∈ u_ws r.1 r.2.1 r.2.2, w ∈ rTG) ∧ (∀ a, a < r.2.2 → ∀ b, b < r.2.2 → a ≠ b → (r.2.1 a).2.1 ≠ (r.2.1 b).2.1) ∧ (∀ k, k < r.2.2 → parseFieldDescriptor (r.2.1 k).2.2.1 = some (rFt ci k))
theorem rTw (i : Nat) {w : Cond} (h : tables_1[i]? = some w) (hg : goodWord w = true) : w ∈ rTG := List.mem_filter.mpr ⟨List.mem_append_right _ (List.mem_of_getElem? h), hg⟩
theorem rNo : ∀ w ∈ ([] : List Cond), w ∈ rTG := fun _ h => nomatch h
theorem ku0 : ∀ w ∈ u_ws "WordWright" kT0 13, w ∈ rTG := by
  have e : u_ws "WordWright" kT0 13 = [.laysFinal "WordWright" "WordWright" "languages" "[LWordWright$Language;", .lays "WordWright" "WordWright" "languageCount" "I", .laysFinal "WordWright" "WordWright" "machines" "[LWordWright$Machine;", .lays "WordWright" "WordWright" "machineCount" "I", .laysFinal "WordWright" "WordWright" "built" "LWordWright$Language;", .laysFinal "WordWright" "WordWright" "ways" "[I", .laysFinal "WordWright" "WordWright" "workshop" "LWordWright$Workshop;", .laysFinal "WordWright" "WordWright" "search" "LWordWright$Search;", .laysFinal "WordWright" "WordWright" "writings" "LWordWright$Writings;", .laysFinal "WordWright" "WordWright" "equations" "LWordWright$Equations;", .laysFinal "WordWright" "WordWright" "solver" "LWordWright$Solver;", .laysFinal "WordWright" "WordWright" "schemas" "LWordWright$Schemas;", .laysFinal "WordWright" "WordWright" "program" "LWordWright$Program;"] := rfl
  rw [e]
  exact List.forall_mem_cons.mpr ⟨rTw 449 (by decide +kernel) (by decide +kernel), List.forall_mem_cons.mpr ⟨rTw 451 (by decide +kernel) (by decide +kernel), List.forall_mem_cons.mpr ⟨rTw 453 (by decide +kernel) (by decide +kernel), List.forall_mem_cons.mpr ⟨rTw 455 (by decide +kernel) (by decide +kernel), List.forall_mem_cons.mpr ⟨rTw 457 (by decide +kernel) (by decide +kernel), List.forall_mem_cons.mpr ⟨rTw 459 (by decide +kernel) (by decide +kernel), List.forall_mem_cons.mpr ⟨rTw 461 (by decide +kernel) (by decide +kernel), List.forall_mem_cons.mpr ⟨rTw 463 (by decide +kernel) (by decide +kernel), List.forall_mem_cons.mpr ⟨rTw 465 (by decide +kernel) (by decide +kernel), List.forall_mem_cons.mpr ⟨rTw 467 (by decide +kernel) (by decide +kernel), List.forall_mem_cons.mpr ⟨rTw 469 (by decide +kernel) (by decide +kernel), List.forall_mem_cons.mpr ⟨rTw 471 (by decide +kernel) (by decide +kernel), List.forall_mem_cons.mpr ⟨rTw 473 (by decide +kernel) (by decide +kernel), rNo⟩⟩⟩⟩⟩⟩⟩⟩⟩⟩⟩⟩⟩
theorem kf0 : rFact 0 ("WordWright", kT0, 13) := ⟨ku0, by decide +kernel, by decide +kernel⟩
theorem ku1 : ∀ w ∈ u_ws "WordWright$Draft" kT1 12, w ∈ rTG := by
  have e : u_ws "WordWright$Draft" kT1 12 = [.lays "WordWright$Draft" "WordWright$Draft" "count" "I", .laysFinal "WordWright$Draft" "WordWright$Draft" "keys" "[J", .laysFinal "WordWright$Draft" "WordWright$Draft" "isEnd" "[Z", .laysFinal "WordWright$Draft" "WordWright$Draft" "to" "[I", .laysFinal "WordWright$Draft" "WordWright$Draft" "places" "[I", .lays "WordWright$Draft" "WordWright$Draft" "base" "I", .lays "WordWright$Draft" "WordWright$Draft" "group" "[I", .lays "WordWright$Draft" "WordWright$Draft" "finer" "[I", .laysFinal "WordWright$Draft" "WordWright$Draft" "signs" "[I", .laysFinal "WordWright$Draft" "WordWright$Draft" "samples" "[I", .laysFinal "WordWright$Draft" "WordWright$Draft" "order" "[I", .laysFinal "WordWright$Draft" "WordWright$Draft" "numbers" "[I"] := rfl
  rw [e]
  exact List.forall_mem_cons.mpr ⟨rTw 121 (by decide +kernel) (by decide +kernel), List.forall_mem_cons.mpr ⟨rTw 123 (by decide +kernel) (by decide +kernel), List.forall_mem_cons.mpr ⟨rTw 125 (by decide +kernel) (by decide +kernel), List.forall_mem_cons.mpr ⟨rTw 127 (by decide +kernel) (by decide +kernel), List.forall_mem_cons.mpr ⟨rTw 129 (by decide +kernel) (by decide +kernel), List.forall_mem_cons.mpr ⟨rTw 131 (by decide +kernel) (by decide +kernel), List.forall_mem_cons.mpr ⟨rTw 133 (by decide +kernel) (by decide +kernel), List.forall_mem_cons.mpr ⟨rTw 135 (by decide +kernel) (by decide +kernel), List.forall_mem_cons.mpr ⟨rTw 137 (by decide +kernel) (by decide +kernel), List.forall_mem_cons.mpr ⟨rTw 139 (by decide +kernel) (by decide +kernel), List.forall_mem_cons.mpr ⟨rTw 141 (by decide +kernel) (by decide +kernel), List.forall_mem_cons.mpr ⟨rTw 143 (by decide +kernel) (by decide +kernel), rNo⟩⟩⟩⟩⟩⟩⟩⟩⟩⟩⟩⟩
theorem kf1 : rFact 1 ("WordWright$Draft", kT1, 12) := ⟨ku1, by decide +kernel, by decide +kernel⟩
theorem ku2 : ∀ w ∈ u_ws "WordWright$Equations" kT2 8, w ∈ rTG := by
  have e : u_ws "WordWright$Equations" kT2 8 = [.laysFinal "WordWright$Equations" "WordWright$Equations" "language" "[I", .laysFinal "WordWright$Equations" "WordWright$Equations" "most" "[I", .lays "WordWright$Equations" "WordWright$Equations" "count" "I", .laysFinal "WordWright$Equations" "WordWright$Equations" "symbols" "[I", .laysFinal "WordWright$Equations" "WordWright$Equations" "lengths" "[I", .lays "WordWright$Equations" "WordWright$Equations" "isSolved" "Z", .lays "WordWright$Equations" "WordWright$Equations" "found" "I", .laysFinal "WordWright$Equations" "WordWright$Equations" "first" "[I"] := rfl
  rw [e]
  exact List.forall_mem_cons.mpr ⟨rTw 278 (by decide +kernel) (by decide +kernel), List.forall_mem_cons.mpr ⟨rTw 280 (by decide +kernel) (by decide +kernel), List.forall_mem_cons.mpr ⟨rTw 282 (by decide +kernel) (by decide +kernel), List.forall_mem_cons.mpr ⟨rTw 284 (by decide +kernel) (by decide +kernel), List.forall_mem_cons.mpr ⟨rTw 286 (by decide +kernel) (by decide +kernel), List.forall_mem_cons.mpr ⟨rTw 288 (by decide +kernel) (by decide +kernel), List.forall_mem_cons.mpr ⟨rTw 290 (by decide +kernel) (by decide +kernel), List.forall_mem_cons.mpr ⟨rTw 292 (by decide +kernel) (by decide +kernel), rNo⟩⟩⟩⟩⟩⟩⟩⟩
theorem kf2 : rFact 2 ("WordWright$Equations", kT2, 8) := ⟨ku2, by decide +kernel, by decide +kernel⟩
theorem ku3 : ∀ w ∈ u_ws "WordWright$Language" kT3 3, w ∈ rTG := by
  have e : u_ws "WordWright$Language" kT3 3 = [.lays "WordWright$Language" "WordWright$Language" "size" "I", .lays "WordWright$Language" "WordWright$Language" "ends" "I", .laysFinal "WordWright$Language" "WordWright$Language" "to" "[I"] := rfl
  rw [e]
  exact List.forall_mem_cons.mpr ⟨rTw 84 (by decide +kernel) (by decide +kernel), List.forall_mem_cons.mpr ⟨rTw 86 (by decide +kernel) (by decide +kernel), List.forall_mem_cons.mpr ⟨rTw 88 (by decide +kernel) (by decide +kernel), rNo⟩⟩⟩
theorem kf3 : rFact 3 ("WordWright$Language", kT3, 3) := ⟨ku3, by decide +kernel, by decide +kernel⟩
theorem ku4 : ∀ w ∈ u_ws "WordWright$Machine" kT4 6, w ∈ rTG := by
  have e : u_ws "WordWright$Machine" kT4 6 = [.lays "WordWright$Machine" "WordWright$Machine" "arcs" "I", .lays "WordWright$Machine" "WordWright$Machine" "ends" "I", .laysFinal "WordWright$Machine" "WordWright$Machine" "from" "[I", .laysFinal "WordWright$Machine" "WordWright$Machine" "read" "[I", .laysFinal "WordWright$Machine" "WordWright$Machine" "to" "[I", .laysFinal "WordWright$Machine" "WordWright$Machine" "wrote" "[I"] := rfl
  rw [e]
  exact List.forall_mem_cons.mpr ⟨rTw 189 (by decide +kernel) (by decide +kernel), List.forall_mem_cons.mpr ⟨rTw 191 (by decide +kernel) (by decide +kernel), List.forall_mem_cons.mpr ⟨rTw 193 (by decide +kernel) (by decide +kernel), List.forall_mem_cons.mpr ⟨rTw 195 (by decide +kernel) (by decide +kernel), List.forall_mem_cons.mpr ⟨rTw 197 (by decide +kernel) (by decide +kernel), List.forall_mem_cons.mpr ⟨rTw 199 (by decide +kernel) (by decide +kernel), rNo⟩⟩⟩⟩⟩⟩
theorem kf4 : rFact 4 ("WordWright$Machine", kT4, 6) := ⟨ku4, by decide +kernel, by decide +kernel⟩
theorem ku5 : ∀ w ∈ u_ws "WordWright$Program" kT5 12, w ∈ rTG := by
  have e : u_ws "WordWright$Program" kT5 12 = [.lays "WordWright$Program" "WordWright$Program" "count" "I", .laysFinal "WordWright$Program" "WordWright$Program" "sorts" "[I", .laysFinal "WordWright$Program" "WordWright$Program" "as" "[I", .laysFinal "WordWright$Program" "WordWright$Program" "bs" "[I", .laysFinal "WordWright$Program" "WordWright$Program" "cs" "[I", .laysFinal "WordWright$Program" "WordWright$Program" "came" "[Z", .laysFinal "WordWright$Program" "WordWright$Program" "spans" "[LWordWright$Language;", .lays "WordWright$Program" "WordWright$Program" "rounds" "I", .lays "WordWright$Program" "WordWright$Program" "isSeen" "Z", .laysFinal "WordWright$Program" "WordWright$Program" "passed" "[LWordWright$Language;", .laysFinal "WordWright$Program" "WordWright$Program" "whole" "LWordWright$Language;", .laysFinal "WordWright$Program" "WordWright$Program" "merged" "LWordWright$Language;"] := rfl
  rw [e]
  exact List.forall_mem_cons.mpr ⟨rTw 401 (by decide +kernel) (by decide +kernel), List.forall_mem_cons.mpr ⟨rTw 403 (by decide +kernel) (by decide +kernel), List.forall_mem_cons.mpr ⟨rTw 405 (by decide +kernel) (by decide +kernel), List.forall_mem_cons.mpr ⟨rTw 407 (by decide +kernel) (by decide +kernel), List.forall_mem_cons.mpr ⟨rTw 409 (by decide +kernel) (by decide +kernel), List.forall_mem_cons.mpr ⟨rTw 411 (by decide +kernel) (by decide +kernel), List.forall_mem_cons.mpr ⟨rTw 413 (by decide +kernel) (by decide +kernel), List.forall_mem_cons.mpr ⟨rTw 415 (by decide +kernel) (by decide +kernel), List.forall_mem_cons.mpr ⟨rTw 417 (by decide +kernel) (by decide +kernel), List.forall_mem_cons.mpr ⟨rTw 419 (by decide +kernel) (by decide +kernel), List.forall_mem_cons.mpr ⟨rTw 421 (by decide +kernel) (by decide +kernel), List.forall_mem_cons.mpr ⟨rTw 423 (by decide +kernel) (by decide +kernel), rNo⟩⟩⟩⟩⟩⟩⟩⟩⟩⟩⟩⟩
theorem kf5 : rFact 5 ("WordWright$Program", kT5, 12) := ⟨ku5, by decide +kernel, by decide +kernel⟩
theorem ku6 : ∀ w ∈ u_ws "WordWright$Schemas" kT6 8, w ∈ rTG := by
  have e : u_ws "WordWright$Schemas" kT6 8 = [.lays "WordWright$Schemas" "WordWright$Schemas" "count" "I", .laysFinal "WordWright$Schemas" "WordWright$Schemas" "content" "[I", .lays "WordWright$Schemas" "WordWright$Schemas" "nodes" "I", .laysFinal "WordWright$Schemas" "WordWright$Schemas" "parents" "[I", .laysFinal "WordWright$Schemas" "WordWright$Schemas" "letters" "[I", .laysFinal "WordWright$Schemas" "WordWright$Schemas" "weights" "[I", .laysFinal "WordWright$Schemas" "WordWright$Schemas" "distances" "[I", .laysFinal "WordWright$Schemas" "WordWright$Schemas" "copier" "LWordWright$Machine;"] := rfl
  rw [e]
  exact List.forall_mem_cons.mpr ⟨rTw 357 (by decide +kernel) (by decide +kernel), List.forall_mem_cons.mpr ⟨rTw 359 (by decide +kernel) (by decide +kernel), List.forall_mem_cons.mpr ⟨rTw 361 (by decide +kernel) (by decide +kernel), List.forall_mem_cons.mpr ⟨rTw 363 (by decide +kernel) (by decide +kernel), List.forall_mem_cons.mpr ⟨rTw 365 (by decide +kernel) (by decide +kernel), List.forall_mem_cons.mpr ⟨rTw 367 (by decide +kernel) (by decide +kernel), List.forall_mem_cons.mpr ⟨rTw 369 (by decide +kernel) (by decide +kernel), List.forall_mem_cons.mpr ⟨rTw 371 (by decide +kernel) (by decide +kernel), rNo⟩⟩⟩⟩⟩⟩⟩⟩
theorem kf6 : rFact 6 ("WordWright$Schemas", kT6, 8) := ⟨ku6, by decide +kernel, by decide +kernel⟩
theorem ku7 : ∀ w ∈ u_ws "WordWright$Search" kT7 7, w ∈ rTG := by
  have e : u_ws "WordWright$Search" kT7 7 = [.laysFinal "WordWright$Search" "WordWright$Search" "copier" "LWordWright$Machine;", .laysFinal "WordWright$Search" "WordWright$Search" "nothing" "LWordWright$Language;", .laysFinal "WordWright$Search" "WordWright$Search" "words" "[I", .laysFinal "WordWright$Search" "WordWright$Search" "queue" "[I", .lays "WordWright$Search" "WordWright$Search" "queued" "I", .laysFinal "WordWright$Search" "WordWright$Search" "leads" "[I", .laysFinal "WordWright$Search" "WordWright$Search" "rounds" "[I"] := rfl
  rw [e]
  exact List.forall_mem_cons.mpr ⟨rTw 219 (by decide +kernel) (by decide +kernel), List.forall_mem_cons.mpr ⟨rTw 221 (by decide +kernel) (by decide +kernel), List.forall_mem_cons.mpr ⟨rTw 223 (by decide +kernel) (by decide +kernel), List.forall_mem_cons.mpr ⟨rTw 225 (by decide +kernel) (by decide +kernel), List.forall_mem_cons.mpr ⟨rTw 227 (by decide +kernel) (by decide +kernel), List.forall_mem_cons.mpr ⟨rTw 229 (by decide +kernel) (by decide +kernel), List.forall_mem_cons.mpr ⟨rTw 231 (by decide +kernel) (by decide +kernel), rNo⟩⟩⟩⟩⟩⟩⟩
theorem kf7 : rFact 7 ("WordWright$Search", kT7, 7) := ⟨ku7, by decide +kernel, by decide +kernel⟩
theorem ku8 : ∀ w ∈ u_ws "WordWright$Solver" kT8 11, w ∈ rTG := by
  have e : u_ws "WordWright$Solver" kT8 11 = [.lays "WordWright$Solver" "WordWright$Solver" "found" "I", .laysFinal "WordWright$Solver" "WordWright$Solver" "first" "[I", .laysFinal "WordWright$Solver" "WordWright$Solver" "allowed" "[I", .laysFinal "WordWright$Solver" "WordWright$Solver" "length" "[I", .laysFinal "WordWright$Solver" "WordWright$Solver" "ties" "[I", .laysFinal "WordWright$Solver" "WordWright$Solver" "spelled" "[I", .laysFinal "WordWright$Solver" "WordWright$Solver" "team" "[I", .laysFinal "WordWright$Solver" "WordWright$Solver" "open" "[I", .lays "WordWright$Solver" "WordWright$Solver" "opened" "I", .laysFinal "WordWright$Solver" "WordWright$Solver" "values" "[I", .laysFinal "WordWright$Solver" "WordWright$Solver" "guess" "[I"] := rfl
  rw [e]
  exact List.forall_mem_cons.mpr ⟨rTw 315 (by decide +kernel) (by decide +kernel), List.forall_mem_cons.mpr ⟨rTw 317 (by decide +kernel) (by decide +kernel), List.forall_mem_cons.mpr ⟨rTw 319 (by decide +kernel) (by decide +kernel), List.forall_mem_cons.mpr ⟨rTw 321 (by decide +kernel) (by decide +kernel), List.forall_mem_cons.mpr ⟨rTw 323 (by decide +kernel) (by decide +kernel), List.forall_mem_cons.mpr ⟨rTw 325 (by decide +kernel) (by decide +kernel), List.forall_mem_cons.mpr ⟨rTw 327 (by decide +kernel) (by decide +kernel), List.forall_mem_cons.mpr ⟨rTw 329 (by decide +kernel) (by decide +kernel), List.forall_mem_cons.mpr ⟨rTw 331 (by decide +kernel) (by decide +kernel), List.forall_mem_cons.mpr ⟨rTw 333 (by decide +kernel) (by decide +kernel), List.forall_mem_cons.mpr ⟨rTw 335 (by decide +kernel) (by decide +kernel), rNo⟩⟩⟩⟩⟩⟩⟩⟩⟩⟩⟩
theorem kf8 : rFact 8 ("WordWright$Solver", kT8, 11) := ⟨ku8, by decide +kernel, by decide +kernel⟩
theorem ku9 : ∀ w ∈ u_ws "WordWright$Workshop" kT9 1, w ∈ rTG := by
  have e : u_ws "WordWright$Workshop" kT9 1 = [.laysFinal "WordWright$Workshop" "WordWright$Workshop" "draft" "LWordWright$Draft;"] := rfl
  rw [e]
  exact List.forall_mem_cons.mpr ⟨rTw 149 (by decide +kernel) (by decide +kernel), rNo⟩
theorem kf9 : rFact 9 ("WordWright$Workshop", kT9, 1) := ⟨ku9, by decide +kernel, by decide +kernel⟩
theorem ku10 : ∀ w ∈ u_ws "WordWright$Writings" kT10 1, w ∈ rTG := by
  have e : u_ws "WordWright$Writings" kT10 1 = [.laysFinal "WordWright$Writings" "WordWright$Writings" "states" "[I"] := rfl
  rw [e]
  exact List.forall_mem_cons.mpr ⟨rTw 247 (by decide +kernel) (by decide +kernel), rNo⟩
theorem kf10 : rFact 10 ("WordWright$Writings", kT10, 1) := ⟨ku10, by decide +kernel, by decide +kernel⟩
theorem ku11 : ∀ w ∈ u_ws "WordWrightModel" kT11 10, w ∈ rTG := by
  have e : u_ws "WordWrightModel" kT11 10 = [.lays "WordWrightModel" "WordWrightModel" "thrown" "I", .laysFinal "WordWrightModel" "WordWrightModel" "all" "LWordWrightModel$Dfa;", .laysFinal "WordWrightModel" "WordWrightModel" "languages" "Ljava/util/List;", .laysFinal "WordWrightModel" "WordWrightModel" "machines" "Ljava/util/List;", .laysFinal "WordWrightModel" "WordWrightModel" "equations" "LWordWrightModel$Equations;", .laysFinal "WordWrightModel" "WordWrightModel" "schemas" "Ljava/util/List;", .laysFinal "WordWrightModel" "WordWrightModel" "letters" "[I", .laysFinal "WordWrightModel" "WordWrightModel" "parents" "[I", .lays "WordWrightModel" "WordWrightModel" "nodes" "I", .laysFinal "WordWrightModel" "WordWrightModel" "steps" "Ljava/util/List;"] := rfl
  rw [e]
  exact List.forall_mem_cons.mpr ⟨rTw 2039 (by decide +kernel) (by decide +kernel), List.forall_mem_cons.mpr ⟨rTw 2041 (by decide +kernel) (by decide +kernel), List.forall_mem_cons.mpr ⟨rTw 2043 (by decide +kernel) (by decide +kernel), List.forall_mem_cons.mpr ⟨rTw 2045 (by decide +kernel) (by decide +kernel), List.forall_mem_cons.mpr ⟨rTw 2047 (by decide +kernel) (by decide +kernel), List.forall_mem_cons.mpr ⟨rTw 2049 (by decide +kernel) (by decide +kernel), List.forall_mem_cons.mpr ⟨rTw 2051 (by decide +kernel) (by decide +kernel), List.forall_mem_cons.mpr ⟨rTw 2053 (by decide +kernel) (by decide +kernel), List.forall_mem_cons.mpr ⟨rTw 2055 (by decide +kernel) (by decide +kernel), List.forall_mem_cons.mpr ⟨rTw 2057 (by decide +kernel) (by decide +kernel), rNo⟩⟩⟩⟩⟩⟩⟩⟩⟩⟩
theorem kf11 : rFact 11 ("WordWrightModel", kT11, 10) := ⟨ku11, by decide +kernel, by decide +kernel⟩
theorem ku12 : ∀ w ∈ u_ws "WordWrightModel$1" kT12 2, w ∈ rTG := by
  have e : u_ws "WordWrightModel$1" kT12 2 = [.laysFinal "WordWrightModel$1" "WordWrightModel$1" "val$kind" "I", .laysFinal "WordWrightModel$1" "WordWrightModel$1" "val$a" "I"] := rfl
  rw [e]
  exact List.forall_mem_cons.mpr ⟨rTw 1686 (by decide +kernel) (by decide +kernel), List.forall_mem_cons.mpr ⟨rTw 1688 (by decide +kernel) (by decide +kernel), rNo⟩⟩
theorem kf12 : rFact 12 ("WordWrightModel$1", kT12, 2) := ⟨ku12, by decide +kernel, by decide +kernel⟩
theorem ku13 : ∀ w ∈ u_ws "WordWrightModel$2" kT13 3, w ∈ rTG := by
  have e : u_ws "WordWrightModel$2" kT13 3 = [.laysFinal "WordWrightModel$2" "WordWrightModel$2" "val$a" "LWordWrightModel$Dfa;", .laysFinal "WordWrightModel$2" "WordWrightModel$2" "val$b" "LWordWrightModel$Dfa;", .laysFinal "WordWrightModel$2" "WordWrightModel$2" "val$kind" "I"] := rfl
  rw [e]
  exact List.forall_mem_cons.mpr ⟨rTw 2142 (by decide +kernel) (by decide +kernel), List.forall_mem_cons.mpr ⟨rTw 2144 (by decide +kernel) (by decide +kernel), List.forall_mem_cons.mpr ⟨rTw 2146 (by decide +kernel) (by decide +kernel), rNo⟩⟩⟩
theorem kf13 : rFact 13 ("WordWrightModel$2", kT13, 3) := ⟨ku13, by decide +kernel, by decide +kernel⟩
theorem ku14 : ∀ w ∈ u_ws "WordWrightModel$3" kT14 2, w ∈ rTG := by
  have e : u_ws "WordWrightModel$3" kT14 2 = [.laysFinal "WordWrightModel$3" "WordWrightModel$3" "val$a" "LWordWrightModel$Dfa;", .laysFinal "WordWrightModel$3" "WordWrightModel$3" "val$b" "LWordWrightModel$Dfa;"] := rfl
  rw [e]
  exact List.forall_mem_cons.mpr ⟨rTw 2122 (by decide +kernel) (by decide +kernel), List.forall_mem_cons.mpr ⟨rTw 2124 (by decide +kernel) (by decide +kernel), rNo⟩⟩
theorem kf14 : rFact 14 ("WordWrightModel$3", kT14, 2) := ⟨ku14, by decide +kernel, by decide +kernel⟩
theorem ku15 : ∀ w ∈ u_ws "WordWrightModel$4" kT15 1, w ∈ rTG := by
  have e : u_ws "WordWrightModel$4" kT15 1 = [.laysFinal "WordWrightModel$4" "WordWrightModel$4" "val$a" "LWordWrightModel$Dfa;"] := rfl
  rw [e]
  exact List.forall_mem_cons.mpr ⟨rTw 2162 (by decide +kernel) (by decide +kernel), rNo⟩
theorem kf15 : rFact 15 ("WordWrightModel$4", kT15, 1) := ⟨ku15, by decide +kernel, by decide +kernel⟩
theorem ku16 : ∀ w ∈ u_ws "WordWrightModel$5" kT16 1, w ∈ rTG := by
  have e : u_ws "WordWrightModel$5" kT16 1 = [.laysFinal "WordWrightModel$5" "WordWrightModel$5" "val$a" "LWordWrightModel$Dfa;"] := rfl
  rw [e]
  exact List.forall_mem_cons.mpr ⟨rTw 2178 (by decide +kernel) (by decide +kernel), rNo⟩
theorem kf16 : rFact 16 ("WordWrightModel$5", kT16, 1) := ⟨ku16, by decide +kernel, by decide +kernel⟩
theorem ku17 : ∀ w ∈ u_ws "WordWrightModel$6" kT17 2, w ∈ rTG := by
  have e : u_ws "WordWrightModel$6" kT17 2 = [.laysFinal "WordWrightModel$6" "WordWrightModel$6" "val$a" "LWordWrightModel$Dfa;", .laysFinal "WordWrightModel$6" "WordWrightModel$6" "val$live" "[Z"] := rfl
  rw [e]
  exact List.forall_mem_cons.mpr ⟨rTw 2200 (by decide +kernel) (by decide +kernel), List.forall_mem_cons.mpr ⟨rTw 2202 (by decide +kernel) (by decide +kernel), rNo⟩⟩
theorem kf17 : rFact 17 ("WordWrightModel$6", kT17, 2) := ⟨ku17, by decide +kernel, by decide +kernel⟩
theorem ku18 : ∀ w ∈ u_ws "WordWrightModel$9" kT18 2, w ∈ rTG := by
  have e : u_ws "WordWrightModel$9" kT18 2 = [.laysFinal "WordWrightModel$9" "WordWrightModel$9" "val$a" "LWordWrightModel$Dfa;", .laysFinal "WordWrightModel$9" "WordWrightModel$9" "val$b" "LWordWrightModel$Dfa;"] := rfl
  rw [e]
  exact List.forall_mem_cons.mpr ⟨rTw 2280 (by decide +kernel) (by decide +kernel), List.forall_mem_cons.mpr ⟨rTw 2282 (by decide +kernel) (by decide +kernel), rNo⟩⟩
theorem kf18 : rFact 18 ("WordWrightModel$9", kT18, 2) := ⟨ku18, by decide +kernel, by decide +kernel⟩
theorem ku19 : ∀ w ∈ u_ws "WordWrightModel$Dfa" kT19 3, w ∈ rTG := by
  have e : u_ws "WordWrightModel$Dfa" kT19 3 = [.laysFinal "WordWrightModel$Dfa" "WordWrightModel$Dfa" "n" "I", .laysFinal "WordWrightModel$Dfa" "WordWrightModel$Dfa" "next" "[I", .laysFinal "WordWrightModel$Dfa" "WordWrightModel$Dfa" "ends" "[Z"] := rfl
  rw [e]
  exact List.forall_mem_cons.mpr ⟨rTw 1830 (by decide +kernel) (by decide +kernel), List.forall_mem_cons.mpr ⟨rTw 1832 (by decide +kernel) (by decide +kernel), List.forall_mem_cons.mpr ⟨rTw 1834 (by decide +kernel) (by decide +kernel), rNo⟩⟩⟩
theorem kf19 : rFact 19 ("WordWrightModel$Dfa", kT19, 3) := ⟨ku19, by decide +kernel, by decide +kernel⟩
theorem ku20 : ∀ w ∈ u_ws "WordWrightModel$Equations" kT20 6, w ∈ rTG := by
  have e : u_ws "WordWrightModel$Equations" kT20 6 = [.laysFinal "WordWrightModel$Equations" "WordWrightModel$Equations" "all" "Ljava/util/List;", .laysFinal "WordWrightModel$Equations" "WordWrightModel$Equations" "languages" "[LWordWrightModel$Dfa;", .laysFinal "WordWrightModel$Equations" "WordWrightModel$Equations" "mosts" "[I", .laysFinal "WordWrightModel$Equations" "WordWrightModel$Equations" "domains" "[[I", .lays "WordWrightModel$Equations" "WordWrightModel$Equations" "best" "[I", .lays "WordWrightModel$Equations" "WordWrightModel$Equations" "count" "I"] := rfl
  rw [e]
  exact List.forall_mem_cons.mpr ⟨rTw 1937 (by decide +kernel) (by decide +kernel), List.forall_mem_cons.mpr ⟨rTw 1939 (by decide +kernel) (by decide +kernel), List.forall_mem_cons.mpr ⟨rTw 1941 (by decide +kernel) (by decide +kernel), List.forall_mem_cons.mpr ⟨rTw 1943 (by decide +kernel) (by decide +kernel), List.forall_mem_cons.mpr ⟨rTw 1945 (by decide +kernel) (by decide +kernel), List.forall_mem_cons.mpr ⟨rTw 1947 (by decide +kernel) (by decide +kernel), rNo⟩⟩⟩⟩⟩⟩
theorem kf20 : rFact 20 ("WordWrightModel$Equations", kT20, 6) := ⟨ku20, by decide +kernel, by decide +kernel⟩
theorem ku21 : ∀ w ∈ u_ws "WordWrightModel$Machine" kT21 6, w ∈ rTG := by
  have e : u_ws "WordWrightModel$Machine" kT21 6 = [.laysFinal "WordWrightModel$Machine" "WordWrightModel$Machine" "from" "[I", .laysFinal "WordWrightModel$Machine" "WordWrightModel$Machine" "letter" "[I", .laysFinal "WordWrightModel$Machine" "WordWrightModel$Machine" "to" "[I", .laysFinal "WordWrightModel$Machine" "WordWrightModel$Machine" "out" "[I", .lays "WordWrightModel$Machine" "WordWrightModel$Machine" "arcs" "I", .lays "WordWrightModel$Machine" "WordWrightModel$Machine" "finals" "I"] := rfl
  rw [e]
  exact List.forall_mem_cons.mpr ⟨rTw 2453 (by decide +kernel) (by decide +kernel), List.forall_mem_cons.mpr ⟨rTw 2455 (by decide +kernel) (by decide +kernel), List.forall_mem_cons.mpr ⟨rTw 2457 (by decide +kernel) (by decide +kernel), List.forall_mem_cons.mpr ⟨rTw 2459 (by decide +kernel) (by decide +kernel), List.forall_mem_cons.mpr ⟨rTw 2461 (by decide +kernel) (by decide +kernel), List.forall_mem_cons.mpr ⟨rTw 2463 (by decide +kernel) (by decide +kernel), rNo⟩⟩⟩⟩⟩⟩
theorem kf21 : rFact 21 ("WordWrightModel$Machine", kT21, 6) := ⟨ku21, by decide +kernel, by decide +kernel⟩
theorem ku22 : ∀ w ∈ u_ws "WordWrightModel$Spans" kT22 5, w ∈ rTG := by
  have e : u_ws "WordWrightModel$Spans" kT22 5 = [.laysFinal "WordWrightModel$Spans" "WordWrightModel$Spans" "spans" "[[LWordWrightModel$Dfa;", .laysFinal "WordWrightModel$Spans" "WordWrightModel$Spans" "areThere" "[Z", .lays "WordWrightModel$Spans" "WordWrightModel$Spans" "rounds" "I", .lays "WordWrightModel$Spans" "WordWrightModel$Spans" "isMore" "Z", .laysFinal "WordWrightModel$Spans" "WordWrightModel$Spans" "this$0" "LWordWrightModel;"] := rfl
  rw [e]
  exact List.forall_mem_cons.mpr ⟨rTw 2806 (by decide +kernel) (by decide +kernel), List.forall_mem_cons.mpr ⟨rTw 2808 (by decide +kernel) (by decide +kernel), List.forall_mem_cons.mpr ⟨rTw 2810 (by decide +kernel) (by decide +kernel), List.forall_mem_cons.mpr ⟨rTw 2812 (by decide +kernel) (by decide +kernel), List.forall_mem_cons.mpr ⟨rTw 2814 (by decide +kernel) (by decide +kernel), rNo⟩⟩⟩⟩⟩
theorem kf22 : rFact 22 ("WordWrightModel$Spans", kT22, 5) := ⟨ku22, by decide +kernel, by decide +kernel⟩
theorem ku23 : ∀ w ∈ u_ws "WordWrightModel$Step" kT23 4, w ∈ rTG := by
  have e : u_ws "WordWrightModel$Step" kT23 4 = [.laysFinal "WordWrightModel$Step" "WordWrightModel$Step" "sort" "I", .laysFinal "WordWrightModel$Step" "WordWrightModel$Step" "a" "I", .laysFinal "WordWrightModel$Step" "WordWrightModel$Step" "b" "I", .laysFinal "WordWrightModel$Step" "WordWrightModel$Step" "c" "I"] := rfl
  rw [e]
  exact List.forall_mem_cons.mpr ⟨rTw 2733 (by decide +kernel) (by decide +kernel), List.forall_mem_cons.mpr ⟨rTw 2735 (by decide +kernel) (by decide +kernel), List.forall_mem_cons.mpr ⟨rTw 2737 (by decide +kernel) (by decide +kernel), List.forall_mem_cons.mpr ⟨rTw 2739 (by decide +kernel) (by decide +kernel), rNo⟩⟩⟩⟩
theorem kf23 : rFact 23 ("WordWrightModel$Step", kT23, 4) := ⟨ku23, by decide +kernel, by decide +kernel⟩
theorem ku24 : ∀ w ∈ u_ws "java/util/ArrayList" kT24 3, w ∈ rTG := by
  have e : u_ws "java/util/ArrayList" kT24 3 = [.lays "java/util/ArrayList" "java/util/AbstractList" "modCount" "I", .lays "java/util/ArrayList" "java/util/ArrayList" "elementData" "[Ljava/lang/Object;", .lays "java/util/ArrayList" "java/util/ArrayList" "size" "I"] := rfl
  rw [e]
  exact List.forall_mem_cons.mpr ⟨rTw 1911 (by decide +kernel) (by decide +kernel), List.forall_mem_cons.mpr ⟨rTw 1907 (by decide +kernel) (by decide +kernel), List.forall_mem_cons.mpr ⟨rTw 1909 (by decide +kernel) (by decide +kernel), rNo⟩⟩⟩
theorem kf24 : rFact 24 ("java/util/ArrayList", kT24, 3) := ⟨ku24, by decide +kernel, by decide +kernel⟩
theorem rFacts : ∀ (ci : Nat) (r : vw_C), rCls[ci]? = some r → rFact ci r := by
  intro ci r h
  match ci, h with
  | 0, h => cases h; exact kf0
  | 1, h => cases h; exact kf1
  | 2, h => cases h; exact kf2
  | 3, h => cases h; exact kf3
  | 4, h => cases h; exact kf4
  | 5, h => cases h; exact kf5
  | 6, h => cases h; exact kf6
  | 7, h => cases h; exact kf7
  | 8, h => cases h; exact kf8
  | 9, h => cases h; exact kf9
  | 10, h => cases h; exact kf10
  | 11, h => cases h; exact kf11
  | 12, h => cases h; exact kf12
  | 13, h => cases h; exact kf13
  | 14, h => cases h; exact kf14
  | 15, h => cases h; exact kf15
  | 16, h => cases h; exact kf16
  | 17, h => cases h; exact kf17
  | 18, h => cases h; exact kf18
  | 19, h => cases h; exact kf19
  | 20, h => cases h; exact kf20
  | 21, h => cases h; exact kf21
  | 22, h => cases h; exact kf22
  | 23, h => cases h; exact kf23
  | 24, h => cases h; exact kf24
  | ci + 25, h => cases h
-- words that a call does not keep by itself
def rNGs : List Cond := [(Jvm.Cond.methodLinkNest "WordWright" (21 : Nat) ({ cls := "WordWright$Language", name := "<init>", desc := "()V" } : Jvm.MethodName) "WordWright"), (Jvm.Cond.methodLinkNest "WordWright" (32 : Nat) ({ cls := "WordWright$Workshop", name := "<init>", desc := "()V" } : Jvm.MethodName) "WordWright"), (Jvm.Cond.methodLinkNest "WordWright" (46 : Nat) ({ cls := "WordWright$Writings", name := "<init>", desc := "()V" } : Jvm.MethodName) "WordWright"), (Jvm.Cond.methodLinkNest "WordWright" (60 : Nat) ({ cls := "WordWright$Solver", name := "<init>", desc := "()V" } : Jvm.MethodName) "WordWright"), (Jvm.Cond.methodLinkNest "WordWright" (67 : Nat) ({ cls := "WordWright$Schemas", name := "<init>", desc := "()V" } : Jvm.MethodName) "WordWright"), (Jvm.Cond.methodLinkNest "WordWright" (79 : Nat) ({ cls := "WordWright$Machine", name := "<init>", desc := "()V" } : Jvm.MethodName) "WordWright"), (Jvm.Cond.methodLinkNest "WordWrightModel$1" (10 : Nat) ({ cls := "WordWrightModel$Walk", name := "<init>", desc := "()V" } : Jvm.MethodName) "WordWrightModel"), (Jvm.Cond.methodLinkNest "WordWrightModel$2" (14 : Nat) ({ cls := "WordWrightModel$Walk", name := "<init>", desc := "()V" } : Jvm.MethodName) "WordWrightModel"), (Jvm.Cond.methodLinkNest "WordWrightModel$3" (38 : Nat) ({ cls := "WordWrightModel", name := "meets", desc := "(LWordWrightModel$Dfa;J)Z" } : Jvm.MethodName) "WordWrightModel"), (Jvm.Cond.methodLinkNest "WordWrightModel$3" (32 : Nat) ({ cls := "WordWrightModel", name := "step", desc := "(LWordWrightModel$Dfa;JI)J" } : Jvm.MethodName) "WordWrightModel"), (Jvm.Cond.methodLinkNest "WordWrightModel$3" (10 : Nat) ({ cls := "WordWrightModel$Walk", name := "<init>", desc := "()V" } : Jvm.MethodName) "WordWrightModel"), (Jvm.Cond.methodLinkNest "WordWrightModel$4" (23 : Nat) ({ cls := "WordWrightModel", name := "meets", desc := "(LWordWrightModel$Dfa;J)Z" } : Jvm.MethodName) "WordWrightModel"), (Jvm.Cond.methodLinkNest "WordWrightModel$4" (17 : Nat) ({ cls := "WordWrightModel", name := "step", desc := "(LWordWrightModel$Dfa;JI)J" } : Jvm.MethodName) "WordWrightModel"), (Jvm.Cond.methodLinkNest "WordWrightModel$4" (7 : Nat) ({ cls := "WordWrightModel$Walk", name := "<init>", desc := "()V" } : Jvm.MethodName) "WordWrightModel"), (Jvm.Cond.methodLinkNest "WordWrightModel$5" (7 : Nat) ({ cls := "WordWrightModel$Walk", name := "<init>", desc := "()V" } : Jvm.MethodName) "WordWrightModel"), (Jvm.Cond.methodLinkNest "WordWrightModel$6" (11 : Nat) ({ cls := "WordWrightModel$Walk", name := "<init>", desc := "()V" } : Jvm.MethodName) "WordWrightModel"), (Jvm.Cond.methodLinkNest "WordWrightModel$9" (26 : Nat) ({ cls := "WordWrightModel", name := "one", desc := "(II)[Z" } : Jvm.MethodName) "WordWrightModel"), (Jvm.Cond.methodLinkNest "WordWrightModel$9" (10 : Nat) ({ cls := "WordWrightModel$Search", name := "<init>", desc := "()V" } : Jvm.MethodName) "WordWrightModel"), (Jvm.Cond.methodLinkNest "WordWrightModel$Dfa" (27 : Nat) ({ cls := "WordWrightModel", name := "length", desc := "(I)I" } : Jvm.MethodName) "WordWrightModel"), (Jvm.Cond.methodLinkNest "WordWrightModel$Equations" (40 : Nat) ({ cls := "WordWrightModel", name := "length", desc := "(I)I" } : Jvm.MethodName) "WordWrightModel"), (Jvm.Cond.methodLinkNest "WordWrightModel$Equations" (36 : Nat) ({ cls := "WordWrightModel", name := "isWord", desc := "(I)Z" } : Jvm.MethodName) "WordWrightModel"), (Jvm.Cond.fieldLinkNest "WordWrightModel$Spans" (22 : Nat) "WordWrightModel" "steps" "Ljava/util/List;" "WordWrightModel"), (Jvm.Cond.methodLinkNest "WordWrightModel" (115 : Nat) ({ cls := "WordWrightModel$Equations", name := "<init>", desc := "()V" } : Jvm.MethodName) "WordWrightModel"), (Jvm.Cond.methodLinkNest "WordWrightModel" (245 : Nat) ({ cls := "WordWrightModel$Machine", name := "<init>", desc := "()V" } : Jvm.MethodName) "WordWrightModel"), (Jvm.Cond.methodLinkNest "WordWright$Language" (37 : Nat) ({ cls := "WordWright", name := "lengthOf", desc := "(I)I" } : Jvm.MethodName) "WordWright"), (Jvm.Cond.methodLinkNest "WordWright$Program" (37 : Nat) ({ cls := "WordWright$Language", name := "<init>", desc := "()V" } : Jvm.MethodName) "WordWright"), (Jvm.Cond.methodLinkNest "WordWright$Schemas" (29 : Nat) ({ cls := "WordWright$Machine", name := "<init>", desc := "()V" } : Jvm.MethodName) "WordWright"), (Jvm.Cond.methodLinkNest "WordWright$Search" (11 : Nat) ({ cls := "WordWright$Machine", name := "<init>", desc := "()V" } : Jvm.MethodName) "WordWright"), (Jvm.Cond.methodLinkNest "WordWright$Search" (20 : Nat) ({ cls := "WordWright$Language", name := "<init>", desc := "()V" } : Jvm.MethodName) "WordWright"), (Jvm.Cond.methodLinkNest "WordWright$Workshop" (11 : Nat) ({ cls := "WordWright$Draft", name := "<init>", desc := "()V" } : Jvm.MethodName) "WordWright"), (Jvm.Cond.arrayOver (Jvm.ClassFile.FieldType.object "WordWright$Language")), (Jvm.Cond.arrayOver (Jvm.ClassFile.FieldType.object "WordWright$Machine")), (Jvm.Cond.castable "java/lang/IllegalArgumentException" "java/lang/IllegalArgumentException"), (Jvm.Cond.declares ({ cls := "java/lang/RuntimeException", name := "<init>", desc := "()V" } : Jvm.MethodName)), (Jvm.Cond.declares ({ cls := "java/lang/RuntimeException", name := "<init>", desc := "(Ljava/lang/String;)V" } : Jvm.MethodName)), (Jvm.Cond.declares ({ cls := "java/lang/Exception", name := "<init>", desc := "()V" } : Jvm.MethodName)), (Jvm.Cond.declares ({ cls := "java/lang/Exception", name := "<init>", desc := "(Ljava/lang/String;)V" } : Jvm.MethodName)), (Jvm.Cond.declares ({ cls := "java/lang/Throwable", name := "<init>", desc := "()V" } : Jvm.MethodName)), (Jvm.Cond.declares ({ cls := "java/lang/Throwable", name := "<init>", desc := "(Ljava/lang/String;)V" } : Jvm.MethodName)), (Jvm.Cond.castable "[B" "java/lang/Cloneable"), (Jvm.Cond.castable "java/lang/ArrayIndexOutOfBoundsException" "java/lang/ArrayIndexOutOfBoundsException"), (Jvm.Cond.declares ({ cls := "java/lang/IndexOutOfBoundsException", name := "<init>", desc := "()V" } : Jvm.MethodName)), (Jvm.Cond.declares ({ cls := "java/lang/IndexOutOfBoundsException", name := "<init>", desc := "(Ljava/lang/String;)V" } : Jvm.MethodName)), (Jvm.Cond.castable "java/lang/IllegalStateException" "java/lang/IllegalStateException"), (Jvm.Cond.castable "java/lang/IndexOutOfBoundsException" "java/lang/IndexOutOfBoundsException"), (Jvm.Cond.castable "java/lang/ArithmeticException" "java/lang/ArithmeticException"), (Jvm.Cond.declares ({ cls := "WordWrightModel$Walk", name := "smallest", desc := "()LWordWrightModel$Dfa;" } : Jvm.MethodName)), (Jvm.Cond.declares ({ cls := "WordWrightModel$Walk", name := "first", desc := "()J" } : Jvm.MethodName)), (Jvm.Cond.declares ({ cls := "WordWrightModel$Walk", name := "go", desc := "(JI)J" } : Jvm.MethodName)), (Jvm.Cond.privateMethod ({ cls := "WordWrightModel$Walk", name := "parted", desc := "([J[II)LWordWrightModel$Dfa;" } : Jvm.MethodName)), (Jvm.Cond.declares ({ cls := "WordWrightModel$Walk", name := "ends", desc := "(J)Z" } : Jvm.MethodName)), (Jvm.Cond.privateMethod ({ cls := "WordWrightModel$Walk", name := "numbered", desc := "([J[I[I[II)LWordWrightModel$Dfa;" } : Jvm.MethodName)), (Jvm.Cond.arrayOver (Jvm.ClassFile.FieldType.object "WordWrightModel$Dfa")), (Jvm.Cond.arrayOver (Jvm.ClassFile.FieldType.array Jvm.ClassFile.FieldType.int)), (Jvm.Cond.declares ({ cls := "java/util/List", name := "add", desc := "(Ljava/lang/Object;)Z" } : Jvm.MethodName)), (Jvm.Cond.castable "java/util/ArrayList" "java/util/List"), (Jvm.Cond.arrayOver (Jvm.ClassFile.FieldType.object "java/lang/Object")), (Jvm.Cond.declares ({ cls := "java/util/List", name := "size", desc := "()I" } : Jvm.MethodName)), (Jvm.Cond.declares ({ cls := "java/util/List", name := "get", desc := "(I)Ljava/lang/Object;" } : Jvm.MethodName)), (Jvm.Cond.declares ({ cls := "WordWrightModel$Search", name := "least", desc := "()I" } : Jvm.MethodName)), (Jvm.Cond.declares ({ cls := "WordWrightModel$Search", name := "size", desc := "()I" } : Jvm.MethodName)), (Jvm.Cond.declares ({ cls := "WordWrightModel$Search", name := "first", desc := "()[Z" } : Jvm.MethodName)), (Jvm.Cond.declares ({ cls := "WordWrightModel$Search", name := "isWished", desc := "(I)Z" } : Jvm.MethodName)), (Jvm.Cond.declares ({ cls := "WordWrightModel$Search", name := "go", desc := "([ZI)[Z" } : Jvm.MethodName)), (Jvm.Cond.declares ({ cls := "java/util/List", name := "isEmpty", desc := "()Z" } : Jvm.MethodName)), (Jvm.Cond.declares ({ cls := "java/util/List", name := "remove", desc := "(I)Ljava/lang/Object;" } : Jvm.MethodName)), (Jvm.Cond.declares ({ cls := "java/util/List", name := "clear", desc := "()V" } : Jvm.MethodName)), (Jvm.Cond.arrayOver (Jvm.ClassFile.FieldType.array (Jvm.ClassFile.FieldType.object "WordWrightModel$Dfa"))), (Jvm.Cond.castable "java/lang/ArrayIndexOutOfBoundsException" "java/lang/IndexOutOfBoundsException"), (Jvm.Cond.castable "WordWright$Language" "java/lang/Object"), (Jvm.Cond.castable "WordWright$Machine" "java/lang/Object"), (Jvm.Cond.castable "WordWrightModel$Dfa" "java/lang/Object"), (Jvm.Cond.castable "java/lang/Integer" "java/lang/Object"), (Jvm.Cond.castable "WordWright" "java/lang/Object"), (Jvm.Cond.castable "WordWright$Workshop" "java/lang/Object"), (Jvm.Cond.castable "WordWright$Draft" "java/lang/Object"), (Jvm.Cond.castable "WordWright$Search" "java/lang/Object"), (Jvm.Cond.castable "WordWright$Writings" "java/lang/Object"), (Jvm.Cond.castable "WordWright$Equations" "java/lang/Object"), (Jvm.Cond.castable "WordWright$Solver" "java/lang/Object"), (Jvm.Cond.castable "WordWright$Schemas" "java/lang/Object"), (Jvm.Cond.castable "WordWright$Program" "java/lang/Object"), (Jvm.Cond.castable "WordWrightModel" "java/lang/Object"), (Jvm.Cond.castable "WordWrightModel$1" "java/lang/Object"), (Jvm.Cond.castable "java/util/ArrayList" "java/lang/Object"), (Jvm.Cond.castable "WordWrightModel$Equations" "java/lang/Object"), (Jvm.Cond.castable "java/lang/IllegalArgumentException" "java/lang/Object"), (Jvm.Cond.castable "java/lang/IllegalStateException" "java/lang/Object"), (Jvm.Cond.castable "WordWrightModel$3" "java/lang/Object"), (Jvm.Cond.castable "WordWrightModel$2" "java/lang/Object"), (Jvm.Cond.castable "WordWrightModel$4" "java/lang/Object"), (Jvm.Cond.castable "WordWrightModel$5" "java/lang/Object"), (Jvm.Cond.castable "WordWrightModel$6" "java/lang/Object"), (Jvm.Cond.castable "WordWrightModel$8" "java/lang/Object"), (Jvm.Cond.castable "WordWrightModel$7" "java/lang/Object"), (Jvm.Cond.castable "java/lang/ArrayIndexOutOfBoundsException" "java/lang/Object"), (Jvm.Cond.castable "java/lang/IndexOutOfBoundsException" "java/lang/Object"), (Jvm.Cond.castable "WordWrightModel$9" "java/lang/Object"), (Jvm.Cond.castable "java/lang/ArithmeticException" "java/lang/Object"), (Jvm.Cond.castable "WordWrightModel$Machine" "java/lang/Object"), (Jvm.Cond.castable "java/lang/StringBuilder" "java/lang/Object"), (Jvm.Cond.castable "java/lang/String" "java/lang/Object"), (Jvm.Cond.castable "WordWrightModel$11" "java/lang/Object"), (Jvm.Cond.castable "WordWrightModel$10" "java/lang/Object"), (Jvm.Cond.castable "WordWrightModel$Step" "java/lang/Object"), (Jvm.Cond.castable "WordWrightModel$Spans" "java/lang/Object"), (Jvm.Cond.castable "java/lang/Throwable" "java/lang/Object"), (Jvm.Cond.declares ({ cls := "java/lang/Object", name := "getClass", desc := "()Ljava/lang/Class;" } : Jvm.MethodName)), (Jvm.Cond.castable "[LWordWright$Language;" "java/lang/Object"), (Jvm.Cond.castable "[LWordWright$Machine;" "java/lang/Object"), (Jvm.Cond.castable "[I" "java/lang/Object"), (Jvm.Cond.castable "[J" "java/lang/Object"), (Jvm.Cond.castable "[Z" "java/lang/Object"), (Jvm.Cond.castable "[B" "java/lang/Object"), (Jvm.Cond.castable "[LWordWrightModel$Dfa;" "java/lang/Object"), (Jvm.Cond.castable "[[I" "java/lang/Object"), (Jvm.Cond.castable "[Ljava/lang/Object;" "java/lang/Object"), (Jvm.Cond.castable "[[LWordWrightModel$Dfa;" "java/lang/Object")]
theorem rNGs_in : ∀ w ∈ rNGs, w ∈ tables_1 := by decide +kernel
def rFws : List (String × MethodName × MethodName) := [("java/util/ArrayList", ⟨"java/util/List", "add", "(Ljava/lang/Object;)Z"⟩, ⟨"java/util/ArrayList", "add", "(Ljava/lang/Object;)Z"⟩), ("java/util/ArrayList", ⟨"java/util/List", "clear", "()V"⟩, ⟨"java/util/ArrayList", "clear", "()V"⟩), ("java/util/ArrayList", ⟨"java/util/List", "get", "(I)Ljava/lang/Object;"⟩, ⟨"java/util/ArrayList", "get", "(I)Ljava/lang/Object;"⟩), ("java/util/ArrayList", ⟨"java/util/List", "isEmpty", "()Z"⟩, ⟨"java/util/ArrayList", "isEmpty", "()Z"⟩), ("java/util/ArrayList", ⟨"java/util/List", "size", "()I"⟩, ⟨"java/util/ArrayList", "size", "()I"⟩)]
def rNcs : List (String × String) := [("java/lang/IllegalArgumentException", "java/lang/IndexOutOfBoundsException")]
def rStr : List (String × Nat × String) := [("WordWright", 174, "no such MACHINE"), ("WordWright", 340, "no such STEP"), ("WordWright", 277, "no such SCHEMA, or LETTER"), ("WordWright", 122, "no such LANGUAGE"), ("WordWright", 219, "no such MACHINE, or LANGUAGE"), ("WordWright", 228, "no such VARIABLE"), ("WordWright", 230, "no such LANGUAGE, or most is not 0 to 2"), ("WordWright", 146, "no WORD"), ("WordWright", 151, "letters is not 0 to 12"), ("WordWright", 93, "no such KIND, or no such a or b for it"), ("WordWright", 345, "what is not 0 to 9"), ("WordWright", 295, "no such SCHEMA"), ("WordWright", 137, "no such STATE, or LETTER"), ("WordWright", 285, "no such PARENT, or LETTER"), ("WordWright", 125, "what is not 0 to 5"), ("WordWright", 350, "most is not 0 to 2"), ("WordWright", 329, "no such STEP, or STRING"), ("WordWright", 331, "what is not 0 to 3"), ("WordWright", 318, "no such SORT, or no such a, b or c for it"), ("WordWright", 243, "no such EQUATION"), ("WordWright", 257, "there is no EQUATION")]
end
section
-- ===== the heap =====
def rTag (ty : FieldType) : Nat → rV := match ty with
  | .long => vL
  | .object _ => vR
  | .array _ => vR
  | _ => vI
def rObj (w : rW) (ad : Nat → Nat) (n a : Nat) (c : rC) (H : Heap) : Prop := ∃ (ci : Nat) (r : vw_C), c.1 = 2 * ci + 2 ∧ rCls[ci]? = some r ∧ ∃ V : Nat → Value, t_OB a ((wD w).1 ci) r.2.2 ((wD w).2 ci) H V ∧ ∀ k, k < r.2.2 → rVal w ad n (rTag (rFt ci k) (rPl c.2.2 k)) (V k)
def rArr (w : rW) (U : State) (ad : Nat → Nat) (n a : Nat) (c : rC) (H : Heap) : Prop := ∃ (t : Nat) (ty : FieldType), c.1 = 2 * t + 1 ∧ rAts[t]? = some ty ∧ c.2.1 ≤ 65536 ∧ ∃ (cA : ClassId) (f : Nat → Value), H[a]? = some (arrV cA c.2.1 f) ∧ ArrOfT U cA ty ∧ va_RA U cA ty ∧ ∀ j, j < c.2.1 → rVal w ad n (rTag ty (rPl c.2.2 j)) (f j)
def rCell (w : rW) (U : State) (ad : Nat → Nat) (n a : Nat) (c : rC) (H : Heap) : Prop := c.1 = 0 ∨ (wB w ≤ a ∧ (rObj w ad n a c H ∨ rArr w U ad n a c H))
def rHp (w : rW) (U : State) (ad : Nat → Nat) (h : rH) (H : Heap) : Prop :=
  (1 ≤ hN h ∧ hN h ≤ 512 ∧ rScr h = wS w ∧ (tG9 h.1 0).1 = 0 ∧ ∀ k, hN h ≤ k → k < 512 → (tG9 h.1 k).1 = 0) ∧
  (∀ k, k < hN h → rCell w U ad (hN h) (ad k) (tG9 h.1 k) H) ∧
  (∀ j k, j < hN h → k < hN h → (tG9 h.1 j).1 ≠ 0 → (tG9 h.1 k).1 ≠ 0 → ad j = ad k → j = k) ∧
  wB w ≤ H.size ∧ ∀ q : Nat, q < wB w → H[q]? = (wH w)[q]?
section HEAP
variable {w : rW} {U : State} {ad ad' : Nat → Nat} {n n' a : Nat} {c : rC} {H H1 : Heap} {h : rH}
theorem rTag_mono {ty : FieldType} {x : Nat} {v : Value} (hv : rVal w ad n (rTag ty x) v) (hn : n ≤ n') (he : rExt n ad ad') : rVal w ad' n' (rTag ty x) v := hv.mono hn he
theorem rObj.mono (hc : rObj w ad n a c H) (hn : n ≤ n') (he : rExt n ad ad') : rObj w ad' n' a c H := by
  obtain ⟨ci, r, h1, h2, V, h3, h4⟩ := hc
  exact ⟨ci, r, h1, h2, V, h3, fun k hk => (h4 k hk).mono hn he⟩
theorem rArr.mono (hc : rArr w U ad n a c H) (hn : n ≤ n') (he : rExt n ad ad') : rArr w U ad' n' a c H := by
  obtain ⟨t, ty, h1, h2, h3, cA, f, h4, h5, h6, h7⟩ := hc
  exact ⟨t, ty, h1, h2, h3, cA, f, h4, h5, h6, fun k hk => (h7 k hk).mono hn he⟩
theorem rCell.mono (hc : rCell w U ad n a c H) (hn : n ≤ n') (he : rExt n ad ad') : rCell w U ad' n' a c H :=
  hc.imp id (fun ⟨h1, h2⟩ => ⟨h1, h2.imp (fun q => q.mono hn he) (fun q => q.mono hn he)⟩)
theorem rObj.kept (hc : rObj w ad n a c H) (hq : H1[a]? = H[a]?) : rObj w ad n a c H1 := by
  obtain ⟨ci, r, h1, h2, V, h3, h4⟩ := hc
  exact ⟨ci, r, h1, h2, V, h3.kept hq, h4⟩
theorem rArr.kept (hc : rArr w U ad n a c H) (hq : H1[a]? = H[a]?) : rArr w U ad n a c H1 := by
  obtain ⟨t, ty, h1, h2, h3, cA, f, h4, h5⟩ := hc
  exact ⟨t, ty, h1, h2, h3, cA, f, hq.trans h4, h5⟩
theorem rCell.kept (hc : rCell w U ad n a c H) (hq : H1[a]? = H[a]?) : rCell w U ad n a c H1 :=
  hc.imp id (fun ⟨h1, h2⟩ => ⟨h1, h2.imp (fun q => q.kept hq) (fun q => q.kept hq)⟩)
theorem rObj.lt (hc : rObj w ad n a c H) : a < H.size := by
  obtain ⟨ci, r, h1, h2, V, ⟨cell, h3, -⟩, h4⟩ := hc
  exact (Array.getElem?_eq_some_iff.mp h3).1
theorem rArr.lt (hc : rArr w U ad n a c H) : a < H.size := by
  obtain ⟨t, ty, h1, h2, h3, cA, f, h4, h5⟩ := hc
  exact (Array.getElem?_eq_some_iff.mp h4).1
theorem rCell.lt (hc : rCell w U ad n a c H) (h0 : c.1 ≠ 0) : a < H.size ∧ wB w ≤ a := by
  rcases hc with q | ⟨q1, q | q⟩
  · exact absurd q h0
  · exact ⟨q.lt, q1⟩
  · exact ⟨q.lt, q1⟩
theorem rArr.moved {u : State} (hvm : u.vm.Alike U.vm) (hc : rArr w u ad n a c H) : rArr w U ad n a c H := by
  obtain ⟨t, ty, h1, h2, h3, cA, f, h4, h5, h6, h7⟩ := hc
  exact ⟨t, ty, h1, h2, h3, cA, f, h4, arrOfT_moved hvm h5, h6.moved hvm, h7⟩
theorem rCell.moved {u : State} (hvm : u.vm.Alike U.vm) (hc : rCell w u ad n a c H) : rCell w U ad n a c H :=
  hc.imp id (fun ⟨h1, h2⟩ => ⟨h1, h2.imp id (fun q => q.moved hvm)⟩)
theorem rHp.moved {u : State} (hvm : u.vm.Alike U.vm) (hH : rHp w u ad h H) : rHp w U ad h H :=
  ⟨hH.1, fun k hk => (hH.2.1 k hk).moved hvm, hH.2.2⟩
theorem rAt_eq (h : rH) (k : Nat) : rAt h k = tG9 h.1 k := rfl
theorem rHp.deref {k : Nat} {v : Value} (hH : rHp w U ad h H) (hv : rVal w ad (hN h) (vR k) v) (hk : (rAt h k).1 ≠ 0) : 0 < k ∧ k < hN h ∧ v = .ref (ad k) ∧ rCell w U ad (hN h) (ad k) (rAt h k) H := by
  rw [rAt_eq] at hk ⊢
  rcases hv.r with ⟨e, -⟩ | ⟨e, -⟩ | ⟨e, -⟩ | ⟨h1, h2, h3⟩
  · rw [e] at hk; exact absurd hH.1.2.2.2.1 hk
  · rw [e, tGet_e1] at hk; exact absurd hH.1.2.2.2.1 hk
  · rw [e, tGet_e2] at hk; exact absurd hH.1.2.2.2.1 hk
  · exact ⟨h1, h2, h3, hH.2.1 k h2⟩
theorem rHp.put {k : Nat} {c' : rC} (hH : rHp w U ad h H) (hk : 0 < k) (hkn : k < hN h) (hk0 : (rAt h k).1 ≠ 0) (hc : rCell w U ad (hN h) (ad k) c' H1) (hc0 : c'.1 ≠ 0) (hs : H.size ≤ H1.size) (ho : ∀ q : Nat, q ≠ ad k → H1[q]? = H[q]?) : rHp w U ad (rPut h k c') H1 := by
  obtain ⟨⟨a1, a2, a3, a4, a5⟩, b, d, e1, e2⟩ := hH
  have hk5 : k < 512 := by omega
  have hself : tG9 (tS9 h.1 k c') k = c' := tSet_eq _ _ _
  have hoth : ∀ j, j < 512 → j ≠ k → tG9 (tS9 h.1 k c') j = tG9 h.1 j := fun j hj hne => tSet_ne _ _ hk5 hj (Ne.symm hne)
  rw [rAt_eq] at hk0
  refine ⟨⟨a1, a2, a3, ?_, fun j hj hj5 => ?_⟩, fun j hj => ?_, fun i j hi hj hi0 hj0 hij => ?_, by omega, fun q hq => ?_⟩
  · show (tG9 (tS9 h.1 k c') 0).1 = 0
    rw [hoth 0 (by omega) (by omega)]; exact a4
  · show (tG9 (tS9 h.1 k c') j).1 = 0
    have hj' : hN h ≤ j := hj
    rw [hoth j hj5 (by omega)]; exact a5 j hj hj5
  · have hj' : j < hN h := hj
    show rCell w U ad (hN h) (ad j) (tG9 (tS9 h.1 k c') j) H1
    by_cases hjk : j = k
    · subst hjk; rw [hself]; exact hc
    · rw [hoth j (by omega) hjk]
      by_cases h0 : (tG9 h.1 j).1 = 0
      · exact Or.inl h0
      · exact (b j hj').kept (ho _ (fun q => hjk (d j k hj' hkn h0 hk0 q)))
  · have hi' : i < hN h := hi
    have hj' : j < hN h := hj
    have fix : ∀ x, x < hN h → (tG9 (tS9 h.1 k c') x).1 ≠ 0 → (tG9 h.1 x).1 ≠ 0 := by
      intro x hx h0
      by_cases hxk : x = k
      · subst hxk; exact hk0
      · rw [hoth x (by omega) hxk] at h0; exact h0
    exact d i j hi' hj' (fix i hi' hi0) (fix j hj' hj0) hij
  · have hb : q ≠ ad k := by
      have := ((b k hkn).lt hk0).2
      omega
    rw [ho q hb]; exact e2 q hq
def rUp (ad : Nat → Nat) (n a : Nat) : Nat → Nat := fun k => if k = n then a else ad k
theorem rUp_ext {ad : Nat → Nat} {n a : Nat} : rExt n ad (rUp ad n a) := fun k hk => if_neg (by omega)
theorem rUp_self {ad : Nat → Nat} {n a : Nat} : rUp ad n a n = a := if_pos rfl
theorem rHp.new {c' : rC} {cs sl : Nat} (hH : rHp w U ad h H) (hn : hN h ≤ 510) (hc : rCell w U (rUp ad (hN h) H.size) (hN h + 1) H.size c' H1) (hs : H1.size = H.size + 1) (ho : ∀ q : Nat, q < H.size → H1[q]? = H[q]?) :
    rHp w U (rUp ad (hN h) H.size) (tS9 h.1 (hN h) c', (Nat.succ (hN h), (cs, (sl, rScr h)))) H1 := by
  obtain ⟨⟨a1, a2, a3, a4, a5⟩, b, d, e1, e2⟩ := hH
  have hself : tG9 (tS9 h.1 (hN h) c') (hN h) = c' := tSet_eq _ _ _
  have hoth : ∀ j, j < 512 → j ≠ hN h → tG9 (tS9 h.1 (hN h) c') j = tG9 h.1 j := fun j hj hne => tSet_ne _ _ (by omega) hj (Ne.symm hne)
  refine ⟨⟨by show 1 ≤ hN h + 1; omega, by show hN h + 1 ≤ 512; omega, a3, ?_, fun j hj hj5 => ?_⟩, fun j hj => ?_, fun i j hi hj hi0 hj0 hij => ?_, by omega, fun q hq => ?_⟩
  · show (tG9 (tS9 h.1 (hN h) c') 0).1 = 0
    rw [hoth 0 (by omega) (by omega)]; exact a4
  · have hj' : hN h + 1 ≤ j := hj
    show (tG9 (tS9 h.1 (hN h) c') j).1 = 0
    rw [hoth j hj5 (by omega)]; exact a5 j (by omega) hj5
  · have hj' : j < hN h + 1 := hj
    show rCell w U (rUp ad (hN h) H.size) (hN h + 1) (rUp ad (hN h) H.size j) (tG9 (tS9 h.1 (hN h) c') j) H1
    by_cases hjk : j = hN h
    · rw [hjk, hself, rUp_self]; exact hc
    · have hjl : j < hN h := by omega
      rw [hoth j (by omega) hjk, rUp_ext j hjl]
      by_cases h0 : (tG9 h.1 j).1 = 0
      · exact Or.inl h0
      · exact ((b j hjl).mono (by omega) rUp_ext).kept (ho _ ((b j hjl).lt h0).1)
  · have hi' : i < hN h + 1 := hi
    have hj' : j < hN h + 1 := hj
    by_cases hie : i = hN h
    · by_cases hje : j = hN h
      · rw [hie, hje]
      · exfalso
        have hjl : j < hN h := by omega
        have hj0' : (tG9 (tS9 h.1 (hN h) c') j).1 ≠ 0 := hj0
        rw [hoth j (by omega) hje] at hj0'
        have hl := ((b j hjl).lt hj0').1
        rw [hie, rUp_self, rUp_ext j hjl] at hij
        omega
    · have hil : i < hN h := by omega
      have hi0' : (tG9 (tS9 h.1 (hN h) c') i).1 ≠ 0 := hi0
      rw [hoth i (by omega) hie] at hi0'
      have hl := ((b i hil).lt hi0').1
      by_cases hje : j = hN h
      · exfalso
        rw [hje, rUp_self, rUp_ext i hil] at hij
        omega
      · have hjl : j < hN h := by omega
        have hj0' : (tG9 (tS9 h.1 (hN h) c') j).1 ≠ 0 := hj0
        rw [hoth j (by omega) hje] at hj0'
        rw [rUp_ext i hil, rUp_ext j hjl] at hij
        exact d i j hil hjl hi0' hj0' hij
  · rw [ho q (by omega)]; exact e2 q hq
-- a number that no cell stands behind
theorem rHp.cat {q : Nat} {r : Nat × (Nat × List rV)} (hH : rHp w U ad (h.1, (hN h, r)) H) (hn : hN h ≤ 510) : rHp w U (rUp ad (hN h) q) (h.1, (Nat.succ (hN h), r)) H := by
  obtain ⟨⟨a1, a2, a3, a4, a5⟩, b, d, e1, e2⟩ := hH
  have a5' : ∀ k, hN h ≤ k → k < 512 → (tG9 h.1 k).1 = 0 := a5
  have b' : ∀ k, k < hN h → rCell w U ad (hN h) (ad k) (tG9 h.1 k) H := b
  have d' : ∀ j k, j < hN h → k < hN h → (tG9 h.1 j).1 ≠ 0 → (tG9 h.1 k).1 ≠ 0 → ad j = ad k → j = k := d
  refine ⟨⟨by show 1 ≤ hN h + 1; omega, by show hN h + 1 ≤ 512; omega, a3, a4, fun j hj hj5 => ?_⟩, fun j hj => ?_, fun i j hi hj hi0 hj0 hij => ?_, e1, e2⟩
  · have hj' : hN h + 1 ≤ j := hj
    exact a5' j (by omega) hj5
  · have hj' : j < hN h + 1 := hj
    show rCell w U (rUp ad (hN h) q) (hN h + 1) (rUp ad (hN h) q j) (tG9 h.1 j) H
    by_cases hjk : j = hN h
    · rw [hjk]; exact Or.inl (a5' _ (Nat.le_refl _) (by omega))
    · have hjl : j < hN h := by omega
      rw [rUp_ext j hjl]
      exact (b' j hjl).mono (by omega) rUp_ext
  · have hi' : i < hN h + 1 := hi
    have hj' : j < hN h + 1 := hj
    have hi0' : (tG9 h.1 i).1 ≠ 0 := hi0
    have hj0' : (tG9 h.1 j).1 ≠ 0 := hj0
    have hil : i < hN h := by
      rcases Nat.lt_or_ge i (hN h) with z | z
      · exact z
      · exact absurd (a5' i z (by omega)) hi0'
    have hjl : j < hN h := by
      rcases Nat.lt_or_ge j (hN h) with z | z
      · exact z
      · exact absurd (a5' j z (by omega)) hj0'
    rw [rUp_ext i hil, rUp_ext j hjl] at hij
    exact d' i j hil hjl hi0' hj0' hij
end HEAP
end
section
-- ===== what holds all the time =====
def rNk : Cond → Bool
  | .castable _ _ => true
  | .arrayOver _ => true
  | .declares _ => true
  | .privateMethod _ => true
  | .methodLinkNest _ _ _ _ => true
  | .fieldLinkNest _ _ _ _ _ _ => true
  | _ => false
theorem rNk_all : ∀ wd ∈ rNGs, rNk wd = true := by decide +kernel
theorem rAO {ty : FieldType} {u U : State} (hvm : u.vm.Alike U.vm) (h : va_Nw (Cond.arrayOver ty) u) : va_Nw (Cond.arrayOver ty) U := by
  have e := Cond.arrayOver_setVmC (s := u) hvm (ty := ty) (args := #[])
  have e2 : (Cond.arrayOver ty).before #[] U = (Cond.arrayOver ty).before #[] (u.setVm U.vm) := by
    unfold Cond.before Cond.holds
    simp only [Cond.value, State.setVm]
    rfl
  unfold va_Nw at h ⊢
  rw [e2, e]
  exact h
theorem rNk_warm {wd : Cond} {s U : State} (hk : rNk wd = true) (hW : s.WarmedH U.vm) (h : va_Nw wd s) : va_Nw wd U := by
  cases wd with
  | castable c t => exact va_tabs rfl (rfl : (s.setVm U.vm).vm = U.vm) (A := #[]) (by rw [Cond.castable_setVm hW.alike]; exact h)
  | arrayOver ty => exact rAO hW.alike h
  | declares x => exact va_Nw.warmD hW h
  | privateMethod y => exact Cond.privateMethod_warm hW h
  | methodLinkNest a i x q => exact va_Nw.warmM hW h
  | fieldLinkNest a i b n d q => exact va_Nw.warmF hW h
  | _ => cases hk
def rCl (w : rW) (U : State) : Prop := ∀ (ci : Nat) (r : vw_C), rCls[ci]? = some r → u_Kn U r.1 r.2.1 r.2.2 ((wD w).1 ci) ((wD w).2 ci)
def rFree (w : rW) : Nat → Prop := fun q => wB w ≤ q
def rEx (w : rW) (U : State) : Prop :=
  (∃ (L : Nat) (xs : Nat → Int32), va_X (wE w) L xs U (wH w) ∧ (wS w).length = L ∧ L ≤ 6 ∧ ∀ j, j < L → rVi ((wS w).getD j vU) (xs j)) ∧ wE w < wB w ∧
  va_Z "java/util/ArrayList" "DEFAULTCAPACITY_EMPTY_ELEMENTDATA" "[Ljava/lang/Object;" (.ref (wF w)) (rFree w) U (wH w) ∧
  (∃ cell : Cell, (wH w)[wF w]? = some cell ∧ U.isArrayOf cell (.object "java/lang/Object") ∧ cell.slots.size.toInt32 = nI 0 ∧ wF w < wB w) ∧
  vx_Zq Bundle.tN "UNASSIGNED_STACK" Bundle.steD (rFree w) U (wH w) ∧ vx_Zq Bundle.tN "SUPPRESSED_SENTINEL" Bundle.listD (rFree w) U (wH w) ∧
  (∀ q ∈ rStr, ∃ sa, vk_R q.1 q.2.1 q.2.2 sa U) ∧ (∀ q ∈ rFws, va_Fw q.1 q.2.1 q.2.2 U) ∧ wB w = (wH w).size
def rKx (w : rW) (U : State) : Prop := rCl w U ∧ rEx w U ∧ (∀ wd ∈ rNGs, va_Nw wd U) ∧ ∀ q ∈ rNcs, va_Nc q.1 q.2 U
theorem rFws_ok : ∀ q ∈ rFws, q.2.1.cls ≠ "java/lang/invoke/MethodHandle" ∧ q.2.1.cls ≠ "java/lang/invoke/VarHandle" := by decide +kernel
theorem rKx.warm {w : rW} {s U : State} (hW : s.WarmedH U.vm) (h : rKx w s) : rKx w U := by
  obtain ⟨h1, ⟨⟨L, xs, x1, x2, x3, x4⟩, e1, e2, ⟨cell, c1, c2, c3⟩, e4, e5, e6, e7, e8⟩, h3, h4⟩ := h
  have hvm := hW.alike
  exact ⟨fun ci r hr => u_Kn_moved hvm (h1 ci r hr), ⟨⟨L, xs, x1.moved hvm, x2, x3, x4⟩, e1, va_Z.moved hvm e2, ⟨cell, c1, State.isArrayOf_alike hvm c2, c3⟩, vx_Zq.moved hvm e4, vx_Zq.moved hvm e5,
    fun q hq => (e6 q hq).imp fun _ k => vk_R.warm hW k, fun q hq => va_Fw.moved (rFws_ok q hq) hvm (e7 q hq), e8⟩, fun wd hwd => rNk_warm (rNk_all wd hwd) hW (h3 wd hwd), fun q hq => (h4 q hq).moved hvm⟩
theorem rKx.ng {w : rW} {U : State} (h : rKx w U) (i : Nat) {wd : Cond} (hi : rNGs[i]? = some wd) : va_Nw wd U := h.2.2.1 wd (List.mem_of_getElem? hi)
-- ===== contracts =====
def rFr (d : Nat) : Nat := d + 12
def rLo (d : Nat) : Nat := 64 * d + 200
def rRm (d k n : Nat) : Room := { frames := rFr d, cells := k, slots := n, locals := rLo d }
def rWs (M : rM) : List Cond := (match rMh M with
  | none => Cond.code (rMy M) (rMc_ M) (rMl M) (rMr M)
  | some hh => Cond.codeWith (rMy M) (rMc_ M) (rMl M) (rMr M) hh) :: rTG
def rExn : List String := ["java/lang/IllegalArgumentException", "java/lang/IllegalStateException", "java/lang/IndexOutOfBoundsException", "java/lang/ArithmeticException"]
def rOpt (w : rW) (ad : Nat → Nat) (n : Nat) : Option rV → Option Value → Prop
  | none, none => True
  | some x, some v => rVal w ad n x v
  | _, _ => False
-- arguments laid as locals
def rArgs (w : rW) (ad : Nat → Nat) (n : Nat) (A : List rV) (av : List Value) : Prop := A.length = (lg_sl av).length ∧ ∀ i, A.getD i vU = vU ∨ ∃ v, (i, v) ∈ lv_args 0 av ∧ rVal w ad n (A.getD i vU) v
def rPc (w : rW) (ad : Nat → Nat) (av : List Value) (h : rH) : Array Value → State → Prop := fun a U => a = av.toArray ∧ rHp w U ad h U.heap ∧ rKx w U
def rQc (w : rW) (ad : Nat → Nat) (h : rH) (res : rO × rH) : Array Value → State → Outcome → State → Prop := fun _ st o t =>
  ∃ (r : Option rV) (v : Option Value) (ad' : Nat → Nat), res.1 = .inl r ∧ o = .returned v ∧ rExt (hN h) ad ad' ∧ rOpt w ad' (hN res.2) r v ∧ rHp w t ad' res.2 t.heap ∧ st.heap.size ≤ t.heap.size
def rXc (w : rW) (ad : Nat → Nat) (h : rH) (res : rO × rH) : String → State → State → Prop := fun E st t =>
  ∃ (e : Nat) (ad' : Nat → Nat), res.1 = .inr e ∧ rExn[e]? = some E ∧ rExt (hN h) ad ad' ∧ rHp w t ad' res.2 t.heap ∧ st.heap.size ≤ t.heap.size
def rMono (h : rH) (res : rO × rH) : Prop := hN h ≤ hN res.2 ∧ hC h ≤ hC res.2 ∧ hL h ≤ hL res.2
def rCGood (w : rW) (l : Launch) (d : Nat) (M : rM) (f : List rV → rH → rR) : Prop := ∀ (A : List rV) (h : rH) (res : rO × rH), f A h = some res → rMono h res ∧
  ∀ (ad : Nat → Nat) (av : List Value), rArgs w ad (hN h) A av → vx_Met l (rMy M) (rWs M) (rRm d (hC res.2 - hC h) (hL res.2 - hL h)) (rPc w ad av h) (rQc w ad h res) (rXc w ad h res) (hC res.2 - hC h) (hL res.2 - hL h) (rFree w)
-- ===== inside a method =====
def rCtx (w : rW) (d : Nat) (M : rM) (p : Program) (l : Launch) (R : Room) (s : State) (m : MethodId) (args : Array Value) (meth : Method) (c : Code) : Prop :=
  p.tables.exec = Jvm.exec ∧ c.code = rMc_ M ∧ c.maxLocals = rMl M ∧ s.vm.findClass (rMy M).cls = some m.cls ∧ (∀ wd ∈ rTG, wd.before args s = true) ∧ meth.locks = false ∧ ((rMy M).name = "<init>" → meth.name = "<init>") ∧ l.stackTraces = false ∧
  ((rMy M).cls ≠ "WordWrightLaw" ∨ rMh M ≠ none → c.exceptionTable.toList = tableOf ((rMh M).getD [])) ∧ rKx w s ∧ rFr d ≤ R.frames ∧ rLo d ≤ R.locals ∧ ∀ q : Nat, q < wB w → s.heap[q]? = (wH w)[q]?
-- the returning instruction of a value
def rRi (v : Option Value) (i : Instr) : Prop := match v with
  | none => i = .return_
  | some (.int _) => i = .ireturn
  | some (.long _) => i = .lreturn
  | some (.double _) => i = .dreturn
  | some (.ref _) => i = .areturn
  | some .null => i = .areturn
  | _ => False
-- what a method may answer
def rRt (o : Option FieldType) (v : Option Value) : Prop := match v with
  | none => o = none
  | some (.int x) => o = some .int ∨ (o = some .boolean ∧ narrow .boolean (.int x) = .int x)
  | some (.long _) => o = some .long
  | some (.double _) => o = some .double
  | some .null => (∃ n, o = some (.object n)) ∨ ∃ t, o = some (.array t)
  | some (.ref _) => (∃ n, o = some (.object n)) ∨ ∃ t, o = some (.array t)
  | _ => False
def rFin (w : rW) (M : rM) (res : rO × rH) (p : Program) (l : Launch) (e : Env) (R : Room) (s : State) (m : MethodId) (args : Array Value) (below : List Frame) (meth : Method) (c : Code) (Q : State → Prop) (mc ms n0 : Nat) (ad0 : Nat → Nat) : Prop :=
  mc ≤ R.cells ∧ ms ≤ R.slots ∧
  (∀ (r : Option rV) (ad : Nat → Nat) (H : Heap) (locs : List Loc) (pc : Nat) (ls : Array Slot) (v : Option Value) (i : Instr), res.1 = .inl r → rOpt w ad (hN res.2) r v → rRi v i → decode (rMc_ M) pc = .ok (i, 1) → rRt (rMr M) v → rExt n0 ad0 ad → rHp w s ad res.2 H → s.heap.size ≤ H.size → (∀ z ∈ locs, rFree w z.base) →
    W p l e R s m args below meth c H locs mc ms Q (F0 m pc ls v.toList)) ∧
  (∀ e9, res.1 = .inr e9 → ∃ (Qc : Array Value → State → Outcome → State → Prop) (XC : String → State → State → Prop), Q = vx_MQ below Qc XC args s mc ms (rFree w) ∧
    ∀ (E : String) (ad : Nat → Nat) (t : State), rExn[e9]? = some E → rExt n0 ad0 ad → rHp w t ad res.2 t.heap → s.heap.size ≤ t.heap.size → XC E s t)
def rTo (w : rW) (l : Launch) (d : Nat) (M : rM) (pc : Nat) (L S : List rV) (h : rH) (res : rO × rH) : Prop := rMono h res ∧
  ∀ (p : Program) (e : Env) (R : Room) (s : State) (m : MethodId) (args : Array Value) (below : List Frame) (meth : Method) (c : Code) (Q : State → Prop) (mc ms n0 : Nat) (ad0 : Nat → Nat), rCtx w d M p l R s m args meth c → rFin w M res p l e R s m args below meth c Q mc ms n0 ad0 →
  ∀ (ad : Nat → Nat) (H : Heap) (locs : List Loc) (cells slots : Nat) (ls : Array Slot) (lv : List (Nat × Value)) (st : List Value), n0 ≤ hN h ∧ rExt n0 ad0 ad → rHp w s ad h H → s.heap.size ≤ H.size → lv_has ls (rMl M) lv → rLoc w ad (hN h) L lv → rStk w ad (hN h) S st →
    cells + hC res.2 ≤ mc + hC h ∧ slots + hL res.2 ≤ ms + hL h → (∀ z ∈ locs, rFree w z.base) → W p l e R s m args below meth c H locs cells slots Q (F0 m pc ls st)
def rGood (w : rW) (l : Launch) (d : Nat) (M : rM) (pc : Nat) (f : List rV → List rV → rH → rR) : Prop := ∀ (L S : List rV) (h : rH) (res : rO × rH), f L S h = some res → rTo w l d M pc L S h res
def rCalls (w : rW) (l : Launch) (d : Nat) (lab : Nat → rM × Nat) (jc : rJ) : Prop := ∀ id, (lab id).2 = 0 → rCGood w l d (lab id).1 (fun A h => jc id A [] h)
def rSnd (lab : Nat → rM × Nat) (M : rM) (pc : Nat) (code : rP) : Prop := ∀ (w : rW) (l : Launch) (d : Nat) (jb jc : rJ), (∀ id, rGood w l (d + 1) (lab id).1 (lab id).2 (jb id)) → rCalls w l d lab jc → rGood w l (d + 1) M pc (code (jb, jc))
theorem rSnd_none {lab : Nat → rM × Nat} {M : rM} {pc : Nat} : rSnd lab M pc oNone := fun _ _ _ _ _ _ _ _ _ _ _ h => by cases h
end
section
-- ===== one step of a run =====
theorem rMono.tr {h h' : rH} {res : rO × rH} (h1 : hN h ≤ hN h' ∧ hC h ≤ hC h' ∧ hL h ≤ hL h') (h2 : rMono h' res) : rMono h res := ⟨Nat.le_trans h1.1 h2.1, Nat.le_trans h1.2.1 h2.2.1, Nat.le_trans h1.2.2 h2.2.2⟩
theorem rTo.gen {w : rW} {l : Launch} {d : Nat} {M : rM} {pc pc' : Nat} {L S L' S' : List rV} {h h' : rH} {res : rO × rH} (hm : hN h ≤ hN h' ∧ hC h ≤ hC h' ∧ hL h ≤ hL h') (hk : rTo w l d M pc' L' S' h' res)
    (go : ∀ {p : Program} {e : Env} {R : Room} {s : State} {m : MethodId} {args : Array Value} {below : List Frame} {meth : Method} {c : Code} {Q : State → Prop} {H : Heap} {locs : List Loc} {cells slots : Nat} {ls : Array Slot} {lv : List (Nat × Value)} {st : List Value} {ad : Nat → Nat} {mc ms : Nat}, rCtx w d M p l R s m args meth c → rHp w s ad h H → s.heap.size ≤ H.size → lv_has ls (rMl M) lv → rLoc w ad (hN h) L lv → rStk w ad (hN h) S st → mc ≤ R.cells ∧ ms ≤ R.slots → cells + hC h' ≤ mc + hC h ∧ slots + hL h' ≤ ms + hL h → (∀ z ∈ locs, rFree w z.base) →
      (∀ (ad' : Nat → Nat) (H' : Heap) (locs' : List Loc) (cells' slots' : Nat) (ls' : Array Slot) (lv' : List (Nat × Value)) (st' : List Value), rExt (hN h) ad ad' → rHp w s ad' h' H' → H.size ≤ H'.size → lv_has ls' (rMl M) lv' → rLoc w ad' (hN h') L' lv' → rStk w ad' (hN h') S' st' → cells' + hC h ≤ cells + hC h' → slots' + hL h ≤ slots + hL h' → (∀ z ∈ locs', rFree w z.base) → W p l e R s m args below meth c H' locs' cells' slots' Q (F0 m pc' ls' st')) →
      W p l e R s m args below meth c H locs cells slots Q (F0 m pc ls st)) : rTo w l d M pc L S h res := by
  refine ⟨rMono.tr hm hk.1, fun p e R s m args below meth c Q mc ms n0 ad0 hX hF ad H locs cells slots ls lv st hn hh hs hl hL hS hc hlo => ?_⟩
  have hk1 := hk.1
  refine go (mc := mc) (ms := ms) hX hh hs hl hL hS ⟨hF.1, hF.2.1⟩ ⟨by have := hk1.2.1; omega, by have := hk1.2.2; omega⟩ hlo (fun ad' H' locs' cells' slots' ls' lv' st' q1 q2 q3 q4 q5 q6 q7 q8 q9 => ?_)
  exact hk.2 p e R s m args below meth c Q mc ms n0 ad0 hX hF ad' H' locs' cells' slots' ls' lv' st' ⟨Nat.le_trans hn.1 hm.1, hn.2.tr q1 hn.1⟩ q2 (Nat.le_trans hs q3) q4 q5 q6 ⟨by omega, by omega⟩ q9
theorem rTo.step {w : rW} {l : Launch} {d : Nat} {M : rM} {pc pc' : Nat} {L S L' S' : List rV} {h : rH} {res : rO × rH} (hk : rTo w l d M pc' L' S' h res)
    (go : ∀ {p : Program} {e : Env} {R : Room} {s : State} {m : MethodId} {args : Array Value} {below : List Frame} {meth : Method} {c : Code} {Q : State → Prop} {H : Heap} {locs : List Loc} {cells slots : Nat} {ls : Array Slot} {lv : List (Nat × Value)} {st : List Value} {ad : Nat → Nat}, rCtx w d M p l R s m args meth c → rHp w s ad h H → lv_has ls (rMl M) lv → rLoc w ad (hN h) L lv → rStk w ad (hN h) S st →
      (∀ (ls' : Array Slot) (lv' : List (Nat × Value)) (st' : List Value), lv_has ls' (rMl M) lv' → rLoc w ad (hN h) L' lv' → rStk w ad (hN h) S' st' → W p l e R s m args below meth c H locs cells slots Q (F0 m pc' ls' st')) →
      W p l e R s m args below meth c H locs cells slots Q (F0 m pc ls st)) : rTo w l d M pc L S h res :=
  ⟨hk.1, fun p e R s m args below meth c Q mc ms n0 ad0 hX hF ad H locs cells slots ls lv st hn hh hs hl hL hS hc hlo => go hX hh hl hL hS fun ls' lv' st' a b q => hk.2 p e R s m args below meth c Q mc ms n0 ad0 hX hF ad H locs cells slots ls' lv' st' hn hh hs a b q hc hlo⟩
def rDec (M : rM) (pc : Nat) (i : Instr) (n pc' : Nat) : Prop := decode (rMc_ M) pc = .ok (i, n) ∧ pc + n = pc'
section SND
variable {lab : Nat → rM × Nat} {M : rM} {pc pc' : Nat} {nx : rP}
theorem s_Il {i : Nat} {g : List rV → rV} (hg : gOk i g) (hdg : rDec M pc (.iload i) 2 pc' ∨ ∃ k : Fin 4, rDec M pc (.iload_n k) 1 pc' ∧ (k : Nat) = i) (k : rSnd lab M pc' nx) : rSnd lab M pc (oIl g nx) := by
  intro w l d jb jc hb hc L S h res hr
  rcases iS hr with ⟨n, e, hr⟩ | ⟨q, e, hr⟩
  · refine (k w l d jb jc hb hc _ _ _ _ hr).step fun hX _ hl hL hS kk => ?_
    rw [hg] at e
    obtain ⟨v, h1, -, h2⟩ := hL.get hl e (fun z => by cases z)
    obtain ⟨h3, rfl⟩ := h2.i
    rcases hdg with ⟨hdg, rfl⟩ | ⟨q, ⟨hdg, rfl⟩, hq⟩
    · exact lv_iload hX.1 hX.2.1 hdg h1 (kk _ _ _ hl hL ⟨h2, hS⟩)
    · exact lv_iload_n hX.1 hX.2.1 hdg hq h1 (kk _ _ _ hl hL ⟨h2, hS⟩)
  · obtain ⟨a, b, e2, hr⟩ := iX1 hr
    obtain ⟨h5, hr⟩ := iBf hr
    have h6 := blf h5
    refine (k w l d jb jc hb hc _ _ _ _ hr).step fun hX _ hl hL hS kk => ?_
    rw [hg, e2] at e
    obtain ⟨v, h1, -, h2⟩ := hL.get hl e (fun z => by have := congrArg (fun q : rV => match q with | .inr (.inr (.inr p)) => p.1 | _ => 0) z; simp only [vU] at this; omega)
    obtain ⟨y, rfl, h3⟩ := h2.xi (by omega)
    rcases hdg with ⟨hdg, rfl⟩ | ⟨q, ⟨hdg, rfl⟩, hq⟩
    · exact lv_iload hX.1 hX.2.1 hdg h1 (kk _ _ _ hl hL ⟨h2, hS⟩)
    · exact lv_iload_n hX.1 hX.2.1 hdg hq h1 (kk _ _ _ hl hL ⟨h2, hS⟩)

theorem s_Al {i : Nat} {g : List rV → rV} (hg : gOk i g) (hdg : rDec M pc (.aload i) 2 pc' ∨ ∃ k : Fin 4, rDec M pc (.aload_n k) 1 pc' ∧ (k : Nat) = i) (k : rSnd lab M pc' nx) : rSnd lab M pc (oAl g nx) := by
  intro w l d jb jc hb hc L S h res hr
  obtain ⟨n, e, hr⟩ := iA hr
  refine (k w l d jb jc hb hc _ _ _ _ hr).step fun hX _ hl hL hS kk => ?_
  rw [hg] at e
  obtain ⟨v, h1, -, h2⟩ := hL.get hl e (fun z => by cases z)
  have h9 : v = .null ∨ ∃ a, v = .ref a := by
    rcases h2.r with ⟨-, e⟩ | ⟨-, e⟩ | ⟨-, e⟩ | ⟨-, -, e⟩
    · exact Or.inl e
    · exact Or.inr ⟨_, e⟩
    · exact Or.inr ⟨_, e⟩
    · exact Or.inr ⟨_, e⟩
  rcases h9 with rfl | ⟨a, rfl⟩
  · rcases hdg with ⟨hdg, rfl⟩ | ⟨q, ⟨hdg, rfl⟩, hq⟩
    · exact lv_aloadN hX.1 hX.2.1 hdg h1 (kk _ _ _ hl hL ⟨h2, hS⟩)
    · exact lv_aload_nN hX.1 hX.2.1 hdg hq h1 (kk _ _ _ hl hL ⟨h2, hS⟩)
  · rcases hdg with ⟨hdg, rfl⟩ | ⟨q, ⟨hdg, rfl⟩, hq⟩
    · exact lv_aload hX.1 hX.2.1 hdg h1 (kk _ _ _ hl hL ⟨h2, hS⟩)
    · exact lv_aload_n hX.1 hX.2.1 hdg hq h1 (kk _ _ _ hl hL ⟨h2, hS⟩)

theorem s_Ll {i : Nat} {g : List rV → rV} (hg : gOk i g) (hdg : rDec M pc (.lload i) 2 pc' ∨ ∃ k : Fin 4, rDec M pc (.lload_n k) 1 pc' ∧ (k : Nat) = i) (k : rSnd lab M pc' nx) : rSnd lab M pc (oLl g nx) := by
  intro w l d jb jc hb hc L S h res hr
  obtain ⟨n, e, hr⟩ := iL hr
  refine (k w l d jb jc hb hc _ _ _ _ hr).step fun hX _ hl hL hS kk => ?_
  rw [hg] at e
  obtain ⟨v, h1, -, h2⟩ := hL.get hl e (fun z => by cases z)
  obtain ⟨h3, rfl⟩ := h2.l
  rcases hdg with ⟨hdg, rfl⟩ | ⟨q, ⟨hdg, rfl⟩, hq⟩
  · exact lv_lload hX.1 hX.2.1 hdg h1 (kk _ _ _ hl hL ⟨h2, hS⟩)
  · exact lv_lload_n hX.1 hX.2.1 hdg hq h1 (kk _ _ _ hl hL ⟨h2, hS⟩)

theorem s_Dl {i : Nat} {g : List rV → rV} (hg : gOk i g) (hdg : rDec M pc (.dload i) 2 pc' ∨ ∃ k : Fin 4, rDec M pc (.dload_n k) 1 pc' ∧ (k : Nat) = i) (k : rSnd lab M pc' nx) : rSnd lab M pc (oDl g nx) := by
  intro w l d jb jc hb hc L S h res hr
  obtain ⟨a, b, e, hr⟩ := iX hr
  obtain ⟨h5, hr⟩ := iBt hr
  have h6 := bq h5
  refine (k w l d jb jc hb hc _ _ _ _ hr).step fun hX _ hl hL hS kk => ?_
  rw [hg] at e
  obtain ⟨v, h1, -, h2⟩ := hL.get hl e (fun z => by have := congrArg (fun q : rV => match q with | .inr (.inr (.inr p)) => p.1 | _ => 0) z; simp only [vU] at this; omega)
  obtain rfl := h2.d h6
  rcases hdg with ⟨hdg, rfl⟩ | ⟨q, ⟨hdg, rfl⟩, hq⟩
  · exact lv_dload hX.1 hX.2.1 hdg h1 (kk _ _ _ hl hL ⟨h2, hS⟩)
  · exact lv_dload_n hX.1 hX.2.1 hdg hq h1 (kk _ _ _ hl hL ⟨h2, hS⟩)

theorem s_Is {i : Nat} {g : rV → List rV → List rV} (hg : sOk i g) (hn : i < rMl M) (hdg : rDec M pc (.istore i) 2 pc' ∨ ∃ k : Fin 4, rDec M pc (.istore_n k) 1 pc' ∧ (k : Nat) = i) (k : rSnd lab M pc' nx) : rSnd lab M pc (oIs g nx) := by
  intro w l d jb jc hb hc L S h res hr
  obtain ⟨x, S1, rfl, hr⟩ := iP hr
  rcases iS hr with ⟨n, rfl, hr⟩ | ⟨q, rfl, hr⟩
  · refine (k w l d jb jc hb hc _ _ _ _ hr).step fun hX _ hl hL hS kk => ?_
    obtain ⟨v, st1, rfl, h2, hS1⟩ := hS.cons
    obtain ⟨h3, rfl⟩ := h2.i
    rcases hdg with ⟨hdg, rfl⟩ | ⟨q, ⟨hdg, rfl⟩, hq⟩
    · exact lv_istore hX.1 hX.2.1 hdg hl hn rfl (fun ls' hl' => kk ls' _ _ hl' (hL.set1 hg h2) hS1)
    · exact lv_istore_n hX.1 hX.2.1 hdg hq hl hn rfl (fun ls' hl' => kk ls' _ _ hl' (hL.set1 hg h2) hS1)
  · obtain ⟨a, b, e2, hr⟩ := iX1 hr
    obtain ⟨h5, hr⟩ := iBf hr
    have h6 := blf h5
    refine (k w l d jb jc hb hc _ _ _ _ hr).step fun hX _ hl hL hS kk => ?_
    obtain ⟨v, st1, rfl, h2, hS1⟩ := hS.cons
    rw [e2] at h2
    obtain ⟨y, rfl, h3⟩ := h2.xi (by omega)
    rcases hdg with ⟨hdg, rfl⟩ | ⟨q, ⟨hdg, rfl⟩, hq⟩
    · exact lv_istore hX.1 hX.2.1 hdg hl hn rfl (fun ls' hl' => kk ls' _ _ hl' (hL.set1 hg h2) hS1)
    · exact lv_istore_n hX.1 hX.2.1 hdg hq hl hn rfl (fun ls' hl' => kk ls' _ _ hl' (hL.set1 hg h2) hS1)

theorem s_As {i : Nat} {g : rV → List rV → List rV} (hg : sOk i g) (hn : i < rMl M) (hdg : rDec M pc (.astore i) 2 pc' ∨ ∃ k : Fin 4, rDec M pc (.astore_n k) 1 pc' ∧ (k : Nat) = i) (k : rSnd lab M pc' nx) : rSnd lab M pc (oAs g nx) := by
  intro w l d jb jc hb hc L S h res hr
  obtain ⟨x, S1, rfl, hr⟩ := iP hr
  obtain ⟨n, rfl, hr⟩ := iA hr
  refine (k w l d jb jc hb hc _ _ _ _ hr).step fun hX _ hl hL hS kk => ?_
  obtain ⟨v, st1, rfl, h2, hS1⟩ := hS.cons
  have h9 : v = .null ∨ ∃ a, v = .ref a := by
    rcases h2.r with ⟨-, e⟩ | ⟨-, e⟩ | ⟨-, e⟩ | ⟨-, -, e⟩
    · exact Or.inl e
    · exact Or.inr ⟨_, e⟩
    · exact Or.inr ⟨_, e⟩
    · exact Or.inr ⟨_, e⟩
  rcases h9 with rfl | ⟨a, rfl⟩
  · rcases hdg with ⟨hdg, rfl⟩ | ⟨q, ⟨hdg, rfl⟩, hq⟩
    · exact lv_astoreN hX.1 hX.2.1 hdg hl hn rfl (fun ls' hl' => kk ls' _ _ hl' (hL.set1 hg h2) hS1)
    · exact lv_astore_nN hX.1 hX.2.1 hdg hq hl hn rfl (fun ls' hl' => kk ls' _ _ hl' (hL.set1 hg h2) hS1)
  · rcases hdg with ⟨hdg, rfl⟩ | ⟨q, ⟨hdg, rfl⟩, hq⟩
    · exact lv_astore hX.1 hX.2.1 hdg hl hn rfl (fun ls' hl' => kk ls' _ _ hl' (hL.set1 hg h2) hS1)
    · exact lv_astore_n hX.1 hX.2.1 hdg hq hl hn rfl (fun ls' hl' => kk ls' _ _ hl' (hL.set1 hg h2) hS1)

theorem s_Ls {i : Nat} {g : rV → List rV → List rV} (hg : dOk i g) (hn : i + 1 < rMl M) (hdg : rDec M pc (.lstore i) 2 pc' ∨ ∃ k : Fin 4, rDec M pc (.lstore_n k) 1 pc' ∧ (k : Nat) = i) (k : rSnd lab M pc' nx) : rSnd lab M pc (oLs g nx) := by
  intro w l d jb jc hb hc L S h res hr
  obtain ⟨x, S1, rfl, hr⟩ := iP hr
  obtain ⟨n, rfl, hr⟩ := iL hr
  refine (k w l d jb jc hb hc _ _ _ _ hr).step fun hX _ hl hL hS kk => ?_
  obtain ⟨v, st1, rfl, h2, hS1⟩ := hS.cons
  obtain ⟨h3, rfl⟩ := h2.l
  rcases hdg with ⟨hdg, rfl⟩ | ⟨q, ⟨hdg, rfl⟩, hq⟩
  · exact lv_lstore hX.1 hX.2.1 hdg hl hn rfl (fun ls' hl' => kk ls' _ _ hl' (hL.set2 hg h2) hS1)
  · exact lv_lstore_n hX.1 hX.2.1 hdg hq hl hn rfl (fun ls' hl' => kk ls' _ _ hl' (hL.set2 hg h2) hS1)

theorem s_Ds {i : Nat} {g : rV → List rV → List rV} (hg : dOk i g) (hn : i + 1 < rMl M) (hdg : rDec M pc (.dstore i) 2 pc' ∨ ∃ k : Fin 4, rDec M pc (.dstore_n k) 1 pc' ∧ (k : Nat) = i) (k : rSnd lab M pc' nx) : rSnd lab M pc (oDs g nx) := by
  intro w l d jb jc hb hc L S h res hr
  obtain ⟨x, S1, rfl, hr⟩ := iP hr
  obtain ⟨a, b, rfl, hr⟩ := iX hr
  obtain ⟨h5, hr⟩ := iBt hr
  have h6 := bq h5
  refine (k w l d jb jc hb hc _ _ _ _ hr).step fun hX _ hl hL hS kk => ?_
  obtain ⟨v, st1, rfl, h2, hS1⟩ := hS.cons
  obtain rfl := h2.d h6
  rcases hdg with ⟨hdg, rfl⟩ | ⟨q, ⟨hdg, rfl⟩, hq⟩
  · exact lv_dstore hX.1 hX.2.1 hdg hl hn rfl (fun ls' hl' => kk ls' _ _ hl' (hL.set2 hg h2) hS1)
  · exact lv_dstore_n hX.1 hX.2.1 hdg hq hl hn rfl (fun ls' hl' => kk ls' _ _ hl' (hL.set2 hg h2) hS1)

theorem s_ic {n : Int} {N : Nat} (hdg : rDec M pc (.iconst n) 1 pc') (hv : Int32.ofInt n = nI N) (hN : N < 4294967296) (k : rSnd lab M pc' nx) : rSnd lab M pc (oPsh (vI N) nx) := by
  intro w l d jb jc hb hc L S h res hr
  refine (k w l d jb jc hb hc _ _ _ _ hr).step fun hX _ hl hL hS kk => ?_
  obtain ⟨hdg, rfl⟩ := hdg
  exact lv_iconst hX.1 hX.2.1 hdg hv (kk _ _ _ hl hL ⟨⟨hN, rfl⟩, hS⟩)

theorem s_bi {n : Int} {N : Nat} (hdg : rDec M pc (.bipush n) 2 pc') (hv : (Int8.ofInt n).toInt32 = nI N) (hN : N < 4294967296) (k : rSnd lab M pc' nx) : rSnd lab M pc (oPsh (vI N) nx) := by
  intro w l d jb jc hb hc L S h res hr
  refine (k w l d jb jc hb hc _ _ _ _ hr).step fun hX _ hl hL hS kk => ?_
  obtain ⟨hdg, rfl⟩ := hdg
  exact lv_bipush hX.1 hX.2.1 hdg hv (kk _ _ _ hl hL ⟨⟨hN, rfl⟩, hS⟩)

theorem s_si {n : Int} {N : Nat} (hdg : rDec M pc (.sipush n) 3 pc') (hv : (Int16.ofInt n).toInt32 = nI N) (hN : N < 4294967296) (k : rSnd lab M pc' nx) : rSnd lab M pc (oPsh (vI N) nx) := by
  intro w l d jb jc hb hc L S h res hr
  refine (k w l d jb jc hb hc _ _ _ _ hr).step fun hX _ hl hL hS kk => ?_
  obtain ⟨hdg, rfl⟩ := hdg
  exact lv_sipush hX.1 hX.2.1 hdg hv (kk _ _ _ hl hL ⟨⟨hN, rfl⟩, hS⟩)

theorem s_lc {n : Fin 2} {N : Nat} (hdg : rDec M pc (.lconst n) 1 pc') (hv : Int64.ofNat (n : Nat) = lN N) (hN : N < 18446744073709551616) (k : rSnd lab M pc' nx) : rSnd lab M pc (oPsh (vL N) nx) := by
  intro w l d jb jc hb hc L S h res hr
  refine (k w l d jb jc hb hc _ _ _ _ hr).step fun hX _ hl hL hS kk => ?_
  obtain ⟨hdg, rfl⟩ := hdg
  exact lv_lconst hX.1 hX.2.1 hdg hv (kk _ _ _ hl hL ⟨⟨hN, rfl⟩, hS⟩)

theorem s_nu (hdg : rDec M pc .aconst_null 1 pc') (k : rSnd lab M pc' nx) : rSnd lab M pc (oPsh (vR 0) nx) := by
  intro w l d jb jc hb hc L S h res hr
  refine (k w l d jb jc hb hc _ _ _ _ hr).step fun hX _ hl hL hS kk => ?_
  obtain ⟨hdg, rfl⟩ := hdg
  exact lv_null hX.1 hX.2.1 hdg (kk _ _ _ hl hL ⟨Or.inl ⟨rfl, rfl⟩, hS⟩)

theorem s_ld {i N : Nat} {own : String} {v : Int32} (ho : (rMy M).cls = own) (hw : Cond.constant own i v ∈ rTG) (hdg : rDec M pc (.ldc i) 2 pc') (hv : v = nI N) (hN : N < 4294967296) (k : rSnd lab M pc' nx) : rSnd lab M pc (oPsh (vI N) nx) := by
  intro w l d jb jc hb hc L S h res hr
  refine (k w l d jb jc hb hc _ _ _ _ hr).step fun hX _ hl hL hS kk => ?_
  obtain ⟨hdg, rfl⟩ := hdg
  exact (by subst hv; exact lv_ldc hX.1 hX.2.1 (ho ▸ hX.2.2.2.1) (hX.2.2.2.2.1 _ hw) hdg (kk _ _ _ hl hL ⟨⟨hN, rfl⟩, hS⟩))

theorem s_ld2 {i N : Nat} {own : String} {v : Int64} (ho : (rMy M).cls = own) (hw : Cond.constantLong own i v ∈ rTG) (hdg : rDec M pc (.ldc2_w i) 3 pc') (hv : v = lN N) (hN : N < 18446744073709551616) (k : rSnd lab M pc' nx) : rSnd lab M pc (oPsh (vL N) nx) := by
  intro w l d jb jc hb hc L S h res hr
  refine (k w l d jb jc hb hc _ _ _ _ hr).step fun hX _ hl hL hS kk => ?_
  obtain ⟨hdg, rfl⟩ := hdg
  exact (by subst hv; exact lv_ldc2 hX.1 hX.2.1 (ho ▸ hX.2.2.2.1) (hX.2.2.2.2.1 _ hw) hdg (kk _ _ _ hl hL ⟨⟨hN, rfl⟩, hS⟩))

theorem s_Dup (hdg : rDec M pc .dup 1 pc') (k : rSnd lab M pc' nx) : rSnd lab M pc (oDup nx) := by
  intro w l d jb jc hb hc L S h res hr
  obtain ⟨x, S1, rfl, hr⟩ := iP hr
  obtain ⟨h1, hr⟩ := iBf hr
  refine (k w l d jb jc hb hc _ _ _ _ hr).step fun hX _ hl hL hS kk => ?_
  obtain ⟨hdg, rfl⟩ := hdg
  obtain ⟨v, st1, rfl, h2, hS1⟩ := hS.cons
  exact lv_dup hX.1 hX.2.1 hdg (h2.c1 h1) (kk _ _ _ hl hL ⟨h2, h2, hS1⟩)
theorem s_Pop (hdg : rDec M pc .pop 1 pc') (k : rSnd lab M pc' nx) : rSnd lab M pc (oPop nx) := by
  intro w l d jb jc hb hc L S h res hr
  obtain ⟨x, S1, rfl, hr⟩ := iP hr
  obtain ⟨h1, hr⟩ := iBf hr
  refine (k w l d jb jc hb hc _ _ _ _ hr).step fun hX _ hl hL hS kk => ?_
  obtain ⟨hdg, rfl⟩ := hdg
  obtain ⟨v, st1, rfl, h2, hS1⟩ := hS.cons
  exact lv_pop hX.1 hX.2.1 hdg (h2.c1 h1) (kk _ _ _ hl hL hS1)
theorem s_DupX (hdg : rDec M pc .dup_x1 1 pc') (k : rSnd lab M pc' nx) : rSnd lab M pc (oDupX nx) := by
  intro w l d jb jc hb hc L S h res hr
  obtain ⟨x, S1, rfl, hr⟩ := iP hr
  obtain ⟨y, S2, rfl, hr⟩ := iP hr
  obtain ⟨h1, hr⟩ := iBf hr
  obtain ⟨h1', hr⟩ := iBf hr
  refine (k w l d jb jc hb hc _ _ _ _ hr).step fun hX _ hl hL hS kk => ?_
  obtain ⟨hdg, rfl⟩ := hdg
  obtain ⟨v, st1, rfl, h2, hS1⟩ := hS.cons
  obtain ⟨v', st2, rfl, h2', hS2⟩ := hS1.cons
  exact lv_dup_x1 hX.1 hX.2.1 hdg (h2.c1 h1) (h2'.c1 h1') (kk _ _ _ hl hL ⟨h2, h2', h2, hS2⟩)
theorem s_Dup2 (hdg : rDec M pc .dup2 1 pc') (k : rSnd lab M pc' nx) : rSnd lab M pc (oDup2 nx) := by
  intro w l d jb jc hb hc L S h res hr
  obtain ⟨x, S1, rfl, hr⟩ := iP hr
  obtain ⟨y, S2, rfl, hr⟩ := iP hr
  obtain ⟨h1, hr⟩ := iBf hr
  obtain ⟨h1', hr⟩ := iBf hr
  refine (k w l d jb jc hb hc _ _ _ _ hr).step fun hX _ hl hL hS kk => ?_
  obtain ⟨hdg, rfl⟩ := hdg
  obtain ⟨v, st1, rfl, h2, hS1⟩ := hS.cons
  obtain ⟨v', st2, rfl, h2', hS2⟩ := hS1.cons
  exact lv_dup2_11 hX.1 hX.2.1 hdg (h2.c1 h1) (h2'.c1 h1') (kk _ _ _ hl hL ⟨h2, h2', h2, h2', hS2⟩)
-- two ints: what a row gives, and what it must give
def rB2 (M : rM) (i : Instr) (pc : Nat) (ok : Int32 → Int32 → Prop) (F : Int32 → Int32 → Int32) : Prop := ∀ {p : Program} {l : Launch} {e : Env} {R : Room} {s : State} {m : MethodId} {args : Array Value} {below : List Frame} {meth : Method} {c : Code} {Q : State → Prop} {H : Heap} {locs : List Loc} {cells slots : Nat} {ls : Array Slot} {rest : List Value} {x y : Int32}, p.tables.exec = Jvm.exec → c.code = rMc_ M → decode (rMc_ M) pc = .ok (i, 1) → ok x y →
  W p l e R s m args below meth c H locs cells slots Q (F0 m (pc + 1) ls (.int (F x y) :: rest)) → W p l e R s m args below meth c H locs cells slots Q (F0 m pc ls (.int y :: .int x :: rest))
def rL2 (M : rM) (i : Instr) (pc : Nat) (ok : Int64 → Int64 → Prop) (F : Int64 → Int64 → Int64) : Prop := ∀ {p : Program} {l : Launch} {e : Env} {R : Room} {s : State} {m : MethodId} {args : Array Value} {below : List Frame} {meth : Method} {c : Code} {Q : State → Prop} {H : Heap} {locs : List Loc} {cells slots : Nat} {ls : Array Slot} {rest : List Value} {x y : Int64}, p.tables.exec = Jvm.exec → c.code = rMc_ M → decode (rMc_ M) pc = .ok (i, 1) → ok x y →
  W p l e R s m args below meth c H locs cells slots Q (F0 m (pc + 1) ls (.long (F x y) :: rest)) → W p l e R s m args below meth c H locs cells slots Q (F0 m pc ls (.long y :: .long x :: rest))
def rLS (M : rM) (i : Instr) (pc : Nat) (F : Int64 → Int32 → Int64) : Prop := ∀ {p : Program} {l : Launch} {e : Env} {R : Room} {s : State} {m : MethodId} {args : Array Value} {below : List Frame} {meth : Method} {c : Code} {Q : State → Prop} {H : Heap} {locs : List Loc} {cells slots : Nat} {ls : Array Slot} {rest : List Value} {x : Int64} {y : Int32}, p.tables.exec = Jvm.exec → c.code = rMc_ M → decode (rMc_ M) pc = .ok (i, 1) →
  W p l e R s m args below meth c H locs cells slots Q (F0 m (pc + 1) ls (.long (F x y) :: rest)) → W p l e R s m args below meth c H locs cells slots Q (F0 m pc ls (.int y :: .long x :: rest))
-- what the interpreter's numbers say of the ints; g of a first, e of a second that lies between two numbers
def rF2 (f : Nat → Nat → Nat) (ok : Int32 → Int32 → Prop) (okN : Nat → Nat → Bool) (F : Int32 → Int32 → Int32) : Prop := ∀ x y, x < 4294967296 → y < 4294967296 → okN x y = true → ok (nI x) (nI y) ∧ F (nI x) (nI y) = nI (f x y) ∧ f x y < 4294967296
def rG2 (g : Nat → Nat → Nat → Option rV) (ok : Int32 → Int32 → Prop) (F : Int32 → Int32 → Int32) : Prop := ∀ p q y z v, y < 4294967296 → g p q y = some v → p < 17179869184 ∧ (rVi (vX p q) z → ok z (nI y) ∧ rVi v (F z (nI y)))
def rE2 (g : Nat → Nat → Nat → Option rV) (ok : Int32 → Int32 → Prop) (F : Int32 → Int32 → Int32) : Prop := ∀ x p q z v, x < 4294967296 → g x p q = some v → p < 17179869184 ∧ (rVi (vX p q) z → ok (nI x) z ∧ rVi v (F (nI x) z))
theorem rG2_x {ok : Int32 → Int32 → Prop} {F : Int32 → Int32 → Int32} : rG2 xN ok F := fun _ _ _ _ _ _ h => by cases h
theorem rE2_x {ok : Int32 → Int32 → Prop} {F : Int32 → Int32 → Int32} : rE2 xN ok F := fun _ _ _ _ _ _ h => by cases h
theorem s_Bin {f : Nat → Nat → Nat} {g e : Nat → Nat → Nat → Option rV} {i : Instr} {ok : Int32 → Int32 → Prop} {F : Int32 → Int32 → Int32} (hR : rB2 M i pc ok F) (hf : rF2 f ok (fun _ _ => true) F) (hg : rG2 g ok F) (he : rE2 e ok F) (hdg : rDec M pc i 1 pc') (k : rSnd lab M pc' nx) : rSnd lab M pc (oBin f g e nx) := by
  intro w l d jb jc hb hc L S h res hr
  obtain ⟨b, S1, rfl, hr⟩ := iP hr
  obtain ⟨a, S2, rfl, hr⟩ := iP hr
  obtain ⟨hdg, rfl⟩ := hdg
  rcases iS hr with ⟨y, rfl, hr⟩ | ⟨q, rfl, hr⟩
  · rcases iS hr with ⟨x, rfl, hr⟩ | ⟨q, rfl, hr⟩
    · refine (k w l d jb jc hb hc _ _ _ _ hr).step fun hX _ hl hL hS kk => ?_
      obtain ⟨v, st1, rfl, h2, hS1⟩ := hS.cons
      obtain ⟨v', st2, rfl, h3, hS2⟩ := hS1.cons
      obtain ⟨l2, rfl⟩ := h2.i
      obtain ⟨l3, rfl⟩ := h3.i
      obtain ⟨f1, f2, f3⟩ := hf x y l3 l2 rfl
      exact hR hX.1 hX.2.1 hdg f1 (kk _ _ _ hl hL ⟨⟨f3, by rw [f2]⟩, hS2⟩)
    · obtain ⟨p1, q1, e1, hr⟩ := iX1 hr
      obtain ⟨v9, e9, hr⟩ := iO hr
      refine (k w l d jb jc hb hc _ _ _ _ hr).step fun hX _ hl hL hS kk => ?_
      obtain ⟨v, st1, rfl, h2, hS1⟩ := hS.cons
      obtain ⟨v', st2, rfl, h3, hS2⟩ := hS1.cons
      obtain ⟨l2, rfl⟩ := h2.i
      rw [e1] at h3
      obtain ⟨z, rfl, hz⟩ := h3.xi (by have := (hg p1 q1 y 0 v9 l2 e9).1; omega)
      obtain ⟨f1, f2⟩ := (hg p1 q1 y z v9 l2 e9).2 hz
      exact hR hX.1 hX.2.1 hdg f1 (kk _ _ _ hl hL ⟨f2.val, hS2⟩)
  · obtain ⟨p1, q1, e1, hr⟩ := iX1 hr
    obtain ⟨x, rfl, hr⟩ := iI hr
    obtain ⟨v9, e9, hr⟩ := iO hr
    refine (k w l d jb jc hb hc _ _ _ _ hr).step fun hX _ hl hL hS kk => ?_
    obtain ⟨v, st1, rfl, h2, hS1⟩ := hS.cons
    obtain ⟨v', st2, rfl, h3, hS2⟩ := hS1.cons
    obtain ⟨l3, rfl⟩ := h3.i
    rw [e1] at h2
    obtain ⟨z, rfl, hz⟩ := h2.xi (by have := (he x p1 q1 0 v9 l3 e9).1; omega)
    obtain ⟨f1, f2⟩ := (he x p1 q1 z v9 l3 e9).2 hz
    exact hR hX.1 hX.2.1 hdg f1 (kk _ _ _ hl hL ⟨f2.val, hS2⟩)
theorem s_Div {okN : Nat → Nat → Bool} {f : Nat → Nat → Nat} {g : Nat → Nat → Nat → Option rV} {i : Instr} {ok : Int32 → Int32 → Prop} {F : Int32 → Int32 → Int32} (hR : rB2 M i pc ok F) (hf : rF2 f ok okN F) (hg : rG2 g ok F) (hdg : rDec M pc i 1 pc') (k : rSnd lab M pc' nx) : rSnd lab M pc (oDiv okN f g nx) := by
  intro w l d jb jc hb hc L S h res hr
  obtain ⟨b, S1, rfl, hr⟩ := iP hr
  obtain ⟨a, S2, rfl, hr⟩ := iP hr
  obtain ⟨hdg, rfl⟩ := hdg
  obtain ⟨y, rfl, hr⟩ := iI hr
  rcases iS hr with ⟨x, rfl, hr⟩ | ⟨q, rfl, hr⟩
  · obtain ⟨hok, hr⟩ := iBt hr
    refine (k w l d jb jc hb hc _ _ _ _ hr).step fun hX _ hl hL hS kk => ?_
    obtain ⟨v, st1, rfl, h2, hS1⟩ := hS.cons
    obtain ⟨v', st2, rfl, h3, hS2⟩ := hS1.cons
    obtain ⟨l2, rfl⟩ := h2.i
    obtain ⟨l3, rfl⟩ := h3.i
    obtain ⟨f1, f2, f3⟩ := hf x y l3 l2 hok
    exact hR hX.1 hX.2.1 hdg f1 (kk _ _ _ hl hL ⟨⟨f3, by rw [f2]⟩, hS2⟩)
  · obtain ⟨p1, q1, e1, hr⟩ := iX1 hr
    obtain ⟨v9, e9, hr⟩ := iO hr
    refine (k w l d jb jc hb hc _ _ _ _ hr).step fun hX _ hl hL hS kk => ?_
    obtain ⟨v, st1, rfl, h2, hS1⟩ := hS.cons
    obtain ⟨v', st2, rfl, h3, hS2⟩ := hS1.cons
    obtain ⟨l2, rfl⟩ := h2.i
    rw [e1] at h3
    obtain ⟨z, rfl, hz⟩ := h3.xi (by have := (hg p1 q1 y 0 v9 l2 e9).1; omega)
    obtain ⟨f1, f2⟩ := (hg p1 q1 y z v9 l2 e9).2 hz
    exact hR hX.1 hX.2.1 hdg f1 (kk _ _ _ hl hL ⟨f2.val, hS2⟩)
theorem s_BinL {okN : Nat → Nat → Bool} {f : Nat → Nat → Nat} {i : Instr} {ok : Int64 → Int64 → Prop} {F : Int64 → Int64 → Int64} (hR : rL2 M i pc ok F) (hf : ∀ x y, x < 18446744073709551616 → y < 18446744073709551616 → okN x y = true → ok (lN x) (lN y) ∧ F (lN x) (lN y) = lN (f x y) ∧ f x y < 18446744073709551616) (hdg : rDec M pc i 1 pc') (k : rSnd lab M pc' nx) : rSnd lab M pc (oBinL okN f nx) := by
  intro w l d jb jc hb hc L S h res hr
  obtain ⟨b, S1, rfl, hr⟩ := iP hr
  obtain ⟨a, S2, rfl, hr⟩ := iP hr
  obtain ⟨hdg, rfl⟩ := hdg
  obtain ⟨y, rfl, hr⟩ := iL hr
  obtain ⟨x, rfl, hr⟩ := iL hr
  obtain ⟨hok, hr⟩ := iBt hr
  refine (k w l d jb jc hb hc _ _ _ _ hr).step fun hX _ hl hL hS kk => ?_
  obtain ⟨v, st1, rfl, h2, hS1⟩ := hS.cons
  obtain ⟨v', st2, rfl, h3, hS2⟩ := hS1.cons
  obtain ⟨l2, rfl⟩ := h2.l
  obtain ⟨l3, rfl⟩ := h3.l
  obtain ⟨f1, f2, f3⟩ := hf x y l3 l2 hok
  exact hR hX.1 hX.2.1 hdg f1 (kk _ _ _ hl hL ⟨⟨f3, by rw [f2]⟩, hS2⟩)
theorem s_ShL {f : Nat → Nat → Nat} {i : Instr} {F : Int64 → Int32 → Int64} (hR : rLS M i pc F) (hf : ∀ x y, x < 18446744073709551616 → y < 4294967296 → F (lN x) (nI y) = lN (f x y) ∧ f x y < 18446744073709551616) (hdg : rDec M pc i 1 pc') (k : rSnd lab M pc' nx) : rSnd lab M pc (oShL f nx) := by
  intro w l d jb jc hb hc L S h res hr
  obtain ⟨b, S1, rfl, hr⟩ := iP hr
  obtain ⟨a, S2, rfl, hr⟩ := iP hr
  obtain ⟨hdg, rfl⟩ := hdg
  obtain ⟨y, rfl, hr⟩ := iI hr
  obtain ⟨x, rfl, hr⟩ := iL hr
  refine (k w l d jb jc hb hc _ _ _ _ hr).step fun hX _ hl hL hS kk => ?_
  obtain ⟨v, st1, rfl, h2, hS1⟩ := hS.cons
  obtain ⟨v', st2, rfl, h3, hS2⟩ := hS1.cons
  obtain ⟨l2, rfl⟩ := h2.i
  obtain ⟨l3, rfl⟩ := h3.l
  obtain ⟨f2, f3⟩ := hf x y l3 l2
  exact hR hX.1 hX.2.1 hdg (kk _ _ _ hl hL ⟨⟨f3, by rw [f2]⟩, hS2⟩)
theorem s_Lcmp (hdg : rDec M pc .lcmp 1 pc') (k : rSnd lab M pc' nx) : rSnd lab M pc (oLcmp fLcmp nx) := by
  intro w l d jb jc hb hc L S h res hr
  obtain ⟨b, S1, rfl, hr⟩ := iP hr
  obtain ⟨a, S2, rfl, hr⟩ := iP hr
  obtain ⟨hdg, rfl⟩ := hdg
  obtain ⟨y, rfl, hr⟩ := iL hr
  obtain ⟨x, rfl, hr⟩ := iL hr
  refine (k w l d jb jc hb hc _ _ _ _ hr).step fun hX _ hl hL hS kk => ?_
  obtain ⟨v, st1, rfl, h2, hS1⟩ := hS.cons
  obtain ⟨v', st2, rfl, h3, hS2⟩ := hS1.cons
  obtain ⟨l2, rfl⟩ := h2.l
  obtain ⟨l3, rfl⟩ := h3.l
  obtain ⟨f2, f3⟩ := ml_cmp l3 l2
  exact W.lcmp hX.1 hX.2.1 hdg (kk _ _ _ hl hL ⟨⟨f3, by rw [f2]⟩, hS2⟩)
theorem s_I2l (hdg : rDec M pc .i2l 1 pc') (k : rSnd lab M pc' nx) : rSnd lab M pc (oI2l nx) := by
  intro w l d jb jc hb hc L S h res hr
  obtain ⟨a, S1, rfl, hr⟩ := iP hr
  obtain ⟨hdg, rfl⟩ := hdg
  obtain ⟨x, rfl, hr⟩ := iI hr
  refine (k w l d jb jc hb hc _ _ _ _ hr).step fun hX _ hl hL hS kk => ?_
  obtain ⟨v, st1, rfl, h2, hS1⟩ := hS.cons
  obtain ⟨l2, rfl⟩ := h2.i
  obtain ⟨f2, f3⟩ := m_i2l l2
  exact lv_i2l hX.1 hX.2.1 hdg f2 (kk _ _ _ hl hL ⟨⟨f3, rfl⟩, hS1⟩)
theorem s_L2i (hdg : rDec M pc .l2i 1 pc') (k : rSnd lab M pc' nx) : rSnd lab M pc (oL2i nx) := by
  intro w l d jb jc hb hc L S h res hr
  obtain ⟨a, S1, rfl, hr⟩ := iP hr
  obtain ⟨hdg, rfl⟩ := hdg
  obtain ⟨x, rfl, hr⟩ := iL hr
  refine (k w l d jb jc hb hc _ _ _ _ hr).step fun hX _ hl hL hS kk => ?_
  obtain ⟨v, st1, rfl, h2, hS1⟩ := hS.cons
  obtain ⟨l2, rfl⟩ := h2.l
  exact lv_l2i hX.1 hX.2.1 hdg (m_l2i x) (kk _ _ _ hl hL ⟨⟨Nat.mod_lt _ (by decide), rfl⟩, hS1⟩)
theorem s_Go {off : Int} (hdg : decode (rMc_ M) pc = .ok (.goto off, 3)) (ht : (pc : Int) + off = (pc' : Int)) (k : rSnd lab M pc' nx) : rSnd lab M pc (oGo nx) := by
  intro w l d jb jc hb hc L S h res hr
  exact (k w l d jb jc hb hc _ _ _ _ hr).step fun hX _ hl hL hS kk => lv_goto hX.1 hX.2.1 hdg ht (kk _ _ _ hl hL hS)
theorem s_Inc {i : Nat} {n : Int} {N : Nat} {g : List rV → rV} {t : rV → List rV → List rV} (hg : gOk i g) (hs : sOk i t) (hn : i < rMl M) (hv : Int32.ofInt n = nI N) (hdg : rDec M pc (.iinc i n) 3 pc') (k : rSnd lab M pc' nx) : rSnd lab M pc (oInc g t N nx) := by
  intro w l d jb jc hb hc L S h res hr
  obtain ⟨hdg, rfl⟩ := hdg
  obtain ⟨x, e, hr⟩ := iI hr
  refine (k w l d jb jc hb hc _ _ _ _ hr).step fun hX _ hl hL hS kk => ?_
  rw [hg] at e
  obtain ⟨v, h1, hm, h2⟩ := hL.get hl e (fun z => by cases z)
  obtain ⟨l2, rfl⟩ := h2.i
  obtain ⟨j, hj⟩ := List.getElem?_of_mem hm
  have hadd : nI x + Int32.ofInt n = nI (fAdd x N) := by rw [hv, m_add]
  exact lv_iinc hX.1 hX.2.1 hdg hl hj hadd hn rfl (fun ls' hl' => kk ls' _ _ hl' (hL.set1 hs ⟨Nat.mod_lt _ (by decide), rfl⟩) hS)
-- branches
def rI1 (M : rM) (i : Instr) (pc tg : Nat) (C : Int32 → Prop) : Prop := ∀ {p : Program} {l : Launch} {e : Env} {R : Room} {s : State} {m : MethodId} {args : Array Value} {below : List Frame} {meth : Method} {c : Code} {Q : State → Prop} {H : Heap} {locs : List Loc} {cells slots : Nat} {ls : Array Slot} {rest : List Value} {x : Int32}, p.tables.exec = Jvm.exec → c.code = rMc_ M → decode (rMc_ M) pc = .ok (i, 3) →
  (C x → W p l e R s m args below meth c H locs cells slots Q (F0 m tg ls rest)) → (¬ C x → W p l e R s m args below meth c H locs cells slots Q (F0 m (pc + 3) ls rest)) → W p l e R s m args below meth c H locs cells slots Q (F0 m pc ls (.int x :: rest))
def rI2 (M : rM) (i : Instr) (pc tg : Nat) (C : Int32 → Int32 → Prop) : Prop := ∀ {p : Program} {l : Launch} {e : Env} {R : Room} {s : State} {m : MethodId} {args : Array Value} {below : List Frame} {meth : Method} {c : Code} {Q : State → Prop} {H : Heap} {locs : List Loc} {cells slots : Nat} {ls : Array Slot} {rest : List Value} {x y : Int32}, p.tables.exec = Jvm.exec → c.code = rMc_ M → decode (rMc_ M) pc = .ok (i, 3) →
  (C x y → W p l e R s m args below meth c H locs cells slots Q (F0 m tg ls rest)) → (¬ C x y → W p l e R s m args below meth c H locs cells slots Q (F0 m (pc + 3) ls rest)) → W p l e R s m args below meth c H locs cells slots Q (F0 m pc ls (.int y :: .int x :: rest))
-- a comparison with what the numbers say of it
def rQ2 (c : Nat → Nat → Bool) (g : Nat → Nat → Nat → Option Bool) (C : Int32 → Int32 → Prop) : Prop := (∀ x y, x < 4294967296 → y < 4294967296 → (c x y = true ↔ C (nI x) (nI y))) ∧ ∀ p q y b, y < 4294967296 → g p q y = some b → p ≤ q ∧ q < 4294967296 ∧ ∀ t, t < 4294967296 → p ≤ t → t ≤ q → (b = true ↔ C (nI t) (nI y))
theorem iBr {o : Option Bool} {t f : rR} {r : rO × rH} (h : rBr o t f = some r) : (o = some true ∧ t = some r) ∨ (o = some false ∧ f = some r) := by
  rcases o with _ | _ | _
  · cases h
  · exact Or.inr ⟨rfl, h⟩
  · exact Or.inl ⟨rfl, h⟩
theorem s_If {c : Nat → Bool} {g : Nat → Nat → Option Bool} {c2 : Nat → Nat → Bool} {g2 : Nat → Nat → Nat → Option Bool} {C : Int32 → Int32 → Prop} (hQ : rQ2 c2 g2 C) (hc0 : ∀ x, c x = c2 x 0) (hg0 : ∀ p q, g p q = g2 p q 0) {i : Instr} {tg : Nat} {tn : rP} (hR : rI1 M i pc tg (fun x => C x 0)) (hdg : decode (rMc_ M) pc = .ok (i, 3)) (kt : rSnd lab M tg tn) (kf : rSnd lab M (pc + 3) nx) : rSnd lab M pc (oIf c g tn nx) := by
  intro w l d jb jc hb hc L S h res hr
  obtain ⟨a, S1, rfl, hr⟩ := iP hr
  rcases iS hr with ⟨x, rfl, hr⟩ | ⟨q, rfl, hr⟩
  · rcases iB hr with ⟨hq, hr⟩ | ⟨hq, hr⟩
    · refine (kt w l d jb jc hb hc _ _ _ _ hr).step fun hX _ hl hL hS kk => ?_
      obtain ⟨v, st1, rfl, h2, hS1⟩ := hS.cons
      obtain ⟨l2, rfl⟩ := h2.i
      exact hR hX.1 hX.2.1 hdg (fun _ => kk _ _ _ hl hL hS1) (fun hn => absurd ((hQ.1 x 0 l2 (by decide)).mp (by rw [← hc0]; exact hq)) hn)
    · refine (kf w l d jb jc hb hc _ _ _ _ hr).step fun hX _ hl hL hS kk => ?_
      obtain ⟨v, st1, rfl, h2, hS1⟩ := hS.cons
      obtain ⟨l2, rfl⟩ := h2.i
      exact hR hX.1 hX.2.1 hdg (fun hn => by have := (hQ.1 x 0 l2 (by decide)).mpr hn; rw [← hc0, hq] at this; cases this) (fun _ => kk _ _ _ hl hL hS1)
  · obtain ⟨p1, q1, e1, hr⟩ := iX1 hr
    rcases iBr hr with ⟨hq, hr⟩ | ⟨hq, hr⟩
    · refine (kt w l d jb jc hb hc _ _ _ _ hr).step fun hX _ hl hL hS kk => ?_
      obtain ⟨v, st1, rfl, h2, hS1⟩ := hS.cons
      rw [hg0] at hq
      obtain ⟨f1, f2, f3⟩ := hQ.2 _ _ _ _ (by decide) hq
      rw [e1] at h2
      obtain ⟨t, l2, rfl, f4, f5⟩ := h2.iv f1 f2
      exact hR hX.1 hX.2.1 hdg (fun _ => kk _ _ _ hl hL hS1) (fun hn => absurd ((f3 t l2 f4 f5).mp rfl) hn)
    · refine (kf w l d jb jc hb hc _ _ _ _ hr).step fun hX _ hl hL hS kk => ?_
      obtain ⟨v, st1, rfl, h2, hS1⟩ := hS.cons
      rw [hg0] at hq
      obtain ⟨f1, f2, f3⟩ := hQ.2 _ _ _ _ (by decide) hq
      rw [e1] at h2
      obtain ⟨t, l2, rfl, f4, f5⟩ := h2.iv f1 f2
      exact hR hX.1 hX.2.1 hdg (fun hn => by have := (f3 t l2 f4 f5).mpr hn; cases this) (fun _ => kk _ _ _ hl hL hS1)
theorem s_Ic {c : Nat → Nat → Bool} {g : Nat → Nat → Nat → Option Bool} {C : Int32 → Int32 → Prop} (hQ : rQ2 c g C) {i : Instr} {tg : Nat} {tn : rP} (hR : rI2 M i pc tg C) (hdg : decode (rMc_ M) pc = .ok (i, 3)) (kt : rSnd lab M tg tn) (kf : rSnd lab M (pc + 3) nx) : rSnd lab M pc (oIc c g tn nx) := by
  intro w l d jb jc hb hc L S h res hr
  obtain ⟨b, S1, rfl, hr⟩ := iP hr
  obtain ⟨a, S1, rfl, hr⟩ := iP hr
  obtain ⟨y, rfl, hr⟩ := iI hr
  rcases iS hr with ⟨x, rfl, hr⟩ | ⟨q, rfl, hr⟩
  · rcases iB hr with ⟨hq, hr⟩ | ⟨hq, hr⟩
    · refine (kt w l d jb jc hb hc _ _ _ _ hr).step fun hX _ hl hL hS kk => ?_
      obtain ⟨v, st1, rfl, h2, hS1⟩ := hS.cons
      obtain ⟨v, st2, rfl, h3, hS2⟩ := hS1.cons
      obtain ⟨l2, rfl⟩ := h2.i
      obtain ⟨l3, rfl⟩ := h3.i
      exact hR hX.1 hX.2.1 hdg (fun _ => kk _ _ _ hl hL hS2) (fun hn => absurd ((hQ.1 x y l3 l2).mp hq) hn)
    · refine (kf w l d jb jc hb hc _ _ _ _ hr).step fun hX _ hl hL hS kk => ?_
      obtain ⟨v, st1, rfl, h2, hS1⟩ := hS.cons
      obtain ⟨v, st2, rfl, h3, hS2⟩ := hS1.cons
      obtain ⟨l2, rfl⟩ := h2.i
      obtain ⟨l3, rfl⟩ := h3.i
      exact hR hX.1 hX.2.1 hdg (fun hn => by have := (hQ.1 x y l3 l2).mpr hn; rw [hq] at this; cases this) (fun _ => kk _ _ _ hl hL hS2)
  · obtain ⟨p1, q1, e1, hr⟩ := iX1 hr
    rcases iBr hr with ⟨hq, hr⟩ | ⟨hq, hr⟩
    · refine (kt w l d jb jc hb hc _ _ _ _ hr).step fun hX _ hl hL hS kk => ?_
      obtain ⟨v, st1, rfl, h2, hS1⟩ := hS.cons
      obtain ⟨v, st2, rfl, h3, hS2⟩ := hS1.cons
      obtain ⟨l2, rfl⟩ := h2.i
      obtain ⟨f1, f2, f3⟩ := hQ.2 _ _ _ _ l2 hq
      rw [e1] at h3
      obtain ⟨t, l3, rfl, f4, f5⟩ := h3.iv f1 f2
      exact hR hX.1 hX.2.1 hdg (fun _ => kk _ _ _ hl hL hS2) (fun hn => absurd ((f3 t l3 f4 f5).mp rfl) hn)
    · refine (kf w l d jb jc hb hc _ _ _ _ hr).step fun hX _ hl hL hS kk => ?_
      obtain ⟨v, st1, rfl, h2, hS1⟩ := hS.cons
      obtain ⟨v, st2, rfl, h3, hS2⟩ := hS1.cons
      obtain ⟨l2, rfl⟩ := h2.i
      obtain ⟨f1, f2, f3⟩ := hQ.2 _ _ _ _ l2 hq
      rw [e1] at h3
      obtain ⟨t, l3, rfl, f4, f5⟩ := h3.iv f1 f2
      exact hR hX.1 hX.2.1 hdg (fun hn => by have := (f3 t l3 f4 f5).mpr hn; cases this) (fun _ => kk _ _ _ hl hL hS2)
end SND
end
section
-- ===== the numbers' operations, one by one =====
section ARI
variable {M : rM} {pc : Nat}
theorem q_iadd : rB2 M .iadd pc (fun _ _ => True) (fun x y => x + y) := fun h1 h2 h3 _ k => lv_iadd h1 h2 h3 k
theorem q_isub : rB2 M .isub pc (fun _ _ => True) (fun x y => x - y) := fun h1 h2 h3 _ k => lv_isub h1 h2 h3 k
theorem q_imul : rB2 M .imul pc (fun _ _ => True) (fun x y => x * y) := fun h1 h2 h3 _ k => lv_imul h1 h2 h3 k
theorem q_iand : rB2 M .iand pc (fun _ _ => True) (fun x y => x &&& y) := fun h1 h2 h3 _ k => lv_iand h1 h2 h3 k
theorem q_ior : rB2 M .ior pc (fun _ _ => True) (fun x y => x ||| y) := fun h1 h2 h3 _ k => lv_ior h1 h2 h3 k
theorem q_ishl : rB2 M .ishl pc (fun _ _ => True) (fun x y => x <<< (y &&& 31)) := fun h1 h2 h3 _ k => lv_ishl h1 h2 h3 k
theorem q_ishr : rB2 M .ishr pc (fun _ _ => True) (fun x y => x >>> (y &&& 31)) := fun h1 h2 h3 _ k => lv_ishr h1 h2 h3 k
theorem q_iushr : rB2 M .iushr pc (fun _ _ => True) (fun x y => (x.toUInt32 >>> (y.toUInt32 &&& Int32.toUInt32 31)).toInt32) := fun h1 h2 h3 _ k => lv_iushr h1 h2 h3 rfl k
theorem q_idiv : rB2 M .idiv pc (fun _ y => ¬ y = 0) (fun x y => x / y) := fun h1 h2 h3 h4 k => lv_idiv h1 h2 h3 h4 k
theorem q_irem : rB2 M .irem pc (fun _ y => ¬ y = 0) (fun x y => x - x / y * y) := fun h1 h2 h3 h4 k => lv_irem h1 h2 h3 h4 k
theorem q_ladd : rL2 M .ladd pc (fun _ _ => True) (fun x y => x + y) := fun h1 h2 h3 _ k => lv_ladd h1 h2 h3 k
theorem q_lmul : rL2 M .lmul pc (fun _ _ => True) (fun x y => x * y) := fun h1 h2 h3 _ k => lv_lmul h1 h2 h3 k
theorem q_land : rL2 M .land pc (fun _ _ => True) (fun x y => x &&& y) := fun h1 h2 h3 _ k => lv_land h1 h2 h3 k
theorem q_lor : rL2 M .lor pc (fun _ _ => True) (fun x y => x ||| y) := fun h1 h2 h3 _ k => lv_lor h1 h2 h3 k
theorem q_ldiv : rL2 M .ldiv pc (fun _ y => ¬ y = 0) (fun x y => x / y) := fun h1 h2 h3 h4 k => lv_ldiv h1 h2 h3 h4 k
theorem q_lrem : rL2 M .lrem pc (fun _ y => ¬ y = 0) (fun x y => x - x / y * y) := fun h1 h2 h3 h4 k => lv_lrem h1 h2 h3 h4 k
theorem q_lshl : rLS M .lshl pc (fun x y => x <<< (y.toInt64 &&& 63)) := fun h1 h2 h3 k => lv_lshl h1 h2 h3 rfl k
theorem q_lshr : rLS M .lshr pc (fun x y => x >>> (y.toInt64 &&& 63)) := fun h1 h2 h3 k => lv_lshr h1 h2 h3 rfl k
theorem q_lushr : rLS M .lushr pc (fun x y => (x.toUInt64 >>> (y.toInt64.toUInt64 &&& Int64.toUInt64 63)).toInt64) := fun h1 h2 h3 k => lv_lushr h1 h2 h3 rfl k
theorem n_add : rF2 fAdd (fun _ _ => True) (fun _ _ => true) (fun x y => x + y) := fun x y _ _ _ => ⟨trivial, m_add x y, Nat.mod_lt _ (by decide)⟩
theorem n_sub : rF2 fSub (fun _ _ => True) (fun _ _ => true) (fun x y => x - y) := fun x y hx hy _ => ⟨trivial, m_sub hx hy, Nat.mod_lt _ (by decide)⟩
theorem n_mul : rF2 fMul (fun _ _ => True) (fun _ _ => true) (fun x y => x * y) := fun x y _ _ _ => ⟨trivial, m_mul x y, Nat.mod_lt _ (by decide)⟩
theorem n_and : rF2 fAnd (fun _ _ => True) (fun _ _ => true) (fun x y => x &&& y) := fun x y hx hy _ => ⟨trivial, m_and, m_and_lt hx⟩
theorem n_or : rF2 fOr (fun _ _ => True) (fun _ _ => true) (fun x y => x ||| y) := fun x y hx hy _ => ⟨trivial, m_or, m_or_lt hx hy⟩
theorem n_shl : rF2 fShl (fun _ _ => True) (fun _ _ => true) (fun x y => x <<< (y &&& 31)) := fun x y hx hy _ => ⟨trivial, m_shl hx hy, m_shl_lt x y⟩
theorem n_shr : rF2 fShr (fun _ _ => True) (fun _ _ => true) (fun x y => x >>> (y &&& 31)) := fun x y hx hy _ => ⟨trivial, m_shr hx hy⟩
theorem n_ush : rF2 fUsh (fun _ _ => True) (fun _ _ => true) (fun x y => (x.toUInt32 >>> (y.toUInt32 &&& Int32.toUInt32 31)).toInt32) := fun x y hx hy _ => ⟨trivial, m_ushr hx hy⟩
theorem n_div : rF2 fDiv (fun _ y => ¬ y = 0) aDv (fun x y => x / y) := fun x y _ _ h => ⟨(m_div h).1, (m_div h).2.1, (m_div h).2.2.1⟩
theorem n_rem : rF2 fRem (fun _ y => ¬ y = 0) aDv (fun x y => x - x / y * y) := fun x y _ _ h => ⟨(m_div h).1, (m_div h).2.2.2.1, (m_div h).2.2.2.2⟩
theorem rVi.ivl {p q : Nat} {z : Int32} (h : rVi (vX p q) z) (hq : q < 4294967296) : ∃ t, t < 4294967296 ∧ z = nI t ∧ p ≤ t ∧ t ≤ q := by
  rcases h with ⟨t, h1, e2, h3, h4⟩ | ⟨h5, -⟩
  · exact ⟨t, h1, e2, h3, h4⟩
  · omega
theorem gIv_i {p q m : Nat} {k : Option rV} {v : rV} (h : gIv p q m k = some v) : p ≤ q ∧ q ≤ m ∧ k = some v := by
  unfold gIv at h
  obtain ⟨h1, h⟩ := iBt h
  obtain ⟨h2, h⟩ := iBt h
  exact ⟨bl h1, bl h2, h⟩
theorem gMk_i {p q t : Nat} {v : rV} (h : gMk p q = some v) (h1 : p ≤ t) (h2 : t ≤ q) (ht : t < 4294967296) : rVi v (nI t) := by
  unfold gMk at h
  rcases iB h with ⟨hq, h⟩ | ⟨-, h⟩
  · have e := bq hq
    cases h
    obtain rfl : t = p := by omega
    exact ⟨ht, rfl⟩
  · cases h
    exact Or.inl ⟨t, ht, rfl, h1, h2⟩
theorem e_add : rE2 gAdd (fun _ _ => True) (fun x y => x + y) := by
  intro x p q z v hx h
  unfold gAdd at h
  obtain ⟨h1, h2, h⟩ := gIv_i h
  obtain ⟨h3, h⟩ := iBt h
  have h4 : x + q ≤ 2147483647 := bl h3
  cases h
  refine ⟨by omega, fun hz => ⟨trivial, ?_⟩⟩
  obtain ⟨t, t1, rfl, t2, t3⟩ := hz.ivl (by omega)
  show rVi (vX (x + p) (x + q)) (nI x + nI t)
  rw [m_add]
  have e : fAdd x t = x + t := Nat.mod_eq_of_lt (show x + t < 4294967296 by omega)
  rw [e]
  exact Or.inl ⟨x + t, by omega, rfl, by omega, by omega⟩
theorem sh_mono {a b k : Nat} (h : a ≤ b) : a >>> k ≤ b >>> k := by
  rw [Nat.shiftRight_eq_div_pow, Nat.shiftRight_eq_div_pow]; exact Nat.div_le_div_right h
theorem sh_le {a k : Nat} : a >>> k ≤ a := by
  rw [Nat.shiftRight_eq_div_pow]; exact Nat.div_le_self _ _
theorem g_ush : rG2 gShr (fun _ _ => True) (fun x y => (x.toUInt32 >>> (y.toUInt32 &&& Int32.toUInt32 31)).toInt32) := by
  intro p q y z v hy h
  unfold gShr at h
  obtain ⟨h1, h2, h⟩ := gIv_i h
  refine ⟨by omega, fun hz => ⟨trivial, ?_⟩⟩
  obtain ⟨t, t1, rfl, t2, t3⟩ := hz.ivl (by omega)
  obtain ⟨m1, m2⟩ := m_ushr t1 hy
  have := gMk_i h (sh_mono t2) (sh_mono t3) m2
  exact (congrArg (rVi v) m1).mpr this
theorem g_shr : rG2 gShr (fun _ _ => True) (fun x y => x >>> (y &&& 31)) := by
  intro p q y z v hy h
  unfold gShr at h
  obtain ⟨h1, h2, h⟩ := gIv_i h
  refine ⟨by omega, fun hz => ⟨trivial, ?_⟩⟩
  obtain ⟨t, t1, rfl, t2, t3⟩ := hz.ivl (by omega)
  obtain ⟨m1, m2⟩ := m_shr t1 hy
  have e : fShr t y = t >>> (y % 32) := by
    unfold fShr
    rw [show Nat.ble 2147483648 t = false from Bool.eq_false_iff.mpr (fun q => absurd (Nat.le_of_ble_eq_true q) (by omega))]
    rfl
  rw [e] at m1 m2
  have := gMk_i h (sh_mono t2) (sh_mono t3) m2
  exact (congrArg (rVi v) m1).mpr this
theorem g_div : rG2 gDiv (fun _ y => ¬ y = 0) (fun x y => x / y) := by
  intro p q y z v hy h
  unfold gDiv at h
  obtain ⟨h0, h⟩ := iBf h
  obtain ⟨h0', h⟩ := iBt h
  obtain ⟨h1, h2, h⟩ := gIv_i h
  have y0 := blf h0
  have y1 := bl h0'
  refine ⟨by omega, fun hz => ?_⟩
  obtain ⟨t, t1, rfl, t2, t3⟩ := hz.ivl (by omega)
  have hd : t / y ≤ t := Nat.div_le_self _ _
  refine ⟨nI_ne0 y0 (by omega), ?_⟩
  show rVi v (nI t / nI y)
  rw [pk_div (show t < 2 ^ 31 by omega) y0 (by omega)]
  exact gMk_i h (Nat.div_le_div_right t2) (Nat.div_le_div_right t3) (by omega)
theorem g_and : rG2 gAnd (fun _ _ => True) (fun x y => x &&& y) := by
  intro p q y z v hy h
  unfold gAnd at h
  rcases iB h with ⟨h0, h⟩ | ⟨-, h⟩
  · obtain ⟨h1, h⟩ := iBt h
    obtain ⟨h2, h⟩ := iBt h
    have p1 := bl h1
    have p2 := bl h2
    have y1 := bq h0
    cases h
    refine ⟨by omega, fun hz => ⟨trivial, ?_⟩⟩
    subst y1
    rcases hz with ⟨t, t1, rfl, t2, t3⟩ | ⟨-, -, t, t1, rfl, t2⟩
    · omega
    · show rVi (vI (p - 4294967296)) (nI t &&& nI 63)
      rw [m_and]
      have e : fAnd t 63 = t % 64 := by
        show t &&& (2 ^ 6 - 1) = t % 2 ^ 6
        exact Nat.and_two_pow_sub_one_eq_mod t 6
      rw [e]
      have : t % 64 < 64 := Nat.mod_lt _ (by decide)
      have e2 : p - 4294967296 = t % 64 := by omega
      rw [e2]
      exact ⟨by omega, rfl⟩
  · obtain ⟨h1, h⟩ := iBt h
    obtain ⟨h2, h3, h⟩ := gIv_i h
    have y1 := bq h1
    cases h
    refine ⟨by omega, fun hz => ⟨trivial, ?_⟩⟩
    subst y1
    obtain ⟨t, t1, rfl, -, -⟩ := hz.ivl (by omega)
    show rVi (vX 0 3) (nI t &&& nI 3)
    rw [m_and]
    have e : fAnd t 3 = t % 4 := by
      show t &&& (2 ^ 2 - 1) = t % 2 ^ 2
      exact Nat.and_two_pow_sub_one_eq_mod t 2
    rw [e]
    have : t % 4 < 4 := Nat.mod_lt _ (by decide)
    exact Or.inl ⟨t % 4, by omega, rfl, by omega, by omega⟩
theorem nl_add : ∀ x y, x < 18446744073709551616 → y < 18446744073709551616 → aT x y = true → True ∧ lN x + lN y = lN (fLadd x y) ∧ fLadd x y < 18446744073709551616 := fun x y _ _ _ => ⟨trivial, ml_add x y, Nat.mod_lt _ (by decide)⟩
theorem nl_mul : ∀ x y, x < 18446744073709551616 → y < 18446744073709551616 → aT x y = true → True ∧ lN x * lN y = lN (fLmul x y) ∧ fLmul x y < 18446744073709551616 := fun x y _ _ _ => ⟨trivial, ml_mul x y, Nat.mod_lt _ (by decide)⟩
theorem nl_and : ∀ x y, x < 18446744073709551616 → y < 18446744073709551616 → aT x y = true → True ∧ (lN x &&& lN y) = lN (fAnd x y) ∧ fAnd x y < 18446744073709551616 := fun x y hx _ _ => ⟨trivial, ml_and, Nat.lt_of_le_of_lt Nat.and_le_left hx⟩
theorem nl_or : ∀ x y, x < 18446744073709551616 → y < 18446744073709551616 → aT x y = true → True ∧ (lN x ||| lN y) = lN (fOr x y) ∧ fOr x y < 18446744073709551616 := fun x y hx hy _ => ⟨trivial, ml_or, Nat.or_lt_two_pow (n := 64) hx hy⟩
theorem nl_div : ∀ x y, x < 18446744073709551616 → y < 18446744073709551616 → aDl x y = true → ¬ lN y = 0 ∧ lN x / lN y = lN (fDiv x y) ∧ fDiv x y < 18446744073709551616 := fun x y _ _ h => ⟨(ml_div h).1, (ml_div h).2.1, (ml_div h).2.2.1⟩
theorem nl_rem : ∀ x y, x < 18446744073709551616 → y < 18446744073709551616 → aDl x y = true → ¬ lN y = 0 ∧ lN x - lN x / lN y * lN y = lN (fRem x y) ∧ fRem x y < 18446744073709551616 := fun x y _ _ h => ⟨(ml_div h).1, (ml_div h).2.2.2.1, (ml_div h).2.2.2.2⟩
theorem nl_shl : ∀ x y, x < 18446744073709551616 → y < 4294967296 → lN x <<< ((nI y).toInt64 &&& 63) = lN (fLshl x y) ∧ fLshl x y < 18446744073709551616 := fun x y hx hy => ml_shl hx hy
theorem nl_shr : ∀ x y, x < 18446744073709551616 → y < 4294967296 → lN x >>> ((nI y).toInt64 &&& 63) = lN (fLshr x y) ∧ fLshr x y < 18446744073709551616 := fun x y hx hy => ml_shr hx hy
theorem nl_ush : ∀ x y, x < 18446744073709551616 → y < 4294967296 → ((lN x).toUInt64 >>> ((nI y).toInt64.toUInt64 &&& Int64.toUInt64 63)).toInt64 = lN (fLush x y) ∧ fLush x y < 18446744073709551616 := fun x y hx hy => ml_ush hx hy
-- comparisons
variable {off : Int} {tg : Nat}
theorem b_eq (ht : (pc : Int) + off = (tg : Int)) : rI1 M (.ifCond .eq off) pc tg (fun x => x = 0) := fun h1 h2 h3 k1 k2 => lv_if_eq h1 h2 h3 ht k1 k2
theorem b_ne (ht : (pc : Int) + off = (tg : Int)) : rI1 M (.ifCond .ne off) pc tg (fun x => ¬ x = 0) := fun h1 h2 h3 k1 k2 => lv_if_ne h1 h2 h3 ht k1 (fun h => k2 (fun q => q h))
theorem b_lt (ht : (pc : Int) + off = (tg : Int)) : rI1 M (.ifCond .lt off) pc tg (fun x => x < 0) := fun h1 h2 h3 k1 k2 => lv_if_lt h1 h2 h3 ht k1 k2
theorem b_ge (ht : (pc : Int) + off = (tg : Int)) : rI1 M (.ifCond .ge off) pc tg (fun x => 0 ≤ x) := fun h1 h2 h3 k1 k2 => lv_if_ge h1 h2 h3 ht k1 k2
theorem b_gt (ht : (pc : Int) + off = (tg : Int)) : rI1 M (.ifCond .gt off) pc tg (fun x => 0 < x) := fun h1 h2 h3 k1 k2 => lv_if_gt h1 h2 h3 ht k1 k2
theorem b_le (ht : (pc : Int) + off = (tg : Int)) : rI1 M (.ifCond .le off) pc tg (fun x => x ≤ 0) := fun h1 h2 h3 k1 k2 => lv_if_le h1 h2 h3 ht k1 k2
theorem i_eq (ht : (pc : Int) + off = (tg : Int)) : rI2 M (.if_icmp .eq off) pc tg (fun x y => x = y) := fun h1 h2 h3 k1 k2 => lv_icmp_eq h1 h2 h3 ht k1 k2
theorem i_ne (ht : (pc : Int) + off = (tg : Int)) : rI2 M (.if_icmp .ne off) pc tg (fun x y => ¬ x = y) := fun h1 h2 h3 k1 k2 => lv_icmp_ne h1 h2 h3 ht k1 (fun h => k2 (fun q => q h))
theorem i_lt (ht : (pc : Int) + off = (tg : Int)) : rI2 M (.if_icmp .lt off) pc tg (fun x y => x < y) := fun h1 h2 h3 k1 k2 => lv_icmp_lt h1 h2 h3 ht k1 k2
theorem i_ge (ht : (pc : Int) + off = (tg : Int)) : rI2 M (.if_icmp .ge off) pc tg (fun x y => y ≤ x) := fun h1 h2 h3 k1 k2 => lv_icmp_ge h1 h2 h3 ht k1 k2
theorem i_gt (ht : (pc : Int) + off = (tg : Int)) : rI2 M (.if_icmp .gt off) pc tg (fun x y => y < x) := fun h1 h2 h3 k1 k2 => lv_icmp_gt h1 h2 h3 ht k1 k2
theorem i_le (ht : (pc : Int) + off = (tg : Int)) : rI2 M (.if_icmp .le off) pc tg (fun x y => x ≤ y) := fun h1 h2 h3 k1 k2 => lv_icmp_le h1 h2 h3 ht k1 k2
theorem cNe_t {x y : Nat} : cNe x y = true ↔ x ≠ y := by
  unfold cNe
  cases h : Nat.beq x y
  · exact ⟨fun _ => bqf h, fun _ => rfl⟩
  · exact ⟨fun q => (by cases q), fun q => absurd (bq h) q⟩
theorem cLt_t {x y : Nat} : cLt x y = true ↔ sI x < sI y := by
  unfold cLt
  cases h : Nat.ble (sI y) (sI x)
  · exact ⟨fun _ => blf h, fun _ => rfl⟩
  · exact ⟨fun q => (by cases q), fun q => absurd (bl h) (by omega)⟩
theorem cGt_t {x y : Nat} : cGt x y = true ↔ sI y < sI x := by
  unfold cGt
  cases h : Nat.ble (sI x) (sI y)
  · exact ⟨fun _ => blf h, fun _ => rfl⟩
  · exact ⟨fun q => (by cases q), fun q => absurd (bl h) (by omega)⟩
theorem cLe_t {x y : Nat} : cLe x y = true ↔ sI x ≤ sI y := ⟨fun h => bl h, fun h => Nat.ble_eq_true_of_le h⟩
theorem cGe_t {x y : Nat} : cGe x y = true ↔ sI y ≤ sI x := ⟨fun h => bl h, fun h => Nat.ble_eq_true_of_le h⟩
theorem gEq_i {p q y : Nat} {v b : Bool} (h : @Bool.rec (fun _ => Option Bool) none (@Bool.rec (fun _ => Option Bool) none (@Bool.rec (fun _ => Option Bool) (@Bool.rec (fun _ => Option Bool) none (some v) (Nat.ble (Nat.succ q) y)) (some v) (Nat.ble (Nat.succ y) p)) (Nat.ble q 4294967295)) (Nat.ble p q) = some b) : p ≤ q ∧ q < 4294967296 ∧ b = v ∧ (y < p ∨ q < y) := by
  obtain ⟨h1, h⟩ := iBt h
  obtain ⟨h2, h⟩ := iBt h
  have := bl h2
  rcases iB h with ⟨h3, h⟩ | ⟨-, h⟩
  · exact ⟨bl h1, by omega, (Option.some.inj h).symm, Or.inl (bl h3)⟩
  · obtain ⟨h3, h⟩ := iBt h
    exact ⟨bl h1, by omega, (Option.some.inj h).symm, Or.inr (bl h3)⟩
theorem gSg_i {p q : Nat} {k : Option Bool} {b : Bool} (h : gSg p q k = some b) : p ≤ q ∧ q < 4294967296 ∧ k = some b ∧ (q < 2147483648 ∨ 2147483648 ≤ p) := by
  unfold gSg at h
  obtain ⟨h1, h⟩ := iBt h
  rcases iB h with ⟨h2, h⟩ | ⟨-, h⟩
  · have := bl h2
    exact ⟨bl h1, by omega, h, Or.inl (by omega)⟩
  · obtain ⟨h3, h⟩ := iBt h
    obtain ⟨h4, h⟩ := iBt h
    have := bl h4
    exact ⟨bl h1, by omega, h, Or.inr (bl h3)⟩
theorem sI_in {p q t : Nat} (h1 : p ≤ t) (h2 : t ≤ q) (hq : q < 4294967296) (hs : q < 2147483648 ∨ 2147483648 ≤ p) : sI p ≤ sI t ∧ sI t ≤ sI q := ⟨m_sI_mono h1 (by omega) (by omega), m_sI_mono h2 hq (by omega)⟩
theorem two_i {c1 c2 v1 v2 b : Bool} (h : @Bool.rec (fun _ => Option Bool) (@Bool.rec (fun _ => Option Bool) none (some v2) c2) (some v1) c1 = some b) : (c1 = true ∧ b = v1) ∨ (c2 = true ∧ b = v2) := by
  rcases iB h with ⟨h3, h⟩ | ⟨-, h⟩
  · exact Or.inl ⟨h3, (Option.some.inj h).symm⟩
  · obtain ⟨h3, h⟩ := iBt h
    exact Or.inr ⟨h3, (Option.some.inj h).symm⟩
theorem c_eq : rQ2 cEq gEq (fun x y => x = y) := by
  refine ⟨fun x y hx hy => ⟨fun h => by rw [bq h], fun h => ?_⟩, fun p q y b hy h => ?_⟩
  · rw [(nI_inj hx hy).mp h]; exact Nat.beq_refl y
  · unfold gEq at h
    obtain ⟨h1, h2, rfl, h3⟩ := gEq_i h
    exact ⟨h1, h2, fun t ht t1 t2 => ⟨fun q => (by cases q), fun q => by have := (nI_inj ht hy).mp q; omega⟩⟩
theorem c_ne : rQ2 cNe gNe (fun x y => ¬ x = y) := by
  refine ⟨fun x y hx hy => ⟨fun h q => cNe_t.mp h ((nI_inj hx hy).mp q), fun h => cNe_t.mpr (fun q => h (by rw [q]))⟩, fun p q y b hy h => ?_⟩
  unfold gNe at h
  obtain ⟨h1, h2, rfl, h3⟩ := gEq_i h
  exact ⟨h1, h2, fun t ht t1 t2 => ⟨fun _ q => by have := (nI_inj ht hy).mp q; omega, fun _ => rfl⟩⟩
theorem c_lt : rQ2 cLt gLt (fun x y => x < y) := by
  refine ⟨fun x y hx hy => cLt_t.trans (m_lt hx hy).symm, fun p q y b hy h => ?_⟩
  unfold gLt at h
  obtain ⟨h1, h2, h, h3⟩ := gSg_i h
  refine ⟨h1, h2, fun t ht t1 t2 => ?_⟩
  obtain ⟨u1, u2⟩ := sI_in t1 t2 h2 h3
  rcases two_i h with ⟨h4, rfl⟩ | ⟨h4, rfl⟩
  · have := bl h4
    exact ⟨fun _ => (m_lt ht hy).mpr (by omega), fun _ => rfl⟩
  · have := bl h4
    exact ⟨fun q => (by cases q), fun q => by have := (m_lt ht hy).mp q; omega⟩
theorem c_ge : rQ2 cGe gGe (fun x y => y ≤ x) := by
  refine ⟨fun x y hx hy => cGe_t.trans (m_le hy hx).symm, fun p q y b hy h => ?_⟩
  unfold gGe at h
  obtain ⟨h1, h2, h, h3⟩ := gSg_i h
  refine ⟨h1, h2, fun t ht t1 t2 => ?_⟩
  obtain ⟨u1, u2⟩ := sI_in t1 t2 h2 h3
  rcases two_i h with ⟨h4, rfl⟩ | ⟨h4, rfl⟩
  · have := bl h4
    exact ⟨fun q => (by cases q), fun q => by have := (m_le hy ht).mp q; omega⟩
  · have := bl h4
    exact ⟨fun _ => (m_le hy ht).mpr (by omega), fun _ => rfl⟩
theorem c_gt : rQ2 cGt gGt (fun x y => y < x) := by
  refine ⟨fun x y hx hy => cGt_t.trans (m_lt hy hx).symm, fun p q y b hy h => ?_⟩
  unfold gGt at h
  obtain ⟨h1, h2, h, h3⟩ := gSg_i h
  refine ⟨h1, h2, fun t ht t1 t2 => ?_⟩
  obtain ⟨u1, u2⟩ := sI_in t1 t2 h2 h3
  rcases two_i h with ⟨h4, rfl⟩ | ⟨h4, rfl⟩
  · have := bl h4
    exact ⟨fun _ => (m_lt hy ht).mpr (by omega), fun _ => rfl⟩
  · have := bl h4
    exact ⟨fun q => (by cases q), fun q => by have := (m_lt hy ht).mp q; omega⟩
theorem c_le : rQ2 cLe gLe (fun x y => x ≤ y) := by
  refine ⟨fun x y hx hy => cLe_t.trans (m_le hx hy).symm, fun p q y b hy h => ?_⟩
  unfold gLe at h
  obtain ⟨h1, h2, h, h3⟩ := gSg_i h
  refine ⟨h1, h2, fun t ht t1 t2 => ?_⟩
  obtain ⟨u1, u2⟩ := sI_in t1 t2 h2 h3
  rcases two_i h with ⟨h4, rfl⟩ | ⟨h4, rfl⟩
  · have := bl h4
    exact ⟨fun q => (by cases q), fun q => by have := (m_le ht hy).mp q; omega⟩
  · have := bl h4
    exact ⟨fun _ => (m_le ht hy).mpr (by omega), fun _ => rfl⟩
end ARI
section SND2
variable {lab : Nat → rM × Nat} {M : rM} {pc pc' : Nat} {nx : rP}
theorem d_2 : FP.i2d (nI 2) = UInt64.ofNat 4611686018427387904 := by decide +kernel
theorem d_1 : vf_n64 (FP.ddiv (UInt64.ofNat 4611686018427387904) (UInt64.ofNat 4611686018427387904)) ∧ FP.ddiv (UInt64.ofNat 4611686018427387904) (UInt64.ofNat 4611686018427387904) = UInt64.ofNat 4607182418800017408 := by
  unfold vf_n64
  decide +kernel
theorem d_0 : ∀ op : CmpOp, Op.cmpValue (FP.dcmp (UInt64.ofNat 4607182418800017408) (UInt64.ofNat 4607182418800017408)) op = 0 := by
  intro op
  cases op <;> decide +kernel
theorem s_I2d (hdg : rDec M pc .i2d 1 pc') (k : rSnd lab M pc' nx) : rSnd lab M pc (oI2d nx) := by
  intro w l d jb jc hb hc L S h res hr
  obtain ⟨a, S1, rfl, hr⟩ := iP hr
  obtain ⟨hdg, rfl⟩ := hdg
  obtain ⟨x, rfl, hr⟩ := iI hr
  obtain ⟨h1, hr⟩ := iBt hr
  refine (k w l d jb jc hb hc _ _ _ _ hr).step fun hX _ hl hL hS kk => ?_
  obtain ⟨v, st', rfl, h2, hS1⟩ := hS.cons
  obtain ⟨l2, rfl⟩ := h2.i
  obtain rfl := bq h1
  refine lv_i2d hX.1 hX.2.1 hdg ?_
  rw [d_2]
  exact kk _ _ _ hl hL ⟨Or.inr ⟨rfl, rfl⟩, hS1⟩
theorem s_Ddiv (hdg : rDec M pc .ddiv 1 pc') (k : rSnd lab M pc' nx) : rSnd lab M pc (oDdiv nx) := by
  intro w l d jb jc hb hc L S h res hr
  obtain ⟨b, S1, rfl, hr⟩ := iP hr
  obtain ⟨a, S2, rfl, hr⟩ := iP hr
  obtain ⟨hdg, rfl⟩ := hdg
  obtain ⟨p, q, rfl, hr⟩ := iX hr
  obtain ⟨u, z, rfl, hr⟩ := iX hr
  obtain ⟨h1, hr⟩ := iBt hr
  obtain ⟨h2, hr⟩ := iBt hr
  obtain ⟨h3, hr⟩ := iBt hr
  obtain ⟨h4, hr⟩ := iBt hr
  refine (k w l d jb jc hb hc _ _ _ _ hr).step fun hX _ hl hL hS kk => ?_
  obtain ⟨v, st1, rfl, g2, hS1⟩ := hS.cons
  obtain ⟨v', st2, rfl, g3, hS2⟩ := hS1.cons
  obtain rfl := g2.d (bq h1)
  obtain rfl := g3.d (bq h2)
  rw [bq h3, bq h4]
  refine lv_ddiv hX.1 hX.2.1 hdg d_1.1 ?_
  rw [d_1.2]
  exact kk _ _ _ hl hL ⟨Or.inr ⟨rfl, rfl⟩, hS2⟩
theorem s_Dcmp {op : CmpOp} (hdg : rDec M pc (.dcmp op) 1 pc') (k : rSnd lab M pc' nx) : rSnd lab M pc (oDcmp nx) := by
  intro w l d jb jc hb hc L S h res hr
  obtain ⟨b, S1, rfl, hr⟩ := iP hr
  obtain ⟨a, S2, rfl, hr⟩ := iP hr
  obtain ⟨hdg, rfl⟩ := hdg
  obtain ⟨p, q, rfl, hr⟩ := iX hr
  obtain ⟨u, z, rfl, hr⟩ := iX hr
  obtain ⟨h1, hr⟩ := iBt hr
  obtain ⟨h2, hr⟩ := iBt hr
  obtain ⟨h3, hr⟩ := iBt hr
  obtain ⟨h4, hr⟩ := iBt hr
  refine (k w l d jb jc hb hc _ _ _ _ hr).step fun hX _ hl hL hS kk => ?_
  obtain ⟨v, st1, rfl, g2, hS1⟩ := hS.cons
  obtain ⟨v', st2, rfl, g3, hS2⟩ := hS1.cons
  obtain rfl := g2.d (bq h1)
  obtain rfl := g3.d (bq h2)
  rw [bq h3, bq h4]
  refine lv_dcmp hX.1 hX.2.1 hdg ?_
  rw [d_0]
  exact kk _ _ _ hl hL ⟨⟨by decide, rfl⟩, hS2⟩
theorem s_Jb {id : Nat} (hl : lab id = (M, pc)) : rSnd lab M pc (oJb id) := by
  intro w l d jb jc hb hc L S h res hr
  have := hb id
  rw [hl] at this
  exact this L S h res hr
theorem rStk_rf {w : rW} {ad : Nat → Nat} {n k : Nat} {v : Value} (h : rVal w ad n (vR k) v) : v = .null ∨ ∃ a, v = .ref a := by
  rcases h.r with ⟨-, e⟩ | ⟨-, e⟩ | ⟨-, e⟩ | ⟨-, -, e⟩
  · exact Or.inl e
  · exact Or.inr ⟨_, e⟩
  · exact Or.inr ⟨_, e⟩
  · exact Or.inr ⟨_, e⟩
theorem s_Aeq {off : Int} {tg : Nat} (hdg : decode (rMc_ M) pc = .ok (.if_acmp .eq off, 3)) (ht : (pc : Int) + off = (tg : Int)) (k : rSnd lab M tg nx) : rSnd lab M pc (oAeq nx) := by
  intro w l d jb jc hb hc L S h res hr
  obtain ⟨b, S1, rfl, hr⟩ := iP hr
  obtain ⟨a, S2, rfl, hr⟩ := iP hr
  obtain ⟨y, rfl, hr⟩ := iA hr
  obtain ⟨x, rfl, hr⟩ := iA hr
  obtain ⟨h1, hr⟩ := iBt hr
  refine (k w l d jb jc hb hc _ _ _ _ hr).step fun hX hP hl hL hS kk => ?_
  obtain ⟨v, st1, rfl, g2, hS1⟩ := hS.cons
  obtain ⟨v', st2, rfl, g3, hS2⟩ := hS1.cons
  obtain rfl := bq h1
  have hlim : hN h ≤ 512 := hP.1.2.1
  have hvv : v = v' := by
    rcases g2.r with ⟨e1, e⟩ | ⟨e1, e⟩ | ⟨e1, e⟩ | ⟨e1, e2, e⟩ <;> rcases g3.r with ⟨e1', e'⟩ | ⟨e1', e'⟩ | ⟨e1', e'⟩ | ⟨e1', e2', e'⟩ <;> first | (exfalso; omega) | (rw [e, e'])
  subst hvv
  obtain ⟨rx, rfl⟩ : ∃ rx : Option Nat, v = va_rf rx := by
    rcases rStk_rf g2 with rfl | ⟨a, rfl⟩
    · exact ⟨none, rfl⟩
    · exact ⟨some a, rfl⟩
  exact lv_acmp_eq hX.1 hX.2.1 hdg ht (fun _ => kk _ _ _ hl hL hS2) (fun q => absurd rfl q)
end SND2
end
section
-- ===== objects, rows of values and the heap =====
section OBJ
variable {w : rW} {U : State} {ad : Nat → Nat} {H : Heap} {h : rH}
theorem rHp.obj {ci k : Nat} {r : vw_C} {v : Value} (hH : rHp w U ad h H) (hv : rVal w ad (hN h) (vR k) v) (hk : (rAt h k).1 = 2 * ci + 2) (hr : rCls[ci]? = some r) : 0 < k ∧ k < hN h ∧ wB w ≤ ad k ∧ v = .ref (ad k) ∧ ∃ V : Nat → Value, t_OB (ad k) ((wD w).1 ci) r.2.2 ((wD w).2 ci) H V ∧ ∀ j, j < r.2.2 → rVal w ad (hN h) (rTag (rFt ci j) (rPl (rAt h k).2.2 j)) (V j) := by
  obtain ⟨h1, h2, h3, h4⟩ := hH.deref hv (by omega)
  rcases h4 with h4 | ⟨h5, ⟨ci', r', e1, e2, V, h6, h7⟩ | ⟨t, ty, e1, -⟩⟩
  · omega
  · obtain rfl : ci' = ci := by omega
    obtain rfl : r' = r := Option.some.inj (e2.symm.trans hr)
    exact ⟨h1, h2, h5, h3, V, h6, h7⟩
  · omega
theorem rHp.arr {t k : Nat} {ty : FieldType} {v : Value} (hH : rHp w U ad h H) (hv : rVal w ad (hN h) (vR k) v) (hk : (rAt h k).1 = 2 * t + 1) (hr : rAts[t]? = some ty) : 0 < k ∧ k < hN h ∧ wB w ≤ ad k ∧ v = .ref (ad k) ∧ (rAt h k).2.1 ≤ 65536 ∧ ∃ (cA : ClassId) (f : Nat → Value), H[ad k]? = some (arrV cA (rAt h k).2.1 f) ∧ ArrOfT U cA ty ∧ va_RA U cA ty ∧ ∀ j, j < (rAt h k).2.1 → rVal w ad (hN h) (rTag ty (rPl (rAt h k).2.2 j)) (f j) := by
  obtain ⟨h1, h2, h3, h4⟩ := hH.deref hv (by omega)
  rcases h4 with h4 | ⟨h5, ⟨ci', r', e1, e2, V, h6, h7⟩ | ⟨t', ty', e1, e2, e3, e4⟩⟩
  · omega
  · omega
  · obtain rfl : t' = t := by omega
    obtain rfl : ty' = ty := Option.some.inj (e2.symm.trans hr)
    exact ⟨h1, h2, h5, h3, e3, e4⟩
-- what is stored in a place
def rFc : FieldType → Nat
  | .int => 0
  | .long => 1
  | .object _ => 2
  | .array _ => 2
  | .boolean => 3
  | _ => 9
theorem rUn_i {ty : Nat} {v : rV} {k : Nat → rR} {r : rO × rH} (hh : rUn ty v k = some r) : ∃ x, k x = some r ∧ ((ty = 0 ∧ v = vI x) ∨ (ty = 2 ∧ v = vR x) ∨ (ty = 1 ∧ v = vL x) ∨ (ty ≠ 0 ∧ ty ≠ 2 ∧ ty ≠ 1 ∧ v = vI x ∧ x ≤ 1)) := by
  unfold rUn at hh
  rcases iB hh with ⟨e, hh⟩ | ⟨n0, hh⟩
  · obtain ⟨x, rfl, hh⟩ := iI hh
    exact ⟨x, hh, Or.inl ⟨bq e, rfl⟩⟩
  rcases iB hh with ⟨e, hh⟩ | ⟨n1, hh⟩
  · obtain ⟨x, rfl, hh⟩ := iA hh
    exact ⟨x, hh, Or.inr (Or.inl ⟨bq e, rfl⟩)⟩
  rcases iB hh with ⟨e, hh⟩ | ⟨n2, hh⟩
  · obtain ⟨x, rfl, hh⟩ := iL hh
    exact ⟨x, hh, Or.inr (Or.inr (Or.inl ⟨bq e, rfl⟩))⟩
  · obtain ⟨x, rfl, hh⟩ := iI hh
    obtain ⟨e, hh⟩ := iBt hh
    exact ⟨x, hh, Or.inr (Or.inr (Or.inr ⟨bqf n0, bqf n1, bqf n2, rfl, bl e⟩))⟩
theorem rUn_v {fty : FieldType} {n x : Nat} {a : rV} {v : Value} (hn : n ≤ 512) (hc : ((rFc fty) = 0 ∧ a = vI x) ∨ ((rFc fty) = 2 ∧ a = vR x) ∨ ((rFc fty) = 1 ∧ a = vL x) ∨ (rFc fty = 3 ∧ a = vI x ∧ x ≤ 1)) (hv : rVal w ad n a v) : x < 18446744073709551616 ∧ rVal w ad n (rTag fty x) v ∧ narrow fty v = v ∧ fits fty v = true := by
  rcases hc with ⟨hc, rfl⟩ | ⟨hc, rfl⟩ | ⟨hc, rfl⟩ | ⟨hc, rfl, hx⟩
  · obtain ⟨h1, rfl⟩ := hv.i
    cases fty <;> first | (cases hc; done) | skip
    exact ⟨by omega, ⟨h1, rfl⟩, rfl, rfl⟩
  · have h1 : x < 18446744073709551616 := by
      rcases hv.r with ⟨e, -⟩ | ⟨e, -⟩ | ⟨e, -⟩ | ⟨-, e, -⟩ <;> omega
    have h9 : v = .null ∨ ∃ a, v = .ref a := rStk_rf hv
    cases fty <;> first | (cases hc; done) | skip
    all_goals
      refine ⟨h1, hv, ?_, ?_⟩
      · rcases h9 with rfl | ⟨a, rfl⟩ <;> rfl
      · rcases h9 with rfl | ⟨a, rfl⟩ <;> rfl
  · obtain ⟨h1, rfl⟩ := hv.l
    cases fty <;> first | (cases hc; done) | skip
    exact ⟨h1, ⟨h1, rfl⟩, rfl, rfl⟩
  · obtain ⟨h1, rfl⟩ := hv.i
    cases fty <;> first | (cases hc; done) | skip
    have h2 : x = 0 ∨ x = 1 := by omega
    refine ⟨by omega, ⟨h1, rfl⟩, ?_, ?_⟩
    · rcases h2 with rfl | rfl
      · exact narrow_b0
      · exact narrow_b1
    · rcases h2 with rfl | rfl <;> decide
end OBJ
def rLk (own : String) (i : Nat) (ref n d : String) : Prop := Cond.fieldLink own i ref n d ∈ rTG ∨ ∃ (host : String) (j : Nat), rNGs[j]? = some (Cond.fieldLinkNest own i ref n d host)
def rSm (ref o n d : String) : Prop := ref = o ∨ Cond.sameField ref o n d ∈ rTG
theorem rSm.use {ref o n d : String} {s : State} {args : Array Value} (h : rSm ref o n d) (ht : ∀ wd ∈ rTG, wd.before args s = true) {x : ClassId × Class × Nat × Field} (hx : s.fieldFound? o n d = some x) : s.fieldFound? ref n d = some x := by
  rcases h with rfl | h
  · exact hx
  · exact u_same (ht _ h) x hx
section SND3
variable {lab : Nat → rM × Nat} {M : rM} {pc pc' : Nat} {nx : rP}
theorem s_Gf {ci k i : Nat} {r : vw_C} {own ref : String} {mk : Nat → rV} (hr : rCls[ci]? = some r) (hk : k < r.2.2) (ho : (rMy M).cls = own) (hlk : rLk own i ref (r.2.1 k).2.1 (r.2.1 k).2.2.1) (hsm : rSm ref (r.2.1 k).1 (r.2.1 k).2.1 (r.2.1 k).2.2.1) (hm : rTag (rFt ci k) = mk) (hdg : rDec M pc (.getfield i) 3 pc') (kx : rSnd lab M pc' nx) : rSnd lab M pc (oGf (2 * ci + 2) k mk nx) := by
  intro w l d jb jc hb hc L S h res hh
  obtain ⟨hdg, rfl⟩ := hdg
  obtain ⟨o, S1, rfl, hh⟩ := iP hh
  obtain ⟨a, rfl, hh⟩ := iA hh
  obtain ⟨e0, hh⟩ := iBt hh
  refine (kx w l d jb jc hb hc _ _ _ _ hh).step fun hX hP hl hL hS kk => ?_
  obtain ⟨v, st1, rfl, h2, hS1⟩ := hS.cons
  obtain ⟨-, -, -, rfl, V, ⟨cell, q1, q2, q3, q4⟩, hV⟩ := hP.obj h2 (bq e0) hr
  obtain ⟨hSl, hfc, kC, hkC, hkind⟩ := hX.2.2.2.2.2.2.2.2.2.1.1 ci r hr
  obtain ⟨cf, kf, fi, f, hi, hsl⟩ := hSl k hk
  have ht := hX.2.2.2.2.1
  have hin := (rFacts ci r hr).1
  have hst := (u_facts hfc hkC (u_lays ht hin hk) hi).1
  have hkk := kk _ _ (V k :: st1) hl hL ⟨by rw [← hm]; exact hV k hk, hS1⟩
  rcases hlk with hlk | ⟨host, j, hj⟩
  · refine W.getf hX.1 hX.2.1 (ho ▸ hX.2.2.2.1) (ht _ hlk) (hsm.use ht hi) hst q1 (by rw [q3]; exact fun h => by cases h) (v := V k) ?_ rfl rfl hdg hkk
    rw [hsl, q4 k hk]
  · refine va_Wgetf hX.1 hX.2.1 (ho ▸ hX.2.2.2.1) (va_Nw.use rfl (hX.2.2.2.2.2.2.2.2.2.1.ng j hj)) (hsm.use ht hi) hst q1 (by rw [q3]; exact fun h => by cases h) (v := V k) ?_ rfl rfl hdg hkk
    rw [hsl, q4 k hk]
theorem rUn_c {ty : Nat} {fty : FieldType} (ht : rFc fty = ty) (h9 : ty < 4) {v : rV} {x : Nat} (hh : (ty = 0 ∧ v = vI x) ∨ (ty = 2 ∧ v = vR x) ∨ (ty = 1 ∧ v = vL x) ∨ (ty ≠ 0 ∧ ty ≠ 2 ∧ ty ≠ 1 ∧ v = vI x ∧ x ≤ 1)) : (rFc fty = 0 ∧ v = vI x) ∨ (rFc fty = 2 ∧ v = vR x) ∨ (rFc fty = 1 ∧ v = vL x) ∨ (rFc fty = 3 ∧ v = vI x ∧ x ≤ 1) := by
  subst ht
  rcases hh with h | h | h | ⟨h1, h2, h3, h4⟩
  · exact Or.inl h
  · exact Or.inr (Or.inl h)
  · exact Or.inr (Or.inr (Or.inl h))
  · exact Or.inr (Or.inr (Or.inr ⟨by omega, h4⟩))
theorem s_Pf {ci k i ty : Nat} {r : vw_C} {own ref : String} (hr : rCls[ci]? = some r) (hk : k < r.2.2) (ho : (rMy M).cls = own) (hmode : (r.2.1 k).2.2.2 = false ∧ rLk own i ref (r.2.1 k).2.1 (r.2.1 k).2.2.1 ∨ (r.2.1 k).2.2.2 = true ∧ Cond.fieldLink own i ref (r.2.1 k).2.1 (r.2.1 k).2.2.1 ∈ rTG ∧ (r.2.1 k).1 = own ∧ (rMy M).name = "<init>") (hsm : rSm ref (r.2.1 k).1 (r.2.1 k).2.1 (r.2.1 k).2.2.1) (hty : rFc (rFt ci k) = ty) (hty4 : ty < 4) (hdg : rDec M pc (.putfield i) 3 pc') (kx : rSnd lab M pc' nx) : rSnd lab M pc (oPf (2 * ci + 2) k ty nx) := by
  intro w l d jb jc hb hc L S h res hh
  obtain ⟨hdg, rfl⟩ := hdg
  obtain ⟨vv, S1, rfl, hh⟩ := iP hh
  obtain ⟨o, S1, rfl, hh⟩ := iP hh
  obtain ⟨a, rfl, hh⟩ := iA hh
  obtain ⟨x, hh, hx⟩ := rUn_i hh
  obtain ⟨e0, hh⟩ := iBt hh
  have hh := iN hh
  refine rTo.gen (h' := rPut h a ((rAt h a).1, ((rAt h a).2.1, rSp (rAt h a).2.2 k 1 x))) ⟨Nat.le_refl _, Nat.le_refl _, Nat.le_refl _⟩ (kx w l d jb jc hb hc _ _ _ _ hh) fun {p} {e} {R} {s} {m} {args} {below} {meth} {c} {Q} {H} {locs} {cells} {slots} {ls} {lv} {st} {ad} {mc} {ms} hX hP hs hl hL hS hm hcs hlo kk => ?_
  obtain ⟨v, st1, rfl, h1, hS1⟩ := hS.cons
  obtain ⟨v2, st2, rfl, h2, hS2⟩ := hS1.cons
  have ek : (rAt h a).1 = 2 * ci + 2 := bq e0
  obtain ⟨p1, p2, p3, rfl, V, ⟨cell, q1, q2, q3, q4⟩, hV⟩ := hP.obj h2 ek hr
  obtain ⟨hSl, hfc, kC, hkC, hkind⟩ := hX.2.2.2.2.2.2.2.2.2.1.1 ci r hr
  obtain ⟨cf, kf, fi, f, hi, hsl⟩ := hSl k hk
  have ht := hX.2.2.2.2.1
  obtain ⟨hin, hap0, htys⟩ := rFacts ci r hr
  have hst := (u_facts hfc hkC (u_lays ht hin hk) hi).1
  obtain ⟨x64, hval, hnar, hfit⟩ := rUn_v (fty := rFt ci k) hP.1.2.1 (rUn_c hty hty4 hx) h1
  have hap : ∀ x y, x < r.2.2 → y < r.2.2 → x ≠ y → ((wD w).2 ci) x ≠ ((wD w).2 ci) y := by
    intro x y hx hy hne
    obtain ⟨_, _, _, fa, hia, ea⟩ := hSl x hx
    obtain ⟨_, _, _, fb, hib, eb⟩ := hSl y hy
    rw [← ea, ← eb]
    refine u_apart (u_lays ht hin hx) (u_lays ht hin hy) hia hib ?_
    rw [(State.fieldFound?_type hia (htys x hx)).1, (State.fieldFound?_type hib (htys y hy)).1]
    exact hap0 x hx y hy hne
  have fin : ∀ H' : Heap, H'[ad a]? = some (cell.setSlot f.slot v) → H'.size = H.size → (∀ q, q ≠ ad a → H'[q]? = H[q]?) → W p l e R s m args below meth c H' (locs ++ [⟨ad a, f.slot⟩]) cells slots Q (F0 m (pc + 3) ls st2) := by
    intro H' e1 e2 e3
    refine kk ad H' _ cells slots ls lv st2 rExt.rf (hP.put p1 p2 (by omega) (c' := ((rAt h a).1, ((rAt h a).2.1, rSp (rAt h a).2.2 k 1 x))) ?_ (by show (rAt h a).1 ≠ 0; omega) (by omega) e3) (by omega) hl hL hS2 (Nat.le_refl _) (Nat.le_refl _) ?_
    · refine Or.inr ⟨p3, Or.inl ⟨ci, r, ek, hr, updV V k v, ⟨_, e1, q2, q3, ?_⟩, fun j hj => ?_⟩⟩
      · rw [hsl]; exact t_set q4 hap hk v
      · show rVal w ad (hN h) (rTag (rFt ci j) (rPl (rSp (rAt h a).2.2 k 1 x) j)) (updV V k v j)
        rw [rPl_put _ _ _ _ x64]
        unfold updV
        by_cases hjk : j = k
        · subst hjk; rw [if_pos rfl, if_pos rfl]; exact hval
        · rw [if_neg hjk, if_neg hjk]; exact hV j hj
    · intro z hz
      rcases List.mem_append.mp hz with hz | hz
      · exact hlo z hz
      · have : z = ⟨ad a, f.slot⟩ := by simpa using hz
        rw [this]; exact p3
  have hlay := ht _ (hin _ (u_in_lay hk))
  unfold u_lay at hlay
  rcases hmode with ⟨hfin, hlk⟩ | ⟨hfin, hlk, hdecl, hini⟩
  · rw [if_neg (by rw [hfin]; decide)] at hlay
    have h6 := u_store hfc hkC hkind hlay hi (htys k hk) hnar hfit
    rcases hlk with hlk | ⟨host, j, hj⟩
    · exact W.putK hX.1 hX.2.1 (f := f) ⟨ho ▸ hX.2.2.2.1, ht _ hlk, ⟨_, _, _, hsm.use ht hi⟩, hst⟩ (by rw [q2]; exact h6) q1 q3 (by rw [hsl]; exact k2_hasslot (q4 k hk)) rfl rfl hdg fin
    · exact va_WputK hX.1 hX.2.1 (f := f) (ho ▸ hX.2.2.2.1) (va_Nw.use rfl (hX.2.2.2.2.2.2.2.2.2.1.ng j hj)) (hsm.use ht hi) hst (by rw [q2]; exact h6) q1 q3 (by rw [hsl]; exact k2_hasslot (q4 k hk)) rfl rfl hdg fin
  · rw [if_pos hfin] at hlay
    have hown : s.vm.findClass own = some m.cls := ho ▸ hX.2.2.2.1
    have hcf : m.cls = cf := by
      obtain ⟨_, _, c', _, _, _, -, -, hf', -, -, -, hown2, -⟩ := Cond.laysFinal_spec hlay
      have e1 : c' = cf := by have := hi.symm.trans hf'; simp at this; exact this.1.symm
      rw [hdecl] at hown2
      rw [← e1]; exact Option.some.inj (hown.symm.trans hown2)
    have h6 := u_fits hfc hkC hkind (Or.inr hlay) hi (htys k hk) hnar hfit
    exact W.putFinK hX.1 hX.2.1 hown (ht _ hlk) (hsm.use ht hi) hst hcf (hX.2.2.2.2.2.2.1 hini) (by rw [q2]; exact h6) q1 q3 (by rw [hsl]; exact k2_hasslot (q4 k hk)) rfl rfl hdg fin
theorem s_Gs {own ref : String} {i : Nat} (ho : (rMy M).cls = own) (hlk : Cond.fieldLink own i ref "DEFAULTCAPACITY_EMPTY_ELEMENTDATA" "[Ljava/lang/Object;" ∈ rTG) (hsm : rSm ref "java/util/ArrayList" "DEFAULTCAPACITY_EMPTY_ELEMENTDATA" "[Ljava/lang/Object;") (hdg : rDec M pc (.getstatic i) 3 pc') (kx : rSnd lab M pc' nx) : rSnd lab M pc (oPsh (vR 16384) nx) := by
  intro w l d jb jc hb hc L S h res hh
  obtain ⟨hdg, rfl⟩ := hdg
  refine (kx w l d jb jc hb hc _ _ _ _ hh).step fun hX hP hl hL hS kk => ?_
  obtain ⟨cf, kf, fi, f, a, cell, h1, h2, h3, h4, h5, h6, h7, h8⟩ := hX.2.2.2.2.2.2.2.2.2.1.2.1.2.2.1
  have ht := hX.2.2.2.2.1
  have ha : a < wB w := Nat.not_le.mp h8
  exact W.gets hX.1 hX.2.1 (ho ▸ hX.2.2.2.1) (ht _ hlk) (hsm.use ht h1) h2 h3 h4 (by rw [hP.2.2.2.2 a ha]; exact h5) (fun e => by rw [e] at h6; cases h6) h7 rfl hdg (kk _ _ (_ :: _) hl hL ⟨Or.inr (Or.inr (Or.inl ⟨rfl, rfl⟩)), hS⟩)
theorem rDv (ty : FieldType) : (ty = .int ∨ ty = .long ∨ ty = .boolean ∨ (∃ C, ty = .object C) ∨ ∃ t, ty = .array t) → ∀ {w : rW} {ad : Nat → Nat} {n : Nat}, rVal w ad n (rTag ty 0) (defaultValue ty) := by
  rintro (rfl | rfl | rfl | ⟨C, rfl⟩ | ⟨t, rfl⟩) w ad n
  · exact ⟨by decide, rfl⟩
  · exact ⟨by decide, rfl⟩
  · exact ⟨by decide, rfl⟩
  · exact Or.inl ⟨rfl, rfl⟩
  · exact Or.inl ⟨rfl, rfl⟩
theorem s_New {ci i : Nat} {r : vw_C} {own : String} (hr : rCls[ci]? = some r) (ho : (rMy M).cls = own) (hcl : Cond.classLink own i r.1 ∈ rTG) (hins : Cond.instantiable r.1 r.2.2 ∈ rTG) (hini : Cond.initialized r.1 ∈ rTG) (hty : ∀ k, k < r.2.2 → rFt ci k = .int ∨ rFt ci k = .long ∨ rFt ci k = .boolean ∨ (∃ C, rFt ci k = .object C) ∨ ∃ t, rFt ci k = .array t) (hdg : rDec M pc (.new i) 3 pc') (kx : rSnd lab M pc' nx) : rSnd lab M pc (oNew (2 * ci + 2) r.2.2 nx) := by
  intro w l d jb jc hb hc L S h res hh
  obtain ⟨hdg, rfl⟩ := hdg
  obtain ⟨e0, hh⟩ := iBt hh
  have hn : hN h ≤ 510 := bl e0
  refine rTo.gen (h' := (tS9 h.1 (hN h) (2 * ci + 2, (0, 0)), (Nat.succ (hN h), (Nat.succ (hC h), (Nat.add (hL h) r.2.2, rScr h))))) ⟨Nat.le_succ _, Nat.le_succ _, Nat.le_add_right _ _⟩ (kx w l d jb jc hb hc _ _ _ _ hh) fun {p} {e} {R} {s} {m} {args} {below} {meth} {c} {Q} {H} {locs} {cells} {slots} {ls} {lv} {st} {ad} {mc} {ms} hX hP hs hl hLo hS hm hcs hlo kk => ?_
  have hKn := hX.2.2.2.2.2.2.2.2.2.1.1 ci r hr
  have ht := hX.2.2.2.2.1
  obtain ⟨hin, hap0, htys⟩ := rFacts ci r hr
  have b1 : cells + (hC h + 1) ≤ mc + hC h := hcs.1
  have b2 : slots + (hL h + r.2.2) ≤ ms + hL h := hcs.2
  refine W.newcK hX.1 hX.2.1 (ho ▸ hX.2.2.2.1) (ht _ hcl) (ht _ hins) (ht _ hini) rfl hdg (by omega) (by omega) hKn.2.1 rfl fun H1 kC hkC e1 z1 o1 => ?_
  have hob := u_born (rFt ci) ht hin hKn hkC e1 htys
  refine kk (rUp ad (hN h) H.size) H1 locs _ _ ls lv (.ref H.size :: st) rUp_ext (hP.new hn ?_ z1 o1) (by omega) hl (hLo.mono (Nat.le_succ _) rUp_ext) ⟨Or.inr (Or.inr (Or.inr ⟨hP.1.1, Nat.lt_succ_self _, by rw [rUp_self]⟩)), hS.mono (Nat.le_succ _) rUp_ext⟩ (by show cells + 1 + hC h ≤ cells + (hC h + 1); omega) (by show slots + r.2.2 + hL h ≤ slots + (hL h + r.2.2); omega) hlo
  refine Or.inr ⟨hP.2.2.2.1, Or.inl ⟨ci, r, rfl, hr, _, hob, fun j hj => ?_⟩⟩
  show rVal w _ _ (rTag (rFt ci j) (rPl 0 j)) _
  rw [rPl_0]
  exact rDv _ (hty j hj)
end SND3
end
section
-- ===== arrays =====
section ARR1
variable {w : rW} {U : State} {ad : Nat → Nat} {H : Heap} {h : rH}
theorem rIx {x n : Nat} (hx : x < n) (hn : n ≤ 65536) : (nI x).toNatClampNeg = x ∧ ¬ (nI x < 0 ∨ n ≤ (nI x).toNatClampNeg) := ⟨nI_clamp (by omega), nI_in hx (by omega)⟩
theorem rNn {x : Nat} (hx : x ≤ 65536) : (nI x).toNatClampNeg = x ∧ ¬ nI x < 0 := by
  have h := nI_in (c := x) (N := x + 1) (by omega) (by omega)
  exact ⟨nI_clamp (by omega), fun q => h (Or.inl q)⟩
def rRf : FieldType → Prop := fun ty => ty = .int ∨ ty = .long ∨ ty = .boolean ∨ (∃ C, ty = .object C) ∨ ∃ t, ty = .array t
theorem rAts_k : ∀ {t : Nat} {ty : FieldType}, rAts[t]? = some ty → rRf ty ∧ componentBytes ty ≤ 8 ∧ (3 ≤ t → ty.isReference = true) := by
  intro t ty ht
  have hl := (List.getElem?_eq_some_iff.mp ht).1
  have hl : t < 9 := hl
  have : t = 0 ∨ t = 1 ∨ t = 2 ∨ t = 3 ∨ t = 4 ∨ t = 5 ∨ t = 6 ∨ t = 7 ∨ t = 8 := by omega
  rcases this with rfl | rfl | rfl | rfl | rfl | rfl | rfl | rfl | rfl <;> cases ht <;> simp [rRf, componentBytes, FieldType.isReference]
theorem rHp.newA {H1 : Heap} {t x cs sl : Nat} {ty : FieldType} {cA : ClassId} (hH : rHp w U ad h H) (hn : hN h ≤ 510) (hx : x ≤ 65536) (ht : rAts[t]? = some ty) (e1 : H1[H.size]? = some (arrV cA x (fun _ => defaultValue ty))) (z1 : H1.size = H.size + 1) (o1 : ∀ q : Nat, q < H.size → H1[q]? = H[q]?) (ha : ArrOfT U cA ty) (hra : va_RA U cA ty) :
    rHp w U (rUp ad (hN h) H.size) (tS9 h.1 (hN h) (2 * t + 1, (x, 0)), (Nat.succ (hN h), (cs, (sl, rScr h)))) H1 := by
  refine hH.new hn ?_ z1 o1
  refine Or.inr ⟨hH.2.2.2.1, Or.inr ⟨t, ty, rfl, ht, hx, cA, _, e1, ha, hra, fun j hj => ?_⟩⟩
  show rVal w _ _ (rTag ty (rPl 0 j)) _
  rw [rPl_0]
  exact rDv _ (rAts_k ht).1
end ARR1
section SND4
variable {lab : Nat → rM × Nat} {M : rM} {pc pc' : Nat} {nx : rP}
-- a new array: what the machine's row gives
def rNaR (M : rM) (i : Instr) (ln pc : Nat) (ty : FieldType) (ok : State → Array Value → Prop) : Prop := ∀ {p : Program} {l : Launch} {e : Env} {R : Room} {s : State} {m : MethodId} {args : Array Value} {below : List Frame} {meth : Method} {c : Code} {Q : State → Prop} {H : Heap} {locs : List Loc} {cells slots : Nat} {ls : Array Slot} {rest : List Value} {x : Nat}, p.tables.exec = Jvm.exec → c.code = rMc_ M → s.vm.findClass (rMy M).cls = some m.cls → ok s args → decode (rMc_ M) pc = .ok (i, ln) → x ≤ 65536 → cells + 1 ≤ R.cells → slots + x ≤ R.slots →
  (∀ (H1 : Heap) (cA : ClassId), H1[H.size]? = some (arrV cA x (fun _ => defaultValue ty)) → H1.size = H.size + 1 → (∀ q : Nat, q < H.size → H1[q]? = H[q]?) → ArrOfT s cA ty → va_RA s cA ty → W p l e R s m args below meth c H1 locs (cells + 1) (slots + x) Q (F0 m (pc + ln) ls (.ref H.size :: rest))) →
  W p l e R s m args below meth c H locs cells slots Q (F0 m pc ls (.int (nI x) :: rest))
theorem q_newa {at_ : ArrayType} (hty : newarray.typeOf at_ = .int ∨ newarray.typeOf at_ = .long ∨ newarray.typeOf at_ = .boolean) : rNaR M (.newarray at_) 2 pc (newarray.typeOf at_) (fun s args => (Cond.arrayClass (newarray.typeOf at_)).before args s = true) := by
  intro p l e R s m args below meth c Q H locs cells slots ls rest x h1 h2 h3 h4 h5 hx hc hs kk
  refine va_newaK h1 h2 h4 (N := x) rfl h5 rfl (rNn hx).2 (rNn hx).1 ?_ hc hs rfl (fun H1 cA g1 g2 g3 g4 g5 => kk H1 cA g1 g2 g3 g4 ?_)
  · rcases hty with h | h | h <;> rw [h] <;> simp [componentBytes] <;> omega
  · rcases hty with h | h | h <;> rw [h] at g5 ⊢ <;> exact g5
theorem q_anew {C : String} {i : Nat} {own : String} (ho : (rMy M).cls = own) : rNaR M (.anewarray i) 3 pc (.object C) (fun s args => (Cond.classLink own i C).before args s = true ∧ (Cond.arrayOver (.object C)).before args s = true) := by
  intro p l e R s m args below meth c Q H locs cells slots ls rest x h1 h2 h3 h4 h5 hx hc hs kk
  have hcl := (rNn hx).1
  refine W.anew h1 h2 (ho ▸ h3) h4.1 h4.2 rfl h5 rfl (rNn hx).2 (by rw [hcl]; omega) hc (by rw [hcl]; exact hs) fun cA kA comp f1 f2 f3 f4 => ?_
  rw [hcl]
  generalize hH1 : H.push ({ cls := cA, slots := Array.replicate x .null, vm := .none } : Cell) = H1
  exact kk H1 cA (by rw [← hH1, Array.getElem?_push_size, ← arrV_new]; rfl) (by rw [← hH1, Array.size_push]) (fun q hq => by rw [← hH1, Array.getElem?_push, if_neg (Nat.ne_of_lt hq)]) (fun N z => ⟨(fun k h => by cases h), kA, f2, comp, f3⟩) ⟨kA, comp, f2, f3, f4, f1⟩
theorem q_anewA {t : FieldType} {i : Nat} {own : String} (ho : (rMy M).cls = own) : rNaR M (.anewarray i) 3 pc (.array t) (fun s args => (Cond.classLink own i (FieldType.array t).toString).before args s = true ∧ (Cond.arrayOver (.array t)).before args s = true) := by
  intro p l e R s m args below meth c Q H locs cells slots ls rest x h1 h2 h3 h4 h5 hx hc hs kk
  have hcl := (rNn hx).1
  refine W.anewA h1 h2 (ho ▸ h3) h4.1 h4.2 rfl h5 rfl (rNn hx).2 (by rw [hcl]; omega) hc (by rw [hcl]; exact hs) fun cA kA comp f1 f2 f3 f4 => ?_
  rw [hcl]
  generalize hH1 : H.push ({ cls := cA, slots := Array.replicate x .null, vm := .none } : Cell) = H1
  exact kk H1 cA (by rw [← hH1, Array.getElem?_push_size, ← arrV_new]; rfl) (by rw [← hH1, Array.size_push]) (fun q hq => by rw [← hH1, Array.getElem?_push, if_neg (Nat.ne_of_lt hq)]) (fun N z => ⟨(fun k h => by cases h), kA, f2, comp, f3⟩) f1
theorem s_Nwa {t ln : Nat} {ty : FieldType} {i : Instr} {ok : State → Array Value → Prop} (ht : rAts[t]? = some ty) (hR : rNaR M i ln pc ty ok) (hok : ∀ {w : rW} {s : State} {args : Array Value}, (∀ wd ∈ rTG, wd.before args s = true) → rKx w s → ok s args) (hdg : rDec M pc i ln pc') (kx : rSnd lab M pc' nx) : rSnd lab M pc (oNwa (2 * t + 1) nx) := by
  intro w l d jb jc hb hc L S h res hh
  obtain ⟨hdg, rfl⟩ := hdg
  obtain ⟨o, S1, rfl, hh⟩ := iP hh
  obtain ⟨x, rfl, hh⟩ := iI hh
  obtain ⟨ex, hh⟩ := iBt hh
  obtain ⟨e0, hh⟩ := iBt hh
  have hn : hN h ≤ 510 := bl e0
  have hx : x ≤ 65536 := bl ex
  refine rTo.gen (h' := (tS9 h.1 (hN h) (2 * t + 1, (x, 0)), (Nat.succ (hN h), (Nat.succ (hC h), (Nat.add (hL h) x, rScr h))))) ⟨Nat.le_succ _, Nat.le_succ _, Nat.le_add_right _ _⟩ (kx w l d jb jc hb hc _ _ _ _ hh) fun {p} {e} {R} {s} {m} {args} {below} {meth} {c} {Q} {H} {locs} {cells} {slots} {ls} {lv} {st} {ad} {mc} {ms} hX hP hs hl hLo hS hm hcs hlo kk => ?_
  obtain ⟨v, st1, rfl, h2, hS1⟩ := hS.cons
  obtain ⟨-, rfl⟩ := h2.i
  have b1 : cells + (hC h + 1) ≤ mc + hC h := hcs.1
  have b2 : slots + (hL h + x) ≤ ms + hL h := hcs.2
  refine hR hX.1 hX.2.1 hX.2.2.2.1 (hok hX.2.2.2.2.1 hX.2.2.2.2.2.2.2.2.2.1) hdg hx (by omega) (by omega) fun H1 cA e1 z1 o1 ha hra => ?_
  exact kk (rUp ad (hN h) H.size) H1 locs _ _ ls lv (.ref H.size :: st1) rUp_ext (hP.newA hn hx ht e1 z1 o1 ha hra) (by omega) hl (hLo.mono (Nat.le_succ _) rUp_ext) ⟨Or.inr (Or.inr (Or.inr ⟨hP.1.1, Nat.lt_succ_self _, by rw [rUp_self]⟩)), hS1.mono (Nat.le_succ _) rUp_ext⟩ (by show cells + 1 + hC h ≤ cells + (hC h + 1); omega) (by show slots + x + hL h ≤ slots + (hL h + x); omega) hlo
-- what the stores and loads give
def rStR (M : rM) (i : Instr) (pc : Nat) (ty : FieldType) : Prop := ∀ {p : Program} {l : Launch} {e : Env} {R : Room} {s : State} {m : MethodId} {args : Array Value} {below : List Frame} {meth : Method} {c : Code} {Q : State → Prop} {H : Heap} {locs : List Loc} {cells slots : Nat} {ls : Array Slot} {rest : List Value} {a : Addr} {cell : Cell} {j : Int32} {v : Value}, p.tables.exec = Jvm.exec → c.code = rMc_ M → H[a]? = some cell → s.isArrayOf cell ty → cell.vm ≠ .unknown → ¬ (j < 0 ∨ cell.slots.size ≤ j.toNatClampNeg) → decode (rMc_ M) pc = .ok (i, 1) → fits ty v = true → narrow ty v = v →
  (∀ H' : Heap, H'[a]? = some (cell.setSlot j.toNatClampNeg v) → H'.size = H.size → (∀ q, q ≠ a → H'[q]? = H[q]?) → W p l e R s m args below meth c H' (locs ++ [⟨a, j.toNatClampNeg⟩]) cells slots Q (F0 m (pc + 1) ls rest)) → W p l e R s m args below meth c H locs cells slots Q (F0 m pc ls (v :: .int j :: .ref a :: rest))
theorem q_iast : rStR M .iastore pc .int := by
  intro p l e R s m args below meth c Q H locs cells slots ls rest a cell j v h1 h2 h3 h4 h5 h6 h7 h8 h9 kk
  cases v <;> first | (cases h8; done) | exact W.iast h1 h2 h3 h4 h5 h6 rfl rfl h7 kk
theorem q_last : rStR M .lastore pc .long := by
  intro p l e R s m args below meth c Q H locs cells slots ls rest a cell j v h1 h2 h3 h4 h5 h6 h7 h8 h9 kk
  cases v <;> first | (cases h8; done) | exact W.last h1 h2 h3 h4 h5 h6 rfl rfl h7 kk
theorem q_zast : rStR M .bastore pc .boolean := by
  intro p l e R s m args below meth c Q H locs cells slots ls rest a cell j v h1 h2 h3 h4 h5 h6 h7 h8 h9 kk
  cases v <;> first | (cases h8; done) | exact W.zast h1 h2 h3 h4 h5 h6 rfl rfl h7 (by rw [h9]; exact kk)
def rLdR (M : rM) (i : Instr) (pc : Nat) (ty : FieldType) : Prop := ∀ {p : Program} {l : Launch} {e : Env} {R : Room} {s : State} {m : MethodId} {args : Array Value} {below : List Frame} {meth : Method} {c : Code} {Q : State → Prop} {H : Heap} {locs : List Loc} {cells slots : Nat} {ls : Array Slot} {rest : List Value} {a : Addr} {cell : Cell} {j : Int32} {v : Value}, p.tables.exec = Jvm.exec → c.code = rMc_ M → H[a]? = some cell → s.isArrayOf cell ty → cell.vm ≠ .unknown → ¬ (j < 0 ∨ cell.slots.size ≤ j.toNatClampNeg) → cell.slots[j.toNatClampNeg]? = some v → decode (rMc_ M) pc = .ok (i, 1) →
  W p l e R s m args below meth c H locs cells slots Q (F0 m (pc + 1) ls (v :: rest)) → W p l e R s m args below meth c H locs cells slots Q (F0 m pc ls (.int j :: .ref a :: rest))
theorem q_iald : rLdR M .iaload pc .int := fun h1 h2 h3 h4 h5 h6 h7 h8 kk => W.iald h1 h2 h3 h4 h5 h6 h7 rfl rfl h8 kk
theorem q_lald : rLdR M .laload pc .long := fun h1 h2 h3 h4 h5 h6 h7 h8 kk => W.lald h1 h2 h3 h4 h5 h6 h7 rfl rfl h8 kk
theorem q_zald : rLdR M .baload pc .boolean := fun h1 h2 h3 h4 h5 h6 h7 h8 kk => W.zald h1 h2 h3 h4 h5 h6 h7 rfl rfl h8 kk
theorem q_aald {ty : FieldType} (hty : ty.isReference = true) : rLdR M .aaload pc ty := fun h1 h2 h3 h4 h5 h6 h7 h8 kk => W.aald h1 h2 h3 h4 hty h5 h6 h7 rfl rfl h8 kk
theorem s_Ast {t tc : Nat} {ty : FieldType} {i : Instr} (ht : rAts[t]? = some ty) (hR : rStR M i pc ty) (htc : rFc ty = tc) (htc4 : tc < 4) (hdg : rDec M pc i 1 pc') (kx : rSnd lab M pc' nx) : rSnd lab M pc (oAst (2 * t + 1) tc nx) := by
  intro w l d jb jc hb hc L S h res hh
  obtain ⟨hdg, rfl⟩ := hdg
  obtain ⟨vv, S1, rfl, hh⟩ := iP hh
  obtain ⟨ii, S1, rfl, hh⟩ := iP hh
  obtain ⟨oo, S1, rfl, hh⟩ := iP hh
  obtain ⟨a, rfl, hh⟩ := iA hh
  obtain ⟨x, rfl, hh⟩ := iI hh
  obtain ⟨y, hh, hy⟩ := rUn_i hh
  obtain ⟨e0, hh⟩ := iBt hh
  obtain ⟨e1, hh⟩ := iBf hh
  have hh := iN hh
  refine rTo.gen (h' := rPut h a ((rAt h a).1, ((rAt h a).2.1, rSp (rAt h a).2.2 x 1 y))) ⟨Nat.le_refl _, Nat.le_refl _, Nat.le_refl _⟩ (kx w l d jb jc hb hc _ _ _ _ hh) fun {p} {e} {R} {s} {m} {args} {below} {meth} {c} {Q} {H} {locs} {cells} {slots} {ls} {lv} {st} {ad} {mc} {ms} hX hP hs hl hLo hS hm hcs hlo kk => ?_
  obtain ⟨v, st1, rfl, g1, hS1⟩ := hS.cons
  obtain ⟨v2, st2, rfl, g2, hS2⟩ := hS1.cons
  obtain ⟨v3, st3, rfl, g3, hS3⟩ := hS2.cons
  obtain ⟨-, rfl⟩ := g2.i
  have ek : (rAt h a).1 = 2 * t + 1 := bq e0
  have el : x < (rAt h a).2.1 := blf e1
  obtain ⟨p1, p2, p3, rfl, p5, cA, f, q1, q2, q3, q4⟩ := hP.arr g3 ek ht
  obtain ⟨x64, hval, hnar, hfit⟩ := rUn_v (fty := ty) hP.1.2.1 (rUn_c htc htc4 hy) g1
  obtain ⟨i1, i2⟩ := rIx el p5
  refine hR hX.1 hX.2.1 q1 (q2 _ _) (fun q => by cases q) (by rw [arrV_size]; exact i2) hdg hfit hnar fun H' e1 e2 e3 => ?_
  rw [i1, arrV_store] at e1
  refine kk ad H' _ cells slots ls lv st3 rExt.rf (hP.put p1 p2 (by omega) (c' := ((rAt h a).1, ((rAt h a).2.1, rSp (rAt h a).2.2 x 1 y))) ?_ (by show (rAt h a).1 ≠ 0; omega) (by omega) e3) (by omega) hl hLo hS3 (Nat.le_refl _) (Nat.le_refl _) ?_
  · refine Or.inr ⟨p3, Or.inr ⟨t, ty, ek, ht, p5, cA, _, e1, q2, q3, fun j hj => ?_⟩⟩
    show rVal w ad (hN h) (rTag ty (rPl (rSp (rAt h a).2.2 x 1 y) j)) (updV f x v j)
    rw [rPl_put _ _ _ _ x64]
    unfold updV
    by_cases hjk : j = x
    · rw [if_pos hjk, if_pos hjk]; exact hval
    · rw [if_neg hjk, if_neg hjk]; exact q4 j hj
  · intro z hz
    rcases List.mem_append.mp hz with hz | hz
    · exact hlo z hz
    · rw [List.mem_singleton.mp hz]; exact p3
theorem s_Ald {t : Nat} {ty : FieldType} {i : Instr} {mk : Nat → rV} (ht : rAts[t]? = some ty) (hR : rLdR M i pc ty) (hm : rTag ty = mk) (hdg : rDec M pc i 1 pc') (kx : rSnd lab M pc' nx) : rSnd lab M pc (oAld (2 * t + 1) mk nx) := by
  intro w l d jb jc hb hc L S h res hh
  obtain ⟨hdg, rfl⟩ := hdg
  obtain ⟨ii, S1, rfl, hh⟩ := iP hh
  obtain ⟨oo, S1, rfl, hh⟩ := iP hh
  obtain ⟨a, rfl, hh⟩ := iA hh
  obtain ⟨x, rfl, hh⟩ := iI hh
  obtain ⟨e0, hh⟩ := iBt hh
  obtain ⟨e1, hh⟩ := iBf hh
  refine (kx w l d jb jc hb hc _ _ _ _ hh).step fun hX hP hl hLo hS kk => ?_
  obtain ⟨v2, st2, rfl, g2, hS2⟩ := hS.cons
  obtain ⟨v3, st3, rfl, g3, hS3⟩ := hS2.cons
  obtain ⟨-, rfl⟩ := g2.i
  have ek : (rAt h a).1 = 2 * t + 1 := bq e0
  have el : x < (rAt h a).2.1 := blf e1
  obtain ⟨p1, p2, p3, rfl, p5, cA, f, q1, q2, q3, q4⟩ := hP.arr g3 ek ht
  obtain ⟨i1, i2⟩ := rIx el p5
  exact hR hX.1 hX.2.1 q1 (q2 _ _) (fun q => by cases q) (by rw [arrV_size]; exact i2) (v := f x) (by rw [i1]; exact arrV_read _ _ el) hdg (kk _ _ (_ :: _) hl hLo ⟨by rw [← hm]; exact q4 x el, hS3⟩)
theorem land_odd (n : Nat) : Nat.land n 1 = n % 2 := Nat.and_two_pow_sub_one_eq_mod n 1
theorem s_Aal (hdg : rDec M pc .aaload 1 pc') (kx : rSnd lab M pc' nx) : rSnd lab M pc (oAal nx) := by
  intro w l d jb jc hb hc L S h res hh
  obtain ⟨hdg, rfl⟩ := hdg
  obtain ⟨ii, S1, rfl, hh⟩ := iP hh
  obtain ⟨oo, S1, rfl, hh⟩ := iP hh
  obtain ⟨a, rfl, hh⟩ := iA hh
  obtain ⟨x, rfl, hh⟩ := iI hh
  obtain ⟨e0, hh⟩ := iBt hh
  obtain ⟨e2, hh⟩ := iBt hh
  obtain ⟨e1, hh⟩ := iBf hh
  refine (kx w l d jb jc hb hc _ _ _ _ hh).step fun hX hP hl hLo hS kk => ?_
  obtain ⟨v2, st2, rfl, g2, hS2⟩ := hS.cons
  obtain ⟨v3, st3, rfl, g3, hS3⟩ := hS2.cons
  obtain ⟨-, rfl⟩ := g2.i
  have ek : Nat.land (rAt h a).1 1 = 1 := bq e0
  rw [land_odd] at ek
  have e7 : 7 ≤ (rAt h a).1 := bl e2
  have el : x < (rAt h a).2.1 := blf e1
  obtain ⟨t, ty, e3, ht⟩ : ∃ t ty, (rAt h a).1 = 2 * t + 1 ∧ rAts[t]? = some ty := by
    obtain ⟨h1, h2, h3, h4⟩ := hP.deref g3 (by omega)
    rcases h4 with h4 | ⟨h5, ⟨ci', r', e1, -⟩ | ⟨t', ty', e1, e2, -⟩⟩
    · omega
    · omega
    · exact ⟨t', ty', e1, e2⟩
  obtain ⟨p1, p2, p3, rfl, p5, cA, f, q1, q2, q3, q4⟩ := hP.arr g3 e3 ht
  obtain ⟨i1, i2⟩ := rIx el p5
  have hrf := (rAts_k ht).2.2 (by omega)
  refine q_aald hrf hX.1 hX.2.1 q1 (q2 _ _) (fun q => by cases q) (by rw [arrV_size]; exact i2) (v := f x) (by rw [i1]; exact arrV_read _ _ el) hdg (kk _ _ (_ :: _) hl hLo ⟨?_, hS3⟩)
  have := q4 x el
  cases ty <;> first | (cases hrf; done) | exact this
theorem s_Len (hdg : rDec M pc .arraylength 1 pc') (kx : rSnd lab M pc' nx) : rSnd lab M pc (oLen nx) := by
  intro w l d jb jc hb hc L S h res hh
  obtain ⟨hdg, rfl⟩ := hdg
  obtain ⟨oo, S1, rfl, hh⟩ := iP hh
  obtain ⟨a, rfl, hh⟩ := iA hh
  rcases iB hh with ⟨e0, hh⟩ | ⟨n0, hh⟩
  · refine (kx w l d jb jc hb hc _ _ _ _ hh).step fun hX hP hl hLo hS kk => ?_
    obtain ⟨v3, st3, rfl, g3, hS3⟩ := hS.cons
    have ea : a = 8192 := bq e0
    subst ea
    obtain ⟨⟨L9, xs, ⟨scr, x1, x2, x3, x4, x5⟩, x6, x7, x8⟩, x9, -⟩ := hX.2.2.2.2.2.2.2.2.2.1.2.1
    have hv : v3 = .ref (wE w) := by
      have hlim : hN h ≤ 512 := hP.1.2.1
      rcases g3.r with ⟨e, -⟩ | ⟨-, e⟩ | ⟨e, -⟩ | ⟨-, e, -⟩
      · omega
      · exact e
      · omega
      · omega
    subst hv
    have hlen : rLen (rScr h) = L9 := by
      rw [hP.1.2.2.1, ← x6]
      generalize wS w = l9
      induction l9 with
      | nil => rfl
      | cons a l ih => exact congrArg Nat.succ ih
    refine W.alen (n := nI L9) hX.1 hX.2.1 (by rw [hP.2.2.2.2 _ x9]; exact x1) x2 (by rw [x4]; rfl) rfl rfl hdg (kk _ _ (_ :: _) hl hLo ⟨⟨by rw [hlen]; omega, by rw [hlen]⟩, hS3⟩)
  rcases iB hh with ⟨e0, hh⟩ | ⟨n1, hh⟩
  · refine (kx w l d jb jc hb hc _ _ _ _ hh).step fun hX hP hl hLo hS kk => ?_
    obtain ⟨v3, st3, rfl, g3, hS3⟩ := hS.cons
    have ea : a = 16384 := bq e0
    subst ea
    obtain ⟨-, -, -, ⟨cell, x1, x2, x3, x4⟩, -⟩ := hX.2.2.2.2.2.2.2.2.2.1.2.1
    have hv : v3 = .ref (wF w) := by
      have hlim : hN h ≤ 512 := hP.1.2.1
      rcases g3.r with ⟨e, -⟩ | ⟨e, -⟩ | ⟨-, e⟩ | ⟨-, e, -⟩
      · omega
      · omega
      · exact e
      · omega
    subst hv
    refine W.alen (n := nI 0) hX.1 hX.2.1 (by rw [hP.2.2.2.2 _ x4]; exact x1) x2 x3 rfl rfl hdg (kk _ _ (_ :: _) hl hLo ⟨⟨by decide, rfl⟩, hS3⟩)
  · obtain ⟨e0, hh⟩ := iBt hh
    refine (kx w l d jb jc hb hc _ _ _ _ hh).step fun hX hP hl hLo hS kk => ?_
    obtain ⟨v3, st3, rfl, g3, hS3⟩ := hS.cons
    have ek : Nat.land (rAt h a).1 1 = 1 := bq e0
    rw [land_odd] at ek
    obtain ⟨t, ty, e3, ht⟩ : ∃ t ty, (rAt h a).1 = 2 * t + 1 ∧ rAts[t]? = some ty := by
      obtain ⟨h1, h2, h3, h4⟩ := hP.deref g3 (by omega)
      rcases h4 with h4 | ⟨h5, ⟨ci', r', e1, -⟩ | ⟨t', ty', e1, e2, -⟩⟩
      · omega
      · omega
      · exact ⟨t', ty', e1, e2⟩
    obtain ⟨p1, p2, p3, rfl, p5, cA, f, q1, q2, q3, q4⟩ := hP.arr g3 e3 ht
    exact W.alen (n := nI (rAt h a).2.1) hX.1 hX.2.1 q1 (q2 _ _) (by rw [arrV_size]; rfl) rfl rfl hdg (kk _ _ (_ :: _) hl hLo ⟨⟨by show (rAt h a).2.1 < _; omega, rfl⟩, hS3⟩)
theorem rLg_eq (l : List rV) (n : Nat) : rLg l n = l.getD n vU := by
  induction l generalizing n with
  | nil => rfl
  | cons x l ih =>
    cases n with
    | zero => rfl
    | succ n => exact ih n
theorem rSame_i {dt x : Nat} : ∀ {n i : Nat}, rSame dt x n i = true → ∀ j, i ≤ j → j < i + n → rPl dt j = x := by
  intro n
  induction n with
  | zero => intro i _ j h1 h2; omega
  | succ n ih =>
    intro i h j h1 h2
    have h : @Bool.rec (fun _ => Bool) false (rSame dt x n (Nat.succ i)) (Nat.beq (rPl dt i) x) = true := h
    cases hb : Nat.beq (rPl dt i) x with
    | false => rw [hb] at h; cases h
    | true =>
      rw [hb] at h
      by_cases hj : j = i
      · rw [hj]; exact bq hb
      · exact ih h j (by show i + 1 ≤ j; omega) (by show j < i + 1 + n; omega)
theorem s_Ial (hdg : rDec M pc .iaload 1 pc') (kx : rSnd lab M pc' nx) : rSnd lab M pc (oIal nx) := by
  intro w l d jb jc hb hc L S h res hh
  obtain ⟨hdg, rfl⟩ := hdg
  obtain ⟨ii, S1, rfl, hh⟩ := iP hh
  obtain ⟨oo, S1, rfl, hh⟩ := iP hh
  obtain ⟨a, rfl, hh⟩ := iA hh
  rcases iB hh with ⟨e0, hh⟩ | ⟨n0, hh⟩
  · have ek : (rAt h a).1 = 2 * 0 + 1 := bq e0
    rcases iS hh with ⟨x, rfl, hh⟩ | ⟨q, rfl, hh⟩
    · obtain ⟨e1, hh⟩ := iBf hh
      refine (kx w l d jb jc hb hc _ _ _ _ hh).step fun hX hP hl hLo hS kk => ?_
      obtain ⟨v2, st2, rfl, g2, hS2⟩ := hS.cons
      obtain ⟨v3, st3, rfl, g3, hS3⟩ := hS2.cons
      obtain ⟨-, rfl⟩ := g2.i
      have el : x < (rAt h a).2.1 := blf e1
      obtain ⟨p1, p2, p3, rfl, p5, cA, f, q1, q2, q3, q4⟩ := hP.arr g3 ek rfl
      obtain ⟨i1, i2⟩ := rIx el p5
      exact q_iald hX.1 hX.2.1 q1 (q2 _ _) (fun q => by cases q) (by rw [arrV_size]; exact i2) (v := f x) (by rw [i1]; exact arrV_read _ _ el) hdg (kk _ _ (_ :: _) hl hLo ⟨q4 x el, hS3⟩)
    · obtain ⟨p9, q9, e9, hh⟩ := iX1 hh
      obtain ⟨e1, hh⟩ := iBf hh
      obtain ⟨e2, hh⟩ := iBt hh
      obtain ⟨e3, hh⟩ := iBt hh
      refine (kx w l d jb jc hb hc _ _ _ _ hh).step fun hX hP hl hLo hS kk => ?_
      obtain ⟨v2, st2, rfl, g2, hS2⟩ := hS.cons
      obtain ⟨v3, st3, rfl, g3, hS3⟩ := hS2.cons
      have el : q9 < (rAt h a).2.1 := blf e1
      have hpq : p9 ≤ q9 := bl e2
      obtain ⟨p1, p2, p3, rfl, p5, cA, f, q1, q2, q3, q4⟩ := hP.arr g3 ek rfl
      rw [e9] at g2
      obtain ⟨x, l2, rfl, f4, f5⟩ := g2.iv hpq (by omega)
      have el2 : x < (rAt h a).2.1 := by omega
      obtain ⟨i1, i2⟩ := rIx el2 p5
      have hsame : rPl (rAt h a).2.2 x = rPl (rAt h a).2.2 p9 := rSame_i e3 x f4 (by show x < p9 + (q9 + 1 - p9); omega)
      exact q_iald hX.1 hX.2.1 q1 (q2 _ _) (fun q => by cases q) (by rw [arrV_size]; exact i2) (v := f x) (by rw [i1]; exact arrV_read _ _ el2) hdg (kk _ _ (_ :: _) hl hLo ⟨by show rVal _ _ _ (vI (rPl (rAt h a).2.2 p9)) _; rw [← hsame]; exact q4 x el2, hS3⟩)
  · obtain ⟨e0, hh⟩ := iBt hh
    obtain ⟨x, rfl, hh⟩ := iI hh
    have ea : a = 8192 := bq e0
    subst ea
    have key : ∀ (z : rV), z = rLg (rScr h) x → z ≠ vU → rTo w l (d + 1) M (pc + 1) L (z :: S1) h res → rTo w l (d + 1) M pc L (vI x :: vR 8192 :: S1) h res := by
      intro z hz hzU hto
      refine hto.step fun hX hP hl hLo hS kk => ?_
      obtain ⟨v2, st2, rfl, g2, hS2⟩ := hS.cons
      obtain ⟨v3, st3, rfl, g3, hS3⟩ := hS2.cons
      obtain ⟨-, rfl⟩ := g2.i
      obtain ⟨⟨L9, xs, ⟨scr, x1, x2, x3, x4, x5⟩, x6, x7, x8⟩, x9, -⟩ := hX.2.2.2.2.2.2.2.2.2.1.2.1
      have hv : v3 = .ref (wE w) := by
        have hlim : hN h ≤ 512 := hP.1.2.1
        rcases g3.r with ⟨e, -⟩ | ⟨-, e⟩ | ⟨e, -⟩ | ⟨-, e, -⟩
        · omega
        · exact e
        · omega
        · omega
      subst hv
      have hz2 : z = (wS w).getD x vU := by rw [hz, rLg_eq, hP.1.2.2.1]
      have hxl : x < L9 := by
        rcases Nat.lt_or_ge x L9 with h | h
        · exact h
        · rw [List.getD_eq_getElem?_getD, List.getElem?_eq_none (by omega)] at hz2
          exact absurd hz2 hzU
      obtain ⟨i1, i2⟩ := rIx hxl (by omega)
      refine q_iald hX.1 hX.2.1 (by rw [hP.2.2.2.2 _ x9]; exact x1) x2 x3 (by rw [x4]; exact i2) (v := .int (xs x)) (by rw [i1]; exact x5 x hxl) hdg (kk _ _ (_ :: _) hl hLo ⟨?_, hS3⟩)
      rw [hz2]
      exact (x8 x hxl).val
    rcases iS hh with ⟨n, e, hh⟩ | ⟨q, e, hh⟩
    · exact key _ e.symm (fun z => by cases z) (kx w l d jb jc hb hc _ _ _ _ hh)
    · obtain ⟨p9, q9, e9, hh⟩ := iX1 hh
      obtain ⟨e1, hh⟩ := iBf hh
      have h6 := blf e1
      refine key _ (e9.symm.trans e.symm) (fun z => by have := congrArg (fun q : rV => match q with | .inr (.inr (.inr p)) => p.1 | _ => 0) z; simp only [vU] at this; omega) (kx w l d jb jc hb hc _ _ _ _ hh)
end SND4
end
section
-- ===== stores of references, casts, Object's constructor, switches =====
def rNm (k : Nat) : String := if k % 2 = 1 then "[" ++ (rAts.getD (k / 2) .int).toString else ((rCls[k / 2 - 1]?).map (fun r => r.1)).getD ""
def rEn (ty : FieldType) : String := match ty with
  | .object C => C
  | t => t.toString
section OPS1
variable {w : rW} {U : State} {ad : Nat → Nat} {H : Heap} {h : rH}
theorem rHp.named {k : Nat} {v : Value} (hH : rHp w U ad h H) (hC : rCl w U) (hv : rVal w ad (hN h) (vR k) v) (hk : (rAt h k).1 ≠ 0) : 0 < k ∧ k < hN h ∧ v = .ref (ad k) ∧ ∃ cell : Cell, H[ad k]? = some cell ∧ cell.vm = .none ∧ U.vm.findClass (rNm (rAt h k).1) = some cell.cls := by
  obtain ⟨h1, h2, h3, h4⟩ := hH.deref hv hk
  refine ⟨h1, h2, h3, ?_⟩
  rcases h4 with h4 | ⟨h5, ⟨ci, r, e1, e2, V, ⟨cell, h6, h6b, h6c, -⟩, h7⟩ | ⟨t, ty, e1, e2, e3, cA, f, h6, h7, h8, h9⟩⟩
  · exact absurd h4 hk
  · refine ⟨cell, h6, h6c, ?_⟩
    have hfc := (hC ci r e2).2.1
    have : rNm (rAt h k).1 = r.1 := by
      rw [e1]
      unfold rNm
      rw [if_neg (by omega), show (2 * ci + 2) / 2 - 1 = ci by omega, e2]
      rfl
    rw [this, h6b]
    exact hfc
  · refine ⟨_, h6, rfl, ?_⟩
    have : rNm (rAt h k).1 = "[" ++ ty.toString := by
      rw [e1]
      unfold rNm
      rw [if_pos (by omega), show (2 * t + 1) / 2 = t by omega, List.getD_eq_getElem?_getD, e2]
      rfl
    rw [this]
    cases ty with
    | object C =>
      obtain ⟨kA, comp, q1, q2, q3, q4⟩ := h8
      exact q4
    | _ => exact h8
theorem rSh_i {S : List rV} {k : rR} {r : rO × rH} (hh : rSh S k = some r) : k = some r ∧ S.length ≤ 4 := by
  rcases S with _ | ⟨a, _ | ⟨b, _ | ⟨c, _ | ⟨d, _ | ⟨e, S⟩⟩⟩⟩⟩
  · exact ⟨hh, by simp⟩
  · exact ⟨hh, by simp⟩
  · exact ⟨hh, by simp⟩
  · exact ⟨hh, by simp⟩
  · exact ⟨hh, by simp⟩
  · cases hh
theorem rStk.len : ∀ {S : List rV} {st : List Value} {n : Nat}, rStk w ad n S st → (st.map fun v => v.category).sum ≤ 2 * S.length
  | [], [], _, _ => by simp
  | x :: S, v :: st, n, hs => by
    have h1 := hs.2.len
    have h2 : v.category ≤ 2 := by rcases lv_cat v with e | e <;> omega
    simp only [List.map_cons, List.sum_cons, List.length_cons]
    omega
  | [], _ :: _, _, h => h.elim
  | _ :: _, [], _, h => h.elim
end OPS1
def rOkA (ok : Nat → Nat → Bool) : Prop := ∀ k v, ok k v = true → v ≠ 0 ∧ ∃ t ty, k = 2 * t + 1 ∧ rAts[t]? = some ty ∧ ((∃ C, ty = .object C) ∨ ty = .array .int ∧ ∃ j : Nat, rNGs[j]? = some (Cond.arrayOver (.array .int))) ∧ (rEn ty = rNm v ∨ ∃ j : Nat, rNGs[j]? = some (Cond.castable (rNm v) (rEn ty)))
section SND5
variable {lab : Nat → rM × Nat} {M : rM} {pc pc' : Nat} {nx : rP}
theorem s_Aas {ok : Nat → Nat → Bool} (hok : rOkA ok) (hdg : rDec M pc .aastore 1 pc') (kx : rSnd lab M pc' nx) : rSnd lab M pc (oAas ok nx) := by
  intro w l d jb jc hb hc L S h res hh
  obtain ⟨hdg, rfl⟩ := hdg
  obtain ⟨vv, S1, rfl, hh⟩ := iP hh
  obtain ⟨ii, S1, rfl, hh⟩ := iP hh
  obtain ⟨oo, S1, rfl, hh⟩ := iP hh
  obtain ⟨a, rfl, hh⟩ := iA hh
  obtain ⟨x, rfl, hh⟩ := iI hh
  obtain ⟨y, rfl, hh⟩ := iA hh
  obtain ⟨e0, hh⟩ := iBt hh
  obtain ⟨e1, hh⟩ := iBf hh
  have hh := iN hh
  refine rTo.gen (h' := rPut h a ((rAt h a).1, ((rAt h a).2.1, rSp (rAt h a).2.2 x 1 y))) ⟨Nat.le_refl _, Nat.le_refl _, Nat.le_refl _⟩ (kx w l d jb jc hb hc _ _ _ _ hh) fun {p} {e} {R} {s} {m} {args} {below} {meth} {c} {Q} {H} {locs} {cells} {slots} {ls} {lv} {st} {ad} {mc} {ms} hX hP hs hl hLo hS hm hcs hlo kk => ?_
  obtain ⟨v, st1, rfl, g1, hS1⟩ := hS.cons
  obtain ⟨v2, st2, rfl, g2, hS2⟩ := hS1.cons
  obtain ⟨v3, st3, rfl, g3, hS3⟩ := hS2.cons
  obtain ⟨-, rfl⟩ := g2.i
  have hokk : ok (rAt h a).1 (rAt h y).1 = true := e0
  have el : x < (rAt h a).2.1 := blf e1
  obtain ⟨hv0, t, ty, ek, ht, hty, hcs2⟩ := hok _ _ hokk
  have hK := hX.2.2.2.2.2.2.2.2.2.1
  obtain ⟨p1, p2, p3, rfl, p5, cA, f, q1, q2, q3, q4⟩ := hP.arr g3 ek ht
  obtain ⟨y1, y2, rfl, cell, y3, y4, y5⟩ := hP.named hK.1 g1 hv0
  obtain ⟨i1, i2⟩ := rIx el p5
  obtain ⟨kA, comp, f1, f2, f3⟩ : ∃ (kA : Class) (comp : ClassId), s.vm.classes[cA]? = some kA ∧ kA.kind = .array comp ty ∧ s.vm.findClass (rEn ty) = some comp := by
    rcases hty with ⟨C, rfl⟩ | ⟨rfl, j, hj⟩
    · obtain ⟨kA, comp, f1, f2, f3, -⟩ := q3
      exact ⟨kA, comp, f1, f2, f3⟩
    · have hw := hK.ng j hj
      obtain ⟨comp, c9, k9, f1, -, f3, f4, f5⟩ := arrayOverA_spec hw
      have q3' : s.vm.findClass ("[" ++ (FieldType.array .int).toString) = some cA := q3
      cases f5.symm.trans q3'
      exact ⟨k9, comp, f3, f4, f1⟩
  obtain ⟨kC, hkC, -⟩ := Vm.findClass_spec f3
  obtain ⟨kv, hkv, -⟩ := Vm.findClass_spec y5
  have hasg : s.vm.assignable cell.cls comp = true := by
    rcases hcs2 with e | ⟨j, hj⟩
    · rw [← e] at y5
      exact vb_asgS comp cell.cls f3 y5
    · exact vb_asgC (hK.ng j hj) comp cell.cls f3 y5
  have hin : ¬ nI x < 0 ∧ (nI x).toNatClampNeg < (arrV cA (rAt h a).2.1 f).slots.size := by
    rw [arrV_size, i1]
    exact ⟨fun q => i2 (Or.inl q), el⟩
  have href : ty.isReference = true := by rcases hty with ⟨C, rfl⟩ | ⟨rfl, -⟩ <;> rfl
  have y64 : y < 18446744073709551616 := by have := hP.1.2.1; omega
  refine W.aast hX.1 hX.2.1 q1 (fun q h => by cases h) (fun h => by cases h) f1 f2 href hkC hin y3 (fun q h => by rw [y4] at h; cases h) hkv hasg rfl rfl hdg fun H' e1 e2 e3 => ?_
  rw [i1, arrV_store] at e1
  refine kk ad H' _ cells slots ls lv st3 rExt.rf (hP.put p1 p2 (by omega) (c' := ((rAt h a).1, ((rAt h a).2.1, rSp (rAt h a).2.2 x 1 y))) ?_ (by show (rAt h a).1 ≠ 0; omega) (by omega) e3) (by omega) hl hLo hS3 (Nat.le_refl _) (Nat.le_refl _) ?_
  · refine Or.inr ⟨p3, Or.inr ⟨t, ty, ek, ht, p5, cA, _, e1, q2, q3, fun j hj => ?_⟩⟩
    show rVal w ad (hN h) (rTag ty (rPl (rSp (rAt h a).2.2 x 1 y) j)) (updV f x (.ref (ad y)) j)
    rw [rPl_put _ _ _ _ y64]
    unfold updV
    by_cases hjk : j = x
    · rw [if_pos hjk, if_pos hjk]
      rcases hty with ⟨C, rfl⟩ | ⟨rfl, -⟩
      · exact g1
      · exact g1
    · rw [if_neg hjk, if_neg hjk]; exact q4 j hj
  · intro z hz
    rcases List.mem_append.mp hz with hz | hz
    · exact hlo z hz
    · rw [List.mem_singleton.mp hz]; exact p3
theorem s_Cst {ok : Nat → Bool} {own C : String} {i : Nat} (hok : ∀ k, ok k = true → k ≠ 0 ∧ rNm k = C) (ho : (rMy M).cls = own) (hcl : Cond.classLink own i C ∈ rTG) (hdg : rDec M pc (.checkcast i) 3 pc') (kx : rSnd lab M pc' nx) : rSnd lab M pc (oCst ok nx) := by
  intro w l d jb jc hb hc L S h res hh
  obtain ⟨hdg, rfl⟩ := hdg
  obtain ⟨oo, S1, rfl, hh⟩ := iP hh
  obtain ⟨a, rfl, hh⟩ := iA hh
  obtain ⟨e0, hh⟩ := iBt hh
  refine (kx w l d jb jc hb hc _ _ _ _ hh).step fun hX hP hl hLo hS kk => ?_
  obtain ⟨v3, st3, rfl, g3, hS3⟩ := hS.cons
  obtain ⟨k0, kn⟩ := hok (rAt h a).1 e0
  have hK := hX.2.2.2.2.2.2.2.2.2.1
  obtain ⟨y1, y2, rfl, cell, y3, y4, y5⟩ := hP.named hK.1 g3 k0
  rw [kn] at y5
  exact va_castE hX.1 hX.2.1 (ho ▸ hX.2.2.2.1) (hX.2.2.2.2.1 _ hcl) ⟨cell, y3, by rw [y4]; rfl, y5⟩ hdg (kk _ _ (_ :: _) hl hLo ⟨g3, hS3⟩)
theorem rDr {w : rW} {ad : Nat → Nat} {n k : Nat} {v : Value} (h : rVal w ad n (vR k) v) (h0 : k ≠ 0) : ∃ a, v = .ref a := by
  rcases h.r with ⟨e, -⟩ | ⟨-, e⟩ | ⟨-, e⟩ | ⟨-, -, e⟩
  · exact absurd e h0
  · exact ⟨_, e⟩
  · exact ⟨_, e⟩
  · exact ⟨_, e⟩
theorem s_Oi {own : String} {i : Nat} (ho : (rMy M).cls = own) (hlk : Cond.methodLink own i Lib.objectInit ∈ rTG) (hins : Cond.instanceMethod Lib.objectInit ∈ rTG) (hcode : Cond.code Lib.objectInit ⟨#[0xb1]⟩ 1 none ∈ rTG) (hdg : rDec M pc (.invokespecial i) 3 pc') (kx : rSnd lab M pc' nx) : rSnd lab M pc (oOi nx) := by
  intro w l d jb jc hb hc L S h res hh
  obtain ⟨hdg, rfl⟩ := hdg
  obtain ⟨oo, S1, rfl, hh⟩ := iP hh
  obtain ⟨a, rfl, hh⟩ := iA hh
  obtain ⟨hh, hsl⟩ := rSh_i hh
  obtain ⟨e0, hh⟩ := iBf hh
  refine (kx w l d jb jc hb hc _ _ _ _ hh).step fun hX hP hl hLo hS kk => ?_
  obtain ⟨v3, st3, rfl, g3, hS3⟩ := hS.cons
  obtain ⟨a9, rfl⟩ := rDr g3 (bqf e0)
  have ht := hX.2.2.2.2.1
  have hfr := hX.2.2.2.2.2.2.2.2.2.2.1
  have hlo := hX.2.2.2.2.2.2.2.2.2.2.2.1
  have hlen := hS3.len
  unfold rFr at hfr
  unfold rLo at hlo
  refine W.objInit hX.1 hX.2.1 (ho ▸ hX.2.2.2.1) (ht _ hlk) (ht _ hins) (ht _ hcode) rfl (hl.1.trans hX.2.2.1.symm) rfl hdg (by omega) ?_ (kk _ _ _ hl hLo hS3)
  show 2 * 0 + _ + 12 ≤ _
  omega
-- switches
def rAllS (lab : Nat → rM × Nat) (M : rM) (pc : Nat) : List rP → List Int → Prop
  | [], [] => True
  | p :: ps, o :: os => (∃ tg : Nat, (pc : Int) + o = (tg : Int) ∧ rSnd lab M tg p) ∧ rAllS lab M pc ps os
  | _, _ => False
theorem rAllS_get : ∀ {ps : List rP} {os : List Int}, rAllS lab M pc ps os → ∀ (x : Nat) (df : rP), (x < ps.length → ∃ o tg, os[x]? = some o ∧ (pc : Int) + o = ((tg : Nat) : Int) ∧ rSnd lab M tg (rNth ps x df)) ∧ (ps.length ≤ x → rNth ps x df = df)
  | [], [], _, x, df => ⟨fun h => absurd h (Nat.not_lt_zero _), fun _ => rfl⟩
  | p :: ps, o :: os, h, x, df => by
    cases x with
    | zero =>
      obtain ⟨⟨tg, h1, h2⟩, -⟩ := h
      exact ⟨fun _ => ⟨o, tg, rfl, h1, h2⟩, fun q => absurd q (by simp)⟩
    | succ x =>
      obtain ⟨a, b⟩ := rAllS_get h.2 x df
      exact ⟨fun q => a (Nat.lt_of_succ_lt_succ q), fun q => b (Nat.le_of_succ_le_succ q)⟩
  | [], _ :: _, h, _, _ => h.elim
  | _ :: _, [], h, _, _ => h.elim
theorem s_Tsw {ps : List rP} {len : Nat} {df : rP} {dflt hi : Int} {offs : Array Int} {ln tgd : Nat} (hdg : decode (rMc_ M) pc = .ok (.tableswitch dflt 0 hi offs, ln)) (hlen : ps.length = len) (hl3 : len < 2147483648) (hhi : hi = (len : Int) - 1) (hall : rAllS lab M pc ps offs.toList) (htd : (pc : Int) + dflt = (tgd : Int)) (kd : rSnd lab M tgd df) : rSnd lab M pc (oTsw ps len df) := by
  intro w l d jb jc hb hc L S h res hh
  obtain ⟨vv, S1, rfl, hh⟩ := iP hh
  rcases iS hh with ⟨x, rfl, hq⟩ | ⟨q, rfl, hh⟩
  · obtain ⟨k1, k2⟩ := rAllS_get hall x df
    by_cases hx : x < ps.length
    · obtain ⟨o, tg, e1, e2, e3⟩ := k1 hx
      refine (e3 w l d jb jc hb hc _ _ _ _ hq).step fun hX hP hl hLo hS kk => ?_
      obtain ⟨v3, st3, rfl, g3, hS3⟩ := hS.cons
      obtain ⟨l2, rfl⟩ := g3.i
      have hti : (nI x).toInt = (x : Int) := by rw [nI_ti l2, if_pos (by omega)]
      refine lv_tableIn hX.1 hX.2.1 hdg (by rw [hti]; omega) (by rw [hti]; omega) (off := o) ?_ e2 (kk _ _ _ hl hLo hS3)
      rw [hti, show ((x : Int) - 0).toNat = x by omega, ← Array.getElem?_toList]
      exact e1
    · rw [k2 (by omega)] at hq
      refine (kd w l d jb jc hb hc _ _ _ _ hq).step fun hX hP hl hLo hS kk => ?_
      obtain ⟨v3, st3, rfl, g3, hS3⟩ := hS.cons
      obtain ⟨l2, rfl⟩ := g3.i
      refine lv_tableOut hX.1 hX.2.1 hdg ?_ htd (kk _ _ _ hl hLo hS3)
      rw [nI_ti l2]
      split <;> omega
  · obtain ⟨p1, q1, e1, hh⟩ := iX1 hh
    obtain ⟨c1, hh⟩ := iBt hh
    obtain ⟨c2, hh⟩ := iBt hh
    obtain ⟨c3, hh⟩ := iBf hh
    refine (kd w l d jb jc hb hc _ _ _ _ hh).step fun hX hP hl hLo hS kk => ?_
    obtain ⟨v3, st3, rfl, g3, hS3⟩ := hS.cons
    rw [e1] at g3
    have b1 := bl c1
    have b2 := bl c2
    have b3 := blf c3
    obtain ⟨t, l2, rfl, f4, f5⟩ := g3.iv b2 b3
    refine lv_tableOut hX.1 hX.2.1 hdg ?_ htd (kk _ _ _ hl hLo hS3)
    rw [nI_ti l2]
    split <;> omega
theorem s_Lsw {x1 x2 tg1 tg2 tgd ln : Nat} {p1 p2 df : rP} {dflt o1 o2 : Int} (hdg : decode (rMc_ M) pc = .ok (.lookupswitch dflt #[((x1 : Int), o1), ((x2 : Int), o2)], ln)) (h12 : x1 < x2) (h3 : x2 < 2147483648) (t1 : (pc : Int) + o1 = (tg1 : Int)) (t2 : (pc : Int) + o2 = (tg2 : Int)) (td : (pc : Int) + dflt = (tgd : Int)) (k1 : rSnd lab M tg1 p1) (k2 : rSnd lab M tg2 p2) (kd : rSnd lab M tgd df) : rSnd lab M pc (oLsw x1 x2 p1 p2 df) := by
  intro w l d jb jc hb hc L S h res hh
  obtain ⟨vv, S1, rfl, hh⟩ := iP hh
  obtain ⟨x, rfl, hh⟩ := iI hh
  have hsort : ((#[((x1 : Int), o1), ((x2 : Int), o2)] : Array (Int × Int)).toList.zip ((#[((x1 : Int), o1), ((x2 : Int), o2)] : Array (Int × Int)).toList.drop 1)).all (fun (a, next) => a.1 < next.1) = true := by
    simp
    omega
  rcases iB hh with ⟨c1, hq⟩ | ⟨c1, hq⟩
  · obtain rfl : x = x1 := bq c1
    refine (k1 w l d jb jc hb hc _ _ _ _ hq).step fun hX hP hl hLo hS kk => ?_
    obtain ⟨v3, st3, rfl, g3, hS3⟩ := hS.cons
    obtain ⟨l2, rfl⟩ := g3.i
    have hti : (nI x).toInt = (x : Int) := by rw [nI_ti l2, if_pos (by omega)]
    refine lv_lookup hX.1 hX.2.1 hdg hsort ?_ t1 (kk _ _ _ hl hLo hS3)
    rw [hti]
    simp [Op.lookupswitch.offset]
  rcases iB hq with ⟨c2, hr⟩ | ⟨c2, hr⟩
  · obtain rfl : x = x2 := bq c2
    refine (k2 w l d jb jc hb hc _ _ _ _ hr).step fun hX hP hl hLo hS kk => ?_
    obtain ⟨v3, st3, rfl, g3, hS3⟩ := hS.cons
    obtain ⟨l2, rfl⟩ := g3.i
    have hti : (nI x).toInt = (x : Int) := by rw [nI_ti l2, if_pos (by omega)]
    refine lv_lookup hX.1 hX.2.1 hdg hsort ?_ t2 (kk _ _ _ hl hLo hS3)
    rw [hti]
    have n1 : ¬ ((x : Int) = (x1 : Int)) := by omega
    have n2 : ¬ ((x1 : Int) = (x : Int)) := by omega
    simp [Op.lookupswitch.offset, n1, n2]
  · have m1 := bqf c1
    have m2 := bqf c2
    refine (kd w l d jb jc hb hc _ _ _ _ hr).step fun hX hP hl hLo hS kk => ?_
    obtain ⟨v3, st3, rfl, g3, hS3⟩ := hS.cons
    obtain ⟨l2, rfl⟩ := g3.i
    refine lv_lookup hX.1 hX.2.1 hdg hsort ?_ td (kk _ _ _ hl hLo hS3)
    rw [nI_ti l2]
    have n1 : ¬ ((x1 : Int) = if x < 2147483648 then (x : Int) else (x : Int) - 4294967296) := by split <;> omega
    have n2 : ¬ ((x2 : Int) = if x < 2147483648 then (x : Int) else (x : Int) - 4294967296) := by split <;> omega
    simp [Op.lookupswitch.offset, n1, n2, Ne.symm n1, Ne.symm n2]
end SND5
end
section
-- ===== ends, throws, calls =====
section END1
variable {w : rW} {U U' : State} {ad : Nat → Nat} {H H1 : Heap} {h h' : rH}
theorem rEnd_i {S : List rV} {k : rR} {r : rO × rH} (hh : rEnd S k = some r) : S = [] ∧ k = some r := by
  cases S with
  | nil => exact ⟨rfl, hh⟩
  | cons a S => cases hh
theorem rHp.grow (hH : rHp w U ad h H) (hz : H.size ≤ H1.size) (hq : ∀ q : Nat, q < H.size → H1[q]? = H[q]?) (e1 : h'.1 = h.1) (e2 : hN h' = hN h) (e3 : rScr h' = rScr h) : rHp w U ad h' H1 := by
  obtain ⟨⟨a1, a2, a3, a4, a5⟩, b, d, e, f⟩ := hH
  refine ⟨⟨by rw [e2]; exact a1, by rw [e2]; exact a2, by rw [e3]; exact a3, by rw [e1]; exact a4, fun k hk hk5 => by rw [e1]; exact a5 k (by rw [← e2]; exact hk) hk5⟩, fun k hk => ?_, fun i j hi hj => by rw [e1]; rw [e2] at hi hj; exact d i j hi hj, Nat.le_trans e hz, fun q hq2 => by rw [hq q (by omega)]; exact f q hq2⟩
  rw [e1, e2]
  rw [e2] at hk
  have hc := b k hk
  rcases hc with q | ⟨q1, q | q⟩
  · exact Or.inl q
  · exact Or.inr ⟨q1, Or.inl (q.kept (hq _ q.lt))⟩
  · exact Or.inr ⟨q1, Or.inr (q.kept (hq _ q.lt))⟩
theorem rKx.gone {w : rW} {U : State} (h : rKx w U) {u' : State} (hv : u'.vm = U.vm) : rKx w u' := h.warm (by rw [hv]; exact State.WarmedH.refl U)
end END1
section SND6
variable {lab : Nat → rM × Nat} {M : rM} {pc pc' : Nat} {nx : rP}
theorem rTo.ret {w : rW} {l : Launch} {d : Nat} {L S : List rV} {h : rH} {xo : Option rV} {i : Instr} (hst : ∀ {ad : Nat → Nat} {st : List Value}, rStk w ad (hN h) S st → ∃ v : Option Value, st = v.toList ∧ rOpt w ad (hN h) xo v ∧ rRi v i ∧ rRt (rMr M) v) (hdg : decode (rMc_ M) pc = .ok (i, 1)) : rTo w l d M pc L S h (.inl xo, h) := by
  refine ⟨⟨Nat.le_refl _, Nat.le_refl _, Nat.le_refl _⟩, fun p e R s m args below meth c Q mc ms n0 ad0 hX hF ad H locs cells slots ls lv st hn hh hs hl hL hS hc hlo => ?_⟩
  obtain ⟨v, rfl, h1, h2, h3⟩ := hst hS
  have hc1 : cells + hC h ≤ mc + hC h := hc.1
  have hc2 := hc.2
  exact W.widen (k := mc) (n := ms) (by omega) (by exact Nat.le_of_add_le_add_right hc2) (hF.2.2.1 xo ad H locs pc ls v i rfl h1 h2 hdg h3 hn.2 hh hs hlo)
theorem s_Ri {lim : Nat} (hr : rMr M = some .int ∨ (rMr M = some .boolean ∧ lim ≤ 2)) (hdg : decode (rMc_ M) pc = .ok (.ireturn, 1)) : rSnd lab M pc (oRi lim) := by
  intro w l d jb jc hb hc L S h res hh
  obtain ⟨vv, S1, rfl, hh⟩ := iP hh
  obtain ⟨rfl, hh⟩ := rEnd_i hh
  obtain ⟨x, rfl, hh⟩ := iI hh
  obtain ⟨e0, hh⟩ := iBf hh
  cases hh
  have hx := blf e0
  refine rTo.ret (fun hS => ?_) hdg
  obtain ⟨v, st, rfl, h2, hS1⟩ := hS.cons
  obtain rfl := hS1.nil
  obtain ⟨h3, rfl⟩ := h2.i
  refine ⟨some (.int (nI x)), rfl, h2, rfl, ?_⟩
  rcases hr with hr | ⟨hr, hlim⟩
  · exact Or.inl hr
  · have h2 : x = 0 ∨ x = 1 := by omega
    refine Or.inr ⟨hr, ?_⟩
    rcases h2 with rfl | rfl
    · exact narrow_b0
    · exact narrow_b1
theorem s_Rl (hr : rMr M = some .long) (hdg : decode (rMc_ M) pc = .ok (.lreturn, 1)) : rSnd lab M pc oRl := by
  intro w l d jb jc hb hc L S h res hh
  obtain ⟨vv, S1, rfl, hh⟩ := iP hh
  obtain ⟨rfl, hh⟩ := rEnd_i hh
  obtain ⟨x, rfl, hh⟩ := iL hh
  cases hh
  refine rTo.ret (fun hS => ?_) hdg
  obtain ⟨v, st, rfl, h2, hS1⟩ := hS.cons
  obtain rfl := hS1.nil
  obtain ⟨h3, rfl⟩ := h2.l
  exact ⟨some (.long (lN x)), rfl, h2, rfl, hr⟩
theorem s_Rd (hr : rMr M = some .double) (hdg : decode (rMc_ M) pc = .ok (.dreturn, 1)) : rSnd lab M pc oRd := by
  intro w l d jb jc hb hc L S h res hh
  obtain ⟨vv, S1, rfl, hh⟩ := iP hh
  obtain ⟨rfl, hh⟩ := rEnd_i hh
  obtain ⟨a, b, rfl, hh⟩ := iX hh
  obtain ⟨e0, hh⟩ := iBt hh
  cases hh
  refine rTo.ret (fun hS => ?_) hdg
  obtain ⟨v, st, rfl, h2, hS1⟩ := hS.cons
  obtain rfl := hS1.nil
  obtain rfl := h2.d (bq e0)
  exact ⟨some (.double (UInt64.ofNat b)), rfl, h2, rfl, hr⟩
theorem s_Ra (hr : (∃ n, rMr M = some (.object n)) ∨ ∃ t, rMr M = some (.array t)) (hdg : decode (rMc_ M) pc = .ok (.areturn, 1)) : rSnd lab M pc oRa := by
  intro w l d jb jc hb hc L S h res hh
  obtain ⟨vv, S1, rfl, hh⟩ := iP hh
  obtain ⟨rfl, hh⟩ := rEnd_i hh
  obtain ⟨x, rfl, hh⟩ := iA hh
  cases hh
  refine rTo.ret (fun hS => ?_) hdg
  obtain ⟨v, st, rfl, h2, hS1⟩ := hS.cons
  obtain rfl := hS1.nil
  rcases rStk_rf h2 with rfl | ⟨a, rfl⟩
  · exact ⟨some .null, rfl, h2, rfl, hr⟩
  · exact ⟨some (.ref a), rfl, h2, rfl, hr⟩
theorem s_Rv (hr : rMr M = none) (hdg : decode (rMc_ M) pc = .ok (.return_, 1)) : rSnd lab M pc oRv := by
  intro w l d jb jc hb hc L S h res hh
  obtain ⟨rfl, hh⟩ := rEnd_i hh
  cases hh
  refine rTo.ret (fun hS => ?_) hdg
  obtain rfl := hS.nil
  exact ⟨none, rfl, trivial, rfl, hr⟩
theorem s_Thr {e9 ik is ic : Nat} {own cls text : String} {names : List String} (wide : Bool) (hE : rExn[e9]? = some cls) (ho : (rMy M).cls = own) (hlaw : own ≠ "WordWrightLaw") (hcls : Bundle.fit cls = true) (hnames : ∀ n ∈ names, Bundle.fit n = true) (hnl : names.length ≤ 6) (hnt : rMh M = none) (hk : Cond.classLink own ik cls ∈ rTG) (hini : Cond.initialized cls ∈ rTG) (hstr : (own, is, text) ∈ rStr)
    (hat : ∀ wd ∈ vx_atS own ic cls names, wd ∈ rTG ∨ ∃ j : Nat, rNGs[j]? = some wd ∧ wd.onTables = true) (hgood : ∀ wd ∈ Cond.classLink own ik cls :: Cond.initialized cls :: vx_atS own ic cls names, vx_ot wd = true) (d0 : decode (rMc_ M) pc = .ok (.new ik, 3)) (d3 : decode (rMc_ M) (pc + 3) = .ok (.dup, 1))
    (d4 : (wide = false ∧ decode (rMc_ M) (pc + 4) = .ok (.ldc is, 2) ∧ decode (rMc_ M) (pc + 6) = .ok (.invokespecial ic, 3) ∧ decode (rMc_ M) (pc + 9) = .ok (.athrow, 1)) ∨ (wide = true ∧ decode (rMc_ M) (pc + 4) = .ok (.ldc_w is, 3) ∧ decode (rMc_ M) (pc + 7) = .ok (.invokespecial ic, 3) ∧ decode (rMc_ M) (pc + 10) = .ok (.athrow, 1))) : rSnd lab M pc (oThr e9) := by
  intro w l d jb jc hb hc L S h res hh
  obtain ⟨hh, hsl⟩ := rSh_i hh
  have hh : some ((Sum.inr e9 : rO), ((h.1, (hN h, (Nat.succ (hC h), (Nat.add h.2.2.2.1 6, rScr h)))) : rH)) = some res := hh
  cases hh
  refine ⟨⟨Nat.le_refl _, Nat.le_succ _, Nat.le_add_right _ _⟩, fun p e R s m args below meth c Q mc ms n0 ad0 hX hF ad H locs cells slots ls lv st hn hH hs hl hLo hS hcc hlo => ?_⟩
  obtain ⟨Qc, XC, rfl, hXC⟩ := hF.2.2.2 e9 rfl
  have hfr := hX.2.2.2.2.2.2.2.2.2.2.1
  have hlr := hX.2.2.2.2.2.2.2.2.2.2.2.1
  have hlow := hX.2.2.2.2.2.2.2.2.2.2.2.2
  have hlen := hS.len
  unfold rFr at hfr
  unfold rLo at hlr
  have ht := hX.2.2.2.2.1
  have hK := hX.2.2.2.2.2.2.2.2.2.1
  have b1 : cells + (hC h + 1) ≤ mc + hC h := hcc.1
  have b2 : slots + (h.2.2.2.1 + 6) ≤ ms + h.2.2.2.1 := hcc.2
  have r1 := hF.1
  have r2 := hF.2.1
  obtain ⟨sa, hsa⟩ := hK.2.1.2.2.2.2.2.2.1 _ hstr
  have hsz := hK.2.1.2.2.2.2.2.2.2.2
  have hkeep : ∀ q : Nat, q < (wH w).size → ¬ rFree w q → s.heap[q]? = (wH w)[q]? := fun q h1 h2 => hlow q (by omega)
  have hU := (hK.2.1.2.2.2.2.1).kept hkeep
  have hN9 := (hK.2.1.2.2.2.2.2.1).kept hkeep
  have hS9 : va_S (rFree w) s.heap H locs := ⟨hs, fun q h1 h2 => by
    have h3 : q < wB w := Nat.not_le.mp h2
    rw [hH.2.2.2.2 q h3, hlow q h3], hlo⟩
  have hat' : ∀ wd ∈ vx_atS own ic cls names, wd.before args s = true := fun wd hwd => by
    rcases hat wd hwd with h1 | ⟨j, h1, h2⟩
    · exact ht _ h1
    · exact va_Nw.use h2 (hK.ng j h1)
  have hx9 : ∀ t : State, s.vm.Alike t.vm → H.size ≤ t.heap.size → (∀ q : Nat, q < H.size → t.heap[q]? = H[q]?) → XC cls s t := fun t h1 h2 h3 =>
    hXC cls ad t hE hn.2 ((hH.grow h2 h3 rfl rfl rfl).moved h1) (Nat.le_trans hs h2)
  have hout : ∀ pc9, ∀ x ∈ c.exceptionTable.toList, covers x pc9 = false := fun pc9 x hx => by
    rw [hX.2.2.2.2.2.2.2.2.1 (Or.inl (by rw [ho]; exact hlaw)), hnt] at hx
    cases hx
  rcases d4 with ⟨-, d4, d6, d9⟩ | ⟨-, d4, d6, d9⟩
  · exact vx_throwS hX.1 hX.2.1 hX.2.2.2.2.2.2.2.1 (ho ▸ hX.2.2.2.1) hcls hnames (ht _ hk) (ht _ hini) hsa hat' hgood hU hN9 hS9 (hl.1.trans hX.2.2.1.symm) d0 d3 d4 d6 d9 (hout _) (by omega) (by omega) (by omega) (by omega) hX.2.2.2.2.2.1 hx9 hlo (by omega) (by omega)
  · exact vx_throwSW hX.1 hX.2.1 hX.2.2.2.2.2.2.2.1 (ho ▸ hX.2.2.2.1) hcls hnames (ht _ hk) (ht _ hini) hsa hat' hgood hU hN9 hS9 (hl.1.trans hX.2.2.1.symm) d0 d3 d4 d6 d9 (hout _) (by omega) (by omega) (by omega) (by omega) hX.2.2.2.2.2.1 hx9 hlo (by omega) (by omega)
-- arguments off the stack
noncomputable def layA : List rV → List rV
  | [] => []
  | v :: vs => if rC2 v = true then v :: vU :: layA vs else v :: layA vs
theorem layA_app (a b : List rV) : layA (a ++ b) = layA a ++ layA b := by
  induction a with
  | nil => rfl
  | cons v vs ih =>
    show layA (v :: (vs ++ b)) = layA (v :: vs) ++ layA b
    simp only [layA]
    split <;> simp [ih]
theorem rArg_i : ∀ {n : Nat} {A S : List rV} {k : List rV → List rV → rR} {r : rO × rH}, rArg n A S k = some r → ∃ vs S', S = vs ++ S' ∧ vs.length = n ∧ k (layA vs.reverse ++ A) S' = some r := by
  intro n
  induction n with
  | zero => intro A S k r hh; exact ⟨[], S, rfl, rfl, hh⟩
  | succ n ih =>
    intro A S k r hh
    obtain ⟨v, S1, rfl, hh⟩ := iP (k := fun v S _ => @Bool.rec (fun _ => rR) (rArg n (v :: A) S k) (rArg n (v :: vU :: A) S k) (rC2 v)) hh
    rcases iB hh with ⟨e, hh⟩ | ⟨e, hh⟩
    · obtain ⟨vs, S', rfl, h2, h3⟩ := ih hh
      refine ⟨v :: vs, S', rfl, by simp [h2], ?_⟩
      rw [List.reverse_cons, layA_app]
      simp only [layA]
      rw [if_pos e]
      simpa using h3
    · obtain ⟨vs, S', rfl, h2, h3⟩ := ih hh
      refine ⟨v :: vs, S', rfl, by simp [h2], ?_⟩
      rw [List.reverse_cons, layA_app]
      simp only [layA]
      rw [if_neg (by rw [e]; decide)]
      simpa using h3
theorem rStk.app {w : rW} {ad : Nat → Nat} {n : Nat} : ∀ {a b : List rV} {st : List Value}, rStk w ad n (a ++ b) st → ∃ us st', st = us ++ st' ∧ us.length = a.length ∧ rStk w ad n a us ∧ rStk w ad n b st'
  | [], b, st, h => ⟨[], st, rfl, rfl, trivial, h⟩
  | x :: a, b, st, h => by
    obtain ⟨v, st1, rfl, h2, h3⟩ := h.cons
    obtain ⟨us, st', rfl, h4, h5, h6⟩ := rStk.app h3
    exact ⟨v :: us, st', rfl, by simp [h4], ⟨h2, h5⟩, h6⟩
theorem rStk.join {w : rW} {ad : Nat → Nat} {n : Nat} : ∀ {a b : List rV} {us st : List Value}, rStk w ad n a us → rStk w ad n b st → rStk w ad n (a ++ b) (us ++ st)
  | [], _, [], _, _, h => h
  | _ :: _, _, _ :: _, _, h1, h2 => ⟨h1.1, h1.2.join h2⟩
  | [], _, _ :: _, _, h, _ => h.elim
  | _ :: _, _, [], _, h, _ => h.elim
theorem rStk.rev {w : rW} {ad : Nat → Nat} {n : Nat} : ∀ {a : List rV} {us : List Value}, rStk w ad n a us → rStk w ad n a.reverse us.reverse
  | [], [], _ => trivial
  | x :: a, u :: us, h => by
    rw [List.reverse_cons, List.reverse_cons]
    exact h.2.rev.join ⟨h.1, trivial⟩
  | [], _ :: _, h => h.elim
  | _ :: _, [], h => h.elim
theorem layA_args {w : rW} {ad : Nat → Nat} {n : Nat} : ∀ {xs : List rV} {us : List Value}, rStk w ad n xs us → (layA xs).length = (lg_sl us).length ∧ ∀ k i, (layA xs).getD i vU = vU ∨ ∃ v, (k + i, v) ∈ lv_args k us ∧ rVal w ad n ((layA xs).getD i vU) v
  | [], [], _ => ⟨rfl, fun k i => Or.inl rfl⟩
  | x :: xs, u :: us, h => by
    obtain ⟨h1, h2⟩ := layA_args h.2
    rcases h.1.cat with ⟨e, hc⟩ | ⟨e, hc⟩
    · have e1 : layA (x :: xs) = x :: vU :: layA xs := by simp only [layA]; rw [if_pos e]
      have e2 : lg_sl (u :: us) = .val u :: .second :: lg_sl us := by simp [lg_sl, hc]
      rw [e1, e2]
      refine ⟨by simp [h1], fun k i => ?_⟩
      rw [show lv_args k (u :: us) = (k, u) :: lv_args (k + 2) us by simp [lv_args, hc]]
      match i with
      | 0 => exact Or.inr ⟨u, List.mem_cons_self, h.1⟩
      | 1 => exact Or.inl rfl
      | i + 2 =>
        rcases h2 (k + 2) i with q | ⟨v, q1, q2⟩
        · exact Or.inl q
        · exact Or.inr ⟨v, List.mem_cons_of_mem _ (by rw [show k + (i + 2) = k + 2 + i by omega]; exact q1), q2⟩
    · have e1 : layA (x :: xs) = x :: layA xs := by simp only [layA]; rw [if_neg (by rw [e]; decide)]
      have e2 : lg_sl (u :: us) = .val u :: lg_sl us := by simp [lg_sl, hc]
      rw [e1, e2]
      refine ⟨by simp [h1], fun k i => ?_⟩
      rw [show lv_args k (u :: us) = (k, u) :: lv_args (k + 1) us by simp [lv_args, hc]]
      match i with
      | 0 => exact Or.inr ⟨u, List.mem_cons_self, h.1⟩
      | i + 1 =>
        rcases h2 (k + 1) i with q | ⟨v, q1, q2⟩
        · exact Or.inl q
        · exact Or.inr ⟨v, List.mem_cons_of_mem _ (by rw [show k + (i + 1) = k + 1 + i by omega]; exact q1), q2⟩
  | [], _ :: _, h => h.elim
  | _ :: _, [], h => h.elim
theorem rArgs_of {w : rW} {ad : Nat → Nat} {n : Nat} {xs : List rV} {us : List Value} (h : rStk w ad n xs us) : rArgs w ad n (layA xs) us :=
  ⟨(layA_args h).1, fun i => ((layA_args h).2 0 i).imp id fun ⟨v, h1, h2⟩ => ⟨v, by rw [Nat.zero_add] at h1; exact h1, h2⟩⟩
-- a call's run: ln bytes long
def rRun (ln : Nat) (p : Program) (l : Launch) (e : Env) (R : Room) (s : State) (m : MethodId) (args : Array Value) (below : List Frame) (meth : Method) (c : Code) (H : Heap) (locs : List Loc) (cells slots mc ms : Nat) (g : JFrame) (rest : List Value) (Qa : State → Outcome → State → Prop) (XC : String → State → State → Prop) (free : Addr → Prop) : Prop :=
  ∀ T : State, T.heap = H → Stand p l e R s m args below meth c T locs cells slots →
    (∃ (v : Option Value) (st₀ t T' : State) (L : List Loc), st₀.heap = H ∧ Stand p l e R s m args below meth c T' (locs ++ L) (cells + mc) (slots + ms) ∧ (∀ q ∈ L, free q.base) ∧ T'.heap = t.heap ∧ T'.vm = t.vm ∧ Qa st₀ (.returned v) t ∧
      Goes p e below T g T' { g with pc := g.pc + ln, stack := v.toList ++ rest }) ∨
    (∃ (q : Addr) (st₀ t T' : State) (L : List Loc) (E : String) (ce : Cell), st₀.heap = H ∧ Stand p l e R s m args below meth c T' (locs ++ L) (cells + mc) (slots + ms) ∧ (∀ z ∈ L, free z.base) ∧ T'.heap = t.heap ∧ T'.vm = t.vm ∧ XC E st₀ t ∧ t.heap[q]? = some ce ∧ ce.vm = .none ∧ s.vm.findClass E = some ce.cls ∧
      Steps p.tables e below (T.setTop g) ((T'.setTop { g with stack := rest }).pushFrame (.throwing q)))
theorem rTo.run {ln : Nat} {w : rW} {l : Launch} {d : Nat} {L S S0 : List rV} {h h' : rH} {res : rO × rH} {v : Option rV} (hm : rMono h ((.inl v : rO), h')) (hk : rTo w l d M (pc + ln) L (rAns v S) h' res)
    (go : ∀ {p : Program} {e : Env} {R : Room} {s : State} {m : MethodId} {args : Array Value} {below : List Frame} {meth : Method} {c : Code} {H : Heap} {locs : List Loc} {cells slots : Nat} {ls : Array Slot} {lv : List (Nat × Value)} {st : List Value} {ad : Nat → Nat}, rCtx w d M p l R s m args meth c → rHp w s ad h H → lv_has ls (rMl M) lv → rStk w ad (hN h) S0 st → cells + (hC h' - hC h) ≤ R.cells ∧ slots + (hL h' - hL h) ≤ R.slots →
      ∃ (av : Array Value) (rest : List Value), rStk w ad (hN h) S rest ∧ rRun ln p l e R s m args below meth c H locs cells slots (hC h' - hC h) (hL h' - hL h) (F0 m pc ls st) rest (rQc w ad h ((.inl v : rO), h') av) (rXc w ad h ((.inl v : rO), h')) (rFree w)) : rTo w l d M pc L S0 h res := by
  refine rTo.gen (h' := h') hm hk fun {p} {e} {R} {s} {m} {args} {below} {meth} {c} {Q} {H} {locs} {cells} {slots} {ls} {lv} {st} {ad} {mc} {ms} hX hP hs hl hLo hS hmm hcs hlo kk => ?_
  have m2 : hC h ≤ hC h' := hm.2.1
  have m3 : h.2.2.2.1 ≤ h'.2.2.2.1 := hm.2.2
  have c1 := hcs.1
  have c2 : slots + h'.2.2.2.1 ≤ ms + h.2.2.2.1 := hcs.2
  obtain ⟨av, rest, hR, hrun⟩ := go hX hP hl hS (locs := locs) (cells := cells) (slots := slots) ⟨by omega, by show slots + (h'.2.2.2.1 - h.2.2.2.1) ≤ R.slots; omega⟩
  intro T hT X
  rcases hrun T hT X with ⟨v', st₀, t, T', L', h0, X', hL', e1, e2, ⟨r, v'', ad', q1, q2, q3, q4, q5, q6⟩, st⟩ | ⟨q, st₀, t, T', L', E, ce, h0, X', hL', e1, e2, ⟨e9, ad', q1, -⟩, -⟩
  · obtain rfl : v = r := Sum.inl.inj q1
    obtain rfl : v' = v'' := Outcome.returned.inj q2
    have hal : t.vm.Alike s.vm := by rw [← e2]; exact X'.warmed.alike.symm
    have hsz : H.size ≤ T'.heap.size := by rw [e1, ← h0]; exact q6
    obtain ⟨t2, a1, b1⟩ := kk ad' T'.heap (locs ++ L') (cells + (hC h' - hC h)) (slots + (h'.2.2.2.1 - h.2.2.2.1)) ls lv (v'.toList ++ rest) q3 (by rw [e1]; exact q5.moved hal) hsz hl (hLo.mono hm.1 q3) (by
      have hrest := hR.mono hm.1 q3
      cases v with
      | none =>
        cases v' with
        | none => exact hrest
        | some y => exact q4.elim
      | some x =>
        cases v' with
        | none => exact q4.elim
        | some y => exact ⟨q4, hrest⟩) (by omega) (by show slots + (h'.2.2.2.1 - h.2.2.2.1) + h.2.2.2.1 ≤ slots + h'.2.2.2.1; omega) (fun z hz => by
      rcases List.mem_append.mp hz with q | q
      · exact hlo z q
      · exact hL' z q) T' rfl X'
    exact ⟨t2, st t2 a1, b1⟩
  · cases q1
theorem rBlind {w : rW} {ad : Nat → Nat} {av : List Value} {h : rH} : FrameBlind (rPc w ad av h) := fun a U g mk hp => ⟨hp.1, (show rHp w (U.calling g mk a) ad h U.heap from hp.2.1.moved (Vm.Alike.refl _)), hp.2.2.gone rfl⟩
theorem rPre {w : rW} {ad : Nat → Nat} {av : List Value} {h : rH} {s : State} {H : Heap} (hK : rKx w s) (hP : rHp w s ad h H) : PreS s H (rPc w ad av h) av := ⟨rBlind, fun U hU hW => ⟨rfl, by rw [hU]; exact hP.moved hW.alike, hK.warm hW⟩⟩
end SND6
end
section
-- ===== how a method is called =====
def rMok (Mc : rM) (n : Nat) : Prop := (∀ wd ∈ rWs Mc, wd ∈ rTG) ∧ rMl Mc ≤ 45 ∧ (rMy Mc).cls ≠ "java/lang/invoke/MethodHandle" ∧ (rMy Mc).cls ≠ "java/lang/invoke/VarHandle" ∧ (parseMethodDescriptor (rMy Mc).desc).map (fun d => d.parameters.length) = some n ∧ Cond.initialized (rMy Mc).cls ∈ rTG
def rLnk (M : rM) (pc ln : Nat) (Mc : rM) (rcv : State → Heap → List Value → Prop) (n : Nat) : Prop := ∀ {w : rW} {l : Launch} {d : Nat} {p : Program} {e : Env} {R : Room} {s : State} {m : MethodId} {args : Array Value} {below : List Frame} {meth : Method} {c : Code} {H : Heap} {locs : List Loc} {cells slots : Nat} {ls : Array Slot} {st rest : List Value} {av : List Value} {ad : Nat → Nat} {h : rH} {res : rO × rH} {mcc mss : Nat},
  rCtx w (d + 1) M p l R s m args meth c → vx_Met l (rMy Mc) (rWs Mc) (rRm d mcc mss) (rPc w ad av h) (rQc w ad h res) (rXc w ad h res) mcc mss (rFree w) → rHp w s ad h H → rcv s H av → av.length = n → ls.size = rMl M → st = av.reverse ++ rest → (rest.map fun v => v.category).sum ≤ 8 → cells + mcc ≤ R.cells ∧ slots + mss ≤ R.slots →
    rRun ln p l e R s m args below meth c H locs cells slots mcc mss (F0 m pc ls st) rest (rQc w ad h res av.toArray) (rXc w ad h res) (rFree w)
def rvS : State → Heap → List Value → Prop := fun _ _ _ => True
def rvI : State → Heap → List Value → Prop := fun _ _ av => ∃ b As, av = .ref b :: As
def rvV (C : String) : State → Heap → List Value → Prop := fun s H av => ∃ b As, av = .ref b :: As ∧ ∃ cellB : Cell, H[b]? = some cellB ∧ cellB.vm.isStatics = false ∧ s.vm.findClass C = some cellB.cls
section LNK
variable {M Mc : rM} {pc i n : Nat} {own : String}
theorem rRoom {w : rW} {l : Launch} {d : Nat} {p : Program} {R : Room} {s : State} {m : MethodId} {args : Array Value} {meth : Method} {c : Code} {mcc mss : Nat} (hX : rCtx w (d + 1) M p l R s m args meth c) (hok : rMok Mc n) : (rRm d mcc mss).frames + 1 ≤ R.frames ∧ 8 + (rMl Mc + 11) + (rRm d mcc mss).locals ≤ R.locals := by
  have hfr := hX.2.2.2.2.2.2.2.2.2.2.1
  have hlr := hX.2.2.2.2.2.2.2.2.2.2.2.1
  have hml := hok.2.1
  unfold rFr at hfr
  unfold rLo at hlr
  refine ⟨?_, ?_⟩
  · show rFr d + 1 ≤ _
    unfold rFr
    omega
  · show 8 + (rMl Mc + 11) + rLo d ≤ _
    unfold rLo
    omega
theorem rFix {w : rW} {l : Launch} {d : Nat} {p : Program} {R : Room} {s : State} {m : MethodId} {args : Array Value} {meth : Method} {c : Code} (hX : rCtx w d M p l R s m args meth c) (ho : (rMy M).cls = own) : CallFix p m c (rMc_ M) (rMl M) s args rTG own := ⟨hX.1, hX.2.1, hX.2.2.1, ho ▸ hX.2.2.2.1, hX.2.2.2.2.1⟩
theorem rWs_none (h : rMh Mc = none) : rWs Mc = Cond.code (rMy Mc) (rMc_ Mc) (rMl Mc) (rMr Mc) :: rTG := by unfold rWs; rw [h]
theorem rWs_some {hh : List (Nat × Nat × Nat × Nat)} (h : rMh Mc = some hh) : rWs Mc = Cond.codeWith (rMy Mc) (rMc_ Mc) (rMl Mc) (rMr Mc) hh :: rTG := by unfold rWs; rw [h]
theorem rMem {ws : List Cond} (h : ∀ wd ∈ ws, wd ∈ rTG) (hok : rMok Mc n) : GoodIn rTG (ws ++ rWs Mc) := rTG_good fun wd hwd => (List.mem_append.mp hwd).elim (h wd) (hok.1 wd)
theorem l_S (ho : (rMy M).cls = own) (hok : rMok Mc n) (hnt : rMh Mc = none) (hlk : Cond.methodLink own i (rMy Mc) ∈ rTG) (hst : Cond.static (rMy Mc) ∈ rTG) (hdg : decode (rMc_ M) pc = .ok (.invokestatic i, 3)) : rLnk M pc 3 Mc rvS n := by
  intro w l d p e R s m args below meth c H locs cells slots ls st rest av ad h res mcc mss hX hM hP hr hn hls hst9 hW hf
  have cw := va_cwS (mc := mcc) (ms := mss) (ws := rWs Mc) (rm := rRm d mcc mss) (own := own) (index := i) n hX.2.2.2.2.1 (rMem (ws := [.methodLink own i (rMy Mc), .static (rMy Mc), .initialized (rMy Mc).cls]) (by
    intro wd hwd
    simp only [List.mem_cons, List.not_mem_nil, or_false] at hwd
    rcases hwd with rfl | rfl | rfl
    · exact hlk
    · exact hst
    · exact hok.2.2.2.2.2) hok) (rWs_none hnt) rfl rfl ⟨hok.2.2.1, hok.2.2.2.1, hok.2.2.2.2.1⟩ (rRoom hX hok)
  exact vx_runS (rFix hX ho) hM cw (rPre hX.2.2.2.2.2.2.2.2.2.1 hP) rfl hn hls hst9 (by show 2 * 0 + _ ≤ 8; omega) hdg hf
theorem l_SX {hh : List (Nat × Nat × Nat × Nat)} (ho : (rMy M).cls = own) (hok : rMok Mc n) (hnt : rMh Mc = some hh) (hlk : Cond.methodLink own i (rMy Mc) ∈ rTG) (hst : Cond.static (rMy Mc) ∈ rTG) (hdg : decode (rMc_ M) pc = .ok (.invokestatic i, 3)) : rLnk M pc 3 Mc rvS n := by
  intro w l d p e R s m args below meth c H locs cells slots ls st rest av ad h res mcc mss hX hM hP hr hn hls hst9 hW hf
  have cw := vx_cwSW (mc := mcc) (ms := mss) (ws := rWs Mc) (rm := rRm d mcc mss) (own := own) (index := i) n hX.2.2.2.2.1 (rMem (ws := [.methodLink own i (rMy Mc), .static (rMy Mc), .initialized (rMy Mc).cls]) (by
    intro wd hwd
    simp only [List.mem_cons, List.not_mem_nil, or_false] at hwd
    rcases hwd with rfl | rfl | rfl
    · exact hlk
    · exact hst
    · exact hok.2.2.2.2.2) hok) (rWs_some hnt) rfl rfl ⟨hok.2.2.1, hok.2.2.2.1, hok.2.2.2.2.1⟩ (rRoom hX hok)
  exact vx_runSX (rFix hX ho) hM cw (rPre hX.2.2.2.2.2.2.2.2.2.1 hP) rfl hn hls hst9 (by show 2 * 0 + _ ≤ 8; omega) hdg hf
theorem l_SN {host : String} {j : Nat} (ho : (rMy M).cls = own) (hok : rMok Mc n) (hnt : rMh Mc = none) (hlk : rNGs[j]? = some (Cond.methodLinkNest own i (rMy Mc) host)) (hst : Cond.static (rMy Mc) ∈ rTG) (hdg : decode (rMc_ M) pc = .ok (.invokestatic i, 3)) : rLnk M pc 3 Mc rvS n := by
  intro w l d p e R s m args below meth c H locs cells slots ls st rest av ad h res mcc mss hX hM hP hr hn hls hst9 hW hf
  have cw := va_cnB (mc := mcc) (ms := mss) (ws := rWs Mc) (rm := rRm d mcc mss) (own := own) (index := i) (host := host) n hX.2.2.2.2.1 (rTG_good hok.1) (rWs_none hnt) rfl rfl (hX.2.2.2.2.2.2.2.2.2.1.ng j hlk) (hX.2.2.2.2.1 _ hok.2.2.2.2.2) ⟨hok.2.2.1, hok.2.2.2.1, hok.2.2.2.2.1⟩ (rRoom hX hok)
  exact vx_runSN (rFix hX ho) hM ⟨cw, hX.2.2.2.2.1 _ hst, trivial⟩ (rPre hX.2.2.2.2.2.2.2.2.2.1 hP) rfl hn hls hst9 (by show 2 * 0 + _ ≤ 8; omega) hdg hf
theorem l_I (ho : (rMy M).cls = own) (hok : rMok Mc n) (hnt : rMh Mc = none) (hini : (rMy Mc).name = "<init>") (hrt : rMr Mc = none) (hlk : Cond.methodLink own i (rMy Mc) ∈ rTG) (hin : Cond.instanceMethod (rMy Mc) ∈ rTG) (hdg : decode (rMc_ M) pc = .ok (.invokespecial i, 3)) : rLnk M pc 3 Mc rvI (n + 1) := by
  intro w l d p e R s m args below meth c H locs cells slots ls st rest av ad h res mcc mss hX hM hP hr hn hls hst9 hW hf
  obtain ⟨b, As, rfl⟩ := hr
  have ht := hX.2.2.2.2.1
  have cw := callB_of (mc := mcc) (ms := mss) (ws := rWs Mc) (rm := rRm d mcc mss) (own := own) (index := i) n ht (rTG_good hok.1) (rWs_none hnt) rfl rfl (ht _ hok.2.2.2.2.2) (ht _ hlk) ⟨hok.2.2.1, hok.2.2.2.1, hok.2.2.2.2.1⟩ (rRoom hX hok)
  rw [hrt] at cw
  exact vx_runI (rFix hX ho) hM ⟨cw, hini, ht _ hin⟩ (rPre hX.2.2.2.2.2.2.2.2.2.1 hP) rfl (by simpa using hn) hls (by rw [hst9]; simp) (by show 2 * 0 + _ ≤ 8; omega) hdg hf
theorem l_IN {host : String} {j : Nat} (ho : (rMy M).cls = own) (hok : rMok Mc n) (hnt : rMh Mc = none) (hini : (rMy Mc).name = "<init>") (hrt : rMr Mc = none) (hlk : rNGs[j]? = some (Cond.methodLinkNest own i (rMy Mc) host)) (hin : Cond.instanceMethod (rMy Mc) ∈ rTG) (hdg : decode (rMc_ M) pc = .ok (.invokespecial i, 3)) : rLnk M pc 3 Mc rvI (n + 1) := by
  intro w l d p e R s m args below meth c H locs cells slots ls st rest av ad h res mcc mss hX hM hP hr hn hls hst9 hW hf
  obtain ⟨b, As, rfl⟩ := hr
  have ht := hX.2.2.2.2.1
  have cw := va_cnB (mc := mcc) (ms := mss) (ws := rWs Mc) (rm := rRm d mcc mss) (own := own) (index := i) (host := host) n ht (rTG_good hok.1) (rWs_none hnt) rfl rfl (hX.2.2.2.2.2.2.2.2.2.1.ng j hlk) (ht _ hok.2.2.2.2.2) ⟨hok.2.2.1, hok.2.2.2.1, hok.2.2.2.2.1⟩ (rRoom hX hok)
  rw [hrt] at cw
  exact vx_runIN (rFix hX ho) hM ⟨cw, hini, ht _ hin⟩ (rPre hX.2.2.2.2.2.2.2.2.2.1 hP) rfl (by simpa using hn) hls (by rw [hst9]; simp) (by show 2 * 0 + _ ≤ 8; omega) hdg hf
theorem l_V (ho : (rMy M).cls = own) (hok : rMok Mc n) (hnt : rMh Mc = none) (hlk : Cond.methodLink own i (rMy Mc) ∈ rTG) (hin : Cond.instanceMethod (rMy Mc) ∈ rTG) (hsel : Cond.selects (rMy Mc).cls (rMy Mc) (rMy Mc) ∈ rTG) (hdg : decode (rMc_ M) pc = .ok (.invokevirtual i, 3)) : rLnk M pc 3 Mc (rvV (rMy Mc).cls) (n + 1) := by
  intro w l d p e R s m args below meth c H locs cells slots ls st rest av ad h res mcc mss hX hM hP hr hn hls hst9 hW hf
  obtain ⟨b, As, rfl, hcell⟩ := hr
  have ht := hX.2.2.2.2.1
  have cw := callB_of (mc := mcc) (ms := mss) (ws := rWs Mc) (rm := rRm d mcc mss) (own := own) (index := i) n ht (rTG_good hok.1) (rWs_none hnt) rfl rfl (ht _ hok.2.2.2.2.2) (ht _ hlk) ⟨hok.2.2.1, hok.2.2.2.1, hok.2.2.2.2.1⟩ (rRoom hX hok)
  have hp := rPre (av := .ref b :: As) hX.2.2.2.2.2.2.2.2.2.1 hP
  exact vx_runV (rFix hX ho) hM ⟨cw, ht _ hin, ht _ hsel⟩ ⟨hp.1, hcell, hp.2⟩ rfl (by simpa using hn) hls (by rw [hst9]; simp) (by show 2 * 0 + _ ≤ 8; omega) hdg hf
theorem rSelP {C : String} {x0 y0 y : MethodName} {s : State} {args : Array Value} (hy : y.cls ≠ "java/lang/invoke/MethodHandle" ∧ y.cls ≠ "java/lang/invoke/VarHandle") (hsel0 : (Cond.selects C x0 y0).before args s = true) (hy0 : y0.cls = y.cls) (hpr : (Cond.privateMethod y).before args s = true) (hin : (Cond.instanceMethod y).before args s = true) : (Cond.selects C y y).before args s = true := by
  obtain ⟨mk, methM, hnamed, hmethM, -, -⟩ := Cond.instanceMethod_spec hin
  obtain ⟨c, r, m, q1, -, q3, -, kP, q5, q6⟩ := Cond.selects_spec hsel0
  have hfound : s.methodFound? y.cls y.name y.desc = some mk := State.methodFound?_of_named hnamed hy
  have hmc : mk.cls = m.cls := by
    have e1 := findClass_of_methodNamed hnamed
    have e2 := findClass_of_methodNamed q3
    rw [hy0] at e2
    exact Option.some.inj (e1.symm.trans e2)
  have hsel : selectMethod {} s.vm c mk = .method mk := selectMethod_private hmethM (Cond.privateMethod_at hpr mk methM hnamed hmethM)
  rw [← hmc] at q5
  simp only [Cond.before, Cond.holds, Cond.value, q1, hfound, hnamed, hsel, q5]
  simp
  exact q6
theorem l_P {C : String} {x0 y0 : MethodName} {j : Nat} (ho : (rMy M).cls = own) (hok : rMok Mc n) (hnt : rMh Mc = none) (hlk : Cond.methodLink own i (rMy Mc) ∈ rTG) (hin : Cond.instanceMethod (rMy Mc) ∈ rTG) (hpr : rNGs[j]? = some (Cond.privateMethod (rMy Mc))) (hsel0 : Cond.selects C x0 y0 ∈ rTG) (hy0 : y0.cls = (rMy Mc).cls) (hdg : decode (rMc_ M) pc = .ok (.invokevirtual i, 3)) : rLnk M pc 3 Mc (rvV C) (n + 1) := by
  intro w l d p e R s m args below meth c H locs cells slots ls st rest av ad h res mcc mss hX hM hP hr hn hls hst9 hW hf
  obtain ⟨b, As, rfl, hcell⟩ := hr
  have ht := hX.2.2.2.2.1
  have cw := callB_of (mc := mcc) (ms := mss) (ws := rWs Mc) (rm := rRm d mcc mss) (own := own) (index := i) n ht (rTG_good hok.1) (rWs_none hnt) rfl rfl (ht _ hok.2.2.2.2.2) (ht _ hlk) ⟨hok.2.2.1, hok.2.2.2.1, hok.2.2.2.2.1⟩ (rRoom hX hok)
  have hp := rPre (av := .ref b :: As) hX.2.2.2.2.2.2.2.2.2.1 hP
  have hsel := rSelP (args := args) ⟨hok.2.2.1, hok.2.2.2.1⟩ (ht _ hsel0) hy0 (va_Nw.use rfl (hX.2.2.2.2.2.2.2.2.2.1.ng j hpr)) (ht _ hin)
  exact vx_runV (rFix hX ho) hM ⟨cw, ht _ hin, hsel⟩ ⟨hp.1, hcell, hp.2⟩ rfl (by simpa using hn) hls (by rw [hst9]; simp) (by show 2 * 0 + _ ≤ 8; omega) hdg hf
theorem l_U {C owner : String} {x : MethodName} (ho : (rMy M).cls = own) (hok : rMok Mc n) (hnt : rMh Mc = none) (hyx : rMy Mc = ⟨owner, x.name, x.desc⟩) (hlk : Cond.methodLink own i x ∈ rTG) (hsame : Cond.sameMethod x.cls owner x.name x.desc ∈ rTG) (hin : Cond.instanceMethod (rMy Mc) ∈ rTG) (hsel : Cond.selects C x (rMy Mc) ∈ rTG) (hdg : decode (rMc_ M) pc = .ok (.invokevirtual i, 3)) : rLnk M pc 3 Mc (rvV C) (n + 1) := by
  intro w l d p e R s m args below meth c H locs cells slots ls st rest av ad h res mcc mss hX hM hP hr hn hls hst9 hW hf
  obtain ⟨b, As, rfl, hcell⟩ := hr
  have ht := hX.2.2.2.2.1
  have hd2 := hok.2.2
  have cw := va_cwU (mc := mcc) (ms := mss) (ws := rWs Mc) (rm := rRm d mcc mss) (own := own) (C := C) (index := i) n ht (rMem (ws := [.methodLink own i x, .sameMethod x.cls owner x.name x.desc, .selects C x (rMy Mc), .instanceMethod (rMy Mc), .initialized (rMy Mc).cls]) (by
    intro wd hwd
    simp only [List.mem_cons, List.not_mem_nil, or_false] at hwd
    rcases hwd with rfl | rfl | rfl | rfl | rfl
    · exact hlk
    · exact hsame
    · exact hsel
    · exact hin
    · exact hok.2.2.2.2.2) hok) (rWs_none hnt) rfl rfl hyx (by rw [hyx] at hd2; exact ⟨hd2.1, hd2.2.1, hd2.2.2.1⟩) (rRoom hX hok)
  have hp := rPre (av := .ref b :: As) hX.2.2.2.2.2.2.2.2.2.1 hP
  exact vx_runU (rFix hX ho) hM cw ⟨hp.1, hcell, hp.2⟩ rfl (by simpa using hn) hls (by rw [hst9]; simp) (by show 2 * 0 + _ ≤ 8; omega) hdg hf
theorem l_O {C owner : String} {x : MethodName} {b0 : ByteArray} {m0 : Nat} {r0 : Option FieldType} (ho : (rMy M).cls = own) (hok : rMok Mc n) (hnt : rMh Mc = none) (hdesc : (rMy Mc).desc = x.desc) (hown : owner ≠ "java/lang/invoke/MethodHandle" ∧ owner ≠ "java/lang/invoke/VarHandle") (h0 : Cond.code ⟨owner, x.name, x.desc⟩ b0 m0 r0 ∈ rTG) (hi0 : Cond.instanceMethod ⟨owner, x.name, x.desc⟩ ∈ rTG) (hlk : Cond.methodLink own i x ∈ rTG) (hsame : Cond.sameMethod x.cls owner x.name x.desc ∈ rTG) (hin : Cond.instanceMethod (rMy Mc) ∈ rTG) (hsel : Cond.selects C x (rMy Mc) ∈ rTG) (hdg : decode (rMc_ M) pc = .ok (.invokevirtual i, 3)) : rLnk M pc 3 Mc (rvV C) (n + 1) := by
  intro w l d p e R s m args below meth c H locs cells slots ls st rest av ad h res mcc mss hX hM hP hr hn hls hst9 hW hf
  obtain ⟨b, As, rfl, hcell⟩ := hr
  have ht := hX.2.2.2.2.1
  have cw := va_cwO (mc := mcc) (ms := mss) (ws := rWs Mc) (rm := rRm d mcc mss) (own := own) (C := C) (owner := owner) (index := i) n ht (rMem (ws := [.methodLink own i x, .sameMethod x.cls owner x.name x.desc, .instanceMethod ⟨owner, x.name, x.desc⟩, .selects C x (rMy Mc), .instanceMethod (rMy Mc), .initialized (rMy Mc).cls]) (by
    intro wd hwd
    simp only [List.mem_cons, List.not_mem_nil, or_false] at hwd
    rcases hwd with rfl | rfl | rfl | rfl | rfl | rfl
    · exact hlk
    · exact hsame
    · exact hi0
    · exact hsel
    · exact hin
    · exact hok.2.2.2.2.2) hok) (rWs_none hnt) rfl rfl h0 ⟨hown.1, hown.2, by rw [← hdesc]; exact hok.2.2.2.2.1⟩ (rRoom hX hok)
  have hp := rPre (av := .ref b :: As) hX.2.2.2.2.2.2.2.2.2.1 hP
  exact vx_runU (rFix hX ho) hM cw ⟨hp.1, hcell, hp.2⟩ rfl (by simpa using hn) hls (by rw [hst9]; simp) (by show 2 * 0 + _ ≤ 8; omega) hdg hf
theorem l_A {C owner : String} {x : MethodName} {j : Nat} (ho : (rMy M).cls = own) (hok : rMok Mc n) (hnt : rMh Mc = none) (hdesc : (rMy Mc).desc = x.desc) (hown : owner ≠ "java/lang/invoke/MethodHandle" ∧ owner ≠ "java/lang/invoke/VarHandle") (hz : rNGs[j]? = some (Cond.declares ⟨owner, x.name, x.desc⟩)) (hlk : Cond.methodLink own i x ∈ rTG) (hsame : Cond.sameMethod x.cls owner x.name x.desc ∈ rTG) (hin : Cond.instanceMethod (rMy Mc) ∈ rTG) (hsel : Cond.selects C x (rMy Mc) ∈ rTG) (hdg : decode (rMc_ M) pc = .ok (.invokevirtual i, 3)) : rLnk M pc 3 Mc (rvV C) (n + 1) := by
  intro w l d p e R s m args below meth c H locs cells slots ls st rest av ad h res mcc mss hX hM hP hr hn hls hst9 hW hf
  obtain ⟨b, As, rfl, hcell⟩ := hr
  have ht := hX.2.2.2.2.1
  have cw := va_cwA (mc := mcc) (ms := mss) (ws := rWs Mc) (rm := rRm d mcc mss) (own := own) (C := C) (owner := owner) (index := i) n ht (rMem (ws := [.methodLink own i x, .sameMethod x.cls owner x.name x.desc, .selects C x (rMy Mc), .instanceMethod (rMy Mc), .initialized (rMy Mc).cls]) (by
    intro wd hwd
    simp only [List.mem_cons, List.not_mem_nil, or_false] at hwd
    rcases hwd with rfl | rfl | rfl | rfl | rfl
    · exact hlk
    · exact hsame
    · exact hsel
    · exact hin
    · exact hok.2.2.2.2.2) hok) (rWs_none hnt) rfl rfl (hX.2.2.2.2.2.2.2.2.2.1.ng j hz) ⟨hown.1, hown.2, by rw [← hdesc]; exact hok.2.2.2.2.1⟩ (rRoom hX hok)
  have hp := rPre (av := .ref b :: As) hX.2.2.2.2.2.2.2.2.2.1 hP
  exact vx_runU (rFix hX ho) hM cw ⟨hp.1, hcell, hp.2⟩ rfl (by simpa using hn) hls (by rw [hst9]; simp) (by show 2 * 0 + _ ≤ 8; omega) hdg hf
theorem l_F {C : String} {x : MethodName} {ci ct : Nat} {r : vw_C} (ho : (rMy M).cls = own) (hr9 : rCls[ci]? = some r) (hC : r.1 = C) (hok : rMok Mc n) (hnt : rMh Mc = none) (hdesc : (rMy Mc).desc = x.desc) (hxc : x.cls ≠ "java/lang/invoke/MethodHandle" ∧ x.cls ≠ "java/lang/invoke/VarHandle") (hfw : (C, x, rMy Mc) ∈ rFws) (hlk : Cond.methodLink own i x ∈ rTG) (hin : Cond.instanceMethod (rMy Mc) ∈ rTG) (hsel : Cond.selects C x (rMy Mc) ∈ rTG) (hdg : decode (rMc_ M) pc = .ok (.invokeinterface i ct, 5)) : rLnk M pc 5 Mc (rvV C) (n + 1) := by
  intro w l d p e R s m args below meth c H locs cells slots ls st rest av ad h res mcc mss hX hM hP hr hn hls hst9 hW hf
  obtain ⟨b, As, rfl, hcell⟩ := hr
  have ht := hX.2.2.2.2.1
  have hK := hX.2.2.2.2.2.2.2.2.2.1
  have hF := hK.2.1.2.2.2.2.2.2.2.1 _ hfw
  have hat := (hK.1 ci r hr9).2
  rw [hC] at hat
  have cw := va_cwF (mc := mcc) (ms := mss) (ws := rWs Mc) (rm := rRm d mcc mss) (own := own) (C := C) (x := x) (index := i) n ht (rMem (ws := [.methodLink own i x, .selects C x (rMy Mc), .instanceMethod (rMy Mc), .initialized (rMy Mc).cls]) (by
    intro wd hwd
    simp only [List.mem_cons, List.not_mem_nil, or_false] at hwd
    rcases hwd with rfl | rfl | rfl | rfl
    · exact hlk
    · exact hsel
    · exact hin
    · exact hok.2.2.2.2.2) hok) (rWs_none hnt) rfl rfl hF ⟨hxc.1, hxc.2, by rw [← hdesc]; exact hok.2.2.2.2.1⟩ (rRoom hX hok)
  have hp := rPre (av := .ref b :: As) hK hP
  exact vx_runF hat (rFix hX ho) hM cw ⟨hp.1, hcell, hp.2⟩ rfl (by simpa using hn) hls (by rw [hst9]; simp) (by show 2 * 0 + _ ≤ 8; omega) hdg hf
end LNK
section SND7
variable {lab : Nat → rM × Nat} {M Mc : rM} {pc pc' ln id n : Nat} {nx : rP}
theorem rRet_i {r : rR} {kk : Option rV → rH → rR} {xx : Nat → rH → rR} {res : rO × rH} (hh : rRet r kk xx = some res) : (∃ v h', r = some (.inl v, h') ∧ kk v h' = some res) ∨ ∃ e h', r = some (.inr e, h') ∧ xx e h' = some res := by
  rcases r with _ | ⟨v | e, h'⟩
  · cases hh
  · exact Or.inl ⟨v, h', rfl, hh⟩
  · exact Or.inr ⟨e, h', rfl, hh⟩
theorem rRev {w : rW} {ad : Nat → Nat} {n : Nat} {vs : List rV} {us : List Value} (h : rStk w ad n vs us) : rArgs w ad n (layA vs.reverse ++ []) us.reverse := by rw [List.append_nil]; exact rArgs_of h.rev
theorem layA_R (a : Nat) (xs : List rV) : layA (vR a :: xs) = vR a :: (layA xs ++ []) := by
  rw [List.append_nil]
  simp only [layA]
  rw [if_neg (by show ¬ rC2 (vR a) = true; intro q; cases q)]
theorem s_Cs (hlab : lab id = (Mc, 0)) (hL : rLnk M pc 3 Mc rvS n) (kx : rSnd lab M (pc + 3) nx) : rSnd lab M pc (oCs id n nx) := by
  intro w l d jb jc hb hc L S h res hh
  obtain ⟨vs, S', rfl, hlen, hh⟩ := rArg_i hh
  obtain ⟨hh, hsl⟩ := rSh_i hh
  rcases rRet_i hh with ⟨v, h', hr, hh⟩ | ⟨e, h', hr, hh⟩
  · have hcon := hc id (by rw [hlab])
    rw [hlab] at hcon
    obtain ⟨hm, hM⟩ := hcon _ _ _ hr
    refine rTo.run hm (kx w l d jb jc hb hc _ _ _ _ hh) fun hX hP hl hS hroom => ?_
    obtain ⟨us, st', rfl, e1, e2, e3⟩ := hS.app
    exact ⟨us.reverse.toArray, st', e3, hL hX (hM _ _ (rRev e2)) hP trivial (by simp [e1, hlen]) hl.1 (by simp) (by have := e3.len; omega) hroom⟩
  · cases hh
theorem s_Ci (hlab : lab id = (Mc, 0)) (hL : rLnk M pc 3 Mc rvI (n + 1)) (kx : rSnd lab M (pc + 3) nx) : rSnd lab M pc (oCi id n nx) := by
  intro w l d jb jc hb hc L S h res hh
  obtain ⟨vs, S', rfl, hlen, hh⟩ := rArg_i hh
  obtain ⟨o, S1, rfl, hh⟩ := iP hh
  obtain ⟨a, rfl, hh⟩ := iA hh
  obtain ⟨hh, hsl⟩ := rSh_i hh
  obtain ⟨e0, hh⟩ := iBf hh
  rcases rRet_i hh with ⟨v, h', hr, hh⟩ | ⟨e, h', hr, hh⟩
  · have hcon := hc id (by rw [hlab])
    rw [hlab] at hcon
    obtain ⟨hm, hM⟩ := hcon _ _ _ hr
    refine rTo.run hm (kx w l d jb jc hb hc _ _ _ _ hh) fun hX hP hl hS hroom => ?_
    obtain ⟨us, st', rfl, e1, e2, e3⟩ := hS.app
    obtain ⟨v3, st3, rfl, g3, hS3⟩ := e3.cons
    have hargs := rArgs_of (xs := vR a :: vs.reverse) (us := v3 :: us.reverse) ⟨g3, e2.rev⟩
    rw [layA_R] at hargs
    obtain ⟨b, rfl⟩ := rDr g3 (bqf e0)
    exact ⟨(.ref b :: us.reverse).toArray, st3, hS3, hL hX (hM _ _ hargs) hP ⟨b, _, rfl⟩ (by simp [e1, hlen]) hl.1 (by simp) (by have := hS3.len; omega) hroom⟩
  · cases hh
theorem s_Cv {kd : Nat} {C : String} (hk0 : kd ≠ 0) (hC : rNm kd = C) (hlab : lab id = (Mc, 0)) (hL : rLnk M pc ln Mc (rvV C) (n + 1)) (kx : rSnd lab M (pc + ln) nx) : rSnd lab M pc (oCv kd id n nx) := by
  intro w l d jb jc hb hc L S h res hh
  obtain ⟨vs, S', rfl, hlen, hh⟩ := rArg_i hh
  obtain ⟨o, S1, rfl, hh⟩ := iP hh
  obtain ⟨a, rfl, hh⟩ := iA hh
  obtain ⟨hh, hsl⟩ := rSh_i hh
  obtain ⟨e0, hh⟩ := iBt hh
  have ek : (rAt h a).1 = kd := bq e0
  rcases rRet_i hh with ⟨v, h', hr, hh⟩ | ⟨e, h', hr, hh⟩
  · have hcon := hc id (by rw [hlab])
    rw [hlab] at hcon
    obtain ⟨hm, hM⟩ := hcon _ _ _ hr
    refine rTo.run hm (kx w l d jb jc hb hc _ _ _ _ hh) fun hX hP hl hS hroom => ?_
    obtain ⟨us, st', rfl, e1, e2, e3⟩ := hS.app
    obtain ⟨v3, st3, rfl, g3, hS3⟩ := e3.cons
    have hargs := rArgs_of (xs := vR a :: vs.reverse) (us := v3 :: us.reverse) ⟨g3, e2.rev⟩
    rw [layA_R] at hargs
    obtain ⟨y1, y2, hv3, cell, y3, y4, y5⟩ := hP.named hX.2.2.2.2.2.2.2.2.2.1.1 g3 (by rw [ek]; exact hk0)
    rw [ek, hC] at y5
    obtain ⟨b, hb3, hb4⟩ : ∃ b, v3 = .ref b ∧ _ = b := ⟨_, hv3, rfl⟩
    rw [hb4] at y3
    subst hb3
    exact ⟨(.ref b :: us.reverse).toArray, st3, hS3, hL hX (hM _ _ hargs) hP ⟨b, _, rfl, cell, y3, by rw [y4]; rfl, y5⟩ (by simp [e1, hlen]) hl.1 (by simp) (by have := hS3.len; omega) hroom⟩
  · cases hh
def rAltS (lab : Nat → rM × Nat) (M : rM) (pc ln n : Nat) : List (Nat × Nat) → Prop
  | [] => True
  | q :: al => (∃ Mc, q.1 ≠ 0 ∧ lab q.2 = (Mc, 0) ∧ rLnk M pc ln Mc (rvV (rNm q.1)) (n + 1)) ∧ rAltS lab M pc ln n al
theorem rAlt_i : ∀ {al : List (Nat × Nat)} {k : Nat} {f : Nat → rR} {r : rO × rH}, rAltS lab M pc ln n al → rAlt al k f = some r → ∃ id Mc, f id = some r ∧ k ≠ 0 ∧ lab id = (Mc, 0) ∧ rLnk M pc ln Mc (rvV (rNm k)) (n + 1)
  | [], _, _, _, _, hh => by cases hh
  | q :: al, k, f, r, ha, hh => by
    have hh : @Bool.rec (fun _ => rR) (rAlt al k f) (f q.2) (Nat.beq k q.1) = some r := hh
    rcases iB hh with ⟨e, hq⟩ | ⟨-, hq⟩
    · obtain ⟨Mc, h0, h1, h2⟩ := ha.1
      have e := bq e
      subst e
      exact ⟨q.2, Mc, hq, h0, h1, h2⟩
    · exact rAlt_i ha.2 hq
theorem s_Cp {al : List (Nat × Nat)} (hal : rAltS lab M pc ln n al) (kx : rSnd lab M (pc + ln) nx) : rSnd lab M pc (oCp al n nx) := by
  intro w l d jb jc hb hc L S h res hh
  obtain ⟨vs, S', rfl, hlen, hh⟩ := rArg_i hh
  obtain ⟨o, S1, rfl, hh⟩ := iP hh
  obtain ⟨a, rfl, hh⟩ := iA hh
  obtain ⟨hh, hsl⟩ := rSh_i hh
  obtain ⟨id, Mc, hh, hk0, hlab, hL⟩ := rAlt_i (k := (rAt h a).1) hal hh
  rcases rRet_i hh with ⟨v, h', hr, hh⟩ | ⟨e, h', hr, hh⟩
  · have hcon := hc id (by rw [hlab])
    rw [hlab] at hcon
    obtain ⟨hm, hM⟩ := hcon _ _ _ hr
    refine rTo.run hm (kx w l d jb jc hb hc _ _ _ _ hh) fun hX hP hl hS hroom => ?_
    obtain ⟨us, st', rfl, e1, e2, e3⟩ := hS.app
    obtain ⟨v3, st3, rfl, g3, hS3⟩ := e3.cons
    have hargs := rArgs_of (xs := vR a :: vs.reverse) (us := v3 :: us.reverse) ⟨g3, e2.rev⟩
    rw [layA_R] at hargs
    obtain ⟨y1, y2, hv3, cell, y3, y4, y5⟩ := hP.named hX.2.2.2.2.2.2.2.2.2.1.1 g3 hk0
    obtain ⟨b, hb3, hb4⟩ : ∃ b, v3 = .ref b ∧ _ = b := ⟨_, hv3, rfl⟩
    rw [hb4] at y3
    subst hb3
    exact ⟨(.ref b :: us.reverse).toArray, st3, hS3, hL hX (hM _ _ hargs) hP ⟨b, _, rfl, cell, y3, by rw [y4]; rfl, y5⟩ (by simp [e1, hlen]) hl.1 (by simp) (by have := hS3.len; omega) hroom⟩
  · cases hh
end SND7
end
section
-- ===== a call whose exception is caught; copies; the start of a method =====
def rHd (lab : Nat → rM × Nat) (M : rM) (pc : Nat) (own E : String) (code : rP) : Prop := ∃ (name : String) (pre : List ExceptionTableEntry) (x : ExceptionTableEntry) (suf : List ExceptionTableEntry), tableOf ((rMh M).getD []) = pre ++ x :: suf ∧ (∀ z ∈ pre, covers z pc = false ∨ (z.catchType ≠ 0 ∧ ∃ nm : String, Cond.classLink own z.catchType nm ∈ rTG ∧ (E, nm) ∈ rNcs)) ∧ covers x pc = true ∧ x.catchType ≠ 0 ∧ Cond.classLink own x.catchType name ∈ rTG ∧ (∃ j : Nat, rNGs[j]? = some (Cond.castable E name)) ∧ rSnd lab M x.handlerPc code
theorem rNth_ge : ∀ (l : List rP) (x : Nat) (df : rP), l.length ≤ x → rNth l x df = df
  | [], _, _, _ => rfl
  | _ :: l, 0, _, h => absurd h (by simp)
  | _ :: l, x + 1, df, h => rNth_ge l x df (Nat.le_of_succ_le_succ h)
theorem rCat_i {h : rH} {k : Nat → rH → rR} {res : rO × rH} (hh : rCat h k = some res) : hN h ≤ 510 ∧ k (hN h) (h.1, (Nat.succ (hN h), h.2.2)) = some res := by
  obtain ⟨e, hh⟩ := iBt hh
  exact ⟨bl e, hh⟩
section SND8
variable {lab : Nat → rM × Nat} {M Mc : rM} {pc pc' ln id n : Nat} {nx : rP}
theorem s_Ch {kd : Nat} {C own : String} {ex : Nat → rP} (hk0 : kd ≠ 0) (hCC : rNm kd = C) (ho : (rMy M).cls = own) (hlab : lab id = (Mc, 0)) (hLL : rLnk M pc 3 Mc (rvV C) (n + 1)) (hex : ∀ e9, 4 ≤ e9 → ex e9 = oNone) (hhd : ∀ e9 E, rExn[e9]? = some E → ex e9 = oNone ∨ rHd lab M pc own E (ex e9)) (kx : rSnd lab M (pc + 3) nx) : rSnd lab M pc (oCh kd id n ex nx) := by
  intro w l d jb jc hb hc L S h res hh
  obtain ⟨vs, S', rfl, hlen, hh⟩ := rArg_i hh
  obtain ⟨o, S1, rfl, hh⟩ := iP hh
  obtain ⟨a, rfl, hh⟩ := iA hh
  obtain ⟨hh, hsl⟩ := rSh_i hh
  obtain ⟨e0, hh⟩ := iBt hh
  have ek : (rAt h a).1 = kd := bq e0
  have hcon := hc id (by rw [hlab])
  rw [hlab] at hcon
  have key : ∀ (res' : rO × rH), jc id (vR a :: (layA vs.reverse ++ [])) [] h = some res' → ∀ {p : Program} {e : Env} {R : Room} {s : State} {m : MethodId} {args : Array Value} {below : List Frame} {meth : Method} {c : Code} {H : Heap} {locs : List Loc} {cells slots : Nat} {ls : Array Slot} {lv : List (Nat × Value)} {st : List Value} {ad : Nat → Nat}, rCtx w (d + 1) M p l R s m args meth c → rHp w s ad h H → lv_has ls (rMl M) lv → rStk w ad (hN h) (vs ++ vR a :: S1) st → cells + (hC res'.2 - hC h) ≤ R.cells ∧ slots + (hL res'.2 - hL h) ≤ R.slots →
      ∃ (av : Array Value) (rest : List Value), rStk w ad (hN h) S1 rest ∧ rRun 3 p l e R s m args below meth c H locs cells slots (hC res'.2 - hC h) (hL res'.2 - hL h) (F0 m pc ls st) rest (rQc w ad h res' av) (rXc w ad h res') (rFree w) := by
    intro res' hr p e R s m args below meth c H locs cells slots ls lv st ad hX hP hl hS hroom
    obtain ⟨hm, hM⟩ := hcon _ _ _ hr
    obtain ⟨us, st', rfl, e1, e2, e3⟩ := hS.app
    obtain ⟨v3, st3, rfl, g3, hS3⟩ := e3.cons
    have hargs := rArgs_of (xs := vR a :: vs.reverse) (us := v3 :: us.reverse) ⟨g3, e2.rev⟩
    rw [layA_R] at hargs
    obtain ⟨y1, y2, hv3, cell, y3, y4, y5⟩ := hP.named hX.2.2.2.2.2.2.2.2.2.1.1 g3 (by rw [ek]; exact hk0)
    rw [ek, hCC] at y5
    obtain ⟨b, hb3, hb4⟩ : ∃ b, v3 = .ref b ∧ _ = b := ⟨_, hv3, rfl⟩
    rw [hb4] at y3
    subst hb3
    exact ⟨(.ref b :: us.reverse).toArray, st3, hS3, hLL hX (hM _ _ hargs) hP ⟨b, _, rfl, cell, y3, by rw [y4]; rfl, y5⟩ (by simp [e1, hlen]) hl.1 (by simp) (by have := hS3.len; omega) hroom⟩
  rcases rRet_i hh with ⟨v, h', hr, hh⟩ | ⟨e9, h', hr, hh⟩
  · exact rTo.run (hcon _ _ _ hr).1 (kx w l d jb jc hb hc _ _ _ _ hh) fun hX hP hl hS hroom => key _ hr hX hP hl hS hroom
  · obtain ⟨hn9, hh⟩ := rCat_i hh
    have hm := (hcon _ _ _ hr).1
    cases hE : rExn[e9]? with
    | none =>
      rw [hex e9 (by have := List.getElem?_eq_none_iff.mp hE; exact this)] at hh
      cases hh
    | some E =>
      rcases hhd e9 E hE with h1 | ⟨name, pre, x, suf, t1, t2, t3, t4, t5, ⟨j, t6⟩, t7⟩
      · rw [h1] at hh; cases hh
      · have hm2 : hN h ≤ hN h' := hm.1
        have hmC : hC h ≤ hC h' := hm.2.1
        have hmL : h.2.2.2.1 ≤ h'.2.2.2.1 := hm.2.2
        refine rTo.gen (h' := (h'.1, (Nat.succ (hN h'), h'.2.2))) ⟨by show hN h ≤ hN h' + 1; omega, hmC, hmL⟩ (t7 w l d jb jc hb hc _ _ _ _ hh) fun {p} {e} {R} {s} {m} {args} {below} {meth} {c} {Q} {H} {locs} {cells} {slots} {ls} {lv} {st} {ad} {mc} {ms} hX hP hs hl hLo hS hmm hcs hlo kk => ?_
        have c1 : cells + hC h' ≤ mc + hC h := hcs.1
        have c2 : slots + h'.2.2.2.1 ≤ ms + h.2.2.2.1 := hcs.2
        have r1 := hmm.1
        have r2 := hmm.2
        obtain ⟨av, rest, hR, hrun⟩ := key _ hr hX hP hl hS (e := e) (below := below) (locs := locs) (cells := cells) (slots := slots) ⟨by show cells + (hC h' - hC h) ≤ R.cells; omega, by show slots + (h'.2.2.2.1 - h.2.2.2.1) ≤ R.slots; omega⟩
        intro T hT X
        rcases hrun T hT X with ⟨v', st₀, t, T', L', h0, X', hL', e1, e2, ⟨r, v'', ad', q1, -⟩, st9⟩ | ⟨q, st₀, t, T', L', E', ce, h0, X', hL', e1, e2, ⟨e8, ad', q1, q2, q3, q4, q5⟩, hce, hcv, hcl, st9⟩
        · cases q1
        · obtain rfl : e9 = e8 := Sum.inr.inj q1
          obtain rfl : E = E' := Option.some.inj (hE.symm.trans q2)
          have hal : t.vm.Alike s.vm := by rw [← e2]; exact X'.warmed.alike.symm
          have hsz : H.size ≤ T'.heap.size := by rw [e1, ← h0]; exact q5
          have hK := hX.2.2.2.2.2.2.2.2.2.1
          have ht := hX.2.2.2.2.1
          have hP' : rHp w s ad' h' T'.heap := by rw [e1]; exact q4.moved hal
          have hcat := rHp.cat (h := h') (q := q) (r := h'.2.2) hP' hn9
          have hext : rExt (hN h) ad (rUp ad' (hN h') q) := q3.tr rUp_ext hm2
          have hgo := kk (rUp ad' (hN h') q) T'.heap (locs ++ L') (cells + (hC h' - hC h)) (slots + (h'.2.2.2.1 - h.2.2.2.1)) ls lv [.ref q] hext hcat hsz hl (hLo.mono (by show hN h ≤ hN h' + 1; omega) hext) ⟨Or.inr (Or.inr (Or.inr ⟨hP'.1.1, Nat.lt_succ_self _, by rw [rUp_self]⟩)), trivial⟩ (by show cells + (hC h' - hC h) + hC h ≤ cells + hC h'; omega) (by show slots + (h'.2.2.2.1 - h.2.2.2.1) + h.2.2.2.1 ≤ slots + h'.2.2.2.1; omega) (fun z hz => by
            rcases List.mem_append.mp hz with q | q
            · exact hlo z q
            · exact hL' z q)
          have hsome : rMh M ≠ none := fun hn => by rw [hn] at t1; cases pre <;> cases t1
          have htab := hX.2.2.2.2.2.2.2.2.1 (Or.inr hsome)
          rw [t1] at htab
          obtain ⟨t2', a1, b1⟩ := vx_catch (rest := rest) (ho ▸ hX.2.2.2.1) pre x suf htab (fun z hz => by
            rcases t2 z hz with h | ⟨z0, nm, h1, h2⟩
            · exact Or.inl h
            · exact Or.inr ⟨z0, nm, ht _ h1, hK.2.2.2 _ h2⟩) t3 t4 (ht _ t5) (va_Nw.use rfl (hK.ng j t6)) (by rw [e1]; exact hce) hcv hcl hgo T' rfl X'
          exact ⟨t2', st9.trans a1, b1⟩
theorem s_Ent {k : Nat} (kx : rSnd lab M pc nx) : rSnd lab M pc (oEnt k nx) := by
  intro w l d jb jc hb hc L S h res hh
  obtain ⟨-, hh⟩ := iBt hh
  exact kx w l d jb jc hb hc _ _ _ _ hh
end SND8
section LDW
variable {p : Program} {l : Launch} {e : Env} {R : Room} {s : State} {m : MethodId} {args : Array Value} {below : List Frame} {meth : Method} {c : Code} {T : State} {locs : List Loc} {cells slots : Nat}
theorem rLdw (X : Stand p l e R s m args below meth c T locs cells slots) (hexec : p.tables.exec = Jvm.exec) {own : String} {index : Nat} {v : Int32} (hown : s.vm.findClass own = some m.cls) (hconst : (Jvm.Cond.constant own index v).before args s = true) {g : JFrame} (hg : g.method = m) (hdg : decode c.code g.pc = .ok (.ldc_w index, 3)) (target : State)
    (hr : Steps p.tables e below (T.setTop { g with pc := g.pc + 3, stack := .int v :: g.stack }) target) : Steps p.tables e below (T.setTop g) target := by
  obtain ⟨k0, file, raw, w1, w2, w3, w4⟩ := Cond.constant_spec hown hconst
  obtain ⟨k1, w5, w6⟩ := X.warmed.alike.2.2 _ _ w1
  subst hg
  have w7 : k1.cf = some file := by rw [w6]; exact w2
  jvm_step X.here [hexec, hdg, ldc_w.sem, ldc.wp_int (s := T) (f := g) X.here.top w5 w7 w3, w4]
  exact hr
end LDW
theorem s_ldw {lab : Nat → rM × Nat} {M : rM} {pc pc' : Nat} {nx : rP} {i N : Nat} {own : String} {v : Int32} (ho : (rMy M).cls = own) (hw : Cond.constant own i v ∈ rTG) (hdg : rDec M pc (.ldc_w i) 3 pc') (hv : v = nI N) (hN : N < 4294967296) (k : rSnd lab M pc' nx) : rSnd lab M pc (oPsh (vI N) nx) := by
  intro w l d jb jc hb hc L S h res hr
  refine (k w l d jb jc hb hc _ _ _ _ hr).step fun hX _ hl hL hS kk => ?_
  obtain ⟨hdg, rfl⟩ := hdg
  subst hv
  have hk := kk _ _ (_ :: _) hl hL ⟨⟨hN, rfl⟩, hS⟩
  intro T hT X
  obtain ⟨t, a, b⟩ := hk T hT X
  exact ⟨t, rLdw X hX.1 (ho ▸ hX.2.2.2.1) (hX.2.2.2.2.1 _ hw) rfl (by rw [hX.2.1]; exact hdg) t a, b⟩
end
section
-- ===== the greater and the smaller of two ints =====
theorem s_Max {lab : Nat → rM × Nat} {M : rM} {pc pc' : Nat} {nx : rP} {own : String} {i : Nat} (ho : (rMy M).cls = own) (hlk : Cond.methodLink own i Lib.Math.max.name ∈ rTG) (hst : Cond.static Lib.Math.max.name ∈ rTG) (hini : Cond.initialized "java/lang/Math" ∈ rTG) (hcode : Cond.code Lib.Math.max.name Lib.Math.max.code 2 (some .int) ∈ rTG) (hdg : rDec M pc (.invokestatic i) 3 pc') (kx : rSnd lab M pc' nx) : rSnd lab M pc (oMx fMax nx) := by
  intro w l d jb jc hb hc L S h res hh
  obtain ⟨hdg, rfl⟩ := hdg
  obtain ⟨v1, S1, rfl, hh⟩ := iP hh
  obtain ⟨v2, S2, rfl, hh⟩ := iP hh
  obtain ⟨y, rfl, hh⟩ := iI hh
  obtain ⟨x, rfl, hh⟩ := iI hh
  obtain ⟨hh, hsl⟩ := rSh_i hh
  refine rTo.gen ⟨Nat.le_refl _, Nat.le_refl _, Nat.le_refl _⟩ (kx w l d jb jc hb hc _ _ _ _ hh) fun {p} {e} {R} {s} {m} {args} {below} {meth} {c} {Q} {H} {locs} {cells} {slots} {ls} {lv} {st} {ad} {mc} {ms} hX hP hs hl hLo hS hm hcs hlo kk => ?_
  obtain ⟨u1, st1, rfl, g1, hS1⟩ := hS.cons
  obtain ⟨u2, st2, rfl, g2, hS2⟩ := hS1.cons
  obtain ⟨l1, rfl⟩ := g1.i
  obtain ⟨l2, rfl⟩ := g2.i
  have ht := hX.2.2.2.2.1
  have hfr := hX.2.2.2.2.2.2.2.2.2.2.1
  have hlr := hX.2.2.2.2.2.2.2.2.2.2.2.1
  unfold rFr at hfr
  unfold rLo at hlr
  have hlen := hS2.len
  have h1 := hcs.1
  have h2 := hcs.2
  have h3 := hm.1
  have h4 := hm.2
  refine va_mmax hX.1 hX.2.1 (hX.2.2.1.trans hl.1.symm) (ho ▸ hX.2.2.2.1) (ht _ hlk) (ht _ hst) (ht _ hini) (ht _ hcode) (by omega) (by omega) (by omega) (by omega) hdg ?_
  have e : (if nI x < nI y then nI y else nI x) = nI (fMax x y) ∧ fMax x y < 4294967296 := by
    unfold fMax
    by_cases c : nI x < nI y
    · rw [if_pos c]
      have := (m_lt l2 l1).mp c
      rw [show Nat.ble (sI y) (sI x) = false from Bool.eq_false_iff.mpr (fun q => absurd (bl q) (by omega))]
      exact ⟨rfl, l1⟩
    · rw [if_neg c]
      have : sI y ≤ sI x := Nat.not_lt.mp (fun q => c ((m_lt l2 l1).mpr q))
      rw [Nat.ble_eq_true_of_le this]
      exact ⟨rfl, l2⟩
  rw [e.1]
  exact kk ad H locs cells slots ls lv _ rExt.rf hP (Nat.le_refl _) hl hLo ⟨⟨e.2, rfl⟩, hS2⟩ (Nat.le_refl _) (Nat.le_refl _) hlo
theorem s_Min {lab : Nat → rM × Nat} {M : rM} {pc pc' : Nat} {nx : rP} {own : String} {i : Nat} (ho : (rMy M).cls = own) (hlk : Cond.methodLink own i Lib.Math.min.name ∈ rTG) (hst : Cond.static Lib.Math.min.name ∈ rTG) (hini : Cond.initialized "java/lang/Math" ∈ rTG) (hcode : Cond.code Lib.Math.min.name Lib.Math.min.code 2 (some .int) ∈ rTG) (hdg : rDec M pc (.invokestatic i) 3 pc') (kx : rSnd lab M pc' nx) : rSnd lab M pc (oMx fMin nx) := by
  intro w l d jb jc hb hc L S h res hh
  obtain ⟨hdg, rfl⟩ := hdg
  obtain ⟨v1, S1, rfl, hh⟩ := iP hh
  obtain ⟨v2, S2, rfl, hh⟩ := iP hh
  obtain ⟨y, rfl, hh⟩ := iI hh
  obtain ⟨x, rfl, hh⟩ := iI hh
  obtain ⟨hh, hsl⟩ := rSh_i hh
  refine rTo.gen ⟨Nat.le_refl _, Nat.le_refl _, Nat.le_refl _⟩ (kx w l d jb jc hb hc _ _ _ _ hh) fun {p} {e} {R} {s} {m} {args} {below} {meth} {c} {Q} {H} {locs} {cells} {slots} {ls} {lv} {st} {ad} {mc} {ms} hX hP hs hl hLo hS hm hcs hlo kk => ?_
  obtain ⟨u1, st1, rfl, g1, hS1⟩ := hS.cons
  obtain ⟨u2, st2, rfl, g2, hS2⟩ := hS1.cons
  obtain ⟨l1, rfl⟩ := g1.i
  obtain ⟨l2, rfl⟩ := g2.i
  have ht := hX.2.2.2.2.1
  have hfr := hX.2.2.2.2.2.2.2.2.2.2.1
  have hlr := hX.2.2.2.2.2.2.2.2.2.2.2.1
  unfold rFr at hfr
  unfold rLo at hlr
  have hlen := hS2.len
  have h1 := hcs.1
  have h2 := hcs.2
  have h3 := hm.1
  have h4 := hm.2
  refine va_mmin hX.1 hX.2.1 (hX.2.2.1.trans hl.1.symm) (ho ▸ hX.2.2.2.1) (ht _ hlk) (ht _ hst) (ht _ hini) (ht _ hcode) (by omega) (by omega) (by omega) (by omega) hdg ?_
  have e : (if nI y < nI x then nI y else nI x) = nI (fMin x y) ∧ fMin x y < 4294967296 := by
    unfold fMin
    by_cases c : nI y < nI x
    · rw [if_pos c]
      have := (m_lt l1 l2).mp c
      rw [show Nat.ble (sI x) (sI y) = false from Bool.eq_false_iff.mpr (fun q => absurd (bl q) (by omega))]
      exact ⟨rfl, l1⟩
    · rw [if_neg c]
      have : sI x ≤ sI y := Nat.not_lt.mp (fun q => c ((m_lt l1 l2).mpr q))
      rw [Nat.ble_eq_true_of_le this]
      exact ⟨rfl, l2⟩
  rw [e.1]
  exact kk ad H locs cells slots ls lv _ rExt.rf hP (Nat.le_refl _) hl hLo ⟨⟨e.2, rfl⟩, hS2⟩ (Nat.le_refl _) (Nat.le_refl _) hlo
end
section
-- ===== arraycopy of ints =====
theorem rCopied (c0 c1 : ClassId) {n0 n1 : Nat} {sp dp n : Int32} (f g : Nat → Value) (hs : sp.toNatClampNeg + n.toNatClampNeg ≤ n0) : copied (arrV c0 n0 f) (arrV c1 n1 g) sp dp n = arrV c1 n1 (va_cpy f g sp.toNatClampNeg dp.toNatClampNeg n.toNatClampNeg) := va_copied (fun z => z) c0 c1 f g hs
theorem rToInt {x : Nat} (h : x ≤ 65536) : (nI x).toInt = (x : Int) := by rw [nI_ti (by omega), if_pos (by omega)]
theorem s_Cpy {lab : Nat → rM × Nat} {M : rM} {pc pc' : Nat} {nx : rP} {own : String} {i : Nat} (ho : (rMy M).cls = own) (hlk : Cond.methodLink own i arraycopyName ∈ rTG) (hnat : Cond.native arraycopyName ∈ rTG) (hst : Cond.static arraycopyName ∈ rTG) (hini : Cond.initialized "java/lang/System" ∈ rTG) (hdg : rDec M pc (.invokestatic i) 3 pc') (kx : rSnd lab M pc' nx) : rSnd lab M pc (oCpy nx) := by
  intro w l d jb jc hb hc L S h res hh
  obtain ⟨hdg, rfl⟩ := hdg
  obtain ⟨v1, S1, rfl, hh⟩ := iP hh
  obtain ⟨v2, S2, rfl, hh⟩ := iP hh
  obtain ⟨v3, S3, rfl, hh⟩ := iP hh
  obtain ⟨v4, S4, rfl, hh⟩ := iP hh
  obtain ⟨v5, S5, rfl, hh⟩ := iP hh
  obtain ⟨n, rfl, hh⟩ := iI hh
  obtain ⟨q, rfl, hh⟩ := iI hh
  obtain ⟨b, rfl, hh⟩ := iA hh
  obtain ⟨x, rfl, hh⟩ := iI hh
  obtain ⟨a, rfl, hh⟩ := iA hh
  obtain ⟨hh, hsl⟩ := rSh_i hh
  obtain ⟨e0, hh⟩ := iBf hh
  obtain ⟨e1, hh⟩ := iBt hh
  obtain ⟨e2, hh⟩ := iBt hh
  obtain ⟨e3, hh⟩ := iBt hh
  obtain ⟨e4, hh⟩ := iBt hh
  have hh := iN hh
  refine rTo.gen (h' := rPut h b ((rAt h b).1, ((rAt h b).2.1, rSp (rAt h b).2.2 q n (Nat.mod (Nat.shiftRight (rAt h a).2.2 (Nat.mul 64 x)) (Nat.pow 2 (Nat.mul 64 n)))))) ⟨Nat.le_refl _, Nat.le_refl _, Nat.le_refl _⟩ (kx w l d jb jc hb hc _ _ _ _ hh) fun {p} {e} {R} {s} {m} {args} {below} {meth} {c} {Q} {H} {locs} {cells} {slots} {ls} {lv} {st} {ad} {mc} {ms} hX hP hs hl hLo hS hm hcs hlo kk => ?_
  obtain ⟨u1, st1, rfl, g1, hS1⟩ := hS.cons
  obtain ⟨u2, st2, rfl, g2, hS2⟩ := hS1.cons
  obtain ⟨u3, st3, rfl, g3, hS3⟩ := hS2.cons
  obtain ⟨u4, st4, rfl, g4, hS4⟩ := hS3.cons
  obtain ⟨u5, st5, rfl, g5, hS5⟩ := hS4.cons
  obtain ⟨-, rfl⟩ := g1.i
  obtain ⟨-, rfl⟩ := g2.i
  obtain ⟨-, rfl⟩ := g4.i
  have ka : (rAt h a).1 = 2 * 0 + 1 := bq e1
  have kb : (rAt h b).1 = 2 * 0 + 1 := bq e3
  have la : x + n ≤ (rAt h a).2.1 := bl e2
  have lb : q + n ≤ (rAt h b).2.1 := bl e4
  obtain ⟨-, -, -, rfl, a5, cA, f, a6, a7, a8, a9⟩ := hP.arr g5 ka rfl
  obtain ⟨b1, b2, b3, rfl, b5, cB, g, b6, b7, b8, b9⟩ := hP.arr g3 kb rfl
  obtain ⟨x1, x2⟩ := rNn (x := x) (by omega)
  obtain ⟨q1, q2⟩ := rNn (x := q) (by omega)
  obtain ⟨n1, n2⟩ := rNn (x := n) (by omega)
  obtain ⟨-, k0, hk0, cm0, hkk0⟩ := a7 (rAt h a).2.1 f
  obtain ⟨-, k1, hk1, cm1, hkk1⟩ := b7 (rAt h b).2.1 g
  have ht := hX.2.2.2.2.1
  have hfr := hX.2.2.2.2.2.2.2.2.2.2.1
  have hlr := hX.2.2.2.2.2.2.2.2.2.2.2.1
  unfold rFr at hfr
  unfold rLo at hlr
  have hlen := hS5.len
  have hnat9 : nativeFrameWords "java/lang/System" "arraycopy" 5 ≤ 7 := by decide
  intro T hT X
  obtain ⟨vm', X', step⟩ := X.arraycopy hX.1 (ho ▸ hX.2.2.2.1) (ht _ hlk) (ht _ hnat) (ht _ hst) (ht _ hini) (src := ad a) (dst := ad b) (cs := arrV cA (rAt h a).2.1 f) (cd := arrV cB (rAt h b).2.1 g) (srcPos := nI x) (destPos := nI q) (n := nI n) (by rw [hT]; exact a6) (by rw [hT]; exact b6)
    (fun _ h => by cases h) (fun _ h => by cases h) (fun h => by cases h) (fun h => by cases h) hk0 hk1 hkk0 hkk1 (by simp [refKind]) x2 q2 n2
    (by rw [rToInt (show x ≤ 65536 by omega), rToInt (show n ≤ 65536 by omega), arrV_size]; omega)
    (by rw [rToInt (show q ≤ 65536 by omega), rToInt (show n ≤ 65536 by omega), arrV_size]; omega)
    (fun vm₁ _ i hi => by
      rw [n1] at hi
      rw [x1]
      have e : (arrV cA (rAt h a).2.1 f).slots.getD (x + i) .null = f (x + i) := by
        rw [Array.getD_eq_getD_getElem?, arrV_read _ _ (by omega)]
        rfl
      have hv : rVal w ad (hN h) (vI (rPl (rAt h a).2.2 (x + i))) (f (x + i)) := a9 (x + i) (by omega)
      rw [e, hv.i.2]
      exact ⟨rfl, trivial⟩)
    (g := F0 m pc ls (.int (nI n) :: .int (nI q) :: .ref (ad b) :: .int (nI x) :: .ref (ad a) :: st5)) rfl (by rw [hX.2.2.1]; exact hl.1) (rest := st5) rfl (by rw [hX.2.1]; exact hdg) (by omega) (by show 2 * 0 + _ + _ ≤ _; omega)
  rw [rCopied cA cB f g (by rw [x1, n1]; exact la), x1, q1, n1] at X' step
  have hlt : ad b < H.size := (Array.getElem?_eq_some_iff.mp b6).1
  have hheap : ((T.setVm vm').setCell (ad b) (arrV cB (rAt h b).2.1 (va_cpy f g x q n))).heap = H.setIfInBounds (ad b) (arrV cB (rAt h b).2.1 (va_cpy f g x q n)) := by rw [← hT]; rfl
  obtain ⟨t, r1, r2⟩ := kk ad (H.setIfInBounds (ad b) (arrV cB (rAt h b).2.1 (va_cpy f g x q n))) _ cells slots ls lv st5 rExt.rf (hP.put b1 b2 (by omega) (c' := ((rAt h b).1, ((rAt h b).2.1, rSp (rAt h b).2.2 q n (Nat.mod (Nat.shiftRight (rAt h a).2.2 (Nat.mul 64 x)) (Nat.pow 2 (Nat.mul 64 n)))))) (Or.inr ⟨b3, Or.inr ⟨0, .int, kb, rfl, b5, cB, va_cpy f g x q n, by simp [Array.getElem?_setIfInBounds, hlt], b7, b8, fun j hj => by
      show rVal w ad (hN h) (vI (rPl (rSp (rAt h b).2.2 q n _) j)) (va_cpy f g x q n j)
      have hj' : j < (rAt h b).2.1 := hj
      have hs9 : Nat.mod (Nat.shiftRight (rAt h a).2.2 (Nat.mul 64 x)) (Nat.pow 2 (Nat.mul 64 n)) < 2 ^ (64 * n) := Nat.mod_lt _ (Nat.pow_pos (by decide))
      rw [rPl_rSp _ _ _ _ _ hs9]
      unfold va_cpy
      by_cases hc : q ≤ j ∧ j < q + n
      · rw [if_pos hc, if_pos hc, rPl_cut _ _ _ _ (by omega)]
        exact a9 (x + (j - q)) (by omega)
      · rw [if_neg hc, if_neg hc]
        exact b9 j hj'⟩⟩) (by show (rAt h b).1 ≠ 0; omega) (by simp) (fun z hz => by simp [Array.getElem?_setIfInBounds, Ne.symm hz])) (by simp) hl hLo hS5 (Nat.le_refl _) (Nat.le_refl _) (fun z hz => by
      rcases List.mem_append.mp hz with h | h
      · exact hlo z h
      · obtain ⟨z9, -, hz9⟩ := List.mem_map.mp h
        rw [← hz9]
        exact b3) _ hheap X'
  exact ⟨t, step t r1, r2⟩
end
section
-- ===== an array of arrays made at once =====
def rMkC (cA : ClassId) (N h0 i : Nat) : Cell := arrV cA N (fun j => if j < i then .ref (h0 + 1 + j) else .null)
def rMkS (s : State) (cA cB : ClassId) (N M : Nat) : Nat → State
  | 0 => s.pushCell (rMkC cA N s.heap.size 0)
  | i + 1 => ((rMkS s cA cB N M i).pushCell (arrV cB M (fun _ => .null))).setCell s.heap.size (rMkC cA N s.heap.size (i + 1))
theorem rMkC_next (cA : ClassId) (N h0 i : Nat) : (rMkC cA N h0 i).setSlot i (.ref (h0 + 1 + i)) = rMkC cA N h0 (i + 1) := by
  unfold rMkC
  rw [arrV_store]
  congr 1
  funext j
  unfold updV
  by_cases h1 : j = i
  · subst h1; rw [if_pos rfl, if_pos (by omega)]
  · rw [if_neg h1]
    by_cases h2 : j < i
    · show (if j < i then _ else _) = _
      rw [if_pos h2, if_pos (by omega)]
    · show (if j < i then _ else _) = _
      rw [if_neg h2, if_neg (by omega)]
theorem rMkS_f (s : State) (cA cB : ClassId) (N M : Nat) : ∀ i, (rMkS s cA cB N M i).heap.size = s.heap.size + 1 + i ∧ (rMkS s cA cB N M i).heap[s.heap.size]? = some (rMkC cA N s.heap.size i) ∧ (rMkS s cA cB N M i).vm = s.vm ∧ (rMkS s cA cB N M i).slotsUsed = s.slotsUsed + N + i * M ∧ (∀ q : Nat, q < s.heap.size → (rMkS s cA cB N M i).heap[q]? = s.heap[q]?) ∧ (∀ j, j < i → (rMkS s cA cB N M i).heap[s.heap.size + 1 + j]? = some (arrV cB M (fun _ => .null)))
  | 0 => ⟨by simp [rMkS], by simp [rMkS], rfl, by simp [rMkS, rMkC, arrV_size], fun q hq => State.heap_pushCell_of_lt _ _ hq, fun j hj => absurd hj (Nat.not_lt_zero _)⟩
  | i + 1 => by
    obtain ⟨f1, f2, f3, f4, f5, f6⟩ := rMkS_f s cA cB N M i
    have hlt : s.heap.size < (rMkS s cA cB N M i).heap.size := by omega
    have f2' : ((rMkS s cA cB N M i).pushCell (arrV cB M (fun _ => .null))).heap[s.heap.size]? = some (rMkC cA N s.heap.size i) := by rw [State.heap_pushCell_of_lt _ _ hlt]; exact f2
    refine ⟨?_, State.heap_setCell_self f2', by simp [rMkS, f3], ?_, fun q hq => ?_, fun j hj => ?_⟩
    · simp [rMkS, State.setCell, f1]; omega
    · simp [rMkS, f4, arrV_size, Nat.succ_mul]; omega
    · show (((rMkS s cA cB N M i).pushCell _).setCell s.heap.size _).heap[q]? = _
      rw [State.heap_setCell_other (Nat.ne_of_gt hq), State.heap_pushCell_of_lt _ _ (show q < (rMkS s cA cB N M i).heap.size by omega)]
      exact f5 q hq
    · show (((rMkS s cA cB N M i).pushCell _).setCell s.heap.size _).heap[s.heap.size + 1 + j]? = _
      rw [State.heap_setCell_other (show s.heap.size ≠ s.heap.size + 1 + j by omega)]
      by_cases hji : j < i
      · rw [State.heap_pushCell_of_lt _ _ (show s.heap.size + 1 + j < (rMkS s cA cB N M i).heap.size by omega)]; exact f6 j hji
      · rw [show s.heap.size + 1 + j = (rMkS s cA cB N M i).heap.size by omega]
        exact State.heap_pushCell_size _ _
theorem rMkS_top (s : State) (g : JFrame) (cA cB : ClassId) (N M : Nat) : ∀ i, rMkS (s.setTop g) cA cB N M i = (rMkS s cA cB N M i).setTop g
  | 0 => rfl
  | i + 1 => by simp only [rMkS, rMkS_top s g cA cB N M i, State.heap_setTop, State.pushCell_setTop, State.setCell_setTop]
section
variable {p : Program} {l : Launch} {e : Env} {R : Room} {s : State} {m : MethodId} {args : Array Value} {below : List Frame} {meth : Method} {c : Code} {T : State} {locs : List Loc} {cells slots : Nat}
theorem rMkS_st (X : Stand p l e R s m args below meth c T locs cells slots) (cA cB : ClassId) (N M : Nat) : ∀ i, ∃ L : List Loc, (∀ z ∈ L, z.base = T.heap.size) ∧ Stand p l e R s m args below meth c (rMkS T cA cB N M i) (locs ++ L) (cells + 1 + i) (slots + N + i * M)
  | 0 => by
    have h := X.pushed (rMkC cA N T.heap.size 0)
    have e1 : (rMkC cA N T.heap.size 0).slots.size = N := arrV_size _ _ _
    rw [e1] at h
    exact ⟨[], fun z hz => (nomatch hz), by simpa [rMkS] using h⟩
  | i + 1 => by
    obtain ⟨L, hL, Xi⟩ := rMkS_st X cA cB N M i
    obtain ⟨f1, f2, f3, f4, f5, f6⟩ := rMkS_f T cA cB N M i
    have f2' : ((rMkS T cA cB N M i).pushCell (arrV cB M (fun _ => .null))).heap[T.heap.size]? = some (rMkC cA N T.heap.size i) := by rw [State.heap_pushCell_of_lt _ _ (show T.heap.size < (rMkS T cA cB N M i).heap.size by omega)]; exact f2
    have h := (Xi.pushed (arrV cB M (fun _ => .null))).stored f2' i (.ref (T.heap.size + 1 + i))
    rw [arrV_size, rMkC_next] at h
    refine ⟨L ++ [⟨T.heap.size, i⟩], fun z hz => ?_, ?_⟩
    · rcases List.mem_append.mp hz with q | q
      · exact hL z q
      · rw [List.mem_singleton.mp q]
    · rw [show slots + N + (i + 1) * M = slots + N + i * M + M by rw [Nat.succ_mul]; omega, ← List.append_assoc]
      exact h
end
section
variable {E : CtlPost} {e : Env} {d : Bool} {acts : List Action} {s : State}
theorem rMkN {cA comp : ClassId} {k : Class} {C : FieldType} {n : Nat} (hC : C.isReference = true) (hk : s.vm.classes[cA]? = some k) (hkind : k.kind = .array comp C) (hn : n ≤ 65536) (ha : ¬ n > e.platform.arrayLengthLimit) (hb : ¬ n * componentBytes C > e.platform.maxHeapBytes)
    (hc : s.heap.size < e.platform.maxCells) (hs : s.slotsUsed + n ≤ e.platform.maxSlots) {Q : Addr → Pre} (hq : ∀ d' acts', Q s.heap.size d' acts' (s.pushCell (arrV cA n (fun _ => .null)))) : wp (Jvm.newArray cA n .null) Q E e d acts s := by
  refine W.newArray_of hk hkind ha hb hc hs ?_ fun acts' => ?_
  · cases C <;> first | (cases hC; done) | rfl
  · have := hq d acts'
    rw [← arrV_new] at this
    exact this
end
section
variable {E : CtlPost} {e : Env} {d : Bool} {acts : List Action} {s : State}
theorem rMk1 {cB comp : ClassId} {k : Class} {C : FieldType} {mI : Int32} {M : Nat} (hC : C.isReference = true) (hk : s.vm.classes[cB]? = some k) (hkind : k.kind = .array comp C) (hm0 : ¬ mI < 0) (hmM : mI.toNatClampNeg = M) (hn : M ≤ 65536) (ha : ¬ M > e.platform.arrayLengthLimit) (hb : ¬ M * componentBytes C > e.platform.maxHeapBytes)
    (hc : s.heap.size < e.platform.maxCells) (hs : s.slotsUsed + M ≤ e.platform.maxSlots) {Q : Addr → Pre} (hq : ∀ d' acts', Q s.heap.size d' acts' (s.pushCell (arrV cB M (fun _ => .null)))) : wp (multianewarray.make cB [mI]) Q E e d acts s := by
  have hdv : defaultValue C = .null := by cases C <;> first | (cases hC; done) | rfl
  rw [multianewarray.make]
  simp only [wp_bind', W.ite, hm0, if_false, wp_pure', W.theClass, hk, hkind, Option.some.injEq, exists_eq_left', hdv, hmM]
  exact rMkN hC hk hkind hn ha hb hc hs hq
theorem rMk2 {cA cB comp : ClassId} {kA kB : Class} {CA CB : FieldType} {nI9 mI : Int32} {N M : Nat} (hCA : CA.isReference = true) (hCB : CB.isReference = true) (hkA : s.vm.classes[cA]? = some kA) (hkindA : kA.kind = .array cB CA) (hkB : s.vm.classes[cB]? = some kB) (hkindB : kB.kind = .array comp CB) (hn0 : ¬ nI9 < 0) (hnN : nI9.toNatClampNeg = N) (hm0 : ¬ mI < 0) (hmM : mI.toNatClampNeg = M) (hn : N ≤ 65536) (hm : M ≤ 65536)
    (haN : ¬ N > e.platform.arrayLengthLimit) (hbN : ¬ N * componentBytes CA > e.platform.maxHeapBytes) (haM : ¬ M > e.platform.arrayLengthLimit) (hbM : ¬ M * componentBytes CB > e.platform.maxHeapBytes)
    (hc : s.heap.size + 1 + N ≤ e.platform.maxCells) (hs : s.slotsUsed + N + N * M ≤ e.platform.maxSlots) {Q : Addr → Pre} (hq : ∀ d' acts', Q s.heap.size d' acts' (rMkS s cA cB N M N)) : wp (multianewarray.make cA [nI9, mI]) Q E e d acts s := by
  have hfind : ([mI].find? (· < 0)) = none := by simp [hm0]
  rw [multianewarray.make]
  simp only [wp_bind', W.ite, hn0, if_false, wp_pure', W.theClass, hkA, hkindA, Option.some.injEq, exists_eq_left', hnN]
  refine rMkN hCA hkA hkindA hn haN hbN (by omega) (by omega) fun d1 acts1 => ?_
  simp only [hfind]
  rw [ite_self, wp_bind', Std.Legacy.Range.forIn_eq_forIn_range']
  rw [show ([:N] : Std.Legacy.Range).size = N by simp [Std.Legacy.Range.size]]
  show wp (forIn (List.range' 0 N 1) PUnit.unit _) _ E e d1 acts1 _
  have h00 : s.pushCell (arrV cA N (fun _ => .null)) = rMkS s cA cB N M 0 := by
    show _ = s.pushCell (rMkC cA N s.heap.size 0)
    congr 1
  refine wp_forIn_inv (fun rest s' => ∃ i, i ≤ N ∧ rest = List.range' i (N - i) ∧ s' = rMkS s cA cB N M i) _ _ ⟨0, Nat.zero_le _, rfl, h00⟩ ?_ ?_
  · rintro x rest s' d' acts' Q' ⟨i, hi, hl, rfl⟩ hnext
    have hlt : i < N := by
      rcases Nat.lt_or_ge i N with h | h
      · exact h
      · rw [show N - i = 0 by omega] at hl
        cases hl
    rw [show N - i = (N - (i + 1)) + 1 by omega, List.range'_succ] at hl
    obtain rfl : x = i := (List.cons.inj hl).1
    have hrest := (List.cons.inj hl).2
    obtain ⟨f1, f2, f3, f4, f5, f6⟩ := rMkS_f s cA cB N M x
    have hmul : x * M + M ≤ N * M := by
      have := Nat.mul_le_mul_right M (show x + 1 ≤ N from hlt)
      rw [Nat.succ_mul] at this
      exact this
    simp only [wp_bind']
    refine rMk1 hCB (by rw [f3]; exact hkB) hkindB hm0 hmM hm haM hbM (by omega) (by omega) fun d2 acts2 => ?_
    simp only [wp_bind', W.writeLoc, wp_pure']
    refine ⟨rMkC cA N s.heap.size x, by rw [State.heap_pushCell_of_lt _ _ (show s.heap.size < (rMkS s cA cB N M x).heap.size by omega)]; exact f2, (fun h => by cases h), by show x < (arrV _ _ _).slots.size; rw [arrV_size]; exact hlt, ?_, hnext _ _ _ ⟨x + 1, hlt, hrest, ?_⟩⟩
    · have hfit : fits CA (.ref (rMkS s cA cB N M x).heap.size) = true := by cases CA <;> first | (cases hCA; done) | rfl
      simp [State.fitsSlot, State.slotType?, rMkC, arrV, f3, hkA, hkindA, hfit]
    · rw [f1, rMkC_next]
      rfl
  · rintro s' d' acts' ⟨i, hi, hl, rfl⟩
    have hiN : i = N := by
      rcases Nat.lt_or_ge i N with h | h
      · rw [show N - i = (N - (i + 1)) + 1 by omega, List.range'_succ] at hl
        cases hl
      · omega
    subst hiN
    simp only [wp_pure']
    exact hq _ _
end
def rPush (c : Cell) : Nat → Heap → Heap
  | 0, H => H
  | k + 1, H => rPush c k (H.push c)
theorem rPush_f (c : Cell) : ∀ (k : Nat) (H : Heap), (rPush c k H).size = H.size + k ∧ (∀ q : Nat, q < H.size → (rPush c k H)[q]? = H[q]?) ∧ ∀ j, j < k → (rPush c k H)[H.size + j]? = some c
  | 0, H => ⟨rfl, fun _ _ => rfl, fun j hj => absurd hj (Nat.not_lt_zero _)⟩
  | k + 1, H => by
    obtain ⟨a, b, d⟩ := rPush_f c k (H.push c)
    rw [Array.size_push] at a b d
    refine ⟨by show (rPush c k (H.push c)).size = _; omega, fun q hq => ?_, fun j hj => ?_⟩
    · show (rPush c k (H.push c))[q]? = _
      rw [b q (by omega), Array.getElem?_push, if_neg (Nat.ne_of_lt hq)]
    · show (rPush c k (H.push c))[H.size + j]? = _
      by_cases h0 : j = 0
      · subst h0
        rw [Nat.add_zero, b H.size (by omega), Array.getElem?_push_size]
      · rw [show H.size + j = H.size + 1 + (j - 1) by omega]
        exact d (j - 1) (by omega)
theorem rNew_i {h : rH} {c : rC} {sz : Nat} {k : Nat → rH → rR} {res : rO × rH} (hh : rNew h c sz k = some res) : hN h ≤ 510 ∧ k (hN h) (tS9 h.1 (hN h) c, (Nat.succ (hN h), (Nat.succ (hC h), (Nat.add h.2.2.2.1 sz, rScr h)))) = some res := by
  obtain ⟨e, hh⟩ := iBt hh
  exact ⟨bl e, hh⟩
theorem rRep_i {t M : Nat} {ty : FieldType} (ht : rAts[t]? = some ty) (hM : M ≤ 65536) : ∀ (k : Nat) {kk : List Nat → rH → rR} {h : rH} {res : rO × rH}, rRep (2 * t + 1, (M, 0)) M k kk h = some res → ∃ (l : List Nat) (h' : rH), kk l h' = some res ∧ l.length = k ∧ hN h' = hN h + k ∧ hC h' = hC h + k ∧ h'.2.2.2.1 = h.2.2.2.1 + k * M ∧ (∀ j, j < k → l.getD j 0 = hN h + j) ∧ (∀ q, q < hN h → q < 512 → tG9 h'.1 q = tG9 h.1 q) ∧
    ∀ {w : rW} {U : State} {ad : Nat → Nat} {H : Heap} {cB : ClassId}, rHp w U ad h H → ArrOfT U cB ty → va_RA U cB ty → ∃ ad', rExt (hN h) ad ad' ∧ (∀ j, j < k → ad' (hN h + j) = H.size + j) ∧ rHp w U ad' h' (rPush (arrV cB M (fun _ => defaultValue ty)) k H) := by
  intro k
  induction k with
  | zero =>
    intro kk h res hh
    exact ⟨[], h, hh, rfl, rfl, rfl, by simp, fun j hj => absurd hj (Nat.not_lt_zero _), fun _ _ _ => rfl, fun hH _ _ => ⟨_, rExt.rf, fun j hj => absurd hj (Nat.not_lt_zero _), hH⟩⟩
  | succ k ih =>
    intro kk h res hh
    have hh : rNew h (2 * t + 1, (M, 0)) M (fun a h1 => rRep (2 * t + 1, (M, 0)) M k (fun l h2 => kk (a :: l) h2) h1) = some res := hh
    obtain ⟨hn, hh⟩ := rNew_i hh
    obtain ⟨l, h', i1, i2, i3, i4, i5, i6, i7, i8⟩ := ih hh
    have i3 : hN h' = (hN h + 1) + k := i3
    have i4 : hC h' = (hC h + 1) + k := i4
    have i5 : h'.2.2.2.1 = (h.2.2.2.1 + M) + k * M := i5
    have i6 : ∀ j, j < k → l.getD j 0 = (hN h + 1) + j := i6
    refine ⟨hN h :: l, h', i1, by simp [i2], by omega, by omega, by rw [i5, Nat.succ_mul]; omega, fun j hj => ?_, fun q hq hq5 => ?_, fun {w} {U} {ad} {H} {cB} hH ha hra => ?_⟩
    · cases j with
      | zero => rfl
      | succ j =>
        have := i6 j (by omega)
        show l.getD j 0 = _
        omega
    · rw [i7 q (by show q < hN h + 1; omega) hq5]
      exact tSet_ne _ _ (by omega) hq5 (by omega)
    · have hnew := hH.newA (cs := Nat.succ (hC h)) (sl := Nat.add h.2.2.2.1 M) (H1 := H.push (arrV cB M (fun _ => defaultValue ty))) hn hM ht (Array.getElem?_push_size) (Array.size_push _) (fun q hq => by rw [Array.getElem?_push, if_neg (Nat.ne_of_lt hq)]) ha hra
      obtain ⟨ad', j1, j2, j3⟩ := i8 hnew ha hra
      have j2 : ∀ j, j < k → ad' ((hN h + 1) + j) = (H.push (arrV cB M (fun _ => defaultValue ty))).size + j := j2
      have j1 : rExt (hN h + 1) (rUp ad (hN h) H.size) ad' := j1
      refine ⟨ad', rUp_ext.tr j1 (by omega), fun j hj => ?_, j3⟩
      cases j with
      | zero => rw [Nat.add_zero, j1 (hN h) (by omega), rUp_self]; rfl
      | succ j =>
        have := j2 j (by omega)
        rw [Array.size_push] at this
        rw [show hN h + (j + 1) = hN h + 1 + j by omega, this]
        omega
theorem rLay_pl : ∀ (l : List Nat), (∀ x ∈ l, x < 18446744073709551616) → ∀ j, j < l.length → rPl (rLay l) j = l.getD j 0
  | [], _, j, hj => absurd hj (Nat.not_lt_zero _)
  | a :: r, hl, 0, _ => by
    have ha := hl a List.mem_cons_self
    show ((a + 18446744073709551616 * rLay r) >>> (64 * 0)) % 18446744073709551616 = a
    rw [Nat.mul_zero, Nat.shiftRight_zero, Nat.add_mul_mod_self_left]
    exact Nat.mod_eq_of_lt ha
  | a :: r, hl, j + 1, hj => by
    have ha := hl a List.mem_cons_self
    have ih := rLay_pl r (fun x hx => hl x (List.mem_cons_of_mem _ hx)) j (Nat.lt_of_succ_lt_succ hj)
    show ((a + 18446744073709551616 * rLay r) >>> (64 * (j + 1))) % 18446744073709551616 = r.getD j 0
    rw [← ih]
    show _ = (rLay r >>> (64 * j)) % 18446744073709551616
    congr 1
    rw [Nat.shiftRight_eq_div_pow, Nat.shiftRight_eq_div_pow, show 64 * (j + 1) = 64 + 64 * j by omega, Nat.pow_add, ← Nat.div_div_eq_div_mul]
    congr 1
    rw [show (2 : Nat) ^ 64 = 18446744073709551616 by decide, Nat.add_mul_div_left _ _ (by decide), Nat.div_eq_of_lt ha, Nat.zero_add]
theorem s_Mul {lab : Nat → rM × Nat} {M : rM} {pc pc' : Nat} {nx : rP} {own C nm : String} {i t1 t2 N K j1 j2 : Nat} (hnm : "[" ++ (FieldType.array (.object C)).toString = nm) (ho : (rMy M).cls = own) (ht1 : rAts[t1]? = some (.array (.object C))) (ht2 : rAts[t2]? = some (.object C)) (hN5 : N ≤ 500) (hK5 : K ≤ 500) (hcl : Cond.classLink own i nm ∈ rTG) (hj1 : rNGs[j1]? = some (Cond.arrayOver (.array (.object C)))) (hj2 : rNGs[j2]? = some (Cond.arrayOver (.object C))) (hdg : rDec M pc (.multianewarray i 2) 4 pc') (kx : rSnd lab M pc' nx) : rSnd lab M pc (oMul (2 * t1 + 1) (2 * t2 + 1) N K nx) := by
  rw [← hnm] at hcl
  intro w l d jb jc hb hc L S h res hh
  obtain ⟨hdg, rfl⟩ := hdg
  obtain ⟨v1, S1, rfl, hh⟩ := iP hh
  obtain ⟨v2, S2, rfl, hh⟩ := iP hh
  obtain ⟨y, rfl, hh⟩ := iI hh
  obtain ⟨x, rfl, hh⟩ := iI hh
  obtain ⟨ex, hh⟩ := iBt hh
  obtain ⟨ey, hh⟩ := iBt hh
  have ex := bq ex
  have ey := bq ey
  obtain ⟨hn, hh⟩ := rNew_i hh
  obtain ⟨ll, h2, hh, i2, i3, i4, i5, i6, i7, i8⟩ := rRep_i ht2 (by omega) N hh
  have hh := iN hh
  have i3 : hN h2 = (hN h + 1) + N := i3
  have i4 : hC h2 = (hC h + 1) + N := i4
  have i5 : h2.2.2.2.1 = (h.2.2.2.1 + N) + N * K := i5
  have i6 : ∀ j, j < N → ll.getD j 0 = (hN h + 1) + j := i6
  have i7 : ∀ q, q < hN h + 1 → q < 512 → tG9 h2.1 q = tG9 (tS9 h.1 (hN h) (2 * t1 + 1, (N, 0))) q := i7
  refine rTo.gen (h' := rPut h2 (hN h) (2 * t1 + 1, (N, rLay ll))) ⟨by show hN h ≤ hN h2; omega, by show hC h ≤ hC h2; omega, by show h.2.2.2.1 ≤ h2.2.2.2.1; omega⟩ (kx w l d jb jc hb hc _ _ _ _ hh) fun {p} {e} {R} {s} {m} {args} {below} {meth} {c} {Q} {H} {locs} {cells} {slots} {ls} {lv} {st} {ad} {mc} {ms} hX hP hs hl hLo hS hm hcs hlo kk => ?_
  obtain ⟨u1, st1, rfl, g1, hS1⟩ := hS.cons
  obtain ⟨u2, st2, rfl, g2, hS2⟩ := hS1.cons
  obtain ⟨-, rfl⟩ := g1.i
  obtain ⟨-, rfl⟩ := g2.i
  rw [ex, ey]
  have hK9 := hX.2.2.2.2.2.2.2.2.2.1
  have ht := hX.2.2.2.2.1
  obtain ⟨N1, N2⟩ := rNn (x := N) (by omega)
  obtain ⟨K1, K2⟩ := rNn (x := K) (by omega)
  have hNK : N * K ≤ 500 * 500 := Nat.mul_le_mul hN5 hK5
  obtain ⟨cB, cA, kA, a1, -, a3, a4, a5⟩ := arrayOverA_spec (hK9.ng j1 hj1)
  obtain ⟨cO, cB', kB, b1, -, b3, b4, b5⟩ := Cond.arrayOver_spec (hK9.ng j2 hj2)
  have b5' : s.vm.findClass (FieldType.array (.object C)).toString = some cB' := b5
  cases a1.symm.trans b5'
  have hArrA : ArrOfT s cA (.array (.object C)) := fun N z => ⟨(fun k h => by cases h), kA, a3, cB, a4⟩
  have hArrB : ArrOfT s cB (.object C) := fun N z => ⟨(fun k h => by cases h), kB, b3, cO, b4⟩
  have hRA : va_RA s cA (.array (.object C)) := a5
  have hRB : va_RA s cB (.object C) := ⟨kB, cO, b3, b4, b1, b5⟩
  -- the heap of the numbers
  have hnew := hP.newA (cs := Nat.succ (hC h)) (sl := Nat.add h.2.2.2.1 N) (H1 := H.push (arrV cA N (fun _ => defaultValue (.array (.object C))))) hn (show N ≤ 65536 by omega) ht1 (Array.getElem?_push_size) (Array.size_push _) (fun q hq => by rw [Array.getElem?_push, if_neg (Nat.ne_of_lt hq)]) hArrA hRA
  obtain ⟨ad', e1, e2, e3⟩ := i8 hnew hArrB hRB
  have e1 : rExt (hN h + 1) (rUp ad (hN h) H.size) ad' := e1
  have e2 : ∀ j, j < N → ad' ((hN h + 1) + j) = (H.push (arrV cA N (fun _ => defaultValue (.array (.object C))))).size + j := e2
  have eo : ad' (hN h) = H.size := by rw [e1 (hN h) (by omega), rUp_self]
  obtain ⟨z1, z2, z3⟩ := rPush_f (arrV cB K (fun _ => defaultValue (.object C))) N (H.push (arrV cA N (fun _ => defaultValue (.array (.object C)))))
  rw [Array.size_push] at z1 z2 z3
  have hext : rExt (hN h) ad ad' := rUp_ext.tr e1 (by omega)
  have b1' : cells + hC h2 ≤ mc + hC h := hcs.1
  have b2' : slots + h2.2.2.2.1 ≤ ms + h.2.2.2.1 := hcs.2
  have r1 := hm.1
  have r2 := hm.2
  intro T hT X
  have hpl : e.platform.magicAccessors = ({} : Platform).magicAccessors := by rw [X.admits.platform]
  obtain ⟨c0, hfc0, hcl0⟩ := Cond.classLink_spec (ho ▸ hX.2.2.2.1) (ht _ hcl) e.platform hpl
  cases a5.symm.trans hfc0
  obtain ⟨hg₁, hwarm₁, hready₁⟩ := State.classEntry (e := e) X.warmed hcl0
  generalize T.vm.noted m.cls i (.cls cA) = vm₁ at hg₁ hwarm₁ hready₁
  have hal : s.vm.Alike vm₁ := hwarm₁.alike
  obtain ⟨kA₁, hkA₁, heA⟩ := hal.2.2 _ _ a3
  obtain ⟨kB₁, hkB₁, heB⟩ := hal.2.2 _ _ b3
  have hkindA₁ : kA₁.kind = .array cB (.array (.object C)) := by rw [heA]; exact a4
  have hkindB₁ : kB₁.kind = .array cO (.object C) := by rw [heB]; exact b4
  have X₁ := X.noted hwarm₁
  obtain ⟨L9, hL9, XF⟩ := rMkS_st X₁ cA cB N K N
  obtain ⟨f1, f2, f3, f4, f5, f6⟩ := rMkS_f (T.setVm vm₁) cA cB N K N
  have hTs : (T.setVm vm₁).heap = H := hT
  rw [hTs] at f1 f2 f5 f6 hL9
  generalize hTF : rMkS (T.setVm vm₁) cA cB N K N = TF at XF f1 f2 f3 f4 f5 f6
  obtain ⟨hr1, hr2⟩ := X.roomAbove (a := 1 + N) (b := N + N * K) (by omega) (by omega)
  have hput : rHp w s ad' (rPut h2 (hN h) (2 * t1 + 1, (N, rLay ll))) TF.heap := by
    refine e3.put hP.1.1 (by omega) ?_ ?_ (by show 2 * t1 + 1 ≠ 0; omega) (by rw [f1, z1]; omega) (fun q hq => ?_)
    · show (tG9 h2.1 (hN h)).1 ≠ 0
      rw [i7 (hN h) (by omega) (by omega), tSet_eq]
      show 2 * t1 + 1 ≠ 0
      omega
    · refine Or.inr ⟨by rw [eo]; exact hP.2.2.2.1, Or.inr ⟨t1, _, rfl, ht1, by show N ≤ 65536; omega, cA, _, by rw [eo]; exact f2, hArrA, hRA, fun j hj => ?_⟩⟩
      have hj : j < N := hj
      show rVal w ad' (hN h2) (vR (rPl (rLay ll) j)) (if j < N then .ref (H.size + 1 + j) else .null)
      rw [if_pos hj, rLay_pl ll (fun x hx => ?_) j (by omega), i6 j hj]
      · refine Or.inr (Or.inr (Or.inr ⟨by omega, by omega, ?_⟩))
        rw [e2 j hj, Array.size_push]
      · obtain ⟨n9, h9, e9⟩ := List.getElem_of_mem hx
        have := i6 n9 (by omega)
        rw [List.getD_eq_getElem?_getD, List.getElem?_eq_getElem h9, Option.getD_some, e9] at this
        have := e3.1.2.1
        omega
    · rw [eo] at hq
      by_cases hq1 : q < H.size
      · rw [f5 q hq1, z2 q (by omega), Array.getElem?_push, if_neg (Nat.ne_of_lt hq1)]
      · by_cases hq2 : q < H.size + 1 + N
        · rw [show q = H.size + 1 + (q - (H.size + 1)) by omega, f6 _ (by omega), z3 _ (by omega)]
          rfl
        · rw [Array.getElem?_eq_none (by omega), Array.getElem?_eq_none (by omega)]
  obtain ⟨t, q1, q2⟩ := kk ad' TF.heap (locs ++ L9) (cells + 1 + N) (slots + N + N * K) ls lv (.ref H.size :: st2) hext hput (by omega) hl (hLo.mono (by show hN h ≤ hN h2; omega) hext) ⟨Or.inr (Or.inr (Or.inr ⟨hP.1.1, by show hN h < hN h2; omega, by rw [eo]⟩)), hS2.mono (by show hN h ≤ hN h2; omega) hext⟩ (by show cells + 1 + N + hC h ≤ cells + hC h2; omega) (by show slots + N + N * K + h.2.2.2.1 ≤ slots + h2.2.2.2.1; omega) (fun z hz => by
    rcases List.mem_append.mp hz with q | q
    · exact hlo z q
    · show wB w ≤ z.base
      rw [hL9 z q]
      exact hP.2.2.2.1) TF rfl XF
  refine ⟨t, ?_, q2⟩
  have hl1 : ¬ N > e.platform.arrayLengthLimit := by rw [Launch.admits_arrayLengthLimit X.admits]; omega
  have hh1 : ¬ N * componentBytes (.array (.object C)) > e.platform.maxHeapBytes := by rw [Launch.admits_maxHeapBytes X.admits]; show ¬ N * 4 > 536870912; omega
  have hl2 : ¬ K > e.platform.arrayLengthLimit := by rw [Launch.admits_arrayLengthLimit X.admits]; omega
  have hh2 : ¬ K * componentBytes (.object C) > e.platform.maxHeapBytes := by rw [Launch.admits_maxHeapBytes X.admits]; show ¬ K * 4 > 536870912; omega
  have hdg' : decode c.code pc = .ok (.multianewarray i 2, 4) := by rw [hX.2.1]; exact hdg
  jvm_step X.here [hX.1, hdg']
  simp only [multianewarray.sem, wp_bind', W.resolveClassAt_links (State.method?_setTop (F0 m pc ls (.int (nI K) :: .int (nI N) :: st2)) X.here.top) hg₁]
  rw [W.popN, if_neg (by decide)]
  refine ⟨F0 m pc ls (.int (nI K) :: .int (nI N) :: st2), State.topJava?_setTop' (s := T.setVm vm₁) (F0 m pc ls (.int (nI K) :: .int (nI N) :: st2)) X.here.top, [.int (nI N), .int (nI K)], st2, rfl, rfl, ?_⟩
  simp only [List.mapM_cons, List.mapM_nil, wp_bind', wp_pure']
  refine rMk2 (kA := kA₁) (kB := kB₁) (cB := cB) (comp := cO) (CA := .array (.object C)) (CB := .object C) (N := N) (M := K) rfl rfl hkA₁ hkindA₁ hkB₁ hkindB₁ N2 N1 K2 K1 (by omega) (by omega) hl1 hh1 hl2 hh2 (by show T.heap.size + 1 + _ ≤ _; omega) (by show T.slotsUsed + _ + _ ≤ _; omega) (fun d' acts' => ?_)
  rw [show ((T.setTop (F0 m pc ls (.int (nI K) :: .int (nI N) :: st2))).setVm vm₁).setTop { F0 m pc ls (.int (nI K) :: .int (nI N) :: st2) with stack := st2 } = (T.setVm vm₁).setTop (F0 m pc ls st2) by
    show ((T.setVm vm₁).setTop _).setTop _ = _
    rw [State.setTop_setTop], rMkS_top, hTF]
  simp only [wp_bind', W.mark, W.pushRef, State.topJava?_setTop' _ XF.here.top, Option.some.injEq, exists_eq_left', State.setTop_setTop, State.heap_setTop]
  intro acts
  simp [jvm, XF.here.top]
  rw [hT]
  exact q1
end
section
-- ===== from steps to methods, from methods to the machine =====
theorem rCon {w : rW} {l : Launch} {D : Nat} {M : rM} {f : List rV → List rV → rH → rR} (hst : l.stackTraces = false) (hpl : plainName (rMy M).cls = true) (hlen : ∀ A h res, f A [] h = some res → A.length ≤ rMl M) (hG : rGood w l D M 0 f) : rCGood w l D M (fun A h => f A [] h) := by
  intro A h res hf
  have hto := hG A [] h res hf
  have hA := hlen A h res hf
  refine ⟨hto.1, fun ad av hav => ?_⟩
  have hm2 : hC h ≤ hC res.2 := hto.1.2.1
  have hm3 : h.2.2.2.1 ≤ res.2.2.2.2.1 := hto.1.2.2
  have core : ∀ (p : Program) (e : Env) (s : State) (m : MethodId) (args : Array Value) (below : List Frame) (meth : Method) (c : Code) (s₁ : State), BodyLoose p l (rMy M) (headSpec (rWs M) (rRm D (hC res.2 - hC h) (hL res.2 - hL h))) (rMc_ M) (rMl M) (rMr M) e s m args below meth c s₁ → c.maxLocals = rMl M → c.exceptionTable.toList = tableOf ((rMh M).getD []) → rPc w ad av h args s →
      W p l e (headSpec (rWs M) (rRm D (hC res.2 - hC h) (hL res.2 - hL h))).room s m args below meth c s.heap [] 0 0 (vx_MQ below (rQc w ad h res) (rXc w ad h res) args s (hC res.2 - hC h) (hL res.2 - hL h) (rFree w)) (entryFrame m args (rMl M)) := by
    intro p e s m args below meth c s₁ B hml ht hP
    obtain ⟨hargs, hH, hK⟩ := hP
    rw [show entryFrame m args (rMl M) = F0 m 0 ((lg_sl av ++ List.replicate (rMl M - (lg_sl av).length) Slot.unset).toArray) [] by rw [hargs]; exact lg_entry_eq m av (rMl M)]
    have hX : rCtx w D M p l (headSpec (rWs M) (rRm D (hC res.2 - hC h) (hL res.2 - hL h))).room s m args meth c :=
      ⟨B.exec, B.bytes, hml, findClass_of_methodNamed B.named, fun wd hwd => atoms_spec (ws := rWs M) B.pre _ (List.mem_cons_of_mem _ hwd), B.notSynchronized, fun h => (name_of_methodNamed B.named B.method).1.trans h, hst, fun _ => ht, hK, Nat.le_refl _, Nat.le_refl _, fun q hq => hH.2.2.2.2 q hq⟩
    have hF : rFin w M res p l e (headSpec (rWs M) (rRm D (hC res.2 - hC h) (hL res.2 - hL h))).room s m args below meth c (vx_MQ below (rQc w ad h res) (rXc w ad h res) args s (hC res.2 - hC h) (hL res.2 - hL h) (rFree w)) (hC res.2 - hC h) (hL res.2 - hL h) (hN h) ad := by
      refine ⟨Nat.le_refl _, Nat.le_refl _, fun r ad' H locs pc ls v i h1 h2 h3 h4 h5 h6 h7 h8 h9 => ?_, fun e9 h1 => ⟨_, _, rfl, fun E ad' t hE hext hP' hsz => ⟨e9, ad', h1, hE, hext, hP', hsz⟩⟩⟩
      have hq : ∀ t : State, t.heap = H → s.WarmedH t.vm → rQc w ad h res args s (.returned v) t := fun t ht hW => ⟨r, v, ad', h1, rfl, h6, h2, by rw [ht]; exact h7.moved hW.alike, by rw [ht]; exact h8⟩
      have hret := B.returns
      refine vx_ret ?_
      match v, h3, h5, hq with
      | none, h3, h5, hq => cases h3; exact W.vret B.exec B.bytes (hret.trans h5) hq h9 h4 B.notSynchronized
      | some (.int x), h3, h5, hq =>
        cases h3
        rcases h5 with h5 | ⟨h5, h5'⟩
        · exact W.iret B.exec B.bytes (hret.trans h5) hq h9 h4 B.notSynchronized
        · exact W.zret B.exec B.bytes (hret.trans h5) h5' hq h9 h4 B.notSynchronized
      | some (.long x), h3, h5, hq => cases h3; exact W.lret B.exec B.bytes (hret.trans h5) hq h9 h4 B.notSynchronized
      | some (.double x), h3, h5, hq => cases h3; exact W.dret B.exec B.bytes (hret.trans h5) hq h9 h4 B.notSynchronized
      | some (.ref x), h3, h5, hq =>
        cases h3
        rcases h5 with ⟨n, h5⟩ | ⟨t, h5⟩
        · exact W.aret B.exec B.bytes (hret.trans h5) (Or.inl ⟨n, rfl⟩) (Or.inr ⟨x, rfl⟩) hq h9 h4 B.notSynchronized
        · exact W.aret B.exec B.bytes (hret.trans h5) (Or.inr ⟨t, rfl⟩) (Or.inr ⟨x, rfl⟩) hq h9 h4 B.notSynchronized
      | some .null, h3, h5, hq =>
        cases h3
        rcases h5 with ⟨n, h5⟩ | ⟨t, h5⟩
        · exact W.aret B.exec B.bytes (hret.trans h5) (Or.inl ⟨n, rfl⟩) (Or.inl rfl) hq h9 h4 B.notSynchronized
        · exact W.aret B.exec B.bytes (hret.trans h5) (Or.inr ⟨t, rfl⟩) (Or.inl rfl) hq h9 h4 B.notSynchronized
    exact hto.2 p e _ s m args below meth c _ _ _ (hN h) ad hX hF ad s.heap [] 0 0 _ (lv_args 0 av) [] ⟨Nat.le_refl _, rExt.rf⟩ hH (Nat.le_refl _) (lv_entry av (by rw [← hav.1]; exact hA)) hav.2 trivial ⟨by omega, by show 0 + res.2.2.2.2.1 ≤ (res.2.2.2.2.1 - h.2.2.2.1) + h.2.2.2.1; omega⟩ (fun z hz => nomatch hz)
  cases hh : rMh M with
  | none =>
    refine vx_ofW hpl (rWs_none hh) fun p e s m args below meth c s₁ B hml ht hP => core p e s m args below meth c s₁ B hml ?_ hP
    rw [hh]
    show c.exceptionTable.toList = []
    exact List.eq_nil_iff_forall_not_mem.mpr fun x hx => ht x hx
  | some tt =>
    refine vx_ofWH hpl (rWs_some hh) fun p e s m args below meth c s₁ B hml hP => core p e s m args below meth c s₁ B hml ?_ hP
    rw [hh]
    exact vx_table (x := rMy M) B (atoms_spec (ws := rWs M) B.pre _ (by rw [rWs_some hh]; exact List.mem_cons_self))
theorem rMach {lab : Nat → rM × Nat} {tb : Nat → Unit × rP} {w : rW} {l : Launch} (hst : l.stackTraces = false) (hS : ∀ id, rSnd lab (lab id).1 (lab id).2 (tb id).2) (hent : ∀ id, (lab id).2 = 0 → plainName (rMy (lab id).1).cls = true ∧ ∀ j A h res, (tb id).2 j A [] h = some res → A.length ≤ rMl (lab id).1) (f : Nat) : ∀ d id, rGood w l d (lab id).1 (lab id).2 (rMc tb f d id)
  | 0, id => fun L S h res hh => by cases hh
  | d + 1, id => by
    have hcalls : rCalls w l d lab (rMc tb f d) := by
      intro id h0
      have hG := rMach (w := w) hst hS hent f d id
      rw [h0] at hG
      refine rCon hst (hent id h0).1 (fun A h res hh => ?_) hG
      cases d with
      | zero => cases hh
      | succ d =>
        cases f with
        | zero => cases hh
        | succ n => exact (hent id h0).2 _ A h res hh
    have hlp : ∀ n id, rGood w l (d + 1) (lab id).1 (lab id).2 (rLp tb (rMc tb f d) n id) := by
      intro n
      induction n with
      | zero => intro id L S h res hh; cases hh
      | succ n ih =>
        intro id L S h res hh
        exact hS id w l d (rLp tb (rMc tb f d) n) (rMc tb f d) ih hcalls L S h res hh
    exact hlp f id
theorem rMachC {lab : Nat → rM × Nat} {tb : Nat → Unit × rP} {w : rW} {l : Launch} (hst : l.stackTraces = false) (hS : ∀ id, rSnd lab (lab id).1 (lab id).2 (tb id).2) (hent : ∀ id, (lab id).2 = 0 → plainName (rMy (lab id).1).cls = true ∧ ∀ j A h res, (tb id).2 j A [] h = some res → A.length ≤ rMl (lab id).1) (f d : Nat) : rCalls w l d lab (rMc tb f d) := by
  intro id h0
  have hG := rMach (w := w) hst hS hent f d id
  rw [h0] at hG
  refine rCon hst (hent id h0).1 (fun A h res hh => ?_) hG
  cases d with
  | zero => cases hh
  | succ d =>
    cases f with
    | zero => cases hh
    | succ n => exact (hent id h0).2 _ A h res hh
end
section
noncomputable def zEq (x : Nat) : Bool := cEq x 0
noncomputable def yEq (p q : Nat) : Option Bool := gEq p q 0
noncomputable def zNe (x : Nat) : Bool := cNe x 0
noncomputable def yNe (p q : Nat) : Option Bool := gNe p q 0
noncomputable def zLt (x : Nat) : Bool := cLt x 0
noncomputable def yLt (p q : Nat) : Option Bool := gLt p q 0
noncomputable def zGe (x : Nat) : Bool := cGe x 0
noncomputable def yGe (p q : Nat) : Option Bool := gGe p q 0
noncomputable def zGt (x : Nat) : Bool := cGt x 0
noncomputable def yGt (p q : Nat) : Option Bool := gGt p q 0
noncomputable def zLe (x : Nat) : Bool := cLe x 0
noncomputable def yLe (p q : Nat) : Option Bool := gLe p q 0
noncomputable def rIf (b : Bool) (t f : Bool) : Bool := @Bool.rec (fun _ => Bool) f t b
-- which cells a row of references may hold
noncomputable def okObj (v : Nat) : Bool := (rIf (Nat.beq v 9) true (rIf (Nat.beq v 48) true (rIf (Nat.beq v 44) true (rIf (Nat.beq v 50) true (rIf (Nat.beq v 40) true false)))))
noncomputable def okAs (k v : Nat) : Bool := rIf (Nat.beq v 0) false (rIf (Nat.beq k 7) (okObj v) (rIf (Nat.beq k 9) (Nat.beq v 40) (rIf (Nat.beq k 11) (Nat.beq v 8) (rIf (Nat.beq k 13) (Nat.beq v 10) (rIf (Nat.beq k 15) (Nat.beq v 1) false)))))
noncomputable def B0_0 : rP := (oEnt 2 (oIl nG0 (oIl nG1 (oPsh (vR 0) (oCs 1 3 (oRi 4294967296))))))
noncomputable def B1_16 : rP := (oIl nG0 (oRi 4294967296))
noncomputable def B1_0 : rP := (oEnt 3 (oIl nG0 (oIf zLt yLt oNone (oIl nG0 (oIl nG1 (oIc cLt gLt B1_16 oNone))))))
noncomputable def B2_73 : rP := (oIl nG1 (oIl nG0 (oPsh (vI 1) (oBin fUsh gShr xN (oBin fSub xN xN (oRi 4294967296))))))
noncomputable def B2_61 : rP := (oIl nG0 (oPsh (vI 4) (oIc cLt gLt B2_73 (oInc nG1 nS1 4294967294 (oIl nG0 (oPsh (vI 2) (oBin fUsh gShr xN (oIs nS0 B2_73))))))))
noncomputable def B2_48 : rP := (oIl nG0 (oPsh (vI 16) (oIc cLt gLt B2_61 (oInc nG1 nS1 4294967292 (oIl nG0 (oPsh (vI 4) (oBin fUsh gShr xN (oIs nS0 B2_61))))))))
noncomputable def B2_33 : rP := (oIl nG0 (oPsh (vI 256) (oIc cLt gLt B2_48 (oInc nG1 nS1 4294967288 (oIl nG0 (oPsh (vI 8) (oBin fUsh gShr xN (oIs nS0 B2_48))))))))
noncomputable def B2_15 : rP := (oPsh (vI 31) (oIs nS1 (oIl nG0 (oPsh (vI 65536) (oIc cLt gLt B2_33 (oInc nG1 nS1 4294967280 (oIl nG0 (oPsh (vI 16) (oBin fUsh gShr xN (oIs nS0 B2_33))))))))))
noncomputable def B2_0 : rP := (oEnt 2 (oIl nG0 (oIf zGt yGt B2_15 oNone)))
noncomputable def B3_20 : rP := oRv
noncomputable def B3_5 : rP := (oIl nG2 (oIl nG3 (oIc cGe gGe B3_20 (oAl nG0 (oIl nG2 (oIl nG1 (oAst 1 0 (oInc nG2 nS2 1 (oGo (oJb 4))))))))))
noncomputable def B3_0 : rP := (oEnt 4 (oPsh (vI 0) (oIs nS2 (oAl nG0 (oLen (oIs nS3 B3_5))))))
noncomputable def B4_10 : rP := (oRi 4294967296)
noncomputable def B4_9 : rP := (oIl nG1 B4_10)
noncomputable def B4_0 : rP := (oEnt 2 (oIl nG0 (oIl nG1 (oIc cLt gLt B4_9 (oIl nG0 (oGo B4_10))))))
noncomputable def B5_10 : rP := (oRi 4294967296)
noncomputable def B5_0 : rP := (oEnt 2 (oIl nG0 (oIl nG1 (oIc cGt gGt oNone (oIl nG0 (oGo B5_10))))))
noncomputable def B6_11 : rP := (oAl nG2 (oIl nG3 (oAl nG1 (oAas okAs (oAl nG0 (oIl nG3 (oPsh (vI 1) (oBin fAdd xN gAdd (oPf 50 2 0 oRv)))))))))
noncomputable def B6_0 : rP := (oEnt 4 (oIl nG3 (oAl nG2 (oLen (oIc cNe gNe B6_11 (oAl nG0 (oCv 50 13 0 (oAs nS2 B6_11))))))))
noncomputable def B7_0 : rP := (oEnt 2 (oAl nG0 (oDup (oGf 50 0 vI (oPsh (vI 1) (oBin fAdd xN gAdd (oPf 50 0 0 (oAl nG0 (oAl nG1 (oAl nG0 (oGf 50 1 vR (oAl nG0 (oGf 50 2 vI (oCv 50 7 3 (oPsh (vI 1) (oRi 2))))))))))))))))
noncomputable def B8_42 : rP := oRv
noncomputable def B8_0 : rP := (oEnt 4 (oAl nG0 (oDup (oGf 50 0 vI (oPsh (vI 1) (oBin fAdd xN gAdd (oPf 50 0 0 (oAl nG0 (oGf 50 1 vR (oAs nS1 (oAl nG0 (oGf 50 2 vI (oIs nS2 (oAl nG0 (oPsh (vI 0) (oDupX (oPf 50 2 0 (oIs nS3 (oIl nG3 (oIl nG2 (oIc cGe gGe B8_42 oNone)))))))))))))))))))))
noncomputable def B9_0 : rP := (oEnt 2 (oAl nG0 (oGf 50 1 vR (oIl nG1 (oAal oRa)))))
noncomputable def B10_0 : rP := (oEnt 2 (oIl nG1 (oAl nG0 (oGf 50 2 vI (oCs 0 2 (oPop (oAl nG0 (oIl nG1 (oCv 50 10 1 oRa)))))))))
noncomputable def B11_45 : rP := (oAl nG0 (oPsh (vI 10) (oIl nG1 (oMx fMax (oNwa 7 (oDupX (oPf 50 1 2 oRa)))))))
noncomputable def B11_0 : rP := (oEnt 4 (oAl nG0 (oGf 50 1 vR (oLen (oIs nS2 (oIl nG2 (oIf zGt yGt oNone (oAl nG0 (oGf 50 1 vR (oPsh (vR 16384) (oAeq B11_45)))))))))))
noncomputable def B12_0 : rP := (oEnt 1 (oAl nG0 (oAl nG0 (oGf 50 2 vI (oPsh (vI 1) (oBin fAdd xN gAdd (oCv 50 12 1 oRa)))))))
noncomputable def B13_0 : rP := (oEnt 1 (oAl nG0 (oCi 18 0 (oAl nG0 (oPsh (vR 16384) (oPf 50 1 2 oRv))))))
noncomputable def B14_12 : rP := (oRi 2)
noncomputable def B14_0 : rP := (oEnt 1 (oAl nG0 (oGf 50 2 vI (oIf zNe yNe oNone (oPsh (vI 1) (oGo B14_12))))))
noncomputable def B15_0 : rP := (oEnt 1 (oAl nG0 (oGf 50 2 vI (oRi 4294967296))))
noncomputable def B16_0 : rP := (oEnt 1 (oAl nG0 (oOi oRv)))
noncomputable def B17_0 : rP := (oEnt 1 (oAl nG0 (oCi 17 0 (oAl nG0 (oPsh (vI 0) (oPf 50 0 0 oRv))))))
noncomputable def B18_19 : rP := (oAs nS7 (oPsh (vI 1) (oRi 4294967296)))
noncomputable def B18_0 : rP := (oEnt 8 (oAl nG6 (oPsh (vI 0) (oAl nG0 (oIl nG1 (oIl nG2 (oIl nG3 (oIl nG4 (oIl nG5 (oCh 2 66 5 (fun e => rNth [oNone, oNone, B18_19, oNone] e oNone) oNone))))))))))
noncomputable def B19_12 : rP := (oAs nS3 (oPsh (vI 1) (oRi 4294967296)))
noncomputable def B19_0 : rP := (oEnt 4 (oAl nG2 (oPsh (vI 0) (oAl nG0 (oIl nG1 (oCh 2 68 1 (fun e => rNth [oNone, oNone, B19_12, oNone] e oNone) oNone))))))
noncomputable def B20_15 : rP := (oAs nS5 (oPsh (vI 1) (oRi 4294967296)))
noncomputable def B20_0 : rP := (oEnt 6 (oAl nG4 (oPsh (vI 0) (oAl nG0 (oIl nG1 (oIl nG2 (oIl nG3 (oCh 2 70 3 (fun e => rNth [oNone, oNone, B20_15, oNone] e oNone) oNone))))))))
noncomputable def B21_21 : rP := (oPsh (vI 0) (oRi 4294967296))
noncomputable def B21_13 : rP := (oAs nS4 (oPsh (vI 1) (oRi 4294967296)))
noncomputable def B21_0 : rP := (oEnt 5 (oAl nG3 (oPsh (vI 0) (oAl nG0 (oIl nG1 (oIl nG2 (oCh 2 71 2 (fun e => rNth [oNone, oNone, B21_13, oNone] e oNone) (oI2l (oAst 5 1 (oGo B21_21))))))))))
noncomputable def B22_15 : rP := (oAs nS5 (oPsh (vI 1) (oRi 4294967296)))
noncomputable def B22_0 : rP := (oEnt 6 (oAl nG4 (oPsh (vI 0) (oAl nG0 (oIl nG1 (oIl nG2 (oIl nG3 (oCh 2 72 3 (fun e => rNth [oNone, oNone, B22_15, oNone] e oNone) oNone))))))))
noncomputable def B23_23 : rP := (oPsh (vI 0) (oRi 4294967296))
noncomputable def B23_19 : rP := (oAs nS5 (oPsh (vI 2) (oRi 4294967296)))
noncomputable def B23_15 : rP := (oAs nS5 (oPsh (vI 1) (oRi 4294967296)))
noncomputable def B23_0 : rP := (oEnt 6 (oAl nG4 (oPsh (vI 0) (oAl nG0 (oIl nG1 (oIl nG2 (oIl nG3 (oCh 2 79 3 (fun e => rNth [B23_19, oNone, B23_15, oNone] e oNone) (oI2l (oAst 5 1 (oGo B23_23)))))))))))
noncomputable def B24_14 : rP := (oPsh (vI 0) (oRi 4294967296))
noncomputable def B24_0 : rP := (oEnt 3 (oAl nG1 (oPsh (vI 0) (oAl nG0 (oCh 2 80 0 (fun e => rNth [oNone, oNone, oNone, oNone] e oNone) (oI2l (oAst 5 1 (oGo B24_14))))))))
noncomputable def B25_13 : rP := (oAs nS4 (oPsh (vI 1) (oRi 4294967296)))
noncomputable def B25_0 : rP := (oEnt 5 (oAl nG3 (oPsh (vI 0) (oAl nG0 (oIl nG1 (oIl nG2 (oCh 2 81 2 (fun e => rNth [oNone, oNone, B25_13, oNone] e oNone) oNone)))))))
noncomputable def B26_28 : rP := (oPsh (vI 0) (oRi 4294967296))
noncomputable def B26_24 : rP := (oAs nS4 (oPsh (vI 2) (oRi 4294967296)))
noncomputable def B26_20 : rP := (oAs nS4 (oPsh (vI 1) (oRi 4294967296)))
noncomputable def B26_16 : rP := (oAst 5 1 (oGo B26_28))
noncomputable def B26_15 : rP := (oPsh (vL 0) B26_16)
noncomputable def B26_0 : rP := (oEnt 5 (oAl nG3 (oPsh (vI 0) (oAl nG0 (oIl nG1 (oIl nG2 (oCh 2 82 2 (fun e => rNth [B26_24, oNone, B26_20, oNone] e oNone) (oIf zEq yEq B26_15 (oPsh (vL 1) (oGo B26_16))))))))))
noncomputable def B27_21 : rP := (oPsh (vI 0) (oRi 4294967296))
noncomputable def B27_17 : rP := (oAs nS4 (oPsh (vI 2) (oRi 4294967296)))
noncomputable def B27_13 : rP := (oAs nS4 (oPsh (vI 1) (oRi 4294967296)))
noncomputable def B27_0 : rP := (oEnt 5 (oAl nG3 (oPsh (vI 0) (oAl nG0 (oIl nG1 (oIl nG2 (oCh 2 83 2 (fun e => rNth [B27_17, oNone, B27_13, oNone] e oNone) (oI2l (oAst 5 1 (oGo B27_21))))))))))
noncomputable def B28_2350 : rP := (oPsh (vI 1) (oRi 2))
noncomputable def B28_2344 : rP := (oInc nG4 nS4 6 (oGo (oJb 30)))
noncomputable def B28_2330 : rP := (oAl nG1 (oCv 2 76 0 (oAl nG2 (oCv 24 234 0 (oLcmp fLcmp (oIf zEq yEq B28_2344 oNone))))))
noncomputable def B28_2327 : rP := (oGo B28_2344)
noncomputable def B28_2310 : rP := (oIl nG5 (oIf zNe yNe B28_2327 (oAl nG3 (oPsh (vI 0) (oAld 5 vL (oIl nG6 (oI2l (oLcmp fLcmp (oIf zEq yEq B28_2327 oNone)))))))))
noncomputable def B28_2262 : rP := (oAl nG1 (oAl nG0 (oIl nG4 (oPsh (vI 1) (oBin fAdd xN gAdd (oIal (oAl nG0 (oIl nG4 (oPsh (vI 2) (oBin fAdd xN gAdd (oIal (oAl nG3 (oCs 42 4 (oIs nS5 (oAl nG2 (oAl nG0 (oIl nG4 (oPsh (vI 1) (oBin fAdd xN gAdd (oIal (oAl nG0 (oIl nG4 (oPsh (vI 2) (oBin fAdd xN gAdd (oIal (oCv 24 297 2 (oIs nS6 (oAl nG2 (oCv 24 306 0 (oIl nG5 (oIc cEq gEq B28_2310 oNone)))))))))))))))))))))))))))))))
noncomputable def B28_2259 : rP := (oGo B28_2344)
noncomputable def B28_2242 : rP := (oIl nG5 (oIf zNe yNe B28_2259 (oAl nG3 (oPsh (vI 0) (oAld 5 vL (oIl nG6 (oI2l (oLcmp fLcmp (oIf zEq yEq B28_2259 oNone)))))))))
noncomputable def B28_2182 : rP := (oAl nG1 (oAl nG0 (oIl nG4 (oPsh (vI 1) (oBin fAdd xN gAdd (oIal (oAl nG0 (oIl nG4 (oPsh (vI 2) (oBin fAdd xN gAdd (oIal (oAl nG0 (oIl nG4 (oPsh (vI 3) (oBin fAdd xN gAdd (oIal (oAl nG3 (oCs 49 5 (oIs nS5 (oAl nG2 (oAl nG0 (oIl nG4 (oPsh (vI 1) (oBin fAdd xN gAdd (oIal (oAl nG0 (oIl nG4 (oPsh (vI 2) (oBin fAdd xN gAdd (oIal (oAl nG0 (oIl nG4 (oPsh (vI 3) (oBin fAdd xN gAdd (oIal (oCv 24 310 3 (oIs nS6 (oAl nG2 (oCv 24 306 0 (oIl nG5 (oIc cEq gEq B28_2242 oNone)))))))))))))))))))))))))))))))))))))))))
noncomputable def B28_2179 : rP := (oGo B28_2344)
noncomputable def B28_2141 : rP := (oAl nG1 (oCv 2 102 0 (oDs nD5 (oAl nG2 (oCv 24 281 0 (oDs nD7 (oDl nG5 (oDl nG7 (oDcmp (oIf zEq yEq B28_2179 oNone))))))))))
noncomputable def B28_2138 : rP := (oGo B28_2344)
noncomputable def B28_2121 : rP := (oIl nG5 (oIf zNe yNe B28_2138 (oAl nG3 (oPsh (vI 0) (oAld 5 vL (oIl nG6 (oI2l (oLcmp fLcmp (oIf zEq yEq B28_2138 oNone)))))))))
noncomputable def B28_2085 : rP := (oAl nG1 (oAl nG0 (oIl nG4 (oPsh (vI 1) (oBin fAdd xN gAdd (oIal (oAl nG3 (oCs 35 3 (oIs nS5 (oAl nG2 (oAl nG0 (oIl nG4 (oPsh (vI 1) (oBin fAdd xN gAdd (oIal (oCv 24 279 1 (oIs nS6 (oAl nG2 (oCv 24 306 0 (oIl nG5 (oIc cEq gEq B28_2121 oNone)))))))))))))))))))))
noncomputable def B28_2082 : rP := (oGo B28_2344)
noncomputable def B28_2065 : rP := (oIl nG5 (oIf zNe yNe B28_2082 oNone))
noncomputable def B28_2029 : rP := (oAl nG1 (oAl nG0 (oIl nG4 (oPsh (vI 1) (oBin fAdd xN gAdd (oIal (oAl nG3 (oCs 20 3 (oIs nS5 (oAl nG2 (oAl nG0 (oIl nG4 (oPsh (vI 1) (oBin fAdd xN gAdd (oIal (oCv 24 223 1 (oIs nS6 (oAl nG2 (oCv 24 306 0 (oIl nG5 (oIc cEq gEq B28_2065 oNone)))))))))))))))))))))
noncomputable def B28_2026 : rP := (oGo B28_2344)
noncomputable def B28_2009 : rP := (oIl nG5 (oIf zNe yNe B28_2026 (oAl nG3 (oPsh (vI 0) (oAld 5 vL (oIl nG6 (oI2l (oLcmp fLcmp (oIf zEq yEq B28_2026 oNone)))))))))
noncomputable def B28_1949 : rP := (oAl nG1 (oAl nG0 (oIl nG4 (oPsh (vI 1) (oBin fAdd xN gAdd (oIal (oAl nG0 (oIl nG4 (oPsh (vI 2) (oBin fAdd xN gAdd (oIal (oAl nG0 (oIl nG4 (oPsh (vI 3) (oBin fAdd xN gAdd (oIal (oAl nG3 (oCs 44 5 (oIs nS5 (oAl nG2 (oAl nG0 (oIl nG4 (oPsh (vI 1) (oBin fAdd xN gAdd (oIal (oAl nG0 (oIl nG4 (oPsh (vI 2) (oBin fAdd xN gAdd (oIal (oAl nG0 (oIl nG4 (oPsh (vI 3) (oBin fAdd xN gAdd (oIal (oCv 24 299 3 (oIs nS6 (oAl nG2 (oCv 24 306 0 (oIl nG5 (oIc cEq gEq B28_2009 oNone)))))))))))))))))))))))))))))))))))))))))
noncomputable def B28_1936 : rP := (oAl nG1 (oCv 2 75 0 (oAl nG2 (oCv 24 228 0 (oIc cEq gEq B28_2344 oNone)))))
noncomputable def B28_1933 : rP := (oGo B28_2344)
noncomputable def B28_1916 : rP := (oIl nG5 (oIf zNe yNe B28_1933 (oAl nG3 (oPsh (vI 0) (oAld 5 vL (oIl nG6 (oI2l (oLcmp fLcmp (oIf zEq yEq B28_1933 oNone)))))))))
noncomputable def B28_1844 : rP := (oAl nG1 (oAl nG0 (oIl nG4 (oPsh (vI 1) (oBin fAdd xN gAdd (oIal (oAl nG0 (oIl nG4 (oPsh (vI 2) (oBin fAdd xN gAdd (oIal (oAl nG0 (oIl nG4 (oPsh (vI 3) (oBin fAdd xN gAdd (oIal (oAl nG0 (oIl nG4 (oPsh (vI 4) (oBin fAdd xN gAdd (oIal (oAl nG3 (oCs 45 6 (oIs nS5 (oAl nG2 (oAl nG0 (oIl nG4 (oPsh (vI 1) (oBin fAdd xN gAdd (oIal (oAl nG0 (oIl nG4 (oPsh (vI 2) (oBin fAdd xN gAdd (oIal (oAl nG0 (oIl nG4 (oPsh (vI 3) (oBin fAdd xN gAdd (oIal (oAl nG0 (oIl nG4 (oPsh (vI 4) (oBin fAdd xN gAdd (oIal (oCv 24 304 4 (oIs nS6 (oAl nG2 (oCv 24 306 0 (oIl nG5 (oIc cEq gEq B28_1916 oNone)))))))))))))))))))))))))))))))))))))))))))))))))))
noncomputable def B28_1841 : rP := (oGo B28_2344)
noncomputable def B28_1824 : rP := (oIl nG5 (oIf zNe yNe B28_1841 oNone))
noncomputable def B28_1776 : rP := (oAl nG1 (oAl nG0 (oIl nG4 (oPsh (vI 1) (oBin fAdd xN gAdd (oIal (oAl nG0 (oIl nG4 (oPsh (vI 2) (oBin fAdd xN gAdd (oIal (oAl nG3 (oCs 48 4 (oIs nS5 (oAl nG2 (oAl nG0 (oIl nG4 (oPsh (vI 1) (oBin fAdd xN gAdd (oIal (oAl nG0 (oIl nG4 (oPsh (vI 2) (oBin fAdd xN gAdd (oIal (oCv 24 309 2 (oIs nS6 (oAl nG2 (oCv 24 306 0 (oIl nG5 (oIc cEq gEq B28_1824 oNone)))))))))))))))))))))))))))))))
noncomputable def B28_1773 : rP := (oGo B28_2344)
noncomputable def B28_1756 : rP := (oIl nG5 (oIf zNe yNe B28_1773 oNone))
noncomputable def B28_1708 : rP := (oAl nG1 (oAl nG0 (oIl nG4 (oPsh (vI 1) (oBin fAdd xN gAdd (oIal (oAl nG0 (oIl nG4 (oPsh (vI 2) (oBin fAdd xN gAdd (oIal (oAl nG3 (oCs 31 4 (oIs nS5 (oAl nG2 (oAl nG0 (oIl nG4 (oPsh (vI 1) (oBin fAdd xN gAdd (oIal (oAl nG0 (oIl nG4 (oPsh (vI 2) (oBin fAdd xN gAdd (oIal (oCv 24 261 2 (oIs nS6 (oAl nG2 (oCv 24 306 0 (oIl nG5 (oIc cEq gEq B28_1756 oNone)))))))))))))))))))))))))))))))
noncomputable def B28_1705 : rP := (oGo B28_2344)
noncomputable def B28_1688 : rP := (oIl nG5 (oIf zNe yNe B28_1705 oNone))
noncomputable def B28_1652 : rP := (oAl nG1 (oAl nG0 (oIl nG4 (oPsh (vI 1) (oBin fAdd xN gAdd (oIal (oAl nG3 (oCs 36 3 (oIs nS5 (oAl nG2 (oAl nG0 (oIl nG4 (oPsh (vI 1) (oBin fAdd xN gAdd (oIal (oCv 24 285 1 (oIs nS6 (oAl nG2 (oCv 24 306 0 (oIl nG5 (oIc cEq gEq B28_1688 oNone)))))))))))))))))))))
noncomputable def B28_1649 : rP := (oGo B28_2344)
noncomputable def B28_1632 : rP := (oIl nG5 (oIf zNe yNe B28_1649 (oAl nG3 (oPsh (vI 0) (oAld 5 vL (oIl nG6 (oI2l (oLcmp fLcmp (oIf zEq yEq B28_1649 oNone)))))))))
noncomputable def B28_1584 : rP := (oAl nG1 (oAl nG0 (oIl nG4 (oPsh (vI 1) (oBin fAdd xN gAdd (oIal (oAl nG0 (oIl nG4 (oPsh (vI 2) (oBin fAdd xN gAdd (oIal (oAl nG3 (oCs 38 4 (oIs nS5 (oAl nG2 (oAl nG0 (oIl nG4 (oPsh (vI 1) (oBin fAdd xN gAdd (oIal (oAl nG0 (oIl nG4 (oPsh (vI 2) (oBin fAdd xN gAdd (oIal (oCv 24 288 2 (oIs nS6 (oAl nG2 (oCv 24 306 0 (oIl nG5 (oIc cEq gEq B28_1632 oNone)))))))))))))))))))))))))))))))
noncomputable def B28_1581 : rP := (oGo B28_2344)
noncomputable def B28_1564 : rP := (oIl nG5 (oIf zNe yNe B28_1581 oNone))
noncomputable def B28_1504 : rP := (oAl nG1 (oAl nG0 (oIl nG4 (oPsh (vI 1) (oBin fAdd xN gAdd (oIal (oAl nG0 (oIl nG4 (oPsh (vI 2) (oBin fAdd xN gAdd (oIal (oAl nG0 (oIl nG4 (oPsh (vI 3) (oBin fAdd xN gAdd (oIal (oAl nG3 (oCs 21 5 (oIs nS5 (oAl nG2 (oAl nG0 (oIl nG4 (oPsh (vI 1) (oBin fAdd xN gAdd (oIal (oAl nG0 (oIl nG4 (oPsh (vI 2) (oBin fAdd xN gAdd (oIal (oAl nG0 (oIl nG4 (oPsh (vI 3) (oBin fAdd xN gAdd (oIal (oCv 24 224 3 (oIs nS6 (oAl nG2 (oCv 24 306 0 (oIl nG5 (oIc cEq gEq B28_1564 oNone)))))))))))))))))))))))))))))))))))))))))
noncomputable def B28_1501 : rP := (oGo B28_2344)
noncomputable def B28_1484 : rP := (oIl nG5 (oIf zNe yNe B28_1501 (oAl nG3 (oPsh (vI 0) (oAld 5 vL (oIl nG6 (oI2l (oLcmp fLcmp (oIf zEq yEq B28_1501 oNone)))))))))
noncomputable def B28_1460 : rP := (oAl nG1 (oAl nG3 (oCs 40 2 (oIs nS5 (oAl nG2 (oCv 24 293 0 (oIs nS6 (oAl nG2 (oCv 24 306 0 (oIl nG5 (oIc cEq gEq B28_1484 oNone)))))))))))
noncomputable def B28_1447 : rP := (oAl nG1 (oCv 2 121 0 (oAl nG2 (oCv 24 296 0 (oIc cEq gEq B28_2344 oNone)))))
noncomputable def B28_1444 : rP := (oGo B28_2344)
noncomputable def B28_1427 : rP := (oIl nG5 (oIf zNe yNe B28_1444 (oAl nG3 (oPsh (vI 0) (oAld 5 vL (oIl nG6 (oI2l (oLcmp fLcmp (oIf zEq yEq B28_1444 oNone)))))))))
noncomputable def B28_1391 : rP := (oAl nG1 (oAl nG0 (oIl nG4 (oPsh (vI 1) (oBin fAdd xN gAdd (oIal (oAl nG3 (oCs 43 3 (oIs nS5 (oAl nG2 (oAl nG0 (oIl nG4 (oPsh (vI 1) (oBin fAdd xN gAdd (oIal (oCv 24 298 1 (oIs nS6 (oAl nG2 (oCv 24 306 0 (oIl nG5 (oIc cEq gEq B28_1427 oNone)))))))))))))))))))))
noncomputable def B28_1388 : rP := (oGo B28_2344)
noncomputable def B28_1371 : rP := (oIl nG5 (oIf zNe yNe B28_1388 oNone))
noncomputable def B28_1347 : rP := (oAl nG1 (oAl nG3 (oCs 47 2 (oIs nS5 (oAl nG2 (oCv 24 308 0 (oIs nS6 (oAl nG2 (oCv 24 306 0 (oIl nG5 (oIc cEq gEq B28_1371 oNone)))))))))))
noncomputable def B28_1344 : rP := (oGo B28_2344)
noncomputable def B28_1327 : rP := (oIl nG5 (oIf zNe yNe B28_1344 oNone))
noncomputable def B28_1267 : rP := (oAl nG1 (oAl nG0 (oIl nG4 (oPsh (vI 1) (oBin fAdd xN gAdd (oIal (oAl nG0 (oIl nG4 (oPsh (vI 2) (oBin fAdd xN gAdd (oIal (oAl nG0 (oIl nG4 (oPsh (vI 3) (oBin fAdd xN gAdd (oIal (oAl nG3 (oCs 46 5 (oIs nS5 (oAl nG2 (oAl nG0 (oIl nG4 (oPsh (vI 1) (oBin fAdd xN gAdd (oIal (oAl nG0 (oIl nG4 (oPsh (vI 2) (oBin fAdd xN gAdd (oIal (oAl nG0 (oIl nG4 (oPsh (vI 3) (oBin fAdd xN gAdd (oIal (oCv 24 305 3 (oIs nS6 (oAl nG2 (oCv 24 306 0 (oIl nG5 (oIc cEq gEq B28_1327 oNone)))))))))))))))))))))))))))))))))))))))))
noncomputable def B28_1264 : rP := (oGo B28_2344)
noncomputable def B28_1247 : rP := (oIl nG5 (oIf zNe yNe B28_1264 (oAl nG3 (oPsh (vI 0) (oAld 5 vL (oIl nG6 (oI2l (oLcmp fLcmp (oIf zEq yEq B28_1264 oNone)))))))))
noncomputable def B28_1223 : rP := (oAl nG1 (oAl nG3 (oCs 25 2 (oIs nS5 (oAl nG2 (oCv 24 245 0 (oIs nS6 (oAl nG2 (oCv 24 306 0 (oIl nG5 (oIc cEq gEq B28_1247 oNone)))))))))))
noncomputable def B28_1220 : rP := (oGo B28_2344)
noncomputable def B28_1203 : rP := (oIl nG5 (oIf zNe yNe B28_1220 (oAl nG3 (oPsh (vI 0) (oAld 5 vL (oIl nG6 (oI2l (oLcmp fLcmp (oIf zEq yEq B28_1220 oNone)))))))))
noncomputable def B28_1143 : rP := (oAl nG1 (oAl nG0 (oIl nG4 (oPsh (vI 1) (oBin fAdd xN gAdd (oIal (oAl nG0 (oIl nG4 (oPsh (vI 2) (oBin fAdd xN gAdd (oIal (oAl nG0 (oIl nG4 (oPsh (vI 3) (oBin fAdd xN gAdd (oIal (oAl nG3 (oCs 24 5 (oIs nS5 (oAl nG2 (oAl nG0 (oIl nG4 (oPsh (vI 1) (oBin fAdd xN gAdd (oIal (oAl nG0 (oIl nG4 (oPsh (vI 2) (oBin fAdd xN gAdd (oIal (oAl nG0 (oIl nG4 (oPsh (vI 3) (oBin fAdd xN gAdd (oIal (oCv 24 244 3 (oIs nS6 (oAl nG2 (oCv 24 306 0 (oIl nG5 (oIc cEq gEq B28_1203 oNone)))))))))))))))))))))))))))))))))))))))))
noncomputable def B28_1140 : rP := (oGo B28_2344)
noncomputable def B28_1123 : rP := (oIl nG5 (oIf zNe yNe B28_1140 oNone))
noncomputable def B28_1063 : rP := (oAl nG1 (oAl nG0 (oIl nG4 (oPsh (vI 1) (oBin fAdd xN gAdd (oIal (oAl nG0 (oIl nG4 (oPsh (vI 2) (oBin fAdd xN gAdd (oIal (oAl nG0 (oIl nG4 (oPsh (vI 3) (oBin fAdd xN gAdd (oIal (oAl nG3 (oCs 23 5 (oIs nS5 (oAl nG2 (oAl nG0 (oIl nG4 (oPsh (vI 1) (oBin fAdd xN gAdd (oIal (oAl nG0 (oIl nG4 (oPsh (vI 2) (oBin fAdd xN gAdd (oIal (oAl nG0 (oIl nG4 (oPsh (vI 3) (oBin fAdd xN gAdd (oIal (oCv 24 227 3 (oIs nS6 (oAl nG2 (oCv 24 306 0 (oIl nG5 (oIc cEq gEq B28_1123 oNone)))))))))))))))))))))))))))))))))))))))))
noncomputable def B28_1060 : rP := (oGo B28_2344)
noncomputable def B28_1043 : rP := (oIl nG5 (oIf zNe yNe B28_1060 oNone))
noncomputable def B28_995 : rP := (oAl nG1 (oAl nG0 (oIl nG4 (oPsh (vI 1) (oBin fAdd xN gAdd (oIal (oAl nG0 (oIl nG4 (oPsh (vI 2) (oBin fAdd xN gAdd (oIal (oAl nG3 (oCs 32 4 (oIs nS5 (oAl nG2 (oAl nG0 (oIl nG4 (oPsh (vI 1) (oBin fAdd xN gAdd (oIal (oAl nG0 (oIl nG4 (oPsh (vI 2) (oBin fAdd xN gAdd (oIal (oCv 24 274 2 (oIs nS6 (oAl nG2 (oCv 24 306 0 (oIl nG5 (oIc cEq gEq B28_1043 oNone)))))))))))))))))))))))))))))))
noncomputable def B28_992 : rP := (oGo B28_2344)
noncomputable def B28_975 : rP := (oIl nG5 (oIf zNe yNe B28_992 oNone))
noncomputable def B28_927 : rP := (oAl nG1 (oAl nG0 (oIl nG4 (oPsh (vI 1) (oBin fAdd xN gAdd (oIal (oAl nG0 (oIl nG4 (oPsh (vI 2) (oBin fAdd xN gAdd (oIal (oAl nG3 (oCs 41 4 (oIs nS5 (oAl nG2 (oAl nG0 (oIl nG4 (oPsh (vI 1) (oBin fAdd xN gAdd (oIal (oAl nG0 (oIl nG4 (oPsh (vI 2) (oBin fAdd xN gAdd (oIal (oCv 24 294 2 (oIs nS6 (oAl nG2 (oCv 24 306 0 (oIl nG5 (oIc cEq gEq B28_975 oNone)))))))))))))))))))))))))))))))
noncomputable def B28_924 : rP := (oGo B28_2344)
noncomputable def B28_907 : rP := (oIl nG5 (oIf zNe yNe B28_924 oNone))
noncomputable def B28_847 : rP := (oAl nG1 (oAl nG0 (oIl nG4 (oPsh (vI 1) (oBin fAdd xN gAdd (oIal (oAl nG0 (oIl nG4 (oPsh (vI 2) (oBin fAdd xN gAdd (oIal (oAl nG0 (oIl nG4 (oPsh (vI 3) (oBin fAdd xN gAdd (oIal (oAl nG3 (oCs 50 5 (oIs nS5 (oAl nG2 (oAl nG0 (oIl nG4 (oPsh (vI 1) (oBin fAdd xN gAdd (oIal (oAl nG0 (oIl nG4 (oPsh (vI 2) (oBin fAdd xN gAdd (oIal (oAl nG0 (oIl nG4 (oPsh (vI 3) (oBin fAdd xN gAdd (oIal (oCv 24 311 3 (oIs nS6 (oAl nG2 (oCv 24 306 0 (oIl nG5 (oIc cEq gEq B28_907 oNone)))))))))))))))))))))))))))))))))))))))))
noncomputable def B28_844 : rP := (oGo B28_2344)
noncomputable def B28_827 : rP := (oIl nG5 (oIf zNe yNe B28_844 oNone))
noncomputable def B28_779 : rP := (oAl nG1 (oAl nG0 (oIl nG4 (oPsh (vI 1) (oBin fAdd xN gAdd (oIal (oAl nG0 (oIl nG4 (oPsh (vI 2) (oBin fAdd xN gAdd (oIal (oAl nG3 (oCs 26 4 (oIs nS5 (oAl nG2 (oAl nG0 (oIl nG4 (oPsh (vI 1) (oBin fAdd xN gAdd (oIal (oAl nG0 (oIl nG4 (oPsh (vI 2) (oBin fAdd xN gAdd (oIal (oCv 24 246 2 (oIs nS6 (oAl nG2 (oCv 24 306 0 (oIl nG5 (oIc cEq gEq B28_827 oNone)))))))))))))))))))))))))))))))
noncomputable def B28_776 : rP := (oGo B28_2344)
noncomputable def B28_759 : rP := (oIl nG5 (oIf zNe yNe B28_776 oNone))
noncomputable def B28_675 : rP := (oAl nG1 (oAl nG0 (oIl nG4 (oPsh (vI 1) (oBin fAdd xN gAdd (oIal (oAl nG0 (oIl nG4 (oPsh (vI 2) (oBin fAdd xN gAdd (oIal (oAl nG0 (oIl nG4 (oPsh (vI 3) (oBin fAdd xN gAdd (oIal (oAl nG0 (oIl nG4 (oPsh (vI 4) (oBin fAdd xN gAdd (oIal (oAl nG0 (oIl nG4 (oPsh (vI 5) (oBin fAdd xN gAdd (oIal (oAl nG3 (oCs 19 7 (oIs nS5 (oAl nG2 (oAl nG0 (oIl nG4 (oPsh (vI 1) (oBin fAdd xN gAdd (oIal (oAl nG0 (oIl nG4 (oPsh (vI 2) (oBin fAdd xN gAdd (oIal (oAl nG0 (oIl nG4 (oPsh (vI 3) (oBin fAdd xN gAdd (oIal (oAl nG0 (oIl nG4 (oPsh (vI 4) (oBin fAdd xN gAdd (oIal (oAl nG0 (oIl nG4 (oPsh (vI 5) (oBin fAdd xN gAdd (oIal (oCv 24 222 5 (oIs nS6 (oAl nG2 (oCv 24 306 0 (oIl nG5 (oIc cEq gEq B28_759 oNone)))))))))))))))))))))))))))))))))))))))))))))))))))))))))))))
noncomputable def B28_672 : rP := (oGo B28_2344)
noncomputable def B28_655 : rP := (oIl nG5 (oIf zNe yNe B28_672 (oAl nG3 (oPsh (vI 0) (oAld 5 vL (oIl nG6 (oI2l (oLcmp fLcmp (oIf zEq yEq B28_672 oNone)))))))))
noncomputable def B28_631 : rP := (oAl nG1 (oAl nG3 (oCs 33 2 (oIs nS5 (oAl nG2 (oCv 24 275 0 (oIs nS6 (oAl nG2 (oCv 24 306 0 (oIl nG5 (oIc cEq gEq B28_655 oNone)))))))))))
noncomputable def B28_628 : rP := (oGo B28_2344)
noncomputable def B28_611 : rP := (oIl nG5 (oIf zNe yNe B28_628 (oAl nG3 (oPsh (vI 0) (oAld 5 vL (oIl nG6 (oI2l (oLcmp fLcmp (oIf zEq yEq B28_628 oNone)))))))))
noncomputable def B28_563 : rP := (oAl nG1 (oAl nG0 (oIl nG4 (oPsh (vI 1) (oBin fAdd xN gAdd (oIal (oAl nG0 (oIl nG4 (oPsh (vI 2) (oBin fAdd xN gAdd (oIal (oAl nG3 (oCs 22 4 (oIs nS5 (oAl nG2 (oAl nG0 (oIl nG4 (oPsh (vI 1) (oBin fAdd xN gAdd (oIal (oAl nG0 (oIl nG4 (oPsh (vI 2) (oBin fAdd xN gAdd (oIal (oCv 24 226 2 (oIs nS6 (oAl nG2 (oCv 24 306 0 (oIl nG5 (oIc cEq gEq B28_611 oNone)))))))))))))))))))))))))))))))
noncomputable def B28_560 : rP := (oGo B28_2344)
noncomputable def B28_543 : rP := (oIl nG5 (oIf zNe yNe B28_560 (oAl nG3 (oPsh (vI 0) (oAld 5 vL (oIl nG6 (oI2l (oLcmp fLcmp (oIf zEq yEq B28_560 oNone)))))))))
noncomputable def B28_495 : rP := (oAl nG1 (oAl nG0 (oIl nG4 (oPsh (vI 1) (oBin fAdd xN gAdd (oIal (oAl nG0 (oIl nG4 (oPsh (vI 2) (oBin fAdd xN gAdd (oIal (oAl nG3 (oCs 28 4 (oIs nS5 (oAl nG2 (oAl nG0 (oIl nG4 (oPsh (vI 1) (oBin fAdd xN gAdd (oIal (oAl nG0 (oIl nG4 (oPsh (vI 2) (oBin fAdd xN gAdd (oIal (oCv 24 249 2 (oIs nS6 (oAl nG2 (oCv 24 306 0 (oIl nG5 (oIc cEq gEq B28_543 oNone)))))))))))))))))))))))))))))))
noncomputable def B28_492 : rP := (oGo B28_2344)
noncomputable def B28_486 : rP := (oLcmp fLcmp (oIf zEq yEq B28_492 oNone))
noncomputable def B28_485 : rP := (oPsh (vL 0) B28_486)
noncomputable def B28_468 : rP := (oIl nG5 (oIf zNe yNe B28_492 (oAl nG3 (oPsh (vI 0) (oAld 5 vL (oIl nG6 (oIf zEq yEq B28_485 (oPsh (vL 1) (oGo B28_486)))))))))
noncomputable def B28_420 : rP := (oAl nG1 (oAl nG0 (oIl nG4 (oPsh (vI 1) (oBin fAdd xN gAdd (oIal (oAl nG0 (oIl nG4 (oPsh (vI 2) (oBin fAdd xN gAdd (oIal (oAl nG3 (oCs 27 4 (oIs nS5 (oAl nG2 (oAl nG0 (oIl nG4 (oPsh (vI 1) (oBin fAdd xN gAdd (oIal (oAl nG0 (oIl nG4 (oPsh (vI 2) (oBin fAdd xN gAdd (oIal (oCv 24 247 2 (oIs nS6 (oAl nG2 (oCv 24 306 0 (oIl nG5 (oIc cEq gEq B28_468 oNone)))))))))))))))))))))))))))))))
noncomputable def B28_417 : rP := (oGo B28_2344)
noncomputable def B28_400 : rP := (oIl nG5 (oIf zNe yNe B28_417 (oAl nG3 (oPsh (vI 0) (oAld 5 vL (oIl nG6 (oI2l (oLcmp fLcmp (oIf zEq yEq B28_417 oNone)))))))))
noncomputable def B28_340 : rP := (oAl nG1 (oAl nG0 (oIl nG4 (oPsh (vI 1) (oBin fAdd xN gAdd (oIal (oAl nG0 (oIl nG4 (oPsh (vI 2) (oBin fAdd xN gAdd (oIal (oAl nG0 (oIl nG4 (oPsh (vI 3) (oBin fAdd xN gAdd (oIal (oAl nG3 (oCs 37 5 (oIs nS5 (oAl nG2 (oAl nG0 (oIl nG4 (oPsh (vI 1) (oBin fAdd xN gAdd (oIal (oAl nG0 (oIl nG4 (oPsh (vI 2) (oBin fAdd xN gAdd (oIal (oAl nG0 (oIl nG4 (oPsh (vI 3) (oBin fAdd xN gAdd (oIal (oCv 24 286 3 (oIs nS6 (oAl nG2 (oCv 24 306 0 (oIl nG5 (oIc cEq gEq B28_400 oNone)))))))))))))))))))))))))))))))))))))))))
noncomputable def B28_337 : rP := (oGo B28_2344)
noncomputable def B28_320 : rP := (oIl nG5 (oIf zNe yNe B28_337 (oAl nG3 (oPsh (vI 0) (oAld 5 vL (oIl nG6 (oI2l (oLcmp fLcmp (oIf zEq yEq B28_337 oNone)))))))))
noncomputable def B28_272 : rP := (oAl nG1 (oAl nG0 (oIl nG4 (oPsh (vI 1) (oBin fAdd xN gAdd (oIal (oAl nG0 (oIl nG4 (oPsh (vI 2) (oBin fAdd xN gAdd (oIal (oAl nG3 (oCs 39 4 (oIs nS5 (oAl nG2 (oAl nG0 (oIl nG4 (oPsh (vI 1) (oBin fAdd xN gAdd (oIal (oAl nG0 (oIl nG4 (oPsh (vI 2) (oBin fAdd xN gAdd (oIal (oCv 24 290 2 (oIs nS6 (oAl nG2 (oCv 24 306 0 (oIl nG5 (oIc cEq gEq B28_320 oNone)))))))))))))))))))))))))))))))
noncomputable def B28_269 : rP := (oGo B28_2344)
noncomputable def B28_252 : rP := (oIl nG5 (oIf zNe yNe B28_269 (oAl nG3 (oPsh (vI 0) (oAld 5 vL (oIl nG6 (oI2l (oLcmp fLcmp (oIf zEq yEq B28_269 oNone)))))))))
noncomputable def B28_192 : rP := (oAl nG1 (oAl nG0 (oIl nG4 (oPsh (vI 1) (oBin fAdd xN gAdd (oIal (oAl nG0 (oIl nG4 (oPsh (vI 2) (oBin fAdd xN gAdd (oIal (oAl nG0 (oIl nG4 (oPsh (vI 3) (oBin fAdd xN gAdd (oIal (oAl nG3 (oCs 34 5 (oIs nS5 (oAl nG2 (oAl nG0 (oIl nG4 (oPsh (vI 1) (oBin fAdd xN gAdd (oIal (oAl nG0 (oIl nG4 (oPsh (vI 2) (oBin fAdd xN gAdd (oIal (oAl nG0 (oIl nG4 (oPsh (vI 3) (oBin fAdd xN gAdd (oIal (oCv 24 277 3 (oIs nS6 (oAl nG2 (oCv 24 306 0 (oIl nG5 (oIc cEq gEq B28_252 oNone)))))))))))))))))))))))))))))))))))))))))
noncomputable def B28_23 : rP := (oIl nG4 (oAl nG0 (oLen (oPsh (vI 6) (oBin fSub xN xN (oIc cGt gGt B28_2350 (oAl nG0 (oIl nG4 (oIal (oPsh (vI 63) (oBin fAnd gAnd xN (oTsw [B28_192, B28_272, B28_340, B28_420, B28_495, B28_563, B28_631, B28_675, B28_779, B28_847, B28_927, B28_995, B28_1063, B28_1143, B28_1223, B28_1267, B28_1347, B28_1391, B28_1447, B28_1460, B28_1504, B28_1584, B28_1652, B28_1708, B28_1776, B28_1844, B28_1936, B28_1949, B28_2029, B28_2085, B28_2141, B28_2182, B28_2262, B28_2330] 34 B28_2344))))))))))))
noncomputable def B28_0 : rP := (oEnt 9 (oNew 2 13 (oDup (oCi 84 0 (oAs nS1 (oNew 24 10 (oDup (oCi 251 0 (oAs nS2 (oPsh (vI 1) (oNwa 5 (oAs nS3 (oPsh (vI 0) (oIs nS4 (oJb 30)))))))))))))))
noncomputable def B29_13 : rP := (oAs nS4 (oPsh (vI 1) (oRi 4294967296)))
noncomputable def B29_0 : rP := (oEnt 5 (oAl nG3 (oPsh (vI 0) (oAl nG0 (oIl nG1 (oIl nG2 (oCh 2 96 2 (fun e => rNth [oNone, oNone, B29_13, oNone] e oNone) oNone)))))))
noncomputable def B30_13 : rP := (oAs nS4 (oPsh (vI 1) (oRi 4294967296)))
noncomputable def B30_0 : rP := (oEnt 5 (oAl nG3 (oPsh (vI 0) (oAl nG0 (oIl nG1 (oIl nG2 (oCh 2 98 2 (fun e => rNth [oNone, oNone, B30_13, oNone] e oNone) oNone)))))))
noncomputable def B31_14 : rP := (oPsh (vI 0) (oRi 4294967296))
noncomputable def B31_0 : rP := (oEnt 3 (oAl nG1 (oPsh (vI 0) (oAl nG0 (oCh 2 99 0 (fun e => rNth [oNone, oNone, oNone, oNone] e oNone) (oI2l (oAst 5 1 (oGo B31_14))))))))
noncomputable def B32_23 : rP := (oPsh (vI 0) (oRi 4294967296))
noncomputable def B32_15 : rP := (oAs nS5 (oPsh (vI 1) (oRi 4294967296)))
noncomputable def B32_0 : rP := (oEnt 6 (oAl nG4 (oPsh (vI 0) (oAl nG0 (oIl nG1 (oIl nG2 (oIl nG3 (oCh 2 100 3 (fun e => rNth [B32_15, oNone, oNone, oNone] e oNone) (oI2l (oAst 5 1 (oGo B32_23)))))))))))
noncomputable def B33_15 : rP := (oPsh (vI 0) (oRi 4294967296))
noncomputable def B33_12 : rP := (oAs nS3 (oPsh (vI 1) (oRi 4294967296)))
noncomputable def B33_0 : rP := (oEnt 4 (oAl nG2 (oPsh (vI 0) (oAl nG0 (oIl nG1 (oCh 2 101 1 (fun e => rNth [B33_12, oNone, oNone, oNone] e oNone) (oI2l (oAst 5 1 (oGo B33_15)))))))))
noncomputable def B34_12 : rP := (oAs nS3 (oPsh (vI 1) (oRi 4294967296)))
noncomputable def B34_0 : rP := (oEnt 4 (oAl nG2 (oPsh (vI 0) (oAl nG0 (oIl nG1 (oCh 2 104 1 (fun e => rNth [oNone, oNone, B34_12, oNone] e oNone) oNone))))))
noncomputable def B35_19 : rP := (oPsh (vI 0) (oRi 4294967296))
noncomputable def B35_15 : rP := (oAs nS5 (oPsh (vI 1) (oRi 4294967296)))
noncomputable def B35_0 : rP := (oEnt 6 (oAl nG4 (oPsh (vI 0) (oAl nG0 (oIl nG1 (oIl nG2 (oIl nG3 (oCh 2 114 3 (fun e => rNth [oNone, oNone, B35_15, oNone] e oNone) (oI2l (oAst 5 1 (oGo B35_19)))))))))))
noncomputable def B36_21 : rP := (oPsh (vI 0) (oRi 4294967296))
noncomputable def B36_13 : rP := (oAs nS4 (oPsh (vI 1) (oRi 4294967296)))
noncomputable def B36_0 : rP := (oEnt 5 (oAl nG3 (oPsh (vI 0) (oAl nG0 (oIl nG1 (oIl nG2 (oCh 2 115 2 (fun e => rNth [oNone, oNone, B36_13, oNone] e oNone) (oI2l (oAst 5 1 (oGo B36_21))))))))))
noncomputable def B37_21 : rP := (oPsh (vI 0) (oRi 4294967296))
noncomputable def B37_17 : rP := (oAs nS4 (oPsh (vI 2) (oRi 4294967296)))
noncomputable def B37_13 : rP := (oAs nS4 (oPsh (vI 1) (oRi 4294967296)))
noncomputable def B37_0 : rP := (oEnt 5 (oAl nG3 (oPsh (vI 0) (oAl nG0 (oIl nG1 (oIl nG2 (oCh 2 118 2 (fun e => rNth [B37_17, oNone, B37_13, oNone] e oNone) (oI2l (oAst 5 1 (oGo B37_21))))))))))
noncomputable def B38_14 : rP := (oPsh (vI 0) (oRi 4294967296))
noncomputable def B38_0 : rP := (oEnt 3 (oAl nG1 (oPsh (vI 0) (oAl nG0 (oCh 2 119 0 (fun e => rNth [oNone, oNone, oNone, oNone] e oNone) (oI2l (oAst 5 1 (oGo B38_14))))))))
noncomputable def B39_13 : rP := (oAs nS4 (oPsh (vI 1) (oRi 4294967296)))
noncomputable def B39_0 : rP := (oEnt 5 (oAl nG3 (oPsh (vI 0) (oAl nG0 (oIl nG1 (oIl nG2 (oCh 2 120 2 (fun e => rNth [oNone, oNone, B39_13, oNone] e oNone) oNone)))))))
noncomputable def B40_21 : rP := (oPsh (vI 0) (oRi 4294967296))
noncomputable def B40_17 : rP := (oAs nS4 (oPsh (vI 2) (oRi 4294967296)))
noncomputable def B40_13 : rP := (oAs nS4 (oPsh (vI 1) (oRi 4294967296)))
noncomputable def B40_0 : rP := (oEnt 5 (oAl nG3 (oPsh (vI 0) (oAl nG0 (oIl nG1 (oIl nG2 (oCh 2 122 2 (fun e => rNth [B40_17, oNone, B40_13, oNone] e oNone) (oI2l (oAst 5 1 (oGo B40_21))))))))))
noncomputable def B41_15 : rP := (oPsh (vI 0) (oRi 4294967296))
noncomputable def B41_12 : rP := (oAs nS3 (oPsh (vI 1) (oRi 4294967296)))
noncomputable def B41_0 : rP := (oEnt 4 (oAl nG2 (oPsh (vI 0) (oAl nG0 (oIl nG1 (oCh 2 124 1 (fun e => rNth [oNone, oNone, B41_12, oNone] e oNone) (oI2l (oAst 5 1 (oGo B41_15)))))))))
noncomputable def B42_23 : rP := (oPsh (vI 0) (oRi 4294967296))
noncomputable def B42_19 : rP := (oAs nS5 (oPsh (vI 2) (oRi 4294967296)))
noncomputable def B42_15 : rP := (oAs nS5 (oPsh (vI 1) (oRi 4294967296)))
noncomputable def B42_0 : rP := (oEnt 6 (oAl nG4 (oPsh (vI 0) (oAl nG0 (oIl nG1 (oIl nG2 (oIl nG3 (oCh 2 125 3 (fun e => rNth [B42_19, oNone, B42_15, oNone] e oNone) (oI2l (oAst 5 1 (oGo B42_23)))))))))))
noncomputable def B43_25 : rP := (oPsh (vI 0) (oRi 4294967296))
noncomputable def B43_17 : rP := (oAs nS6 (oPsh (vI 1) (oRi 4294967296)))
noncomputable def B43_0 : rP := (oEnt 7 (oAl nG5 (oPsh (vI 0) (oAl nG0 (oIl nG1 (oIl nG2 (oIl nG3 (oIl nG4 (oCh 2 127 4 (fun e => rNth [B43_17, oNone, oNone, oNone] e oNone) (oI2l (oAst 5 1 (oGo B43_25))))))))))))
noncomputable def B44_15 : rP := (oAs nS5 (oPsh (vI 1) (oRi 4294967296)))
noncomputable def B44_0 : rP := (oEnt 6 (oAl nG4 (oPsh (vI 0) (oAl nG0 (oIl nG1 (oIl nG2 (oIl nG3 (oCh 2 128 3 (fun e => rNth [oNone, oNone, B44_15, oNone] e oNone) oNone))))))))
noncomputable def B45_11 : rP := (oAs nS2 (oPsh (vI 1) (oRi 4294967296)))
noncomputable def B45_0 : rP := (oEnt 3 (oAl nG1 (oPsh (vI 0) (oAl nG0 (oCh 2 129 0 (fun e => rNth [oNone, B45_11, oNone, oNone] e oNone) oNone)))))
noncomputable def B46_13 : rP := (oAs nS4 (oPsh (vI 1) (oRi 4294967296)))
noncomputable def B46_0 : rP := (oEnt 5 (oAl nG3 (oPsh (vI 0) (oAl nG0 (oIl nG1 (oIl nG2 (oCh 2 130 2 (fun e => rNth [oNone, oNone, B46_13, oNone] e oNone) oNone)))))))
noncomputable def B47_19 : rP := (oPsh (vI 0) (oRi 4294967296))
noncomputable def B47_15 : rP := (oAs nS5 (oPsh (vI 1) (oRi 4294967296)))
noncomputable def B47_0 : rP := (oEnt 6 (oAl nG4 (oPsh (vI 0) (oAl nG0 (oIl nG1 (oIl nG2 (oIl nG3 (oCh 2 131 3 (fun e => rNth [B47_15, oNone, oNone, oNone] e oNone) (oI2l (oAst 5 1 (oGo B47_19)))))))))))
noncomputable def B48_15 : rP := (oAs nS5 (oPsh (vI 1) (oRi 4294967296)))
noncomputable def B48_0 : rP := (oEnt 6 (oAl nG4 (oPsh (vI 0) (oAl nG0 (oIl nG1 (oIl nG2 (oIl nG3 (oCh 2 132 3 (fun e => rNth [oNone, oNone, B48_15, oNone] e oNone) oNone))))))))
noncomputable def B49_35 : rP := (oAl nG0 (oPsh (vI 0) (oPf 4 0 0 (oAl nG0 (oLl nG1 (oCv 4 64 1 (oPop oRv)))))))
noncomputable def B49_0 : rP := (oEnt 3 (oAl nG0 (oDup (oGf 4 5 vI (oAl nG0 (oGf 4 0 vI (oBin fAdd xN gAdd (oPf 4 5 0 (oAl nG0 (oGf 4 5 vI (oPsh (vI 1073741824) (oIc cLe gLe B49_35 oNone))))))))))))
noncomputable def B50_0 : rP := (oEnt 1 (oAl nG0 (oOi (oAl nG0 (oPsh (vI 10240) (oNwa 5 (oPf 4 1 2 (oAl nG0 (oPsh (vI 10240) (oNwa 3 (oPf 4 2 2 (oAl nG0 (oPsh (vI 40960) (oNwa 1 (oPf 4 3 2 (oAl nG0 (oPsh (vI 16384) (oNwa 1 (oPf 4 4 2 (oAl nG0 (oPsh (vI 10240) (oNwa 1 (oPf 4 6 2 (oAl nG0 (oPsh (vI 10240) (oNwa 1 (oPf 4 7 2 (oAl nG0 (oPsh (vI 10) (oNwa 1 (oPf 4 8 2 (oAl nG0 (oPsh (vI 10) (oNwa 1 (oPf 4 9 2 (oAl nG0 (oPsh (vI 10) (oNwa 1 (oPf 4 10 2 (oAl nG0 (oPsh (vI 10) (oNwa 1 (oPf 4 11 2 oRv)))))))))))))))))))))))))))))))))))))))))))
noncomputable def B51_172 : rP := (oAl nG1 (oIl nG2 (oPf 8 0 0 (oAl nG1 (oIl nG3 (oPf 8 1 0 oRv))))))
noncomputable def B51_166 : rP := (oInc nG4 nS4 1 (oGo (oJb 54)))
noncomputable def B51_141 : rP := (oAl nG1 (oGf 8 2 vR (oIl nG4 (oPsh (vI 4) (oBin fMul xN xN (oIl nG6 (oBin fAdd xN gAdd (oAl nG0 (oGf 4 11 vR (oIl nG7 (oIal (oAst 1 0 (oInc nG6 nS6 1 (oGo (oJb 55)))))))))))))))
noncomputable def B51_86 : rP := (oIl nG6 (oPsh (vI 4) (oIc cGe gGe B51_166 (oAl nG0 (oGf 4 6 vR (oAl nG0 (oGf 4 3 vR (oIl nG5 (oPsh (vI 4) (oBin fMul xN xN (oIl nG6 (oBin fAdd xN gAdd (oIal (oIal (oIs nS7 (oAl nG0 (oGf 4 11 vR (oIl nG7 (oIal (oPsh (vI 4294967295) (oIc cNe gNe B51_141 (oAl nG0 (oGf 4 11 vR (oIl nG7 (oIl nG2 (oAst 1 0 (oAl nG0 (oGf 4 10 vR (oIl nG2 (oIl nG7 (oAst 1 0 (oInc nG2 nS2 1 B51_141))))))))))))))))))))))))))))))))
noncomputable def B51_83 : rP := (oPsh (vI 0) (oIs nS6 B51_86))
noncomputable def B51_39 : rP := (oIl nG4 (oIl nG2 (oIc cGe gGe B51_172 (oIl nG4 (oPsh (vI 10) (oIc cGe gGe B51_172 (oAl nG0 (oGf 4 9 vR (oAl nG0 (oGf 4 10 vR (oIl nG4 (oIal (oIal (oIs nS5 (oAl nG0 (oGf 4 2 vR (oIl nG5 (oAld 3 vI (oIf zEq yEq B51_83 (oIl nG3 (oPsh (vI 1) (oIl nG4 (oBin fShl xN xN (oBin fOr xN xN (oIs nS3 B51_83)))))))))))))))))))))))))
noncomputable def B51_0 : rP := (oEnt 8 (oAl nG0 (oGf 4 11 vR (oPsh (vI 4294967295) (oCs 3 2 (oAl nG0 (oGf 4 10 vR (oPsh (vI 0) (oAl nG0 (oGf 4 6 vR (oPsh (vI 0) (oIal (oAst 1 0 (oAl nG0 (oGf 4 11 vR (oAl nG0 (oGf 4 6 vR (oPsh (vI 0) (oIal (oPsh (vI 0) (oAst 1 0 (oPsh (vI 1) (oIs nS2 (oPsh (vI 0) (oIs nS3 (oPsh (vI 0) (oIs nS4 B51_39)))))))))))))))))))))))))))
noncomputable def B52_74 : rP := (oIl nG4 (oIs nS2 (oInc nG3 nS3 1 (oGo (oJb 58)))))
noncomputable def B52_61 : rP := (oIl nG4 (oIl nG2 (oIc cNe gNe B52_74 (oAl nG0 (oAl nG1 (oCv 4 53 1 (oPsh (vI 1) (oRi 2))))))))
noncomputable def B52_40 : rP := (oIl nG3 (oPsh (vI 10) (oIc cGt gGt oNone (oAl nG0 (oCv 4 61 0 (oIs nS4 (oIl nG4 (oPsh (vI 10) (oIc cLe gLe B52_61 oNone)))))))))
noncomputable def B52_36 : rP := (oPsh (vI 0) (oIs nS2 (oPsh (vI 0) (oIs nS3 B52_40))))
noncomputable def B52_29 : rP := (oAst 1 0 (oInc nG2 nS2 1 (oGo (oJb 57))))
noncomputable def B52_28 : rP := (oPsh (vI 0) B52_29)
noncomputable def B52_2 : rP := (oIl nG2 (oAl nG0 (oGf 4 0 vI (oIc cGe gGe B52_36 (oAl nG0 (oGf 4 6 vR (oIl nG2 (oAl nG0 (oGf 4 2 vR (oIl nG2 (oAld 3 vI (oIf zEq yEq B52_28 (oPsh (vI 1) (oGo B52_29))))))))))))))
noncomputable def B52_0 : rP := (oEnt 5 (oPsh (vI 0) (oIs nS2 B52_2)))
noncomputable def B53_40 : rP := (oIl nG2 (oRi 4294967296))
noncomputable def B53_9 : rP := (oIl nG3 (oPsh (vI 4) (oIc cGe gGe B53_40 (oIl nG2 (oPsh (vI 4) (oBin fShl xN xN (oAl nG0 (oGf 4 6 vR (oAl nG0 (oGf 4 3 vR (oIl nG1 (oPsh (vI 4) (oBin fMul xN xN (oIl nG3 (oBin fAdd xN gAdd (oIal (oIal (oBin fOr xN xN (oIs nS2 (oInc nG3 nS3 1 (oGo (oJb 60))))))))))))))))))))))
noncomputable def B53_0 : rP := (oEnt 4 (oAl nG0 (oGf 4 6 vR (oIl nG1 (oIal (oIs nS2 (oPsh (vI 0) (oIs nS3 B53_9))))))))
noncomputable def B54_93 : rP := (oAl nG0 (oGf 4 6 vR (oAs nS2 (oAl nG0 (oAl nG0 (oGf 4 7 vR (oPf 4 6 2 (oAl nG0 (oAl nG2 (oPf 4 7 2 (oIl nG1 (oRi 4294967296))))))))))))
noncomputable def B54_79 : rP := (oAl nG0 (oGf 4 7 vR (oIl nG2 (oIl nG4 (oAst 1 0 (oInc nG2 nS2 1 (oGo (oJb 62))))))))
noncomputable def B54_54 : rP := (oIl nG4 (oIl nG1 (oIc cNe gNe B54_79 (oAl nG0 (oGf 4 8 vR (oIl nG4 (oIl nG3 (oAst 1 0 (oAl nG0 (oGf 4 9 vR (oIl nG4 (oIl nG2 (oAst 1 0 (oInc nG1 nS1 1 B54_79))))))))))))))
noncomputable def B54_44 : rP := (oIl nG4 (oPsh (vI 10) (oIc cNe gNe B54_54 oNone)))
noncomputable def B54_21 : rP := (oIl nG4 (oIl nG1 (oIc cGe gGe B54_44 (oAl nG0 (oGf 4 8 vR (oIl nG4 (oIal (oIl nG3 (oIc cEq gEq B54_44 (oInc nG4 nS4 1 (oGo (oJb 63))))))))))))
noncomputable def B54_4 : rP := (oIl nG2 (oAl nG0 (oGf 4 0 vI (oIc cGe gGe B54_93 (oAl nG0 (oIl nG2 (oCv 4 59 1 (oIs nS3 (oPsh (vI 0) (oIs nS4 B54_21))))))))))
noncomputable def B54_0 : rP := (oEnt 5 (oPsh (vI 0) (oIs nS1 (oPsh (vI 0) (oIs nS2 B54_4)))))
noncomputable def B55_85 : rP := (oAl nG0 (oGf 4 1 vR (oAl nG0 (oGf 4 0 vI (oLl nG1 (oAst 5 1 (oAl nG0 (oDup (oGf 4 0 vI (oPsh (vI 1) (oBin fAdd xN gAdd (oPf 4 0 0 (oAl nG0 (oGf 4 4 vR (oIl nG3 (oAl nG0 (oGf 4 5 vI (oAl nG0 (oGf 4 0 vI (oBin fAdd xN gAdd (oAst 1 0 (oAl nG0 (oGf 4 0 vI (oPsh (vI 1) (oBin fSub xN xN (oRi 4294967296))))))))))))))))))))))))))
noncomputable def B55_73 : rP := (oAl nG0 (oGf 4 0 vI (oPsh (vI 10240) (oIc cLt gLt B55_85 oNone))))
noncomputable def B55_44 : rP := (oAl nG0 (oGf 4 1 vR (oIl nG5 (oAld 5 vL (oLl nG1 (oLcmp fLcmp (oIf zNe yNe oNone (oIl nG5 (oRi 4294967296)))))))))
noncomputable def B55_0 : rP := (oEnt 6 (oLl nG1 (oPsh (vL 11400714819323198485) (oBinL aT fLmul (oPsh (vI 50) (oShL fLush (oL2i (oIs nS3 (oPsh (vI 0) (oIs nS4 (oIl nG4 (oPsh (vI 16384) (oIc cGe gGe B55_73 (oAl nG0 (oGf 4 4 vR (oIl nG3 (oIal (oAl nG0 (oGf 4 5 vI (oBin fSub xN xN (oPsh (vI 1) (oBin fSub xN xN (oIs nS5 (oIl nG5 (oIf zGe yGe B55_44 (oGo B55_73))))))))))))))))))))))))))
noncomputable def B56_115 : rP := (oAl nG0 (oCv 2 69 0 (oRi 4294967296)))
noncomputable def B56_107 : rP := (oAl nG0 (oGf 2 12 vR (oGf 12 7 vI (oRi 4294967296))))
noncomputable def B56_99 : rP := (oAl nG0 (oGf 2 12 vR (oGf 12 0 vI (oRi 4294967296))))
noncomputable def B56_91 : rP := (oAl nG0 (oGf 2 11 vR (oGf 14 2 vI (oRi 4294967296))))
noncomputable def B56_83 : rP := (oAl nG0 (oGf 2 11 vR (oGf 14 0 vI (oRi 4294967296))))
noncomputable def B56_75 : rP := (oAl nG0 (oGf 2 9 vR (oCv 6 163 0 (oRi 4294967296))))
noncomputable def B56_67 : rP := (oAl nG0 (oGf 2 9 vR (oGf 6 2 vI (oRi 4294967296))))
noncomputable def B56_62 : rP := (oAl nG0 (oCv 2 67 0 (oRi 4294967296)))
noncomputable def B56_57 : rP := (oAl nG0 (oGf 2 3 vI (oRi 4294967296)))
noncomputable def B56_52 : rP := (oAl nG0 (oGf 2 1 vI (oRi 4294967296)))
noncomputable def B56_0 : rP := (oEnt 2 (oIl nG1 (oTsw [B56_52, B56_57, B56_62, B56_67, B56_75, B56_83, B56_91, B56_99, B56_107] 9 B56_115)))
noncomputable def B57_0 : rP := (oEnt 6 (oAl nG0 (oIl nG1 (oCv 2 89 1 (oIf zNe yNe oNone (oThr 2))))))
noncomputable def B58_30 : rP := (oIl nG1 (oRi 4294967296))
noncomputable def B58_0 : rP := (oEnt 3 (oPsh (vI 0) (oIs nS1 (oPsh (vI 0) (oIs nS2 (oIl nG2 (oAl nG0 (oGf 2 3 vI (oIc cGe gGe B58_30 oNone)))))))))
noncomputable def B59_15 : rP := (oThr 2)
noncomputable def B59_0 : rP := (oEnt 2 (oIl nG1 (oIf zLt yLt B59_15 (oIl nG1 (oAl nG0 (oGf 2 12 vR (oGf 12 0 vI (oIc cLt gLt oNone B59_15))))))))
noncomputable def B60_32 : rP := (oIl nG1 (oRi 4294967296))
noncomputable def B60_0 : rP := (oEnt 3 (oPsh (vI 0) (oIs nS1 (oPsh (vI 0) (oIs nS2 (oIl nG2 (oAl nG0 (oGf 2 12 vR (oGf 12 0 vI (oIc cGe gGe B60_32 oNone))))))))))
noncomputable def B61_15 : rP := (oThr 2)
noncomputable def B61_0 : rP := (oEnt 5 (oAl nG0 (oIl nG1 (oCv 2 90 1 (oIf zEq yEq B61_15 oNone)))))
noncomputable def B62_61 : rP := (oIl nG3 (oRi 4294967296))
noncomputable def B62_26 : rP := (oAl nG0 (oGf 2 7 vR (oAl nG0 (oGf 2 0 vR (oIl nG1 (oAal (oAl nG0 (oGf 2 0 vR (oIl nG2 (oAal (oCv 16 362 2 (oIs nS3 (oIl nG3 (oPsh (vI 4294967295) (oIc cNe gNe B62_61 oNone)))))))))))))))
noncomputable def B62_16 : rP := (oThr 2)
noncomputable def B62_0 : rP := (oEnt 4 (oAl nG0 (oIl nG1 (oCv 2 87 1 (oIf zEq yEq B62_16 (oAl nG0 (oIl nG2 (oCv 2 87 1 (oIf zNe yNe B62_26 B62_16)))))))))
noncomputable def B63_24 : rP := (oThr 2)
noncomputable def B63_0 : rP := (oEnt 5 (oAl nG0 (oIl nG1 (oCv 2 89 1 (oIf zEq yEq B63_24 oNone)))))
noncomputable def B64_190 : rP := (oAl nG0 (oGf 2 6 vR (oAl nG0 (oGf 2 0 vR (oIl nG2 (oAal (oAl nG0 (oGf 2 4 vR (oCv 20 407 2 (oRi 2))))))))))
noncomputable def B64_172 : rP := (oAl nG0 (oGf 2 6 vR (oAl nG0 (oGf 2 0 vR (oIl nG2 (oAal (oAl nG0 (oGf 2 4 vR (oCv 20 418 2 (oRi 2))))))))))
noncomputable def B64_154 : rP := (oAl nG0 (oGf 2 6 vR (oAl nG0 (oGf 2 0 vR (oIl nG2 (oAal (oAl nG0 (oGf 2 4 vR (oCv 20 415 2 (oRi 2))))))))))
noncomputable def B64_129 : rP := (oAl nG0 (oGf 2 6 vR (oAl nG0 (oGf 2 0 vR (oIl nG2 (oAal (oAl nG0 (oGf 2 0 vR (oIl nG3 (oAal (oIl nG1 (oAl nG0 (oGf 2 4 vR (oCv 20 404 4 (oRi 2)))))))))))))))
noncomputable def B64_105 : rP := (oAl nG0 (oGf 2 6 vR (oAl nG0 (oGf 2 0 vR (oIl nG2 (oAal (oAl nG0 (oGf 2 0 vR (oIl nG3 (oAal (oAl nG0 (oGf 2 4 vR (oCv 20 412 3 (oRi 2))))))))))))))
noncomputable def B64_96 : rP := (oAl nG0 (oGf 2 4 vR (oCv 8 317 0 (oPsh (vI 1) (oRi 2)))))
noncomputable def B64_86 : rP := (oAl nG0 (oGf 2 4 vR (oIl nG2 (oCv 8 319 1 (oPsh (vI 1) (oRi 2))))))
noncomputable def B64_77 : rP := (oAl nG0 (oGf 2 4 vR (oCv 8 318 0 (oPsh (vI 1) (oRi 2)))))
noncomputable def B64_68 : rP := (oAl nG0 (oGf 2 4 vR (oCv 8 320 0 (oPsh (vI 1) (oRi 2)))))
noncomputable def B64_0 : rP := (oEnt 4 (oIl nG1 (oTsw [B64_68, B64_77, B64_86, B64_96, B64_105, B64_129, B64_129, B64_129, B64_154, B64_172, B64_190, oNone, oNone] 13 oNone)))
noncomputable def B65_183 : rP := (oPsh (vI 0) (oRi 2))
noncomputable def B65_181 : rP := (oPsh (vI 0) (oRi 2))
noncomputable def B65_165 : rP := (oAl nG0 (oIl nG2 (oCv 2 89 1 (oIf zEq yEq B65_181 oNone))))
noncomputable def B65_163 : rP := (oPsh (vI 0) (oRi 2))
noncomputable def B65_143 : rP := (oAl nG0 (oIl nG2 (oCv 2 89 1 (oIf zEq yEq B65_163 oNone))))
noncomputable def B65_142 : rP := (oRi 2)
noncomputable def B65_141 : rP := (oPsh (vI 0) B65_142)
noncomputable def B65_125 : rP := (oAl nG0 (oIl nG2 (oCv 2 87 1 (oIf zEq yEq B65_141 (oIl nG3 (oIf zNe yNe B65_141 (oPsh (vI 1) (oGo B65_142))))))))
noncomputable def B65_124 : rP := (oRi 2)
noncomputable def B65_123 : rP := (oPsh (vI 0) B65_124)
noncomputable def B65_103 : rP := (oAl nG0 (oIl nG2 (oCv 2 87 1 (oIf zEq yEq B65_123 (oAl nG0 (oIl nG3 (oCv 2 87 1 (oIf zEq yEq B65_123 (oPsh (vI 1) (oGo B65_124))))))))))
noncomputable def B65_102 : rP := (oRi 2)
noncomputable def B65_101 : rP := (oPsh (vI 0) B65_102)
noncomputable def B65_86 : rP := (oIl nG2 (oCs 88 1 (oIf zEq yEq B65_101 (oIl nG3 (oIf zNe yNe B65_101 (oPsh (vI 1) (oGo B65_102)))))))
noncomputable def B65_85 : rP := (oRi 2)
noncomputable def B65_84 : rP := (oPsh (vI 0) B65_85)
noncomputable def B65_72 : rP := (oIl nG2 (oIf zNe yNe B65_84 (oIl nG3 (oIf zNe yNe B65_84 (oPsh (vI 1) (oGo B65_85))))))
noncomputable def B65_0 : rP := (oEnt 4 (oIl nG1 (oTsw [B65_72, B65_72, B65_86, B65_72, B65_103, B65_103, B65_103, B65_103, B65_125, B65_125, B65_125, B65_143, B65_143, B65_165] 14 B65_183)))
noncomputable def B66_0 : rP := (oEnt 2 (oAl nG0 (oGf 2 12 vR (oGf 12 0 vI (oIs nS1 (oAl nG0 (oGf 2 12 vR (oPsh (vI 0) (oPf 12 0 0 (oAl nG0 (oGf 2 12 vR (oCv 12 349 0 (oIl nG1 (oRi 4294967296))))))))))))))
noncomputable def B67_160 : rP := (oLl nG1 oRl)
noncomputable def B67_122 : rP := (oAl nG0 (oLl nG1 (oCv 2 110 1 (oLs nD1 (oPsh (vI 0) (oIs nS3 (oIl nG3 (oAl nG0 (oGf 2 12 vR (oGf 12 0 vI (oIc cGe gGe B67_160 oNone)))))))))))
noncomputable def B67_96 : rP := (oPsh (vI 0) (oIs nS3 (oIl nG3 (oAl nG0 (oGf 2 11 vR (oGf 14 0 vI (oIc cGe gGe B67_122 oNone)))))))
noncomputable def B67_68 : rP := (oIl nG3 (oPsh (vI 4) (oIc cGe gGe B67_96 (oLl nG1 (oPsh (vL 31) (oBinL aT fLmul (oAl nG0 (oGf 2 9 vR (oGf 6 7 vR (oIl nG3 (oIal (oI2l (oBinL aT fLadd (oLs nD1 (oInc nG3 nS3 1 (oGo (oJb 78)))))))))))))))))
noncomputable def B67_54 : rP := (oAl nG0 (oLl nG1 (oCv 2 105 1 (oLs nD1 (oAl nG0 (oLl nG1 (oCv 2 109 1 (oLs nD1 (oPsh (vI 0) (oIs nS3 B67_68))))))))))
noncomputable def B67_29 : rP := (oIl nG3 (oPsh (vI 9) (oIc cGt gGt B67_54 (oLl nG1 (oPsh (vL 31) (oBinL aT fLmul (oAl nG0 (oIl nG3 (oCv 2 65 1 (oI2l (oBinL aT fLadd (oLs nD1 (oInc nG3 nS3 1 (oGo (oJb 77)))))))))))))))
noncomputable def B67_0 : rP := (oEnt 4 (oAl nG0 (oGf 2 12 vR (oAl nG0 (oGf 2 0 vR (oAl nG0 (oGf 2 2 vR (oAl nG0 (oGf 2 6 vR (oCv 12 353 3 (oAl nG0 (oCv 2 123 0 (oPsh (vL 58152) (oLs nD1 (oPsh (vI 0) (oIs nS3 B67_29))))))))))))))))
noncomputable def B68_44 : rP := (oAl nG0 (oGf 2 9 vR (oIl nG1 (oIl nG2 (oIl nG3 (oCv 6 164 3 (oRi 4294967296)))))))
noncomputable def B68_34 : rP := (oThr 0)
noncomputable def B68_17 : rP := (oAl nG0 (oIl nG2 (oCv 2 87 1 (oIf zEq yEq B68_34 (oIl nG3 (oIf zLt yLt B68_34 (oIl nG3 (oPsh (vI 2) (oIc cLe gLe B68_44 B68_34)))))))))
noncomputable def B68_0 : rP := (oEnt 4 (oIl nG1 (oCs 93 1 (oIf zNe yNe B68_17 (oThr 2)))))
noncomputable def B69_21 : rP := (oAl nG0 (oGf 2 9 vR (oCv 6 160 0 (oRi 4294967296))))
noncomputable def B69_0 : rP := (oEnt 1 (oAl nG0 (oGf 2 9 vR (oGf 6 2 vI (oPsh (vI 4) (oIc cLt gLt B69_21 oNone))))))
noncomputable def B70_0 : rP := (oEnt 4 (oAl nG0 (oIl nG1 (oCv 2 89 1 (oIf zNe yNe oNone (oThr 2))))))
noncomputable def B71_35 : rP := (oAl nG0 (oGf 2 0 vR (oIl nG1 (oAal (oIl nG2 (oCv 8 321 1 (oRi 2)))))))
noncomputable def B71_18 : rP := (oIl nG2 (oCs 94 1 (oIf zNe yNe B71_35 (oThr 0))))
noncomputable def B71_0 : rP := (oEnt 3 (oAl nG0 (oIl nG1 (oCv 2 87 1 (oIf zNe yNe B71_18 (oThr 2))))))
noncomputable def B72_38 : rP := (oAl nG0 (oGf 2 0 vR (oIl nG1 (oAal (oIl nG2 (oAl nG0 (oGf 2 5 vR (oCv 8 335 2 (oRi 4294967296)))))))))
noncomputable def B72_28 : rP := (oThr 0)
noncomputable def B72_18 : rP := (oIl nG2 (oIf zLt yLt B72_28 (oIl nG2 (oPsh (vI 12) (oIc cLe gLe B72_38 B72_28)))))
noncomputable def B72_0 : rP := (oEnt 3 (oAl nG0 (oIl nG1 (oCv 2 87 1 (oIf zNe yNe B72_18 (oThr 2))))))
noncomputable def B73_172 : rP := (oAl nG0 (oGf 2 0 vR (oPsh (vI 1) (oAal (oCv 8 317 0 (oAl nG0 (oPsh (vI 2) (oPf 2 1 0 oRv))))))))
noncomputable def B73_147 : rP := (oIl nG1 (oPsh (vI 6) (oIc cGe gGe B73_172 (oAl nG0 (oGf 2 2 vR (oIl nG1 (oNew 10 6 (oDup (oCi 343 0 (oAas okAs (oInc nG1 nS1 1 (oGo (oJb 86)))))))))))))
noncomputable def B73_145 : rP := (oPsh (vI 0) (oIs nS1 B73_147))
noncomputable def B73_120 : rP := (oIl nG1 (oPsh (vI 40) (oIc cGe gGe B73_145 (oAl nG0 (oGf 2 0 vR (oIl nG1 (oNew 8 3 (oDup (oCi 323 0 (oAas okAs (oInc nG1 nS1 1 (oGo (oJb 85)))))))))))))
noncomputable def B73_0 : rP := (oEnt 2 (oAl nG0 (oOi (oAl nG0 (oPsh (vI 40) (oNwa 11 (oPf 2 0 2 (oAl nG0 (oPsh (vI 6) (oNwa 13 (oPf 2 2 2 (oAl nG0 (oNew 8 3 (oDup (oCi 323 0 (oPf 2 4 2 (oAl nG0 (oPsh (vI 20) (oNwa 1 (oPf 2 5 2 (oAl nG0 (oNew 20 1 (oDup (oCi 410 0 (oPf 2 6 2 (oAl nG0 (oNew 16 7 (oDup (oCi 359 0 (oPf 2 7 2 (oAl nG0 (oNew 22 1 (oDup (oCi 422 0 (oPf 2 8 2 (oAl nG0 (oNew 6 8 (oDup (oCi 161 0 (oPf 2 9 2 (oAl nG0 (oNew 18 11 (oDup (oCi 384 0 (oPf 2 10 2 (oAl nG0 (oNew 14 8 (oDup (oCi 356 0 (oPf 2 11 2 (oAl nG0 (oNew 12 12 (oDup (oCi 350 0 (oPf 2 12 2 (oPsh (vI 0) (oIs nS1 B73_120)))))))))))))))))))))))))))))))))))))))))))))))))))))))))
noncomputable def B74_17 : rP := (oRi 2)
noncomputable def B74_16 : rP := (oPsh (vI 0) B74_17)
noncomputable def B74_0 : rP := (oEnt 2 (oIl nG1 (oIf zLt yLt B74_16 (oIl nG1 (oAl nG0 (oGf 2 1 vI (oIc cGe gGe B74_16 (oPsh (vI 1) (oGo B74_17)))))))))
noncomputable def B75_14 : rP := (oRi 2)
noncomputable def B75_13 : rP := (oPsh (vI 0) B75_14)
noncomputable def B75_0 : rP := (oEnt 1 (oIl nG0 (oIf zLt yLt B75_13 (oIl nG0 (oPsh (vI 4) (oIc cGe gGe B75_13 (oPsh (vI 1) (oGo B75_14))))))))
noncomputable def B76_16 : rP := (oPsh (vI 0) (oRi 2))
noncomputable def B76_0 : rP := (oEnt 2 (oIl nG1 (oIf zLt yLt B76_16 (oIl nG1 (oAl nG0 (oGf 2 3 vI (oIc cGe gGe B76_16 oNone)))))))
noncomputable def B77_19 : rP := (oPsh (vI 0) (oRi 2))
noncomputable def B77_0 : rP := (oEnt 2 (oIl nG1 (oIf zLt yLt B77_19 (oIl nG1 (oAl nG0 (oGf 2 11 vR (oGf 14 0 vI (oIc cGe gGe B77_19 oNone))))))))
noncomputable def B78_180 : rP := (oPsh (vI 0) (oRi 2))
noncomputable def B78_179 : rP := (oRi 2)
noncomputable def B78_178 : rP := (oPsh (vI 0) B78_179)
noncomputable def B78_154 : rP := (oIl nG2 (oIf zNe yNe B78_178 (oIl nG3 (oIf zNe yNe B78_178 (oIl nG4 (oIf zLt yLt B78_178 (oIl nG4 (oPsh (vI 10) (oIc cGt gGt B78_178 (oPsh (vI 1) (oGo B78_179)))))))))))
noncomputable def B78_153 : rP := (oRi 2)
noncomputable def B78_152 : rP := (oPsh (vI 0) B78_153)
noncomputable def B78_121 : rP := (oIl nG2 (oCs 92 1 (oIf zEq yEq B78_152 (oAl nG0 (oIl nG3 (oCv 2 87 1 (oIf zEq yEq B78_152 (oIl nG4 (oIf zLt yLt B78_152 (oIl nG4 (oPsh (vI 10) (oIc cGt gGt B78_152 (oPsh (vI 1) (oGo B78_153))))))))))))))
noncomputable def B78_119 : rP := (oPsh (vI 0) (oRi 2))
noncomputable def B78_95 : rP := (oIl nG2 (oCs 92 1 (oIf zEq yEq B78_119 (oAl nG0 (oIl nG3 (oCv 2 89 1 (oIf zEq yEq B78_119 oNone)))))))
noncomputable def B78_94 : rP := (oRi 2)
noncomputable def B78_93 : rP := (oPsh (vI 0) B78_94)
noncomputable def B78_70 : rP := (oIl nG2 (oCs 92 1 (oIf zEq yEq B78_93 (oIl nG3 (oCs 92 1 (oIf zEq yEq B78_93 (oIl nG4 (oIf zNe yNe B78_93 (oPsh (vI 1) (oGo B78_94))))))))))
noncomputable def B78_69 : rP := (oRi 2)
noncomputable def B78_68 : rP := (oPsh (vI 0) B78_69)
noncomputable def B78_44 : rP := (oIl nG2 (oCs 92 1 (oIf zEq yEq B78_68 (oAl nG0 (oIl nG3 (oCv 2 87 1 (oIf zEq yEq B78_68 (oIl nG4 (oIf zNe yNe B78_68 (oPsh (vI 1) (oGo B78_69)))))))))))
noncomputable def B78_0 : rP := (oEnt 5 (oIl nG1 (oTsw [B78_44, B78_70, B78_70, B78_95, B78_121, B78_154, B78_44] 7 B78_180)))
noncomputable def B79_14 : rP := (oRi 2)
noncomputable def B79_13 : rP := (oPsh (vI 0) B79_14)
noncomputable def B79_0 : rP := (oEnt 1 (oIl nG0 (oIf zLt yLt B79_13 (oIl nG0 (oPsh (vI 3) (oIc cGe gGe B79_13 (oPsh (vI 1) (oGo B79_14))))))))
noncomputable def B80_14 : rP := (oRi 2)
noncomputable def B80_13 : rP := (oPsh (vI 0) B80_14)
noncomputable def B80_0 : rP := (oEnt 1 (oIl nG0 (oIf zLt yLt B80_13 (oIl nG0 (oPsh (vI 4) (oIc cGe gGe B80_13 (oPsh (vI 1) (oGo B80_14))))))))
noncomputable def B81_26 : rP := (oRi 2)
noncomputable def B81_25 : rP := (oPsh (vI 0) B81_26)
noncomputable def B81_0 : rP := (oEnt 1 (oIl nG0 (oIf zLe yLe B81_25 (oIl nG0 (oPsh (vI 2097152) (oIc cGe gGe B81_25 (oIl nG0 (oCs 2 1 (oPsh (vI 1) (oBin fAnd gAnd xN (oPsh (vI 1) (oIc cNe gNe B81_25 (oPsh (vI 1) (oGo B81_26))))))))))))))
noncomputable def B82_84 : rP := (oAl nG1 (oPsh (vI 15) (oCv 8 326 1 (oRi 4294967296))))
noncomputable def B82_83 : rP := (oRi 4294967296)
noncomputable def B82_79 : rP := (oAl nG1 (oCv 8 329 0 B82_83))
noncomputable def B82_68 : rP := (oAl nG1 (oCv 8 325 0 (oIf zEq yEq B82_79 (oPsh (vI 4294967295) (oGo B82_83)))))
noncomputable def B82_67 : rP := (oRi 4294967296)
noncomputable def B82_66 : rP := (oPsh (vI 0) B82_67)
noncomputable def B82_55 : rP := (oAl nG1 (oCv 8 325 0 (oIf zEq yEq B82_66 (oPsh (vI 1) (oGo B82_67)))))
noncomputable def B82_46 : rP := (oAl nG0 (oGf 2 7 vR (oAl nG1 (oCv 16 366 1 (oRi 4294967296)))))
noncomputable def B82_41 : rP := (oAl nG1 (oGf 8 1 vI (oRi 4294967296)))
noncomputable def B82_36 : rP := (oAl nG1 (oGf 8 0 vI (oRi 4294967296)))
noncomputable def B82_0 : rP := (oEnt 3 (oIl nG2 (oTsw [B82_36, B82_41, B82_46, B82_55, B82_68] 5 B82_84)))
noncomputable def B83_15 : rP := (oThr 2)
noncomputable def B83_0 : rP := (oEnt 3 (oAl nG0 (oIl nG1 (oCv 2 90 1 (oIf zEq yEq B83_15 oNone)))))
noncomputable def B84_0 : rP := (oEnt 1 (oPsh (vI 31) (oIl nG0 (oCs 2 1 (oBin fSub xN xN (oPsh (vI 2) (oDiv aDv fDiv gDiv (oRi 4294967296))))))))
noncomputable def B85_0 : rP := (oEnt 3 (oAl nG0 (oIl nG1 (oCv 2 89 1 (oIf zNe yNe oNone (oThr 2))))))
noncomputable def B86_19 : rP := (oAl nG0 (oDup (oGf 2 3 vI (oPsh (vI 1) (oBin fAdd xN gAdd (oPf 2 3 0 (oAl nG0 (oGf 2 3 vI (oPsh (vI 1) (oBin fSub xN xN (oRi 4294967296)))))))))))
noncomputable def B86_0 : rP := (oEnt 1 (oAl nG0 (oGf 2 3 vI (oPsh (vI 6) (oIc cLt gLt B86_19 oNone)))))
noncomputable def B87_101 : rP := (oIl nG4 (oRi 4294967296))
noncomputable def B87_71 : rP := (oAl nG0 (oGf 2 1 vI (oIs nS4 (oAl nG0 (oGf 2 0 vR (oIl nG4 (oAal (oAl nG0 (oGf 2 4 vR (oCv 8 334 1 (oAl nG0 (oDup (oGf 2 1 vI (oPsh (vI 1) (oBin fAdd xN gAdd (oPf 2 1 0 B87_101))))))))))))))))
noncomputable def B87_40 : rP := (oAl nG0 (oCv 2 116 0 (oIs nS4 (oIl nG4 (oPsh (vI 4294967295) (oIc cNe gNe B87_101 (oAl nG0 (oGf 2 1 vI (oPsh (vI 40) (oIc cLt gLt B87_71 oNone))))))))))
noncomputable def B87_20 : rP := (oAl nG0 (oIl nG1 (oIl nG2 (oIl nG3 (oCv 2 73 3 (oIf zNe yNe B87_40 oNone))))))
noncomputable def B87_0 : rP := (oEnt 5 (oAl nG0 (oIl nG1 (oIl nG2 (oIl nG3 (oCv 2 74 3 (oIf zNe yNe B87_20 (oThr 0))))))))
noncomputable def B88_46 : rP := (oAl nG0 (oIl nG1 (oCv 2 65 1 (oRi 4294967296))))
noncomputable def B88_21 : rP := (oIl nG1 (oPsh (vI 8) (oIc cLt gLt B88_46 (oAl nG0 (oGf 2 12 vR (oAl nG0 (oGf 2 0 vR (oAl nG0 (oGf 2 2 vR (oAl nG0 (oGf 2 6 vR (oCv 12 353 3 B88_46))))))))))))
noncomputable def B88_10 : rP := (oThr 0)
noncomputable def B88_0 : rP := (oEnt 2 (oIl nG1 (oIf zLt yLt B88_10 (oIl nG1 (oPsh (vI 9) (oIc cLe gLe B88_21 B88_10))))))
noncomputable def B89_30 : rP := (oIl nG1 (oI2d (oAl nG0 (oGf 2 1 vI (oI2d (oDdiv oRd))))))
noncomputable def B89_4 : rP := (oIl nG2 (oAl nG0 (oGf 2 1 vI (oIc cGe gGe B89_30 (oIl nG1 (oAl nG0 (oGf 2 0 vR (oIl nG2 (oAal (oGf 8 0 vI (oBin fAdd xN gAdd (oIs nS1 (oInc nG2 nS2 1 (oGo (oJb 103)))))))))))))))
noncomputable def B89_0 : rP := (oEnt 3 (oPsh (vI 0) (oIs nS1 (oPsh (vI 0) (oIs nS2 B89_4)))))
noncomputable def B90_0 : rP := (oEnt 2 (oAl nG0 (oIl nG1 (oCv 2 90 1 (oIf zNe yNe oNone (oThr 2))))))
noncomputable def B91_133 : rP := (oLl nG3 oRl)
noncomputable def B91_127 : rP := (oInc nG5 nS5 1 (oGo (oJb 106)))
noncomputable def B91_93 : rP := (oIl nG7 (oAl nG6 (oGf 8 0 vI (oPsh (vI 4) (oBin fMul xN xN (oIc cGe gGe B91_127 (oLl nG3 (oPsh (vL 31) (oBinL aT fLmul (oAl nG6 (oGf 8 2 vR (oIl nG7 (oIal (oI2l (oBinL aT fLadd (oLs nD3 (oInc nG7 nS7 1 (oGo (oJb 108)))))))))))))))))))
noncomputable def B91_54 : rP := (oLl nG3 (oPsh (vL 31) (oBinL aT fLmul (oAl nG6 (oPsh (vI 2) (oAl nG0 (oGf 2 5 vR (oCv 8 335 2 (oI2l (oBinL aT fLadd (oLs nD3 (oLl nG3 (oPsh (vL 31) (oBinL aT fLmul (oAl nG6 (oPsh (vI 5) (oAl nG0 (oGf 2 5 vR (oCv 8 335 2 (oI2l (oBinL aT fLadd (oLs nD3 (oPsh (vI 0) (oIs nS7 B91_93))))))))))))))))))))))))
noncomputable def B91_26 : rP := (oIl nG7 (oPsh (vI 5) (oIc cGt gGt B91_54 (oLl nG3 (oPsh (vL 31) (oBinL aT fLmul (oAl nG0 (oAl nG6 (oIl nG7 (oCv 2 95 2 (oI2l (oBinL aT fLadd (oLs nD3 (oInc nG7 nS7 1 (oGo (oJb 107))))))))))))))))
noncomputable def B91_5 : rP := (oIl nG5 (oAl nG0 (oGf 2 1 vI (oIc cGe gGe B91_133 (oAl nG0 (oGf 2 0 vR (oIl nG5 (oAal (oAs nS6 (oPsh (vI 0) (oIs nS7 B91_26)))))))))))
noncomputable def B91_0 : rP := (oEnt 8 (oLl nG1 (oLs nD3 (oPsh (vI 0) (oIs nS5 B91_5)))))
noncomputable def B92_132 : rP := (oLl nG3 oRl)
noncomputable def B92_0 : rP := (oEnt 6 (oLl nG1 (oLs nD3 (oPsh (vI 0) (oIs nS5 (oIl nG5 (oAl nG0 (oGf 2 3 vI (oIc cGe gGe B92_132 oNone)))))))))
noncomputable def B93_66 : rP := (oLl nG3 oRl)
noncomputable def B93_60 : rP := (oInc nG5 nS5 1 (oGo (oJb 111)))
noncomputable def B93_54 : rP := (oInc nG6 nS6 1 (oGo (oJb 112)))
noncomputable def B93_24 : rP := (oIl nG7 (oPsh (vI 3) (oIc cGt gGt B93_54 (oLl nG3 (oPsh (vL 31) (oBinL aT fLmul (oAl nG0 (oIl nG5 (oIl nG6 (oIl nG7 (oCv 2 126 3 (oI2l (oBinL aT fLadd (oLs nD3 (oInc nG7 nS7 1 (oGo (oJb 113)))))))))))))))))
noncomputable def B93_15 : rP := (oIl nG6 (oPsh (vI 3) (oIc cGe gGe B93_60 (oPsh (vI 0) (oIs nS7 B93_24)))))
noncomputable def B93_5 : rP := (oIl nG5 (oPsh (vI 10) (oIc cGt gGt B93_66 (oPsh (vI 0) (oIs nS6 B93_15)))))
noncomputable def B93_0 : rP := (oEnt 8 (oLl nG1 (oLs nD3 (oPsh (vI 0) (oIs nS5 B93_5)))))
noncomputable def B94_52 : rP := (oAl nG0 (oGf 2 0 vR (oIl nG1 (oAal (oIl nG2 (oIl nG3 (oCv 8 312 2 (oRi 4294967296))))))))
noncomputable def B94_42 : rP := (oThr 2)
noncomputable def B94_18 : rP := (oIl nG2 (oIf zLt yLt B94_42 (oIl nG2 (oAl nG0 (oGf 2 0 vR (oIl nG1 (oAal (oGf 8 0 vI (oIc cGe gGe B94_42 (oIl nG3 (oCs 88 1 (oIf zNe yNe B94_52 B94_42))))))))))))
noncomputable def B94_0 : rP := (oEnt 4 (oAl nG0 (oIl nG1 (oCv 2 87 1 (oIf zNe yNe B94_18 (oThr 2))))))
noncomputable def B95_75 : rP := (oAl nG0 (oGf 2 11 vR (oIl nG1 (oIl nG2 (oCv 14 355 2 (oRi 4294967296))))))
noncomputable def B95_34 : rP := (oIl nG1 (oPsh (vI 4294967295) (oIc cEq gEq B95_75 oNone)))
noncomputable def B95_23 : rP := (oThr 2)
noncomputable def B95_0 : rP := (oEnt 3 (oIl nG1 (oPsh (vI 4294967295) (oIc cLt gLt B95_23 (oIl nG1 (oAl nG0 (oGf 2 11 vR (oGf 14 2 vI (oIc cGe gGe B95_23 (oIl nG2 (oCs 88 1 (oIf zNe yNe B95_34 B95_23))))))))))))
noncomputable def B96_34 : rP := (oPsh (vI 4294967295) (oRi 4294967296))
noncomputable def B96_28 : rP := (oInc nG1 nS1 1 (oGo (oJb 117)))
noncomputable def B96_2 : rP := (oIl nG1 (oAl nG0 (oGf 2 1 vI (oIc cGe gGe B96_34 (oAl nG0 (oGf 2 0 vR (oIl nG1 (oAal (oAl nG0 (oGf 2 4 vR (oCv 8 332 1 (oIf zEq yEq B96_28 (oIl nG1 (oRi 4294967296))))))))))))))
noncomputable def B96_0 : rP := (oEnt 2 (oPsh (vI 0) (oIs nS1 B96_2)))
noncomputable def B97_37 : rP := (oAl nG0 (oAl nG0 (oGf 2 0 vR (oIl nG1 (oAal (oIl nG2 (oCv 2 95 2 (oRi 4294967296))))))))
noncomputable def B97_27 : rP := (oThr 0)
noncomputable def B97_18 : rP := (oIl nG2 (oIf zLt yLt B97_27 (oIl nG2 (oPsh (vI 5) (oIc cLe gLe B97_37 B97_27)))))
noncomputable def B97_0 : rP := (oEnt 3 (oAl nG0 (oIl nG1 (oCv 2 87 1 (oIf zNe yNe B97_18 (oThr 2))))))
noncomputable def B98_22 : rP := (oAl nG0 (oGf 2 11 vR (oDup (oGf 14 0 vI (oPsh (vI 1) (oBin fAdd xN gAdd (oPf 14 0 0 (oAl nG0 (oGf 2 11 vR (oGf 14 0 vI (oPsh (vI 1) (oBin fSub xN xN (oRi 4294967296)))))))))))))
noncomputable def B98_0 : rP := (oEnt 1 (oAl nG0 (oGf 2 11 vR (oGf 14 0 vI (oPsh (vI 4) (oIc cLt gLt B98_22 oNone))))))
noncomputable def B99_0 : rP := (oEnt 3 (oAl nG0 (oIl nG1 (oCv 2 89 1 (oIf zNe yNe oNone (oThr 2))))))
noncomputable def B100_0 : rP := (oEnt 1 (oAl nG0 (oCv 2 123 0 (oAl nG0 (oGf 2 9 vR (oGf 6 6 vI (oRi 4294967296)))))))
noncomputable def B101_37 : rP := (oAl nG0 (oGf 2 9 vR (oGf 6 1 vR (oIl nG1 (oIal (oIs nS3 (oAl nG0 (oGf 2 9 vR (oGf 6 1 vR (oIl nG1 (oIl nG2 (oAst 1 0 (oAl nG0 (oGf 2 10 vR (oAl nG0 (oGf 2 9 vR (oAl nG0 (oGf 2 0 vR (oCv 18 399 2 (oAl nG0 (oGf 2 9 vR (oGf 6 1 vR (oIl nG1 (oIl nG3 (oAst 1 0 (oAl nG0 (oGf 2 10 vR (oGf 18 0 vI (oRi 4294967296)))))))))))))))))))))))))))))
noncomputable def B101_26 : rP := (oThr 0)
noncomputable def B101_17 : rP := (oIl nG2 (oIf zLt yLt B101_26 (oIl nG2 (oPsh (vI 2) (oIc cLe gLe B101_37 B101_26)))))
noncomputable def B101_0 : rP := (oEnt 4 (oIl nG1 (oCs 93 1 (oIf zNe yNe B101_17 (oThr 2)))))
noncomputable def B102_36 : rP := oRv
noncomputable def B102_0 : rP := (oEnt 1 (oAl nG0 (oGf 2 9 vR (oGf 6 5 vI (oIf zNe yNe B102_36 (oAl nG0 (oGf 2 10 vR (oAl nG0 (oGf 2 9 vR (oAl nG0 (oGf 2 0 vR (oCv 18 399 2 (oAl nG0 (oGf 2 9 vR (oAl nG0 (oGf 2 10 vR (oCv 6 162 1 B102_36)))))))))))))))))
noncomputable def B103_17 : rP := (oAl nG0 (oCv 2 123 0 (oAl nG0 (oGf 2 9 vR (oGf 6 7 vR (oIl nG1 (oIal (oRi 4294967296))))))))
noncomputable def B103_0 : rP := (oEnt 2 (oIl nG1 (oCs 93 1 (oIf zNe yNe B103_17 (oThr 2)))))
noncomputable def B104_48 : rP := (oAl nG0 (oGf 2 12 vR (oAl nG0 (oGf 2 0 vR (oAl nG0 (oGf 2 2 vR (oAl nG0 (oGf 2 6 vR (oCv 12 353 3 (oAl nG0 (oIl nG1 (oIl nG2 (oIl nG3 (oCv 2 126 3 (oRi 4294967296)))))))))))))))
noncomputable def B104_37 : rP := (oThr 0)
noncomputable def B104_28 : rP := (oIl nG3 (oIf zLt yLt B104_37 (oIl nG3 (oPsh (vI 3) (oIc cLe gLe B104_48 B104_37)))))
noncomputable def B104_17 : rP := (oThr 2)
noncomputable def B104_0 : rP := (oEnt 4 (oIl nG1 (oIf zLt yLt B104_17 (oIl nG1 (oPsh (vI 10) (oIc cGt gGt B104_17 (oIl nG2 (oCs 92 1 (oIf zNe yNe B104_28 B104_17)))))))))
noncomputable def B105_0 : rP := (oEnt 5 (oAl nG0 (oGf 2 12 vR (oIl nG1 (oCv 12 354 1 (oIs nS4 (oAl nG0 (oGf 2 12 vR (oGf 12 5 vR (oIl nG4 (oAld 3 vI (oIf zNe yNe oNone (oPsh (vI 0) (oRi 4294967296))))))))))))))
noncomputable def B106_46 : rP := (oAl nG0 (oGf 2 12 vR (oIl nG1 (oIl nG2 (oIl nG3 (oIl nG4 (oCv 12 345 4 (oRi 4294967296))))))))
noncomputable def B106_23 : rP := (oAl nG0 (oGf 2 12 vR (oGf 12 0 vI (oPsh (vI 10) (oIc cLt gLt B106_46 oNone)))))
noncomputable def B106_0 : rP := (oEnt 5 (oAl nG0 (oIl nG1 (oIl nG2 (oIl nG3 (oIl nG4 (oCv 2 91 4 (oIf zNe yNe B106_23 (oThr 0)))))))))
noncomputable def B107_15 : rP := (oThr 2)
noncomputable def B107_0 : rP := (oEnt 4 (oIl nG1 (oIf zLt yLt B107_15 (oIl nG1 (oAl nG0 (oGf 2 9 vR (oGf 6 2 vI (oIc cLt gLt oNone B107_15))))))))
noncomputable def B108_0 : rP := (oEnt 1 (oAl nG0 (oGf 2 9 vR (oGf 6 2 vI (oIf zNe yNe oNone (oThr 1))))))
noncomputable def B109_16 : rP := (oThr 2)
noncomputable def B109_0 : rP := (oEnt 3 (oAl nG0 (oIl nG1 (oCv 2 90 1 (oIf zEq yEq B109_16 oNone)))))
noncomputable def B110_41 : rP := (oRi 4294967296)
noncomputable def B110_20 : rP := (oAl nG0 (oIl nG1 (oIl nG2 (oIl nG3 (oCv 2 73 3 (oIf zEq yEq oNone (oAl nG0 (oGf 2 4 vR (oGf 8 0 vI (oGo B110_41))))))))))
noncomputable def B110_0 : rP := (oEnt 4 (oAl nG0 (oIl nG1 (oIl nG2 (oIl nG3 (oCv 2 74 3 (oIf zNe yNe B110_20 (oThr 0))))))))
noncomputable def B111_0 : rP := (oEnt 4 (oAl nG0 (oIl nG1 (oCv 2 89 1 (oIf zNe yNe oNone (oThr 2))))))
noncomputable def B112_41 : rP := (oRi 2)
noncomputable def B112_40 : rP := (oPsh (vI 0) B112_41)
noncomputable def B112_36 : rP := (oPsh (vI 1) (oGo B112_41))
noncomputable def B112_22 : rP := (oAl nG0 (oGf 26 0 vI (oPsh (vI 2) (oIc cNe gNe B112_40 (oLl nG1 (oPsh (vL 1) (oLcmp fLcmp (oIf zNe yNe B112_40 B112_36))))))))
noncomputable def B112_0 : rP := (oEnt 3 (oAl nG0 (oGf 26 0 vI (oPsh (vI 3) (oIc cEq gEq B112_36 (oAl nG0 (oGf 26 0 vI (oPsh (vI 1) (oIc cNe gNe B112_22 (oLl nG1 (oPsh (vL 0) (oLcmp fLcmp (oIf zEq yEq B112_36 B112_22)))))))))))))
noncomputable def B113_0 : rP := (oEnt 1 (oPsh (vL 0) oRl))
noncomputable def B114_29 : rP := oRl
noncomputable def B114_26 : rP := (oPsh (vL 2) B114_29)
noncomputable def B114_0 : rP := (oEnt 4 (oAl nG0 (oGf 26 0 vI (oPsh (vI 2) (oIc cNe gNe B114_26 (oLl nG1 (oPsh (vL 0) (oLcmp fLcmp (oIf zNe yNe B114_26 (oIl nG3 (oAl nG0 (oGf 26 1 vI (oIc cNe gNe B114_26 (oPsh (vL 1) (oGo B114_29)))))))))))))))
noncomputable def B115_0 : rP := (oEnt 3 (oAl nG0 (oIl nG1 (oPf 26 0 0 (oAl nG0 (oIl nG2 (oPf 26 1 0 (oAl nG0 (oCi 204 0 oRv)))))))))
noncomputable def B116_82 : rP := (oRi 2)
noncomputable def B116_81 : rP := (oPsh (vI 0) B116_82)
noncomputable def B116_74 : rP := (oIc cNe gNe B116_81 (oPsh (vI 1) (oGo B116_82)))
noncomputable def B116_73 : rP := (oPsh (vI 0) B116_74)
noncomputable def B116_54 : rP := (oIl nG3 (oIf zEq yEq B116_81 (oIl nG4 (oAl nG0 (oGf 28 2 vI (oPsh (vI 6) (oIc cNe gNe B116_73 (oPsh (vI 1) (oGo B116_74)))))))))
noncomputable def B116_50 : rP := (oPsh (vI 0) (oGo B116_82))
noncomputable def B116_46 : rP := (oPsh (vI 1) (oGo B116_82))
noncomputable def B116_0 : rP := (oEnt 5 (oAl nG0 (oGf 28 0 vR (oGf 40 2 vR (oLl nG1 (oL2i (oPsh (vI 16) (oDiv aDv fDiv gDiv (oAld 3 vI (oIs nS3 (oAl nG0 (oGf 28 1 vR (oGf 40 2 vR (oLl nG1 (oL2i (oPsh (vI 16) (oDiv aDv fRem xN (oAld 3 vI (oIs nS4 (oAl nG0 (oGf 28 2 vI (oPsh (vI 5) (oIc cNe gNe B116_54 (oIl nG3 (oIf zNe yNe B116_46 (oIl nG4 (oIf zEq yEq B116_50 B116_46)))))))))))))))))))))))))))
noncomputable def B117_0 : rP := (oEnt 1 (oPsh (vL 0) oRl))
noncomputable def B118_0 : rP := (oEnt 4 (oAl nG0 (oGf 28 0 vR (oLl nG1 (oL2i (oPsh (vI 16) (oDiv aDv fDiv gDiv (oIl nG3 (oCv 40 171 2 (oI2l (oPsh (vL 16) (oBinL aT fLmul (oAl nG0 (oGf 28 1 vR (oLl nG1 (oL2i (oPsh (vI 16) (oDiv aDv fRem xN (oIl nG3 (oCv 40 171 2 (oI2l (oBinL aT fLadd oRl))))))))))))))))))))))
noncomputable def B119_0 : rP := (oEnt 4 (oAl nG0 (oAl nG1 (oPf 28 0 2 (oAl nG0 (oAl nG2 (oPf 28 1 2 (oAl nG0 (oIl nG3 (oPf 28 2 0 (oAl nG0 (oCi 204 0 oRv))))))))))))
noncomputable def B120_0 : rP := (oEnt 3 (oAl nG0 (oGf 30 1 vR (oLl nG1 (oPsh (vL 1024) (oBinL aDl fRem (oCs 283 2 (oRi 2))))))))
noncomputable def B121_0 : rP := (oEnt 1 (oAl nG0 (oPsh (vI 0) (oPsh (vL 0) (oCv 30 145 2 oRl)))))
noncomputable def B122_0 : rP := (oEnt 4 (oAl nG0 (oAl nG0 (oGf 30 0 vR (oLl nG1 (oPsh (vL 1024) (oBinL aDl fDiv (oL2i (oIl nG3 (oCv 40 171 2 (oAl nG0 (oGf 30 1 vR (oLl nG1 (oPsh (vL 1024) (oBinL aDl fRem (oIl nG3 (oCs 302 3 (oCv 30 145 2 oRl))))))))))))))))))
noncomputable def B123_0 : rP := (oEnt 3 (oAl nG0 (oAl nG1 (oPf 30 0 2 (oAl nG0 (oAl nG2 (oPf 30 1 2 (oAl nG0 (oCi 204 0 oRv)))))))))
noncomputable def B124_25 : rP := (oBinL aT fLadd oRl)
noncomputable def B124_24 : rP := (oLl nG2 B124_25)
noncomputable def B124_0 : rP := (oEnt 4 (oIl nG1 (oI2l (oPsh (vL 1024) (oBinL aT fLmul (oAl nG0 (oGf 30 0 vR (oGf 40 2 vR (oIl nG1 (oAld 3 vI (oIf zEq yEq B124_24 (oLl nG2 (oPsh (vL 1) (oBinL aT fOr (oGo B124_25)))))))))))))))
noncomputable def B125_24 : rP := (oRi 2)
noncomputable def B125_23 : rP := (oPsh (vI 0) B125_24)
noncomputable def B125_19 : rP := (oPsh (vI 1) (oGo B125_24))
noncomputable def B125_0 : rP := (oEnt 3 (oLl nG1 (oPsh (vL 1024) (oLcmp fLcmp (oIf zGe yGe B125_19 (oAl nG0 (oGf 32 0 vR (oLl nG1 (oCs 283 2 (oIf zEq yEq B125_23 B125_19))))))))))
noncomputable def B126_0 : rP := (oEnt 1 (oPsh (vL 1025) oRl))
noncomputable def B127_36 : rP := oRl
noncomputable def B127_34 : rP := (oLl nG4 B127_36)
noncomputable def B127_0 : rP := (oEnt 6 (oAl nG0 (oGf 32 0 vR (oLl nG1 (oPsh (vL 1024) (oBinL aDl fRem (oIl nG3 (oCs 302 3 (oLs nD4 (oAl nG0 (oGf 32 0 vR (oLl nG4 (oCs 283 2 (oIf zEq yEq B127_34 (oLl nG4 (oPsh (vL 1) (oBinL aT fOr (oGo B127_36))))))))))))))))))
noncomputable def B128_0 : rP := (oEnt 2 (oAl nG0 (oAl nG1 (oPf 32 0 2 (oAl nG0 (oCi 204 0 oRv))))))
noncomputable def B129_13 : rP := (oRi 2)
noncomputable def B129_12 : rP := (oPsh (vI 0) B129_13)
noncomputable def B129_0 : rP := (oEnt 3 (oLl nG1 (oPsh (vL 1) (oBinL aT fAnd (oPsh (vL 1) (oLcmp fLcmp (oIf zNe yNe B129_12 (oPsh (vI 1) (oGo B129_13)))))))))
noncomputable def B130_43 : rP := (oLl nG1 oRl)
noncomputable def B130_35 : rP := (oBinL aT fOr (oLs nD1 (oInc nG3 nS3 1 (oGo (oJb 152)))))
noncomputable def B130_34 : rP := (oPsh (vL 0) B130_35)
noncomputable def B130_4 : rP := (oIl nG3 (oAl nG0 (oGf 34 0 vR (oGf 40 0 vI (oIc cGe gGe B130_43 (oLl nG1 (oAl nG0 (oGf 34 0 vR (oGf 40 2 vR (oIl nG3 (oAld 3 vI (oIf zEq yEq B130_34 (oPsh (vL 1) (oIl nG3 (oShL fLshl (oGo B130_35))))))))))))))))
noncomputable def B130_0 : rP := (oEnt 4 (oPsh (vL 0) (oLs nD1 (oPsh (vI 0) (oIs nS3 B130_4)))))
noncomputable def B131_56 : rP := (oLl nG4 oRl)
noncomputable def B131_47 : rP := (oBinL aT fOr (oLs nD4 (oInc nG6 nS6 1 (oGo (oJb 154)))))
noncomputable def B131_46 : rP := (oPsh (vL 0) B131_47)
noncomputable def B131_6 : rP := (oIl nG6 (oAl nG0 (oGf 34 0 vR (oGf 40 0 vI (oIc cGe gGe B131_56 (oLl nG4 (oLl nG1 (oAl nG0 (oGf 34 0 vR (oIl nG6 (oIl nG3 (oCv 40 171 2 (oShL fLshr (oPsh (vL 1) (oBinL aT fAnd (oPsh (vL 1) (oLcmp fLcmp (oIf zNe yNe B131_46 (oPsh (vL 1) (oIl nG6 (oShL fLshl (oGo B131_47))))))))))))))))))))))
noncomputable def B131_0 : rP := (oEnt 7 (oPsh (vL 0) (oLs nD4 (oPsh (vI 0) (oIs nS6 B131_6)))))
noncomputable def B132_0 : rP := (oEnt 2 (oAl nG0 (oAl nG1 (oPf 34 0 2 (oAl nG0 (oCi 204 0 oRv))))))
noncomputable def B133_0 : rP := (oEnt 3 (oAl nG0 (oGf 36 1 vR (oLl nG1 (oL2i (oAld 3 vI (oRi 2)))))))
noncomputable def B134_0 : rP := (oEnt 1 (oPsh (vL 0) oRl))
noncomputable def B135_0 : rP := (oEnt 4 (oAl nG0 (oGf 36 0 vR (oLl nG1 (oL2i (oIl nG3 (oCv 40 171 2 (oI2l oRl))))))))
noncomputable def B136_0 : rP := (oEnt 3 (oAl nG0 (oAl nG1 (oPf 36 0 2 (oAl nG0 (oAl nG2 (oPf 36 1 2 (oAl nG0 (oCi 204 0 oRv)))))))))
noncomputable def B137_0 : rP := (oEnt 1 (oAl nG0 (oGf 6 4 vR (oPsh (vI 2) (oAl nG0 (oGf 6 2 vI (oBin fMul xN xN (oPsh (vI 0) (oAst 1 0 (oAl nG0 (oGf 6 4 vR (oPsh (vI 2) (oAl nG0 (oGf 6 2 vI (oBin fMul xN xN (oPsh (vI 1) (oBin fAdd xN gAdd (oPsh (vI 0) (oAst 1 0 (oAl nG0 (oDup (oGf 6 2 vI (oPsh (vI 1) (oBin fAdd xN gAdd (oPf 6 2 0 (oAl nG0 (oPsh (vI 0) (oPf 6 5 3 (oAl nG0 (oGf 6 2 vI (oPsh (vI 1) (oBin fSub xN xN (oRi 4294967296)))))))))))))))))))))))))))))))))
noncomputable def B138_0 : rP := (oEnt 1 (oAl nG0 (oOi (oAl nG0 (oPsh (vI 4) (oNwa 1 (oPf 6 0 2 (oAl nG0 (oPsh (vI 4) (oNwa 1 (oPf 6 1 2 (oAl nG0 (oPsh (vI 48) (oNwa 1 (oPf 6 3 2 (oAl nG0 (oPsh (vI 8) (oNwa 1 (oPf 6 4 2 (oAl nG0 (oPsh (vI 4) (oNwa 1 (oPf 6 7 2 (oAl nG0 (oGf 6 0 vR (oPsh (vI 1) (oCs 3 2 (oAl nG0 (oGf 6 1 vR (oPsh (vI 1) (oCs 3 2 oRv)))))))))))))))))))))))))))))))
noncomputable def B139_0 : rP := (oEnt 2 (oAl nG0 (oAl nG1 (oGf 18 0 vI (oPf 6 6 0 (oAl nG1 (oGf 18 1 vR (oPsh (vI 0) (oAl nG0 (oGf 6 7 vR (oPsh (vI 0) (oPsh (vI 4) (oCpy (oAl nG0 (oPsh (vI 1) (oPf 6 5 3 oRv))))))))))))))))
noncomputable def B140_29 : rP := (oIl nG1 (oRi 4294967296))
noncomputable def B140_0 : rP := (oEnt 3 (oPsh (vI 0) (oIs nS1 (oPsh (vI 0) (oIs nS2 (oIl nG2 (oPsh (vI 2) (oAl nG0 (oGf 6 2 vI (oBin fMul xN xN (oIc cGe gGe B140_29 oNone)))))))))))
noncomputable def B141_0 : rP := (oEnt 5 (oAl nG0 (oGf 6 1 vR (oIl nG1 (oIal (oIs nS4 (oAl nG0 (oGf 6 0 vR (oIl nG1 (oIl nG2 (oAst 1 0 (oAl nG0 (oGf 6 1 vR (oIl nG1 (oIl nG3 (oAst 1 0 (oAl nG0 (oPsh (vI 0) (oPf 6 5 3 (oIl nG4 (oRi 4294967296)))))))))))))))))))))
noncomputable def B142_0 : rP := (oEnt 1 (oAl nG0 (oCv 38 170 0 (oPsh (vI 0) (oCs 291 2 oRa)))))
noncomputable def B143_78 : rP := (oAl nG3 oRa)
noncomputable def B143_72 : rP := (oInc nG4 nS4 1 (oGo (oJb 167)))
noncomputable def B143_10 : rP := (oIl nG4 (oAl nG3 (oLen (oIc cGe gGe B143_78 (oAl nG1 (oIl nG4 (oAld 3 vI (oIf zEq yEq B143_72 (oAl nG3 (oAl nG0 (oGf 38 0 vR (oIl nG4 (oAl nG0 (oGf 38 1 vR (oGf 40 0 vI (oDiv aDv fDiv gDiv (oIl nG2 (oCv 40 171 2 (oAl nG0 (oGf 38 1 vR (oGf 40 0 vI (oBin fMul xN xN (oAl nG0 (oGf 38 1 vR (oIl nG4 (oAl nG0 (oGf 38 1 vR (oGf 40 0 vI (oDiv aDv fRem xN (oIl nG2 (oCv 40 171 2 (oBin fAdd xN gAdd (oPsh (vI 1) (oAst 3 3 B143_72))))))))))))))))))))))))))))))))))
noncomputable def B143_0 : rP := (oEnt 5 (oAl nG0 (oCv 38 170 0 (oNwa 3 (oAs nS3 (oPsh (vI 0) (oIs nS4 B143_10)))))))
noncomputable def B144_0 : rP := (oEnt 3 (oAl nG0 (oAl nG1 (oPf 38 0 2 (oAl nG0 (oAl nG2 (oPf 38 1 2 (oAl nG0 (oCi 195 0 oRv)))))))))
noncomputable def B145_45 : rP := (oRi 2)
noncomputable def B145_44 : rP := (oPsh (vI 0) B145_45)
noncomputable def B145_0 : rP := (oEnt 2 (oAl nG0 (oGf 38 0 vR (oGf 40 2 vR (oIl nG1 (oAl nG0 (oGf 38 1 vR (oGf 40 0 vI (oDiv aDv fDiv gDiv (oAld 3 vI (oIf zEq yEq B145_44 (oAl nG0 (oGf 38 1 vR (oGf 40 2 vR (oIl nG1 (oAl nG0 (oGf 38 1 vR (oGf 40 0 vI (oDiv aDv fRem xN (oAld 3 vI (oIf zNe yNe B145_44 (oPsh (vI 1) (oGo B145_45)))))))))))))))))))))))
noncomputable def B146_0 : rP := (oEnt 1 (oAl nG0 (oGf 38 0 vR (oGf 40 0 vI (oAl nG0 (oGf 38 1 vR (oGf 40 0 vI (oBin fMul xN xN (oRi 4294967296)))))))))
noncomputable def B147_0 : rP := (oEnt 3 (oAl nG0 (oGf 40 1 vR (oIl nG1 (oPsh (vI 4) (oBin fMul xN xN (oIl nG2 (oBin fAdd xN gAdd (oIal (oRi 4294967296))))))))))
noncomputable def B148_32 : rP := (oAl nG0 (oGf 40 2 vR (oIl nG2 (oAld 3 vI (oRi 2)))))
noncomputable def B148_9 : rP := (oIl nG3 (oIf zLt yLt B148_32 (oAl nG0 (oIl nG2 (oIl nG1 (oPsh (vI 2) (oIl nG3 (oBin fMul xN xN (oBin fShr gShr xN (oPsh (vI 3) (oBin fAnd gAnd xN (oCv 40 171 2 (oIs nS2 (oInc nG3 nS3 4294967295 (oGo (oJb 173))))))))))))))))
noncomputable def B148_0 : rP := (oEnt 4 (oPsh (vI 0) (oIs nS2 (oIl nG1 (oCs 262 1 (oPsh (vI 1) (oBin fSub xN xN (oIs nS3 B148_9))))))))
noncomputable def B149_0 : rP := (oEnt 2 (oAl nG0 (oOi (oAl nG0 (oIl nG1 (oPf 40 0 0 (oAl nG0 (oIl nG1 (oPsh (vI 4) (oBin fMul xN xN (oNwa 1 (oPf 40 1 2 (oAl nG0 (oIl nG1 (oNwa 3 (oPf 40 2 2 oRv))))))))))))))))
noncomputable def B150_14 : rP := (oRi 2)
noncomputable def B150_13 : rP := (oPsh (vI 0) B150_14)
noncomputable def B150_0 : rP := (oEnt 1 (oAl nG0 (oCv 40 176 0 (oPsh (vI 0) (oAld 3 vI (oIf zNe yNe B150_13 (oPsh (vI 1) (oGo B150_14))))))))
noncomputable def B151_81 : rP := (oAl nG1 oRa)
noncomputable def B151_75 : rP := (oInc nG2 nS2 1 (oGo (oJb 177)))
noncomputable def B151_69 : rP := (oInc nG3 nS3 1 (oGo (oJb 178)))
noncomputable def B151_42 : rP := (oIl nG4 (oPsh (vI 4) (oIc cGe gGe B151_69 (oAl nG1 (oIl nG3 (oDup2 (oAld 3 vI (oAl nG1 (oAl nG0 (oIl nG3 (oIl nG4 (oCv 40 171 2 (oAld 3 vI (oBin fOr xN xN (oAst 3 3 (oInc nG4 nS4 1 (oGo (oJb 179))))))))))))))))))
noncomputable def B151_19 : rP := (oIl nG3 (oAl nG0 (oGf 40 0 vI (oIc cGe gGe B151_75 (oAl nG1 (oIl nG3 (oDup2 (oAld 3 vI (oAl nG0 (oGf 40 2 vR (oIl nG3 (oAld 3 vI (oBin fOr xN xN (oAst 3 3 (oPsh (vI 0) (oIs nS4 B151_42))))))))))))))))
noncomputable def B151_9 : rP := (oIl nG2 (oAl nG0 (oGf 40 0 vI (oIc cGt gGt B151_81 (oPsh (vI 0) (oIs nS3 B151_19))))))
noncomputable def B151_0 : rP := (oEnt 5 (oAl nG0 (oGf 40 0 vI (oNwa 3 (oAs nS1 (oPsh (vI 0) (oIs nS2 B151_9)))))))
noncomputable def B152_98 : rP := (oIl nG2 (oRi 2))
noncomputable def B152_92 : rP := (oInc nG3 nS3 1 (oGo (oJb 181)))
noncomputable def B152_84 : rP := (oBin fAnd gAnd xN (oIs nS2 (oInc nG4 nS4 1 (oGo (oJb 182)))))
noncomputable def B152_55 : rP := (oIl nG4 (oPsh (vI 4) (oIc cGe gGe B152_92 (oIl nG2 (oAl nG0 (oIl nG3 (oIl nG4 (oCv 40 171 2 (oAl nG1 (oIl nG3 (oIl nG4 (oCv 40 171 2 (oIc cNe gNe oNone (oPsh (vI 1) (oGo B152_84)))))))))))))))
noncomputable def B152_51 : rP := (oIs nS2 (oPsh (vI 0) (oIs nS4 B152_55)))
noncomputable def B152_50 : rP := (oPsh (vI 0) B152_51)
noncomputable def B152_19 : rP := (oIl nG3 (oAl nG0 (oGf 40 0 vI (oIc cGe gGe B152_98 (oIl nG2 (oIf zEq yEq B152_98 (oAl nG0 (oGf 40 2 vR (oIl nG3 (oAld 3 vI (oAl nG1 (oGf 40 2 vR (oIl nG3 (oAld 3 vI (oIc cNe gNe B152_50 (oPsh (vI 1) (oGo B152_51)))))))))))))))))
noncomputable def B152_16 : rP := (oIs nS2 (oPsh (vI 0) (oIs nS3 B152_19)))
noncomputable def B152_15 : rP := (oPsh (vI 0) B152_16)
noncomputable def B152_0 : rP := (oEnt 5 (oAl nG0 (oGf 40 0 vI (oAl nG1 (oGf 40 0 vI (oIc cNe gNe B152_15 (oPsh (vI 1) (oGo B152_16))))))))
noncomputable def B153_223 : rP := (oAl nG4 (oIl nG1 (oPsh (vI 0) (oAst 1 0 oRv))))
noncomputable def B153_217 : rP := (oInc nG8 nS8 1 (oGo (oJb 185)))
noncomputable def B153_199 : rP := (oIl nG10 (oIf zEq yEq B153_217 (oAl nG0 (oIl nG1 (oPsh (vI 1) (oBin fAdd xN gAdd (oIl nG2 (oAl nG3 (oAl nG4 (oAl nG5 (oCv 42 183 5 B153_217)))))))))))
noncomputable def B153_119 : rP := (oIl nG8 (oIl nG7 (oIc cGe gGe B153_223 (oAl nG6 (oIl nG8 (oIal (oIs nS9 (oAl nG4 (oIl nG1 (oIl nG9 (oAst 1 0 (oPsh (vI 1) (oIs nS10 (oPsh (vI 0) (oIs nS11 (oIl nG11 (oAl nG0 (oGf 42 0 vR (oCv 50 16 0 (oIc cGe gGe B153_199 oNone))))))))))))))))))))
noncomputable def B153_103 : rP := (oAl nG0 (oGf 42 3 vR (oIl nG1 (oAal (oAs nS6 (oAl nG6 (oLen (oIs nS7 (oPsh (vI 0) (oIs nS8 B153_119))))))))))
noncomputable def B153_82 : rP := (oAl nG3 (oIl nG1 (oIal (oIl nG2 (oIc cEq gEq B153_103 (oAl nG0 (oIl nG1 (oPsh (vI 1) (oBin fAdd xN gAdd (oIl nG2 (oAl nG3 (oAl nG4 (oAl nG5 (oCv 42 183 5 oRv))))))))))))))
noncomputable def B153_73 : rP := (oAl nG5 (oPsh (vI 0) (oDup2 (oIal (oPsh (vI 1) (oBin fAdd xN gAdd (oAst 1 0 oRv)))))))
noncomputable def B153_48 : rP := (oIl nG6 (oAl nG5 (oPsh (vI 1) (oIal (oIc cGe gGe B153_73 (oAl nG5 (oPsh (vI 1) (oIl nG6 (oAst 1 0 (oAl nG4 (oPsh (vI 0) (oAl nG5 (oPsh (vI 2) (oPsh (vI 4) (oCpy B153_73)))))))))))))))
noncomputable def B153_39 : rP := (oBin fAdd xN gAdd (oIs nS6 (oInc nG7 nS7 1 (oGo (oJb 184)))))
noncomputable def B153_38 : rP := (oPsh (vI 0) B153_39)
noncomputable def B153_11 : rP := (oIl nG7 (oPsh (vI 4) (oIc cGe gGe B153_48 (oIl nG6 (oAl nG3 (oIl nG7 (oIal (oIl nG2 (oIc cNe gNe B153_38 (oAl nG4 (oIl nG7 (oIal (oCs 262 1 (oGo B153_39))))))))))))))
noncomputable def B153_0 : rP := (oEnt 12 (oIl nG1 (oPsh (vI 4) (oIc cNe gNe B153_82 (oPsh (vI 0) (oIs nS6 (oPsh (vI 0) (oIs nS7 B153_11))))))))
noncomputable def B154_0 : rP := (oEnt 1 (oAl nG0 (oOi (oAl nG0 (oNew 50 3 (oDup (oCi 14 0 (oPf 42 0 2 (oAl nG0 (oPsh (vI 4) (oNwa 9 (oPf 42 1 2 (oAl nG0 (oPsh (vI 4) (oNwa 1 (oPf 42 2 2 (oAl nG0 (oPsh (vI 4) (oNwa 15 (oPf 42 3 2 (oAl nG0 (oPsh (vI 4) (oNwa 1 (oPf 42 4 2 oRv))))))))))))))))))))))))
noncomputable def B155_464 : rP := oRv
noncomputable def B155_450 : rP := (oAl nG0 (oGf 42 5 vI (oIf zNe yNe B155_464 oNone)))
noncomputable def B155_444 : rP := (oInc nG2 nS2 1 (oGo (oJb 189)))
noncomputable def B155_437 : rP := (oAst 1 0 (oInc nG6 nS6 1 (oGo (oJb 191))))
noncomputable def B155_430 : rP := (oAl nG0 (oGf 42 4 vR (oIl nG6 (oIal B155_437))))
noncomputable def B155_400 : rP := (oIl nG6 (oPsh (vI 4) (oIc cGe gGe B155_444 (oAl nG0 (oGf 42 4 vR (oIl nG6 (oAl nG1 (oIl nG6 (oIal (oIl nG2 (oIc cNe gNe B155_430 (oAl nG4 (oPsh (vI 2) (oIl nG6 (oBin fAdd xN gAdd (oIal (oGo B155_437)))))))))))))))))
noncomputable def B155_374 : rP := (oAl nG0 (oPsh (vI 0) (oIl nG2 (oAl nG1 (oAl nG3 (oAl nG4 (oCv 42 183 5 (oAl nG0 (oDup (oGf 42 5 vI (oAl nG4 (oPsh (vI 0) (oIal (oBin fMul xN xN (oPf 42 5 0 (oPsh (vI 0) (oIs nS6 B155_400)))))))))))))))))
noncomputable def B155_366 : rP := (oIl nG5 (oIf zNe yNe B155_374 oNone))
noncomputable def B155_357 : rP := (oBin fOr xN xN (oIs nS5 (oInc nG6 nS6 1 (oGo (oJb 190)))))
noncomputable def B155_356 : rP := (oPsh (vI 0) B155_357)
noncomputable def B155_336 : rP := (oIl nG6 (oPsh (vI 4) (oIc cGe gGe B155_366 (oIl nG5 (oAl nG1 (oIl nG6 (oIal (oIl nG2 (oIc cNe gNe B155_356 (oPsh (vI 1) (oGo B155_357)))))))))))
noncomputable def B155_290 : rP := (oIl nG2 (oPsh (vI 4) (oIc cGe gGe B155_450 (oPsh (vI 4) (oNwa 1 (oAs nS3 (oPsh (vI 6) (oNwa 1 (oDup (oPsh (vI 0) (oPsh (vI 0) (oAst 1 0 (oDup (oPsh (vI 1) (oPsh (vI 2147483647) (oAst 1 0 (oDup (oPsh (vI 2) (oPsh (vI 0) (oAst 1 0 (oDup (oPsh (vI 3) (oPsh (vI 0) (oAst 1 0 (oDup (oPsh (vI 4) (oPsh (vI 0) (oAst 1 0 (oDup (oPsh (vI 5) (oPsh (vI 0) (oAst 1 0 (oAs nS4 (oPsh (vI 0) (oIs nS5 (oPsh (vI 0) (oIs nS6 B155_336)))))))))))))))))))))))))))))))))))))
noncomputable def B155_288 : rP := (oPsh (vI 0) (oIs nS2 B155_290))
noncomputable def B155_42 : rP := (oPsh (vI 4) (oNwa 1 (oDup (oPsh (vI 0) (oPsh (vI 0) (oAst 1 0 (oDup (oPsh (vI 1) (oPsh (vI 1) (oAst 1 0 (oDup (oPsh (vI 2) (oPsh (vI 2) (oAst 1 0 (oDup (oPsh (vI 3) (oPsh (vI 3) (oAst 1 0 (oAs nS1 (oPsh (vI 0) (oIs nS2 (oIl nG2 (oAl nG0 (oGf 42 0 vR (oCv 50 16 0 (oIc cGe gGe B155_288 oNone))))))))))))))))))))))))))
noncomputable def B155_14 : rP := (oIl nG1 (oPsh (vI 4) (oIc cGe gGe B155_42 (oAl nG0 (oGf 42 3 vR (oIl nG1 (oAl nG0 (oIl nG1 (oAl nG0 (oGf 42 2 vR (oIl nG1 (oIal (oCv 42 192 2 (oAas okAs (oInc nG1 nS1 1 (oGo (oJb 188)))))))))))))))))
noncomputable def B155_0 : rP := (oEnt 9 (oAl nG0 (oPsh (vI 4) (oNwa 1 (oPf 42 4 2 (oAl nG0 (oPsh (vI 1) (oPf 42 5 0 (oPsh (vI 0) (oIs nS1 B155_14))))))))))
noncomputable def B156_64 : rP := (oIl nG4 (oNwa 1 (oAs nS5 (oAl nG3 (oPsh (vI 0) (oAl nG5 (oPsh (vI 0) (oIl nG4 (oCpy (oAl nG5 oRa))))))))))
noncomputable def B156_58 : rP := (oInc nG5 nS5 1 (oGo (oJb 193)))
noncomputable def B156_11 : rP := (oIl nG5 (oPsh (vI 32) (oIc cGe gGe B156_64 (oIl nG5 (oCs 255 1 (oIf zEq yEq B156_58 (oIl nG5 (oCs 262 1 (oIl nG2 (oIc cGt gGt B156_58 (oAl nG0 (oGf 42 1 vR (oIl nG1 (oAal (oIl nG5 (oCv 40 172 1 (oIf zEq yEq B156_58 (oAl nG3 (oIl nG4 (oInc nG4 nS4 1 (oIl nG5 (oAst 1 0 B156_58))))))))))))))))))))))
noncomputable def B156_0 : rP := (oEnt 6 (oPsh (vI 21) (oNwa 1 (oAs nS3 (oPsh (vI 0) (oIs nS4 (oPsh (vI 1) (oIs nS5 B156_11))))))))
noncomputable def B157_0 : rP := (oEnt 1 (oAl nG0 (oOi (oAl nG0 (oPsh (vI 10) (oNwa 1 (oPf 44 0 2 (oAl nG0 (oPsh (vI 10) (oNwa 1 (oPf 44 1 2 (oAl nG0 (oPsh (vI 10) (oNwa 1 (oPf 44 2 2 (oAl nG0 (oPsh (vI 10) (oNwa 1 (oPf 44 3 2 oRv)))))))))))))))))))
noncomputable def B158_0 : rP := (oEnt 1 (oAl nG0 (oOi oRv)))
noncomputable def B159_0 : rP := (oEnt 1 (oPsh (vI 1) (oRi 2)))
noncomputable def B160_281 : rP := (oIl nG8 (oIf zNe yNe oNone (oPsh (vI 0) (oRi 4294967296))))
noncomputable def B160_262 : rP := (oIl nG7 (oIf zLe yLe B160_281 oNone))
noncomputable def B160_256 : rP := (oInc nG9 nS9 1 (oGo (oJb 199)))
noncomputable def B160_250 : rP := (oInc nG10 nS10 1 (oGo (oJb 200)))
noncomputable def B160_244 : rP := (oInc nG14 nS14 1 (oGo (oJb 201)))
noncomputable def B160_161 : rP := (oIl nG14 (oIl nG1 (oIc cGe gGe B160_250 (oAl nG12 (oIl nG14 (oAld 3 vI (oIf zEq yEq B160_244 (oAl nG2 (oIl nG14 (oAld 3 vI (oIf zEq yEq oNone (oGo B160_244))))))))))))
noncomputable def B160_156 : rP := (oIs nS13 (oPsh (vI 0) (oIs nS14 B160_161)))
noncomputable def B160_109 : rP := (oIl nG10 (oPsh (vI 4) (oIc cGe gGe B160_256 (oIl nG1 (oNwa 3 (oAs nS11 (oAl nG11 (oIl nG9 (oPsh (vI 1) (oAst 3 3 (oAl nG0 (oAl nG11 (oIl nG10 (oCv 38 166 2 (oAs nS12 (oIl nG5 (oPsh (vI 10) (oIc cGt gGt oNone (oAl nG3 (oIl nG9 (oIal (oPsh (vI 4) (oBin fMul xN xN (oIl nG10 (oBin fAdd xN gAdd (oGo B160_156))))))))))))))))))))))))))
noncomputable def B160_106 : rP := (oPsh (vI 0) (oIs nS10 B160_109))
noncomputable def B160_90 : rP := (oIl nG9 (oIl nG1 (oIc cGe gGe B160_262 (oAl nG3 (oIl nG9 (oIal (oIf zNe yNe B160_106 oNone)))))))
noncomputable def B160_73 : rP := (oPsh (vI 1) (oIs nS5 (oIl nG1 (oNwa 1 (oAs nS6 (oPsh (vI 0) (oIs nS7 (oPsh (vI 0) (oIs nS8 (oPsh (vI 0) (oIs nS9 B160_90)))))))))))
noncomputable def B160_62 : rP := (oAl nG3 (oIl nG5 (oPsh (vI 1) (oAst 1 0 (oInc nG5 nS5 1 (oGo (oJb 198)))))))
noncomputable def B160_39 : rP := (oAl nG0 (oCv 38 196 0 (oIf zEq yEq B160_62 (oAl nG2 (oIl nG5 (oPsh (vI 1) (oAst 3 3 (oAl nG0 (oIl nG5 (oCv 38 169 1 (oIf zEq yEq B160_62 (oPsh (vI 1) (oRi 4294967296)))))))))))))
noncomputable def B160_22 : rP := (oIl nG5 (oIl nG1 (oIc cGe gGe B160_73 (oAl nG4 (oIl nG5 (oAld 3 vI (oIf zNe yNe B160_39 oNone)))))))
noncomputable def B160_0 : rP := (oEnt 15 (oAl nG0 (oCv 38 170 0 (oIs nS1 (oIl nG1 (oNwa 3 (oAs nS2 (oIl nG1 (oNwa 1 (oAs nS3 (oAl nG0 (oCv 38 165 0 (oAs nS4 (oPsh (vI 0) (oIs nS5 B160_22)))))))))))))))
noncomputable def B161_0 : rP := (oEnt 4 (oAl nG0 (oAl nG1 (oPf 46 4 2 (oAl nG0 (oOi (oAl nG0 (oPsh (vI 11) (oPsh (vI 3) (oMul 17 9 11 3 (oPf 46 0 2 (oAl nG0 (oPsh (vI 11) (oNwa 3 (oPf 46 1 2 (oAl nG1 (oGf 24 9 vR (oCv 50 15 0 (oIf zEq yEq oNone oRv)))))))))))))))))))
noncomputable def B162_0 : rP := (oEnt 5 (oAl nG0 (oOi (oAl nG0 (oIl nG1 (oPf 48 0 0 (oAl nG0 (oIl nG2 (oPf 48 1 0 (oAl nG0 (oIl nG3 (oPf 48 2 0 (oAl nG0 (oIl nG4 (oPf 48 3 0 oRv)))))))))))))))
noncomputable def B163_0 : rP := (oEnt 1 (oAl nG0 (oOi oRv)))
noncomputable def B164_64 : rP := (oIl nG4 (oRi 2))
noncomputable def B164_55 : rP := (oBin fAnd gAnd xN (oIs nS4 (oInc nG5 nS5 1 (oGo (oJb 206)))))
noncomputable def B164_54 : rP := (oPsh (vI 0) B164_55)
noncomputable def B164_19 : rP := (oIl nG5 (oPsh (vI 4) (oIc cGe gGe B164_64 (oIl nG4 (oAl nG0 (oAl nG1 (oIl nG2 (oPsh (vI 4) (oBin fMul xN xN (oIl nG5 (oBin fAdd xN gAdd (oIal (oIal (oAl nG0 (oAl nG1 (oIl nG3 (oPsh (vI 4) (oBin fMul xN xN (oIl nG5 (oBin fAdd xN gAdd (oIal (oIal (oIc cNe gNe B164_54 (oPsh (vI 1) (oGo B164_55)))))))))))))))))))))))))
noncomputable def B164_14 : rP := (oIs nS4 (oPsh (vI 0) (oIs nS5 B164_19)))
noncomputable def B164_13 : rP := (oPsh (vI 0) B164_14)
noncomputable def B164_0 : rP := (oEnt 6 (oAl nG0 (oIl nG2 (oIal (oAl nG0 (oIl nG3 (oIal (oIc cNe gNe B164_13 (oPsh (vI 1) (oGo B164_14))))))))))
noncomputable def B165_0 : rP := (oEnt 1 (oPsh (vI 1048576) (oRi 4294967296)))
noncomputable def B166_176 : rP := (oAl nG6 oRa)
noncomputable def B166_170 : rP := (oInc nG10 nS10 1 (oGo (oJb 210)))
noncomputable def B166_146 : rP := (oAl nG6 (oGf 40 1 vR (oIl nG10 (oPsh (vI 4) (oBin fMul xN xN (oIl nG12 (oBin fAdd xN gAdd (oAl nG7 (oIl nG13 (oIal (oAst 1 0 (oInc nG12 nS12 1 (oGo (oJb 211))))))))))))))
noncomputable def B166_101 : rP := (oIl nG12 (oPsh (vI 4) (oIc cGe gGe B166_170 (oAl nG3 (oAl nG2 (oIl nG11 (oPsh (vI 4) (oBin fMul xN xN (oIl nG12 (oBin fAdd xN gAdd (oIal (oIal (oIs nS13 (oAl nG7 (oIl nG13 (oIal (oPsh (vI 4294967295) (oIc cNe gNe B166_146 (oAl nG8 (oIl nG9 (oIl nG13 (oAst 1 0 (oAl nG7 (oIl nG13 (oIl nG9 (oInc nG9 nS9 1 (oAst 1 0 B166_146)))))))))))))))))))))))))))
noncomputable def B166_65 : rP := (oIl nG10 (oIl nG9 (oIc cGe gGe B166_176 (oAl nG4 (oAl nG8 (oIl nG10 (oIal (oIal (oIs nS11 (oAl nG6 (oGf 40 2 vR (oIl nG10 (oAl nG0 (oAl nG1 (oIl nG11 (oAld 5 vL (oCp [(26, 133), (28, 137), (30, 141), (32, 146), (34, 150), (36, 156)] 1 (oAst 3 3 (oPsh (vI 0) (oIs nS12 B166_101))))))))))))))))))))
noncomputable def B166_45 : rP := (oPsh (vI 1) (oIs nS9 (oAl nG8 (oPsh (vI 0) (oAl nG3 (oPsh (vI 0) (oIal (oAst 1 0 (oAl nG7 (oAl nG3 (oPsh (vI 0) (oIal (oPsh (vI 0) (oAst 1 0 (oPsh (vI 0) (oIs nS10 B166_65))))))))))))))))
noncomputable def B166_26 : rP := (oIl nG9 (oIl nG5 (oIc cGe gGe B166_45 (oAl nG7 (oIl nG9 (oPsh (vI 4294967295) (oAst 1 0 (oInc nG9 nS9 1 (oGo (oJb 209))))))))))
noncomputable def B166_0 : rP := (oEnt 14 (oNew 40 3 (oDup (oIl nG5 (oCi 174 1 (oAs nS6 (oIl nG5 (oNwa 1 (oAs nS7 (oIl nG5 (oNwa 1 (oAs nS8 (oPsh (vI 0) (oIs nS9 B166_26))))))))))))))
noncomputable def B167_205 : rP := (oIl nG8 (oIs nS5 (oGo (oJb 215))))
noncomputable def B167_181 : rP := (oAl nG6 (oAs nS4 (oIl nG8 (oIl nG5 (oIc cNe gNe B167_205 (oAl nG0 (oAl nG1 (oAl nG2 (oAl nG4 (oAl nG7 (oIl nG8 (oCp [(26, 208), (28, 208), (30, 208), (32, 208), (34, 208), (36, 208)] 5 oRa))))))))))))
noncomputable def B167_168 : rP := (oAl nG6 (oIl nG9 (oIl nG10 (oAst 1 0 (oInc nG9 nS9 1 (oGo (oJb 216)))))))
noncomputable def B167_158 : rP := (oAl nG7 (oIl nG8 (oInc nG8 nS8 1 (oIl nG9 (oAst 1 0 B167_168)))))
noncomputable def B167_135 : rP := (oIl nG10 (oIl nG8 (oIc cNe gNe B167_168 (oIl nG8 (oPsh (vI 10) (oIc cNe gNe B167_158 oNone))))))
noncomputable def B167_106 : rP := (oIl nG10 (oIl nG8 (oIc cGe gGe B167_135 (oAl nG4 (oAl nG2 (oAl nG7 (oIl nG10 (oIal (oIl nG9 (oCs 205 4 (oIf zNe yNe B167_135 (oInc nG10 nS10 1 (oGo (oJb 217))))))))))))))
noncomputable def B167_97 : rP := (oIl nG9 (oIl nG3 (oIc cGe gGe B167_181 (oPsh (vI 0) (oIs nS10 B167_106)))))
noncomputable def B167_80 : rP := (oIl nG3 (oNwa 1 (oAs nS6 (oPsh (vI 11) (oNwa 1 (oAs nS7 (oPsh (vI 0) (oIs nS8 (oPsh (vI 0) (oIs nS9 B167_97))))))))))
noncomputable def B167_54 : rP := (oIl nG6 (oIl nG3 (oIc cGe gGe B167_80 (oIl nG5 (oAl nG4 (oIl nG6 (oIal (oPsh (vI 1) (oBin fAdd xN gAdd (oMx fMax (oIs nS5 (oInc nG6 nS6 1 (oGo (oJb 214))))))))))))))
noncomputable def B167_51 : rP := (oPsh (vI 0) (oIs nS6 B167_54))
noncomputable def B167_44 : rP := (oAst 1 0 (oInc nG6 nS6 1 (oGo (oJb 213))))
noncomputable def B167_43 : rP := (oPsh (vI 1) B167_44)
noncomputable def B167_11 : rP := (oIl nG6 (oIl nG3 (oIc cGe gGe B167_51 (oAl nG4 (oIl nG6 (oAl nG0 (oAl nG1 (oIl nG6 (oAld 5 vL (oCp [(26, 133), (28, 137), (30, 141), (32, 146), (34, 150), (36, 156)] 1 (oAl nG0 (oAl nG1 (oPsh (vI 0) (oAld 5 vL (oCp [(26, 133), (28, 137), (30, 141), (32, 146), (34, 150), (36, 156)] 1 (oIc cNe gNe B167_43 (oPsh (vI 0) (oGo B167_44))))))))))))))))))
noncomputable def B167_0 : rP := (oEnt 11 (oIl nG3 (oNwa 1 (oAs nS4 (oPsh (vI 1) (oIs nS5 (oPsh (vI 0) (oIs nS6 B167_11))))))))
noncomputable def B168_51 : rP := (oIl nG4 (oRi 4294967296))
noncomputable def B168_0 : rP := (oEnt 5 (oLl nG0 (oPsh (vL 11400714819323198485) (oBinL aT fLmul (oPsh (vI 40) (oShL fLush (oAl nG2 (oLen (oPsh (vI 1) (oBin fSub xN xN (oI2l (oBinL aT fAnd (oL2i (oIs nS4 (oAl nG2 (oIl nG4 (oIal (oIf zLe yLe B168_51 (oAl nG3 (oAl nG2 (oIl nG4 (oIal (oPsh (vI 1) (oBin fSub xN xN (oAld 5 vL (oLl nG0 (oLcmp fLcmp (oIf zEq yEq B168_51 oNone))))))))))))))))))))))))))))
noncomputable def B169_228 : rP := (oAl nG0 (oAl nG2 (oAl nG5 (oIl nG4 (oCp [(26, 212), (28, 212), (30, 212), (32, 212), (34, 212), (36, 212)] 3 oRa)))))
noncomputable def B169_222 : rP := (oInc nG6 nS6 1 (oGo (oJb 220)))
noncomputable def B169_200 : rP := (oAl nG5 (oIl nG6 (oPsh (vI 4) (oBin fMul xN xN (oIl nG7 (oBin fAdd xN gAdd (oAl nG3 (oIl nG10 (oIal (oPsh (vI 1) (oBin fSub xN xN (oAst 1 0 (oInc nG7 nS7 1 (oGo (oJb 221)))))))))))))))
noncomputable def B169_129 : rP := (oAl nG2 (oIl nG4 (oInc nG4 nS4 1 (oLl nG8 (oAst 5 1 (oAl nG3 (oIl nG10 (oIl nG4 (oAst 1 0 (oPsh (vI 2) (oIl nG4 (oBin fMul xN xN (oAl nG3 (oLen (oIc cLe gLe B169_200 oNone)))))))))))))))
noncomputable def B169_110 : rP := (oIl nG4 (oAl nG2 (oLen (oIc cNe gNe B169_129 oNone))))
noncomputable def B169_58 : rP := (oIl nG7 (oPsh (vI 4) (oIc cGe gGe B169_222 (oAl nG0 (oAl nG2 (oIl nG6 (oAld 5 vL (oIl nG7 (oCp [(26, 135), (28, 139), (30, 143), (32, 148), (34, 153), (36, 158)] 2 (oLs nD8 (oLl nG8 (oAl nG3 (oAl nG2 (oCs 218 3 (oIs nS10 (oAl nG3 (oIl nG10 (oIal (oIf zNe yNe B169_200 (oIl nG4 (oAl nG0 (oCp [(26, 207), (32, 207)] 0 (oIc cNe gNe B169_110 oNone)))))))))))))))))))))))
noncomputable def B169_48 : rP := (oIl nG6 (oIl nG4 (oIc cGe gGe B169_228 (oPsh (vI 0) (oIs nS7 B169_58)))))
noncomputable def B169_0 : rP := (oEnt 12 (oPsh (vI 4096) (oIs nS1 (oPsh (vI 64) (oNwa 5 (oAs nS2 (oIl nG1 (oNwa 1 (oAs nS3 (oPsh (vI 0) (oIs nS4 (oPsh (vI 256) (oNwa 1 (oAs nS5 (oAl nG2 (oIl nG4 (oInc nG4 nS4 1 (oAl nG0 (oCp [(26, 134), (28, 138), (30, 142), (32, 147), (34, 151), (36, 157)] 0 (oAst 5 1 (oAl nG3 (oAl nG2 (oPsh (vI 0) (oAld 5 vL (oAl nG3 (oAl nG2 (oCs 218 3 (oPsh (vI 1) (oAst 1 0 (oPsh (vI 0) (oIs nS6 B169_48)))))))))))))))))))))))))))))))
noncomputable def B170_22 : rP := (oAl nG0 (oPsh (vI 1) (oCv 24 287 1 (oRi 4294967296))))
noncomputable def B170_0 : rP := (oEnt 7 (oAl nG0 (oPsh (vI 0) (oPf 24 0 0 (oIl nG1 (oIf zLt yLt B170_22 (oIl nG1 (oAl nG0 (oGf 24 3 vR (oCv 50 16 0 (oIc cLt gLt oNone B170_22)))))))))))
noncomputable def B171_22 : rP := (oAl nG0 (oPsh (vI 1) (oCv 24 287 1 (oRi 4294967296))))
noncomputable def B171_0 : rP := (oEnt 2 (oAl nG0 (oPsh (vI 0) (oPf 24 0 0 (oIl nG1 (oIf zLt yLt B171_22 (oIl nG1 (oAl nG0 (oGf 24 9 vR (oCv 50 16 0 (oIc cLt gLt oNone B171_22)))))))))))
noncomputable def B172_22 : rP := (oAl nG0 (oPsh (vI 1) (oCv 24 287 1 (oRi 4294967296))))
noncomputable def B172_0 : rP := (oEnt 6 (oAl nG0 (oPsh (vI 0) (oPf 24 0 0 (oIl nG1 (oIf zLt yLt B172_22 (oIl nG1 (oAl nG0 (oGf 24 5 vR (oCv 50 16 0 (oIc cLt gLt oNone B172_22)))))))))))
noncomputable def B173_0 : rP := (oEnt 2 (oNew 38 2 (oDup (oAl nG0 (oAl nG1 (oCi 168 2 (oCv 38 197 0 (oRi 4294967296))))))))
noncomputable def B174_102 : rP := (oIl nG5 (oRi 4294967296))
noncomputable def B174_65 : rP := (oAl nG0 (oGf 24 2 vR (oIl nG2 (oCv 50 11 1 (oCst (Nat.beq 40) (oAs nS4 (oAl nG3 (oAl nG4 (oCs 225 2 (oIs nS5 (oIl nG5 (oPsh (vI 4294967295) (oIc cNe gNe B174_102 oNone)))))))))))))
noncomputable def B174_59 : rP := (oAl nG0 (oPsh (vI 1) (oCv 24 287 1 (oRi 4294967296))))
noncomputable def B174_28 : rP := (oAl nG0 (oGf 24 2 vR (oIl nG1 (oCv 50 11 1 (oCst (Nat.beq 40) (oAs nS3 (oIl nG2 (oIf zLt yLt B174_59 (oIl nG2 (oAl nG0 (oGf 24 2 vR (oCv 50 16 0 (oIc cLt gLt B174_65 B174_59)))))))))))))
noncomputable def B174_22 : rP := (oAl nG0 (oPsh (vI 1) (oCv 24 287 1 (oRi 4294967296))))
noncomputable def B174_0 : rP := (oEnt 6 (oAl nG0 (oPsh (vI 0) (oPf 24 0 0 (oIl nG1 (oIf zLt yLt B174_22 (oIl nG1 (oAl nG0 (oGf 24 2 vR (oCv 50 16 0 (oIc cLt gLt B174_28 B174_22)))))))))))
noncomputable def B175_22 : rP := (oAl nG0 (oPsh (vI 1) (oCv 24 287 1 (oRi 4294967296))))
noncomputable def B175_0 : rP := (oEnt 8 (oAl nG0 (oPsh (vI 0) (oPf 24 0 0 (oIl nG1 (oIf zLt yLt B175_22 (oIl nG1 (oAl nG0 (oGf 24 3 vR (oCv 50 16 0 (oIc cLt gLt oNone B175_22)))))))))))
noncomputable def B176_0 : rP := (oEnt 2 (oAl nG0 (oPsh (vI 0) (oPf 24 0 0 (oAl nG0 (oGf 24 9 vR (oCv 50 16 0 (oIs nS1 (oAl nG0 (oGf 24 9 vR (oCv 50 9 0 (oIl nG1 (oRi 4294967296)))))))))))))
noncomputable def B177_115 : rP := (oAl nG2 (oPsh (vI 0) (oIal (oRi 4294967296))))
noncomputable def B177_106 : rP := (oAl nG4 (oAs nS2 (oInc nG3 nS3 1 (oGo (oJb 231)))))
noncomputable def B177_100 : rP := (oInc nG5 nS5 1 (oGo (oJb 232)))
noncomputable def B177_70 : rP := (oIl nG6 (oPsh (vI 4) (oIc cGe gGe B177_100 (oAl nG4 (oIl nG5 (oDup2 (oIal (oAl nG2 (oAl nG0 (oIl nG5 (oIl nG6 (oCv 40 171 2 (oIal (oBin fAdd xN gAdd (oAst 1 0 (oInc nG6 nS6 1 (oGo (oJb 233))))))))))))))))))
noncomputable def B177_58 : rP := (oIl nG5 (oAl nG0 (oGf 40 0 vI (oIc cGe gGe B177_106 (oPsh (vI 0) (oIs nS6 B177_70))))))
noncomputable def B177_42 : rP := (oIl nG3 (oIl nG1 (oIc cGe gGe B177_115 (oAl nG0 (oGf 40 0 vI (oNwa 1 (oAs nS4 (oPsh (vI 0) (oIs nS5 B177_58)))))))))
noncomputable def B177_40 : rP := (oPsh (vI 0) (oIs nS3 B177_42))
noncomputable def B177_33 : rP := (oAst 1 0 (oInc nG3 nS3 1 (oGo (oJb 230))))
noncomputable def B177_32 : rP := (oPsh (vI 0) B177_33)
noncomputable def B177_9 : rP := (oIl nG3 (oAl nG0 (oGf 40 0 vI (oIc cGe gGe B177_40 (oAl nG2 (oIl nG3 (oAl nG0 (oGf 40 2 vR (oIl nG3 (oAld 3 vI (oIf zEq yEq B177_32 (oPsh (vI 1) (oGo B177_33)))))))))))))
noncomputable def B177_0 : rP := (oEnt 7 (oAl nG0 (oGf 40 0 vI (oNwa 1 (oAs nS2 (oPsh (vI 0) (oIs nS3 B177_9)))))))
noncomputable def B178_662 : rP := (oLl nG1 oRl)
noncomputable def B178_624 : rP := (oPsh (vI 0) (oIs nS5 (oIl nG5 (oAl nG0 (oGf 24 9 vR (oCv 50 16 0 (oIc cGe gGe B178_662 oNone)))))))
noncomputable def B178_618 : rP := (oInc nG5 nS5 1 (oGo (oJb 241)))
noncomputable def B178_612 : rP := (oInc nG6 nS6 1 (oGo (oJb 242)))
noncomputable def B178_581 : rP := (oIl nG7 (oPsh (vI 3) (oIc cGt gGt B178_612 (oLl nG1 (oPsh (vL 31) (oBinL aT fLmul (oAl nG0 (oAl nG3 (oIl nG5 (oIl nG6 (oIl nG7 (oCv 24 300 4 (oI2l (oBinL aT fLadd (oLs nD1 (oInc nG7 nS7 1 (oGo (oJb 243))))))))))))))))))
noncomputable def B178_572 : rP := (oIl nG6 (oPsh (vI 3) (oIc cGe gGe B178_618 (oPsh (vI 0) (oIs nS7 B178_581)))))
noncomputable def B178_562 : rP := (oIl nG5 (oPsh (vI 10) (oIc cGt gGt B178_624 (oPsh (vI 0) (oIs nS6 B178_572)))))
noncomputable def B178_559 : rP := (oPsh (vI 0) (oIs nS5 B178_562))
noncomputable def B178_395 : rP := (oPsh (vI 0) (oIs nS5 (oIl nG5 (oAl nG0 (oGf 24 5 vR (oCv 50 16 0 (oIc cGe gGe B178_559 oNone)))))))
noncomputable def B178_365 : rP := (oIl nG5 (oPsh (vI 4) (oIc cGe gGe B178_395 (oLl nG1 (oPsh (vL 31) (oBinL aT fLmul (oAl nG0 (oGf 24 4 vR (oGf 42 4 vR (oIl nG5 (oIal (oI2l (oBinL aT fLadd (oLs nD1 (oInc nG5 nS5 1 (oGo (oJb 240)))))))))))))))))
noncomputable def B178_355 : rP := (oAl nG0 (oGf 24 4 vR (oCv 42 187 0 (oPsh (vI 0) (oIs nS5 B178_365)))))
noncomputable def B178_196 : rP := (oPsh (vI 3) (oNwa 1 (oDup (oPsh (vI 0) (oPsh (vI 1) (oAst 1 0 (oDup (oPsh (vI 1) (oPsh (vI 5) (oAst 1 0 (oDup (oPsh (vI 2) (oPsh (vI 22) (oAst 1 0 (oAs nS4 (oPsh (vI 0) (oIs nS5 (oIl nG5 (oAl nG0 (oGf 24 3 vR (oCv 50 16 0 (oIc cGe gGe B178_355 oNone))))))))))))))))))))))
noncomputable def B178_190 : rP := (oInc nG4 nS4 1 (oGo (oJb 236)))
noncomputable def B178_184 : rP := (oInc nG6 nS6 1 (oGo (oJb 238)))
noncomputable def B178_155 : rP := (oIl nG7 (oPsh (vI 4) (oIc cGe gGe B178_184 (oLl nG1 (oPsh (vL 31) (oBinL aT fLmul (oAl nG5 (oIl nG6 (oIl nG7 (oCv 40 171 2 (oI2l (oBinL aT fLadd (oLs nD1 (oInc nG7 nS7 1 (oGo (oJb 239))))))))))))))))
noncomputable def B178_142 : rP := (oIl nG6 (oAl nG5 (oGf 40 0 vI (oIc cGe gGe B178_190 (oPsh (vI 0) (oIs nS7 B178_155))))))
noncomputable def B178_113 : rP := (oLl nG1 (oPsh (vL 31) (oBinL aT fLmul (oAl nG5 (oPsh (vI 2) (oCs 229 2 (oI2l (oBinL aT fLadd (oPsh (vL 31) (oBinL aT fLmul (oAl nG5 (oPsh (vI 5) (oCs 229 2 (oI2l (oBinL aT fLadd (oLs nD1 (oPsh (vI 0) (oIs nS6 B178_142))))))))))))))))))
noncomputable def B178_85 : rP := (oIl nG6 (oPsh (vI 5) (oIc cGt gGt B178_113 (oLl nG1 (oPsh (vL 31) (oBinL aT fLmul (oAl nG0 (oAl nG5 (oIl nG6 (oCv 24 258 2 (oI2l (oBinL aT fLadd (oLs nD1 (oInc nG6 nS6 1 (oGo (oJb 237))))))))))))))))
noncomputable def B178_52 : rP := (oIl nG4 (oAl nG0 (oGf 24 2 vR (oCv 50 16 0 (oIc cGe gGe B178_196 (oAl nG0 (oGf 24 2 vR (oIl nG4 (oCv 50 11 1 (oCst (Nat.beq 40) (oAs nS5 (oPsh (vI 0) (oIs nS6 B178_85)))))))))))))
noncomputable def B178_49 : rP := (oPsh (vI 0) (oIs nS4 B178_52))
noncomputable def B178_21 : rP := (oIl nG4 (oPsh (vI 9) (oIc cGt gGt B178_49 (oLl nG1 (oPsh (vL 31) (oBinL aT fLmul (oAl nG0 (oIl nG4 (oAl nG3 (oCv 24 280 2 (oI2l (oBinL aT fLadd (oLs nD1 (oInc nG4 nS4 1 (oGo (oJb 235))))))))))))))))
noncomputable def B178_0 : rP := (oEnt 12 (oAl nG0 (oPsh (vI 0) (oPf 24 0 0 (oPsh (vL 58152) (oLs nD1 (oNew 46 5 (oDup (oAl nG0 (oCi 202 1 (oAs nS3 (oPsh (vI 0) (oIs nS4 B178_21)))))))))))))
noncomputable def B179_50 : rP := (oAl nG0 (oGf 24 4 vR (oGf 42 2 vR (oIl nG1 (oIal (oIs nS4 (oAl nG0 (oGf 24 4 vR (oGf 42 2 vR (oIl nG1 (oIl nG3 (oAst 1 0 (oAl nG0 (oGf 24 4 vR (oGf 42 1 vR (oIl nG1 (oAl nG0 (oGf 24 2 vR (oIl nG2 (oCv 50 11 1 (oCst (Nat.beq 40) (oAas okAs (oIl nG4 (oRi 4294967296))))))))))))))))))))))))
noncomputable def B179_44 : rP := (oAl nG0 (oPsh (vI 2) (oCv 24 287 1 (oRi 4294967296))))
noncomputable def B179_20 : rP := (oIl nG2 (oAl nG0 (oGf 24 2 vR (oCv 50 16 0 (oCs 250 2 (oIf zEq yEq B179_44 (oIl nG3 (oPsh (vI 3) (oCs 250 2 (oIf zNe yNe B179_50 B179_44))))))))))
noncomputable def B179_14 : rP := (oAl nG0 (oPsh (vI 1) (oCv 24 287 1 (oRi 4294967296))))
noncomputable def B179_0 : rP := (oEnt 5 (oAl nG0 (oPsh (vI 0) (oPf 24 0 0 (oIl nG1 (oIf zLt yLt B179_14 (oIl nG1 (oPsh (vI 4) (oIc cLt gLt B179_20 B179_14)))))))))
noncomputable def B180_27 : rP := (oNew 50 3 (oDup (oCi 14 0 (oAs nS1 (oAl nG1 (oNew 50 3 (oDup (oCi 14 0 (oCv 50 8 1 (oPop (oAl nG1 (oNew 50 3 (oDup (oCi 14 0 (oCv 50 8 1 (oPop (oAl nG0 (oGf 24 4 vR (oGf 42 0 vR (oAl nG1 (oCv 50 8 1 (oPop (oAl nG0 (oGf 24 4 vR (oGf 42 0 vR (oCv 50 16 0 (oPsh (vI 1) (oBin fSub xN xN (oRi 4294967296)))))))))))))))))))))))))))))
noncomputable def B180_0 : rP := (oEnt 2 (oAl nG0 (oPsh (vI 0) (oPf 24 0 0 (oAl nG0 (oGf 24 4 vR (oGf 42 0 vR (oCv 50 16 0 (oPsh (vI 4) (oIc cLt gLt B180_27 oNone))))))))))
noncomputable def B181_22 : rP := (oAl nG0 (oPsh (vI 1) (oCv 24 287 1 (oRi 4294967296))))
noncomputable def B181_0 : rP := (oEnt 5 (oAl nG0 (oPsh (vI 0) (oPf 24 0 0 (oIl nG1 (oIf zLt yLt B181_22 (oIl nG1 (oAl nG0 (oGf 24 3 vR (oCv 50 16 0 (oIc cLt gLt oNone B181_22)))))))))))
noncomputable def B182_71 : rP := (oAl nG3 (oIl nG2 (oCv 40 172 1 (oRi 2))))
noncomputable def B182_69 : rP := (oPsh (vI 0) (oRi 2))
noncomputable def B182_36 : rP := (oAl nG0 (oGf 24 2 vR (oIl nG1 (oCv 50 11 1 (oCst (Nat.beq 40) (oAs nS3 (oIl nG2 (oCs 255 1 (oIf zNe yNe B182_71 (oAl nG0 (oPsh (vI 2) (oCv 24 287 1 (oIf zLe yLe B182_69 oNone)))))))))))))
noncomputable def B182_34 : rP := (oPsh (vI 0) (oRi 2))
noncomputable def B182_22 : rP := (oAl nG0 (oPsh (vI 1) (oCv 24 287 1 (oIf zLe yLe B182_34 oNone))))
noncomputable def B182_0 : rP := (oEnt 4 (oAl nG0 (oPsh (vI 0) (oPf 24 0 0 (oIl nG1 (oIf zLt yLt B182_22 (oIl nG1 (oAl nG0 (oGf 24 2 vR (oCv 50 16 0 (oIc cLt gLt B182_36 B182_22)))))))))))
noncomputable def B183_0 : rP := (oEnt 2 (oAl nG0 (oCv 40 176 0 (oAs nS1 (oNew 36 2 (oDup (oAl nG0 (oAl nG1 (oCi 159 2 (oCv 36 219 0 oRa))))))))))
noncomputable def B184_57 : rP := (oAl nG3 (oIl nG2 (oCs 229 2 (oRi 4294967296))))
noncomputable def B184_28 : rP := (oAl nG0 (oGf 24 2 vR (oIl nG1 (oCv 50 11 1 (oCst (Nat.beq 40) (oAs nS3 (oIl nG2 (oPsh (vI 13) (oCs 250 2 (oIf zNe yNe B184_57 (oAl nG0 (oPsh (vI 2) (oCv 24 287 1 (oRi 4294967296))))))))))))))
noncomputable def B184_22 : rP := (oAl nG0 (oPsh (vI 1) (oCv 24 287 1 (oRi 4294967296))))
noncomputable def B184_0 : rP := (oEnt 4 (oAl nG0 (oPsh (vI 0) (oPf 24 0 0 (oIl nG1 (oIf zLt yLt B184_22 (oIl nG1 (oAl nG0 (oGf 24 2 vR (oCv 50 16 0 (oIc cLt gLt B184_28 B184_22)))))))))))
noncomputable def B185_14 : rP := (oRi 2)
noncomputable def B185_13 : rP := (oPsh (vI 0) B185_14)
noncomputable def B185_0 : rP := (oEnt 2 (oIl nG0 (oIf zLt yLt B185_13 (oIl nG0 (oIl nG1 (oIc cGe gGe B185_13 (oPsh (vI 1) (oGo B185_14))))))))
noncomputable def B186_149 : rP := oRv
noncomputable def B186_115 : rP := (oIl nG1 (oPsh (vI 4) (oIc cGe gGe B186_149 (oAl nG0 (oGf 24 4 vR (oGf 42 1 vR (oIl nG1 (oAl nG0 (oGf 24 1 vR (oAas okAs (oAl nG0 (oGf 24 4 vR (oGf 42 2 vR (oIl nG1 (oPsh (vI 1) (oAst 1 0 (oInc nG1 nS1 1 (oGo (oJb 252)))))))))))))))))))
noncomputable def B186_0 : rP := (oEnt 2 (oAl nG0 (oOi (oAl nG0 (oPsh (vI 3) (oPsh (vI 0) (oCs 295 2 (oPf 24 1 2 (oAl nG0 (oNew 50 3 (oDup (oCi 14 0 (oPf 24 2 2 (oAl nG0 (oNew 50 3 (oDup (oCi 14 0 (oPf 24 3 2 (oAl nG0 (oNew 42 6 (oDup (oCi 186 0 (oPf 24 4 2 (oAl nG0 (oNew 50 3 (oDup (oCi 14 0 (oPf 24 5 2 (oAl nG0 (oPsh (vI 30) (oNwa 1 (oPf 24 6 2 (oAl nG0 (oPsh (vI 30) (oNwa 1 (oPf 24 7 2 (oAl nG0 (oNew 50 3 (oDup (oCi 14 0 (oPf 24 9 2 (oAl nG0 (oGf 24 2 vR (oPsh (vI 0) (oPsh (vI 0) (oCs 295 2 (oCv 50 8 1 (oPop (oAl nG0 (oGf 24 2 vR (oAl nG0 (oGf 24 1 vR (oCv 50 8 1 (oPop (oPsh (vI 0) (oIs nS1 B186_115))))))))))))))))))))))))))))))))))))))))))))))))))))))))
noncomputable def B187_20 : rP := (oRi 2)
noncomputable def B187_19 : rP := (oPsh (vI 0) B187_20)
noncomputable def B187_0 : rP := (oEnt 1 (oAl nG0 (oCv 40 175 0 (oIf zNe yNe B187_19 (oAl nG0 (oCs 270 1 (oPsh (vI 4294967295) (oIc cNe gNe B187_19 (oPsh (vI 1) (oGo B187_20))))))))))
noncomputable def B188_210 : rP := (oPsh (vI 0) (oRi 2))
noncomputable def B188_191 : rP := (oIl nG1 (oPsh (vI 13) (oIc cNe gNe B188_210 (oIl nG6 (oIf zEq yEq B188_210 oNone)))))
noncomputable def B188_189 : rP := (oPsh (vI 0) (oRi 2))
noncomputable def B188_175 : rP := (oIl nG6 (oIf zEq yEq B188_189 oNone))
noncomputable def B188_174 : rP := (oRi 2)
noncomputable def B188_173 : rP := (oPsh (vI 0) B188_174)
noncomputable def B188_160 : rP := (oIl nG4 (oIf zEq yEq B188_173 (oIl nG3 (oIf zNe yNe B188_173 (oPsh (vI 1) (oGo B188_174))))))
noncomputable def B188_159 : rP := (oRi 2)
noncomputable def B188_158 : rP := (oPsh (vI 0) B188_159)
noncomputable def B188_144 : rP := (oIl nG4 (oIf zEq yEq B188_158 (oIl nG5 (oIf zEq yEq B188_158 (oPsh (vI 1) (oGo B188_159))))))
noncomputable def B188_143 : rP := (oRi 2)
noncomputable def B188_142 : rP := (oPsh (vI 0) B188_143)
noncomputable def B188_126 : rP := (oIl nG2 (oPsh (vI 4) (oCs 250 2 (oIf zEq yEq B188_142 (oIl nG3 (oIf zNe yNe B188_142 (oPsh (vI 1) (oGo B188_143))))))))
noncomputable def B188_125 : rP := (oRi 2)
noncomputable def B188_124 : rP := (oPsh (vI 0) B188_125)
noncomputable def B188_112 : rP := (oIl nG2 (oIf zNe yNe B188_124 (oIl nG3 (oIf zNe yNe B188_124 (oPsh (vI 1) (oGo B188_125))))))
noncomputable def B188_0 : rP := (oEnt 7 (oIl nG2 (oAl nG0 (oGf 24 2 vR (oCv 50 16 0 (oCs 250 2 (oIs nS4 (oIl nG3 (oAl nG0 (oGf 24 2 vR (oCv 50 16 0 (oCs 250 2 (oIs nS5 (oIl nG2 (oAl nG0 (oGf 24 3 vR (oCv 50 16 0 (oCs 250 2 (oIs nS6 (oIl nG1 (oTsw [B188_112, B188_112, B188_126, B188_112, B188_144, B188_144, B188_144, B188_144, B188_160, B188_160, B188_160, B188_175, B188_175] 13 B188_191)))))))))))))))))))))
noncomputable def B189_35 : rP := (oRi 2)
noncomputable def B189_34 : rP := (oPsh (vI 0) B189_35)
noncomputable def B189_19 : rP := (oIl nG1 (oPsh (vI 1) (oIc cNe gNe B189_34 (oIl nG2 (oPsh (vI 10) (oIc cGt gGt B189_34 (oPsh (vI 1) (oGo B189_35))))))))
noncomputable def B189_4 : rP := (oIl nG1 (oPsh (vI 3) (oIc cLe gLe B189_19 (oIl nG1 (oPsh (vI 4) (oDiv aDv fDiv gDiv (oIs nS1 (oInc nG2 nS2 1 (oGo (oJb 256))))))))))
noncomputable def B189_0 : rP := (oEnt 3 (oIl nG0 (oIs nS1 (oPsh (vI 0) (oIs nS2 B189_4)))))
noncomputable def B190_0 : rP := (oEnt 2 (oNew 30 2 (oDup (oAl nG0 (oAl nG1 (oCi 144 2 (oCv 30 219 0 oRa)))))))
noncomputable def B191_108 : rP := (oPsh (vI 4) (oNwa 3 (oDup (oPsh (vI 0) (oPsh (vI 1) (oAst 3 3 (oDup (oPsh (vI 1) (oPsh (vI 1) (oAst 3 3 (oDup (oPsh (vI 2) (oPsh (vI 1) (oAst 3 3 (oDup (oPsh (vI 3) (oPsh (vI 1) (oAst 3 3 (oAs nS4 (oAl nG1 (oAl nG4 (oCs 264 2 (oRi 4294967296)))))))))))))))))))))))
noncomputable def B191_103 : rP := (oAl nG1 (oCs 270 1 (oRi 4294967296)))
noncomputable def B191_102 : rP := (oRi 4294967296)
noncomputable def B191_101 : rP := (oPsh (vI 0) B191_102)
noncomputable def B191_90 : rP := (oAl nG1 (oCs 253 1 (oIf zEq yEq B191_101 (oPsh (vI 1) (oGo B191_102)))))
noncomputable def B191_84 : rP := (oAl nG0 (oAl nG1 (oCv 24 260 1 (oRi 4294967296))))
noncomputable def B191_82 : rP := (oIl nG3 (oRi 4294967296))
noncomputable def B191_74 : rP := (oBin fOr xN xN (oIs nS3 (oInc nG4 nS4 1 (oGo (oJb 259)))))
noncomputable def B191_73 : rP := (oPsh (vI 0) B191_74)
noncomputable def B191_46 : rP := (oIl nG4 (oAl nG1 (oGf 40 0 vI (oIc cGe gGe B191_82 (oIl nG3 (oAl nG1 (oGf 40 2 vR (oIl nG4 (oAld 3 vI (oIf zEq yEq B191_73 (oPsh (vI 1) (oIl nG4 (oBin fShl xN xN (oGo B191_74))))))))))))))
noncomputable def B191_41 : rP := (oPsh (vI 0) (oIs nS3 (oPsh (vI 0) (oIs nS4 B191_46))))
noncomputable def B191_36 : rP := (oAl nG1 (oGf 40 0 vI (oRi 4294967296)))
noncomputable def B191_0 : rP := (oEnt 5 (oIl nG2 (oTsw [B191_36, B191_41, B191_84, B191_90, B191_103] 5 B191_108)))
noncomputable def B192_0 : rP := (oEnt 2 (oAl nG1 (oAl nG0 (oCv 24 289 0 (oCs 225 2 (oRi 4294967296))))))
noncomputable def B193_22 : rP := (oAl nG0 (oPsh (vI 1) (oCv 24 287 1 (oRi 4294967296))))
noncomputable def B193_0 : rP := (oEnt 4 (oAl nG0 (oPsh (vI 0) (oPf 24 0 0 (oIl nG1 (oIf zLt yLt B193_22 (oIl nG1 (oAl nG0 (oGf 24 5 vR (oCv 50 16 0 (oIc cLt gLt oNone B193_22)))))))))))
noncomputable def B194_19 : rP := (oIl nG1 (oRi 4294967296))
noncomputable def B194_4 : rP := (oIl nG2 (oPsh (vI 1) (oIc cLe gLe B194_19 (oInc nG1 nS1 1 (oIl nG2 (oPsh (vI 4) (oDiv aDv fDiv gDiv (oIs nS2 (oGo (oJb 263))))))))))
noncomputable def B194_0 : rP := (oEnt 3 (oPsh (vI 0) (oIs nS1 (oIl nG0 (oIs nS2 B194_4)))))
noncomputable def B195_223 : rP := (oIl nG2 (oRi 4294967296))
noncomputable def B195_217 : rP := (oInc nG5 nS5 1 (oGo (oJb 268)))
noncomputable def B195_209 : rP := (oBin fOr xN xN (oIs nS2 (oInc nG6 nS6 1 (oGo (oJb 269)))))
noncomputable def B195_208 : rP := (oPsh (vI 0) B195_209)
noncomputable def B195_166 : rP := (oIl nG6 (oPsh (vI 4) (oIc cGe gGe B195_217 (oIl nG2 (oAl nG1 (oIl nG6 (oAld 3 vI (oIf zEq yEq B195_208 (oAl nG3 (oIl nG5 (oAld 3 vI (oIf zEq yEq B195_208 (oAl nG4 (oAl nG0 (oIl nG5 (oIl nG6 (oCv 40 171 2 (oAld 3 vI (oIf zEq yEq B195_208 (oPsh (vI 1) (oIl nG6 (oBin fShl xN xN (oGo B195_209)))))))))))))))))))))))
noncomputable def B195_154 : rP := (oIl nG5 (oAl nG0 (oGf 40 0 vI (oIc cGe gGe B195_223 (oPsh (vI 0) (oIs nS6 B195_166))))))
noncomputable def B195_151 : rP := (oPsh (vI 0) (oIs nS5 B195_154))
noncomputable def B195_145 : rP := (oInc nG5 nS5 1 (oGo (oJb 265)))
noncomputable def B195_139 : rP := (oInc nG6 nS6 1 (oGo (oJb 266)))
noncomputable def B195_131 : rP := (oBin fOr xN xN (oAst 3 3 (oInc nG7 nS7 1 (oGo (oJb 267)))))
noncomputable def B195_130 : rP := (oPsh (vI 0) B195_131)
noncomputable def B195_97 : rP := (oBin fOr xN xN (oAst 3 3 (oAl nG4 (oIl nG6 (oDup2 (oAld 3 vI (oAl nG1 (oIl nG7 (oAld 3 vI (oIf zEq yEq B195_130 (oAl nG4 (oAl nG0 (oIl nG6 (oIl nG7 (oCv 40 171 2 (oAld 3 vI (oIf zEq yEq B195_130 (oPsh (vI 1) (oGo B195_131)))))))))))))))))))
noncomputable def B195_61 : rP := (oIl nG7 (oPsh (vI 4) (oIc cGe gGe B195_139 (oAl nG3 (oAl nG0 (oIl nG6 (oIl nG7 (oCv 40 171 2 (oDup2 (oAld 3 vI (oAl nG1 (oIl nG7 (oAld 3 vI (oIf zEq yEq oNone (oAl nG3 (oIl nG6 (oAld 3 vI (oIf zEq yEq oNone (oPsh (vI 1) (oGo B195_97))))))))))))))))))))
noncomputable def B195_34 : rP := (oIl nG6 (oAl nG0 (oGf 40 0 vI (oIc cGe gGe B195_145 (oAl nG4 (oIl nG6 (oDup2 (oAld 3 vI (oAl nG0 (oGf 40 2 vR (oIl nG6 (oAld 3 vI (oBin fOr xN xN (oAst 3 3 (oPsh (vI 0) (oIs nS7 B195_61))))))))))))))))
noncomputable def B195_22 : rP := (oIl nG5 (oAl nG0 (oGf 40 0 vI (oIc cGt gGt B195_151 (oPsh (vI 0) (oIs nS6 B195_34))))))
noncomputable def B195_0 : rP := (oEnt 8 (oPsh (vI 0) (oIs nS2 (oAl nG0 (oGf 40 0 vI (oPsh (vI 0) (oCs 291 2 (oAs nS3 (oAl nG0 (oGf 40 0 vI (oNwa 3 (oAs nS4 (oPsh (vI 0) (oIs nS5 B195_22))))))))))))))
noncomputable def B196_133 : rP := (oPsh (vI 4294967295) (oRi 4294967296))
noncomputable def B196_124 : rP := (oAl nG5 (oAs nS2 (oInc nG4 nS4 1 (oGo (oJb 271)))))
noncomputable def B196_117 : rP := (oIl nG6 (oIf zNe yNe B196_124 (oIl nG3 (oRi 4294967296))))
noncomputable def B196_111 : rP := (oInc nG7 nS7 1 (oGo (oJb 272)))
noncomputable def B196_87 : rP := (oIl nG8 (oPsh (vI 4) (oIc cGe gGe B196_111 (oAl nG5 (oAl nG0 (oIl nG7 (oIl nG8 (oCv 40 171 2 (oPsh (vI 1) (oAst 3 3 (oInc nG8 nS8 1 (oGo (oJb 273)))))))))))))
noncomputable def B196_84 : rP := (oPsh (vI 0) (oIs nS8 B196_87))
noncomputable def B196_68 : rP := (oPsh (vI 1) (oIs nS6 (oAl nG0 (oGf 40 2 vR (oIl nG7 (oAld 3 vI (oIf zEq yEq B196_84 (oIl nG4 (oIs nS3 B196_84)))))))))
noncomputable def B196_42 : rP := (oIl nG7 (oAl nG0 (oGf 40 0 vI (oIc cGe gGe B196_117 (oAl nG2 (oIl nG7 (oAld 3 vI (oIf zEq yEq B196_111 (oAl nG1 (oIl nG7 (oAld 3 vI (oIf zNe yNe B196_68 (oGo B196_111)))))))))))))
noncomputable def B196_19 : rP := (oIl nG4 (oAl nG0 (oGf 40 0 vI (oIc cGt gGt B196_133 (oAl nG0 (oGf 40 0 vI (oNwa 3 (oAs nS5 (oPsh (vI 0) (oIs nS6 (oPsh (vI 0) (oIs nS7 B196_42))))))))))))
noncomputable def B196_0 : rP := (oEnt 9 (oAl nG0 (oCv 40 176 0 (oAs nS1 (oAl nG0 (oGf 40 0 vI (oPsh (vI 0) (oCs 291 2 (oAs nS2 (oPsh (vI 4294967295) (oIs nS3 (oPsh (vI 0) (oIs nS4 B196_19)))))))))))))
noncomputable def B197_22 : rP := (oAl nG0 (oPsh (vI 1) (oCv 24 287 1 (oRi 4294967296))))
noncomputable def B197_0 : rP := (oEnt 4 (oAl nG0 (oPsh (vI 0) (oPf 24 0 0 (oIl nG1 (oIf zLt yLt B197_22 (oIl nG1 (oAl nG0 (oGf 24 3 vR (oCv 50 16 0 (oIc cLt gLt oNone B197_22)))))))))))
noncomputable def B198_25 : rP := (oAl nG0 (oGf 24 3 vR (oNew 44 6 (oDup (oCi 194 0 (oCv 50 8 1 (oPop (oAl nG0 (oGf 24 3 vR (oCv 50 16 0 (oPsh (vI 1) (oBin fSub xN xN (oRi 4294967296)))))))))))))
noncomputable def B198_0 : rP := (oEnt 1 (oAl nG0 (oPsh (vI 0) (oPf 24 0 0 (oAl nG0 (oGf 24 3 vR (oCv 50 16 0 (oPsh (vI 6) (oIc cLt gLt B198_25 oNone)))))))))
noncomputable def B199_173 : rP := (oAl nG0 (oGf 24 2 vR (oIl nG2 (oCv 50 11 1 (oCst (Nat.beq 40) (oCs 248 1 oRa))))))
noncomputable def B199_156 : rP := (oAl nG0 (oGf 24 2 vR (oIl nG2 (oCv 50 11 1 (oCst (Nat.beq 40) (oCs 307 1 oRa))))))
noncomputable def B199_139 : rP := (oAl nG0 (oGf 24 2 vR (oIl nG2 (oCv 50 11 1 (oCst (Nat.beq 40) (oCs 301 1 oRa))))))
noncomputable def B199_108 : rP := (oIl nG1 (oAl nG0 (oGf 24 2 vR (oIl nG2 (oCv 50 11 1 (oCst (Nat.beq 40) (oAl nG0 (oGf 24 2 vR (oIl nG3 (oCv 50 11 1 (oCst (Nat.beq 40) (oCs 292 3 oRa))))))))))))
noncomputable def B199_78 : rP := (oAl nG0 (oGf 24 2 vR (oIl nG2 (oCv 50 11 1 (oCst (Nat.beq 40) (oAl nG0 (oGf 24 2 vR (oIl nG3 (oCv 50 11 1 (oCst (Nat.beq 40) (oCs 257 2 oRa)))))))))))
noncomputable def B199_72 : rP := (oIl nG1 (oIl nG2 (oCs 295 2 oRa)))
noncomputable def B199_0 : rP := (oEnt 4 (oIl nG1 (oTsw [B199_72, B199_72, B199_72, B199_72, B199_78, B199_108, B199_108, B199_108, B199_139, B199_156, B199_173, oNone, oNone, oNone] 14 oNone)))
noncomputable def B200_112 : rP := (oAl nG0 (oGf 24 2 vR (oAl nG4 (oCv 50 8 1 (oPop (oAl nG0 (oGf 24 2 vR (oCv 50 16 0 (oPsh (vI 1) (oBin fSub xN xN (oRi 4294967296)))))))))))
noncomputable def B200_92 : rP := (oAl nG0 (oGf 24 2 vR (oCv 50 16 0 (oPsh (vI 40) (oIc cLt gLt B200_112 oNone)))))
noncomputable def B200_86 : rP := (oInc nG5 nS5 1 (oGo (oJb 278)))
noncomputable def B200_47 : rP := (oIl nG5 (oAl nG0 (oGf 24 2 vR (oCv 50 16 0 (oIc cGe gGe B200_92 (oAl nG0 (oGf 24 2 vR (oIl nG5 (oCv 50 11 1 (oCst (Nat.beq 40) (oAl nG4 (oCv 40 180 1 (oIf zEq yEq B200_86 (oIl nG5 (oRi 4294967296)))))))))))))))
noncomputable def B200_44 : rP := (oPsh (vI 0) (oIs nS5 B200_47))
noncomputable def B200_21 : rP := (oAl nG0 (oIl nG1 (oIl nG2 (oIl nG3 (oCv 24 276 3 (oAs nS4 (oAl nG4 (oGf 40 0 vI (oIf zGt yGt B200_44 oNone)))))))))
noncomputable def B200_0 : rP := (oEnt 6 (oAl nG0 (oPsh (vI 0) (oPf 24 0 0 (oAl nG0 (oIl nG1 (oIl nG2 (oIl nG3 (oCv 24 254 3 (oIf zNe yNe B200_21 (oAl nG0 (oPsh (vI 1) (oCv 24 287 1 (oRi 4294967296))))))))))))))
noncomputable def B201_20 : rP := (oAl nG0 (oIl nG1 (oNew 46 5 (oDup (oAl nG0 (oCi 202 1 (oCv 24 280 2 (oRi 4294967296))))))))
noncomputable def B201_0 : rP := (oEnt 2 (oAl nG0 (oPsh (vI 0) (oPf 24 0 0 (oIl nG1 (oPsh (vI 10) (oCs 250 2 (oIf zNe yNe B201_20 (oAl nG0 (oPsh (vI 1) (oCv 24 287 1 (oRi 4294967296))))))))))))
noncomputable def B202_295 : rP := (oIl nG3 (oRi 4294967296))
noncomputable def B202_254 : rP := (oPsh (vI 0) (oIs nS4 (oIl nG4 (oAl nG0 (oGf 24 9 vR (oCv 50 16 0 (oIc cGe gGe B202_295 oNone)))))))
noncomputable def B202_249 : rP := (oAl nG2 (oGf 46 2 vI (oRi 4294967296)))
noncomputable def B202_239 : rP := (oAl nG0 (oGf 24 9 vR (oCv 50 16 0 (oRi 4294967296))))
noncomputable def B202_234 : rP := (oAl nG0 (oGf 24 8 vI (oRi 4294967296)))
noncomputable def B202_224 : rP := (oAl nG0 (oGf 24 5 vR (oCv 50 16 0 (oRi 4294967296))))
noncomputable def B202_222 : rP := (oIl nG3 (oRi 4294967296))
noncomputable def B202_130 : rP := (oPsh (vI 0) (oIs nS4 (oIl nG4 (oAl nG0 (oGf 24 4 vR (oGf 42 0 vR (oCv 50 16 0 (oIc cGe gGe B202_222 oNone))))))))
noncomputable def B202_117 : rP := (oAl nG0 (oGf 24 4 vR (oGf 42 0 vR (oCv 50 16 0 (oRi 4294967296)))))
noncomputable def B202_115 : rP := (oIl nG3 (oRi 4294967296))
noncomputable def B202_72 : rP := (oPsh (vI 0) (oIs nS4 (oIl nG4 (oAl nG0 (oGf 24 3 vR (oCv 50 16 0 (oIc cGe gGe B202_115 oNone)))))))
noncomputable def B202_62 : rP := (oAl nG0 (oGf 24 3 vR (oCv 50 16 0 (oRi 4294967296))))
noncomputable def B202_52 : rP := (oAl nG0 (oGf 24 2 vR (oCv 50 16 0 (oRi 4294967296))))
noncomputable def B202_0 : rP := (oEnt 5 (oPsh (vI 0) (oIs nS3 (oIl nG1 (oTsw [B202_52, B202_62, B202_72, B202_117, B202_130, B202_224, B202_234, B202_239, B202_249] 9 B202_254)))))
noncomputable def B203_47 : rP := (oIl nG1 (oI2d (oAl nG0 (oGf 24 2 vR (oCv 50 16 0 (oI2d (oDdiv oRd)))))))
noncomputable def B203_9 : rP := (oIl nG2 (oAl nG0 (oGf 24 2 vR (oCv 50 16 0 (oIc cGe gGe B203_47 (oIl nG1 (oAl nG0 (oGf 24 2 vR (oIl nG2 (oCv 50 11 1 (oCst (Nat.beq 40) (oGf 40 0 vI (oBin fAdd xN gAdd (oIs nS1 (oInc nG2 nS2 1 (oGo (oJb 282)))))))))))))))))
noncomputable def B203_0 : rP := (oEnt 3 (oAl nG0 (oPsh (vI 0) (oPf 24 0 0 (oPsh (vI 0) (oIs nS1 (oPsh (vI 0) (oIs nS2 B203_9))))))))
noncomputable def B204_49 : rP := (oIl nG3 (oRi 2))
noncomputable def B204_41 : rP := (oBin fOr xN xN (oIs nS3 (oInc nG4 nS4 1 (oGo (oJb 284)))))
noncomputable def B204_40 : rP := (oPsh (vI 0) B204_41)
noncomputable def B204_5 : rP := (oIl nG4 (oAl nG0 (oGf 40 0 vI (oIc cGe gGe B204_49 (oIl nG3 (oLl nG1 (oIl nG4 (oShL fLshr (oPsh (vL 1) (oBinL aT fAnd (oPsh (vL 1) (oLcmp fLcmp (oIf zNe yNe B204_40 (oAl nG0 (oGf 40 2 vR (oIl nG4 (oAld 3 vI (oIf zEq yEq B204_40 (oPsh (vI 1) (oGo B204_41))))))))))))))))))))
noncomputable def B204_0 : rP := (oEnt 5 (oPsh (vI 0) (oIs nS3 (oPsh (vI 0) (oIs nS4 B204_5)))))
noncomputable def B205_22 : rP := (oAl nG0 (oPsh (vI 1) (oCv 24 287 1 (oRi 4294967296))))
noncomputable def B205_0 : rP := (oEnt 3 (oAl nG0 (oPsh (vI 0) (oPf 24 0 0 (oIl nG1 (oIf zLt yLt B205_22 (oIl nG1 (oAl nG0 (oGf 24 5 vR (oCv 50 16 0 (oIc cLt gLt oNone B205_22)))))))))))
noncomputable def B206_77 : rP := (oAl nG4 (oIl nG2 (oIl nG3 (oCv 40 171 2 (oRi 4294967296)))))
noncomputable def B206_71 : rP := (oAl nG0 (oPsh (vI 1) (oCv 24 287 1 (oRi 4294967296))))
noncomputable def B206_62 : rP := (oIl nG3 (oIf zLt yLt B206_71 (oIl nG3 (oPsh (vI 4) (oIc cLt gLt B206_77 B206_71)))))
noncomputable def B206_56 : rP := (oAl nG0 (oPsh (vI 1) (oCv 24 287 1 (oRi 4294967296))))
noncomputable def B206_28 : rP := (oAl nG0 (oGf 24 2 vR (oIl nG1 (oCv 50 11 1 (oCst (Nat.beq 40) (oAs nS4 (oIl nG2 (oIf zLt yLt B206_56 (oIl nG2 (oAl nG4 (oGf 40 0 vI (oIc cLt gLt B206_62 B206_56))))))))))))
noncomputable def B206_22 : rP := (oAl nG0 (oPsh (vI 1) (oCv 24 287 1 (oRi 4294967296))))
noncomputable def B206_0 : rP := (oEnt 5 (oAl nG0 (oPsh (vI 0) (oPf 24 0 0 (oIl nG1 (oIf zLt yLt B206_22 (oIl nG1 (oAl nG0 (oGf 24 2 vR (oCv 50 16 0 (oIc cLt gLt B206_28 B206_22)))))))))))
noncomputable def B207_0 : rP := (oEnt 2 (oAl nG0 (oIl nG1 (oPf 24 0 0 (oPsh (vI 0) (oRi 4294967296))))))
noncomputable def B208_122 : rP := (oPf 24 8 0 (oAl nG0 (oGf 24 7 vR (oAl nG0 (oGf 24 8 vI (oIl nG1 (oAst 1 0 (oAl nG0 (oGf 24 6 vR (oAl nG0 (oGf 24 8 vI (oIl nG2 (oAst 1 0 (oAl nG0 (oDup (oGf 24 8 vI (oDupX (oPsh (vI 1) (oBin fAdd xN gAdd (oPf 24 8 0 (oRi 4294967296)))))))))))))))))))))
noncomputable def B208_108 : rP := (oAl nG0 (oIl nG1 (oPsh (vI 4294967295) (oIc cNe gNe oNone (oPsh (vI 0) (oGo B208_122))))))
noncomputable def B208_82 : rP := (oIl nG1 (oPsh (vI 4294967295) (oIc cEq gEq B208_108 oNone)))
noncomputable def B208_43 : rP := (oPsh (vI 0) (oIs nS3 (oPsh (vI 1) (oIs nS4 (oIl nG4 (oAl nG0 (oGf 24 8 vI (oIc cGe gGe B208_82 oNone))))))))
noncomputable def B208_37 : rP := (oAl nG0 (oPsh (vI 1) (oCv 24 287 1 (oRi 4294967296))))
noncomputable def B208_28 : rP := (oIl nG2 (oIf zLt yLt B208_37 (oIl nG2 (oPsh (vI 4) (oIc cLt gLt B208_43 B208_37)))))
noncomputable def B208_22 : rP := (oAl nG0 (oPsh (vI 1) (oCv 24 287 1 (oRi 4294967296))))
noncomputable def B208_0 : rP := (oEnt 5 (oAl nG0 (oPsh (vI 0) (oPf 24 0 0 (oIl nG1 (oPsh (vI 4294967295) (oIc cEq gEq B208_28 (oIl nG1 (oIf zLt yLt B208_22 (oIl nG1 (oAl nG0 (oGf 24 8 vI (oIc cLt gLt B208_28 B208_22)))))))))))))
noncomputable def B209_0 : rP := (oEnt 1 (oAl nG0 (oGf 24 2 vR (oPsh (vI 0) (oCv 50 11 1 (oCst (Nat.beq 40) oRa))))))
noncomputable def B210_57 : rP := (oAl nG0 (oAl nG3 (oIl nG2 (oCv 24 258 2 (oRi 4294967296)))))
noncomputable def B210_28 : rP := (oAl nG0 (oGf 24 2 vR (oIl nG1 (oCv 50 11 1 (oCst (Nat.beq 40) (oAs nS3 (oIl nG2 (oPsh (vI 6) (oCs 250 2 (oIf zNe yNe B210_57 (oAl nG0 (oPsh (vI 2) (oCv 24 287 1 (oRi 4294967296))))))))))))))
noncomputable def B210_22 : rP := (oAl nG0 (oPsh (vI 1) (oCv 24 287 1 (oRi 4294967296))))
noncomputable def B210_0 : rP := (oEnt 4 (oAl nG0 (oPsh (vI 0) (oPf 24 0 0 (oIl nG1 (oIf zLt yLt B210_22 (oIl nG1 (oAl nG0 (oGf 24 2 vR (oCv 50 16 0 (oIc cLt gLt B210_28 B210_22)))))))))))
noncomputable def B211_0 : rP := (oEnt 3 (oIl nG0 (oNwa 3 (oAs nS2 (oAl nG2 (oIl nG1 (oPsh (vI 1) (oAst 3 3 (oAl nG2 oRa)))))))))
noncomputable def B212_0 : rP := (oEnt 3 (oNew 28 3 (oDup (oAl nG1 (oAl nG2 (oIl nG0 (oCi 140 3 (oCv 28 219 0 oRa))))))))
noncomputable def B213_24 : rP := (oPsh (vI 4) (oNwa 9 (oDup (oPsh (vI 0) (oAl nG0 (oCv 24 289 0 (oAas okAs (oDup (oPsh (vI 1) (oAl nG0 (oCv 24 289 0 (oAas okAs (oDup (oPsh (vI 2) (oAl nG0 (oCv 24 289 0 (oAas okAs (oDup (oPsh (vI 3) (oAl nG0 (oCv 24 289 0 (oAas okAs (oAs nS1 (oAl nG0 (oGf 24 5 vR (oAl nG1 (oCv 50 8 1 (oPop (oAl nG0 (oGf 24 5 vR (oCv 50 16 0 (oPsh (vI 1) (oBin fSub xN xN (oRi 4294967296))))))))))))))))))))))))))))))))))
noncomputable def B213_0 : rP := (oEnt 2 (oAl nG0 (oPsh (vI 0) (oPf 24 0 0 (oAl nG0 (oGf 24 5 vR (oCv 50 16 0 (oPsh (vI 4) (oIc cLt gLt B213_24 oNone)))))))))
noncomputable def B214_22 : rP := (oAl nG0 (oPsh (vI 1) (oCv 24 287 1 (oRi 4294967296))))
noncomputable def B214_0 : rP := (oEnt 4 (oAl nG0 (oPsh (vI 0) (oPf 24 0 0 (oIl nG1 (oIf zLt yLt B214_22 (oIl nG1 (oAl nG0 (oGf 24 3 vR (oCv 50 16 0 (oIc cLt gLt oNone B214_22)))))))))))
noncomputable def B215_0 : rP := (oEnt 2 (oNew 26 2 (oDup (oIl nG0 (oIl nG1 (oCi 136 2 (oCv 26 219 0 oRa)))))))
noncomputable def B216_0 : rP := (oEnt 1 (oAl nG0 (oPsh (vI 0) (oPf 24 0 0 (oAl nG0 (oGf 24 4 vR (oCv 42 187 0 (oAl nG0 (oGf 24 4 vR (oGf 42 5 vI (oRi 4294967296)))))))))))
noncomputable def B217_34 : rP := (oAl nG0 (oGf 24 4 vR (oGf 42 2 vR (oIl nG1 (oIal (oIs nS3 (oAl nG0 (oGf 24 4 vR (oGf 42 2 vR (oIl nG1 (oIl nG2 (oAst 1 0 (oAl nG0 (oGf 24 4 vR (oCv 42 187 0 (oAl nG0 (oGf 24 4 vR (oGf 42 2 vR (oIl nG1 (oIl nG3 (oAst 1 0 (oAl nG0 (oGf 24 4 vR (oGf 42 5 vI (oRi 4294967296)))))))))))))))))))))))))
noncomputable def B217_20 : rP := (oIl nG2 (oPsh (vI 3) (oCs 250 2 (oIf zNe yNe B217_34 (oAl nG0 (oPsh (vI 2) (oCv 24 287 1 (oRi 4294967296))))))))
noncomputable def B217_14 : rP := (oAl nG0 (oPsh (vI 1) (oCv 24 287 1 (oRi 4294967296))))
noncomputable def B217_0 : rP := (oEnt 4 (oAl nG0 (oPsh (vI 0) (oPf 24 0 0 (oIl nG1 (oIf zLt yLt B217_14 (oIl nG1 (oPsh (vI 4) (oIc cLt gLt B217_20 B217_14)))))))))
noncomputable def B218_20 : rP := (oAl nG0 (oGf 24 4 vR (oCv 42 187 0 (oAl nG0 (oGf 24 4 vR (oGf 42 4 vR (oIl nG1 (oIal (oRi 4294967296)))))))))
noncomputable def B218_14 : rP := (oAl nG0 (oPsh (vI 1) (oCv 24 287 1 (oRi 4294967296))))
noncomputable def B218_0 : rP := (oEnt 2 (oAl nG0 (oPsh (vI 0) (oPf 24 0 0 (oIl nG1 (oIf zLt yLt B218_14 (oIl nG1 (oPsh (vI 4) (oIc cLt gLt B218_20 B218_14)))))))))
noncomputable def B219_50 : rP := (oAl nG0 (oNew 46 5 (oDup (oAl nG0 (oCi 202 1 (oIl nG1 (oIl nG2 (oIl nG3 (oCv 24 300 4 (oRi 4294967296))))))))))
noncomputable def B219_36 : rP := (oIl nG3 (oPsh (vI 4) (oCs 250 2 (oIf zNe yNe B219_50 (oAl nG0 (oPsh (vI 2) (oCv 24 287 1 (oRi 4294967296))))))))
noncomputable def B219_30 : rP := (oAl nG0 (oPsh (vI 1) (oCv 24 287 1 (oRi 4294967296))))
noncomputable def B219_21 : rP := (oIl nG2 (oIf zLt yLt B219_30 (oIl nG2 (oPsh (vI 3) (oIc cLt gLt B219_36 B219_30)))))
noncomputable def B219_15 : rP := (oAl nG0 (oPsh (vI 1) (oCv 24 287 1 (oRi 4294967296))))
noncomputable def B219_0 : rP := (oEnt 4 (oAl nG0 (oPsh (vI 0) (oPf 24 0 0 (oIl nG1 (oIf zLt yLt B219_15 (oIl nG1 (oPsh (vI 11) (oIc cLt gLt B219_21 B219_15)))))))))
noncomputable def B220_19 : rP := (oIs nS5 (oAl nG1 (oGf 46 1 vR (oIl nG5 (oAld 3 vI (oIf zNe yNe oNone (oPsh (vI 0) (oRi 4294967296))))))))
noncomputable def B220_0 : rP := (oEnt 7 (oIl nG2 (oAl nG0 (oGf 24 9 vR (oCv 50 16 0 (oIc cLt gLt oNone (oPsh (vI 10) (oGo B220_19))))))))
noncomputable def B221_0 : rP := (oEnt 1 (oNew 32 1 (oDup (oAl nG0 (oCi 149 1 (oCv 32 219 0 oRa))))))
noncomputable def B222_46 : rP := (oLl nG4 oRl)
noncomputable def B222_40 : rP := (oInc nG6 nS6 1 (oGo (oJb 303)))
noncomputable def B222_6 : rP := (oIl nG6 (oAl nG0 (oGf 40 0 vI (oIc cGe gGe B222_46 (oLl nG1 (oIl nG6 (oShL fLshr (oPsh (vL 1) (oBinL aT fAnd (oPsh (vL 1) (oLcmp fLcmp (oIf zNe yNe B222_40 (oLl nG4 (oPsh (vL 1) (oAl nG0 (oIl nG6 (oIl nG3 (oCv 40 171 2 (oShL fLshl (oBinL aT fOr (oLs nD4 B222_40)))))))))))))))))))))
noncomputable def B222_0 : rP := (oEnt 7 (oPsh (vL 0) (oLs nD4 (oPsh (vI 0) (oIs nS6 B222_6)))))
noncomputable def B223_176 : rP := (oAl nG0 (oGf 24 9 vR (oNew 48 4 (oDup (oIl nG1 (oIl nG2 (oIl nG3 (oIl nG4 (oCi 203 4 (oCv 50 8 1 (oPop (oAl nG0 (oGf 24 9 vR (oCv 50 16 0 (oPsh (vI 1) (oBin fSub xN xN (oRi 4294967296)))))))))))))))))
noncomputable def B223_156 : rP := (oAl nG0 (oGf 24 9 vR (oCv 50 16 0 (oPsh (vI 10) (oIc cLt gLt B223_176 oNone)))))
noncomputable def B223_143 : rP := (oIs nS7 (oIl nG7 (oIf zNe yNe B223_156 (oAl nG0 (oPsh (vI 1) (oCv 24 287 1 (oRi 4294967296)))))))
noncomputable def B223_142 : rP := (oPsh (vI 0) B223_143)
noncomputable def B223_138 : rP := (oPsh (vI 1) (oGo B223_143))
noncomputable def B223_128 : rP := (oIl nG1 (oPsh (vI 4) (oIc cEq gEq B223_138 (oIl nG4 (oIf zNe yNe B223_142 B223_138)))))
noncomputable def B223_123 : rP := (oIl nG6 (oIf zEq yEq B223_142 B223_128))
noncomputable def B223_99 : rP := (oIl nG1 (oPsh (vI 3) (oIc cNe gNe B223_123 (oIl nG3 (oAl nG0 (oGf 24 3 vR (oCv 50 16 0 (oCs 250 2 (oIf zEq yEq B223_142 oNone)))))))))
noncomputable def B223_88 : rP := (oIl nG3 (oPsh (vI 3) (oCs 250 2 (oIf zEq yEq B223_142 (oGo B223_128)))))
noncomputable def B223_73 : rP := (oIl nG5 (oIf zEq yEq B223_142 (oIl nG1 (oPsh (vI 1) (oIc cEq gEq B223_88 (oIl nG1 (oPsh (vI 2) (oIc cNe gNe B223_99 B223_88))))))))
noncomputable def B223_69 : rP := (oPsh (vI 0) (oGo B223_143))
noncomputable def B223_30 : rP := (oIl nG2 (oPsh (vI 3) (oCs 250 2 (oIs nS5 (oIl nG3 (oAl nG0 (oGf 24 2 vR (oCv 50 16 0 (oCs 250 2 (oIs nS6 (oIl nG1 (oPsh (vI 5) (oIc cNe gNe B223_73 (oIl nG2 (oIf zNe yNe B223_69 (oIl nG3 (oIf zNe yNe B223_69 (oPsh (vI 1) (oGo B223_143)))))))))))))))))))
noncomputable def B223_24 : rP := (oAl nG0 (oPsh (vI 1) (oCv 24 287 1 (oRi 4294967296))))
noncomputable def B223_0 : rP := (oEnt 8 (oAl nG0 (oPsh (vI 0) (oPf 24 0 0 (oIl nG1 (oPsh (vI 7) (oCs 250 2 (oIf zEq yEq B223_24 (oIl nG4 (oPsh (vI 11) (oCs 250 2 (oIf zNe yNe B223_30 B223_24))))))))))))
noncomputable def B224_25 : rP := (oAl nG0 (oPsh (vI 1) (oCv 24 287 1 (oRi 4294967296))))
noncomputable def B224_0 : rP := (oEnt 5 (oAl nG0 (oPsh (vI 0) (oPf 24 0 0 (oIl nG1 (oIf zLt yLt B224_25 (oIl nG1 (oAl nG0 (oGf 24 4 vR (oGf 42 0 vR (oCv 50 16 0 (oIc cLt gLt oNone B224_25))))))))))))
noncomputable def B225_0 : rP := (oEnt 1 (oAl nG0 (oGf 24 0 vI (oRi 4294967296))))
noncomputable def B226_0 : rP := (oEnt 1 (oNew 34 1 (oDup (oAl nG0 (oCi 155 1 (oCv 34 219 0 oRa))))))
noncomputable def B227_0 : rP := (oEnt 1 (oAl nG0 (oPsh (vI 0) (oPf 24 0 0 (oAl nG0 (oGf 24 4 vR (oGf 42 0 vR (oCv 50 15 0 (oIf zEq yEq oNone (oAl nG0 (oPsh (vI 1) (oCv 24 287 1 (oRi 4294967296)))))))))))))
noncomputable def B228_22 : rP := (oAl nG0 (oPsh (vI 1) (oCv 24 287 1 (oRi 4294967296))))
noncomputable def B228_0 : rP := (oEnt 5 (oAl nG0 (oPsh (vI 0) (oPf 24 0 0 (oIl nG1 (oIf zLt yLt B228_22 (oIl nG1 (oAl nG0 (oGf 24 5 vR (oCv 50 16 0 (oIc cLt gLt oNone B228_22)))))))))))
noncomputable def B229_21 : rP := (oAl nG0 (oIl nG1 (oIl nG2 (oIl nG3 (oCv 24 276 3 (oGf 40 0 vI (oRi 4294967296)))))))
noncomputable def B229_0 : rP := (oEnt 4 (oAl nG0 (oPsh (vI 0) (oPf 24 0 0 (oAl nG0 (oIl nG1 (oIl nG2 (oIl nG3 (oCv 24 254 3 (oIf zNe yNe B229_21 (oAl nG0 (oPsh (vI 1) (oCv 24 287 1 (oRi 4294967296))))))))))))))
noncomputable def B230_22 : rP := (oAl nG0 (oPsh (vI 1) (oCv 24 287 1 (oRi 4294967296))))
noncomputable def B230_0 : rP := (oEnt 5 (oAl nG0 (oPsh (vI 0) (oPf 24 0 0 (oIl nG1 (oIf zLt yLt B230_22 (oIl nG1 (oAl nG0 (oGf 24 3 vR (oCv 50 16 0 (oIc cLt gLt oNone B230_22)))))))))))
noncomputable def B231_0 : rP := (oEnt 3 (oAl nG0 (oGf 8 2 vR (oIl nG1 (oPsh (vI 4) (oBin fMul xN xN (oIl nG2 (oBin fAdd xN gAdd (oIal (oRi 4294967296))))))))))
noncomputable def B232_45 : rP := (oIl nG3 (oRi 4294967296))
noncomputable def B232_39 : rP := (oInc nG4 nS4 1 (oGo (oJb 314)))
noncomputable def B232_5 : rP := (oIl nG4 (oAl nG0 (oGf 8 0 vI (oIc cGe gGe B232_45 (oIl nG1 (oIl nG4 (oBin fShr gShr xN (oPsh (vI 1) (oBin fAnd gAnd xN (oIf zEq yEq B232_39 (oIl nG3 (oPsh (vI 1) (oAl nG0 (oGf 8 2 vR (oIl nG4 (oPsh (vI 4) (oBin fMul xN xN (oIl nG2 (oBin fAdd xN gAdd (oIal (oBin fShl xN xN (oBin fOr xN xN (oIs nS3 B232_39)))))))))))))))))))))))
noncomputable def B232_0 : rP := (oEnt 5 (oPsh (vI 0) (oIs nS3 (oPsh (vI 0) (oIs nS4 B232_5)))))
noncomputable def B233_45 : rP := (oIl nG3 (oRi 4294967296))
noncomputable def B233_39 : rP := (oInc nG4 nS4 1 (oGo (oJb 316)))
noncomputable def B233_5 : rP := (oIl nG4 (oAl nG0 (oGf 8 0 vI (oIc cGe gGe B233_45 (oIl nG1 (oAl nG0 (oGf 8 2 vR (oIl nG4 (oPsh (vI 4) (oBin fMul xN xN (oIl nG2 (oBin fAdd xN gAdd (oIal (oBin fShr gShr xN (oPsh (vI 1) (oBin fAnd gAnd xN (oIf zEq yEq B233_39 (oIl nG3 (oPsh (vI 1) (oIl nG4 (oBin fShl xN xN (oBin fOr xN xN (oIs nS3 B233_39)))))))))))))))))))))))
noncomputable def B233_0 : rP := (oEnt 5 (oPsh (vI 0) (oIs nS3 (oPsh (vI 0) (oIs nS4 B233_5)))))
noncomputable def B234_0 : rP := (oEnt 1 (oAl nG0 (oCv 8 320 0 (oAl nG0 (oPsh (vI 1) (oPf 8 1 0 oRv))))))
noncomputable def B235_0 : rP := (oEnt 1 (oAl nG0 (oPsh (vI 2) (oPf 8 0 0 (oAl nG0 (oPsh (vI 1) (oPf 8 1 0 (oAl nG0 (oGf 8 2 vR (oPsh (vI 1) (oCs 3 2 oRv)))))))))))
noncomputable def B236_9 : rP := (oIs nS2 (oPsh (vI 3) (oIl nG2 (oBin fSub xN xN (oIs nS3 (oAl nG0 (oPsh (vI 3) (oPf 8 0 0 (oAl nG0 (oPsh (vI 1) (oIl nG2 (oBin fShl xN xN (oPf 8 1 0 (oAl nG0 (oGf 8 2 vR (oIl nG3 (oCs 3 2 (oAl nG0 (oGf 8 2 vR (oIl nG1 (oIl nG2 (oAst 1 0 oRv))))))))))))))))))))))
noncomputable def B236_8 : rP := (oPsh (vI 2) B236_9)
noncomputable def B236_0 : rP := (oEnt 4 (oIl nG1 (oIf zNe yNe B236_8 (oPsh (vI 1) (oGo B236_9)))))
noncomputable def B237_0 : rP := (oEnt 1 (oAl nG0 (oPsh (vI 1) (oPf 8 0 0 (oAl nG0 (oPsh (vI 0) (oPf 8 1 0 (oAl nG0 (oGf 8 2 vR (oPsh (vI 0) (oCs 3 2 oRv)))))))))))
noncomputable def B238_32 : rP := (oAl nG0 (oIl nG2 (oCv 8 324 1 (oRi 2))))
noncomputable def B238_9 : rP := (oIl nG3 (oIf zLt yLt B238_32 (oAl nG0 (oIl nG2 (oIl nG1 (oPsh (vI 2) (oIl nG3 (oBin fMul xN xN (oBin fShr gShr xN (oPsh (vI 3) (oBin fAnd gAnd xN (oCv 8 312 2 (oIs nS2 (oInc nG3 nS3 4294967295 (oGo (oJb 322))))))))))))))))
noncomputable def B238_0 : rP := (oEnt 4 (oPsh (vI 0) (oIs nS2 (oIl nG1 (oCs 97 1 (oPsh (vI 1) (oBin fSub xN xN (oIs nS3 B238_9))))))))
noncomputable def B239_0 : rP := (oEnt 1 (oAl nG0 (oOi (oAl nG0 (oPsh (vI 1) (oPf 8 0 0 (oAl nG0 (oPsh (vI 40) (oNwa 1 (oPf 8 2 2 oRv))))))))))
noncomputable def B240_16 : rP := (oRi 2)
noncomputable def B240_15 : rP := (oPsh (vI 0) B240_16)
noncomputable def B240_0 : rP := (oEnt 2 (oAl nG0 (oGf 8 1 vI (oIl nG1 (oBin fShr gShr xN (oPsh (vI 1) (oBin fAnd gAnd xN (oIf zEq yEq B240_15 (oPsh (vI 1) (oGo B240_16))))))))))
noncomputable def B241_16 : rP := (oRi 2)
noncomputable def B241_15 : rP := (oPsh (vI 0) B241_16)
noncomputable def B241_0 : rP := (oEnt 1 (oAl nG0 (oCv 8 329 0 (oAl nG0 (oGf 8 0 vI (oIc cLt gLt B241_15 (oPsh (vI 1) (oGo B241_16))))))))
noncomputable def B242_60 : rP := (oIl nG4 (oRi 4294967296))
noncomputable def B242_54 : rP := (oInc nG5 nS5 1 (oGo (oJb 327)))
noncomputable def B242_18 : rP := (oIl nG5 (oPsh (vI 4) (oIc cGe gGe B242_60 (oIl nG1 (oIl nG5 (oBin fShr gShr xN (oPsh (vI 1) (oBin fAnd gAnd xN (oIf zEq yEq B242_54 (oAl nG0 (oIl nG2 (oIl nG5 (oCv 8 313 2 (oIl nG3 (oBin fAnd gAnd xN (oIf zEq yEq B242_54 (oIl nG4 (oPsh (vI 1) (oIl nG5 (oBin fShl xN xN (oBin fOr xN xN (oIs nS4 B242_54))))))))))))))))))))))
noncomputable def B242_0 : rP := (oEnt 6 (oAl nG0 (oIl nG1 (oCv 8 331 1 (oIs nS2 (oAl nG0 (oIl nG1 (oCv 8 328 1 (oIs nS3 (oPsh (vI 0) (oIs nS4 (oPsh (vI 0) (oIs nS5 B242_18)))))))))))))
noncomputable def B243_55 : rP := (oIl nG2 (oRi 4294967296))
noncomputable def B243_0 : rP := (oEnt 5 (oAl nG0 (oGf 8 1 vI (oIs nS2 (oPsh (vI 1) (oIs nS3 (oIl nG3 (oAl nG0 (oGf 8 0 vI (oIc cGe gGe B243_55 oNone))))))))))
noncomputable def B244_61 : rP := (oIl nG1 (oRi 4294967296))
noncomputable def B244_27 : rP := (oAl nG0 (oIl nG2 (oPsh (vI 0) (oCv 8 313 2 (oAl nG0 (oIl nG2 (oPsh (vI 1) (oCv 8 313 2 (oBin fOr xN xN (oAl nG0 (oIl nG2 (oPsh (vI 2) (oCv 8 313 2 (oBin fOr xN xN (oAl nG0 (oIl nG2 (oPsh (vI 3) (oCv 8 313 2 (oBin fOr xN xN (oIs nS2 (oInc nG3 nS3 1 (oGo (oJb 330)))))))))))))))))))))))
noncomputable def B244_6 : rP := (oIl nG3 (oPsh (vI 2) (oAl nG0 (oGf 8 0 vI (oBin fMul xN xN (oIc cGe gGe B244_61 (oIl nG2 (oAl nG0 (oGf 8 1 vI (oBin fAnd gAnd xN (oIf zEq yEq B244_27 (oIl nG3 (oIs nS1 B244_27)))))))))))))
noncomputable def B244_0 : rP := (oEnt 4 (oPsh (vI 4294967295) (oIs nS1 (oPsh (vI 1) (oIs nS2 (oPsh (vI 0) (oIs nS3 B244_6)))))))
noncomputable def B245_52 : rP := (oIl nG2 (oRi 4294967296))
noncomputable def B245_0 : rP := (oEnt 5 (oPsh (vI 1) (oIs nS2 (oPsh (vI 1) (oIs nS3 (oIl nG3 (oAl nG0 (oGf 8 0 vI (oIc cGe gGe B245_52 oNone)))))))))
noncomputable def B246_59 : rP := (oPsh (vI 1) (oRi 2))
noncomputable def B246_53 : rP := (oInc nG2 nS2 1 (oGo (oJb 333)))
noncomputable def B246_26 : rP := (oIl nG2 (oAl nG0 (oGf 8 0 vI (oPsh (vI 4) (oBin fMul xN xN (oIc cGe gGe B246_59 (oAl nG0 (oGf 8 2 vR (oIl nG2 (oIal (oAl nG1 (oGf 8 2 vR (oIl nG2 (oIal (oIc cEq gEq B246_53 oNone)))))))))))))))
noncomputable def B246_24 : rP := (oPsh (vI 0) (oIs nS2 B246_26))
noncomputable def B246_22 : rP := (oPsh (vI 0) (oRi 2))
noncomputable def B246_0 : rP := (oEnt 3 (oAl nG0 (oGf 8 0 vI (oAl nG1 (oGf 8 0 vI (oIc cNe gNe B246_22 (oAl nG0 (oGf 8 1 vI (oAl nG1 (oGf 8 1 vI (oIc cEq gEq B246_24 B246_22)))))))))))
noncomputable def B247_0 : rP := (oEnt 2 (oAl nG0 (oAl nG1 (oGf 8 0 vI (oPf 8 0 0 (oAl nG0 (oAl nG1 (oGf 8 1 vI (oPf 8 1 0 (oAl nG1 (oGf 8 2 vR (oPsh (vI 0) (oAl nG0 (oGf 8 2 vR (oPsh (vI 0) (oAl nG0 (oGf 8 0 vI (oPsh (vI 4) (oBin fMul xN xN (oCpy oRv))))))))))))))))))))
noncomputable def B248_124 : rP := (oAl nG2 (oIl nG3 (oIal (oRi 4294967296))))
noncomputable def B248_115 : rP := (oIl nG5 (oIs nS3 (oInc nG4 nS4 1 (oGo (oJb 337)))))
noncomputable def B248_100 : rP := (oAl nG2 (oIl nG5 (oIl nG6 (oBin fAdd xN gAdd (oIl nG7 (oAst 1 0 (oInc nG6 nS6 1 (oGo (oJb 338)))))))))
noncomputable def B248_71 : rP := (oIl nG8 (oPsh (vI 4) (oIc cGe gGe B248_100 (oIl nG7 (oAl nG2 (oIl nG3 (oAl nG0 (oIl nG6 (oIl nG8 (oCv 8 312 2 (oBin fAdd xN gAdd (oIal (oBin fAdd xN gAdd (oIs nS7 (oInc nG8 nS8 1 (oGo (oJb 339)))))))))))))))))
noncomputable def B248_56 : rP := (oIl nG6 (oAl nG0 (oGf 8 0 vI (oIc cGe gGe B248_115 (oPsh (vI 0) (oIs nS7 (oPsh (vI 0) (oIs nS8 B248_71))))))))
noncomputable def B248_41 : rP := (oIl nG4 (oIl nG1 (oIc cGe gGe B248_124 (oPsh (vI 10) (oIl nG3 (oBin fSub xN xN (oIs nS5 (oPsh (vI 0) (oIs nS6 B248_56)))))))))
noncomputable def B248_38 : rP := (oPsh (vI 0) (oIs nS4 B248_41))
noncomputable def B248_31 : rP := (oAst 1 0 (oInc nG4 nS4 1 (oGo (oJb 336))))
noncomputable def B248_30 : rP := (oPsh (vI 0) B248_31)
noncomputable def B248_5 : rP := (oIl nG4 (oAl nG0 (oGf 8 0 vI (oIc cGe gGe B248_38 (oAl nG2 (oIl nG4 (oAl nG0 (oIl nG4 (oCv 8 324 1 (oIf zEq yEq B248_30 (oPsh (vI 1) (oGo B248_31))))))))))))
noncomputable def B248_0 : rP := (oEnt 9 (oPsh (vI 0) (oIs nS3 (oPsh (vI 0) (oIs nS4 B248_5)))))
noncomputable def B249_0 : rP := (oEnt 5 (oAl nG0 (oGf 10 2 vR (oAl nG0 (oGf 10 0 vI (oIl nG1 (oAst 1 0 (oAl nG0 (oGf 10 3 vR (oAl nG0 (oGf 10 0 vI (oIl nG2 (oAst 1 0 (oAl nG0 (oGf 10 4 vR (oAl nG0 (oGf 10 0 vI (oIl nG3 (oAst 1 0 (oAl nG0 (oGf 10 5 vR (oAl nG0 (oGf 10 0 vI (oIl nG4 (oAst 1 0 (oAl nG0 (oDup (oGf 10 0 vI (oPsh (vI 1) (oBin fAdd xN gAdd (oPf 10 0 0 oRv)))))))))))))))))))))))))))))))
noncomputable def B250_39 : rP := oRv
noncomputable def B250_33 : rP := (oInc nG2 nS2 1 (oGo (oJb 342)))
noncomputable def B250_12 : rP := (oIl nG2 (oPsh (vI 4) (oIc cGe gGe B250_39 (oIl nG1 (oIl nG2 (oBin fShr gShr xN (oPsh (vI 1) (oBin fAnd gAnd xN (oIf zEq yEq B250_33 (oAl nG0 (oPsh (vI 0) (oIl nG2 (oPsh (vI 0) (oIl nG2 (oCv 10 340 4 B250_33)))))))))))))))
noncomputable def B250_0 : rP := (oEnt 3 (oAl nG0 (oPsh (vI 0) (oPf 10 0 0 (oAl nG0 (oPsh (vI 1) (oPf 10 1 0 (oPsh (vI 0) (oIs nS2 B250_12)))))))))
noncomputable def B251_0 : rP := (oEnt 1 (oAl nG0 (oOi (oAl nG0 (oPsh (vI 10) (oNwa 1 (oPf 10 2 2 (oAl nG0 (oPsh (vI 10) (oNwa 1 (oPf 10 3 2 (oAl nG0 (oPsh (vI 10) (oNwa 1 (oPf 10 4 2 (oAl nG0 (oPsh (vI 10) (oNwa 1 (oPf 10 5 2 oRv)))))))))))))))))))
noncomputable def B252_16 : rP := (oRi 2)
noncomputable def B252_0 : rP := (oEnt 2 (oAl nG0 (oGf 10 1 vI (oIl nG1 (oBin fShr gShr xN (oPsh (vI 1) (oBin fAnd gAnd xN (oIf zEq yEq oNone (oPsh (vI 1) (oGo B252_16))))))))))
noncomputable def B253_0 : rP := (oEnt 5 (oAl nG0 (oGf 12 1 vR (oAl nG0 (oGf 12 0 vI (oIl nG1 (oAst 1 0 (oAl nG0 (oGf 12 2 vR (oAl nG0 (oGf 12 0 vI (oIl nG2 (oAst 1 0 (oAl nG0 (oGf 12 3 vR (oAl nG0 (oGf 12 0 vI (oIl nG3 (oAst 1 0 (oAl nG0 (oGf 12 4 vR (oAl nG0 (oGf 12 0 vI (oIl nG4 (oAst 1 0 (oAl nG0 (oDup (oGf 12 0 vI (oPsh (vI 1) (oBin fAdd xN gAdd (oPf 12 0 0 (oAl nG0 (oCv 12 349 0 (oAl nG0 (oGf 12 0 vI (oPsh (vI 1) (oBin fSub xN xN (oRi 4294967296))))))))))))))))))))))))))))))))))))))
noncomputable def B254_61 : rP := oRv
noncomputable def B254_41 : rP := (oIl nG1 (oPsh (vI 3) (oIc cGe gGe B254_61 (oAl nG0 (oGf 12 6 vR (oIl nG1 (oAal (oCv 8 318 0 (oInc nG1 nS1 1 (oGo (oJb 348)))))))))))
noncomputable def B254_37 : rP := (oPsh (vI 0) (oAst 3 3 (oPsh (vI 0) (oIs nS1 B254_41))))
noncomputable def B254_21 : rP := (oAl nG0 (oGf 12 5 vR (oPsh (vI 0) (oAl nG0 (oGf 12 0 vI (oIf zLe yLe B254_37 oNone))))))
noncomputable def B254_2 : rP := (oIl nG1 (oPsh (vI 10) (oIc cGt gGt B254_21 (oAl nG0 (oGf 12 5 vR (oIl nG1 (oPsh (vI 0) (oAst 3 3 (oInc nG1 nS1 1 (oGo (oJb 347)))))))))))
noncomputable def B254_0 : rP := (oEnt 2 (oPsh (vI 0) (oIs nS1 B254_2)))
noncomputable def B255_0 : rP := (oEnt 1 (oAl nG0 (oPsh (vI 0) (oPf 12 8 3 oRv))))
noncomputable def B256_139 : rP := oRv
noncomputable def B256_115 : rP := (oIl nG1 (oPsh (vI 3) (oIc cGe gGe B256_139 (oAl nG0 (oGf 12 9 vR (oIl nG1 (oNew 8 3 (oDup (oCi 323 0 (oAas okAs (oInc nG1 nS1 1 (oGo (oJb 352)))))))))))))
noncomputable def B256_113 : rP := (oPsh (vI 0) (oIs nS1 B256_115))
noncomputable def B256_85 : rP := (oIl nG1 (oAl nG0 (oGf 12 6 vR (oLen (oIc cGe gGe B256_113 (oAl nG0 (oGf 12 6 vR (oIl nG1 (oNew 8 3 (oDup (oCi 323 0 (oAas okAs (oInc nG1 nS1 1 (oGo (oJb 351)))))))))))))))
noncomputable def B256_0 : rP := (oEnt 2 (oAl nG0 (oOi (oAl nG0 (oPsh (vI 10) (oNwa 1 (oPf 12 1 2 (oAl nG0 (oPsh (vI 10) (oNwa 1 (oPf 12 2 2 (oAl nG0 (oPsh (vI 10) (oNwa 1 (oPf 12 3 2 (oAl nG0 (oPsh (vI 10) (oNwa 1 (oPf 12 4 2 (oAl nG0 (oPsh (vI 11) (oNwa 3 (oPf 12 5 2 (oAl nG0 (oPsh (vI 33) (oNwa 11 (oPf 12 6 2 (oAl nG0 (oPsh (vI 3) (oNwa 11 (oPf 12 9 2 (oAl nG0 (oNew 8 3 (oDup (oCi 323 0 (oPf 12 10 2 (oAl nG0 (oNew 8 3 (oDup (oCi 323 0 (oPf 12 11 2 (oPsh (vI 0) (oIs nS1 B256_85)))))))))))))))))))))))))))))))))))))))))))
noncomputable def B257_153 : rP := oRv
noncomputable def B257_33 : rP := (oPsh (vI 0) (oIs nS4 (oIl nG4 (oIf zEq yEq B257_153 oNone))))
noncomputable def B257_8 : rP := (oAl nG0 (oPsh (vI 1) (oPf 12 8 3 (oAl nG0 (oPsh (vI 0) (oPf 12 7 0 (oAl nG0 (oCv 12 346 0 (oAl nG0 (oGf 12 0 vI (oIf zLe yLe B257_33 oNone)))))))))))
noncomputable def B257_0 : rP := (oEnt 7 (oAl nG0 (oGf 12 8 vI (oIf zEq yEq B257_8 oNone))))
noncomputable def B258_12 : rP := (oPsh (vI 10) (oRi 4294967296))
noncomputable def B258_0 : rP := (oEnt 2 (oIl nG1 (oAl nG0 (oGf 12 0 vI (oIc cGe gGe B258_12 oNone)))))
noncomputable def B259_10 : rP := (oAl nG0 (oGf 14 3 vR (oAl nG0 (oGf 14 2 vI (oIl nG1 (oAst 1 0 (oAl nG0 (oGf 14 4 vR (oAl nG0 (oGf 14 2 vI (oIl nG2 (oAst 1 0 (oAl nG0 (oDup (oGf 14 2 vI (oPsh (vI 1) (oBin fAdd xN gAdd (oPf 14 2 0 (oAl nG0 (oGf 14 2 vI (oPsh (vI 1) (oBin fSub xN xN (oRi 4294967296)))))))))))))))))))))))
noncomputable def B259_0 : rP := (oEnt 3 (oIl nG1 (oPsh (vI 4294967295) (oIc cNe gNe B259_10 (oAl nG0 (oPsh (vI 0) (oPf 14 2 0 B259_10)))))))
noncomputable def B260_0 : rP := (oEnt 1 (oAl nG0 (oOi (oAl nG0 (oPsh (vI 16) (oNwa 1 (oPf 14 1 2 (oAl nG0 (oPsh (vI 30) (oNwa 1 (oPf 14 3 2 (oAl nG0 (oPsh (vI 30) (oNwa 1 (oPf 14 4 2 (oAl nG0 (oPsh (vI 4) (oNwa 1 (oPf 14 5 2 (oAl nG0 (oPsh (vI 10) (oNwa 1 (oPf 14 6 2 (oAl nG0 (oNew 10 6 (oDup (oCi 343 0 (oPf 14 7 2 oRv))))))))))))))))))))))))))))
noncomputable def B261_149 : rP := oRv
noncomputable def B261_143 : rP := (oInc nG8 nS8 1 (oGo (oJb 358)))
noncomputable def B261_97 : rP := (oAl nG4 (oIl nG7 (oAl nG2 (oGf 10 5 vR (oIl nG8 (oIal (oCv 8 312 2 (oIs nS11 (oAl nG0 (oAl nG2 (oGf 10 4 vR (oIl nG8 (oIal (oPsh (vI 10) (oBin fMul xN xN (oIl nG10 (oBin fAdd xN gAdd (oPsh (vI 10) (oBin fMul xN xN (oIl nG11 (oBin fAdd xN gAdd (oIl nG9 (oPsh (vI 2097152) (oMx fMin (oCv 16 367 2 B261_143)))))))))))))))))))))))))
noncomputable def B261_27 : rP := (oIl nG8 (oAl nG2 (oGf 10 0 vI (oIc cGe gGe B261_149 (oAl nG2 (oGf 10 2 vR (oIl nG8 (oIal (oIl nG5 (oIc cNe gNe B261_143 (oAl nG0 (oGf 16 2 vR (oIl nG1 (oIal (oPsh (vI 4) (oBin fMul xN xN (oAl nG2 (oGf 10 3 vR (oIl nG8 (oIal (oBin fAdd xN gAdd (oIs nS9 (oAl nG3 (oIl nG6 (oAl nG2 (oGf 10 3 vR (oIl nG8 (oIal (oCv 8 312 2 (oIs nS10 (oAl nG2 (oGf 10 5 vR (oIl nG8 (oIal (oPsh (vI 4294967295) (oIc cNe gNe B261_97 oNone))))))))))))))))))))))))))))))))))))
noncomputable def B261_0 : rP := (oEnt 12 (oIl nG1 (oPsh (vI 10) (oDiv aDv fDiv gDiv (oPsh (vI 10) (oDiv aDv fDiv gDiv (oIs nS5 (oIl nG1 (oPsh (vI 10) (oDiv aDv fDiv gDiv (oPsh (vI 10) (oDiv aDv fRem xN (oIs nS6 (oIl nG1 (oPsh (vI 10) (oDiv aDv fRem xN (oIs nS7 (oPsh (vI 0) (oIs nS8 B261_27)))))))))))))))))))
noncomputable def B262_0 : rP := (oEnt 1 (oAl nG0 (oOi (oAl nG0 (oNew 10 6 (oDup (oCi 343 0 (oPf 16 0 2 (oAl nG0 (oNew 8 3 (oDup (oCi 323 0 (oPf 16 1 2 (oAl nG0 (oPsh (vI 400) (oNwa 1 (oPf 16 2 2 (oAl nG0 (oPsh (vI 400) (oNwa 1 (oPf 16 3 2 (oAl nG0 (oPsh (vI 4) (oNwa 1 (oPf 16 5 2 (oAl nG0 (oPsh (vI 8) (oNwa 1 (oPf 16 6 2 (oAl nG0 (oGf 16 0 vR (oPsh (vI 15) (oCv 10 341 1 oRv)))))))))))))))))))))))))))))))))
noncomputable def B263_109 : rP := (oIl nG6 (oRi 4294967296))
noncomputable def B263_103 : rP := (oInc nG7 nS7 1 (oGo (oJb 361)))
noncomputable def B263_94 : rP := (oAl nG0 (oGf 16 2 vR (oIl nG8 (oIal (oIs nS6 B263_103)))))
noncomputable def B263_70 : rP := (oIs nS9 (oIl nG9 (oIf zEq yEq B263_103 (oIl nG6 (oIf zEq yEq B263_94 oNone)))))
noncomputable def B263_69 : rP := (oPsh (vI 0) B263_70)
noncomputable def B263_6 : rP := (oIl nG7 (oIl nG2 (oIc cGe gGe B263_109 (oAl nG0 (oGf 16 3 vR (oIl nG7 (oIal (oIs nS8 (oAl nG3 (oIl nG8 (oPsh (vI 10) (oDiv aDv fDiv gDiv (oPsh (vI 10) (oDiv aDv fDiv gDiv (oCv 10 344 1 (oIf zEq yEq B263_69 (oAl nG4 (oIl nG8 (oPsh (vI 10) (oDiv aDv fDiv gDiv (oPsh (vI 10) (oDiv aDv fRem xN (oCv 8 324 1 (oIf zEq yEq B263_69 (oAl nG5 (oIl nG8 (oPsh (vI 10) (oDiv aDv fRem xN (oCv 8 324 1 (oIf zNe yNe B263_69 (oPsh (vI 1) (oGo B263_70))))))))))))))))))))))))))))))))
noncomputable def B263_0 : rP := (oEnt 10 (oPsh (vI 0) (oIs nS6 (oIl nG1 (oIs nS7 B263_6)))))
noncomputable def B264_0 : rP := (oEnt 3 (oAl nG0 (oAl nG0 (oGf 16 0 vR (oAl nG1 (oAl nG2 (oCv 16 363 3 (oRi 4294967296))))))))
noncomputable def B265_121 : rP := (oPsh (vI 0) (oRi 4294967296))
noncomputable def B265_111 : rP := (oIl nG6 (oIs nS4 (oInc nG5 nS5 1 (oGo (oJb 364)))))
noncomputable def B265_84 : rP := (oIl nG8 (oIl nG6 (oIc cGe gGe B265_111 (oAl nG0 (oAl nG0 (oGf 16 3 vR (oIl nG8 (oIal (oAl nG1 (oAl nG2 (oAl nG3 (oCv 16 357 4 (oInc nG8 nS8 1 (oGo (oJb 365)))))))))))))))
noncomputable def B265_80 : rP := (oIl nG4 (oIs nS8 B265_84))
noncomputable def B265_77 : rP := (oIl nG7 (oRi 4294967296))
noncomputable def B265_25 : rP := (oIl nG5 (oPsh (vI 400) (oIc cGe gGe B265_121 (oIl nG4 (oAl nG0 (oGf 16 4 vI (oIc cGe gGe B265_121 (oAl nG0 (oGf 16 4 vI (oIs nS6 (oAl nG0 (oIl nG4 (oIl nG6 (oAl nG1 (oAl nG2 (oAl nG3 (oCv 16 360 5 (oIs nS7 (oIl nG7 (oIf zEq yEq B265_80 (oIl nG7 (oPsh (vI 2097152) (oIc cNe gNe B265_77 oNone)))))))))))))))))))))))
noncomputable def B265_0 : rP := (oEnt 9 (oAl nG0 (oGf 16 2 vR (oPsh (vI 0) (oCs 3 2 (oAl nG0 (oPsh (vI 0) (oPf 16 4 0 (oAl nG0 (oPsh (vI 0) (oPsh (vI 1) (oCv 16 367 2 (oPsh (vI 0) (oIs nS4 (oPsh (vI 0) (oIs nS5 B265_25))))))))))))))))
noncomputable def B266_0 : rP := (oEnt 2 (oAl nG0 (oAl nG0 (oGf 16 0 vR (oAl nG1 (oAl nG0 (oGf 16 1 vR (oCv 16 363 3 (oRi 4294967296)))))))))
noncomputable def B267_56 : rP := oRv
noncomputable def B267_39 : rP := (oIl nG2 (oAl nG0 (oGf 16 2 vR (oIl nG1 (oIal (oIc cGe gGe B267_56 oNone))))))
noncomputable def B267_0 : rP := (oEnt 3 (oAl nG0 (oGf 16 2 vR (oIl nG1 (oIal (oIf zNe yNe B267_39 (oAl nG0 (oGf 16 2 vR (oIl nG1 (oIl nG2 (oAst 1 0 (oAl nG0 (oGf 16 3 vR (oAl nG0 (oGf 16 4 vI (oIl nG1 (oAst 1 0 (oAl nG0 (oDup (oGf 16 4 vI (oPsh (vI 1) (oBin fAdd xN gAdd (oPf 16 4 0 (oGo B267_56))))))))))))))))))))))))
noncomputable def B268_102 : rP := oRv
noncomputable def B268_96 : rP := (oInc nG3 nS3 1 (oGo (oJb 369)))
noncomputable def B268_90 : rP := (oInc nG4 nS4 1 (oGo (oJb 370)))
noncomputable def B268_84 : rP := (oInc nG6 nS6 1 (oGo (oJb 371)))
noncomputable def B268_40 : rP := (oIl nG6 (oIl nG5 (oIc cGe gGe B268_90 (oAl nG2 (oAl nG1 (oGf 6 0 vR (oIl nG3 (oIal (oAal (oIl nG5 (oIl nG6 (oBin fAdd xN gAdd (oCv 8 321 1 (oIf zEq yEq B268_84 (oAl nG0 (oGf 18 2 vR (oIl nG3 (oPsh (vI 3) (oBin fMul xN xN (oIl nG4 (oBin fAdd xN gAdd (oDup2 (oIal (oPsh (vI 1) (oIl nG6 (oBin fShl xN xN (oBin fOr xN xN (oAst 1 0 B268_84))))))))))))))))))))))))))))
noncomputable def B268_18 : rP := (oIl nG4 (oAl nG1 (oGf 6 1 vR (oIl nG3 (oIal (oIc cGt gGt B268_96 (oPsh (vI 1) (oPsh (vI 2) (oIl nG4 (oBin fMul xN xN (oBin fShl xN xN (oIs nS5 (oPsh (vI 0) (oIs nS6 B268_40))))))))))))))
noncomputable def B268_10 : rP := (oIl nG3 (oPsh (vI 4) (oIc cGe gGe B268_102 (oPsh (vI 0) (oIs nS4 B268_18)))))
noncomputable def B268_0 : rP := (oEnt 7 (oAl nG0 (oGf 18 2 vR (oPsh (vI 0) (oCs 3 2 (oPsh (vI 0) (oIs nS3 B268_10)))))))
noncomputable def B269_75 : rP := oRv
noncomputable def B269_54 : rP := (oIl nG3 (oPsh (vI 4) (oIc cGe gGe B269_75 (oAl nG0 (oGf 18 9 vR (oPsh (vI 8) (oIl nG3 (oBin fAdd xN gAdd (oIl nG3 (oAst 1 0 (oInc nG3 nS3 1 (oGo (oJb 375)))))))))))))
noncomputable def B269_52 : rP := (oPsh (vI 0) (oIs nS3 B269_54))
noncomputable def B269_30 : rP := (oIl nG3 (oAl nG0 (oGf 18 4 vR (oLen (oIc cGe gGe B269_52 (oAl nG0 (oGf 18 4 vR (oIl nG3 (oIl nG3 (oAst 1 0 (oInc nG3 nS3 1 (oGo (oJb 374)))))))))))))
noncomputable def B269_28 : rP := (oPsh (vI 0) (oIs nS3 B269_30))
noncomputable def B269_4 : rP := (oIl nG3 (oPsh (vI 4) (oIc cGe gGe B269_28 (oAl nG0 (oGf 18 3 vR (oIl nG3 (oIl nG2 (oPsh (vI 3) (oDiv aDv fRem xN (oAst 1 0 (oIl nG2 (oPsh (vI 3) (oDiv aDv fDiv gDiv (oIs nS2 (oInc nG3 nS3 1 (oGo (oJb 373)))))))))))))))))
noncomputable def B269_0 : rP := (oEnt 4 (oIl nG1 (oIs nS2 (oPsh (vI 0) (oIs nS3 B269_4)))))
noncomputable def B270_31 : rP := (oIl nG1 (oRi 4294967296))
noncomputable def B270_8 : rP := (oIl nG2 (oPsh (vI 4) (oIc cGe gGe B270_31 (oIl nG1 (oIf zLe yLe B270_31 (oIl nG1 (oAl nG0 (oIl nG2 (oCv 18 378 1 (oBin fMul xN xN (oIs nS1 (oInc nG2 nS2 1 (oGo (oJb 377))))))))))))))
noncomputable def B270_0 : rP := (oEnt 3 (oAl nG0 (oCv 18 381 0 (oPsh (vI 1) (oIs nS1 (oPsh (vI 0) (oIs nS2 B270_8)))))))
noncomputable def B271_92 : rP := (oIl nG2 (oRi 4294967296))
noncomputable def B271_86 : rP := (oInc nG3 nS3 1 (oGo (oJb 379)))
noncomputable def B271_83 : rP := (oInc nG2 nS2 1 B271_86)
noncomputable def B271_66 : rP := (oAl nG0 (oIl nG1 (oCv 18 389 1 (oIf zEq yEq B271_86 (oIl nG2 (oIf zNe yNe B271_83 (oAl nG0 (oIl nG1 (oCv 18 391 1 B271_83)))))))))
noncomputable def B271_24 : rP := (oIl nG4 (oAl nG0 (oGf 18 8 vI (oIc cGe gGe B271_66 (oAl nG0 (oGf 18 9 vR (oAl nG0 (oGf 18 7 vR (oIl nG4 (oIal (oIl nG3 (oPsh (vI 2) (oAl nG0 (oGf 18 8 vI (oPsh (vI 1) (oBin fSub xN xN (oIl nG4 (oBin fSub xN xN (oBin fMul xN xN (oBin fShr gShr xN (oPsh (vI 3) (oBin fAnd gAnd xN (oAst 1 0 (oInc nG4 nS4 1 (oGo (oJb 380))))))))))))))))))))))))))
noncomputable def B271_9 : rP := (oIl nG3 (oPsh (vI 1) (oPsh (vI 2) (oAl nG0 (oGf 18 8 vI (oBin fMul xN xN (oBin fShl xN xN (oIc cGe gGe B271_92 (oPsh (vI 0) (oIs nS4 B271_24))))))))))
noncomputable def B271_0 : rP := (oEnt 5 (oAl nG0 (oIl nG1 (oCv 18 393 1 (oPsh (vI 0) (oIs nS2 (oPsh (vI 0) (oIs nS3 B271_9))))))))
noncomputable def B272_63 : rP := oRv
noncomputable def B272_57 : rP := (oInc nG1 nS1 1 (oGo (oJb 382)))
noncomputable def B272_51 : rP := (oInc nG2 nS2 1 (oGo (oJb 383)))
noncomputable def B272_16 : rP := (oIl nG2 (oIl nG1 (oIc cGe gGe B272_57 (oAl nG0 (oGf 18 6 vR (oIl nG2 (oIal (oIl nG1 (oIc cEq gEq B272_51 (oAl nG0 (oIl nG2 (oIl nG1 (oCv 18 396 2 (oIf zEq yEq B272_51 oNone))))))))))))))
noncomputable def B272_2 : rP := (oIl nG1 (oPsh (vI 4) (oIc cGe gGe B272_63 (oAl nG0 (oGf 18 6 vR (oIl nG1 (oIl nG1 (oAst 1 0 (oPsh (vI 0) (oIs nS2 B272_16))))))))))
noncomputable def B272_0 : rP := (oEnt 3 (oPsh (vI 0) (oIs nS1 B272_2)))
noncomputable def B273_0 : rP := (oEnt 1 (oAl nG0 (oOi (oAl nG0 (oPsh (vI 4) (oNwa 1 (oPf 18 1 2 (oAl nG0 (oPsh (vI 12) (oNwa 1 (oPf 18 2 2 (oAl nG0 (oPsh (vI 4) (oNwa 1 (oPf 18 3 2 (oAl nG0 (oPsh (vI 12) (oNwa 1 (oPf 18 4 2 (oAl nG0 (oPsh (vI 24) (oNwa 1 (oPf 18 5 2 (oAl nG0 (oPsh (vI 4) (oNwa 1 (oPf 18 6 2 (oAl nG0 (oPsh (vI 8) (oNwa 1 (oPf 18 7 2 (oAl nG0 (oPsh (vI 12) (oNwa 1 (oPf 18 9 2 (oAl nG0 (oPsh (vI 4) (oNwa 1 (oPf 18 10 2 oRv)))))))))))))))))))))))))))))))))))))))
noncomputable def B274_33 : rP := (oPsh (vI 1) (oRi 2))
noncomputable def B274_27 : rP := (oInc nG1 nS1 1 (oGo (oJb 386)))
noncomputable def B274_2 : rP := (oIl nG1 (oPsh (vI 4) (oIc cGe gGe B274_33 (oAl nG0 (oGf 18 2 vR (oIl nG1 (oPsh (vI 3) (oBin fMul xN xN (oAl nG0 (oGf 18 3 vR (oIl nG1 (oIal (oBin fAdd xN gAdd (oIal (oIf zNe yNe B274_27 (oPsh (vI 0) (oRi 2)))))))))))))))))
noncomputable def B274_0 : rP := (oEnt 2 (oPsh (vI 0) (oIs nS1 B274_2)))
noncomputable def B275_28 : rP := (oPsh (vI 0) (oRi 2))
noncomputable def B275_22 : rP := (oInc nG2 nS2 1 (oGo (oJb 388)))
noncomputable def B275_2 : rP := (oIl nG2 (oAl nG0 (oGf 18 8 vI (oIc cGe gGe B275_28 (oAl nG0 (oGf 18 7 vR (oIl nG2 (oIal (oIl nG1 (oIc cNe gNe B275_22 oNone))))))))))
noncomputable def B275_0 : rP := (oEnt 3 (oPsh (vI 0) (oIs nS2 B275_2)))
noncomputable def B276_64 : rP := (oPsh (vI 1) (oRi 2))
noncomputable def B276_58 : rP := (oInc nG2 nS2 1 (oGo (oJb 390)))
noncomputable def B276_2 : rP := (oIl nG2 (oPsh (vI 4) (oIc cGe gGe B276_64 (oAl nG0 (oGf 18 6 vR (oIl nG2 (oIal (oIl nG1 (oIc cNe gNe B276_58 (oAl nG0 (oIl nG2 (oCv 18 402 1 (oPsh (vI 1) (oPsh (vI 2) (oAl nG0 (oGf 18 3 vR (oIl nG2 (oIal (oBin fMul xN xN (oBin fShl xN xN (oBin fSub xN xN (oIs nS3 (oAl nG0 (oGf 18 2 vR (oIl nG2 (oPsh (vI 3) (oBin fMul xN xN (oAl nG0 (oGf 18 3 vR (oIl nG2 (oIal (oBin fAdd xN gAdd (oIal (oIl nG3 (oBin fShr gShr xN (oPsh (vI 1) (oBin fAnd gAnd xN (oIf zNe yNe B276_58 oNone))))))))))))))))))))))))))))))))))))))
noncomputable def B276_0 : rP := (oEnt 4 (oPsh (vI 0) (oIs nS2 B276_2)))
noncomputable def B277_34 : rP := oRv
noncomputable def B277_28 : rP := (oInc nG2 nS2 1 (oGo (oJb 392)))
noncomputable def B277_2 : rP := (oIl nG2 (oPsh (vI 4) (oIc cGe gGe B277_34 (oAl nG0 (oGf 18 6 vR (oIl nG2 (oIal (oIl nG1 (oIc cNe gNe B277_28 (oAl nG0 (oGf 18 10 vR (oIl nG2 (oAl nG0 (oIl nG2 (oCv 18 402 1 (oAst 1 0 B277_28))))))))))))))))
noncomputable def B277_0 : rP := (oEnt 3 (oPsh (vI 0) (oIs nS2 B277_2)))
noncomputable def B278_95 : rP := oRv
noncomputable def B278_89 : rP := (oInc nG2 nS2 1 (oGo (oJb 394)))
noncomputable def B278_83 : rP := (oInc nG3 nS3 1 (oGo (oJb 395)))
noncomputable def B278_14 : rP := (oAl nG0 (oGf 18 6 vR (oIl nG2 (oIal (oIl nG1 (oIc cNe gNe B278_89 (oIl nG3 (oAl nG0 (oGf 18 3 vR (oIl nG2 (oIal (oIc cGe gGe B278_89 (oAl nG0 (oGf 18 4 vR (oIl nG2 (oPsh (vI 2) (oBin fMul xN xN (oIl nG3 (oBin fAdd xN gAdd (oIal (oIs nS4 (oIl nG4 (oPsh (vI 8) (oIc cGe gGe B278_83 (oAl nG0 (oIl nG4 (oCv 18 387 1 (oIf zNe yNe B278_83 (oAl nG0 (oGf 18 7 vR (oAl nG0 (oGf 18 8 vI (oIl nG4 (oAst 1 0 (oAl nG0 (oDup (oGf 18 8 vI (oPsh (vI 1) (oBin fAdd xN gAdd (oPf 18 8 0 B278_83))))))))))))))))))))))))))))))))))))))))
noncomputable def B278_7 : rP := (oIl nG2 (oPsh (vI 4) (oIc cGe gGe B278_95 (oPsh (vI 0) (oIs nS3 B278_14)))))
noncomputable def B278_0 : rP := (oEnt 5 (oAl nG0 (oPsh (vI 0) (oPf 18 8 0 (oPsh (vI 0) (oIs nS2 B278_7))))))
noncomputable def B279_75 : rP := (oPsh (vI 0) (oRi 2))
noncomputable def B279_69 : rP := (oInc nG3 nS3 1 (oGo (oJb 397)))
noncomputable def B279_63 : rP := (oInc nG4 nS4 1 (oGo (oJb 398)))
noncomputable def B279_15 : rP := (oIl nG4 (oAl nG0 (oGf 18 3 vR (oIl nG2 (oIal (oIc cGe gGe B279_69 (oAl nG0 (oGf 18 4 vR (oIl nG1 (oPsh (vI 2) (oBin fMul xN xN (oIl nG3 (oBin fAdd xN gAdd (oIal (oIs nS5 (oIl nG5 (oPsh (vI 8) (oIc cGe gGe B279_63 (oIl nG5 (oAl nG0 (oGf 18 4 vR (oIl nG2 (oPsh (vI 2) (oBin fMul xN xN (oIl nG4 (oBin fAdd xN gAdd (oIal (oIc cNe gNe B279_63 oNone))))))))))))))))))))))))))))
noncomputable def B279_2 : rP := (oIl nG3 (oAl nG0 (oGf 18 3 vR (oIl nG1 (oIal (oIc cGe gGe B279_75 (oPsh (vI 0) (oIs nS4 B279_15))))))))
noncomputable def B279_0 : rP := (oEnt 6 (oPsh (vI 0) (oIs nS3 B279_2)))
noncomputable def B280_149 : rP := oRv
noncomputable def B280_143 : rP := (oInc nG4 nS4 1 (oGo (oJb 400)))
noncomputable def B280_126 : rP := (oIl nG6 (oIs nS3 (oAl nG0 (oGf 18 10 vR (oPsh (vI 0) (oAl nG0 (oGf 18 1 vR (oPsh (vI 0) (oPsh (vI 4) (oCpy B280_143))))))))))
noncomputable def B280_56 : rP := (oAl nG0 (oCv 18 376 0 (oIs nS5 (oAl nG0 (oDup (oGf 18 0 vI (oIl nG5 (oBin fAdd xN gAdd (oPf 18 0 0 (oAl nG0 (oGf 18 3 vR (oPsh (vI 0) (oIal (oAl nG0 (oGf 18 3 vR (oPsh (vI 1) (oIal (oBin fAdd xN gAdd (oAl nG0 (oGf 18 3 vR (oPsh (vI 2) (oIal (oBin fAdd xN gAdd (oAl nG0 (oGf 18 3 vR (oPsh (vI 3) (oIal (oBin fAdd xN gAdd (oIs nS6 (oIl nG5 (oIf zLe yLe B280_143 (oIl nG6 (oIl nG3 (oIc cLt gLt B280_126 (oIl nG6 (oIl nG3 (oIc cNe gNe B280_143 oNone)))))))))))))))))))))))))))))))))))))
noncomputable def B280_25 : rP := (oIl nG4 (oPsh (vI 81) (oIc cGe gGe B280_149 (oAl nG0 (oIl nG4 (oCv 18 372 1 (oAl nG0 (oCv 18 385 0 (oIf zEq yEq B280_143 (oAl nG0 (oAl nG1 (oCv 18 401 1 (oIf zNe yNe B280_56 oNone)))))))))))))
noncomputable def B280_0 : rP := (oEnt 7 (oAl nG0 (oAl nG1 (oAl nG2 (oCv 18 368 2 (oAl nG0 (oPsh (vI 0) (oPf 18 0 0 (oAl nG0 (oGf 18 1 vR (oPsh (vI 0) (oCs 3 2 (oPsh (vI 9) (oIs nS3 (oPsh (vI 0) (oIs nS4 B280_25))))))))))))))))
noncomputable def B281_95 : rP := (oPsh (vI 1) (oRi 2))
noncomputable def B281_0 : rP := (oEnt 5 (oPsh (vI 0) (oIs nS2 (oIl nG2 (oAl nG1 (oGf 6 2 vI (oIc cGe gGe B281_95 oNone)))))))
noncomputable def B282_40 : rP := (oIl nG2 (oRi 4294967296))
noncomputable def B282_4 : rP := (oIl nG3 (oAl nG0 (oGf 18 3 vR (oIl nG1 (oIal (oIc cGe gGe B282_40 (oIl nG2 (oPsh (vI 4) (oBin fMul xN xN (oAl nG0 (oGf 18 9 vR (oAl nG0 (oGf 18 4 vR (oIl nG1 (oPsh (vI 2) (oBin fMul xN xN (oIl nG3 (oBin fAdd xN gAdd (oIal (oIal (oBin fAdd xN gAdd (oIs nS2 (oInc nG3 nS3 1 (oGo (oJb 403)))))))))))))))))))))))))
noncomputable def B282_0 : rP := (oEnt 4 (oPsh (vI 1) (oIs nS2 (oPsh (vI 0) (oIs nS3 B282_4)))))
noncomputable def B283_157 : rP := (oAl nG0 (oGf 20 0 vR (oAl nG4 (oCv 4 56 1 (oRi 2)))))
noncomputable def B283_151 : rP := (oInc nG5 nS5 1 (oGo (oJb 405)))
noncomputable def B283_92 : rP := (oIl nG8 (oPsh (vI 4) (oIc cGe gGe B283_151 (oAl nG1 (oIl nG6 (oIl nG8 (oCv 8 312 2 (oPsh (vI 10) (oBin fMul xN xN (oAl nG2 (oIl nG7 (oIl nG8 (oCv 8 312 2 (oBin fAdd xN gAdd (oIs nS9 (oAl nG0 (oGf 20 0 vR (oGf 4 3 vR (oIl nG5 (oPsh (vI 4) (oBin fMul xN xN (oIl nG8 (oBin fAdd xN gAdd (oAl nG0 (oGf 20 0 vR (oIl nG9 (oI2l (oCv 4 64 1 (oAst 1 0 (oInc nG8 nS8 1 (oGo (oJb 406))))))))))))))))))))))))))))))))
noncomputable def B283_11 : rP := (oIl nG5 (oAl nG0 (oGf 20 0 vR (oGf 4 0 vI (oIc cGe gGe B283_157 (oIl nG5 (oPsh (vI 10240) (oIc cGe gGe B283_157 (oAl nG0 (oGf 20 0 vR (oGf 4 1 vR (oIl nG5 (oAld 5 vL (oL2i (oPsh (vI 10) (oDiv aDv fDiv gDiv (oIs nS6 (oAl nG0 (oGf 20 0 vR (oGf 4 1 vR (oIl nG5 (oAld 5 vL (oL2i (oPsh (vI 10) (oDiv aDv fRem xN (oIs nS7 (oAl nG0 (oGf 20 0 vR (oGf 4 2 vR (oIl nG5 (oAl nG1 (oIl nG6 (oCv 8 324 1 (oAl nG2 (oIl nG7 (oCv 8 324 1 (oIl nG3 (oCs 411 3 (oAst 3 3 (oPsh (vI 0) (oIs nS8 B283_92)))))))))))))))))))))))))))))))))))))))))
noncomputable def B283_0 : rP := (oEnt 10 (oAl nG0 (oGf 20 0 vR (oPsh (vL 0) (oCv 4 51 1 (oPsh (vI 0) (oIs nS5 B283_11)))))))
noncomputable def B284_127 : rP := (oAl nG0 (oGf 20 0 vR (oAl nG2 (oCv 4 56 1 (oRi 2)))))
noncomputable def B284_121 : rP := (oInc nG4 nS4 1 (oGo (oJb 408)))
noncomputable def B284_78 : rP := (oIl nG6 (oPsh (vI 4) (oIc cGe gGe B284_121 (oAl nG0 (oGf 20 0 vR (oGf 4 3 vR (oIl nG4 (oPsh (vI 4) (oBin fMul xN xN (oIl nG6 (oBin fAdd xN gAdd (oAl nG0 (oGf 20 0 vR (oAl nG1 (oIl nG5 (oIl nG6 (oCv 8 312 2 (oI2l (oCv 4 64 1 (oAst 1 0 (oInc nG6 nS6 1 (oGo (oJb 409)))))))))))))))))))))))
noncomputable def B284_74 : rP := (oAst 3 3 (oPsh (vI 0) (oIs nS6 B284_78)))
noncomputable def B284_73 : rP := (oPsh (vI 0) B284_74)
noncomputable def B284_18 : rP := (oIl nG4 (oAl nG0 (oGf 20 0 vR (oGf 4 0 vI (oIc cGe gGe B284_127 (oIl nG4 (oPsh (vI 10240) (oIc cGe gGe B284_127 (oAl nG0 (oGf 20 0 vR (oGf 4 1 vR (oIl nG4 (oAld 5 vL (oL2i (oIs nS5 (oAl nG0 (oGf 20 0 vR (oGf 4 2 vR (oIl nG4 (oIl nG3 (oIl nG5 (oBin fShr gShr xN (oPsh (vI 1) (oBin fAnd gAnd xN (oIf zEq yEq B284_73 (oPsh (vI 1) (oGo B284_74)))))))))))))))))))))))))))
noncomputable def B284_0 : rP := (oEnt 7 (oAl nG1 (oPsh (vI 15) (oCv 8 328 1 (oIs nS3 (oAl nG0 (oGf 20 0 vR (oPsh (vL 0) (oCv 4 51 1 (oPsh (vI 0) (oIs nS4 B284_18)))))))))))
noncomputable def B285_0 : rP := (oEnt 1 (oAl nG0 (oOi (oAl nG0 (oNew 4 12 (oDup (oCi 52 0 (oPf 20 0 2 oRv))))))))
noncomputable def B286_69 : rP := (oRi 2)
noncomputable def B286_68 : rP := (oPsh (vI 0) B286_69)
noncomputable def B286_56 : rP := (oIl nG0 (oIf zEq yEq B286_68 (oIl nG1 (oIf zNe yNe B286_68 (oPsh (vI 1) (oGo B286_69))))))
noncomputable def B286_55 : rP := (oRi 2)
noncomputable def B286_54 : rP := (oPsh (vI 0) B286_55)
noncomputable def B286_42 : rP := (oIl nG0 (oIf zEq yEq B286_54 (oIl nG1 (oIf zEq yEq B286_54 (oPsh (vI 1) (oGo B286_55))))))
noncomputable def B286_41 : rP := (oRi 2)
noncomputable def B286_40 : rP := (oPsh (vI 0) B286_41)
noncomputable def B286_36 : rP := (oPsh (vI 1) (oGo B286_41))
noncomputable def B286_28 : rP := (oIl nG0 (oIf zNe yNe B286_36 (oIl nG1 (oIf zEq yEq B286_40 B286_36))))
noncomputable def B286_0 : rP := (oEnt 3 (oIl nG2 (oLsw 5 6 B286_28 B286_42 B286_56)))
noncomputable def B287_188 : rP := (oAl nG0 (oGf 20 0 vR (oAl nG3 (oCv 4 56 1 (oRi 2)))))
noncomputable def B287_182 : rP := (oInc nG4 nS4 1 (oGo (oJb 413)))
noncomputable def B287_142 : rP := (oBin fOr xN xN (oIs nS9 (oAl nG0 (oGf 20 0 vR (oGf 4 3 vR (oIl nG4 (oPsh (vI 4) (oBin fMul xN xN (oIl nG7 (oBin fAdd xN gAdd (oAl nG0 (oGf 20 0 vR (oIl nG8 (oPsh (vI 10) (oBin fShl xN xN (oIl nG9 (oBin fOr xN xN (oI2l (oCv 4 64 1 (oAst 1 0 (oInc nG7 nS7 1 (oGo (oJb 414)))))))))))))))))))))))
noncomputable def B287_141 : rP := (oPsh (vI 0) B287_142)
noncomputable def B287_104 : rP := (oIl nG7 (oPsh (vI 4) (oIc cGe gGe B287_182 (oAl nG1 (oIl nG5 (oIl nG7 (oCv 8 312 2 (oIs nS8 (oAl nG2 (oIl nG6 (oIl nG7 (oCv 8 313 2 (oAl nG1 (oIl nG8 (oCv 8 324 1 (oIf zEq yEq B287_141 (oPsh (vI 1) (oGo B287_142))))))))))))))))))
noncomputable def B287_100 : rP := (oAst 3 3 (oPsh (vI 0) (oIs nS7 B287_104)))
noncomputable def B287_99 : rP := (oPsh (vI 0) B287_100)
noncomputable def B287_23 : rP := (oIl nG4 (oAl nG0 (oGf 20 0 vR (oGf 4 0 vI (oIc cGe gGe B287_188 (oIl nG4 (oPsh (vI 10240) (oIc cGe gGe B287_188 (oAl nG0 (oGf 20 0 vR (oGf 4 1 vR (oIl nG4 (oAld 5 vL (oPsh (vI 10) (oShL fLshr (oL2i (oIs nS5 (oAl nG0 (oGf 20 0 vR (oGf 4 1 vR (oIl nG4 (oAld 5 vL (oL2i (oPsh (vI 1023) (oBin fAnd gAnd xN (oIs nS6 (oAl nG0 (oGf 20 0 vR (oGf 4 2 vR (oIl nG4 (oIl nG6 (oAl nG2 (oGf 8 1 vI (oBin fAnd gAnd xN (oIf zEq yEq B287_99 (oPsh (vI 1) (oGo B287_100)))))))))))))))))))))))))))))))))))))
noncomputable def B287_17 : rP := (oCv 4 51 1 (oPsh (vI 0) (oIs nS4 B287_23)))
noncomputable def B287_16 : rP := (oPsh (vL 0) B287_17)
noncomputable def B287_0 : rP := (oEnt 10 (oAl nG0 (oGf 20 0 vR (oAl nG1 (oPsh (vI 0) (oCv 8 324 1 (oIf zEq yEq B287_16 (oPsh (vL 1) (oGo B287_17)))))))))
noncomputable def B288_170 : rP := (oAl nG0 (oGf 20 0 vR (oAl nG2 (oCv 4 56 1 (oRi 2)))))
noncomputable def B288_164 : rP := (oInc nG4 nS4 1 (oGo (oJb 416)))
noncomputable def B288_154 : rP := (oCv 4 64 1 (oAst 1 0 (oInc nG6 nS6 1 (oGo (oJb 417)))))
noncomputable def B288_151 : rP := (oIl nG7 (oI2l B288_154))
noncomputable def B288_99 : rP := (oIl nG6 (oPsh (vI 4) (oIc cGe gGe B288_164 (oAl nG1 (oIl nG5 (oIl nG6 (oCv 8 313 2 (oIs nS7 (oAl nG0 (oGf 20 0 vR (oGf 4 3 vR (oIl nG4 (oPsh (vI 4) (oBin fMul xN xN (oIl nG6 (oBin fAdd xN gAdd (oAl nG0 (oGf 20 0 vR (oIl nG7 (oAl nG1 (oGf 8 1 vI (oBin fAnd gAnd xN (oIf zEq yEq B288_151 (oIl nG7 (oPsh (vI 1) (oBin fOr xN xN (oI2l (oGo B288_154))))))))))))))))))))))))))))
noncomputable def B288_95 : rP := (oAst 3 3 (oPsh (vI 0) (oIs nS6 B288_99)))
noncomputable def B288_94 : rP := (oPsh (vI 0) B288_95)
noncomputable def B288_90 : rP := (oPsh (vI 1) (oGo B288_95))
noncomputable def B288_18 : rP := (oIl nG4 (oAl nG0 (oGf 20 0 vR (oGf 4 0 vI (oIc cGe gGe B288_170 (oIl nG4 (oPsh (vI 10240) (oIc cGe gGe B288_170 (oAl nG0 (oGf 20 0 vR (oGf 4 1 vR (oIl nG4 (oAld 5 vL (oL2i (oPsh (vI 1023) (oBin fAnd gAnd xN (oIs nS5 (oAl nG0 (oGf 20 0 vR (oGf 4 2 vR (oIl nG4 (oAl nG0 (oGf 20 0 vR (oGf 4 1 vR (oIl nG4 (oAld 5 vL (oIl nG3 (oI2l (oLcmp fLcmp (oIf zGe yGe B288_90 (oIl nG5 (oAl nG1 (oGf 8 1 vI (oBin fAnd gAnd xN (oIf zEq yEq B288_94 B288_90)))))))))))))))))))))))))))))))))))
noncomputable def B288_0 : rP := (oEnt 8 (oPsh (vI 1024) (oIs nS3 (oAl nG0 (oGf 20 0 vR (oIl nG3 (oPsh (vI 1) (oBin fOr xN xN (oI2l (oCv 4 51 1 (oPsh (vI 0) (oIs nS4 B288_18))))))))))))
noncomputable def B289_116 : rP := (oAl nG0 (oGf 20 0 vR (oAl nG2 (oCv 4 56 1 (oRi 2)))))
noncomputable def B289_110 : rP := (oInc nG3 nS3 1 (oGo (oJb 419)))
noncomputable def B289_68 : rP := (oIl nG5 (oPsh (vI 4) (oIc cGe gGe B289_110 (oAl nG0 (oGf 20 0 vR (oGf 4 3 vR (oIl nG3 (oPsh (vI 4) (oBin fMul xN xN (oIl nG5 (oBin fAdd xN gAdd (oAl nG0 (oGf 20 0 vR (oAl nG1 (oIl nG4 (oIl nG5 (oCv 8 315 2 (oI2l (oCv 4 64 1 (oAst 1 0 (oInc nG5 nS5 1 (oGo (oJb 420)))))))))))))))))))))))
noncomputable def B289_64 : rP := (oAst 3 3 (oPsh (vI 0) (oIs nS5 B289_68)))
noncomputable def B289_63 : rP := (oPsh (vI 0) B289_64)
noncomputable def B289_14 : rP := (oIl nG3 (oAl nG0 (oGf 20 0 vR (oGf 4 0 vI (oIc cGe gGe B289_116 (oIl nG3 (oPsh (vI 10240) (oIc cGe gGe B289_116 (oAl nG0 (oGf 20 0 vR (oGf 4 1 vR (oIl nG3 (oAld 5 vL (oL2i (oIs nS4 (oAl nG0 (oGf 20 0 vR (oGf 4 2 vR (oIl nG3 (oIl nG4 (oPsh (vI 1) (oBin fAnd gAnd xN (oIf zEq yEq B289_63 (oPsh (vI 1) (oGo B289_64)))))))))))))))))))))))))
noncomputable def B289_0 : rP := (oEnt 6 (oAl nG0 (oGf 20 0 vR (oAl nG1 (oGf 8 1 vI (oI2l (oCv 4 51 1 (oPsh (vI 0) (oIs nS3 B289_14)))))))))
noncomputable def B290_0 : rP := (oEnt 1 (oIl nG0 (oCs 423 1 (oPsh (vI 2) (oBin fSub xN xN (oPsh (vI 3) (oDiv aDv fDiv gDiv (oRi 4294967296))))))))
noncomputable def B291_0 : rP := (oEnt 1 (oAl nG0 (oOi (oAl nG0 (oPsh (vI 6) (oCs 421 1 (oNwa 1 (oPf 22 0 2 oRv))))))))
noncomputable def B292_0 : rP := (oEnt 1 (oPsh (vI 2) (oPsh (vI 2) (oIl nG0 (oBin fMul xN xN (oBin fShl xN xN (oRi 4294967296)))))))
noncomputable def tbL : List (Unit × rP) := [((), B0_0), ((), B1_0), ((), B2_0), ((), B3_0), ((), B3_5), ((), oNone), ((), oNone), ((), B6_0), ((), B7_0), ((), B8_0), ((), B9_0), ((), B10_0), ((), B11_0), ((), B12_0), ((), B13_0), ((), B14_0), ((), B15_0), ((), B16_0), ((), B17_0), ((), B18_0), ((), B19_0), ((), B20_0), ((), B21_0), ((), B22_0), ((), B23_0), ((), B24_0), ((), B25_0), ((), B26_0), ((), B27_0), ((), B28_0), ((), B28_23), ((), B29_0), ((), B30_0), ((), B31_0), ((), B32_0), ((), B33_0), ((), B34_0), ((), B35_0), ((), B36_0), ((), B37_0), ((), B38_0), ((), B39_0), ((), B40_0), ((), B41_0), ((), B42_0), ((), B43_0), ((), B44_0), ((), B45_0), ((), B46_0), ((), B47_0), ((), B48_0), ((), B49_0), ((), B50_0), ((), B51_0), ((), B51_39), ((), B51_86), ((), B52_0), ((), B52_2), ((), B52_40), ((), B53_0), ((), B53_9), ((), B54_0), ((), B54_4), ((), B54_21), ((), B55_0), ((), B56_0), ((), B57_0), ((), B58_0), ((), B59_0), ((), B60_0), ((), B61_0), ((), B62_0), ((), B63_0), ((), B64_0), ((), B65_0), ((), B66_0), ((), B67_0), ((), B67_29), ((), B67_68), ((), B68_0), ((), B69_0), ((), B70_0), ((), B71_0), ((), B72_0), ((), B73_0), ((), B73_120), ((), B73_147), ((), B74_0), ((), B75_0), ((), B76_0), ((), B77_0), ((), B78_0), ((), B79_0), ((), B80_0), ((), B81_0), ((), B82_0), ((), B83_0), ((), B84_0), ((), B85_0), ((), B86_0), ((), B87_0), ((), B88_0), ((), B89_0), ((), B89_4), ((), B90_0), ((), B91_0), ((), B91_5), ((), B91_26), ((), B91_93), ((), B92_0), ((), B93_0), ((), B93_5), ((), B93_15), ((), B93_24), ((), B94_0), ((), B95_0), ((), B96_0), ((), B96_2), ((), B97_0), ((), B98_0), ((), B99_0), ((), B100_0), ((), B101_0), ((), B102_0), ((), B103_0), ((), B104_0), ((), B105_0), ((), B106_0), ((), B107_0), ((), B108_0), ((), B109_0), ((), B110_0), ((), B111_0), ((), B112_0), ((), B113_0), ((), B114_0), ((), B115_0), ((), B116_0), ((), B117_0), ((), B118_0), ((), B119_0), ((), B120_0), ((), B121_0), ((), B122_0), ((), B123_0), ((), B124_0), ((), B125_0), ((), B126_0), ((), B127_0), ((), B128_0), ((), B129_0), ((), B130_0), ((), B130_4), ((), B131_0), ((), B131_6), ((), B132_0), ((), B133_0), ((), B134_0), ((), B135_0), ((), B136_0), ((), B137_0), ((), B138_0), ((), B139_0), ((), B140_0), ((), B141_0), ((), B142_0), ((), B143_0), ((), B143_10), ((), B144_0), ((), B145_0), ((), B146_0), ((), B147_0), ((), B148_0), ((), B148_9), ((), B149_0), ((), B150_0), ((), B151_0), ((), B151_9), ((), B151_19), ((), B151_42), ((), B152_0), ((), B152_19), ((), B152_55), ((), B153_0), ((), B153_11), ((), B153_119), ((), B154_0), ((), B155_0), ((), B155_14), ((), B155_290), ((), B155_336), ((), B155_400), ((), B156_0), ((), B156_11), ((), B157_0), ((), B158_0), ((), B159_0), ((), B160_0), ((), B160_22), ((), B160_90), ((), B160_109), ((), B160_161), ((), B161_0), ((), B162_0), ((), B163_0), ((), B164_0), ((), B164_19), ((), B165_0), ((), B166_0), ((), B166_26), ((), B166_65), ((), B166_101), ((), B167_0), ((), B167_11), ((), B167_54), ((), B167_80), ((), B167_97), ((), B167_106), ((), B168_0), ((), B169_0), ((), B169_48), ((), B169_58), ((), B170_0), ((), B171_0), ((), B172_0), ((), B173_0), ((), B174_0), ((), B175_0), ((), B176_0), ((), B177_0), ((), B177_9), ((), B177_42), ((), B177_58), ((), B177_70), ((), B178_0), ((), B178_21), ((), B178_52), ((), B178_85), ((), B178_142), ((), B178_155), ((), B178_365), ((), B178_562), ((), B178_572), ((), B178_581), ((), B179_0), ((), B180_0), ((), B181_0), ((), B182_0), ((), B183_0), ((), B184_0), ((), B185_0), ((), B186_0), ((), B186_115), ((), B187_0), ((), B188_0), ((), B189_0), ((), B189_4), ((), B190_0), ((), B191_0), ((), B191_46), ((), B192_0), ((), B193_0), ((), B194_0), ((), B194_4), ((), B195_0), ((), B195_22), ((), B195_34), ((), B195_61), ((), B195_154), ((), B195_166), ((), B196_0), ((), B196_19), ((), B196_42), ((), B196_87), ((), B197_0), ((), B198_0), ((), B199_0), ((), B200_0), ((), B200_47), ((), B201_0), ((), B202_0), ((), B203_0), ((), B203_9), ((), B204_0), ((), B204_5), ((), B205_0), ((), B206_0), ((), B207_0), ((), B208_0), ((), B209_0), ((), B210_0), ((), B211_0), ((), B212_0), ((), B213_0), ((), B214_0), ((), B215_0), ((), B216_0), ((), B217_0), ((), B218_0), ((), B219_0), ((), B220_0), ((), B221_0), ((), B222_0), ((), B222_6), ((), B223_0), ((), B224_0), ((), B225_0), ((), B226_0), ((), B227_0), ((), B228_0), ((), B229_0), ((), B230_0), ((), B231_0), ((), B232_0), ((), B232_5), ((), B233_0), ((), B233_5), ((), B234_0), ((), B235_0), ((), B236_0), ((), B237_0), ((), B238_0), ((), B238_9), ((), B239_0), ((), B240_0), ((), B241_0), ((), B242_0), ((), B242_18), ((), B243_0), ((), B244_0), ((), B244_6), ((), B245_0), ((), B246_0), ((), B246_26), ((), B247_0), ((), B248_0), ((), B248_5), ((), B248_41), ((), B248_56), ((), B248_71), ((), B249_0), ((), B250_0), ((), B250_12), ((), B251_0), ((), B252_0), ((), B253_0), ((), B254_0), ((), B254_2), ((), B254_41), ((), B255_0), ((), B256_0), ((), B256_85), ((), B256_115), ((), B257_0), ((), B258_0), ((), B259_0), ((), B260_0), ((), B261_0), ((), B261_27), ((), B262_0), ((), B263_0), ((), B263_6), ((), B264_0), ((), B265_0), ((), B265_25), ((), B265_84), ((), B266_0), ((), B267_0), ((), B268_0), ((), B268_10), ((), B268_18), ((), B268_40), ((), B269_0), ((), B269_4), ((), B269_30), ((), B269_54), ((), B270_0), ((), B270_8), ((), B271_0), ((), B271_9), ((), B271_24), ((), B272_0), ((), B272_2), ((), B272_16), ((), B273_0), ((), B274_0), ((), B274_2), ((), B275_0), ((), B275_2), ((), B276_0), ((), B276_2), ((), B277_0), ((), B277_2), ((), B278_0), ((), B278_7), ((), B278_14), ((), B279_0), ((), B279_2), ((), B279_15), ((), B280_0), ((), B280_25), ((), B281_0), ((), B282_0), ((), B282_4), ((), B283_0), ((), B283_11), ((), B283_92), ((), B284_0), ((), B284_18), ((), B284_78), ((), B285_0), ((), B286_0), ((), B287_0), ((), B287_23), ((), B287_104), ((), B288_0), ((), B288_18), ((), B288_99), ((), B289_0), ((), B289_14), ((), B289_68), ((), B290_0), ((), B291_0), ((), B292_0)]
noncomputable def tb (id : Nat) : Unit × rP := @List.rec _ (fun _ => Nat → Unit × rP) (fun _ => ((), oNone)) (fun p _ ih n => @Nat.rec (fun _ => Unit × rP) p (fun m _ => ih m) n) tbL id
end
