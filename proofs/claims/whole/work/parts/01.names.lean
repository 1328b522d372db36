-- ===== PART A: goes FIRST, ahead of the names: the tables' words, and 'selects' of the private methods out of them =====
/-- a private method of a class that the tables say can be made, by its rows of tables_1 -/
def lw_okq (q : MethodName × Nat) : Prop := (q.1.cls ≠ "java/lang/invoke/MethodHandle" ∧ q.1.cls ≠ "java/lang/invoke/VarHandle") ∧ Cond.instantiable q.1.cls q.2 ∈ tables_1 ∧ Cond.privateMethod q.1 ∈ tables_1 ∧ Cond.instanceMethod q.1 ∈ tables_1
theorem lw_p0 : lw_okq (⟨"PourElection", "found", "(I)I"⟩, 7) := ⟨⟨by decide +kernel, by decide +kernel⟩, List.mem_of_getElem? (i := 15) (by decide +kernel), List.mem_of_getElem? (i := 179) (by decide +kernel), List.mem_of_getElem? (i := 180) (by decide +kernel)⟩
theorem lw_p1 : lw_okq (⟨"PourElection", "isTeapot", "(I)Z"⟩, 7) := ⟨⟨by decide +kernel, by decide +kernel⟩, List.mem_of_getElem? (i := 15) (by decide +kernel), List.mem_of_getElem? (i := 236) (by decide +kernel), List.mem_of_getElem? (i := 237) (by decide +kernel)⟩
theorem lw_p2 : lw_okq (⟨"PourElection", "daysUntil", "(III)I"⟩, 7) := ⟨⟨by decide +kernel, by decide +kernel⟩, List.mem_of_getElem? (i := 15) (by decide +kernel), List.mem_of_getElem? (i := 367) (by decide +kernel), List.mem_of_getElem? (i := 368) (by decide +kernel)⟩
theorem lw_p3 : lw_okq (⟨"PourElection", "isReached", "(III)Z"⟩, 7) := ⟨⟨by decide +kernel, by decide +kernel⟩, List.mem_of_getElem? (i := 15) (by decide +kernel), List.mem_of_getElem? (i := 371) (by decide +kernel), List.mem_of_getElem? (i := 372) (by decide +kernel)⟩
theorem lw_p4 : lw_okq (⟨"PourElection", "leastToLead", "(III)I"⟩, 7) := ⟨⟨by decide +kernel, by decide +kernel⟩, List.mem_of_getElem? (i := 15) (by decide +kernel), List.mem_of_getElem? (i := 388) (by decide +kernel), List.mem_of_getElem? (i := 389) (by decide +kernel)⟩
theorem lw_p5 : lw_okq (⟨"PourElection", "leadsWithout", "(III)Z"⟩, 7) := ⟨⟨by decide +kernel, by decide +kernel⟩, List.mem_of_getElem? (i := 15) (by decide +kernel), List.mem_of_getElem? (i := 414) (by decide +kernel), List.mem_of_getElem? (i := 415) (by decide +kernel)⟩
theorem lw_p6 : lw_okq (⟨"PourElection", "tastesWon", "(II)I"⟩, 7) := ⟨⟨by decide +kernel, by decide +kernel⟩, List.mem_of_getElem? (i := 15) (by decide +kernel), List.mem_of_getElem? (i := 422) (by decide +kernel), List.mem_of_getElem? (i := 423) (by decide +kernel)⟩
theorem lw_p7 : lw_okq (⟨"PourElection", "goesAsTold", "(LPourElection$Sheet;III)Z"⟩, 7) := ⟨⟨by decide +kernel, by decide +kernel⟩, List.mem_of_getElem? (i := 15) (by decide +kernel), List.mem_of_getElem? (i := 435) (by decide +kernel), List.mem_of_getElem? (i := 436) (by decide +kernel)⟩
theorem lw_p8 : lw_okq (⟨"PourElection", "byElection", "()V"⟩, 7) := ⟨⟨by decide +kernel, by decide +kernel⟩, List.mem_of_getElem? (i := 15) (by decide +kernel), List.mem_of_getElem? (i := 448) (by decide +kernel), List.mem_of_getElem? (i := 449) (by decide +kernel)⟩
theorem lw_p9 : lw_okq (⟨"PourElection$Tape", "takeWord", "()V"⟩, 6) := ⟨⟨by decide +kernel, by decide +kernel⟩, List.mem_of_getElem? (i := 97) (by decide +kernel), List.mem_of_getElem? (i := 498) (by decide +kernel), List.mem_of_getElem? (i := 499) (by decide +kernel)⟩
theorem lw_p10 : lw_okq (⟨"PourElection$Tape", "takeNumber", "()V"⟩, 6) := ⟨⟨by decide +kernel, by decide +kernel⟩, List.mem_of_getElem? (i := 97) (by decide +kernel), List.mem_of_getElem? (i := 505) (by decide +kernel), List.mem_of_getElem? (i := 506) (by decide +kernel)⟩
theorem lw_p11 : lw_okq (⟨"PourElection", "itemInto", "(LPourElection$Borough;)Z"⟩, 7) := ⟨⟨by decide +kernel, by decide +kernel⟩, List.mem_of_getElem? (i := 15) (by decide +kernel), List.mem_of_getElem? (i := 511) (by decide +kernel), List.mem_of_getElem? (i := 512) (by decide +kernel)⟩
theorem lw_p12 : lw_okq (⟨"PourElection", "kindTold", "()I"⟩, 7) := ⟨⟨by decide +kernel, by decide +kernel⟩, List.mem_of_getElem? (i := 15) (by decide +kernel), List.mem_of_getElem? (i := 515) (by decide +kernel), List.mem_of_getElem? (i := 516) (by decide +kernel)⟩
theorem lw_p13 : lw_okq (⟨"PourElection", "teapotItem", "(LPourElection$Borough;I)Z"⟩, 7) := ⟨⟨by decide +kernel, by decide +kernel⟩, List.mem_of_getElem? (i := 15) (by decide +kernel), List.mem_of_getElem? (i := 581) (by decide +kernel), List.mem_of_getElem? (i := 582) (by decide +kernel)⟩
theorem lw_p14 : lw_okq (⟨"PourElection", "perhaps", "(LPourElection$Teapot;Ljava/lang/String;I)Z"⟩, 7) := ⟨⟨by decide +kernel, by decide +kernel⟩, List.mem_of_getElem? (i := 15) (by decide +kernel), List.mem_of_getElem? (i := 587) (by decide +kernel), List.mem_of_getElem? (i := 588) (by decide +kernel)⟩
theorem lw_p15 : lw_okq (⟨"PourElection", "wardItem", "(LPourElection$Borough;)Z"⟩, 7) := ⟨⟨by decide +kernel, by decide +kernel⟩, List.mem_of_getElem? (i := 15) (by decide +kernel), List.mem_of_getElem? (i := 600) (by decide +kernel), List.mem_of_getElem? (i := 601) (by decide +kernel)⟩
def lw_privs_1 : List (MethodName × Nat) := [(⟨"PourElection", "found", "(I)I"⟩, 7), (⟨"PourElection", "isTeapot", "(I)Z"⟩, 7), (⟨"PourElection", "daysUntil", "(III)I"⟩, 7), (⟨"PourElection", "isReached", "(III)Z"⟩, 7), (⟨"PourElection", "leastToLead", "(III)I"⟩, 7), (⟨"PourElection", "leadsWithout", "(III)Z"⟩, 7), (⟨"PourElection", "tastesWon", "(II)I"⟩, 7), (⟨"PourElection", "goesAsTold", "(LPourElection$Sheet;III)Z"⟩, 7), (⟨"PourElection", "byElection", "()V"⟩, 7), (⟨"PourElection$Tape", "takeWord", "()V"⟩, 6), (⟨"PourElection$Tape", "takeNumber", "()V"⟩, 6), (⟨"PourElection", "itemInto", "(LPourElection$Borough;)Z"⟩, 7), (⟨"PourElection", "kindTold", "()I"⟩, 7), (⟨"PourElection", "teapotItem", "(LPourElection$Borough;I)Z"⟩, 7), (⟨"PourElection", "perhaps", "(LPourElection$Teapot;Ljava/lang/String;I)Z"⟩, 7), (⟨"PourElection", "wardItem", "(LPourElection$Borough;)Z"⟩, 7)]
theorem lw_r1 : ∀ q ∈ lw_privs_1, lw_okq q := List.forall_mem_cons.mpr ⟨lw_p0, List.forall_mem_cons.mpr ⟨lw_p1, List.forall_mem_cons.mpr ⟨lw_p2, List.forall_mem_cons.mpr ⟨lw_p3, List.forall_mem_cons.mpr ⟨lw_p4, List.forall_mem_cons.mpr ⟨lw_p5, List.forall_mem_cons.mpr ⟨lw_p6, List.forall_mem_cons.mpr ⟨lw_p7, List.forall_mem_cons.mpr ⟨lw_p8, List.forall_mem_cons.mpr ⟨lw_p9, List.forall_mem_cons.mpr ⟨lw_p10, List.forall_mem_cons.mpr ⟨lw_p11, List.forall_mem_cons.mpr ⟨lw_p12, List.forall_mem_cons.mpr ⟨lw_p13, List.forall_mem_cons.mpr ⟨lw_p14, List.forall_mem_cons.mpr ⟨lw_p15, fun _ h => absurd h List.not_mem_nil⟩⟩⟩⟩⟩⟩⟩⟩⟩⟩⟩⟩⟩⟩⟩⟩
theorem lw_p16 : lw_okq (⟨"PourElection", "perhapsOfWard", "([IILjava/lang/String;I)Z"⟩, 7) := ⟨⟨by decide +kernel, by decide +kernel⟩, List.mem_of_getElem? (i := 15) (by decide +kernel), List.mem_of_getElem? (i := 605) (by decide +kernel), List.mem_of_getElem? (i := 606) (by decide +kernel)⟩
theorem lw_p17 : lw_okq (⟨"PourElection", "trialItem", "(LPourElection$Borough;)Z"⟩, 7) := ⟨⟨by decide +kernel, by decide +kernel⟩, List.mem_of_getElem? (i := 15) (by decide +kernel), List.mem_of_getElem? (i := 611) (by decide +kernel), List.mem_of_getElem? (i := 612) (by decide +kernel)⟩
theorem lw_p18 : lw_okq (⟨"PourElectionModel", "become", "(II)I"⟩, 20) := ⟨⟨by decide +kernel, by decide +kernel⟩, List.mem_of_getElem? (i := 686) (by decide +kernel), List.mem_of_getElem? (i := 775) (by decide +kernel), List.mem_of_getElem? (i := 776) (by decide +kernel)⟩
theorem lw_p19 : lw_okq (⟨"PourElectionModel", "finding", "(I)I"⟩, 20) := ⟨⟨by decide +kernel, by decide +kernel⟩, List.mem_of_getElem? (i := 686) (by decide +kernel), List.mem_of_getElem? (i := 780) (by decide +kernel), List.mem_of_getElem? (i := 781) (by decide +kernel)⟩
theorem lw_p20 : lw_okq (⟨"PourElectionModel", "winner", "(I)I"⟩, 20) := ⟨⟨by decide +kernel, by decide +kernel⟩, List.mem_of_getElem? (i := 686) (by decide +kernel), List.mem_of_getElem? (i := 788) (by decide +kernel), List.mem_of_getElem? (i := 789) (by decide +kernel)⟩
theorem lw_p21 : lw_okq (⟨"PourElectionModel", "doesPour", "(I)Z"⟩, 20) := ⟨⟨by decide +kernel, by decide +kernel⟩, List.mem_of_getElem? (i := 686) (by decide +kernel), List.mem_of_getElem? (i := 792) (by decide +kernel), List.mem_of_getElem? (i := 793) (by decide +kernel)⟩
theorem lw_p22 : lw_okq (⟨"PourElectionModel", "doesStand", "(I)Z"⟩, 20) := ⟨⟨by decide +kernel, by decide +kernel⟩, List.mem_of_getElem? (i := 686) (by decide +kernel), List.mem_of_getElem? (i := 796) (by decide +kernel), List.mem_of_getElem? (i := 797) (by decide +kernel)⟩
theorem lw_p23 : lw_okq (⟨"PourElectionModel", "potIs", "(II)I"⟩, 20) := ⟨⟨by decide +kernel, by decide +kernel⟩, List.mem_of_getElem? (i := 686) (by decide +kernel), List.mem_of_getElem? (i := 800) (by decide +kernel), List.mem_of_getElem? (i := 801) (by decide +kernel)⟩
theorem lw_p24 : lw_okq (⟨"PourElectionModel", "meritOf", "(II)I"⟩, 20) := ⟨⟨by decide +kernel, by decide +kernel⟩, List.mem_of_getElem? (i := 686) (by decide +kernel), List.mem_of_getElem? (i := 807) (by decide +kernel), List.mem_of_getElem? (i := 808) (by decide +kernel)⟩
theorem lw_p25 : lw_okq (⟨"PourElectionModel", "comes", "(II)I"⟩, 20) := ⟨⟨by decide +kernel, by decide +kernel⟩, List.mem_of_getElem? (i := 686) (by decide +kernel), List.mem_of_getElem? (i := 832) (by decide +kernel), List.mem_of_getElem? (i := 833) (by decide +kernel)⟩
theorem lw_p26 : lw_okq (⟨"PourElectionModel", "isPot", "(I)Z"⟩, 20) := ⟨⟨by decide +kernel, by decide +kernel⟩, List.mem_of_getElem? (i := 686) (by decide +kernel), List.mem_of_getElem? (i := 840) (by decide +kernel), List.mem_of_getElem? (i := 841) (by decide +kernel)⟩
theorem lw_p27 : lw_okq (⟨"PourElectionModel", "told", "(II)I"⟩, 20) := ⟨⟨by decide +kernel, by decide +kernel⟩, List.mem_of_getElem? (i := 686) (by decide +kernel), List.mem_of_getElem? (i := 844) (by decide +kernel), List.mem_of_getElem? (i := 845) (by decide +kernel)⟩
theorem lw_p28 : lw_okq (⟨"PourElectionModel", "cools", "(I)I"⟩, 20) := ⟨⟨by decide +kernel, by decide +kernel⟩, List.mem_of_getElem? (i := 686) (by decide +kernel), List.mem_of_getElem? (i := 848) (by decide +kernel), List.mem_of_getElem? (i := 849) (by decide +kernel)⟩
theorem lw_p29 : lw_okq (⟨"PourElectionModel", "wets", "(I)I"⟩, 20) := ⟨⟨by decide +kernel, by decide +kernel⟩, List.mem_of_getElem? (i := 686) (by decide +kernel), List.mem_of_getElem? (i := 852) (by decide +kernel), List.mem_of_getElem? (i := 853) (by decide +kernel)⟩
theorem lw_p30 : lw_okq (⟨"PourElectionModel", "holdsOf", "(I)I"⟩, 20) := ⟨⟨by decide +kernel, by decide +kernel⟩, List.mem_of_getElem? (i := 686) (by decide +kernel), List.mem_of_getElem? (i := 856) (by decide +kernel), List.mem_of_getElem? (i := 857) (by decide +kernel)⟩
theorem lw_p31 : lw_okq (⟨"PourElectionModel", "daysGo", "(I)V"⟩, 20) := ⟨⟨by decide +kernel, by decide +kernel⟩, List.mem_of_getElem? (i := 686) (by decide +kernel), List.mem_of_getElem? (i := 877) (by decide +kernel), List.mem_of_getElem? (i := 878) (by decide +kernel)⟩
def lw_privs_2 : List (MethodName × Nat) := [(⟨"PourElection", "perhapsOfWard", "([IILjava/lang/String;I)Z"⟩, 7), (⟨"PourElection", "trialItem", "(LPourElection$Borough;)Z"⟩, 7), (⟨"PourElectionModel", "become", "(II)I"⟩, 20), (⟨"PourElectionModel", "finding", "(I)I"⟩, 20), (⟨"PourElectionModel", "winner", "(I)I"⟩, 20), (⟨"PourElectionModel", "doesPour", "(I)Z"⟩, 20), (⟨"PourElectionModel", "doesStand", "(I)Z"⟩, 20), (⟨"PourElectionModel", "potIs", "(II)I"⟩, 20), (⟨"PourElectionModel", "meritOf", "(II)I"⟩, 20), (⟨"PourElectionModel", "comes", "(II)I"⟩, 20), (⟨"PourElectionModel", "isPot", "(I)Z"⟩, 20), (⟨"PourElectionModel", "told", "(II)I"⟩, 20), (⟨"PourElectionModel", "cools", "(I)I"⟩, 20), (⟨"PourElectionModel", "wets", "(I)I"⟩, 20), (⟨"PourElectionModel", "holdsOf", "(I)I"⟩, 20), (⟨"PourElectionModel", "daysGo", "(I)V"⟩, 20)]
theorem lw_r2 : ∀ q ∈ lw_privs_2, lw_okq q := List.forall_mem_cons.mpr ⟨lw_p16, List.forall_mem_cons.mpr ⟨lw_p17, List.forall_mem_cons.mpr ⟨lw_p18, List.forall_mem_cons.mpr ⟨lw_p19, List.forall_mem_cons.mpr ⟨lw_p20, List.forall_mem_cons.mpr ⟨lw_p21, List.forall_mem_cons.mpr ⟨lw_p22, List.forall_mem_cons.mpr ⟨lw_p23, List.forall_mem_cons.mpr ⟨lw_p24, List.forall_mem_cons.mpr ⟨lw_p25, List.forall_mem_cons.mpr ⟨lw_p26, List.forall_mem_cons.mpr ⟨lw_p27, List.forall_mem_cons.mpr ⟨lw_p28, List.forall_mem_cons.mpr ⟨lw_p29, List.forall_mem_cons.mpr ⟨lw_p30, List.forall_mem_cons.mpr ⟨lw_p31, fun _ h => absurd h List.not_mem_nil⟩⟩⟩⟩⟩⟩⟩⟩⟩⟩⟩⟩⟩⟩⟩⟩
theorem lw_p32 : lw_okq (⟨"PourElectionModel", "day", "()V"⟩, 20) := ⟨⟨by decide +kernel, by decide +kernel⟩, List.mem_of_getElem? (i := 686) (by decide +kernel), List.mem_of_getElem? (i := 881) (by decide +kernel), List.mem_of_getElem? (i := 882) (by decide +kernel)⟩
theorem lw_p33 : lw_okq (⟨"PourElectionModel", "tries", "(I)V"⟩, 20) := ⟨⟨by decide +kernel, by decide +kernel⟩, List.mem_of_getElem? (i := 686) (by decide +kernel), List.mem_of_getElem? (i := 885) (by decide +kernel), List.mem_of_getElem? (i := 886) (by decide +kernel)⟩
theorem lw_p34 : lw_okq (⟨"PourElectionModel", "more", "(III)V"⟩, 20) := ⟨⟨by decide +kernel, by decide +kernel⟩, List.mem_of_getElem? (i := 686) (by decide +kernel), List.mem_of_getElem? (i := 890) (by decide +kernel), List.mem_of_getElem? (i := 891) (by decide +kernel)⟩
theorem lw_p35 : lw_okq (⟨"PourElectionModel", "mostOf", "(I)I"⟩, 20) := ⟨⟨by decide +kernel, by decide +kernel⟩, List.mem_of_getElem? (i := 686) (by decide +kernel), List.mem_of_getElem? (i := 894) (by decide +kernel), List.mem_of_getElem? (i := 895) (by decide +kernel)⟩
theorem lw_p36 : lw_okq (⟨"PourElectionModel", "sumOf", "(I)I"⟩, 20) := ⟨⟨by decide +kernel, by decide +kernel⟩, List.mem_of_getElem? (i := 686) (by decide +kernel), List.mem_of_getElem? (i := 902) (by decide +kernel), List.mem_of_getElem? (i := 903) (by decide +kernel)⟩
theorem lw_p37 : lw_okq (⟨"PourElectionModel", "cupsThere", "()I"⟩, 20) := ⟨⟨by decide +kernel, by decide +kernel⟩, List.mem_of_getElem? (i := 686) (by decide +kernel), List.mem_of_getElem? (i := 906) (by decide +kernel), List.mem_of_getElem? (i := 907) (by decide +kernel)⟩
theorem lw_p38 : lw_okq (⟨"PourElectionModel", "standing", "()I"⟩, 20) := ⟨⟨by decide +kernel, by decide +kernel⟩, List.mem_of_getElem? (i := 686) (by decide +kernel), List.mem_of_getElem? (i := 910) (by decide +kernel), List.mem_of_getElem? (i := 911) (by decide +kernel)⟩
theorem lw_p39 : lw_okq (⟨"PourElectionModel", "wonWards", "()I"⟩, 20) := ⟨⟨by decide +kernel, by decide +kernel⟩, List.mem_of_getElem? (i := 686) (by decide +kernel), List.mem_of_getElem? (i := 914) (by decide +kernel), List.mem_of_getElem? (i := 915) (by decide +kernel)⟩
theorem lw_p40 : lw_okq (⟨"PourElectionModel", "behind", "(II)I"⟩, 20) := ⟨⟨by decide +kernel, by decide +kernel⟩, List.mem_of_getElem? (i := 686) (by decide +kernel), List.mem_of_getElem? (i := 922) (by decide +kernel), List.mem_of_getElem? (i := 923) (by decide +kernel)⟩
theorem lw_p41 : lw_okq (⟨"PourElectionModel", "putBack", "(I)I"⟩, 20) := ⟨⟨by decide +kernel, by decide +kernel⟩, List.mem_of_getElem? (i := 686) (by decide +kernel), List.mem_of_getElem? (i := 929) (by decide +kernel), List.mem_of_getElem? (i := 930) (by decide +kernel)⟩
theorem lw_p42 : lw_okq (⟨"PourElectionModel", "leadsBehind", "(I)I"⟩, 20) := ⟨⟨by decide +kernel, by decide +kernel⟩, List.mem_of_getElem? (i := 686) (by decide +kernel), List.mem_of_getElem? (i := 937) (by decide +kernel), List.mem_of_getElem? (i := 938) (by decide +kernel)⟩
theorem lw_p43 : lw_okq (⟨"PourElectionModel", "orNone", "(I)I"⟩, 20) := ⟨⟨by decide +kernel, by decide +kernel⟩, List.mem_of_getElem? (i := 686) (by decide +kernel), List.mem_of_getElem? (i := 941) (by decide +kernel), List.mem_of_getElem? (i := 942) (by decide +kernel)⟩
theorem lw_p44 : lw_okq (⟨"PourElectionModel", "leastFor", "(III)I"⟩, 20) := ⟨⟨by decide +kernel, by decide +kernel⟩, List.mem_of_getElem? (i := 686) (by decide +kernel), List.mem_of_getElem? (i := 965) (by decide +kernel), List.mem_of_getElem? (i := 966) (by decide +kernel)⟩
theorem lw_p45 : lw_okq (⟨"PourElectionModel", "bestBy", "(IIII)I"⟩, 20) := ⟨⟨by decide +kernel, by decide +kernel⟩, List.mem_of_getElem? (i := 686) (by decide +kernel), List.mem_of_getElem? (i := 977) (by decide +kernel), List.mem_of_getElem? (i := 978) (by decide +kernel)⟩
theorem lw_p46 : lw_okq (⟨"PourElectionModel", "doesLeadWithout", "(III)Z"⟩, 20) := ⟨⟨by decide +kernel, by decide +kernel⟩, List.mem_of_getElem? (i := 686) (by decide +kernel), List.mem_of_getElem? (i := 992) (by decide +kernel), List.mem_of_getElem? (i := 993) (by decide +kernel)⟩
theorem lw_p47 : lw_okq (⟨"PourElectionModel", "likedOf", "(II)I"⟩, 20) := ⟨⟨by decide +kernel, by decide +kernel⟩, List.mem_of_getElem? (i := 686) (by decide +kernel), List.mem_of_getElem? (i := 1000) (by decide +kernel), List.mem_of_getElem? (i := 1001) (by decide +kernel)⟩
def lw_privs_3 : List (MethodName × Nat) := [(⟨"PourElectionModel", "day", "()V"⟩, 20), (⟨"PourElectionModel", "tries", "(I)V"⟩, 20), (⟨"PourElectionModel", "more", "(III)V"⟩, 20), (⟨"PourElectionModel", "mostOf", "(I)I"⟩, 20), (⟨"PourElectionModel", "sumOf", "(I)I"⟩, 20), (⟨"PourElectionModel", "cupsThere", "()I"⟩, 20), (⟨"PourElectionModel", "standing", "()I"⟩, 20), (⟨"PourElectionModel", "wonWards", "()I"⟩, 20), (⟨"PourElectionModel", "behind", "(II)I"⟩, 20), (⟨"PourElectionModel", "putBack", "(I)I"⟩, 20), (⟨"PourElectionModel", "leadsBehind", "(I)I"⟩, 20), (⟨"PourElectionModel", "orNone", "(I)I"⟩, 20), (⟨"PourElectionModel", "leastFor", "(III)I"⟩, 20), (⟨"PourElectionModel", "bestBy", "(IIII)I"⟩, 20), (⟨"PourElectionModel", "doesLeadWithout", "(III)Z"⟩, 20), (⟨"PourElectionModel", "likedOf", "(II)I"⟩, 20)]
theorem lw_r3 : ∀ q ∈ lw_privs_3, lw_okq q := List.forall_mem_cons.mpr ⟨lw_p32, List.forall_mem_cons.mpr ⟨lw_p33, List.forall_mem_cons.mpr ⟨lw_p34, List.forall_mem_cons.mpr ⟨lw_p35, List.forall_mem_cons.mpr ⟨lw_p36, List.forall_mem_cons.mpr ⟨lw_p37, List.forall_mem_cons.mpr ⟨lw_p38, List.forall_mem_cons.mpr ⟨lw_p39, List.forall_mem_cons.mpr ⟨lw_p40, List.forall_mem_cons.mpr ⟨lw_p41, List.forall_mem_cons.mpr ⟨lw_p42, List.forall_mem_cons.mpr ⟨lw_p43, List.forall_mem_cons.mpr ⟨lw_p44, List.forall_mem_cons.mpr ⟨lw_p45, List.forall_mem_cons.mpr ⟨lw_p46, List.forall_mem_cons.mpr ⟨lw_p47, fun _ h => absurd h List.not_mem_nil⟩⟩⟩⟩⟩⟩⟩⟩⟩⟩⟩⟩⟩⟩⟩⟩
theorem lw_p48 : lw_okq (⟨"PourElectionModel", "lacks", "(IZ)I"⟩, 20) := ⟨⟨by decide +kernel, by decide +kernel⟩, List.mem_of_getElem? (i := 686) (by decide +kernel), List.mem_of_getElem? (i := 1008) (by decide +kernel), List.mem_of_getElem? (i := 1009) (by decide +kernel)⟩
theorem lw_p49 : lw_okq (⟨"PourElectionModel", "isSo", "(III)Z"⟩, 20) := ⟨⟨by decide +kernel, by decide +kernel⟩, List.mem_of_getElem? (i := 686) (by decide +kernel), List.mem_of_getElem? (i := 1016) (by decide +kernel), List.mem_of_getElem? (i := 1017) (by decide +kernel)⟩
theorem lw_p50 : lw_okq (⟨"PourElectionModel", "drawn", "()I"⟩, 20) := ⟨⟨by decide +kernel, by decide +kernel⟩, List.mem_of_getElem? (i := 686) (by decide +kernel), List.mem_of_getElem? (i := 1028) (by decide +kernel), List.mem_of_getElem? (i := 1029) (by decide +kernel)⟩
theorem lw_p51 : lw_okq (⟨"PourElectionModel", "token", "()V"⟩, 20) := ⟨⟨by decide +kernel, by decide +kernel⟩, List.mem_of_getElem? (i := 686) (by decide +kernel), List.mem_of_getElem? (i := 1053) (by decide +kernel), List.mem_of_getElem? (i := 1054) (by decide +kernel)⟩
theorem lw_p52 : lw_okq (⟨"PourElectionModel", "byteAt", "(I)I"⟩, 20) := ⟨⟨by decide +kernel, by decide +kernel⟩, List.mem_of_getElem? (i := 686) (by decide +kernel), List.mem_of_getElem? (i := 1057) (by decide +kernel), List.mem_of_getElem? (i := 1058) (by decide +kernel)⟩
theorem lw_p53 : lw_okq (⟨"PourElectionModel", "readItem", "()V"⟩, 20) := ⟨⟨by decide +kernel, by decide +kernel⟩, List.mem_of_getElem? (i := 686) (by decide +kernel), List.mem_of_getElem? (i := 1062) (by decide +kernel), List.mem_of_getElem? (i := 1063) (by decide +kernel)⟩
theorem lw_p54 : lw_okq (⟨"PourElectionModel", "isWord", "(Ljava/lang/String;)Z"⟩, 20) := ⟨⟨by decide +kernel, by decide +kernel⟩, List.mem_of_getElem? (i := 686) (by decide +kernel), List.mem_of_getElem? (i := 1066) (by decide +kernel), List.mem_of_getElem? (i := 1067) (by decide +kernel)⟩
theorem lw_p55 : lw_okq (⟨"PourElectionModel", "readPot", "(I)V"⟩, 20) := ⟨⟨by decide +kernel, by decide +kernel⟩, List.mem_of_getElem? (i := 686) (by decide +kernel), List.mem_of_getElem? (i := 1072) (by decide +kernel), List.mem_of_getElem? (i := 1073) (by decide +kernel)⟩
theorem lw_p56 : lw_okq (⟨"PourElectionModel", "must", "(Z)V"⟩, 20) := ⟨⟨by decide +kernel, by decide +kernel⟩, List.mem_of_getElem? (i := 686) (by decide +kernel), List.mem_of_getElem? (i := 1076) (by decide +kernel), List.mem_of_getElem? (i := 1077) (by decide +kernel)⟩
theorem lw_p57 : lw_okq (⟨"PourElectionModel", "takesWord", "(Ljava/lang/String;)Z"⟩, 20) := ⟨⟨by decide +kernel, by decide +kernel⟩, List.mem_of_getElem? (i := 686) (by decide +kernel), List.mem_of_getElem? (i := 1081) (by decide +kernel), List.mem_of_getElem? (i := 1082) (by decide +kernel)⟩
theorem lw_p58 : lw_okq (⟨"PourElectionModel", "number", "(II)I"⟩, 20) := ⟨⟨by decide +kernel, by decide +kernel⟩, List.mem_of_getElem? (i := 686) (by decide +kernel), List.mem_of_getElem? (i := 1085) (by decide +kernel), List.mem_of_getElem? (i := 1086) (by decide +kernel)⟩
theorem lw_p59 : lw_okq (⟨"PourElectionModel", "addItem", "(IIIIII)V"⟩, 20) := ⟨⟨by decide +kernel, by decide +kernel⟩, List.mem_of_getElem? (i := 686) (by decide +kernel), List.mem_of_getElem? (i := 1093) (by decide +kernel), List.mem_of_getElem? (i := 1094) (by decide +kernel)⟩
theorem lw_p60 : lw_okq (⟨"PourElectionModel", "isToldSo", "(I)V"⟩, 20) := ⟨⟨by decide +kernel, by decide +kernel⟩, List.mem_of_getElem? (i := 686) (by decide +kernel), List.mem_of_getElem? (i := 1101) (by decide +kernel), List.mem_of_getElem? (i := 1102) (by decide +kernel)⟩
def lw_privs_4 : List (MethodName × Nat) := [(⟨"PourElectionModel", "lacks", "(IZ)I"⟩, 20), (⟨"PourElectionModel", "isSo", "(III)Z"⟩, 20), (⟨"PourElectionModel", "drawn", "()I"⟩, 20), (⟨"PourElectionModel", "token", "()V"⟩, 20), (⟨"PourElectionModel", "byteAt", "(I)I"⟩, 20), (⟨"PourElectionModel", "readItem", "()V"⟩, 20), (⟨"PourElectionModel", "isWord", "(Ljava/lang/String;)Z"⟩, 20), (⟨"PourElectionModel", "readPot", "(I)V"⟩, 20), (⟨"PourElectionModel", "must", "(Z)V"⟩, 20), (⟨"PourElectionModel", "takesWord", "(Ljava/lang/String;)Z"⟩, 20), (⟨"PourElectionModel", "number", "(II)I"⟩, 20), (⟨"PourElectionModel", "addItem", "(IIIIII)V"⟩, 20), (⟨"PourElectionModel", "isToldSo", "(I)V"⟩, 20)]
theorem lw_r4 : ∀ q ∈ lw_privs_4, lw_okq q := List.forall_mem_cons.mpr ⟨lw_p48, List.forall_mem_cons.mpr ⟨lw_p49, List.forall_mem_cons.mpr ⟨lw_p50, List.forall_mem_cons.mpr ⟨lw_p51, List.forall_mem_cons.mpr ⟨lw_p52, List.forall_mem_cons.mpr ⟨lw_p53, List.forall_mem_cons.mpr ⟨lw_p54, List.forall_mem_cons.mpr ⟨lw_p55, List.forall_mem_cons.mpr ⟨lw_p56, List.forall_mem_cons.mpr ⟨lw_p57, List.forall_mem_cons.mpr ⟨lw_p58, List.forall_mem_cons.mpr ⟨lw_p59, List.forall_mem_cons.mpr ⟨lw_p60, fun _ h => absurd h List.not_mem_nil⟩⟩⟩⟩⟩⟩⟩⟩⟩⟩⟩⟩⟩
def lw_privs : List (MethodName × Nat) := lw_privs_1 ++ (lw_privs_2 ++ (lw_privs_3 ++ (lw_privs_4)))
def lw_tbl : List Cond := k2_sels lw_privs ++ tables_1
theorem lw_privs_ok : ∀ q ∈ lw_privs, lw_okq q := by
  show ∀ q ∈ lw_privs_1 ++ (lw_privs_2 ++ (lw_privs_3 ++ (lw_privs_4))), lw_okq q
  exact List.forall_mem_append.mpr ⟨lw_r1, List.forall_mem_append.mpr ⟨lw_r2, List.forall_mem_append.mpr ⟨lw_r3, lw_r4⟩⟩⟩
def RX0 : String := "PourElection$Borough"
def TX0 : u_T := fun k => match k with
  | 0 => ("PourElection$Borough", "voters", "[I", true)
  | 1 => ("PourElection$Borough", "tastes", "[I", true)
  | 2 => ("PourElection$Borough", "list", "[I", true)
  | 3 => ("PourElection$Borough", "pots", "[LPourElection$Teapot;", true)
  | 4 => ("PourElection$Borough", "spots", "[I", true)
  | 5 => ("PourElection$Borough", "number", "I", false)
  | 6 => ("PourElection$Borough", "day", "I", false)
  | _ => ("PourElection$Borough", "z", "I", false)
def tyX0 : Nat → FieldType := fun k => match k with
  | 0 => .array .int
  | 1 => .array .int
  | 2 => .array .int
  | 3 => .array (.object "PourElection$Teapot")
  | 4 => .array .int
  | 5 => .int
  | 6 => .int
  | _ => .int
abbrev wsX00 : List Cond := u_ws RX0 TX0 8
theorem nmX0 : ∀ a, a < 8 → ∀ b, b < 8 → a ≠ b → (TX0 a).2.1 ≠ (TX0 b).2.1 := by decide +kernel
theorem tyX0_ok : ∀ k, k < 8 → parseFieldDescriptor (TX0 k).2.2.1 = some (tyX0 k) := by decide +kernel
abbrev cX0_init : ByteArray := prog_2_method_1_code
def yX0_init : MethodName := ⟨RX0, "<init>", "()V"⟩
abbrev cX0_become : ByteArray := prog_2_method_2_code
def yX0_become : MethodName := ⟨RX0, "become", "(LPourElection$Borough;)V"⟩
abbrev cX0_place : ByteArray := prog_2_method_3_code
def yX0_place : MethodName := ⟨RX0, "place", "(II)LPourElection$Teapot;"⟩
abbrev cX0_draw : ByteArray := prog_2_method_4_code
def yX0_draw : MethodName := ⟨RX0, "draw", "()I"⟩
abbrev cX0_winnerIn : ByteArray := prog_2_method_5_code
def yX0_winnerIn : MethodName := ⟨RX0, "winnerIn", "(I)I"⟩
abbrev cX0_pass : ByteArray := prog_2_method_6_code
def yX0_pass : MethodName := ⟨RX0, "pass", "(I)V"⟩
abbrev cX0_passDay : ByteArray := prog_2_method_7_code
def yX0_passDay : MethodName := ⟨RX0, "passDay", "()V"⟩
abbrev cX0_endDay : ByteArray := prog_2_method_8_code
def yX0_endDay : MethodName := ⟨RX0, "endDay", "(Z)V"⟩
abbrev cX0_leader : ByteArray := prog_2_method_9_code
def yX0_leader : MethodName := ⟨RX0, "leader", "()I"⟩
abbrev cX0_mostStanding : ByteArray := prog_2_method_10_code
def yX0_mostStanding : MethodName := ⟨RX0, "mostStanding", "(I)I"⟩
abbrev cX0_sum : ByteArray := prog_2_method_11_code
def yX0_sum : MethodName := ⟨RX0, "sum", "(I)I"⟩
abbrev cX0_cupsStanding : ByteArray := prog_2_method_12_code
def yX0_cupsStanding : MethodName := ⟨RX0, "cupsStanding", "()I"⟩
abbrev cX0_standing : ByteArray := prog_2_method_13_code
def yX0_standing : MethodName := ⟨RX0, "standing", "()I"⟩
abbrev cX0_wardsWon : ByteArray := prog_2_method_14_code
def yX0_wardsWon : MethodName := ⟨RX0, "wardsWon", "()I"⟩
abbrev cX0_spotsHolding : ByteArray := prog_2_method_15_code
def yX0_spotsHolding : MethodName := ⟨RX0, "spotsHolding", "()I"⟩
def RX1 : String := "PourElection$Sheet"
def TX1 : u_T := fun k => match k with
  | 0 => ("PourElection$Sheet", "numbers", "[I", true)
  | 1 => ("PourElection$Sheet", "bits", "I", false)
  | _ => ("PourElection$Sheet", "length", "I", false)
def tyX1 : Nat → FieldType := fun k => match k with
  | 0 => .array .int
  | 1 => .int
  | _ => .int
abbrev wsX10 : List Cond := u_ws RX1 TX1 3
theorem nmX1 : ∀ a, a < 3 → ∀ b, b < 3 → a ≠ b → (TX1 a).2.1 ≠ (TX1 b).2.1 := by decide +kernel
theorem tyX1_ok : ∀ k, k < 3 → parseFieldDescriptor (TX1 k).2.2.1 = some (tyX1 k) := by decide +kernel
abbrev cX1_init : ByteArray := prog_3_method_1_code
def yX1_init : MethodName := ⟨RX1, "<init>", "()V"⟩
abbrev cX1_isMissing : ByteArray := prog_3_method_2_code
def yX1_isMissing : MethodName := ⟨RX1, "isMissing", "()Z"⟩
abbrev cX1_lay : ByteArray := prog_3_method_3_code
def yX1_lay : MethodName := ⟨RX1, "lay", "(II)V"⟩
abbrev cX1_put : ByteArray := prog_3_method_4_code
def yX1_put : MethodName := ⟨RX1, "put", "(II)V"⟩
abbrev cX1_hasPart : ByteArray := prog_3_method_5_code
def yX1_hasPart : MethodName := ⟨RX1, "hasPart", "(II)Z"⟩
def RX2 : String := "PourElection$Tape"
def TX2 : u_T := fun k => match k with
  | 0 => ("PourElection$Tape", "bytes", "[I", true)
  | 1 => ("PourElection$Tape", "length", "I", false)
  | 2 => ("PourElection$Tape", "start", "I", false)
  | 3 => ("PourElection$Tape", "next", "I", false)
  | 4 => ("PourElection$Tape", "sort", "I", false)
  | _ => ("PourElection$Tape", "value", "I", false)
def tyX2 : Nat → FieldType := fun k => match k with
  | 0 => .array .int
  | 1 => .int
  | 2 => .int
  | 3 => .int
  | 4 => .int
  | _ => .int
abbrev wsX20 : List Cond := u_ws RX2 TX2 6
theorem nmX2 : ∀ a, a < 6 → ∀ b, b < 6 → a ≠ b → (TX2 a).2.1 ≠ (TX2 b).2.1 := by decide +kernel
theorem tyX2_ok : ∀ k, k < 6 → parseFieldDescriptor (TX2 k).2.2.1 = some (tyX2 k) := by decide +kernel
abbrev cX2_init : ByteArray := prog_4_method_1_code
def yX2_init : MethodName := ⟨RX2, "<init>", "()V"⟩
abbrev cX2_add : ByteArray := prog_4_method_2_code
def yX2_add : MethodName := ⟨RX2, "add", "(I)V"⟩
abbrev cX2_begin : ByteArray := prog_4_method_3_code
def yX2_begin : MethodName := ⟨RX2, "begin", "()V"⟩
abbrev cX2_advance : ByteArray := prog_4_method_4_code
def yX2_advance : MethodName := ⟨RX2, "advance", "()V"⟩
abbrev cX2_takeWord : ByteArray := prog_4_method_5_code
def yX2_takeWord : MethodName := ⟨RX2, "takeWord", "()V"⟩
abbrev cX2_takeNumber : ByteArray := prog_4_method_6_code
def yX2_takeNumber : MethodName := ⟨RX2, "takeNumber", "()V"⟩
abbrev cX2_isWord : ByteArray := prog_4_method_7_code
def yX2_isWord : MethodName := ⟨RX2, "isWord", "(Ljava/lang/String;)Z"⟩
abbrev cX2_isNumber : ByteArray := prog_4_method_8_code
def yX2_isNumber : MethodName := ⟨RX2, "isNumber", "(I)Z"⟩
abbrev cX2_isLetter : ByteArray := prog_4_method_9_code
def yX2_isLetter : MethodName := ⟨RX2, "isLetter", "(I)Z"⟩
abbrev cX2_isDigit : ByteArray := prog_4_method_10_code
def yX2_isDigit : MethodName := ⟨RX2, "isDigit", "(I)Z"⟩
def RX3 : String := "PourElection$Teapot"
def TX3 : u_T := fun k => match k with
  | 0 => ("PourElection$Teapot", "kind", "I", false)
  | 1 => ("PourElection$Teapot", "heat", "I", false)
  | 2 => ("PourElection$Teapot", "cups", "I", false)
  | 3 => ("PourElection$Teapot", "dribble", "I", false)
  | 4 => ("PourElection$Teapot", "stands", "I", false)
  | 5 => ("PourElection$Teapot", "votes", "I", false)
  | _ => ("PourElection$Teapot", "won", "I", false)
def tyX3 : Nat → FieldType := fun k => match k with
  | 0 => .int
  | 1 => .int
  | 2 => .int
  | 3 => .int
  | 4 => .int
  | 5 => .int
  | _ => .int
abbrev wsX30 : List Cond := u_ws RX3 TX3 7
theorem nmX3 : ∀ a, a < 7 → ∀ b, b < 7 → a ≠ b → (TX3 a).2.1 ≠ (TX3 b).2.1 := by decide +kernel
theorem tyX3_ok : ∀ k, k < 7 → parseFieldDescriptor (TX3 k).2.2.1 = some (tyX3 k) := by decide +kernel
abbrev cX3_init : ByteArray := prog_5_method_1_code
def yX3_init : MethodName := ⟨RX3, "<init>", "()V"⟩
abbrev cX3_renew : ByteArray := prog_5_method_2_code
def yX3_renew : MethodName := ⟨RX3, "renew", "(II)V"⟩
abbrev cX3_become : ByteArray := prog_5_method_3_code
def yX3_become : MethodName := ⟨RX3, "become", "(LPourElection$Teapot;)V"⟩
abbrev cX3_told : ByteArray := prog_5_method_4_code
def yX3_told : MethodName := ⟨RX3, "told", "(I)I"⟩
abbrev cX3_put : ByteArray := prog_5_method_5_code
def yX3_put : MethodName := ⟨RX3, "put", "(II)V"⟩
abbrev cX3_meritFor : ByteArray := prog_5_method_6_code
def yX3_meritFor : MethodName := ⟨RX3, "meritFor", "(III)I"⟩
abbrev cX3_cools : ByteArray := prog_5_method_7_code
def yX3_cools : MethodName := ⟨RX3, "cools", "()I"⟩
abbrev cX3_wets : ByteArray := prog_5_method_8_code
def yX3_wets : MethodName := ⟨RX3, "wets", "(I)I"⟩
abbrev cX3_holds : ByteArray := prog_5_method_9_code
def yX3_holds : MethodName := ⟨RX3, "holds", "()I"⟩
abbrev cX3_canPour : ByteArray := prog_5_method_10_code
def yX3_canPour : MethodName := ⟨RX3, "canPour", "()Z"⟩
abbrev cX3_pour : ByteArray := prog_5_method_11_code
def yX3_pour : MethodName := ⟨RX3, "pour", "(II)I"⟩
abbrev cX3_win : ByteArray := prog_5_method_12_code
def yX3_win : MethodName := ⟨RX3, "win", "(I)V"⟩
abbrev cX3_cool : ByteArray := prog_5_method_13_code
def yX3_cool : MethodName := ⟨RX3, "cool", "()V"⟩
abbrev cX3_fill : ByteArray := prog_5_method_14_code
def yX3_fill : MethodName := ⟨RX3, "fill", "()V"⟩
def RX4 : String := "PourElection"
def TX4 : u_T := fun k => match k with
  | 0 => ("PourElection", "borough", "LPourElection$Borough;", true)
  | 1 => ("PourElection", "kept", "LPourElection$Borough;", true)
  | 2 => ("PourElection", "dream", "LPourElection$Borough;", true)
  | 3 => ("PourElection", "tape", "LPourElection$Tape;", true)
  | 4 => ("PourElection", "sheets", "[LPourElection$Sheet;", true)
  | 5 => ("PourElection", "findings", "[I", true)
  | _ => ("PourElection", "isKept", "Z", false)
def tyX4 : Nat → FieldType := fun k => match k with
  | 0 => .object "PourElection$Borough"
  | 1 => .object "PourElection$Borough"
  | 2 => .object "PourElection$Borough"
  | 3 => .object "PourElection$Tape"
  | 4 => .array (.object "PourElection$Sheet")
  | 5 => .array .int
  | _ => .boolean
abbrev wsX40 : List Cond := u_ws RX4 TX4 7
theorem nmX4 : ∀ a, a < 7 → ∀ b, b < 7 → a ≠ b → (TX4 a).2.1 ≠ (TX4 b).2.1 := by decide +kernel
theorem tyX4_ok : ∀ k, k < 7 → parseFieldDescriptor (TX4 k).2.2.1 = some (tyX4 k) := by decide +kernel
abbrev cX4_init : ByteArray := prog_1_method_1_code
def yX4_init : MethodName := ⟨RX4, "<init>", "()V"⟩
abbrev cX4_ward : ByteArray := prog_1_method_2_code
def yX4_ward : MethodName := ⟨RX4, "ward", "(III)I"⟩
abbrev cX4_wardOf : ByteArray := prog_1_method_3_code
def yX4_wardOf : MethodName := ⟨RX4, "wardOf", "(II)I"⟩
abbrev cX4_trial : ByteArray := prog_1_method_4_code
def yX4_trial : MethodName := ⟨RX4, "trial", "(II)I"⟩
abbrev cX4_listed : ByteArray := prog_1_method_5_code
def yX4_listed : MethodName := ⟨RX4, "listed", "(I)I"⟩
abbrev cX4_teapot : ByteArray := prog_1_method_6_code
def yX4_teapot : MethodName := ⟨RX4, "teapot", "(II)I"⟩
abbrev cX4_of : ByteArray := prog_1_method_7_code
def yX4_of : MethodName := ⟨RX4, "of", "(II)I"⟩
abbrev cX4_change : ByteArray := prog_1_method_8_code
def yX4_change : MethodName := ⟨RX4, "change", "(III)I"⟩
abbrev cX4_merit : ByteArray := prog_1_method_9_code
def yX4_merit : MethodName := ⟨RX4, "merit", "(II)I"⟩
abbrev cX4_go : ByteArray := prog_1_method_10_code
def yX4_go : MethodName := ⟨RX4, "go", "(I)I"⟩
abbrev cX4_now : ByteArray := prog_1_method_11_code
def yX4_now : MethodName := ⟨RX4, "now", "(I)I"⟩
abbrev cX4_ahead : ByteArray := prog_1_method_12_code
def yX4_ahead : MethodName := ⟨RX4, "ahead", "(III)I"⟩
abbrev cX4_leads : ByteArray := prog_1_method_13_code
def yX4_leads : MethodName := ⟨RX4, "leads", "(I)I"⟩
abbrev cX4_when : ByteArray := prog_1_method_14_code
def yX4_when : MethodName := ⟨RX4, "when", "(I)I"⟩
abbrev cX4_votes : ByteArray := prog_1_method_15_code
def yX4_votes : MethodName := ⟨RX4, "votes", "(II)I"⟩
abbrev cX4_dry : ByteArray := prog_1_method_16_code
def yX4_dry : MethodName := ⟨RX4, "dry", "()I"⟩
abbrev cX4_heatFor : ByteArray := prog_1_method_17_code
def yX4_heatFor : MethodName := ⟨RX4, "heatFor", "(II)I"⟩
abbrev cX4_kindFor : ByteArray := prog_1_method_18_code
def yX4_kindFor : MethodName := ⟨RX4, "kindFor", "(II)I"⟩
abbrev cX4_cupsFor : ByteArray := prog_1_method_19_code
def yX4_cupsFor : MethodName := ⟨RX4, "cupsFor", "(II)I"⟩
abbrev cX4_tryFor : ByteArray := prog_1_method_20_code
def yX4_tryFor : MethodName := ⟨RX4, "tryFor", "(II)I"⟩
abbrev cX4_smash : ByteArray := prog_1_method_21_code
def yX4_smash : MethodName := ⟨RX4, "smash", "(II)I"⟩
abbrev cX4_liked : ByteArray := prog_1_method_22_code
def yX4_liked : MethodName := ⟨RX4, "liked", "(II)I"⟩
abbrev cX4_fits : ByteArray := prog_1_method_23_code
def yX4_fits : MethodName := ⟨RX4, "fits", "(III)I"⟩
abbrev cX4_kinds : ByteArray := prog_1_method_24_code
def yX4_kinds : MethodName := ⟨RX4, "kinds", "(II)I"⟩
abbrev cX4_elect : ByteArray := prog_1_method_25_code
def yX4_elect : MethodName := ⟨RX4, "elect", "(I)I"⟩
abbrev cX4_odds : ByteArray := prog_1_method_26_code
def yX4_odds : MethodName := ⟨RX4, "odds", "(IIII)J"⟩
abbrev cX4_seed : ByteArray := prog_1_method_27_code
def yX4_seed : MethodName := ⟨RX4, "seed", "(I)I"⟩
abbrev cX4_feed : ByteArray := prog_1_method_28_code
def yX4_feed : MethodName := ⟨RX4, "feed", "(II)I"⟩
abbrev cX4_wipe : ByteArray := prog_1_method_29_code
def yX4_wipe : MethodName := ⟨RX4, "wipe", "()I"⟩
abbrev cX4_text : ByteArray := prog_1_method_30_code
def yX4_text : MethodName := ⟨RX4, "text", "()I"⟩
abbrev cX4_hold : ByteArray := prog_1_method_31_code
def yX4_hold : MethodName := ⟨RX4, "hold", "(II)I"⟩
abbrev cX4_as : ByteArray := prog_1_method_32_code
def yX4_as : MethodName := ⟨RX4, "as", "(II)I"⟩
abbrev cX4_sheet : ByteArray := prog_1_method_33_code
def yX4_sheet : MethodName := ⟨RX4, "sheet", "(III)I"⟩
abbrev cX4_write : ByteArray := prog_1_method_34_code
def yX4_write : MethodName := ⟨RX4, "write", "(III)I"⟩
abbrev cX4_copy : ByteArray := prog_1_method_35_code
def yX4_copy : MethodName := ⟨RX4, "copy", "(IIIII)I"⟩
abbrev cX4_load : ByteArray := prog_1_method_36_code
def yX4_load : MethodName := ⟨RX4, "load", "(I)I"⟩
abbrev cX4_judge : ByteArray := prog_1_method_37_code
def yX4_judge : MethodName := ⟨RX4, "judge", "(I)I"⟩
abbrev cX4_image : ByteArray := prog_1_method_38_code
def yX4_image : MethodName := ⟨RX4, "image", "()I"⟩
abbrev cX4_undo : ByteArray := prog_1_method_39_code
def yX4_undo : MethodName := ⟨RX4, "undo", "()I"⟩
abbrev cX4_tear : ByteArray := prog_1_method_40_code
def yX4_tear : MethodName := ⟨RX4, "tear", "()I"⟩
abbrev cX4_count : ByteArray := prog_1_method_41_code
def yX4_count : MethodName := ⟨RX4, "count", "(I)I"⟩
abbrev cX4_status : ByteArray := prog_1_method_42_code
def yX4_status : MethodName := ⟨RX4, "status", "(I)I"⟩
abbrev cX4_found : ByteArray := prog_1_method_43_code
def yX4_found : MethodName := ⟨RX4, "found", "(I)I"⟩
abbrev cX4_within : ByteArray := prog_1_method_44_code
def yX4_within : MethodName := ⟨RX4, "within", "(II)Z"⟩
abbrev cX4_isWard : ByteArray := prog_1_method_45_code
def yX4_isWard : MethodName := ⟨RX4, "isWard", "(I)Z"⟩
abbrev cX4_isKind : ByteArray := prog_1_method_46_code
def yX4_isKind : MethodName := ⟨RX4, "isKind", "(I)Z"⟩
abbrev cX4_isTeapot : ByteArray := prog_1_method_47_code
def yX4_isTeapot : MethodName := ⟨RX4, "isTeapot", "(I)Z"⟩
abbrev cX4_mostOf : ByteArray := prog_1_method_48_code
def yX4_mostOf : MethodName := ⟨RX4, "mostOf", "(I)I"⟩
abbrev cX4_isUnder : ByteArray := prog_1_method_49_code
def yX4_isUnder : MethodName := ⟨RX4, "isUnder", "(II)Z"⟩
abbrev cX4_daysUntil : ByteArray := prog_1_method_50_code
def yX4_daysUntil : MethodName := ⟨RX4, "daysUntil", "(III)I"⟩
abbrev cX4_isReached : ByteArray := prog_1_method_51_code
def yX4_isReached : MethodName := ⟨RX4, "isReached", "(III)Z"⟩
abbrev cX4_leastToLead : ByteArray := prog_1_method_52_code
def yX4_leastToLead : MethodName := ⟨RX4, "leastToLead", "(III)I"⟩
abbrev cX4_leadsWithout : ByteArray := prog_1_method_53_code
def yX4_leadsWithout : MethodName := ⟨RX4, "leadsWithout", "(III)Z"⟩
abbrev cX4_tastesWon : ByteArray := prog_1_method_54_code
def yX4_tastesWon : MethodName := ⟨RX4, "tastesWon", "(II)I"⟩
abbrev cX4_goesAsTold : ByteArray := prog_1_method_55_code
def yX4_goesAsTold : MethodName := ⟨RX4, "goesAsTold", "(LPourElection$Sheet;III)Z"⟩
abbrev cX4_byElection : ByteArray := prog_1_method_56_code
def yX4_byElection : MethodName := ⟨RX4, "byElection", "()V"⟩
abbrev cX4_commonDivisor : ByteArray := prog_1_method_57_code
def yX4_commonDivisor : MethodName := ⟨RX4, "commonDivisor", "(II)I"⟩
abbrev cX4_power : ByteArray := prog_1_method_58_code
def yX4_power : MethodName := ⟨RX4, "power", "(II)J"⟩
abbrev cX4_itemInto : ByteArray := prog_1_method_59_code
def yX4_itemInto : MethodName := ⟨RX4, "itemInto", "(LPourElection$Borough;)Z"⟩
abbrev cX4_kindTold : ByteArray := prog_1_method_60_code
def yX4_kindTold : MethodName := ⟨RX4, "kindTold", "()I"⟩
abbrev cX4_kindWord : ByteArray := prog_1_method_61_code
def yX4_kindWord : MethodName := ⟨RX4, "kindWord", "(I)Ljava/lang/String;"⟩
abbrev cX4_teapotItem : ByteArray := prog_1_method_62_code
def yX4_teapotItem : MethodName := ⟨RX4, "teapotItem", "(LPourElection$Borough;I)Z"⟩
abbrev cX4_perhaps : ByteArray := prog_1_method_63_code
def yX4_perhaps : MethodName := ⟨RX4, "perhaps", "(LPourElection$Teapot;Ljava/lang/String;I)Z"⟩
abbrev cX4_wardItem : ByteArray := prog_1_method_64_code
def yX4_wardItem : MethodName := ⟨RX4, "wardItem", "(LPourElection$Borough;)Z"⟩
abbrev cX4_perhapsOfWard : ByteArray := prog_1_method_65_code
def yX4_perhapsOfWard : MethodName := ⟨RX4, "perhapsOfWard", "([IILjava/lang/String;I)Z"⟩
abbrev cX4_trialItem : ByteArray := prog_1_method_66_code
def yX4_trialItem : MethodName := ⟨RX4, "trialItem", "(LPourElection$Borough;)Z"⟩
def RX5 : String := "PourElectionModel"
def TX5 : u_T := fun k => match k with
  | 0 => ("PourElectionModel", "now", "[I", true)
  | 1 => ("PourElectionModel", "kept", "[I", true)
  | 2 => ("PourElectionModel", "aside", "[I", true)
  | 3 => ("PourElectionModel", "isKept", "Z", false)
  | 4 => ("PourElectionModel", "found", "[I", true)
  | 5 => ("PourElectionModel", "tape", "[I", true)
  | 6 => ("PourElectionModel", "taped", "I", false)
  | 7 => ("PourElectionModel", "begins", "I", false)
  | 8 => ("PourElectionModel", "ends", "I", false)
  | 9 => ("PourElectionModel", "sort", "I", false)
  | 10 => ("PourElectionModel", "value", "I", false)
  | 11 => ("PourElectionModel", "isWrong", "Z", false)
  | 12 => ("PourElectionModel", "kindNames", "[Ljava/lang/String;", true)
  | 13 => ("PourElectionModel", "items", "[I", true)
  | 14 => ("PourElectionModel", "itemMany", "I", false)
  | 15 => ("PourElectionModel", "potsThen", "I", false)
  | 16 => ("PourElectionModel", "widths", "[I", true)
  | 17 => ("PourElectionModel", "sizes", "[I", true)
  | 18 => ("PourElectionModel", "numbers", "[I", true)
  | _ => ("PourElectionModel", "moved", "[I", true)
def tyX5 : Nat → FieldType := fun k => match k with
  | 0 => .array .int
  | 1 => .array .int
  | 2 => .array .int
  | 3 => .boolean
  | 4 => .array .int
  | 5 => .array .int
  | 6 => .int
  | 7 => .int
  | 8 => .int
  | 9 => .int
  | 10 => .int
  | 11 => .boolean
  | 12 => .array (.object "java/lang/String")
  | 13 => .array .int
  | 14 => .int
  | 15 => .int
  | 16 => .array .int
  | 17 => .array .int
  | 18 => .array .int
  | _ => .array .int
abbrev wsX50 : List Cond := u_ws RX5 TX5 20
theorem nmX5 : ∀ a, a < 20 → ∀ b, b < 20 → a ≠ b → (TX5 a).2.1 ≠ (TX5 b).2.1 := by decide +kernel
theorem tyX5_ok : ∀ k, k < 20 → parseFieldDescriptor (TX5 k).2.2.1 = some (tyX5 k) := by decide +kernel
abbrev cX5_init : ByteArray := prog_7_method_1_code
def yX5_init : MethodName := ⟨RX5, "<init>", "()V"⟩
abbrev cX5_finding : ByteArray := prog_7_method_2_code
def yX5_finding : MethodName := ⟨RX5, "finding", "(I)I"⟩
abbrev cX5_within : ByteArray := prog_7_method_3_code
def yX5_within : MethodName := ⟨RX5, "within", "(III)Z"⟩
abbrev cX5_become : ByteArray := prog_7_method_4_code
def yX5_become : MethodName := ⟨RX5, "become", "(II)I"⟩
abbrev cX5_copyRow : ByteArray := prog_7_method_5_code
def yX5_copyRow : MethodName := ⟨RX5, "copyRow", "([I[I)V"⟩
abbrev cX5_putBack : ByteArray := prog_7_method_6_code
def yX5_putBack : MethodName := ⟨RX5, "putBack", "(I)I"⟩
abbrev cX5_orNone : ByteArray := prog_7_method_7_code
def yX5_orNone : MethodName := ⟨RX5, "orNone", "(I)I"⟩
abbrev cX5_bits : ByteArray := prog_7_method_8_code
def yX5_bits : MethodName := ⟨RX5, "bits", "(I)I"⟩
abbrev cX5_isMuch : ByteArray := prog_7_method_9_code
def yX5_isMuch : MethodName := ⟨RX5, "isMuch", "(I)Z"⟩
abbrev cX5_isWard : ByteArray := prog_7_method_10_code
def yX5_isWard : MethodName := ⟨RX5, "isWard", "(I)Z"⟩
abbrev cX5_ward : ByteArray := prog_7_method_11_code
def yX5_ward : MethodName := ⟨RX5, "ward", "(III)I"⟩
abbrev cX5_wardOf : ByteArray := prog_7_method_12_code
def yX5_wardOf : MethodName := ⟨RX5, "wardOf", "(II)I"⟩
abbrev cX5_isPlace : ByteArray := prog_7_method_13_code
def yX5_isPlace : MethodName := ⟨RX5, "isPlace", "(I)Z"⟩
abbrev cX5_trial : ByteArray := prog_7_method_14_code
def yX5_trial : MethodName := ⟨RX5, "trial", "(II)I"⟩
abbrev cX5_listed : ByteArray := prog_7_method_15_code
def yX5_listed : MethodName := ⟨RX5, "listed", "(I)I"⟩
abbrev cX5_potAt : ByteArray := prog_7_method_16_code
def yX5_potAt : MethodName := ⟨RX5, "potAt", "(II)I"⟩
abbrev cX5_potIs : ByteArray := prog_7_method_17_code
def yX5_potIs : MethodName := ⟨RX5, "potIs", "(II)I"⟩
abbrev cX5_isPot : ByteArray := prog_7_method_18_code
def yX5_isPot : MethodName := ⟨RX5, "isPot", "(I)Z"⟩
abbrev cX5_isKind : ByteArray := prog_7_method_19_code
def yX5_isKind : MethodName := ⟨RX5, "isKind", "(I)Z"⟩
abbrev cX5_doesStand : ByteArray := prog_7_method_20_code
def yX5_doesStand : MethodName := ⟨RX5, "doesStand", "(I)Z"⟩
abbrev cX5_comes : ByteArray := prog_7_method_21_code
def yX5_comes : MethodName := ⟨RX5, "comes", "(II)I"⟩
abbrev cX5_teapot : ByteArray := prog_7_method_22_code
def yX5_teapot : MethodName := ⟨RX5, "teapot", "(II)I"⟩
abbrev cX5_meritOf : ByteArray := prog_7_method_23_code
def yX5_meritOf : MethodName := ⟨RX5, "meritOf", "(II)I"⟩
abbrev cX5_cools : ByteArray := prog_7_method_24_code
def yX5_cools : MethodName := ⟨RX5, "cools", "(I)I"⟩
abbrev cX5_wets : ByteArray := prog_7_method_25_code
def yX5_wets : MethodName := ⟨RX5, "wets", "(I)I"⟩
abbrev cX5_holdsOf : ByteArray := prog_7_method_26_code
def yX5_holdsOf : MethodName := ⟨RX5, "holdsOf", "(I)I"⟩
abbrev cX5_told : ByteArray := prog_7_method_27_code
def yX5_told : MethodName := ⟨RX5, "told", "(II)I"⟩
abbrev cX5_of : ByteArray := prog_7_method_28_code
def yX5_of : MethodName := ⟨RX5, "of", "(II)I"⟩
abbrev cX5_isField : ByteArray := prog_7_method_29_code
def yX5_isField : MethodName := ⟨RX5, "isField", "(II)Z"⟩
abbrev cX5_change : ByteArray := prog_7_method_30_code
def yX5_change : MethodName := ⟨RX5, "change", "(III)I"⟩
abbrev cX5_merit : ByteArray := prog_7_method_31_code
def yX5_merit : MethodName := ⟨RX5, "merit", "(II)I"⟩
abbrev cX5_doesPour : ByteArray := prog_7_method_32_code
def yX5_doesPour : MethodName := ⟨RX5, "doesPour", "(I)Z"⟩
abbrev cX5_winner : ByteArray := prog_7_method_33_code
def yX5_winner : MethodName := ⟨RX5, "winner", "(I)I"⟩
abbrev cX5_more : ByteArray := prog_7_method_34_code
def yX5_more : MethodName := ⟨RX5, "more", "(III)V"⟩
abbrev cX5_tries : ByteArray := prog_7_method_35_code
def yX5_tries : MethodName := ⟨RX5, "tries", "(I)V"⟩
abbrev cX5_day : ByteArray := prog_7_method_36_code
def yX5_day : MethodName := ⟨RX5, "day", "()V"⟩
abbrev cX5_daysGo : ByteArray := prog_7_method_37_code
def yX5_daysGo : MethodName := ⟨RX5, "daysGo", "(I)V"⟩
abbrev cX5_sumOf : ByteArray := prog_7_method_38_code
def yX5_sumOf : MethodName := ⟨RX5, "sumOf", "(I)I"⟩
abbrev cX5_mostOf : ByteArray := prog_7_method_39_code
def yX5_mostOf : MethodName := ⟨RX5, "mostOf", "(I)I"⟩
abbrev cX5_go : ByteArray := prog_7_method_40_code
def yX5_go : MethodName := ⟨RX5, "go", "(I)I"⟩
abbrev cX5_cupsThere : ByteArray := prog_7_method_41_code
def yX5_cupsThere : MethodName := ⟨RX5, "cupsThere", "()I"⟩
abbrev cX5_standing : ByteArray := prog_7_method_42_code
def yX5_standing : MethodName := ⟨RX5, "standing", "()I"⟩
abbrev cX5_wonWards : ByteArray := prog_7_method_43_code
def yX5_wonWards : MethodName := ⟨RX5, "wonWards", "()I"⟩
abbrev cX5_now : ByteArray := prog_7_method_44_code
def yX5_now : MethodName := ⟨RX5, "now", "(I)I"⟩
abbrev cX5_behind : ByteArray := prog_7_method_45_code
def yX5_behind : MethodName := ⟨RX5, "behind", "(II)I"⟩
abbrev cX5_leadsBehind : ByteArray := prog_7_method_46_code
def yX5_leadsBehind : MethodName := ⟨RX5, "leadsBehind", "(I)I"⟩
abbrev cX5_ahead : ByteArray := prog_7_method_47_code
def yX5_ahead : MethodName := ⟨RX5, "ahead", "(III)I"⟩
abbrev cX5_leads : ByteArray := prog_7_method_48_code
def yX5_leads : MethodName := ⟨RX5, "leads", "(I)I"⟩
abbrev cX5_when : ByteArray := prog_7_method_49_code
def yX5_when : MethodName := ⟨RX5, "when", "(I)I"⟩
abbrev cX5_votes : ByteArray := prog_7_method_50_code
def yX5_votes : MethodName := ⟨RX5, "votes", "(II)I"⟩
abbrev cX5_dry : ByteArray := prog_7_method_51_code
def yX5_dry : MethodName := ⟨RX5, "dry", "()I"⟩
abbrev cX5_isThought : ByteArray := prog_7_method_52_code
def yX5_isThought : MethodName := ⟨RX5, "isThought", "(I)Z"⟩
abbrev cX5_leastFor : ByteArray := prog_7_method_53_code
def yX5_leastFor : MethodName := ⟨RX5, "leastFor", "(III)I"⟩
abbrev cX5_heatFor : ByteArray := prog_7_method_54_code
def yX5_heatFor : MethodName := ⟨RX5, "heatFor", "(II)I"⟩
abbrev cX5_cupsFor : ByteArray := prog_7_method_55_code
def yX5_cupsFor : MethodName := ⟨RX5, "cupsFor", "(II)I"⟩
abbrev cX5_bestBy : ByteArray := prog_7_method_56_code
def yX5_bestBy : MethodName := ⟨RX5, "bestBy", "(IIII)I"⟩
abbrev cX5_kindFor : ByteArray := prog_7_method_57_code
def yX5_kindFor : MethodName := ⟨RX5, "kindFor", "(II)I"⟩
abbrev cX5_tryFor : ByteArray := prog_7_method_58_code
def yX5_tryFor : MethodName := ⟨RX5, "tryFor", "(II)I"⟩
abbrev cX5_doesLeadWithout : ByteArray := prog_7_method_59_code
def yX5_doesLeadWithout : MethodName := ⟨RX5, "doesLeadWithout", "(III)Z"⟩
abbrev cX5_smash : ByteArray := prog_7_method_60_code
def yX5_smash : MethodName := ⟨RX5, "smash", "(II)I"⟩
abbrev cX5_likedOf : ByteArray := prog_7_method_61_code
def yX5_likedOf : MethodName := ⟨RX5, "likedOf", "(II)I"⟩
abbrev cX5_liked : ByteArray := prog_7_method_62_code
def yX5_liked : MethodName := ⟨RX5, "liked", "(II)I"⟩
abbrev cX5_lacks : ByteArray := prog_7_method_63_code
def yX5_lacks : MethodName := ⟨RX5, "lacks", "(IZ)I"⟩
abbrev cX5_isSo : ByteArray := prog_7_method_64_code
def yX5_isSo : MethodName := ⟨RX5, "isSo", "(III)Z"⟩
abbrev cX5_fits : ByteArray := prog_7_method_65_code
def yX5_fits : MethodName := ⟨RX5, "fits", "(III)I"⟩
abbrev cX5_kinds : ByteArray := prog_7_method_66_code
def yX5_kinds : MethodName := ⟨RX5, "kinds", "(II)I"⟩
abbrev cX5_drawn : ByteArray := prog_7_method_67_code
def yX5_drawn : MethodName := ⟨RX5, "drawn", "()I"⟩
abbrev cX5_elect : ByteArray := prog_7_method_68_code
def yX5_elect : MethodName := ⟨RX5, "elect", "(I)I"⟩
abbrev cX5_odds : ByteArray := prog_7_method_69_code
def yX5_odds : MethodName := ⟨RX5, "odds", "(IIII)J"⟩
abbrev cX5_seed : ByteArray := prog_7_method_70_code
def yX5_seed : MethodName := ⟨RX5, "seed", "(I)I"⟩
abbrev cX5_feed : ByteArray := prog_7_method_71_code
def yX5_feed : MethodName := ⟨RX5, "feed", "(II)I"⟩
abbrev cX5_wipe : ByteArray := prog_7_method_72_code
def yX5_wipe : MethodName := ⟨RX5, "wipe", "()I"⟩
abbrev cX5_byteAt : ByteArray := prog_7_method_73_code
def yX5_byteAt : MethodName := ⟨RX5, "byteAt", "(I)I"⟩
abbrev cX5_token : ByteArray := prog_7_method_74_code
def yX5_token : MethodName := ⟨RX5, "token", "()V"⟩
abbrev cX5_isWord : ByteArray := prog_7_method_75_code
def yX5_isWord : MethodName := ⟨RX5, "isWord", "(Ljava/lang/String;)Z"⟩
abbrev cX5_must : ByteArray := prog_7_method_76_code
def yX5_must : MethodName := ⟨RX5, "must", "(Z)V"⟩
abbrev cX5_number : ByteArray := prog_7_method_77_code
def yX5_number : MethodName := ⟨RX5, "number", "(II)I"⟩
abbrev cX5_addItem : ByteArray := prog_7_method_78_code
def yX5_addItem : MethodName := ⟨RX5, "addItem", "(IIIIII)V"⟩
abbrev cX5_takesWord : ByteArray := prog_7_method_79_code
def yX5_takesWord : MethodName := ⟨RX5, "takesWord", "(Ljava/lang/String;)Z"⟩
abbrev cX5_readPot : ByteArray := prog_7_method_80_code
def yX5_readPot : MethodName := ⟨RX5, "readPot", "(I)V"⟩
abbrev cX5_readItem : ByteArray := prog_7_method_81_code
def yX5_readItem : MethodName := ⟨RX5, "readItem", "()V"⟩
abbrev cX5_isToldSo : ByteArray := prog_7_method_82_code
def yX5_isToldSo : MethodName := ⟨RX5, "isToldSo", "(I)V"⟩
abbrev cX5_text : ByteArray := prog_7_method_83_code
def yX5_text : MethodName := ⟨RX5, "text", "()I"⟩
abbrev cX5_isSpot : ByteArray := prog_7_method_84_code
def yX5_isSpot : MethodName := ⟨RX5, "isSpot", "(I)Z"⟩
abbrev cX5_hold : ByteArray := prog_7_method_85_code
def yX5_hold : MethodName := ⟨RX5, "hold", "(II)I"⟩
abbrev cX5_as : ByteArray := prog_7_method_86_code
def yX5_as : MethodName := ⟨RX5, "as", "(II)I"⟩
abbrev cX5_isSheet : ByteArray := prog_7_method_87_code
def yX5_isSheet : MethodName := ⟨RX5, "isSheet", "(I)Z"⟩
abbrev cX5_cutTo : ByteArray := prog_7_method_88_code
def yX5_cutTo : MethodName := ⟨RX5, "cutTo", "(II)I"⟩
abbrev cX5_sheet : ByteArray := prog_7_method_89_code
def yX5_sheet : MethodName := ⟨RX5, "sheet", "(III)I"⟩
abbrev cX5_write : ByteArray := prog_7_method_90_code
def yX5_write : MethodName := ⟨RX5, "write", "(III)I"⟩
abbrev cX5_copy : ByteArray := prog_7_method_91_code
def yX5_copy : MethodName := ⟨RX5, "copy", "(IIIII)I"⟩
abbrev cX5_above : ByteArray := prog_7_method_92_code
def yX5_above : MethodName := ⟨RX5, "above", "(I)I"⟩
abbrev cX5_isUnder : ByteArray := prog_7_method_93_code
def yX5_isUnder : MethodName := ⟨RX5, "isUnder", "(II)Z"⟩
abbrev cX5_load : ByteArray := prog_7_method_94_code
def yX5_load : MethodName := ⟨RX5, "load", "(I)I"⟩
abbrev cX5_judge : ByteArray := prog_7_method_95_code
def yX5_judge : MethodName := ⟨RX5, "judge", "(I)I"⟩
abbrev cX5_image : ByteArray := prog_7_method_96_code
def yX5_image : MethodName := ⟨RX5, "image", "()I"⟩
abbrev cX5_undo : ByteArray := prog_7_method_97_code
def yX5_undo : MethodName := ⟨RX5, "undo", "()I"⟩
abbrev cX5_tear : ByteArray := prog_7_method_98_code
def yX5_tear : MethodName := ⟨RX5, "tear", "()I"⟩
abbrev cX5_count : ByteArray := prog_7_method_99_code
def yX5_count : MethodName := ⟨RX5, "count", "(I)I"⟩
abbrev cX5_status : ByteArray := prog_7_method_100_code
def yX5_status : MethodName := ⟨RX5, "status", "(I)I"⟩
def RJ6 : String := "java/lang/Integer"
def TJ6 : u_T := fun k => match k with
  | _ => ("", "", "", false)
def tyJ6 : Nat → FieldType := fun k => match k with
  | _ => .int
abbrev wsJ60 : List Cond := u_ws RJ6 TJ6 0
theorem nmJ6 : ∀ a, a < 0 → ∀ b, b < 0 → a ≠ b → (TJ6 a).2.1 ≠ (TJ6 b).2.1 := by decide +kernel
theorem tyJ6_ok : ∀ k, k < 0 → parseFieldDescriptor (TJ6 k).2.2.1 = some (tyJ6 k) := by decide +kernel
abbrev cJ6_bitCount_0f7a4 : ByteArray := prog_8_method_49_code
def yJ6_bitCount_0f7a4 : MethodName := ⟨RJ6, "bitCount", "(I)I"⟩
def RJ9 : String := "java/lang/Math"
def TJ9 : u_T := fun k => match k with
  | _ => ("", "", "", false)
def tyJ9 : Nat → FieldType := fun k => match k with
  | _ => .int
abbrev wsJ90 : List Cond := u_ws RJ9 TJ9 0
theorem nmJ9 : ∀ a, a < 0 → ∀ b, b < 0 → a ≠ b → (TJ9 a).2.1 ≠ (TJ9 b).2.1 := by decide +kernel
theorem tyJ9_ok : ∀ k, k < 0 → parseFieldDescriptor (TJ9 k).2.2.1 = some (tyJ9 k) := by decide +kernel
abbrev cJ9_abs_0f7a4 : ByteArray := prog_9_method_59_code
def yJ9_abs_0f7a4 : MethodName := ⟨RJ9, "abs", "(I)I"⟩
abbrev cJ9_max_7cf53 : ByteArray := prog_9_method_65_code
def yJ9_max_7cf53 : MethodName := ⟨RJ9, "max", "(II)I"⟩
abbrev cJ9_min_7cf53 : ByteArray := prog_9_method_69_code
def yJ9_min_7cf53 : MethodName := ⟨RJ9, "min", "(II)I"⟩
def RJ0 : String := "java/lang/String"
def TJ0 : u_T := fun k => match k with
  | _ => ("", "", "", false)
def tyJ0 : Nat → FieldType := fun k => match k with
  | _ => .int
abbrev wsJ00 : List Cond := u_ws RJ0 TJ0 0
theorem nmJ0 : ∀ a, a < 0 → ∀ b, b < 0 → a ≠ b → (TJ0 a).2.1 ≠ (TJ0 b).2.1 := by decide +kernel
theorem tyJ0_ok : ∀ k, k < 0 → parseFieldDescriptor (TJ0 k).2.2.1 = some (tyJ0 k) := by decide +kernel
abbrev cJ0_length_8abf5 : ByteArray := prog_10_method_54_code
def yJ0_length_8abf5 : MethodName := ⟨RJ0, "length", "()I"⟩
abbrev cJ0_charAt_5068e : ByteArray := prog_10_method_56_code
def yJ0_charAt_5068e : MethodName := ⟨RJ0, "charAt", "(I)C"⟩
abbrev cJ0_coder_7d493 : ByteArray := prog_10_method_152_code
def yJ0_coder_7d493 : MethodName := ⟨RJ0, "coder", "()B"⟩
abbrev cJ0_isLatin1_aae02 : ByteArray := prog_10_method_154_code
def yJ0_isLatin1_aae02 : MethodName := ⟨RJ0, "isLatin1", "()Z"⟩
abbrev cJ0_checkIndex_df160 : ByteArray := prog_10_method_155_code
def yJ0_checkIndex_df160 : MethodName := ⟨RJ0, "checkIndex", "(II)V"⟩
def RJ1 : String := "java/lang/StringLatin1"
def TJ1 : u_T := fun k => match k with
  | _ => ("", "", "", false)
def tyJ1 : Nat → FieldType := fun k => match k with
  | _ => .int
abbrev wsJ10 : List Cond := u_ws RJ1 TJ1 0
theorem nmJ1 : ∀ a, a < 0 → ∀ b, b < 0 → a ≠ b → (TJ1 a).2.1 ≠ (TJ1 b).2.1 := by decide +kernel
theorem tyJ1_ok : ∀ k, k < 0 → parseFieldDescriptor (TJ1 k).2.2.1 = some (tyJ1 k) := by decide +kernel
abbrev cJ1_charAt_3b067 : ByteArray := prog_11_method_2_code
def yJ1_charAt_3b067 : MethodName := ⟨RJ1, "charAt", "([BI)C"⟩
def RJ2 : String := "java/lang/StringUTF16"
def TJ2 : u_T := fun k => match k with
  | _ => ("", "", "", false)
def tyJ2 : Nat → FieldType := fun k => match k with
  | _ => .int
abbrev wsJ20 : List Cond := u_ws RJ2 TJ2 0
theorem nmJ2 : ∀ a, a < 0 → ∀ b, b < 0 → a ≠ b → (TJ2 a).2.1 ≠ (TJ2 b).2.1 := by decide +kernel
theorem tyJ2_ok : ∀ k, k < 0 → parseFieldDescriptor (TJ2 k).2.2.1 = some (tyJ2 k) := by decide +kernel
abbrev cJ2_getChar_3b067 : ByteArray := prog_12_method_5_code
def yJ2_getChar_3b067 : MethodName := ⟨RJ2, "getChar", "([BI)C"⟩
abbrev cJ2_length_9d52b : ByteArray := prog_12_method_6_code
def yJ2_length_9d52b : MethodName := ⟨RJ2, "length", "([B)I"⟩
abbrev cJ2_charAt_3b067 : ByteArray := prog_12_method_83_code
def yJ2_charAt_3b067 : MethodName := ⟨RJ2, "charAt", "([BI)C"⟩
abbrev cJ2_checkIndex_2214a : ByteArray := prog_12_method_91_code
def yJ2_checkIndex_2214a : MethodName := ⟨RJ2, "checkIndex", "(I[B)V"⟩
def RJ10 : String := "java/lang/System"
def TJ10 : u_T := fun k => match k with
  | _ => ("", "", "", false)
def tyJ10 : Nat → FieldType := fun k => match k with
  | _ => .int
abbrev wsJ100 : List Cond := u_ws RJ10 TJ10 0
theorem nmJ10 : ∀ a, a < 0 → ∀ b, b < 0 → a ≠ b → (TJ10 a).2.1 ≠ (TJ10 b).2.1 := by decide +kernel
theorem tyJ10_ok : ∀ k, k < 0 → parseFieldDescriptor (TJ10 k).2.2.1 = some (tyJ10 k) := by decide +kernel
def RJ3 : String := "jdk/internal/util/Preconditions"
def TJ3 : u_T := fun k => match k with
  | _ => ("", "", "", false)
def tyJ3 : Nat → FieldType := fun k => match k with
  | _ => .int
abbrev wsJ30 : List Cond := u_ws RJ3 TJ3 0
theorem nmJ3 : ∀ a, a < 0 → ∀ b, b < 0 → a ≠ b → (TJ3 a).2.1 ≠ (TJ3 b).2.1 := by decide +kernel
theorem tyJ3_ok : ∀ k, k < 0 → parseFieldDescriptor (TJ3 k).2.2.1 = some (tyJ3 k) := by decide +kernel
abbrev cJ3_checkIndex_8e157 : ByteArray := prog_14_method_11_code
def yJ3_checkIndex_8e157 : MethodName := ⟨RJ3, "checkIndex", "(IILjava/util/function/BiFunction;)I"⟩
def RL : String := "PourElectionLaw"
abbrev cL_law : ByteArray := code
def yL_law : MethodName := ⟨RL, "law", "([I)Z"⟩
