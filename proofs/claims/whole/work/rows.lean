section
-- ===== PART A: goes FIRST, ahead of the names: the tables' words, and 'selects' of the private methods out of them =====
/-- a private method of a class that the tables say can be made, by its rows of tables_1 -/
def lw_okq (q : MethodName × Nat) : Prop := (q.1.cls ≠ "java/lang/invoke/MethodHandle" ∧ q.1.cls ≠ "java/lang/invoke/VarHandle") ∧ Cond.instantiable q.1.cls q.2 ∈ tables_1 ∧ Cond.privateMethod q.1 ∈ tables_1 ∧ Cond.instanceMethod q.1 ∈ tables_1
theorem lw_p0 : lw_okq (⟨"ThrownBack$Reader", "next", "()V"⟩, 7) := ⟨⟨by decide +kernel, by decide +kernel⟩, List.mem_of_getElem? (i := 119) (by decide +kernel), List.mem_of_getElem? (i := 260) (by decide +kernel), List.mem_of_getElem? (i := 261) (by decide +kernel)⟩
theorem lw_p1 : lw_okq (⟨"ThrownBack$Reader", "readWord", "()V"⟩, 7) := ⟨⟨by decide +kernel, by decide +kernel⟩, List.mem_of_getElem? (i := 119) (by decide +kernel), List.mem_of_getElem? (i := 270) (by decide +kernel), List.mem_of_getElem? (i := 271) (by decide +kernel)⟩
theorem lw_p2 : lw_okq (⟨"ThrownBack$Reader", "isWord", "(II)Z"⟩, 7) := ⟨⟨by decide +kernel, by decide +kernel⟩, List.mem_of_getElem? (i := 119) (by decide +kernel), List.mem_of_getElem? (i := 277) (by decide +kernel), List.mem_of_getElem? (i := 278) (by decide +kernel)⟩
theorem lw_p3 : lw_okq (⟨"ThrownBack$Reader", "readNumber", "()V"⟩, 7) := ⟨⟨by decide +kernel, by decide +kernel⟩, List.mem_of_getElem? (i := 119) (by decide +kernel), List.mem_of_getElem? (i := 284) (by decide +kernel), List.mem_of_getElem? (i := 285) (by decide +kernel)⟩
theorem lw_p4 : lw_okq (⟨"ThrownBack$Reader", "readSign", "()V"⟩, 7) := ⟨⟨by decide +kernel, by decide +kernel⟩, List.mem_of_getElem? (i := 119) (by decide +kernel), List.mem_of_getElem? (i := 288) (by decide +kernel), List.mem_of_getElem? (i := 289) (by decide +kernel)⟩
theorem lw_p5 : lw_okq (⟨"ThrownBack$Reader", "readPart", "(I)Z"⟩, 7) := ⟨⟨by decide +kernel, by decide +kernel⟩, List.mem_of_getElem? (i := 119) (by decide +kernel), List.mem_of_getElem? (i := 352) (by decide +kernel), List.mem_of_getElem? (i := 353) (by decide +kernel)⟩
theorem lw_p6 : lw_okq (⟨"ThrownBack$Reader", "readChain", "(II)Z"⟩, 7) := ⟨⟨by decide +kernel, by decide +kernel⟩, List.mem_of_getElem? (i := 119) (by decide +kernel), List.mem_of_getElem? (i := 356) (by decide +kernel), List.mem_of_getElem? (i := 357) (by decide +kernel)⟩
theorem lw_p7 : lw_okq (⟨"ThrownBack$Reader", "readLink", "(II)Z"⟩, 7) := ⟨⟨by decide +kernel, by decide +kernel⟩, List.mem_of_getElem? (i := 119) (by decide +kernel), List.mem_of_getElem? (i := 360) (by decide +kernel), List.mem_of_getElem? (i := 361) (by decide +kernel)⟩
theorem lw_p8 : lw_okq (⟨"ThrownBack$Reader", "readNot", "(I)Z"⟩, 7) := ⟨⟨by decide +kernel, by decide +kernel⟩, List.mem_of_getElem? (i := 119) (by decide +kernel), List.mem_of_getElem? (i := 364) (by decide +kernel), List.mem_of_getElem? (i := 365) (by decide +kernel)⟩
theorem lw_p9 : lw_okq (⟨"ThrownBack$Reader", "stepOfToken", "()I"⟩, 7) := ⟨⟨by decide +kernel, by decide +kernel⟩, List.mem_of_getElem? (i := 119) (by decide +kernel), List.mem_of_getElem? (i := 372) (by decide +kernel), List.mem_of_getElem? (i := 373) (by decide +kernel)⟩
theorem lw_p10 : lw_okq (⟨"ThrownBack$Reader", "readOne", "(I)Z"⟩, 7) := ⟨⟨by decide +kernel, by decide +kernel⟩, List.mem_of_getElem? (i := 119) (by decide +kernel), List.mem_of_getElem? (i := 376) (by decide +kernel), List.mem_of_getElem? (i := 377) (by decide +kernel)⟩
theorem lw_p11 : lw_okq (⟨"ThrownBack$Reader", "readClosed", "(I)Z"⟩, 7) := ⟨⟨by decide +kernel, by decide +kernel⟩, List.mem_of_getElem? (i := 119) (by decide +kernel), List.mem_of_getElem? (i := 380) (by decide +kernel), List.mem_of_getElem? (i := 381) (by decide +kernel)⟩
theorem lw_p12 : lw_okq (⟨"ThrownBack$Reader", "isJoint", "(I)Z"⟩, 7) := ⟨⟨by decide +kernel, by decide +kernel⟩, List.mem_of_getElem? (i := 119) (by decide +kernel), List.mem_of_getElem? (i := 384) (by decide +kernel), List.mem_of_getElem? (i := 385) (by decide +kernel)⟩
theorem lw_p13 : lw_okq (⟨"ThrownBack$Road", "tell", "(IIII)V"⟩, 11) := ⟨⟨by decide +kernel, by decide +kernel⟩, List.mem_of_getElem? (i := 25) (by decide +kernel), List.mem_of_getElem? (i := 463) (by decide +kernel), List.mem_of_getElem? (i := 464) (by decide +kernel)⟩
theorem lw_p14 : lw_okq (⟨"ThrownBack$Road", "snowFalls", "(LThrownBack$Law;)V"⟩, 11) := ⟨⟨by decide +kernel, by decide +kernel⟩, List.mem_of_getElem? (i := 25) (by decide +kernel), List.mem_of_getElem? (i := 548) (by decide +kernel), List.mem_of_getElem? (i := 549) (by decide +kernel)⟩
theorem lw_p15 : lw_okq (⟨"ThrownBack$Road", "ploughTo", "(ILThrownBack$Law;)V"⟩, 11) := ⟨⟨by decide +kernel, by decide +kernel⟩, List.mem_of_getElem? (i := 25) (by decide +kernel), List.mem_of_getElem? (i := 553) (by decide +kernel), List.mem_of_getElem? (i := 554) (by decide +kernel)⟩
def lw_privs_1 : List (MethodName × Nat) := [(⟨"ThrownBack$Reader", "next", "()V"⟩, 7), (⟨"ThrownBack$Reader", "readWord", "()V"⟩, 7), (⟨"ThrownBack$Reader", "isWord", "(II)Z"⟩, 7), (⟨"ThrownBack$Reader", "readNumber", "()V"⟩, 7), (⟨"ThrownBack$Reader", "readSign", "()V"⟩, 7), (⟨"ThrownBack$Reader", "readPart", "(I)Z"⟩, 7), (⟨"ThrownBack$Reader", "readChain", "(II)Z"⟩, 7), (⟨"ThrownBack$Reader", "readLink", "(II)Z"⟩, 7), (⟨"ThrownBack$Reader", "readNot", "(I)Z"⟩, 7), (⟨"ThrownBack$Reader", "stepOfToken", "()I"⟩, 7), (⟨"ThrownBack$Reader", "readOne", "(I)Z"⟩, 7), (⟨"ThrownBack$Reader", "readClosed", "(I)Z"⟩, 7), (⟨"ThrownBack$Reader", "isJoint", "(I)Z"⟩, 7), (⟨"ThrownBack$Road", "tell", "(IIII)V"⟩, 11), (⟨"ThrownBack$Road", "snowFalls", "(LThrownBack$Law;)V"⟩, 11), (⟨"ThrownBack$Road", "ploughTo", "(ILThrownBack$Law;)V"⟩, 11)]
theorem lw_r1 : ∀ q ∈ lw_privs_1, lw_okq q := List.forall_mem_cons.mpr ⟨lw_p0, List.forall_mem_cons.mpr ⟨lw_p1, List.forall_mem_cons.mpr ⟨lw_p2, List.forall_mem_cons.mpr ⟨lw_p3, List.forall_mem_cons.mpr ⟨lw_p4, List.forall_mem_cons.mpr ⟨lw_p5, List.forall_mem_cons.mpr ⟨lw_p6, List.forall_mem_cons.mpr ⟨lw_p7, List.forall_mem_cons.mpr ⟨lw_p8, List.forall_mem_cons.mpr ⟨lw_p9, List.forall_mem_cons.mpr ⟨lw_p10, List.forall_mem_cons.mpr ⟨lw_p11, List.forall_mem_cons.mpr ⟨lw_p12, List.forall_mem_cons.mpr ⟨lw_p13, List.forall_mem_cons.mpr ⟨lw_p14, List.forall_mem_cons.mpr ⟨lw_p15, fun _ h => absurd h List.not_mem_nil⟩⟩⟩⟩⟩⟩⟩⟩⟩⟩⟩⟩⟩⟩⟩⟩
theorem lw_p16 : lw_okq (⟨"ThrownBack$Road", "shovel", "(ILThrownBack$Law;)V"⟩, 11) := ⟨⟨by decide +kernel, by decide +kernel⟩, List.mem_of_getElem? (i := 25) (by decide +kernel), List.mem_of_getElem? (i := 567) (by decide +kernel), List.mem_of_getElem? (i := 568) (by decide +kernel)⟩
theorem lw_p17 : lw_okq (⟨"ThrownBack", "think", "()V"⟩, 9) := ⟨⟨by decide +kernel, by decide +kernel⟩, List.mem_of_getElem? (i := 17) (by decide +kernel), List.mem_of_getElem? (i := 597) (by decide +kernel), List.mem_of_getElem? (i := 598) (by decide +kernel)⟩
theorem lw_p18 : lw_okq (⟨"ThrownBack", "goOn", "(I)V"⟩, 9) := ⟨⟨by decide +kernel, by decide +kernel⟩, List.mem_of_getElem? (i := 17) (by decide +kernel), List.mem_of_getElem? (i := 613) (by decide +kernel), List.mem_of_getElem? (i := 614) (by decide +kernel)⟩
theorem lw_p19 : lw_okq (⟨"ThrownBack$Road", "highestHeap", "()I"⟩, 11) := ⟨⟨by decide +kernel, by decide +kernel⟩, List.mem_of_getElem? (i := 25) (by decide +kernel), List.mem_of_getElem? (i := 626) (by decide +kernel), List.mem_of_getElem? (i := 627) (by decide +kernel)⟩
theorem lw_p20 : lw_okq (⟨"ThrownBack$Road", "busiest", "()I"⟩, 11) := ⟨⟨by decide +kernel, by decide +kernel⟩, List.mem_of_getElem? (i := 25) (by decide +kernel), List.mem_of_getElem? (i := 631) (by decide +kernel), List.mem_of_getElem? (i := 632) (by decide +kernel)⟩
theorem lw_p21 : lw_okq (⟨"ThrownBack", "thinkOf", "(IIII)V"⟩, 9) := ⟨⟨by decide +kernel, by decide +kernel⟩, List.mem_of_getElem? (i := 17) (by decide +kernel), List.mem_of_getElem? (i := 643) (by decide +kernel), List.mem_of_getElem? (i := 644) (by decide +kernel)⟩
theorem lw_p22 : lw_okq (⟨"ThrownBack", "minutesOfLikes", "(III)I"⟩, 9) := ⟨⟨by decide +kernel, by decide +kernel⟩, List.mem_of_getElem? (i := 17) (by decide +kernel), List.mem_of_getElem? (i := 678) (by decide +kernel), List.mem_of_getElem? (i := 679) (by decide +kernel)⟩
theorem lw_p23 : lw_okq (⟨"ThrownBack", "refusalOfTold", "(I)I"⟩, 9) := ⟨⟨by decide +kernel, by decide +kernel⟩, List.mem_of_getElem? (i := 17) (by decide +kernel), List.mem_of_getElem? (i := 686) (by decide +kernel), List.mem_of_getElem? (i := 687) (by decide +kernel)⟩
theorem lw_p24 : lw_okq (⟨"ThrownBack", "thinkOfWinter", "(III)V"⟩, 9) := ⟨⟨by decide +kernel, by decide +kernel⟩, List.mem_of_getElem? (i := 17) (by decide +kernel), List.mem_of_getElem? (i := 730) (by decide +kernel), List.mem_of_getElem? (i := 731) (by decide +kernel)⟩
theorem lw_p25 : lw_okq (⟨"ThrownBackModel", "next", "()V"⟩, 42) := ⟨⟨by decide +kernel, by decide +kernel⟩, List.mem_of_getElem? (i := 804) (by decide +kernel), List.mem_of_getElem? (i := 814) (by decide +kernel), List.mem_of_getElem? (i := 815) (by decide +kernel)⟩
theorem lw_p26 : lw_okq (⟨"ThrownBackModel", "wordFrom", "(II)I"⟩, 42) := ⟨⟨by decide +kernel, by decide +kernel⟩, List.mem_of_getElem? (i := 804) (by decide +kernel), List.mem_of_getElem? (i := 821) (by decide +kernel), List.mem_of_getElem? (i := 822) (by decide +kernel)⟩
theorem lw_p27 : lw_okq (⟨"ThrownBackModel", "eRead", "()Z"⟩, 42) := ⟨⟨by decide +kernel, by decide +kernel⟩, List.mem_of_getElem? (i := 804) (by decide +kernel), List.mem_of_getElem? (i := 825) (by decide +kernel), List.mem_of_getElem? (i := 826) (by decide +kernel)⟩
theorem lw_p28 : lw_okq (⟨"ThrownBackModel", "puts", "(I)V"⟩, 42) := ⟨⟨by decide +kernel, by decide +kernel⟩, List.mem_of_getElem? (i := 804) (by decide +kernel), List.mem_of_getElem? (i := 830) (by decide +kernel), List.mem_of_getElem? (i := 831) (by decide +kernel)⟩
theorem lw_p29 : lw_okq (⟨"ThrownBackModel", "unwinds", "(I)V"⟩, 42) := ⟨⟨by decide +kernel, by decide +kernel⟩, List.mem_of_getElem? (i := 804) (by decide +kernel), List.mem_of_getElem? (i := 834) (by decide +kernel), List.mem_of_getElem? (i := 835) (by decide +kernel)⟩
theorem lw_p30 : lw_okq (⟨"ThrownBackModel", "opensOne", "(I)Z"⟩, 42) := ⟨⟨by decide +kernel, by decide +kernel⟩, List.mem_of_getElem? (i := 804) (by decide +kernel), List.mem_of_getElem? (i := 841) (by decide +kernel), List.mem_of_getElem? (i := 842) (by decide +kernel)⟩
theorem lw_p31 : lw_okq (⟨"ThrownBackModel", "holds", "(I)V"⟩, 42) := ⟨⟨by decide +kernel, by decide +kernel⟩, List.mem_of_getElem? (i := 804) (by decide +kernel), List.mem_of_getElem? (i := 845) (by decide +kernel), List.mem_of_getElem? (i := 846) (by decide +kernel)⟩
def lw_privs_2 : List (MethodName × Nat) := [(⟨"ThrownBack$Road", "shovel", "(ILThrownBack$Law;)V"⟩, 11), (⟨"ThrownBack", "think", "()V"⟩, 9), (⟨"ThrownBack", "goOn", "(I)V"⟩, 9), (⟨"ThrownBack$Road", "highestHeap", "()I"⟩, 11), (⟨"ThrownBack$Road", "busiest", "()I"⟩, 11), (⟨"ThrownBack", "thinkOf", "(IIII)V"⟩, 9), (⟨"ThrownBack", "minutesOfLikes", "(III)I"⟩, 9), (⟨"ThrownBack", "refusalOfTold", "(I)I"⟩, 9), (⟨"ThrownBack", "thinkOfWinter", "(III)V"⟩, 9), (⟨"ThrownBackModel", "next", "()V"⟩, 42), (⟨"ThrownBackModel", "wordFrom", "(II)I"⟩, 42), (⟨"ThrownBackModel", "eRead", "()Z"⟩, 42), (⟨"ThrownBackModel", "puts", "(I)V"⟩, 42), (⟨"ThrownBackModel", "unwinds", "(I)V"⟩, 42), (⟨"ThrownBackModel", "opensOne", "(I)Z"⟩, 42), (⟨"ThrownBackModel", "holds", "(I)V"⟩, 42)]
theorem lw_r2 : ∀ q ∈ lw_privs_2, lw_okq q := List.forall_mem_cons.mpr ⟨lw_p16, List.forall_mem_cons.mpr ⟨lw_p17, List.forall_mem_cons.mpr ⟨lw_p18, List.forall_mem_cons.mpr ⟨lw_p19, List.forall_mem_cons.mpr ⟨lw_p20, List.forall_mem_cons.mpr ⟨lw_p21, List.forall_mem_cons.mpr ⟨lw_p22, List.forall_mem_cons.mpr ⟨lw_p23, List.forall_mem_cons.mpr ⟨lw_p24, List.forall_mem_cons.mpr ⟨lw_p25, List.forall_mem_cons.mpr ⟨lw_p26, List.forall_mem_cons.mpr ⟨lw_p27, List.forall_mem_cons.mpr ⟨lw_p28, List.forall_mem_cons.mpr ⟨lw_p29, List.forall_mem_cons.mpr ⟨lw_p30, List.forall_mem_cons.mpr ⟨lw_p31, fun _ h => absurd h List.not_mem_nil⟩⟩⟩⟩⟩⟩⟩⟩⟩⟩⟩⟩⟩⟩⟩⟩
theorem lw_p32 : lw_okq (⟨"ThrownBackModel", "signOf", "()I"⟩, 42) := ⟨⟨by decide +kernel, by decide +kernel⟩, List.mem_of_getElem? (i := 804) (by decide +kernel), List.mem_of_getElem? (i := 849) (by decide +kernel), List.mem_of_getElem? (i := 850) (by decide +kernel)⟩
theorem lw_p33 : lw_okq (⟨"ThrownBackModel", "between", "(I)Z"⟩, 42) := ⟨⟨by decide +kernel, by decide +kernel⟩, List.mem_of_getElem? (i := 804) (by decide +kernel), List.mem_of_getElem? (i := 853) (by decide +kernel), List.mem_of_getElem? (i := 854) (by decide +kernel)⟩
theorem lw_p34 : lw_okq (⟨"ThrownBackModel", "isOwner", "(I)Z"⟩, 42) := ⟨⟨by decide +kernel, by decide +kernel⟩, List.mem_of_getElem? (i := 804) (by decide +kernel), List.mem_of_getElem? (i := 1008) (by decide +kernel), List.mem_of_getElem? (i := 1009) (by decide +kernel)⟩
theorem lw_p35 : lw_okq (⟨"ThrownBackModel", "asksOf", "(III)I"⟩, 42) := ⟨⟨by decide +kernel, by decide +kernel⟩, List.mem_of_getElem? (i := 804) (by decide +kernel), List.mem_of_getElem? (i := 1012) (by decide +kernel), List.mem_of_getElem? (i := 1013) (by decide +kernel)⟩
theorem lw_p36 : lw_okq (⟨"ThrownBackModel", "says", "(I)I"⟩, 42) := ⟨⟨by decide +kernel, by decide +kernel⟩, List.mem_of_getElem? (i := 804) (by decide +kernel), List.mem_of_getElem? (i := 1019) (by decide +kernel), List.mem_of_getElem? (i := 1020) (by decide +kernel)⟩
theorem lw_p37 : lw_okq (⟨"ThrownBackModel", "isPass", "(I)Z"⟩, 42) := ⟨⟨by decide +kernel, by decide +kernel⟩, List.mem_of_getElem? (i := 804) (by decide +kernel), List.mem_of_getElem? (i := 1049) (by decide +kernel), List.mem_of_getElem? (i := 1050) (by decide +kernel)⟩
theorem lw_p38 : lw_okq (⟨"ThrownBackModel", "begins", "()V"⟩, 42) := ⟨⟨by decide +kernel, by decide +kernel⟩, List.mem_of_getElem? (i := 804) (by decide +kernel), List.mem_of_getElem? (i := 1062) (by decide +kernel), List.mem_of_getElem? (i := 1063) (by decide +kernel)⟩
theorem lw_p39 : lw_okq (⟨"ThrownBackModel", "hourOf", "()V"⟩, 42) := ⟨⟨by decide +kernel, by decide +kernel⟩, List.mem_of_getElem? (i := 804) (by decide +kernel), List.mem_of_getElem? (i := 1066) (by decide +kernel), List.mem_of_getElem? (i := 1067) (by decide +kernel)⟩
theorem lw_p40 : lw_okq (⟨"ThrownBackModel", "passBy", "(I)V"⟩, 42) := ⟨⟨by decide +kernel, by decide +kernel⟩, List.mem_of_getElem? (i := 804) (by decide +kernel), List.mem_of_getElem? (i := 1073) (by decide +kernel), List.mem_of_getElem? (i := 1074) (by decide +kernel)⟩
theorem lw_p41 : lw_okq (⟨"ThrownBackModel", "comesNow", "(I)Z"⟩, 42) := ⟨⟨by decide +kernel, by decide +kernel⟩, List.mem_of_getElem? (i := 804) (by decide +kernel), List.mem_of_getElem? (i := 1077) (by decide +kernel), List.mem_of_getElem? (i := 1078) (by decide +kernel)⟩
theorem lw_p42 : lw_okq (⟨"ThrownBackModel", "shovel", "(I)V"⟩, 42) := ⟨⟨by decide +kernel, by decide +kernel⟩, List.mem_of_getElem? (i := 804) (by decide +kernel), List.mem_of_getElem? (i := 1081) (by decide +kernel), List.mem_of_getElem? (i := 1082) (by decide +kernel)⟩
theorem lw_p43 : lw_okq (⟨"ThrownBackModel", "takesOf", "(I)I"⟩, 42) := ⟨⟨by decide +kernel, by decide +kernel⟩, List.mem_of_getElem? (i := 804) (by decide +kernel), List.mem_of_getElem? (i := 1085) (by decide +kernel), List.mem_of_getElem? (i := 1086) (by decide +kernel)⟩
theorem lw_p44 : lw_okq (⟨"ThrownBackModel", "throwsBack", "(I)Z"⟩, 42) := ⟨⟨by decide +kernel, by decide +kernel⟩, List.mem_of_getElem? (i := 804) (by decide +kernel), List.mem_of_getElem? (i := 1089) (by decide +kernel), List.mem_of_getElem? (i := 1090) (by decide +kernel)⟩
theorem lw_p45 : lw_okq (⟨"ThrownBackModel", "minutesAll", "()I"⟩, 42) := ⟨⟨by decide +kernel, by decide +kernel⟩, List.mem_of_getElem? (i := 804) (by decide +kernel), List.mem_of_getElem? (i := 1093) (by decide +kernel), List.mem_of_getElem? (i := 1094) (by decide +kernel)⟩
theorem lw_p46 : lw_okq (⟨"ThrownBackModel", "goes", "(I)V"⟩, 42) := ⟨⟨by decide +kernel, by decide +kernel⟩, List.mem_of_getElem? (i := 804) (by decide +kernel), List.mem_of_getElem? (i := 1104) (by decide +kernel), List.mem_of_getElem? (i := 1105) (by decide +kernel)⟩
theorem lw_p47 : lw_okq (⟨"ThrownBackModel", "keeps", "()V"⟩, 42) := ⟨⟨by decide +kernel, by decide +kernel⟩, List.mem_of_getElem? (i := 804) (by decide +kernel), List.mem_of_getElem? (i := 1108) (by decide +kernel), List.mem_of_getElem? (i := 1109) (by decide +kernel)⟩
def lw_privs_3 : List (MethodName × Nat) := [(⟨"ThrownBackModel", "signOf", "()I"⟩, 42), (⟨"ThrownBackModel", "between", "(I)Z"⟩, 42), (⟨"ThrownBackModel", "isOwner", "(I)Z"⟩, 42), (⟨"ThrownBackModel", "asksOf", "(III)I"⟩, 42), (⟨"ThrownBackModel", "says", "(I)I"⟩, 42), (⟨"ThrownBackModel", "isPass", "(I)Z"⟩, 42), (⟨"ThrownBackModel", "begins", "()V"⟩, 42), (⟨"ThrownBackModel", "hourOf", "()V"⟩, 42), (⟨"ThrownBackModel", "passBy", "(I)V"⟩, 42), (⟨"ThrownBackModel", "comesNow", "(I)Z"⟩, 42), (⟨"ThrownBackModel", "shovel", "(I)V"⟩, 42), (⟨"ThrownBackModel", "takesOf", "(I)I"⟩, 42), (⟨"ThrownBackModel", "throwsBack", "(I)Z"⟩, 42), (⟨"ThrownBackModel", "minutesAll", "()I"⟩, 42), (⟨"ThrownBackModel", "goes", "(I)V"⟩, 42), (⟨"ThrownBackModel", "keeps", "()V"⟩, 42)]
theorem lw_r3 : ∀ q ∈ lw_privs_3, lw_okq q := List.forall_mem_cons.mpr ⟨lw_p32, List.forall_mem_cons.mpr ⟨lw_p33, List.forall_mem_cons.mpr ⟨lw_p34, List.forall_mem_cons.mpr ⟨lw_p35, List.forall_mem_cons.mpr ⟨lw_p36, List.forall_mem_cons.mpr ⟨lw_p37, List.forall_mem_cons.mpr ⟨lw_p38, List.forall_mem_cons.mpr ⟨lw_p39, List.forall_mem_cons.mpr ⟨lw_p40, List.forall_mem_cons.mpr ⟨lw_p41, List.forall_mem_cons.mpr ⟨lw_p42, List.forall_mem_cons.mpr ⟨lw_p43, List.forall_mem_cons.mpr ⟨lw_p44, List.forall_mem_cons.mpr ⟨lw_p45, List.forall_mem_cons.mpr ⟨lw_p46, List.forall_mem_cons.mpr ⟨lw_p47, fun _ h => absurd h List.not_mem_nil⟩⟩⟩⟩⟩⟩⟩⟩⟩⟩⟩⟩⟩⟩⟩⟩
theorem lw_p48 : lw_okq (⟨"ThrownBackModel", "laysBack", "()V"⟩, 42) := ⟨⟨by decide +kernel, by decide +kernel⟩, List.mem_of_getElem? (i := 804) (by decide +kernel), List.mem_of_getElem? (i := 1112) (by decide +kernel), List.mem_of_getElem? (i := 1113) (by decide +kernel)⟩
theorem lw_p49 : lw_okq (⟨"ThrownBackModel", "toldRun", "(I)I"⟩, 42) := ⟨⟨by decide +kernel, by decide +kernel⟩, List.mem_of_getElem? (i := 804) (by decide +kernel), List.mem_of_getElem? (i := 1116) (by decide +kernel), List.mem_of_getElem? (i := 1117) (by decide +kernel)⟩
theorem lw_p50 : lw_okq (⟨"ThrownBackModel", "blockedAll", "()I"⟩, 42) := ⟨⟨by decide +kernel, by decide +kernel⟩, List.mem_of_getElem? (i := 804) (by decide +kernel), List.mem_of_getElem? (i := 1120) (by decide +kernel), List.mem_of_getElem? (i := 1121) (by decide +kernel)⟩
theorem lw_p51 : lw_okq (⟨"ThrownBackModel", "mostOwner", "()I"⟩, 42) := ⟨⟨by decide +kernel, by decide +kernel⟩, List.mem_of_getElem? (i := 804) (by decide +kernel), List.mem_of_getElem? (i := 1124) (by decide +kernel), List.mem_of_getElem? (i := 1125) (by decide +kernel)⟩
theorem lw_p52 : lw_okq (⟨"ThrownBackModel", "mostMinutes", "()I"⟩, 42) := ⟨⟨by decide +kernel, by decide +kernel⟩, List.mem_of_getElem? (i := 804) (by decide +kernel), List.mem_of_getElem? (i := 1147) (by decide +kernel), List.mem_of_getElem? (i := 1148) (by decide +kernel)⟩
theorem lw_p53 : lw_okq (⟨"ThrownBackModel", "toldWrong", "(II)I"⟩, 42) := ⟨⟨by decide +kernel, by decide +kernel⟩, List.mem_of_getElem? (i := 804) (by decide +kernel), List.mem_of_getElem? (i := 1165) (by decide +kernel), List.mem_of_getElem? (i := 1166) (by decide +kernel)⟩
theorem lw_p54 : lw_okq (⟨"ThrownBackModel", "sheetWrong", "(I)I"⟩, 42) := ⟨⟨by decide +kernel, by decide +kernel⟩, List.mem_of_getElem? (i := 804) (by decide +kernel), List.mem_of_getElem? (i := 1169) (by decide +kernel), List.mem_of_getElem? (i := 1170) (by decide +kernel)⟩
theorem lw_p55 : lw_okq (⟨"ThrownBackModel", "unlike", "(II)I"⟩, 42) := ⟨⟨by decide +kernel, by decide +kernel⟩, List.mem_of_getElem? (i := 804) (by decide +kernel), List.mem_of_getElem? (i := 1173) (by decide +kernel), List.mem_of_getElem? (i := 1174) (by decide +kernel)⟩
theorem lw_p56 : lw_okq (⟨"ThrownBackModel", "winter", "(III)V"⟩, 42) := ⟨⟨by decide +kernel, by decide +kernel⟩, List.mem_of_getElem? (i := 804) (by decide +kernel), List.mem_of_getElem? (i := 1198) (by decide +kernel), List.mem_of_getElem? (i := 1199) (by decide +kernel)⟩
def lw_privs_4 : List (MethodName × Nat) := [(⟨"ThrownBackModel", "laysBack", "()V"⟩, 42), (⟨"ThrownBackModel", "toldRun", "(I)I"⟩, 42), (⟨"ThrownBackModel", "blockedAll", "()I"⟩, 42), (⟨"ThrownBackModel", "mostOwner", "()I"⟩, 42), (⟨"ThrownBackModel", "mostMinutes", "()I"⟩, 42), (⟨"ThrownBackModel", "toldWrong", "(II)I"⟩, 42), (⟨"ThrownBackModel", "sheetWrong", "(I)I"⟩, 42), (⟨"ThrownBackModel", "unlike", "(II)I"⟩, 42), (⟨"ThrownBackModel", "winter", "(III)V"⟩, 42)]
theorem lw_r4 : ∀ q ∈ lw_privs_4, lw_okq q := List.forall_mem_cons.mpr ⟨lw_p48, List.forall_mem_cons.mpr ⟨lw_p49, List.forall_mem_cons.mpr ⟨lw_p50, List.forall_mem_cons.mpr ⟨lw_p51, List.forall_mem_cons.mpr ⟨lw_p52, List.forall_mem_cons.mpr ⟨lw_p53, List.forall_mem_cons.mpr ⟨lw_p54, List.forall_mem_cons.mpr ⟨lw_p55, List.forall_mem_cons.mpr ⟨lw_p56, fun _ h => absurd h List.not_mem_nil⟩⟩⟩⟩⟩⟩⟩⟩⟩
def lw_privs : List (MethodName × Nat) := lw_privs_1 ++ (lw_privs_2 ++ (lw_privs_3 ++ (lw_privs_4)))
def lw_tbl : List Cond := k2_sels lw_privs ++ tables_1
theorem lw_privs_ok : ∀ q ∈ lw_privs, lw_okq q := by
  show ∀ q ∈ lw_privs_1 ++ (lw_privs_2 ++ (lw_privs_3 ++ (lw_privs_4))), lw_okq q
  exact List.forall_mem_append.mpr ⟨lw_r1, List.forall_mem_append.mpr ⟨lw_r2, List.forall_mem_append.mpr ⟨lw_r3, lw_r4⟩⟩⟩
end
section
/-! names of the classes, methods, links (by program: wip/whole/gen1.py) -/
def nT0 : u_T := fun k => match k with
  | 0 => ("ThrownBack$Law", "steps", "[I", true)
  | 1 => ("ThrownBack$Law", "starts", "[I", true)
  | 2 => ("ThrownBack$Law", "stack", "[I", true)
  | _ => ("ThrownBack$Law", "size", "I", false)
def nty0 : Nat → FieldType := fun k => match k with
  | 0 => .array .int
  | 1 => .array .int
  | 2 => .array .int
  | _ => .int
def nT1 : u_T := fun k => match k with
  | _ => ("ThrownBack$Lots", "last", "J", false)
def nty1 : Nat → FieldType := fun k => match k with
  | _ => .long
def nT2 : u_T := fun k => match k with
  | 0 => ("ThrownBack$Owner", "kind", "I", false)
  | 1 => ("ThrownBack$Owner", "more", "I", false)
  | 2 => ("ThrownBack$Owner", "wall", "I", false)
  | 3 => ("ThrownBack$Owner", "heap", "I", false)
  | 4 => ("ThrownBack$Owner", "bay", "I", false)
  | 5 => ("ThrownBack$Owner", "at", "I", false)
  | 6 => ("ThrownBack$Owner", "lifted", "I", false)
  | 7 => ("ThrownBack$Owner", "minutes", "I", false)
  | _ => ("ThrownBack$Owner", "blocked", "I", false)
def nty2 : Nat → FieldType := fun k => match k with
  | 0 => .int
  | 1 => .int
  | 2 => .int
  | 3 => .int
  | 4 => .int
  | 5 => .int
  | 6 => .int
  | 7 => .int
  | _ => .int
def nT3 : u_T := fun k => match k with
  | 0 => ("ThrownBack$Reader", "tape", "[I", true)
  | 1 => ("ThrownBack$Reader", "size", "I", false)
  | 2 => ("ThrownBack$Reader", "place", "I", false)
  | 3 => ("ThrownBack$Reader", "start", "I", false)
  | 4 => ("ThrownBack$Reader", "token", "I", false)
  | 5 => ("ThrownBack$Reader", "value", "I", false)
  | _ => ("ThrownBack$Reader", "law", "LThrownBack$Law;", false)
def nty3 : Nat → FieldType := fun k => match k with
  | 0 => .array .int
  | 1 => .int
  | 2 => .int
  | 3 => .int
  | 4 => .int
  | 5 => .int
  | _ => .object "ThrownBack$Law"
def nT4 : u_T := fun k => match k with
  | 0 => ("ThrownBack$Road", "owners", "[LThrownBack$Owner;", true)
  | 1 => ("ThrownBack$Road", "ownerCount", "I", false)
  | 2 => ("ThrownBack$Road", "lies", "[I", true)
  | 3 => ("ThrownBack$Road", "passHours", "[I", true)
  | 4 => ("ThrownBack$Road", "passSides", "[I", true)
  | 5 => ("ThrownBack$Road", "passCount", "I", false)
  | 6 => ("ThrownBack$Road", "hour", "I", false)
  | 7 => ("ThrownBack$Road", "limit", "I", false)
  | 8 => ("ThrownBack$Road", "law", "I", false)
  | 9 => ("ThrownBack$Road", "lost", "I", false)
  | _ => ("ThrownBack$Road", "facts", "[I", true)
def nty4 : Nat → FieldType := fun k => match k with
  | 0 => .array (.object "ThrownBack$Owner")
  | 1 => .int
  | 2 => .array .int
  | 3 => .array .int
  | 4 => .array .int
  | 5 => .int
  | 6 => .int
  | 7 => .int
  | 8 => .int
  | 9 => .int
  | _ => .array .int
def nT5 : u_T := fun k => match k with
  | 0 => ("ThrownBack$Sheet", "sort", "I", false)
  | 1 => ("ThrownBack$Sheet", "size", "I", false)
  | _ => ("ThrownBack$Sheet", "row", "[I", true)
def nty5 : Nat → FieldType := fun k => match k with
  | 0 => .int
  | 1 => .int
  | _ => .array .int
def nT6 : u_T := fun k => match k with
  | 0 => ("ThrownBack", "real", "LThrownBack$Road;", true)
  | 1 => ("ThrownBack", "thought", "LThrownBack$Road;", true)
  | 2 => ("ThrownBack", "kept", "LThrownBack$Road;", true)
  | 3 => ("ThrownBack", "isKept", "Z", false)
  | 4 => ("ThrownBack", "reader", "LThrownBack$Reader;", true)
  | 5 => ("ThrownBack", "texts", "[LThrownBack$Law;", true)
  | 6 => ("ThrownBack", "textCount", "I", false)
  | 7 => ("ThrownBack", "sheets", "[LThrownBack$Sheet;", true)
  | _ => ("ThrownBack", "lots", "LThrownBack$Lots;", true)
def nty6 : Nat → FieldType := fun k => match k with
  | 0 => .object "ThrownBack$Road"
  | 1 => .object "ThrownBack$Road"
  | 2 => .object "ThrownBack$Road"
  | 3 => .boolean
  | 4 => .object "ThrownBack$Reader"
  | 5 => .array (.object "ThrownBack$Law")
  | 6 => .int
  | 7 => .array (.object "ThrownBack$Sheet")
  | _ => .object "ThrownBack$Lots"
def nT7 : u_T := fun k => match k with
  | 0 => ("ThrownBackModel", "owners", "I", false)
  | 1 => ("ThrownBackModel", "kind", "[I", true)
  | 2 => ("ThrownBackModel", "moreOf", "[I", true)
  | 3 => ("ThrownBackModel", "rows", "[I", true)
  | 4 => ("ThrownBackModel", "road", "[I", true)
  | 5 => ("ThrownBackModel", "passes", "I", false)
  | 6 => ("ThrownBackModel", "passHours", "[I", true)
  | 7 => ("ThrownBackModel", "passSides", "[I", true)
  | 8 => ("ThrownBackModel", "hour0", "I", false)
  | 9 => ("ThrownBackModel", "limit", "I", false)
  | 10 => ("ThrownBackModel", "tape", "[I", true)
  | 11 => ("ThrownBackModel", "taped", "I", false)
  | 12 => ("ThrownBackModel", "codes", "[I", true)
  | 13 => ("ThrownBackModel", "starts", "[I", true)
  | 14 => ("ThrownBackModel", "texts", "I", false)
  | 15 => ("ThrownBackModel", "rule", "I", false)
  | 16 => ("ThrownBackModel", "hasImage", "Z", false)
  | 17 => ("ThrownBackModel", "imageRows", "[I", true)
  | 18 => ("ThrownBackModel", "imageHeld", "[I", true)
  | 19 => ("ThrownBackModel", "sheetSort", "[I", true)
  | 20 => ("ThrownBackModel", "sheetSize", "[I", true)
  | 21 => ("ThrownBackModel", "cells", "[I", true)
  | 22 => ("ThrownBackModel", "law", "[I", true)
  | 23 => ("ThrownBackModel", "at", "I", false)
  | 24 => ("ThrownBackModel", "begun", "I", false)
  | 25 => ("ThrownBackModel", "token", "I", false)
  | 26 => ("ThrownBackModel", "value", "I", false)
  | 27 => ("ThrownBackModel", "words", "[I", true)
  | 28 => ("ThrownBackModel", "held", "[I", true)
  | 29 => ("ThrownBackModel", "heldMany", "I", false)
  | 30 => ("ThrownBackModel", "opens", "I", false)
  | 31 => ("ThrownBackModel", "out", "I", false)
  | 32 => ("ThrownBackModel", "stack", "[I", true)
  | 33 => ("ThrownBackModel", "named", "[I", true)
  | 34 => ("ThrownBackModel", "lost", "I", false)
  | 35 => ("ThrownBackModel", "minutesOf", "[I", true)
  | 36 => ("ThrownBackModel", "blockedOf", "[I", true)
  | 37 => ("ThrownBackModel", "kept", "[I", true)
  | 38 => ("ThrownBackModel", "keptHour", "I", false)
  | 39 => ("ThrownBackModel", "lastWalls", "[I", true)
  | 40 => ("ThrownBackModel", "lastHeap", "I", false)
  | _ => ("ThrownBackModel", "keptSides", "[I", true)
def nty7 : Nat → FieldType := fun k => match k with
  | 0 => .int
  | 1 => .array .int
  | 2 => .array .int
  | 3 => .array .int
  | 4 => .array .int
  | 5 => .int
  | 6 => .array .int
  | 7 => .array .int
  | 8 => .int
  | 9 => .int
  | 10 => .array .int
  | 11 => .int
  | 12 => .array .int
  | 13 => .array .int
  | 14 => .int
  | 15 => .int
  | 16 => .boolean
  | 17 => .array .int
  | 18 => .array .int
  | 19 => .array .int
  | 20 => .array .int
  | 21 => .array .int
  | 22 => .array .int
  | 23 => .int
  | 24 => .int
  | 25 => .int
  | 26 => .int
  | 27 => .array .int
  | 28 => .array .int
  | 29 => .int
  | 30 => .int
  | 31 => .int
  | 32 => .array .int
  | 33 => .array .int
  | 34 => .int
  | 35 => .array .int
  | 36 => .array .int
  | 37 => .array .int
  | 38 => .int
  | 39 => .array .int
  | 40 => .int
  | _ => .array .int
def cnl : List String := ["ThrownBack$Law", "ThrownBack$Lots", "ThrownBack$Owner", "ThrownBack$Reader", "ThrownBack$Road", "ThrownBack$Sheet", "ThrownBack", "ThrownBackModel", "java/lang/String", "ThrownBackLaw", "java/lang/StringLatin1", "java/lang/Math", "jdk/internal/util/Preconditions"]
def cn (c : Nat) : String := cnl.getD c ""
abbrev mcl : List vw_C := [("ThrownBack$Law", nT0, 4), ("ThrownBack$Lots", nT1, 1), ("ThrownBack$Owner", nT2, 9), ("ThrownBack$Reader", nT3, 7), ("ThrownBack$Road", nT4, 11), ("ThrownBack$Sheet", nT5, 3), ("ThrownBack", nT6, 9), ("ThrownBackModel", nT7, 42)]
def nTT (a : Nat) : u_T := match a with
  | 0 => nT0
  | 1 => nT1
  | 2 => nT2
  | 3 => nT3
  | 4 => nT4
  | 5 => nT5
  | 6 => nT6
  | _ => nT7
def nNN (a : Nat) : Nat := match a with
  | 0 => 4
  | 1 => 1
  | 2 => 9
  | 3 => 7
  | 4 => 11
  | 5 => 3
  | 6 => 9
  | _ => 42
def nYY (a : Nat) : Nat → FieldType := match a with
  | 0 => nty0
  | 1 => nty1
  | 2 => nty2
  | 3 => nty3
  | 4 => nty4
  | 5 => nty5
  | 6 => nty6
  | _ => nty7
abbrev mE : Type := Nat × MethodName × ByteArray × Nat × Option FieldType
def mtl_0 : List mE := [(9, ⟨"ThrownBackLaw", "law", "([I)Z"⟩, code, 4, (some .boolean)), (8, ⟨"java/lang/String", "length", "()I"⟩, prog_12_method_54_code, 1, (some .int)), (8, ⟨"java/lang/String", "charAt", "(I)C"⟩, prog_12_method_56_code, 2, (some .char)), (8, ⟨"java/lang/String", "indexOf", "(I)I"⟩, prog_12_method_79_code, 2, (some .int)), (8, ⟨"java/lang/String", "indexOf", "(II)I"⟩, prog_12_method_80_code, 3, (some .int)), (8, ⟨"java/lang/String", "coder", "()B"⟩, prog_12_method_152_code, 1, (some .byte)), (8, ⟨"java/lang/String", "isLatin1", "()Z"⟩, prog_12_method_154_code, 1, (some .boolean)), (8, ⟨"java/lang/String", "checkIndex", "(II)V"⟩, prog_12_method_155_code, 2, none), (10, ⟨"java/lang/StringLatin1", "charAt", "([BI)C"⟩, prog_13_method_2_code, 2, (some .char)), (10, ⟨"java/lang/StringLatin1", "canEncode", "(I)Z"⟩, prog_13_method_4_code, 1, (some .boolean)), (10, ⟨"java/lang/StringLatin1", "indexOf", "([BIII)I"⟩, prog_13_method_22_code, 4, (some .int)), (10, ⟨"java/lang/StringLatin1", "indexOfChar", "([BIII)I"⟩, prog_13_method_23_code, 6, (some .int)), (12, ⟨"jdk/internal/util/Preconditions", "checkIndex", "(IILjava/util/function/BiFunction;)I"⟩, prog_16_method_11_code, 3, (some .int)), (11, ⟨"java/lang/Math", "max", "(II)I"⟩, prog_11_method_65_code, 2, (some .int)), (11, ⟨"java/lang/Math", "min", "(II)I"⟩, prog_11_method_69_code, 2, (some .int)), (0, ⟨"ThrownBack$Law", "<init>", "()V"⟩, prog_2_method_1_code, 1, none), (0, ⟨"ThrownBack$Law", "clear", "()V"⟩, prog_2_method_2_code, 1, none), (0, ⟨"ThrownBack$Law", "add", "(I)V"⟩, prog_2_method_3_code, 2, none), (0, ⟨"ThrownBack$Law", "endPart", "(I)V"⟩, prog_2_method_4_code, 2, none), (0, ⟨"ThrownBack$Law", "says", "(I[I)I"⟩, prog_2_method_5_code, 7, (some .int)), (0, ⟨"ThrownBack$Law", "isOfOne", "(I)Z"⟩, prog_2_method_6_code, 1, (some .boolean)), (0, ⟨"ThrownBack$Law", "joined", "(III)I"⟩, prog_2_method_7_code, 3, (some .int)), (1, ⟨"ThrownBack$Lots", "<init>", "()V"⟩, prog_3_method_1_code, 1, none), (1, ⟨"ThrownBack$Lots", "begin", "(I)V"⟩, prog_3_method_2_code, 2, none), (1, ⟨"ThrownBack$Lots", "next", "(I)I"⟩, prog_3_method_3_code, 2, (some .int)), (2, ⟨"ThrownBack$Owner", "<init>", "()V"⟩, prog_4_method_1_code, 1, none), (2, ⟨"ThrownBack$Owner", "begin", "(III)V"⟩, prog_4_method_2_code, 4, none), (2, ⟨"ThrownBack$Owner", "become", "(LThrownBack$Owner;)V"⟩, prog_4_method_3_code, 2, none), (2, ⟨"ThrownBack$Owner", "number", "(I)I"⟩, prog_4_method_4_code, 2, (some .int)), (2, ⟨"ThrownBack$Owner", "change", "(II)V"⟩, prog_4_method_5_code, 3, none)]
def mtl_1 : List mE := [(2, ⟨"ThrownBack$Owner", "getsBefore", "(I)I"⟩, prog_4_method_6_code, 3, (some .int)), (2, ⟨"ThrownBack$Owner", "isOf", "(I)Z"⟩, prog_4_method_7_code, 3, (some .boolean)), (2, ⟨"ThrownBack$Owner", "takes", "(I)I"⟩, prog_4_method_8_code, 2, (some .int)), (2, ⟨"ThrownBack$Owner", "throwsBack", "()Z"⟩, prog_4_method_9_code, 1, (some .boolean)), (2, ⟨"ThrownBack$Owner", "comesIn", "(I)Z"⟩, prog_4_method_10_code, 3, (some .boolean)), (3, ⟨"ThrownBack$Reader", "<init>", "()V"⟩, prog_5_method_1_code, 1, none), (3, ⟨"ThrownBack$Reader", "add", "(I)V"⟩, prog_5_method_2_code, 2, none), (3, ⟨"ThrownBack$Reader", "clear", "()V"⟩, prog_5_method_3_code, 1, none), (3, ⟨"ThrownBack$Reader", "readInto", "(LThrownBack$Law;)I"⟩, prog_5_method_4_code, 3, (some .int)), (3, ⟨"ThrownBack$Reader", "readPart", "(I)Z"⟩, prog_5_method_5_code, 2, (some .boolean)), (3, ⟨"ThrownBack$Reader", "readChain", "(II)Z"⟩, prog_5_method_6_code, 5, (some .boolean)), (3, ⟨"ThrownBack$Reader", "readLink", "(II)Z"⟩, prog_5_method_7_code, 3, (some .boolean)), (3, ⟨"ThrownBack$Reader", "isJoint", "(I)Z"⟩, prog_5_method_8_code, 2, (some .boolean)), (3, ⟨"ThrownBack$Reader", "stepOfToken", "()I"⟩, prog_5_method_9_code, 1, (some .int)), (3, ⟨"ThrownBack$Reader", "readNot", "(I)Z"⟩, prog_5_method_10_code, 3, (some .boolean)), (3, ⟨"ThrownBack$Reader", "readOne", "(I)Z"⟩, prog_5_method_11_code, 3, (some .boolean)), (3, ⟨"ThrownBack$Reader", "readClosed", "(I)Z"⟩, prog_5_method_12_code, 2, (some .boolean)), (3, ⟨"ThrownBack$Reader", "next", "()V"⟩, prog_5_method_13_code, 1, none), (3, ⟨"ThrownBack$Reader", "readWord", "()V"⟩, prog_5_method_14_code, 4, none), (3, ⟨"ThrownBack$Reader", "isWord", "(II)Z"⟩, prog_5_method_15_code, 4, (some .boolean)), (3, ⟨"ThrownBack$Reader", "readNumber", "()V"⟩, prog_5_method_16_code, 1, none), (3, ⟨"ThrownBack$Reader", "readSign", "()V"⟩, prog_5_method_17_code, 1, none), (3, ⟨"ThrownBack$Reader", "isBlank", "(I)Z"⟩, prog_5_method_18_code, 1, (some .boolean)), (3, ⟨"ThrownBack$Reader", "isLetter", "(I)Z"⟩, prog_5_method_19_code, 1, (some .boolean)), (3, ⟨"ThrownBack$Reader", "isDigit", "(I)Z"⟩, prog_5_method_20_code, 1, (some .boolean)), (4, ⟨"ThrownBack$Road", "<init>", "()V"⟩, prog_6_method_1_code, 2, none), (4, ⟨"ThrownBack$Road", "hasOwner", "(I)Z"⟩, prog_6_method_2_code, 2, (some .boolean)), (4, ⟨"ThrownBack$Road", "hasPass", "(I)Z"⟩, prog_6_method_3_code, 2, (some .boolean)), (4, ⟨"ThrownBack$Road", "addOwner", "(III)I"⟩, prog_6_method_4_code, 4, (some .int)), (4, ⟨"ThrownBack$Road", "addPass", "(II)I"⟩, prog_6_method_5_code, 3, (some .int))]
def mtl_2 : List mE := [(4, ⟨"ThrownBack$Road", "turnPasses", "(I)V"⟩, prog_6_method_6_code, 3, none), (4, ⟨"ThrownBack$Road", "become", "(LThrownBack$Road;)V"⟩, prog_6_method_7_code, 3, none), (4, ⟨"ThrownBack$Road", "forgetTallies", "()V"⟩, prog_6_method_8_code, 2, none), (4, ⟨"ThrownBack$Road", "snowBy", "(LThrownBack$Lots;I)V"⟩, prog_6_method_9_code, 4, none), (4, ⟨"ThrownBack$Road", "oneHour", "(LThrownBack$Law;)V"⟩, prog_6_method_10_code, 3, none), (4, ⟨"ThrownBack$Road", "snowFalls", "(LThrownBack$Law;)V"⟩, prog_6_method_11_code, 4, none), (4, ⟨"ThrownBack$Road", "ploughTo", "(ILThrownBack$Law;)V"⟩, prog_6_method_12_code, 8, none), (4, ⟨"ThrownBack$Road", "shovel", "(ILThrownBack$Law;)V"⟩, prog_6_method_13_code, 5, none), (4, ⟨"ThrownBack$Road", "saidOf", "(ILThrownBack$Law;II)I"⟩, prog_6_method_14_code, 5, (some .int)), (4, ⟨"ThrownBack$Road", "tell", "(IIII)V"⟩, prog_6_method_15_code, 5, none), (4, ⟨"ThrownBack$Road", "answer", "(I)I"⟩, prog_6_method_16_code, 2, (some .int)), (4, ⟨"ThrownBack$Road", "allMinutes", "()I"⟩, prog_6_method_17_code, 3, (some .int)), (4, ⟨"ThrownBack$Road", "allBlocked", "()I"⟩, prog_6_method_18_code, 3, (some .int)), (4, ⟨"ThrownBack$Road", "mostMinutes", "()I"⟩, prog_6_method_19_code, 2, (some .int)), (4, ⟨"ThrownBack$Road", "highestHeap", "()I"⟩, prog_6_method_20_code, 3, (some .int)), (4, ⟨"ThrownBack$Road", "busiest", "()I"⟩, prog_6_method_21_code, 4, (some .int)), (4, ⟨"ThrownBack$Road", "firstOther", "(LThrownBack$Sheet;)I"⟩, prog_6_method_22_code, 3, (some .int)), (5, ⟨"ThrownBack$Sheet", "<init>", "()V"⟩, prog_7_method_1_code, 1, none), (5, ⟨"ThrownBack$Sheet", "isMissing", "()Z"⟩, prog_7_method_2_code, 1, (some .boolean)), (5, ⟨"ThrownBack$Sheet", "begin", "(II)V"⟩, prog_7_method_3_code, 4, none), (5, ⟨"ThrownBack$Sheet", "hasPlace", "(I)Z"⟩, prog_7_method_4_code, 2, (some .boolean)), (5, ⟨"ThrownBack$Sheet", "hasPlaces", "(II)Z"⟩, prog_7_method_5_code, 3, (some .boolean)), (5, ⟨"ThrownBack$Sheet", "write", "(II)V"⟩, prog_7_method_6_code, 3, none), (6, ⟨"ThrownBack", "<init>", "()V"⟩, prog_1_method_1_code, 2, none), (6, ⟨"ThrownBack", "count", "(I)I"⟩, prog_1_method_2_code, 2, (some .int)), (6, ⟨"ThrownBack", "set", "(II)I"⟩, prog_1_method_3_code, 4, (some .int)), (6, ⟨"ThrownBack", "feed", "(IIIIII)I"⟩, prog_1_method_4_code, 8, (some .int)), (6, ⟨"ThrownBack", "text", "()I"⟩, prog_1_method_5_code, 2, (some .int)), (6, ⟨"ThrownBack", "force", "(I)I"⟩, prog_1_method_6_code, 3, (some .int)), (6, ⟨"ThrownBack", "asks", "(III)I"⟩, prog_1_method_7_code, 4, (some .int))]
def mtl_3 : List mE := [(6, ⟨"ThrownBack", "owner", "(II)I"⟩, prog_1_method_8_code, 3, (some .int)), (6, ⟨"ThrownBack", "put", "(III)I"⟩, prog_1_method_9_code, 6, (some .int)), (6, ⟨"ThrownBack", "told", "(II)I"⟩, prog_1_method_10_code, 3, (some .int)), (6, ⟨"ThrownBack", "pass", "(II)I"⟩, prog_1_method_11_code, 3, (some .int)), (6, ⟨"ThrownBack", "move", "(III)I"⟩, prog_1_method_12_code, 5, (some .int)), (6, ⟨"ThrownBack", "comes", "(I)I"⟩, prog_1_method_13_code, 2, (some .int)), (6, ⟨"ThrownBack", "live", "()I"⟩, prog_1_method_14_code, 1, (some .int)), (6, ⟨"ThrownBack", "run", "(II)I"⟩, prog_1_method_15_code, 4, (some .int)), (6, ⟨"ThrownBack", "ownerToldOf", "(I)I"⟩, prog_1_method_16_code, 1, (some .int)), (6, ⟨"ThrownBack", "when", "(III)I"⟩, prog_1_method_17_code, 9, (some .int)), (6, ⟨"ThrownBack", "dig", "(III)I"⟩, prog_1_method_18_code, 5, (some .int)), (6, ⟨"ThrownBack", "blade", "(II)I"⟩, prog_1_method_19_code, 7, (some .int)), (6, ⟨"ThrownBack", "sides", "(II)I"⟩, prog_1_method_20_code, 7, (some .int)), (6, ⟨"ThrownBack", "gains", "(III)I"⟩, prog_1_method_21_code, 8, (some .int)), (6, ⟨"ThrownBack", "helps", "(III)I"⟩, prog_1_method_22_code, 8, (some .int)), (6, ⟨"ThrownBack", "minutesOfLikes", "(III)I"⟩, prog_1_method_23_code, 6, (some .int)), (6, ⟨"ThrownBack", "judge", "(II)I"⟩, prog_1_method_24_code, 4, (some .int)), (6, ⟨"ThrownBack", "kinds", "(IIII)I"⟩, prog_1_method_25_code, 10, (some .int)), (6, ⟨"ThrownBack", "hours", "(II)I"⟩, prog_1_method_26_code, 7, (some .int)), (6, ⟨"ThrownBack", "laws", "(II)I"⟩, prog_1_method_27_code, 6, (some .int)), (6, ⟨"ThrownBack", "film", "(II)I"⟩, prog_1_method_28_code, 5, (some .int)), (6, ⟨"ThrownBack", "refusalOfTold", "(I)I"⟩, prog_1_method_29_code, 2, (some .int)), (6, ⟨"ThrownBack", "drawn", "(III)I"⟩, prog_1_method_30_code, 4, (some .int)), (6, ⟨"ThrownBack", "odds", "(IIIII)J"⟩, prog_1_method_31_code, 10, (some .long)), (6, ⟨"ThrownBack", "commonDivisor", "(II)I"⟩, prog_1_method_32_code, 3, (some .int)), (6, ⟨"ThrownBack", "image", "()I"⟩, prog_1_method_33_code, 1, (some .int)), (6, ⟨"ThrownBack", "back", "()I"⟩, prog_1_method_34_code, 1, (some .int)), (6, ⟨"ThrownBack", "sheet", "(III)I"⟩, prog_1_method_35_code, 4, (some .int)), (6, ⟨"ThrownBack", "cell", "(III)I"⟩, prog_1_method_36_code, 4, (some .int)), (6, ⟨"ThrownBack", "copy", "(IIIII)I"⟩, prog_1_method_37_code, 8, (some .int))]
def mtl_4 : List mE := [(6, ⟨"ThrownBack", "ownersBy", "(IIII)I"⟩, prog_1_method_38_code, 9, (some .int)), (6, ⟨"ThrownBack", "taken", "(II)J"⟩, prog_1_method_39_code, 3, (some .long)), (6, ⟨"ThrownBack", "think", "()V"⟩, prog_1_method_40_code, 1, none), (6, ⟨"ThrownBack", "goOn", "(I)V"⟩, prog_1_method_41_code, 4, none), (6, ⟨"ThrownBack", "thinkOf", "(IIII)V"⟩, prog_1_method_42_code, 5, none), (6, ⟨"ThrownBack", "thinkOfWinter", "(III)V"⟩, prog_1_method_43_code, 6, none), (6, ⟨"ThrownBack", "isWithin", "(II)Z"⟩, prog_1_method_44_code, 2, (some .boolean)), (6, ⟨"ThrownBack", "isByte", "(I)Z"⟩, prog_1_method_45_code, 1, (some .boolean)), (6, ⟨"ThrownBack", "isHourOfDay", "(I)Z"⟩, prog_1_method_46_code, 1, (some .boolean)), (6, ⟨"ThrownBack", "isSide", "(I)Z"⟩, prog_1_method_47_code, 1, (some .boolean)), (6, ⟨"ThrownBack", "areHours", "(I)Z"⟩, prog_1_method_48_code, 1, (some .boolean)), (6, ⟨"ThrownBack", "isAnswer", "(I)Z"⟩, prog_1_method_49_code, 1, (some .boolean)), (6, ⟨"ThrownBack", "isGoalWhat", "(I)Z"⟩, prog_1_method_50_code, 1, (some .boolean)), (6, ⟨"ThrownBack", "isSheet", "(I)Z"⟩, prog_1_method_51_code, 1, (some .boolean)), (7, ⟨"ThrownBackModel", "<init>", "()V"⟩, prog_9_method_1_code, 2, none), (7, ⟨"ThrownBackModel", "in", "(III)Z"⟩, prog_9_method_3_code, 3, (some .boolean)), (7, ⟨"ThrownBackModel", "within", "(III)I"⟩, prog_9_method_4_code, 3, (some .int)), (7, ⟨"ThrownBackModel", "isOwner", "(I)Z"⟩, prog_9_method_5_code, 2, (some .boolean)), (7, ⟨"ThrownBackModel", "isPass", "(I)Z"⟩, prog_9_method_6_code, 2, (some .boolean)), (7, ⟨"ThrownBackModel", "areHours", "(I)Z"⟩, prog_9_method_7_code, 1, (some .boolean)), (7, ⟨"ThrownBackModel", "count", "(I)I"⟩, prog_9_method_8_code, 2, (some .int)), (7, ⟨"ThrownBackModel", "set", "(II)I"⟩, prog_9_method_9_code, 4, (some .int)), (7, ⟨"ThrownBackModel", "isByte", "(I)Z"⟩, prog_9_method_10_code, 1, (some .boolean)), (7, ⟨"ThrownBackModel", "feed", "(IIIIII)I"⟩, prog_9_method_11_code, 8, (some .int)), (7, ⟨"ThrownBackModel", "wordFrom", "(II)I"⟩, prog_9_method_12_code, 6, (some .int)), (7, ⟨"ThrownBackModel", "next", "()V"⟩, prog_9_method_13_code, 3, none), (7, ⟨"ThrownBackModel", "rank", "(I)I"⟩, prog_9_method_14_code, 1, (some .int)), (7, ⟨"ThrownBackModel", "puts", "(I)V"⟩, prog_9_method_15_code, 2, none), (7, ⟨"ThrownBackModel", "unwinds", "(I)V"⟩, prog_9_method_16_code, 3, none), (7, ⟨"ThrownBackModel", "holds", "(I)V"⟩, prog_9_method_17_code, 2, none)]
def mtl_5 : List mE := [(7, ⟨"ThrownBackModel", "opensOne", "(I)Z"⟩, prog_9_method_18_code, 2, (some .boolean)), (7, ⟨"ThrownBackModel", "between", "(I)Z"⟩, prog_9_method_19_code, 2, (some .boolean)), (7, ⟨"ThrownBackModel", "signOf", "()I"⟩, prog_9_method_20_code, 1, (some .int)), (7, ⟨"ThrownBackModel", "eRead", "()Z"⟩, prog_9_method_21_code, 4, (some .boolean)), (7, ⟨"ThrownBackModel", "text", "()I"⟩, prog_9_method_22_code, 3, (some .int)), (7, ⟨"ThrownBackModel", "two", "(III)I"⟩, prog_9_method_23_code, 3, (some .int)), (7, ⟨"ThrownBackModel", "says", "(I)I"⟩, prog_9_method_24_code, 5, (some .int)), (7, ⟨"ThrownBackModel", "force", "(I)I"⟩, prog_9_method_25_code, 3, (some .int)), (7, ⟨"ThrownBackModel", "asksOf", "(III)I"⟩, prog_9_method_26_code, 4, (some .int)), (7, ⟨"ThrownBackModel", "asks", "(III)I"⟩, prog_9_method_27_code, 4, (some .int)), (7, ⟨"ThrownBackModel", "owner", "(II)I"⟩, prog_9_method_28_code, 4, (some .int)), (7, ⟨"ThrownBackModel", "mostOf", "(I)I"⟩, prog_9_method_29_code, 1, (some .int)), (7, ⟨"ThrownBackModel", "put", "(III)I"⟩, prog_9_method_30_code, 5, (some .int)), (7, ⟨"ThrownBackModel", "told", "(II)I"⟩, prog_9_method_31_code, 3, (some .int)), (7, ⟨"ThrownBackModel", "pass", "(II)I"⟩, prog_9_method_32_code, 3, (some .int)), (7, ⟨"ThrownBackModel", "move", "(III)I"⟩, prog_9_method_33_code, 5, (some .int)), (7, ⟨"ThrownBackModel", "comes", "(I)I"⟩, prog_9_method_34_code, 2, (some .int)), (7, ⟨"ThrownBackModel", "takesOf", "(I)I"⟩, prog_9_method_35_code, 3, (some .int)), (7, ⟨"ThrownBackModel", "throwsBack", "(I)Z"⟩, prog_9_method_36_code, 3, (some .boolean)), (7, ⟨"ThrownBackModel", "comesNow", "(I)Z"⟩, prog_9_method_37_code, 5, (some .boolean)), (7, ⟨"ThrownBackModel", "held", "(I)I"⟩, prog_9_method_38_code, 1, (some .int)), (7, ⟨"ThrownBackModel", "passBy", "(I)V"⟩, prog_9_method_39_code, 7, none), (7, ⟨"ThrownBackModel", "shovel", "(I)V"⟩, prog_9_method_40_code, 3, none), (7, ⟨"ThrownBackModel", "hourOf", "()V"⟩, prog_9_method_41_code, 3, none), (7, ⟨"ThrownBackModel", "begins", "()V"⟩, prog_9_method_42_code, 2, none), (7, ⟨"ThrownBackModel", "minutesAll", "()I"⟩, prog_9_method_43_code, 3, (some .int)), (7, ⟨"ThrownBackModel", "blockedAll", "()I"⟩, prog_9_method_44_code, 3, (some .int)), (7, ⟨"ThrownBackModel", "mostMinutes", "()I"⟩, prog_9_method_45_code, 3, (some .int)), (7, ⟨"ThrownBackModel", "live", "()I"⟩, prog_9_method_46_code, 1, (some .int)), (7, ⟨"ThrownBackModel", "keeps", "()V"⟩, prog_9_method_47_code, 2, none)]
def mtl_6 : List mE := [(7, ⟨"ThrownBackModel", "laysBack", "()V"⟩, prog_9_method_48_code, 2, none), (7, ⟨"ThrownBackModel", "goes", "(I)V"⟩, prog_9_method_49_code, 3, none), (7, ⟨"ThrownBackModel", "mostOwner", "()I"⟩, prog_9_method_50_code, 4, (some .int)), (7, ⟨"ThrownBackModel", "toldRun", "(I)I"⟩, prog_9_method_51_code, 2, (some .int)), (7, ⟨"ThrownBackModel", "run", "(II)I"⟩, prog_9_method_52_code, 3, (some .int)), (7, ⟨"ThrownBackModel", "isGoal", "(I)Z"⟩, prog_9_method_53_code, 1, (some .boolean)), (7, ⟨"ThrownBackModel", "when", "(III)I"⟩, prog_9_method_54_code, 10, (some .int)), (7, ⟨"ThrownBackModel", "dig", "(III)I"⟩, prog_9_method_55_code, 7, (some .int)), (7, ⟨"ThrownBackModel", "blade", "(II)I"⟩, prog_9_method_56_code, 8, (some .int)), (7, ⟨"ThrownBackModel", "sides", "(II)I"⟩, prog_9_method_57_code, 8, (some .int)), (7, ⟨"ThrownBackModel", "gains", "(III)I"⟩, prog_9_method_58_code, 7, (some .int)), (7, ⟨"ThrownBackModel", "helps", "(III)I"⟩, prog_9_method_59_code, 11, (some .int)), (7, ⟨"ThrownBackModel", "sheetWrong", "(I)I"⟩, prog_9_method_60_code, 2, (some .int)), (7, ⟨"ThrownBackModel", "toldWrong", "(II)I"⟩, prog_9_method_61_code, 4, (some .int)), (7, ⟨"ThrownBackModel", "unlike", "(II)I"⟩, prog_9_method_62_code, 4, (some .int)), (7, ⟨"ThrownBackModel", "judge", "(II)I"⟩, prog_9_method_63_code, 4, (some .int)), (7, ⟨"ThrownBackModel", "kinds", "(IIII)I"⟩, prog_9_method_64_code, 11, (some .int)), (7, ⟨"ThrownBackModel", "hours", "(II)I"⟩, prog_9_method_65_code, 8, (some .int)), (7, ⟨"ThrownBackModel", "laws", "(II)I"⟩, prog_9_method_66_code, 7, (some .int)), (7, ⟨"ThrownBackModel", "film", "(II)I"⟩, prog_9_method_67_code, 4, (some .int)), (7, ⟨"ThrownBackModel", "winter", "(III)V"⟩, prog_9_method_68_code, 8, none), (7, ⟨"ThrownBackModel", "drawn", "(III)I"⟩, prog_9_method_69_code, 4, (some .int)), (7, ⟨"ThrownBackModel", "lowest", "(JJI)J"⟩, prog_9_method_70_code, 11, (some .long)), (7, ⟨"ThrownBackModel", "odds", "(IIIII)J"⟩, prog_9_method_71_code, 10, (some .long)), (7, ⟨"ThrownBackModel", "image", "()I"⟩, prog_9_method_72_code, 2, (some .int)), (7, ⟨"ThrownBackModel", "back", "()I"⟩, prog_9_method_73_code, 2, (some .int)), (7, ⟨"ThrownBackModel", "sheet", "(III)I"⟩, prog_9_method_74_code, 5, (some .int)), (7, ⟨"ThrownBackModel", "cell", "(III)I"⟩, prog_9_method_75_code, 4, (some .int)), (7, ⟨"ThrownBackModel", "copy", "(IIIII)I"⟩, prog_9_method_76_code, 10, (some .int)), (7, ⟨"ThrownBackModel", "ownersBy", "(IIII)I"⟩, prog_9_method_77_code, 9, (some .int))]
def mtl_7 : List mE := [(7, ⟨"ThrownBackModel", "isUnder", "(II)Z"⟩, prog_9_method_78_code, 2, (some .boolean)), (7, ⟨"ThrownBackModel", "taken", "(II)J"⟩, prog_9_method_79_code, 4, (some .long))]
def mtl : List mE := mtl_0 ++ (mtl_1 ++ (mtl_2 ++ (mtl_3 ++ (mtl_4 ++ (mtl_5 ++ (mtl_6 ++ (mtl_7)))))))
def mte (y : Nat) : mE := mtl.getD y (0, ⟨"", "", ""⟩, .empty, 0, none)
def mow (y : Nat) : Nat := (mte y).1
def myn (y : Nat) : MethodName := (mte y).2.1
def bt (y : Nat) : ByteArray := (mte y).2.2.1
def mml (y : Nat) : Nat := (mte y).2.2.2.1
def mrt (y : Nat) : Option FieldType := (mte y).2.2.2.2
abbrev lE : Type := Nat × Nat × Nat × Nat
def lkl_0 : List lE := [(3, 8, 0, 0), (9, 1, 0, 0), (15, 1, 0, 1), (18, 1, 0, 2), (21, 1, 0, 3), (25, 5, 20, 1), (29, 5, 21, 3), (33, 5, 14, 2), (39, 5, 13, 2)]
def lkl_1 : List lE := [(1, 8, 0, 0), (7, 1, 1, 0), (13, 13, 48271, 0), (15, 13, 2147483647, 0)]
def lkl_2 : List lE := [(3, 8, 0, 0), (9, 1, 2, 0), (15, 1, 2, 1), (18, 1, 2, 5), (21, 1, 2, 2), (24, 1, 2, 3), (27, 1, 2, 4), (30, 1, 2, 6), (33, 5, 14, 2), (39, 3, 1, 0), (43, 5, 13, 2)]
def lkl_3 : List lE := [(3, 8, 0, 0), (9, 1, 3, 0), (15, 1, 3, 1), (19, 1, 3, 6), (23, 4, 16, 0), (28, 1, 3, 2), (31, 4, 47, 0), (34, 4, 39, 1), (38, 1, 3, 3), (41, 1, 3, 4), (44, 4, 40, 2), (48, 4, 18, 1), (52, 4, 41, 2), (55, 4, 42, 1), (58, 4, 43, 0), (62, 4, 17, 1), (65, 4, 44, 1), (68, 4, 45, 1), (71, 1, 3, 5), (74, 4, 46, 1), (77, 5, 52, 1), (80, 5, 53, 1), (83, 4, 48, 0), (86, 5, 54, 1), (89, 4, 50, 0), (92, 4, 51, 0), (95, 14, 1004, 0), (97, 15, 1, 0), (102, 15, 2, 1), (106, 4, 49, 2), (109, 14, 1005, 0), (111, 15, 3, 1)]
def lkl_4 : List lE := [(3, 8, 0, 0), (9, 11, 2, 0), (11, 1, 4, 0), (17, 1, 4, 2), (21, 1, 4, 3), (24, 1, 4, 4), (27, 1, 4, 7), (33, 1, 4, 10), (36, 7, 25, 0), (37, 1, 4, 1), (40, 1, 4, 5), (43, 4, 26, 3), (47, 4, 27, 1), (51, 9, 0, 0), (57, 1, 4, 6), (60, 1, 4, 8), (63, 4, 62, 0), (66, 1, 4, 9), (69, 1, 2, 7), (72, 1, 2, 8), (75, 4, 24, 1), (81, 5, 14, 2), (87, 4, 65, 1), (91, 4, 66, 2), (95, 1, 2, 2), (98, 4, 34, 1), (102, 4, 67, 2), (105, 4, 69, 4), (109, 4, 19, 2), (113, 4, 56, 1), (116, 1, 2, 6), (119, 1, 2, 1), (122, 1, 2, 3), (125, 4, 30, 1), (128, 4, 32, 1), (131, 4, 33, 0), (135, 4, 71, 0), (139, 4, 72, 0), (142, 4, 74, 0), (145, 4, 75, 0), (148, 5, 13, 2), (151, 1, 5, 2)]
def lkl_5 : List lE := [(3, 8, 0, 0), (9, 1, 5, 0), (15, 1, 5, 2), (19, 1, 5, 1)]
def lkl_6 : List lE := [(1, 8, 0, 0), (7, 10, 4, 11), (9, 6, 55, 0), (10, 1, 6, 0), (16, 1, 6, 1), (19, 1, 6, 2), (22, 10, 3, 7), (24, 7, 35, 0), (25, 1, 6, 4), (29, 11, 0, 0), (31, 1, 6, 5), (35, 11, 5, 0), (37, 1, 6, 7), (41, 10, 1, 1), (43, 7, 22, 0), (44, 1, 6, 8), (48, 7, 15, 0), (49, 7, 77, 0), (50, 14, 1003, 0), (52, 15, 1, 0), (58, 15, 2, 1), (62, 4, 36, 1), (66, 4, 38, 1), (70, 4, 37, 0), (73, 1, 6, 6), (77, 1, 4, 1), (80, 1, 4, 5), (83, 1, 4, 6), (86, 1, 4, 7), (89, 1, 4, 8), (92, 1, 3, 1), (95, 5, 126, 2), (99, 5, 127, 1), (103, 4, 56, 1), (106, 4, 68, 4), (110, 5, 128, 1), (113, 4, 58, 3), (117, 3, 0, 0), (121, 1, 4, 0), (125, 4, 28, 1), (131, 4, 29, 2), (135, 1, 4, 2), (138, 5, 129, 1), (141, 4, 59, 2), (145, 4, 57, 1), (148, 4, 95, 1), (151, 1, 4, 3), (154, 1, 4, 4), (157, 4, 62, 0), (160, 4, 64, 1), (164, 4, 71, 0), (167, 5, 130, 1), (170, 5, 131, 1), (173, 5, 98, 1), (176, 4, 122, 0), (179, 4, 123, 1), (182, 4, 70, 1), (185, 1, 2, 7), (188, 1, 2, 8), (191, 1, 2, 2), (194, 5, 132, 1), (197, 12, 2147483647, 0), (198, 4, 124, 4), (202, 4, 60, 1), (205, 4, 72, 0), (208, 4, 73, 0), (211, 12, 4293967291, 0), (212, 12, 4293967289, 0), (213, 4, 105, 3), (216, 1, 2, 0), (219, 1, 2, 1), (222, 4, 111, 1), (225, 4, 76, 1), (229, 5, 133, 1), (232, 4, 79, 2), (235, 4, 82, 2), (238, 4, 78, 0), (242, 1, 5, 1), (243, 12, 99999, 0), (244, 4, 125, 3), (248, 13, 13835058055282163712, 0), (250, 5, 114, 2), (253, 4, 61, 1), (257, 1, 6, 3), (261, 4, 80, 1), (264, 1, 5, 0), (267, 4, 81, 2), (270, 1, 5, 2), (273, 9, 0, 0), (279, 4, 90, 2), (282, 13, 18446744073709551614, 0), (284, 13, 18446744073709551604, 0), (286, 13, 18446744073709551603, 0), (288, 13, 18446744073709551605, 0), (290, 4, 31, 1), (293, 4, 23, 1), (295, 4, 63, 2)]
def lkl_7 : List lE := [(1, 8, 0, 0), (7, 1, 7, 1), (13, 1, 7, 2), (16, 1, 7, 3), (19, 1, 7, 4), (22, 1, 7, 6), (25, 1, 7, 7), (28, 1, 7, 9), (32, 1, 7, 10), (35, 1, 7, 12), (38, 1, 7, 13), (41, 1, 7, 17), (44, 1, 7, 18), (47, 1, 7, 19), (50, 1, 7, 20), (53, 1, 7, 21), (56, 1, 7, 22), (59, 1, 7, 27), (62, 1, 7, 28), (65, 1, 7, 32), (68, 1, 7, 33), (71, 1, 7, 35), (74, 1, 7, 36), (77, 1, 7, 37), (80, 1, 7, 39), (83, 1, 7, 41), (86, 1, 7, 11), (89, 4, 154, 0), (93, 1, 7, 0), (96, 5, 135, 3), (100, 1, 7, 5), (103, 1, 7, 8), (106, 1, 7, 14), (109, 1, 7, 15), (112, 5, 142, 1), (116, 1, 7, 23), (119, 1, 7, 24), (122, 1, 7, 25), (125, 1, 7, 26), (128, 4, 144, 2), (132, 1, 7, 31), (135, 1, 7, 29), (138, 5, 146, 1), (142, 1, 7, 30), (145, 4, 147, 1), (149, 4, 149, 1), (152, 4, 148, 1), (155, 4, 145, 0), (158, 12, 100000, 0), (159, 4, 150, 1), (162, 4, 152, 0), (165, 4, 151, 1), (168, 4, 153, 0), (172, 5, 155, 3), (176, 5, 136, 3), (179, 4, 156, 1), (182, 4, 137, 1), (185, 4, 158, 3), (188, 5, 161, 1), (191, 4, 138, 1), (194, 4, 166, 1), (197, 5, 170, 1), (199, 1, 7, 34), (202, 4, 167, 1), (205, 4, 168, 1), (208, 4, 171, 1), (211, 4, 169, 1), (214, 4, 172, 1), (217, 4, 174, 0), (220, 4, 173, 0), (223, 4, 175, 0), (226, 1, 7, 38), (229, 1, 7, 40), (232, 4, 179, 0), (235, 4, 180, 0), (238, 4, 176, 0), (241, 4, 182, 0), (244, 5, 139, 1), (247, 4, 181, 1), (250, 4, 183, 1), (253, 5, 185, 1), (256, 4, 177, 0), (259, 12, 4293967291, 0), (260, 12, 4293967289, 0), (261, 4, 192, 1), (264, 4, 193, 2), (267, 4, 194, 2), (270, 13, 48271, 0), (272, 13, 2147483647, 0), (274, 12, 99999, 0), (275, 4, 200, 3), (279, 13, 13835058055282163712, 0), (281, 5, 202, 3), (285, 1, 7, 16), (289, 4, 160, 2), (292, 13, 18446744073709551614, 0), (294, 13, 18446744073709551604, 0), (296, 13, 18446744073709551603, 0), (298, 13, 18446744073709551605, 0), (300, 5, 210, 2)]
def lkl_8 : List lE := [(9, 16, 0, 0), (15, 16, 1, 0), (38, 3, 2, 0), (335, 15, 5, 0), (492, 15, 6, 0), (495, 5, 8, 2), (505, 15, 1, 0), (633, 15, 4, 2), (637, 5, 10, 4), (1053, 3, 3, 0), (1059, 5, 12, 3)]
def lkl_9 : List lE := [(7, 10, 6, 9), (9, 6, 83, 0), (10, 10, 7, 42), (12, 6, 134, 0), (13, 4, 84, 1), (17, 4, 140, 1), (18, 4, 85, 2), (22, 4, 141, 2), (23, 4, 86, 6), (27, 4, 143, 6), (28, 4, 87, 0), (32, 4, 154, 0), (33, 4, 88, 1), (36, 4, 157, 1), (37, 4, 89, 3), (41, 4, 159, 3), (42, 4, 90, 2), (45, 4, 160, 2), (46, 4, 91, 3), (49, 4, 162, 3), (50, 4, 92, 2), (53, 4, 163, 2), (54, 4, 93, 2), (57, 4, 164, 2), (58, 4, 94, 3), (61, 4, 165, 3), (62, 4, 95, 1), (65, 4, 166, 1), (66, 4, 96, 0), (69, 4, 178, 0), (70, 4, 97, 2), (73, 4, 184, 2), (74, 4, 99, 3), (77, 4, 186, 3), (78, 4, 100, 3), (81, 4, 187, 3), (82, 4, 101, 2), (85, 4, 188, 2), (86, 4, 102, 2), (89, 4, 189, 2), (90, 4, 103, 3), (93, 4, 190, 3), (94, 4, 104, 3), (97, 4, 191, 3), (98, 4, 106, 2), (101, 4, 195, 2), (102, 4, 107, 4), (106, 4, 196, 4), (107, 4, 108, 2), (110, 4, 197, 2), (111, 4, 109, 2), (114, 4, 198, 2), (115, 4, 110, 2), (118, 4, 199, 2), (119, 4, 112, 3), (122, 4, 201, 3), (123, 4, 113, 5), (127, 4, 203, 5), (128, 4, 115, 0), (131, 4, 204, 0), (132, 4, 116, 0), (135, 4, 205, 0), (136, 4, 117, 3), (139, 4, 206, 3), (140, 4, 118, 3), (143, 4, 207, 3), (144, 4, 119, 5), (148, 4, 208, 5), (149, 4, 120, 4), (152, 4, 209, 4), (153, 4, 121, 2), (157, 4, 211, 2)]
def lkl_10 : List lE := [(9, 5, 7, 2), (38, 5, 14, 2), (88, 5, 9, 1), (92, 5, 13, 2), (95, 5, 11, 4)]
def lkl (c : Nat) : List lE := match c with
  | 0 => lkl_0
  | 1 => lkl_1
  | 2 => lkl_2
  | 3 => lkl_3
  | 4 => lkl_4
  | 5 => lkl_5
  | 6 => lkl_6
  | 7 => lkl_7
  | 8 => lkl_8
  | 9 => lkl_9
  | 10 => lkl_10
  | _ => []
def lk (c i : Nat) : Nat × Nat × Nat := match (lkl c).find? (fun e => e.1 == i) with
  | some e => e.2
  | none => (0, 0, 0)
def stn (a : Nat) : String × String × String := match a with
  | 0 => ("ThrownBack", "MOST_PUT", "[I")
  | 1 => ("ThrownBack$Owner", "KIND_ABOVE", "[I")
  | 2 => ("java/lang/String", "COMPACT_STRINGS", "Z")
  | _ => ("jdk/internal/util/Preconditions", "SIOOBE_FORMATTER", "Ljava/util/function/BiFunction;")
def sfn (a : Nat) : String × String := match a with
  | 0 => ("value", "[B")
  | _ => ("coder", "B")
def cwd (z : Nat) : Cond := .code (myn z) (bt z) (mml z) (mrt z)
/-- the words that a link's use needs -/
def lw (c : Nat) (e : lE) : List Cond := match e with
  | (i, 1, a, b) => [.fieldLink (cn c) i (nTT a b).1 (nTT a b).2.1 (nTT a b).2.2.1]
  | (i, 16, a, _) => [.fieldLink (cn c) i "java/lang/String" (sfn a).1 (sfn a).2]
  | (i, 3, a, _) => [.fieldLink (cn c) i (stn a).1 (stn a).2.1 (stn a).2.2]
  | (i, 4, z, _) => [.methodLink (cn c) i (myn z), .instanceMethod (myn z), .selects (myn z).cls (myn z) (myn z), .initialized (myn z).cls]
  | (i, 15, z, _) => [.methodLink (cn c) i (myn z), .instanceMethod (myn z), .selects (myn z).cls (myn z) (myn z), .initialized (myn z).cls]
  | (i, 5, z, _) => [.methodLink (cn c) i (myn z), .static (myn z), .initialized (myn z).cls]
  | (i, 6, z, _) => [.methodLink (cn c) i (myn z), .instanceMethod (myn z), .initialized (myn z).cls]
  | (_, 7, z, _) => [.instanceMethod (myn z), .initialized (myn z).cls]
  | (i, 8, _, _) => [.methodLink (cn c) i Lib.objectInit, .instanceMethod Lib.objectInit]
  | (i, 9, _, _) => [.methodLink (cn c) i arraycopyName, .native arraycopyName, .static arraycopyName, .initialized "java/lang/System"]
  | (i, 10, a, b) => [.classLink (cn c) i (cn a), .instantiable (cn a) b, .initialized (cn a)]
  | (i, 11, a, _) => [.classLink (cn c) i (cn a)]
  | (i, 12, a, _) => [.constant (cn c) i (Int32.ofNat a)]
  | (i, 13, a, _) => [.constantLong (cn c) i (Int64.ofNat a)]
  | _ => []
/-- the tables' words that stay true -/
def WS : List Cond := lw_tbl.filter goodWord
theorem ws_of (ws : List Cond) (ps : List Nat) (hp : ps.mapM (fun i => lw_tbl[i]?) = some ws) (h : ws.all goodWord = true) : ∀ w ∈ ws, w ∈ WS := by
  intro w hw
  refine List.mem_filter.mpr ⟨?_, List.all_eq_true.mp h w hw⟩
  have key : ∀ (ps : List Nat) (ws : List Cond), ps.mapM (fun i => lw_tbl[i]?) = some ws → ∀ w ∈ ws, w ∈ lw_tbl := by
    intro ps
    induction ps with
    | nil => intro ws h w hw; simp at h; subst h; simp at hw
    | cons a l ih =>
      intro ws h w hw
      rw [List.mapM_cons] at h
      cases ha : lw_tbl[a]? with
      | none => simp [ha] at h
      | some x =>
        cases hl : l.mapM (fun i => lw_tbl[i]?) with
        | none => simp [ha, hl] at h
        | some xs =>
          simp [ha, hl] at h
          subst h
          rcases List.mem_cons.mp hw with h1 | h1
          · subst h1; exact List.mem_of_getElem? ha
          · exact ih xs hl w h1
  exact key ps ws hp w hw
def lkc_0_0 : List lE := [(3, 8, 0, 0), (9, 1, 0, 0), (15, 1, 0, 1), (18, 1, 0, 2), (21, 1, 0, 3), (25, 5, 20, 1), (29, 5, 21, 3), (33, 5, 14, 2), (39, 5, 13, 2)]
set_option maxRecDepth 20000 in
theorem lkw_0_0 : ∀ w ∈ lkc_0_0.flatMap (lw 0), w ∈ WS := ws_of _ [222, 79, 223, 224, 225, 226, 527, 528, 63, 530, 531, 63, 533, 368, 69, 534, 365, 69] (by decide +kernel) (by decide +kernel)
theorem lkw_0 : ∀ e ∈ lkl_0, ∀ w ∈ lw 0 e, w ∈ WS := by
  have h : lkl_0 = lkc_0_0 := by decide +kernel
  intro e he w hw
  rw [h] at he
  exact lkw_0_0 w (List.mem_flatMap.mpr ⟨e, he, hw⟩)
def lkc_1_0 : List lE := [(1, 8, 0, 0), (7, 1, 1, 0), (13, 13, 48271, 0), (15, 13, 2147483647, 0)]
set_option maxRecDepth 20000 in
theorem lkw_1_0 : ∀ w ∈ lkc_1_0.flatMap (lw 1), w ∈ WS := ws_of _ [213, 79, 214, 802, 803] (by decide +kernel) (by decide +kernel)
theorem lkw_1 : ∀ e ∈ lkl_1, ∀ w ∈ lw 1 e, w ∈ WS := by
  have h : lkl_1 = lkc_1_0 := by decide +kernel
  intro e he w hw
  rw [h] at he
  exact lkw_1_0 w (List.mem_flatMap.mpr ⟨e, he, hw⟩)
def lkc_2_0 : List lE := [(3, 8, 0, 0), (9, 1, 2, 0), (15, 1, 2, 1), (18, 1, 2, 5), (21, 1, 2, 2), (24, 1, 2, 3), (27, 1, 2, 4), (30, 1, 2, 6), (33, 5, 14, 2), (39, 3, 1, 0), (43, 5, 13, 2)]
set_option maxRecDepth 20000 in
theorem lkw_2_0 : ∀ w ∈ lkc_2_0.flatMap (lw 2), w ∈ WS := ws_of _ [93, 79, 94, 96, 105, 99, 102, 104, 106, 618, 368, 69, 858, 631, 365, 69] (by decide +kernel) (by decide +kernel)
theorem lkw_2 : ∀ e ∈ lkl_2, ∀ w ∈ lw 2 e, w ∈ WS := by
  have h : lkl_2 = lkc_2_0 := by decide +kernel
  intro e he w hw
  rw [h] at he
  exact lkw_2_0 w (List.mem_flatMap.mpr ⟨e, he, hw⟩)
def lkc_3_0 : List lE := [(3, 8, 0, 0), (9, 1, 3, 0), (15, 1, 3, 1), (19, 1, 3, 6), (23, 4, 16, 0), (28, 1, 3, 2), (31, 4, 47, 0), (34, 4, 39, 1), (38, 1, 3, 3), (41, 1, 3, 4), (44, 4, 40, 2), (48, 4, 18, 1), (52, 4, 41, 2), (55, 4, 42, 1), (58, 4, 43, 0), (62, 4, 17, 1), (65, 4, 44, 1), (68, 4, 45, 1), (71, 1, 3, 5), (74, 4, 46, 1), (77, 5, 52, 1), (80, 5, 53, 1), (83, 4, 48, 0), (86, 5, 54, 1), (89, 4, 50, 0)]
set_option maxRecDepth 20000 in
theorem lkw_3_0 : ∀ w ∈ lkc_3_0.flatMap (lw 3), w ∈ WS := ws_of _ [180, 79, 181, 182, 188, 312, 313, 314, 63, 184, 316, 318, 0, 61, 408, 410, 5, 61, 185, 186, 412, 414, 6, 61, 444, 445, 446, 63, 416, 418, 7, 61, 440, 442, 12, 61, 428, 430, 9, 61, 424, 425, 426, 63, 420, 422, 8, 61, 432, 434, 10, 61, 187, 436, 438, 11, 61, 320, 321, 61, 323, 324, 61, 326, 328, 1, 61, 337, 338, 61, 340, 342, 3, 61] (by decide +kernel) (by decide +kernel)
def lkc_3_1 : List lE := [(92, 4, 51, 0), (95, 14, 1004, 0), (97, 15, 1, 0), (102, 15, 2, 1), (106, 4, 49, 2), (109, 14, 1005, 0), (111, 15, 3, 1)]
set_option maxRecDepth 20000 in
theorem lkw_3_1 : ∀ w ∈ lkc_3_1.flatMap (lw 3), w ∈ WS := ws_of _ [344, 346, 4, 61, 331, 257, 258, 65, 332, 267, 268, 65, 333, 335, 2, 61, 349, 350, 351, 65] (by decide +kernel) (by decide +kernel)
theorem lkw_3 : ∀ e ∈ lkl_3, ∀ w ∈ lw 3 e, w ∈ WS := by
  have h : lkl_3 = lkc_3_0 ++ (lkc_3_1) := by decide +kernel
  intro e he w hw
  rw [h] at he
  simp only [List.mem_append] at he
  rcases he with he | he
  · exact lkw_3_0 w (List.mem_flatMap.mpr ⟨e, he, hw⟩)
  · exact lkw_3_1 w (List.mem_flatMap.mpr ⟨e, he, hw⟩)
def lkc_4_0 : List lE := [(3, 8, 0, 0), (9, 11, 2, 0), (11, 1, 4, 0), (17, 1, 4, 2), (21, 1, 4, 3), (24, 1, 4, 4), (27, 1, 4, 7), (33, 1, 4, 10), (36, 7, 25, 0), (37, 1, 4, 1), (40, 1, 4, 5), (43, 4, 26, 3), (47, 4, 27, 1), (51, 9, 0, 0), (57, 1, 4, 6), (60, 1, 4, 8), (63, 4, 62, 0), (66, 1, 4, 9), (69, 1, 2, 7), (72, 1, 2, 8), (75, 4, 24, 1), (81, 5, 14, 2), (87, 4, 65, 1), (91, 4, 66, 2), (95, 1, 2, 2)]
set_option maxRecDepth 20000 in
theorem lkw_4_0 : ∀ w ∈ lkc_4_0.flatMap (lw 4), w ∈ WS := ws_of _ [86, 79, 87, 132, 136, 138, 140, 146, 151, 91, 60, 134, 143, 546, 547, 548, 60, 661, 662, 663, 60, 665, 667, 666, 72, 145, 149, 668, 597, 598, 59, 150, 108, 110, 798, 799, 800, 62, 608, 368, 69, 604, 606, 14, 59, 609, 611, 15, 59, 100] (by decide +kernel) (by decide +kernel)
def lkc_4_1 : List lE := [(98, 4, 34, 1), (102, 4, 67, 2), (105, 4, 69, 4), (109, 4, 19, 2), (113, 4, 56, 1), (116, 1, 2, 6), (119, 1, 2, 1), (122, 1, 2, 3), (125, 4, 30, 1), (128, 4, 32, 1), (131, 4, 33, 0), (135, 4, 71, 0), (139, 4, 72, 0), (142, 4, 74, 0), (145, 4, 75, 0), (148, 5, 13, 2), (151, 1, 5, 2)]
set_option maxRecDepth 20000 in
theorem lkw_4_1 : ∀ w ∈ lkc_4_1.flatMap (lw 4), w ∈ WS := ws_of _ [619, 620, 621, 60, 623, 625, 16, 59, 519, 521, 13, 59, 523, 524, 525, 63, 613, 512, 513, 59, 107, 97, 103, 614, 615, 616, 60, 627, 628, 629, 60, 632, 633, 634, 60, 677, 637, 638, 59, 678, 679, 680, 59, 682, 684, 19, 59, 687, 689, 20, 59, 686, 365, 69, 246] (by decide +kernel) (by decide +kernel)
theorem lkw_4 : ∀ e ∈ lkl_4, ∀ w ∈ lw 4 e, w ∈ WS := by
  have h : lkl_4 = lkc_4_0 ++ (lkc_4_1) := by decide +kernel
  intro e he w hw
  rw [h] at he
  simp only [List.mem_append] at he
  rcases he with he | he
  · exact lkw_4_0 w (List.mem_flatMap.mpr ⟨e, he, hw⟩)
  · exact lkw_4_1 w (List.mem_flatMap.mpr ⟨e, he, hw⟩)
def lkc_5_0 : List lE := [(3, 8, 0, 0), (9, 1, 5, 0), (15, 1, 5, 2), (19, 1, 5, 1)]
set_option maxRecDepth 20000 in
theorem lkw_5_0 : ∀ w ∈ lkc_5_0.flatMap (lw 5), w ∈ WS := ws_of _ [240, 79, 241, 245, 243] (by decide +kernel) (by decide +kernel)
theorem lkw_5 : ∀ e ∈ lkl_5, ∀ w ∈ lw 5 e, w ∈ WS := by
  have h : lkl_5 = lkc_5_0 := by decide +kernel
  intro e he w hw
  rw [h] at he
  exact lkw_5_0 w (List.mem_flatMap.mpr ⟨e, he, hw⟩)
def lkc_6_0 : List lE := [(1, 8, 0, 0), (7, 10, 4, 11), (9, 6, 55, 0), (10, 1, 6, 0), (16, 1, 6, 1), (19, 1, 6, 2), (22, 10, 3, 7), (24, 7, 35, 0), (25, 1, 6, 4), (29, 11, 0, 0), (31, 1, 6, 5), (35, 11, 5, 0), (37, 1, 6, 7), (41, 10, 1, 1), (43, 7, 22, 0), (44, 1, 6, 8), (48, 7, 15, 0), (49, 7, 77, 0), (50, 14, 1003, 0), (52, 15, 1, 0), (58, 15, 2, 1), (62, 4, 36, 1), (66, 4, 38, 1), (70, 4, 37, 0), (73, 1, 6, 6)]
set_option maxRecDepth 20000 in
theorem lkw_6_0 : ∀ w ∈ lkc_6_0.flatMap (lw 6), w ∈ WS := ws_of _ [78, 79, 81, 82, 59, 83, 84, 59, 452, 453, 454, 175, 176, 61, 178, 61, 456, 204, 457, 206, 459, 208, 209, 62, 211, 62, 460, 220, 63, 238, 64, 256, 257, 258, 65, 266, 267, 268, 65, 304, 305, 306, 61, 308, 309, 310, 61, 448, 449, 450, 61, 458] (by decide +kernel) (by decide +kernel)
def lkc_6_1 : List lE := [(77, 1, 4, 1), (80, 1, 4, 5), (83, 1, 4, 6), (86, 1, 4, 7), (89, 1, 4, 8), (92, 1, 3, 1), (95, 5, 126, 2), (99, 5, 127, 1), (103, 4, 56, 1), (106, 4, 68, 4), (110, 5, 128, 1), (113, 4, 58, 3), (117, 3, 0, 0), (121, 1, 4, 0), (125, 4, 28, 1), (131, 4, 29, 2), (135, 1, 4, 2), (138, 5, 129, 1), (141, 4, 59, 2), (145, 4, 57, 1), (148, 4, 95, 1), (151, 1, 4, 3), (154, 1, 4, 4), (157, 4, 62, 0), (160, 4, 64, 1)]
set_option maxRecDepth 20000 in
theorem lkw_6_1 : ∀ w ∈ lkc_6_1.flatMap (lw 6), w ∈ WS := ws_of _ [135, 142, 144, 147, 148, 183, 489, 490, 58, 496, 497, 58, 511, 512, 513, 59, 515, 516, 517, 59, 539, 540, 58, 542, 543, 544, 59, 554, 133, 556, 557, 558, 60, 560, 561, 562, 60, 137, 572, 573, 58, 575, 576, 577, 59, 583, 584, 585, 59, 587, 588, 589, 58, 139, 141, 596, 597, 598, 59, 600, 601, 602, 59] (by decide +kernel) (by decide +kernel)
def lkc_6_2 : List lE := [(164, 4, 71, 0), (167, 5, 130, 1), (170, 5, 131, 1), (173, 5, 98, 1), (176, 4, 122, 0), (179, 4, 123, 1), (182, 4, 70, 1), (185, 1, 2, 7), (188, 1, 2, 8), (191, 1, 2, 2), (194, 5, 132, 1), (197, 12, 2147483647, 0), (198, 4, 124, 4), (202, 4, 60, 1), (205, 4, 72, 0), (208, 4, 73, 0), (211, 12, 4293967291, 0), (212, 12, 4293967289, 0), (213, 4, 105, 3), (216, 1, 2, 0), (219, 1, 2, 1), (222, 4, 111, 1), (225, 4, 76, 1), (229, 5, 133, 1), (232, 4, 79, 2)]
set_option maxRecDepth 20000 in
theorem lkw_6_2 : ∀ w ∈ lkc_6_2.flatMap (lw 6), w ∈ WS := ws_of _ [636, 637, 638, 59, 644, 645, 58, 647, 648, 58, 650, 651, 58, 653, 655, 17, 58, 669, 671, 18, 58, 673, 674, 675, 59, 109, 111, 101, 695, 696, 58, 698, 699, 701, 21, 58, 715, 716, 717, 59, 719, 679, 680, 59, 720, 721, 722, 59, 728, 729, 734, 736, 22, 58, 95, 98, 742, 744, 23, 58, 753, 754, 755, 59, 746, 747, 58, 773, 774, 775, 64] (by decide +kernel) (by decide +kernel)
def lkc_6_3 : List lE := [(235, 4, 82, 2), (238, 4, 78, 0), (242, 1, 5, 1), (243, 12, 99999, 0), (244, 4, 125, 3), (248, 13, 13835058055282163712, 0), (250, 5, 114, 2), (253, 4, 61, 1), (257, 1, 6, 3), (261, 4, 80, 1), (264, 1, 5, 0), (267, 4, 81, 2), (270, 1, 5, 2), (273, 9, 0, 0), (279, 4, 90, 2), (282, 13, 18446744073709551614, 0), (284, 13, 18446744073709551604, 0), (286, 13, 18446744073709551603, 0), (288, 13, 18446744073709551605, 0), (290, 4, 31, 1), (293, 4, 23, 1), (295, 4, 63, 2)]
set_option maxRecDepth 20000 in
theorem lkw_6_3 : ∀ w ∈ lkc_6_3.flatMap (lw 6), w ∈ WS := ws_of _ [777, 778, 779, 64, 749, 750, 751, 64, 244, 785, 786, 788, 24, 58, 808, 809, 810, 58, 657, 658, 659, 59, 455, 828, 829, 830, 64, 242, 836, 837, 838, 64, 247, 840, 667, 666, 72, 845, 536, 537, 58, 850, 851, 852, 853, 854, 855, 856, 60, 790, 791, 792, 62, 794, 795, 796, 59] (by decide +kernel) (by decide +kernel)
theorem lkw_6 : ∀ e ∈ lkl_6, ∀ w ∈ lw 6 e, w ∈ WS := by
  have h : lkl_6 = lkc_6_0 ++ (lkc_6_1 ++ (lkc_6_2 ++ (lkc_6_3))) := by decide +kernel
  intro e he w hw
  rw [h] at he
  simp only [List.mem_append] at he
  rcases he with he | he | he | he
  · exact lkw_6_0 w (List.mem_flatMap.mpr ⟨e, he, hw⟩)
  · exact lkw_6_1 w (List.mem_flatMap.mpr ⟨e, he, hw⟩)
  · exact lkw_6_2 w (List.mem_flatMap.mpr ⟨e, he, hw⟩)
  · exact lkw_6_3 w (List.mem_flatMap.mpr ⟨e, he, hw⟩)
def lkc_7_0 : List lE := [(1, 8, 0, 0), (7, 1, 7, 1), (13, 1, 7, 2), (16, 1, 7, 3), (19, 1, 7, 4), (22, 1, 7, 6), (25, 1, 7, 7), (28, 1, 7, 9), (32, 1, 7, 10), (35, 1, 7, 12), (38, 1, 7, 13), (41, 1, 7, 17), (44, 1, 7, 18), (47, 1, 7, 19), (50, 1, 7, 20), (53, 1, 7, 21), (56, 1, 7, 22), (59, 1, 7, 27), (62, 1, 7, 28), (65, 1, 7, 32), (68, 1, 7, 33), (71, 1, 7, 35), (74, 1, 7, 36), (77, 1, 7, 37), (80, 1, 7, 39)]
set_option maxRecDepth 20000 in
theorem lkw_7_0 : ∀ w ∈ lkc_7_0.flatMap (lw 7), w ∈ WS := ws_of _ [865, 79, 914, 915, 916, 917, 919, 920, 922, 923, 925, 926, 930, 931, 932, 933, 934, 935, 940, 941, 945, 946, 948, 949, 950, 952] (by decide +kernel) (by decide +kernel)
def lkc_7_1 : List lE := [(83, 1, 7, 41), (86, 1, 7, 11), (89, 4, 154, 0), (93, 1, 7, 0), (96, 5, 135, 3), (100, 1, 7, 5), (103, 1, 7, 8), (106, 1, 7, 14), (109, 1, 7, 15), (112, 5, 142, 1), (116, 1, 7, 23), (119, 1, 7, 24), (122, 1, 7, 25), (125, 1, 7, 26), (128, 4, 144, 2), (132, 1, 7, 31), (135, 1, 7, 29), (138, 5, 146, 1), (142, 1, 7, 30), (145, 4, 147, 1), (149, 4, 149, 1), (152, 4, 148, 1), (155, 4, 145, 0), (158, 12, 100000, 0), (159, 4, 150, 1)]
set_option maxRecDepth 20000 in
theorem lkw_7_1 : ∀ w ∈ lkc_7_1.flatMap (lw 7), w ∈ WS := ws_of _ [954, 924, 866, 867, 868, 71, 913, 874, 875, 71, 918, 921, 927, 928, 1052, 1053, 71, 936, 937, 938, 939, 877, 879, 26, 71, 944, 942, 894, 895, 71, 943, 886, 888, 28, 71, 901, 903, 31, 71, 890, 892, 29, 71, 870, 872, 25, 71, 885, 897, 899, 30, 71] (by decide +kernel) (by decide +kernel)
def lkc_7_2 : List lE := [(162, 4, 152, 0), (165, 4, 151, 1), (168, 4, 153, 0), (172, 5, 155, 3), (176, 5, 136, 3), (179, 4, 156, 1), (182, 4, 137, 1), (185, 4, 158, 3), (188, 5, 161, 1), (191, 4, 138, 1), (194, 4, 166, 1), (197, 5, 170, 1), (199, 1, 7, 34), (202, 4, 167, 1), (205, 4, 168, 1), (208, 4, 171, 1), (211, 4, 169, 1), (214, 4, 172, 1), (217, 4, 174, 0), (220, 4, 173, 0), (223, 4, 175, 0), (226, 1, 7, 38), (229, 1, 7, 40), (232, 4, 179, 0), (235, 4, 180, 0)]
set_option maxRecDepth 20000 in
theorem lkw_7_2 : ∀ w ∈ lkc_7_2.flatMap (lw 7), w ∈ WS := ws_of _ [905, 907, 32, 71, 909, 911, 33, 71, 881, 883, 27, 71, 1079, 1080, 71, 1072, 1073, 71, 1075, 1077, 36, 71, 1064, 1066, 34, 71, 1068, 1070, 35, 71, 1090, 1091, 71, 1105, 1107, 37, 71, 1109, 1110, 1111, 71, 1126, 1127, 71, 947, 1141, 1143, 43, 71, 1145, 1147, 44, 71, 1129, 1131, 40, 71, 1133, 1135, 41, 71, 1137, 1139, 42, 71, 1118, 1120, 38, 71, 1122, 1124, 39, 71, 1149, 1151, 45, 71, 951, 953, 1164, 1166, 47, 71, 1168, 1170, 48, 71] (by decide +kernel) (by decide +kernel)
def lkc_7_3 : List lE := [(238, 4, 176, 0), (241, 4, 182, 0), (244, 5, 139, 1), (247, 4, 181, 1), (250, 4, 183, 1), (253, 5, 185, 1), (256, 4, 177, 0), (259, 12, 4293967291, 0), (260, 12, 4293967289, 0), (261, 4, 192, 1), (264, 4, 193, 2), (267, 4, 194, 2), (270, 13, 48271, 0), (272, 13, 2147483647, 0), (274, 12, 99999, 0), (275, 4, 200, 3), (279, 13, 13835058055282163712, 0), (281, 5, 202, 3), (285, 1, 7, 16), (289, 4, 160, 2), (292, 13, 18446744073709551614, 0), (294, 13, 18446744073709551604, 0), (296, 13, 18446744073709551603, 0), (298, 13, 18446744073709551605, 0), (300, 5, 210, 2)]
set_option maxRecDepth 20000 in
theorem lkw_7_3 : ∀ w ∈ lkc_7_3.flatMap (lw 7), w ∈ WS := ws_of _ [1176, 1178, 50, 71, 1180, 1182, 51, 71, 1157, 1158, 71, 1160, 1162, 46, 71, 1172, 1174, 49, 71, 1188, 1189, 71, 1203, 1205, 52, 71, 1211, 1212, 1225, 1227, 54, 71, 1221, 1223, 53, 71, 1229, 1231, 55, 71, 1258, 1259, 1253, 1254, 1256, 56, 71, 1264, 1265, 1266, 71, 929, 1292, 1083, 1084, 71, 1297, 1298, 1299, 1300, 1301, 1302, 71] (by decide +kernel) (by decide +kernel)
theorem lkw_7 : ∀ e ∈ lkl_7, ∀ w ∈ lw 7 e, w ∈ WS := by
  have h : lkl_7 = lkc_7_0 ++ (lkc_7_1 ++ (lkc_7_2 ++ (lkc_7_3))) := by decide +kernel
  intro e he w hw
  rw [h] at he
  simp only [List.mem_append] at he
  rcases he with he | he | he | he
  · exact lkw_7_0 w (List.mem_flatMap.mpr ⟨e, he, hw⟩)
  · exact lkw_7_1 w (List.mem_flatMap.mpr ⟨e, he, hw⟩)
  · exact lkw_7_2 w (List.mem_flatMap.mpr ⟨e, he, hw⟩)
  · exact lkw_7_3 w (List.mem_flatMap.mpr ⟨e, he, hw⟩)
def lkc_8_0 : List lE := [(9, 16, 0, 0), (15, 16, 1, 0), (38, 3, 2, 0), (335, 15, 5, 0), (492, 15, 6, 0), (495, 5, 8, 2), (505, 15, 1, 0), (633, 15, 4, 2), (637, 5, 10, 4), (1053, 3, 3, 0), (1059, 5, 12, 3)]
set_option maxRecDepth 20000 in
theorem lkw_8_0 : ∀ w ∈ lkc_8_0.flatMap (lw 8), w ∈ WS := ws_of _ [1304, 1305, 264, 260, 261, 262, 65, 270, 271, 272, 65, 274, 275, 66, 357, 257, 258, 65, 353, 354, 355, 65, 358, 359, 66, 280, 282, 283, 67] (by decide +kernel) (by decide +kernel)
theorem lkw_8 : ∀ e ∈ lkl_8, ∀ w ∈ lw 8 e, w ∈ WS := by
  have h : lkl_8 = lkc_8_0 := by decide +kernel
  intro e he w hw
  rw [h] at he
  exact lkw_8_0 w (List.mem_flatMap.mpr ⟨e, he, hw⟩)
def lkc_9_0 : List lE := [(7, 10, 6, 9), (9, 6, 83, 0), (10, 10, 7, 42), (12, 6, 134, 0), (13, 4, 84, 1), (17, 4, 140, 1), (18, 4, 85, 2), (22, 4, 141, 2), (23, 4, 86, 6), (27, 4, 143, 6), (28, 4, 87, 0), (32, 4, 154, 0), (33, 4, 88, 1), (36, 4, 157, 1), (37, 4, 89, 3), (41, 4, 159, 3), (42, 4, 90, 2), (45, 4, 160, 2), (46, 4, 91, 3), (49, 4, 162, 3), (50, 4, 92, 2), (53, 4, 163, 2), (54, 4, 93, 2), (57, 4, 164, 2), (58, 4, 94, 3)]
set_option maxRecDepth 20000 in
theorem lkw_9_0 : ∀ w ∈ lkc_9_0.flatMap (lw 9), w ∈ WS := ws_of _ [73, 74, 58, 75, 76, 58, 860, 861, 71, 862, 863, 71, 481, 482, 483, 58, 1040, 1041, 1042, 71, 485, 486, 487, 58, 1044, 1045, 1046, 71, 492, 493, 494, 58, 1048, 1049, 1050, 71, 499, 500, 501, 58, 1055, 867, 868, 71, 503, 504, 505, 58, 1056, 1057, 1058, 71, 507, 508, 509, 58, 1060, 1061, 1062, 71, 535, 536, 537, 58, 1082, 1083, 1084, 71, 550, 551, 552, 58, 1086, 1087, 1088, 71, 564, 565, 566, 58, 1093, 1094, 1095, 71, 568, 569, 570, 58, 1097, 1098, 1099, 71, 579, 580, 581, 58] (by decide +kernel) (by decide +kernel)
def lkc_9_1 : List lE := [(61, 4, 165, 3), (62, 4, 95, 1), (65, 4, 166, 1), (66, 4, 96, 0), (69, 4, 178, 0), (70, 4, 97, 2), (73, 4, 184, 2), (74, 4, 99, 3), (77, 4, 186, 3), (78, 4, 100, 3), (81, 4, 187, 3), (82, 4, 101, 2), (85, 4, 188, 2), (86, 4, 102, 2), (89, 4, 189, 2), (90, 4, 103, 3), (93, 4, 190, 3), (94, 4, 104, 3), (97, 4, 191, 3), (98, 4, 106, 2), (101, 4, 195, 2), (102, 4, 107, 4), (106, 4, 196, 4), (107, 4, 108, 2), (110, 4, 197, 2)]
set_option maxRecDepth 20000 in
theorem lkw_9_1 : ∀ w ∈ lkc_9_1.flatMap (lw 9), w ∈ WS := ws_of _ [1101, 1102, 1103, 71, 591, 588, 589, 58, 1113, 1110, 1111, 71, 592, 593, 594, 58, 1114, 1115, 1116, 71, 640, 641, 642, 58, 1153, 1154, 1155, 71, 691, 692, 693, 58, 1184, 1185, 1186, 71, 703, 704, 705, 58, 1191, 1192, 1193, 71, 707, 708, 709, 58, 1195, 1196, 1197, 71, 711, 712, 713, 58, 1199, 1200, 1201, 71, 724, 725, 726, 58, 1207, 1208, 1209, 71, 730, 731, 732, 58, 1213, 1214, 1215, 71, 738, 739, 740, 58, 1217, 1218, 1219, 71, 757, 758, 759, 58, 1233, 1234, 1235, 71, 761, 762, 763, 58, 1237, 1238, 1239, 71] (by decide +kernel) (by decide +kernel)
def lkc_9_2 : List lE := [(111, 4, 109, 2), (114, 4, 198, 2), (115, 4, 110, 2), (118, 4, 199, 2), (119, 4, 112, 3), (122, 4, 201, 3), (123, 4, 113, 5), (127, 4, 203, 5), (128, 4, 115, 0), (131, 4, 204, 0), (132, 4, 116, 0), (135, 4, 205, 0), (136, 4, 117, 3), (139, 4, 206, 3), (140, 4, 118, 3), (143, 4, 207, 3), (144, 4, 119, 5), (148, 4, 208, 5), (149, 4, 120, 4), (152, 4, 209, 4), (153, 4, 121, 2), (157, 4, 211, 2)]
set_option maxRecDepth 20000 in
theorem lkw_9_2 : ∀ w ∈ lkc_9_2.flatMap (lw 9), w ∈ WS := ws_of _ [765, 766, 767, 58, 1241, 1242, 1243, 71, 769, 770, 771, 58, 1245, 1246, 1247, 71, 781, 782, 783, 58, 1249, 1250, 1251, 71, 804, 805, 806, 58, 1260, 1261, 1262, 71, 812, 813, 814, 58, 1268, 1269, 1270, 71, 816, 817, 818, 58, 1272, 1273, 1274, 71, 820, 821, 822, 58, 1276, 1277, 1278, 71, 824, 825, 826, 58, 1280, 1281, 1282, 71, 832, 833, 834, 58, 1284, 1285, 1286, 71, 841, 842, 843, 58, 1288, 1289, 1290, 71, 846, 847, 848, 58, 1293, 1294, 1295, 71] (by decide +kernel) (by decide +kernel)
theorem lkw_9 : ∀ e ∈ lkl_9, ∀ w ∈ lw 9 e, w ∈ WS := by
  have h : lkl_9 = lkc_9_0 ++ (lkc_9_1 ++ (lkc_9_2)) := by decide +kernel
  intro e he w hw
  rw [h] at he
  simp only [List.mem_append] at he
  rcases he with he | he | he
  · exact lkw_9_0 w (List.mem_flatMap.mpr ⟨e, he, hw⟩)
  · exact lkw_9_1 w (List.mem_flatMap.mpr ⟨e, he, hw⟩)
  · exact lkw_9_2 w (List.mem_flatMap.mpr ⟨e, he, hw⟩)
def lkc_10_0 : List lE := [(9, 5, 7, 2), (38, 5, 14, 2), (88, 5, 9, 1), (92, 5, 13, 2), (95, 5, 11, 4)]
set_option maxRecDepth 20000 in
theorem lkw_10_0 : ∀ w ∈ lkc_10_0.flatMap (lw 10), w ∈ WS := ws_of _ [277, 278, 65, 367, 368, 69, 361, 362, 66, 364, 365, 69, 370, 371, 66] (by decide +kernel) (by decide +kernel)
theorem lkw_10 : ∀ e ∈ lkl_10, ∀ w ∈ lw 10 e, w ∈ WS := by
  have h : lkl_10 = lkc_10_0 := by decide +kernel
  intro e he w hw
  rw [h] at he
  exact lkw_10_0 w (List.mem_flatMap.mpr ⟨e, he, hw⟩)
theorem lkw (c i : Nat) (hk : (lk c i).1 ≠ 0) : ∀ w ∈ lw c (i, lk c i), w ∈ WS := by
  have key : ∀ c : Nat, ∀ e ∈ lkl c, ∀ w ∈ lw c e, w ∈ WS := by
    intro c
    match c with
    | 0 => exact lkw_0
    | 1 => exact lkw_1
    | 2 => exact lkw_2
    | 3 => exact lkw_3
    | 4 => exact lkw_4
    | 5 => exact lkw_5
    | 6 => exact lkw_6
    | 7 => exact lkw_7
    | 8 => exact lkw_8
    | 9 => exact lkw_9
    | 10 => exact lkw_10
    | 11 => exact fun e he => absurd he List.not_mem_nil
    | 12 => exact fun e he => absurd he List.not_mem_nil
    | c + 13 => exact fun e he => absurd he List.not_mem_nil
  intro w hw
  unfold lk at hk hw
  cases hf : (lkl c).find? (fun e => e.1 == i) with
  | none => rw [hf] at hk; exact absurd rfl hk
  | some e =>
    rw [hf] at hw
    have h1 := List.find?_some hf
    simp only [beq_iff_eq] at h1
    refine key c e (List.mem_of_find?_eq_some hf) w ?_
    rw [← h1] at hw
    exact hw
theorem ws_of2 (ws : List Cond) (ps : List Nat) (hp : ws = ps.filterMap (fun i => lw_tbl[i]?)) (h : ws.all goodWord = true) : ∀ w ∈ ws, w ∈ WS := by
  intro w hw
  refine List.mem_filter.mpr ⟨?_, List.all_eq_true.mp h w hw⟩
  rw [hp] at hw
  obtain ⟨i, -, hi⟩ := List.mem_filterMap.mp hw
  exact List.mem_of_getElem? hi
set_option maxRecDepth 20000 in
theorem cwd_1 : ∀ w ∈ [cwd 1, cwd 2, cwd 3, cwd 4, cwd 5, cwd 6, cwd 7, cwd 8, cwd 9, cwd 10, cwd 11, cwd 12], w ∈ WS := ws_of2 _ [259, 269, 352, 356, 263, 273, 279, 276, 363, 360, 372, 284] rfl (by decide +kernel)
set_option maxRecDepth 20000 in
theorem cwd_13 : ∀ w ∈ [cwd 13, cwd 14, cwd 15, cwd 16, cwd 17, cwd 18, cwd 19, cwd 20, cwd 21, cwd 22, cwd 23, cwd 24], w ∈ WS := ws_of2 _ [366, 369, 221, 315, 427, 447, 526, 529, 532, 212, 793, 801] rfl (by decide +kernel)
set_option maxRecDepth 20000 in
theorem cwd_25 : ∀ w ∈ [cwd 25, cwd 26, cwd 27, cwd 28, cwd 29, cwd 30, cwd 31, cwd 32, cwd 33, cwd 34, cwd 35, cwd 36], w ∈ WS := ws_of2 _ [92, 549, 664, 559, 563, 617, 857, 630, 635, 622, 179, 307] rfl (by decide +kernel)
set_option maxRecDepth 20000 in
theorem cwd_37 : ∀ w ∈ [cwd 37, cwd 38, cwd 39, cwd 40, cwd 41, cwd 42, cwd 43, cwd 44, cwd 45, cwd 46, cwd 47, cwd 48], w ∈ WS := ws_of2 _ [451, 311, 411, 415, 419, 443, 431, 423, 435, 439, 319, 329] rfl (by decide +kernel)
set_option maxRecDepth 20000 in
theorem cwd_49 : ∀ w ∈ [cwd 49, cwd 50, cwd 51, cwd 52, cwd 53, cwd 54, cwd 55, cwd 56, cwd 57, cwd 58, cwd 59, cwd 60], w ∈ WS := ws_of2 _ [336, 343, 347, 322, 325, 339, 85, 514, 586, 545, 578, 718] rfl (by decide +kernel)
set_option maxRecDepth 20000 in
theorem cwd_61 : ∀ w ∈ [cwd 61, cwd 62, cwd 63, cwd 64, cwd 65, cwd 66, cwd 67, cwd 68, cwd 69, cwd 70, cwd 71, cwd 72], w ∈ WS := ws_of2 _ [660, 599, 797, 603, 607, 612, 626, 518, 522, 676, 639, 681] rfl (by decide +kernel)
set_option maxRecDepth 20000 in
theorem cwd_73 : ∀ w ∈ [cwd 73, cwd 74, cwd 75, cwd 76, cwd 77, cwd 78, cwd 79, cwd 80, cwd 81, cwd 82, cwd 83, cwd 84], w ∈ WS := ws_of2 _ [723, 685, 690, 756, 239, 752, 776, 831, 839, 780, 77, 484] rfl (by decide +kernel)
set_option maxRecDepth 20000 in
theorem cwd_85 : ∀ w ∈ [cwd 85, cwd 86, cwd 87, cwd 88, cwd 89, cwd 90, cwd 91, cwd 92, cwd 93, cwd 94, cwd 95, cwd 96], w ∈ WS := ws_of2 _ [488, 495, 502, 506, 510, 538, 553, 567, 571, 582, 590, 595] rfl (by decide +kernel)
set_option maxRecDepth 20000 in
theorem cwd_97 : ∀ w ∈ [cwd 97, cwd 98, cwd 99, cwd 100, cwd 101, cwd 102, cwd 103, cwd 104, cwd 105, cwd 106, cwd 107, cwd 108], w ∈ WS := ws_of2 _ [643, 652, 694, 706, 710, 714, 727, 733, 737, 741, 760, 764] rfl (by decide +kernel)
set_option maxRecDepth 20000 in
theorem cwd_109 : ∀ w ∈ [cwd 109, cwd 110, cwd 111, cwd 112, cwd 113, cwd 114, cwd 115, cwd 116, cwd 117, cwd 118, cwd 119, cwd 120], w ∈ WS := ws_of2 _ [768, 772, 745, 784, 807, 811, 815, 819, 823, 827, 835, 844] rfl (by decide +kernel)
set_option maxRecDepth 20000 in
theorem cwd_121 : ∀ w ∈ [cwd 121, cwd 122, cwd 123, cwd 124, cwd 125, cwd 126, cwd 127, cwd 128, cwd 129, cwd 130, cwd 131, cwd 132], w ∈ WS := ws_of2 _ [849, 656, 672, 702, 789, 491, 498, 541, 574, 646, 649, 697] rfl (by decide +kernel)
set_option maxRecDepth 20000 in
theorem cwd_133 : ∀ w ∈ [cwd 133, cwd 134, cwd 135, cwd 136, cwd 137, cwd 138, cwd 139, cwd 140, cwd 141, cwd 142, cwd 143, cwd 144], w ∈ WS := ws_of2 _ [748, 864, 876, 1074, 1067, 1108, 1159, 1043, 1047, 1054, 1051, 880] rfl (by decide +kernel)
set_option maxRecDepth 20000 in
theorem cwd_145 : ∀ w ∈ [cwd 145, cwd 146, cwd 147, cwd 148, cwd 149, cwd 150, cwd 151, cwd 152, cwd 153, cwd 154, cwd 155, cwd 156], w ∈ WS := ws_of2 _ [873, 896, 889, 893, 904, 900, 912, 908, 884, 869, 1081, 1078] rfl (by decide +kernel)
set_option maxRecDepth 20000 in
theorem cwd_157 : ∀ w ∈ [cwd 157, cwd 158, cwd 159, cwd 160, cwd 161, cwd 162, cwd 163, cwd 164, cwd 165, cwd 166, cwd 167, cwd 168], w ∈ WS := ws_of2 _ [1059, 1071, 1063, 1085, 1092, 1089, 1096, 1100, 1104, 1112, 1144, 1148] rfl (by decide +kernel)
set_option maxRecDepth 20000 in
theorem cwd_169 : ∀ w ∈ [cwd 169, cwd 170, cwd 171, cwd 172, cwd 173, cwd 174, cwd 175, cwd 176, cwd 177, cwd 178, cwd 179, cwd 180], w ∈ WS := ws_of2 _ [1136, 1128, 1132, 1140, 1125, 1121, 1152, 1179, 1206, 1117, 1167, 1171] rfl (by decide +kernel)
set_option maxRecDepth 20000 in
theorem cwd_181 : ∀ w ∈ [cwd 181, cwd 182, cwd 183, cwd 184, cwd 185, cwd 186, cwd 187, cwd 188, cwd 189, cwd 190, cwd 191, cwd 192], w ∈ WS := ws_of2 _ [1163, 1183, 1175, 1156, 1190, 1187, 1194, 1198, 1202, 1210, 1216, 1228] rfl (by decide +kernel)
set_option maxRecDepth 20000 in
theorem cwd_193 : ∀ w ∈ [cwd 193, cwd 194, cwd 195, cwd 196, cwd 197, cwd 198, cwd 199, cwd 200, cwd 201, cwd 202, cwd 203, cwd 204], w ∈ WS := ws_of2 _ [1224, 1232, 1220, 1236, 1240, 1244, 1248, 1257, 1252, 1267, 1263, 1271] rfl (by decide +kernel)
set_option maxRecDepth 20000 in
theorem cwd_205 : ∀ w ∈ [cwd 205, cwd 206, cwd 207, cwd 208, cwd 209, cwd 210, cwd 211], w ∈ WS := ws_of2 _ [1275, 1279, 1283, 1287, 1291, 1303, 1296] rfl (by decide +kernel)
set_option maxRecDepth 20000 in
theorem ws_obj : Cond.code Lib.objectInit ⟨#[0xb1]⟩ 1 none ∈ WS := ws_of2 [.code Lib.objectInit ⟨#[0xb1]⟩ 1 none] [80] rfl (by decide +kernel) _ List.mem_cons_self
theorem nnm0 : ∀ a, a < 4 → ∀ b, b < 4 → a ≠ b → (nT0 a).2.1 ≠ (nT0 b).2.1 := by decide +kernel
theorem nok0 : ∀ k, k < 4 → parseFieldDescriptor (nT0 k).2.2.1 = some (nty0 k) := by decide +kernel
theorem nin0 : ∀ w ∈ u_ws "ThrownBack$Law" nT0 4, w ∈ WS := ws_of _ [227, 229, 231, 233] (by decide +kernel) (by decide +kernel)
theorem nnm1 : ∀ a, a < 1 → ∀ b, b < 1 → a ≠ b → (nT1 a).2.1 ≠ (nT1 b).2.1 := by decide +kernel
theorem nok1 : ∀ k, k < 1 → parseFieldDescriptor (nT1 k).2.2.1 = some (nty1 k) := by decide +kernel
theorem nin1 : ∀ w ∈ u_ws "ThrownBack$Lots" nT1 1, w ∈ WS := ws_of _ [215] (by decide +kernel) (by decide +kernel)
theorem nnm2 : ∀ a, a < 9 → ∀ b, b < 9 → a ≠ b → (nT2 a).2.1 ≠ (nT2 b).2.1 := by decide +kernel
theorem nok2 : ∀ k, k < 9 → parseFieldDescriptor (nT2 k).2.2.1 = some (nty2 k) := by decide +kernel
theorem nin2 : ∀ w ∈ u_ws "ThrownBack$Owner" nT2 9, w ∈ WS := ws_of _ [112, 114, 116, 118, 120, 122, 124, 126, 128] (by decide +kernel) (by decide +kernel)
theorem nnm3 : ∀ a, a < 7 → ∀ b, b < 7 → a ≠ b → (nT3 a).2.1 ≠ (nT3 b).2.1 := by decide +kernel
theorem nok3 : ∀ k, k < 7 → parseFieldDescriptor (nT3 k).2.2.1 = some (nty3 k) := by decide +kernel
theorem nin3 : ∀ w ∈ u_ws "ThrownBack$Reader" nT3 7, w ∈ WS := ws_of _ [189, 191, 193, 195, 197, 199, 201] (by decide +kernel) (by decide +kernel)
theorem nnm4 : ∀ a, a < 11 → ∀ b, b < 11 → a ≠ b → (nT4 a).2.1 ≠ (nT4 b).2.1 := by decide +kernel
theorem nok4 : ∀ k, k < 11 → parseFieldDescriptor (nT4 k).2.2.1 = some (nty4 k) := by decide +kernel
theorem nin4 : ∀ w ∈ u_ws "ThrownBack$Road" nT4 11, w ∈ WS := ws_of _ [152, 154, 156, 158, 160, 162, 164, 166, 168, 170, 172] (by decide +kernel) (by decide +kernel)
theorem nnm5 : ∀ a, a < 3 → ∀ b, b < 3 → a ≠ b → (nT5 a).2.1 ≠ (nT5 b).2.1 := by decide +kernel
theorem nok5 : ∀ k, k < 3 → parseFieldDescriptor (nT5 k).2.2.1 = some (nty5 k) := by decide +kernel
theorem nin5 : ∀ w ∈ u_ws "ThrownBack$Sheet" nT5 3, w ∈ WS := ws_of _ [248, 250, 252] (by decide +kernel) (by decide +kernel)
theorem nnm6 : ∀ a, a < 9 → ∀ b, b < 9 → a ≠ b → (nT6 a).2.1 ≠ (nT6 b).2.1 := by decide +kernel
theorem nok6 : ∀ k, k < 9 → parseFieldDescriptor (nT6 k).2.2.1 = some (nty6 k) := by decide +kernel
theorem nin6 : ∀ w ∈ u_ws "ThrownBack" nT6 9, w ∈ WS := ws_of _ [461, 463, 465, 467, 469, 471, 473, 475, 477] (by decide +kernel) (by decide +kernel)
theorem nnm7 : ∀ a, a < 42 → ∀ b, b < 42 → a ≠ b → (nT7 a).2.1 ≠ (nT7 b).2.1 := by decide +kernel
theorem nok7 : ∀ k, k < 42 → parseFieldDescriptor (nT7 k).2.2.1 = some (nty7 k) := by decide +kernel
theorem nin7 : ∀ w ∈ u_ws "ThrownBackModel" nT7 42, w ∈ WS := ws_of _ [955, 957, 959, 961, 963, 965, 967, 969, 971, 973, 975, 977, 979, 981, 983, 985, 987, 989, 991, 993, 995, 997, 999, 1001, 1003, 1005, 1007, 1009, 1011, 1013, 1015, 1017, 1019, 1021, 1023, 1025, 1027, 1029, 1031, 1033, 1035, 1037] (by decide +kernel) (by decide +kernel)
theorem ws_arrI : Cond.arrayClass .int ∈ WS := ws_of [.arrayClass .int] [131] (by decide +kernel) (by decide +kernel) _ List.mem_cons_self
end
section
/-! A SMALL MACHINE over the same bytecode: cells by their numbers, methods by their numbers; 'run' says what a method answers and leaves. (Its link to the machine itself: part 05.) -/
abbrev mC : Type := (Nat × Nat × (Nat → Int32)) ⊕ ((Nat × Nat × (Nat → Option Nat)) ⊕ (Nat × List Value))
abbrev mM : Type := Nat × (Nat → mC)
abbrev mA : Type := (Nat × List Value × List Value × mM) ⊕ ((Nat × List Value × List Value) ⊕ Option Value)
def mdead : mC := .inr (.inr (99, []))
def mset (M : mM) (q : Nat) (x : mC) : mM := (M.1, va_up M.2 q x)
def mpush (M : mM) (x : mC) : mM := (M.1 + 1, va_up M.2 M.1 x)
def mcd (c : Jvm.ClassFile.Cond) (x y : Int32) : Bool := match c with
  | .eq => decide (x = y)
  | .ne => decide (¬ x = y)
  | .lt => decide (x < y)
  | .ge => decide (y ≤ x)
  | .gt => decide (y < x)
  | .le => decide (x ≤ y)
def mok (ty : FieldType) (v : Value) : Bool := match ty, v with
  | .int, .int _ => true
  | .boolean, .int x => decide (x = 0) || decide (x = 1)
  | .long, .long _ => true
  | .object _, .ref k => decide (k < 1000)
  | .array _, .ref k => decide (k < 1000)
  | _, _ => false
def mstv (a : Nat) : Value := match a with
  | 0 => .ref 1001
  | 1 => .ref 1002
  | 2 => .int 1
  | _ => .ref 1009
def mjmp (pc : Nat) (off : Int) (L st : List Value) (M : mM) : Option mA :=
  if 0 ≤ (pc : Int) + off then some (.inl (((pc : Int) + off).toNat, L, st, M)) else none
def mprev (L : List Value) (i : Nat) : Bool := match i with
  | 0 => false
  | j + 1 => match L[j]? with
    | some w => w.category == 2
    | none => false
def mst1 (L : List Value) (i : Nat) (v : Value) : Option (List Value) := if i < L.length ∧ mprev L i = false then some (L.set i v) else none
def mst2 (L : List Value) (i : Nat) (v : Value) : Option (List Value) := if i + 1 < L.length ∧ mprev L i = false then some ((L.set i v).set (i + 1) .null) else none
def mnx (pc : Nat) (L st : List Value) (M : mM) : Option mA := some (.inl (pc, L, st, M))
def mldI (L : List Value) (i pc : Nat) (st : List Value) (M : mM) : Option mA := match L[i]? with
  | some (.int x) => mnx pc L (.int x :: st) M
  | _ => none
def mldL (L : List Value) (i pc : Nat) (st : List Value) (M : mM) : Option mA := match L[i]? with
  | some (.long x) => mnx pc L (.long x :: st) M
  | _ => none
def mldA (L : List Value) (i pc : Nat) (st : List Value) (M : mM) : Option mA := match L[i]? with
  | some (.ref x) => if x = 1009 then none else mnx pc L (.ref x :: st) M
  | _ => none
def mstI (L : List Value) (i pc : Nat) (st : List Value) (M : mM) : Option mA := match st with
  | .int x :: st => match mst1 L i (.int x) with
    | some L => mnx pc L st M
    | none => none
  | _ => none
def mstL (L : List Value) (i pc : Nat) (st : List Value) (M : mM) : Option mA := match st with
  | .long x :: st => match mst2 L i (.long x) with
    | some L => mnx pc L st M
    | none => none
  | _ => none
def mstA (L : List Value) (i pc : Nat) (st : List Value) (M : mM) : Option mA := match st with
  | .ref x :: st => if x = 1009 then none else match mst1 L i (.ref x) with
    | some L => mnx pc L st M
    | none => none
  | _ => none
def mbin (f : Int32 → Int32 → Option Int32) (pc : Nat) (L st : List Value) (M : mM) : Option mA := match st with
  | .int y :: .int x :: st => match f x y with
    | some z => mnx pc L (.int z :: st) M
    | none => none
  | _ => none
def mbinL (f : Int64 → Int64 → Option Int64) (pc : Nat) (L st : List Value) (M : mM) : Option mA := match st with
  | .long y :: .long x :: st => match f x y with
    | some z => mnx pc L (.long z :: st) M
    | none => none
  | _ => none
def mun (f : Int32 → Value) (pc : Nat) (L st : List Value) (M : mM) : Option mA := match st with
  | .int x :: st => mnx pc L (f x :: st) M
  | _ => none
def mlen (x : mC) : Option Nat := match x with
  | .inl (_, n, _) => some n
  | .inr (.inl (_, n, _)) => some n
  | _ => none
def mref (g : Option Nat) : Value := match g with
  | some k => .ref k
  | none => .null
/-- putfield's condition: the value's kind; a final field only in a constructor of its own class -/
def mput (y a b : Nat) (v : Value) : Bool := mok (nYY a b) v && (!(nTT a b).2.2.2 || (decide (mow y = a) && decide ((myn y).name = "<init>")))
def mcall (z na : Nat) (recv : Bool) (st : List Value) : Option mA :=
  let k := if recv then na + 1 else na
  if k ≤ st.length ∧ (st.drop k).length ≤ 4 then some (.inr (.inl (z, (st.take k).reverse, st.drop k))) else none
def mcopy (pc : Nat) (L st : List Value) (M : mM) : Option mA := match st with
  | [.int n, .int dp, .ref a, .int sp, .ref a0] => match M.2 a0, M.2 a with
    | .inl (0, n0, f), .inl (0, n1, g) => if ¬ sp < 0 ∧ ¬ dp < 0 ∧ ¬ n < 0 ∧ sp.toNatClampNeg + n.toNatClampNeg ≤ n0 ∧ dp.toNatClampNeg + n.toNatClampNeg ≤ n1 then
        mnx pc L [] (mset M a (.inl (0, n1, va_cpy f g sp.toNatClampNeg dp.toNatClampNeg n.toNatClampNeg))) else none
    | _, _ => none
  | _ => none
def mget (a b pc : Nat) (L st : List Value) (M : mM) : Option mA := match st with
  | .ref q :: st => match M.2 q with
    | .inr (.inr (a', fs)) => if a' = a then match fs[b]? with
        | some v => mnx pc L (v :: st) M
        | none => none
      else none
    | _ => none
  | _ => none
def mputf (y a b pc : Nat) (L st : List Value) (M : mM) : Option mA := match st with
  | v :: .ref q :: st => match M.2 q with
    | .inr (.inr (a', fs)) => if a' = a ∧ b < fs.length ∧ mput y a b v = true then mnx pc L st (mset M q (.inr (.inr (a, fs.set b v)))) else none
    | _ => none
  | _ => none
def mald (tg : Nat → Bool) (pc : Nat) (L st : List Value) (M : mM) : Option mA := match st with
  | .int j :: .ref q :: st => match M.2 q with
    | .inl (t, n, f) => if tg t = true ∧ ¬ (j < 0 ∨ n ≤ j.toNatClampNeg) then mnx pc L (.int (f j.toNatClampNeg) :: st) M else none
    | _ => none
  | _ => none
def mast (pc : Nat) (L st : List Value) (M : mM) : Option mA := match st with
  | .int x :: .int j :: .ref q :: st => match M.2 q with
    | .inl (t, n, f) => if t = 0 ∧ ¬ (j < 0 ∨ n ≤ j.toNatClampNeg) then mnx pc L st (mset M q (.inl (0, n, upd f j.toNatClampNeg x))) else none
    | _ => none
  | _ => none
def mald_q (pc : Nat) (L st : List Value) (M : mM) : Option mA := match st with
  | .int j :: .ref q :: st => match M.2 q with
    | .inr (.inl (_, n, g)) => if ¬ (j < 0 ∨ n ≤ j.toNatClampNeg) then mnx pc L (mref (g j.toNatClampNeg) :: st) M else none
    | _ => none
  | _ => none
def mast_q (pc : Nat) (L st : List Value) (M : mM) : Option mA := match st with
  | .ref k :: .int j :: .ref q :: st => match M.2 q, M.2 k with
    | .inr (.inl (t, n, g)), .inr (.inr (a, _)) => if t = a ∧ ¬ (j < 0 ∨ n ≤ j.toNatClampNeg) then mnx pc L st (mset M q (.inr (.inl (t, n, va_up g j.toNatClampNeg (some k))))) else none
    | _, _ => none
  | _ => none
def msw (pc : Nat) (f : Int → Option Int) (L st : List Value) (M : mM) : Option mA := match st with
  | .int x :: st => match f x.toInt with
    | some off => mjmp pc off L st M
    | none => none
  | _ => none
/-- the object at b is of the class whose method z is -/
def mrecv (z b : Nat) (M : mM) : Bool := match M.2 b with
  | .inr (.inr (a, _)) => decide (a = mow z)
  | _ => false
def minv (y i : Nat) (st : List Value) : Nat → mM → Option mA := fun sp M => match lk (mow y) i with
  | (k, z, na) => if sp = 0 then
      (if k = 4 ∨ k = 15 then (match st[na]? with
        | some (.ref b) => if mrecv z b M = true then mcall z na true st else none
        | _ => none) else none)
    else if sp = 1 then (if k = 5 then mcall z na false st else none)
    else (if k = 6 ∨ k = 7 then (match st[na]? with
        | some (.ref b) => if b < 1000 then mcall z na true st else none
        | _ => none) else none)
def stp (y : Nat) (ins : Instr) (len pc : Nat) (L st : List Value) (M : mM) : Option mA := match ins with
  | .iload i => if len = 2 then mldI L i (pc + 2) st M else none
  | .iload_n i => if len = 1 then mldI L i (pc + 1) st M else none
  | .lload i => if len = 2 then mldL L i (pc + 2) st M else none
  | .lload_n i => if len = 1 then mldL L i (pc + 1) st M else none
  | .aload i => if len = 2 then mldA L i (pc + 2) st M else none
  | .aload_n i => if len = 1 then mldA L i (pc + 1) st M else none
  | .istore i => if len = 2 then mstI L i (pc + 2) st M else none
  | .istore_n i => if len = 1 then mstI L i (pc + 1) st M else none
  | .lstore i => if len = 2 then mstL L i (pc + 2) st M else none
  | .lstore_n i => if len = 1 then mstL L i (pc + 1) st M else none
  | .astore i => if len = 2 then mstA L i (pc + 2) st M else none
  | .astore_n i => if len = 1 then mstA L i (pc + 1) st M else none
  | .iconst n => if len = 1 then mnx (pc + 1) L (.int (Int32.ofInt n) :: st) M else none
  | .bipush n => if len = 2 then mnx (pc + 2) L (.int (Int8.ofInt n).toInt32 :: st) M else none
  | .sipush n => if len = 3 then mnx (pc + 3) L (.int (Int16.ofInt n).toInt32 :: st) M else none
  | .lconst n => if len = 1 then mnx (pc + 1) L (.long (Int64.ofNat (n : Nat)) :: st) M else none
  | .ldc i => if len = 2 then (match lk (mow y) i with
    | (12, a, _) => mnx (pc + 2) L (.int (Int32.ofNat a) :: st) M
    | (14, a, _) => mnx (pc + 2) L (.ref a :: st) M
    | _ => none) else none
  | .ldc_w i => if len = 3 then (match lk (mow y) i with
    | (12, a, _) => mnx (pc + 3) L (.int (Int32.ofNat a) :: st) M
    | _ => none) else none
  | .ldc2_w i => if len = 3 then (match lk (mow y) i with
    | (13, a, _) => mnx (pc + 3) L (.long (Int64.ofNat a) :: st) M
    | _ => none) else none
  | .iadd => if len = 1 then mbin (fun x y => some (x + y)) (pc + 1) L st M else none
  | .isub => if len = 1 then mbin (fun x y => some (x - y)) (pc + 1) L st M else none
  | .imul => if len = 1 then mbin (fun x y => some (x * y)) (pc + 1) L st M else none
  | .iand => if len = 1 then mbin (fun x y => some (x &&& y)) (pc + 1) L st M else none
  | .ior => if len = 1 then mbin (fun x y => some (x ||| y)) (pc + 1) L st M else none
  | .ishl => if len = 1 then mbin (fun x y => some (x <<< (y &&& 31))) (pc + 1) L st M else none
  | .ishr => if len = 1 then mbin (fun x y => some (x >>> (y &&& 31))) (pc + 1) L st M else none
  | .idiv => if len = 1 then mbin (fun x y => if y = 0 then none else some (x / y)) (pc + 1) L st M else none
  | .irem => if len = 1 then mbin (fun x y => if y = 0 then none else some (x - x / y * y)) (pc + 1) L st M else none
  | .ladd => if len = 1 then mbinL (fun x y => some (x + y)) (pc + 1) L st M else none
  | .lmul => if len = 1 then mbinL (fun x y => some (x * y)) (pc + 1) L st M else none
  | .ldiv => if len = 1 then mbinL (fun x y => if y = 0 then none else some (x / y)) (pc + 1) L st M else none
  | .lrem => if len = 1 then mbinL (fun x y => if y = 0 then none else some (x - x / y * y)) (pc + 1) L st M else none
  | .ineg => if len = 1 then mun (fun x => .int (-x)) (pc + 1) L st M else none
  | .i2l => if len = 1 then mun (fun x => .long x.toInt64) (pc + 1) L st M else none
  | .i2b => if len = 1 then mun (fun x => .int x.toInt8.toInt32) (pc + 1) L st M else none
  | .i2s => if len = 1 then mun (fun x => .int x.toInt16.toInt32) (pc + 1) L st M else none
  | .i2c => if len = 1 then mun (fun x => .int (x.toUInt32 % 65536).toInt32) (pc + 1) L st M else none
  | .l2i => if len = 1 then (match st with
    | .long x :: st => mnx (pc + 1) L (.int x.toInt32 :: st) M
    | _ => none) else none
  | .lcmp => if len = 1 then (match st with
    | .long y :: .long x :: st => mnx (pc + 1) L (.int (lg_cmp x y) :: st) M
    | _ => none) else none
  | .dup => if len = 1 then (match st with
    | v :: st => if v.category = 1 then mnx (pc + 1) L (v :: v :: st) M else none
    | _ => none) else none
  | .dup2 => if len = 1 then (match st with
    | v :: w :: st => if v.category = 1 ∧ w.category = 1 then mnx (pc + 1) L (v :: w :: v :: w :: st) M else none
    | _ => none) else none
  | .pop => if len = 1 then (match st with
    | v :: st => if v.category = 1 then mnx (pc + 1) L st M else none
    | _ => none) else none
  | .iinc i n => if len = 3 then (match L[i]? with
    | some (.int x) => match mst1 L i (.int (x + Int32.ofInt n)) with
      | some L => mnx (pc + 3) L st M
      | none => none
    | _ => none) else none
  | .ifCond c off => if len = 3 ∧ 0 ≤ (pc : Int) + off then (match st with
    | .int x :: st => mnx (if mcd c x 0 = true then ((pc : Int) + off).toNat else pc + 3) L st M
    | _ => none) else none
  | .if_icmp c off => if len = 3 ∧ 0 ≤ (pc : Int) + off then (match st with
    | .int y :: .int x :: st => mnx (if mcd c x y = true then ((pc : Int) + off).toNat else pc + 3) L st M
    | _ => none) else none
  | .goto off => if len = 3 then mjmp pc off L st M else none
  | .tableswitch d lo hi offs => msw pc (fun x => if x < lo ∨ hi < x then some d else offs[(x - lo).toNat]?) L st M
  | .lookupswitch d ps => if (ps.toList.zip (ps.toList.drop 1)).all (fun (a, next) => a.1 < next.1) = true then msw pc (fun x => some (Op.lookupswitch.offset ps.toList d x)) L st M else none
  | .getfield i => if len = 3 then (match lk (mow y) i with
    | (1, a, b) => mget a b (pc + 3) L st M
    | (16, a, _) => mget 8 a (pc + 3) L st M
    | _ => none) else none
  | .putfield i => if len = 3 then (match lk (mow y) i with
    | (1, a, b) => mputf y a b (pc + 3) L st M
    | _ => none) else none
  | .getstatic i => if len = 3 then (match lk (mow y) i with
    | (3, a, _) => mnx (pc + 3) L (mstv a :: st) M
    | _ => none) else none
  | .iaload => if len = 1 then mald (fun t => decide (t ≤ 1)) (pc + 1) L st M else none
  | .baload => if len = 1 then mald (fun t => decide (t = 2)) (pc + 1) L st M else none
  | .iastore => if len = 1 then mast (pc + 1) L st M else none
  | .aaload => if len = 1 then mald_q (pc + 1) L st M else none
  | .aastore => if len = 1 then mast_q (pc + 1) L st M else none
  | .arraylength => if len = 1 then (match st with
    | .ref q :: st => match mlen (M.2 q) with
      | some n => mnx (pc + 1) L (.int (Int32.ofNat n) :: st) M
      | none => none
    | _ => none) else none
  | .newarray t => if len = 2 ∧ t = .int then (match st with
    | .int n :: st => if ¬ n < 0 ∧ n.toNatClampNeg ≤ 1200 ∧ M.1 < 1000 then mnx (pc + 2) L (.ref M.1 :: st) (mpush M (.inl (0, n.toNatClampNeg, fun _ => 0))) else none
    | _ => none) else none
  | .anewarray i => if len = 3 then (match lk (mow y) i with
    | (11, a, _) => (match st with
      | .int n :: st => if ¬ n < 0 ∧ n.toNatClampNeg ≤ 1200 ∧ M.1 < 1000 then mnx (pc + 3) L (.ref M.1 :: st) (mpush M (.inr (.inl (a, n.toNatClampNeg, fun _ => none)))) else none
      | _ => none)
    | _ => none) else none
  | .new i => if len = 3 then (match lk (mow y) i with
    | (10, a, _) => if M.1 < 1000 then mnx (pc + 3) L (.ref M.1 :: st) (mpush M (.inr (.inr (a, (List.range (nNN a)).map (fun j => defaultValue (nYY a j)))))) else none
    | _ => none) else none
  | .invokevirtual i => if len = 3 then minv y i st 0 M else none
  | .invokestatic i => if len = 3 then (if (lk (mow y) i).1 = 9 then mcopy (pc + 3) L st M else minv y i st 1 M) else none
  | .invokespecial i => if len = 3 then (if (lk (mow y) i).1 = 8 then (match st with
      | .ref b :: st => if b < 1000 ∧ st.length ≤ 4 then mnx (pc + 3) L st M else none
      | _ => none) else minv y i st 2 M) else none
  | .ireturn => if len = 1 then (match st, mrt y with
    | [.int v], some ty => if narrow ty (.int v) = .int v then some (.inr (.inr (some (.int v)))) else none
    | _, _ => none) else none
  | .lreturn => if len = 1 then (match st, mrt y with
    | [.long v], some .long => some (.inr (.inr (some (.long v))))
    | _, _ => none) else none
  | .return_ => if len = 1 then (match st, mrt y with
    | [], none => some (.inr (.inr none))
    | _, _ => none) else none
  | _ => none
def mexp (vs : List Value) : List Value := vs.flatMap (fun v => if v.category = 2 then [v, .null] else [v])
def ment (y : Nat) (vs : List Value) : List Value := mexp vs ++ List.replicate (mml y - (mexp vs).length) .null
def run (d n y pc : Nat) (L st : List Value) (M : mM) : Option (Option Value × mM) := match n with
  | 0 => none
  | n + 1 => match decode (bt y) pc with
    | .ok (ins, len) => match stp y ins len pc L st M with
      | some (.inl (pc, L, st, M)) => run d n y pc L st M
      | some (.inr (.inl (z, vs, rest))) => (match d with
        | 0 => none
        | d' + 1 => if (mexp vs).length ≤ mml z then (match run d' n z 0 (ment z vs) [] M with
          | some (v, M) => run (d' + 1) n y (pc + 3) L (v.toList ++ rest) M
          | none => none) else none)
      | some (.inr (.inr v)) => some (v, M)
      | none => none
    | .error _ => none
end
section
/-! THE SMALL MACHINE'S STEPS ARE THE MACHINE'S (wip/whole/gen5.py) -/
abbrev mG : Type := Nat × (Nat → Nat) × Value × (Nat → ClassId) × (Nat → Nat → Nat) × (Nat → ClassId) × Nat × (Nat → Int32)
def gB (g : mG) : Nat := g.1
def gO (g : mG) : Nat → Nat := g.2.1
def g9 (g : mG) : Value := g.2.2.1
def gD (g : mG) : va_G := (g.2.2.2.1, g.2.2.2.2.1)
def gA (g : mG) : Nat → ClassId := g.2.2.2.2.2.1
def gL (g : mG) : Nat := g.2.2.2.2.2.2.1
def gX (g : mG) : Nat → Int32 := g.2.2.2.2.2.2.2
def om (g : mG) (j : Nat) : Value := if j = 9 then g9 g else .ref (gO g j)
def rv (g : mG) (v : Value) : Value := match v with
  | .ref k => if k < 1000 then .ref (gB g + k) else om g (k - 1000)
  | v => v
def rot (a : Nat) : List Int32 := match a with
  | 0 => [999, 999, 99, 23, 1]
  | _ => [-1, 0, 0, 1, 2, 0]
def roS (i : Nat) : List Int32 := match i with
  | 0 => [102, 97, 108, 108, 115, 32, 50, 32, 59, 32, 116, 97, 107, 101, 115, 32, 51, 32, 43, 32, 119, 97, 108, 108, 32, 59, 32, 108, 105, 102, 116, 115, 32, 49, 32, 59, 32]
  | 1 => [102, 97, 108, 108, 115, 32, 116, 97, 107, 101, 115, 32, 108, 105, 102, 116, 115, 32, 111, 114, 32, 97, 110, 100, 32, 110, 111, 116, 32, 104, 111, 117, 114, 32, 119, 97, 108, 108, 32, 109, 111, 114, 101, 32, 104, 101, 97, 112, 32, 103, 97, 116, 101, 32, 112, 97, 115, 115, 101, 115, 32]
  | _ => [40, 41, 59, 43, 45, 42, 60, 61]
def ron (i : Nat) : Nat := match i with
  | 0 => 37
  | 1 => 61
  | _ => 8
def rotx (i : Nat) : String := match i with
  | 0 => "falls 2 ; takes 3 + wall ; lifts 1 ; "
  | 1 => "falls takes lifts or and not hour wall more heap gate passes "
  | _ => "();+-*<="
def ro (g : mG) (k : Nat) : mC :=
  if k = 1000 then .inl (1, gL g, gX g) else if k = 1001 then .inl (1, 5, fun j => (rot 0).getD j 0) else if k = 1002 then .inl (1, 6, fun j => (rot 1).getD j 0)
  else if 1003 ≤ k ∧ k < 1006 then .inr (.inr (8, [.ref (k + 3), .int 0])) else if 1006 ≤ k ∧ k < 1009 then .inl (2, ron (k - 1006), fun j => (roS (k - 1006)).getD j 0) else mdead
def tysm (g : mG) : List (ClassId × FieldType) := [(gA g 9, .int), (gA g 0, .object "ThrownBack$Law"), (gA g 2, .object "ThrownBack$Owner"), (gA g 5, .object "ThrownBack$Sheet")]
def ce (g : mG) (x : mC) : va_E := match x with
  | .inl (_, n, f) => .inl (gA g 9, n, .inl f)
  | .inr (.inl (t, n, q)) => .inl (gA g t, n, .inr (.inr (.inr (.inr (fun j => (q j).map (fun k => gB g + k))))))
  | .inr (.inr (a, fs)) => .inr (a, fs.map (rv g))
def wo (g : mG) (M : mM) : va_W := (List.range M.1).map (fun k => (gB g + k, ce g (M.2 k)))
def Ab (g : mG) : Nat → Prop := fun q => gB g ≤ q
def wk (x : mC) : Prop := match x with
  | .inl (t, _, _) => t = 0
  | .inr (.inl (t, _, q)) => (t = 0 ∨ t = 2 ∨ t = 5) ∧ ∀ j k, q j = some k → k < 1000
  | .inr (.inr (a, _)) => a < 8
def rp (g : mG) (M : mM) (H : Heap) : Prop := (∀ k, k < M.1 → wk (M.2 k)) ∧ (∀ k, M.1 ≤ k → M.2 k = ro g k) ∧ M.1 ≤ 1000 ∧ va_P (gD g) mcl (wo g M) H
theorem ro_arr {g : mG} {k t n : Nat} {f : Nat → Int32} (h : ro g k = .inl (t, n, f)) : (t = 1 ∧ (k = 1000 ∨ k = 1001 ∨ k = 1002)) ∨ (t = 2 ∧ 1006 ≤ k ∧ k < 1009) := by
  unfold ro at h
  split at h
  · simp at h; exact Or.inl ⟨h.1.symm, Or.inl (by assumption)⟩
  · split at h
    · simp at h; exact Or.inl ⟨h.1.symm, Or.inr (Or.inl (by assumption))⟩
    · split at h
      · simp at h; exact Or.inl ⟨h.1.symm, Or.inr (Or.inr (by assumption))⟩
      · split at h
        · simp at h
        · split at h
          · rename_i h2
            simp at h
            exact Or.inr ⟨h.1.symm, h2⟩
          · simp [mdead] at h
theorem ro_obj {g : mG} {k a : Nat} {fs : List Value} (h : ro g k = .inr (.inr (a, fs))) : (a = 8 ∧ 1003 ≤ k ∧ k < 1006 ∧ fs = [.ref (k + 3), .int 0]) ∨ (a = 99 ∧ fs = []) := by
  unfold ro at h
  split at h
  · simp at h
  · split at h
    · simp at h
    · split at h
      · simp at h
      · split at h
        · rename_i h2
          simp at h
          exact Or.inl ⟨h.1.symm, h2.1, h2.2, h.2.symm⟩
        · split at h
          · simp at h
          · simp [mdead] at h
            exact Or.inr ⟨h.1.symm, h.2⟩
theorem ro_q {g : mG} {k : Nat} {x : Nat × Nat × (Nat → Option Nat)} (h : ro g k = .inr (.inl x)) : False := by
  unfold ro at h
  split at h
  · simp at h
  · split at h
    · simp at h
    · split at h
      · simp at h
      · split at h
        · simp at h
        · split at h
          · simp at h
          · simp [mdead] at h
theorem wo_get {g : mG} {M : mM} {k : Nat} (h : k < M.1) : (wo g M)[k]? = some (gB g + k, ce g (M.2 k)) := by
  simp [wo, h]
theorem wo_set {g : mG} {M : mM} {k : Nat} (x : mC) (h : k < M.1) : (wo g M).set k (gB g + k, ce g x) = wo g (mset M k x) := by
  apply List.ext_getElem?
  intro i
  rw [List.getElem?_set]
  by_cases hi : k = i
  · subst hi
    simp [wo, mset, h, va_up]
  · rw [if_neg hi]
    by_cases h2 : i < M.1
    · simp [wo, mset, h2, va_up, Ne.symm hi]
    · simp [wo, mset, h2]
theorem wo_push {g : mG} {M : mM} (x : mC) : wo g M ++ [(gB g + M.1, ce g x)] = wo g (mpush M x) := by
  unfold wo mpush
  simp only
  rw [List.range_succ, List.map_append]
  congr 1
  · refine List.map_congr_left fun k hk => ?_
    have : k < M.1 := List.mem_range.mp hk
    simp [va_up, Nat.ne_of_lt this]
  · simp [va_up]
theorem wo_D {g : mG} {M : mM} : va_D (Ab g) (wo g M) := by
  have key : ∀ (k : Nat) (q : Nat × va_E), (wo g M)[k]? = some q → k < M.1 ∧ q.1 = gB g + k := by
    intro k q h
    have hk : k < M.1 := by
      have := (List.getElem?_eq_some_iff.mp h).1
      simpa [wo] using this
    rw [wo_get hk] at h
    cases h
    exact ⟨hk, rfl⟩
  refine ⟨fun i j p q hp hq e => ?_, fun k q h => ?_⟩
  · have h1 := (key i p hp).2
    have h2 := (key j q hq).2
    omega
  · have := (key k q h).2
    show gB g ≤ q.1
    omega
theorem rp_in {g : mG} {M : mM} {H : Heap} (h : rp g M H) {q : Nat} (hw : ∀ k, M.2 q = ro g k → k = q → False) : q < M.1 := by
  by_cases hq : q < M.1
  · exact hq
  · exact absurd (h.2.1 q (Nat.le_of_not_lt hq)) (fun e => hw q e rfl)
theorem rp_obj {g : mG} {M : mM} {H : Heap} (h : rp g M H) {q a : Nat} {fs : List Value} (e : M.2 q = .inr (.inr (a, fs))) (ha : a < 8) : q < M.1 := by
  refine rp_in h fun k h1 h2 => ?_
  subst h2
  rw [e] at h1
  rcases ro_obj h1.symm with h3 | h3 <;> omega
theorem rp_ar {g : mG} {M : mM} {H : Heap} (h : rp g M H) {q n : Nat} {f : Nat → Int32} (e : M.2 q = .inl (0, n, f)) : q < M.1 := by
  refine rp_in h fun k h1 h2 => ?_
  subst h2
  rw [e] at h1
  rcases ro_arr h1.symm with h3 | h3 <;> omega
theorem rp_qr {g : mG} {M : mM} {H : Heap} (h : rp g M H) {q : Nat} {x : Nat × Nat × (Nat → Option Nat)} (e : M.2 q = .inr (.inl x)) : q < M.1 := by
  refine rp_in h fun k h1 h2 => ?_
  subst h2
  rw [e] at h1
  exact ro_q h1.symm
theorem rp_set {g : mG} {M : mM} {H H1 : Heap} (h : rp g M H) {q : Nat} {x : mC} (hq : q < M.1) (hx : wk x) (hP : va_P (gD g) mcl ((wo g M).set q (gB g + q, ce g x)) H1) : rp g (mset M q x) H1 := by
  refine ⟨fun k hk => ?_, fun k hk => ?_, h.2.2.1, by rw [← wo_set x hq]; exact hP⟩
  · show wk (va_up M.2 q x k)
    by_cases e : k = q
    · subst e; rw [va_up_self]; exact hx
    · rw [va_up_ne _ _ e]; exact h.1 k hk
  · show va_up M.2 q x k = _
    have : k ≠ q := by
      intro e
      subst e
      exact absurd hk (by show ¬ M.1 ≤ k; omega)
    rw [va_up_ne _ _ this]
    exact h.2.1 k hk
theorem rp_push {g : mG} {M : mM} {H H1 : Heap} (h : rp g M H) {x : mC} (hx : wk x) (h1 : M.1 < 1000) (hP : va_P (gD g) mcl (wo g M ++ [(gB g + M.1, ce g x)]) H1) : rp g (mpush M x) H1 := by
  refine ⟨fun k hk => ?_, fun k hk => ?_, h1, by rw [← wo_push x]; exact hP⟩
  · show wk (va_up M.2 M.1 x k)
    by_cases e : k = M.1
    · subst e; rw [va_up_self]; exact hx
    · rw [va_up_ne _ _ e]
      have hk2 : k < M.1 + 1 := hk
      exact h.1 k (by omega)
  · show va_up M.2 M.1 x k = _
    have hk2 : M.1 + 1 ≤ k := hk
    rw [va_up_ne _ _ (by omega)]
    exact h.2.1 k (by omega)
-- locals
def asc (g : mG) (L : List Value) : List (Nat × Value) := (List.range L.length).filterMap (fun i => match L[i]? with
  | some v => if v = .null then none else some (i, rv g v)
  | none => none)
def lr (g : mG) (ls : Array Slot) (L : List Value) : Prop := lv_has ls L.length (asc g L)
theorem asc_mem {g : mG} {L : List Value} {q : Nat × Value} : q ∈ asc g L ↔ ∃ v, L[q.1]? = some v ∧ v ≠ .null ∧ q.2 = rv g v := by
  constructor
  · intro h
    obtain ⟨i, hi, he⟩ := List.mem_filterMap.mp h
    cases hv : L[i]? with
    | none => rw [hv] at he; cases he
    | some v =>
      rw [hv] at he
      by_cases hn : v = .null
      · simp [hn] at he
      · simp [hn] at he
        subst he
        exact ⟨v, hv, hn, rfl⟩
  · rintro ⟨v, h1, h2, h3⟩
    refine List.mem_filterMap.mpr ⟨q.1, List.mem_range.mpr (List.getElem?_eq_some_iff.mp h1).1, ?_⟩
    rw [h1]
    simp only [if_neg h2]
    rw [← h3]
theorem lr_at {g : mG} {ls : Array Slot} {L : List Value} (h : lr g ls L) {i : Nat} {v : Value} (hi : L[i]? = some v) (hn : v ≠ .null) : ls[i]? = some (.val (rv g v)) := h.2.2 (i, rv g v) (asc_mem.mpr ⟨v, hi, hn, rfl⟩)
theorem rv_cat {g : mG} (h9 : g9 g = .null ∨ ∃ a, g9 g = .ref a) (v : Value) : (rv g v).category = v.category := by
  cases v with
  | ref k =>
    show (if k < 1000 then Value.ref (gB g + k) else om g (k - 1000)).category = 1
    by_cases h1 : k < 1000
    · rw [if_pos h1]; rfl
    · rw [if_neg h1]
      unfold om
      by_cases h2 : k - 1000 = 9
      · rw [if_pos h2]
        rcases h9 with h | ⟨a, h⟩ <;> rw [h] <;> rfl
      · rw [if_neg h2]; rfl
  | _ => rfl
theorem mprev_spec {L : List Value} {i j : Nat} {w : Value} (h : mprev L i = false) (hj : L[j]? = some w) (e : j + 1 = i) : w.category ≠ 2 := by
  subst e
  simp only [mprev, hj] at h
  simpa using h
theorem lr_s1 {g : mG} (h9 : g9 g = .null ∨ ∃ a, g9 g = .ref a) {ls : Array Slot} {L : List Value} {i : Nat} {v : Value} (hp : mprev L i = false) (h : lv_has ls L.length ((i, rv g v) :: (asc g L).filter (fun q => !(q.1 == i) && !(q.1 + 1 == i && q.2.category == 2)))) : lr g ls (L.set i v) := by
  refine ⟨by rw [List.length_set]; exact h.1, h.2.1, fun q hq => h.2.2 q ?_⟩
  obtain ⟨w, h1, h2, h3⟩ := asc_mem.mp hq
  by_cases e : q.1 = i
  · rw [e, List.getElem?_set_self'] at h1
    cases hL : L[i]? with
    | none => rw [hL] at h1; cases h1
    | some z =>
      rw [hL] at h1
      simp at h1
      rw [← h1] at h3
      exact List.mem_cons.mpr (Or.inl (Prod.ext e h3))
  · rw [List.getElem?_set_ne (Ne.symm e)] at h1
    refine List.mem_cons_of_mem _ (List.mem_filter.mpr ⟨asc_mem.mpr ⟨w, h1, h2, h3⟩, ?_⟩)
    by_cases e2 : q.1 + 1 = i
    · have := mprev_spec hp h1 e2
      rw [h3, rv_cat h9]
      simp [e, this]
    · simp [e, e2]
theorem lr_s2 {g : mG} (h9 : g9 g = .null ∨ ∃ a, g9 g = .ref a) {ls : Array Slot} {L : List Value} {i : Nat} {v : Value} (hp : mprev L i = false) (h : lv_has ls L.length ((i, rv g v) :: (asc g L).filter (fun q => !(q.1 == i) && (!(q.1 == i + 1) && !(q.1 + 1 == i && q.2.category == 2))))) : lr g ls ((L.set i v).set (i + 1) .null) := by
  refine ⟨by rw [List.length_set, List.length_set]; exact h.1, h.2.1, fun q hq => h.2.2 q ?_⟩
  obtain ⟨w, h1, h2, h3⟩ := asc_mem.mp hq
  by_cases e0 : q.1 = i + 1
  · rw [e0, List.getElem?_set_self'] at h1
    cases hL : (L.set i v)[i + 1]? with
    | none => rw [hL] at h1; cases h1
    | some z =>
      rw [hL] at h1
      simp at h1
      exact absurd h1.symm h2
  · rw [List.getElem?_set_ne (Ne.symm e0)] at h1
    by_cases e : q.1 = i
    · rw [e, List.getElem?_set_self'] at h1
      cases hL : L[i]? with
      | none => rw [hL] at h1; cases h1
      | some z =>
        rw [hL] at h1
        simp at h1
        rw [← h1] at h3
        exact List.mem_cons.mpr (Or.inl (Prod.ext e h3))
    · rw [List.getElem?_set_ne (Ne.symm e)] at h1
      refine List.mem_cons_of_mem _ (List.mem_filter.mpr ⟨asc_mem.mpr ⟨w, h1, h2, h3⟩, ?_⟩)
      by_cases e2 : q.1 + 1 = i
      · have := mprev_spec hp h1 e2
        rw [h3, rv_cat h9]
        simp [e, e0, this]
      · simp [e, e0, e2]
-- what lies outside: the script, the static rows, the texts
def rof (g : mG) (U : State) (H : Heap) : Prop :=
  va_T .int (gO g 0) (gL g) (fun j => .int (gX g j)) (Ab g) U H ∧ va_Z "ThrownBack" "MOST_PUT" "[I" (.ref (gO g 1)) (Ab g) U H ∧ va_T .int (gO g 1) 5 (fun j => .int ((rot 0).getD j 0)) (Ab g) U H ∧
  va_Z "ThrownBack$Owner" "KIND_ABOVE" "[I" (.ref (gO g 2)) (Ab g) U H ∧ va_T .int (gO g 2) 6 (fun j => .int ((rot 1).getD j 0)) (Ab g) U H ∧ va_Z "java/lang/String" "COMPACT_STRINGS" "Z" (.int 1) (Ab g) U H ∧
  va_Z "jdk/internal/util/Preconditions" "SIOOBE_FORMATTER" "Ljava/util/function/BiFunction;" (g9 g) (Ab g) U H ∧
  vk_S 3 [ron 0, ron 1, ron 2] [roS 0, roS 1, roS 2] (fun i => gO g (3 + i)) (fun i => gO g (6 + i)) (Ab g) U H ∧
  (vk_R "ThrownBack" 50 (rotx 0) (gO g 3) U ∧ vk_R "ThrownBack$Reader" 95 (rotx 1) (gO g 4) U ∧ vk_R "ThrownBack$Reader" 109 (rotx 2) (gO g 5) U) ∧
  (va_AO "ThrownBack$Law" U ∧ va_AO "ThrownBack$Owner" U ∧ va_AO "ThrownBack$Sheet" U) ∧
  (va_Nw (.methodLinkNest "ThrownBack$Road" 36 ⟨"ThrownBack$Owner", "<init>", "()V"⟩ "ThrownBack") U ∧ va_Nw (.methodLinkNest "ThrownBack" 24 ⟨"ThrownBack$Reader", "<init>", "()V"⟩ "ThrownBack") U ∧ va_Nw (.methodLinkNest "ThrownBack" 43 ⟨"ThrownBack$Lots", "<init>", "()V"⟩ "ThrownBack") U ∧ va_Nw (.methodLinkNest "ThrownBack" 48 ⟨"ThrownBack$Law", "<init>", "()V"⟩ "ThrownBack") U ∧ va_Nw (.methodLinkNest "ThrownBack" 49 ⟨"ThrownBack$Sheet", "<init>", "()V"⟩ "ThrownBack") U)
theorem rof_kept {g : mG} {U : State} {H H1 : Heap} (h : rof g U H) (hq : ∀ a : Nat, a < H.size → ¬ Ab g a → H1[a]? = H[a]?) : rof g U H1 := by
  obtain ⟨a1, a2, a3, a4, a5, a6, a7, a8, a9⟩ := h
  exact ⟨a1.kept hq, a2.kept hq, a3.kept hq, a4.kept hq, a5.kept hq, a6.kept hq, a7.kept hq, a8.kept hq, a9⟩
theorem rof_warm {g : mG} {s U : State} {H : Heap} (hW : s.WarmedH U.vm) (h : rof g s H) : rof g U H := by
  obtain ⟨a1, a2, a3, a4, a5, a6, a7, a8, ⟨b1, b2, b3⟩, ⟨c1, c2, c3⟩, ⟨e1, e2, e3, e4, e5⟩⟩ := h
  have hv := hW.alike
  exact ⟨a1.moved hv, a2.moved hv, a3.moved hv, a4.moved hv, a5.moved hv, a6.moved hv, a7.moved hv, a8.moved hv, ⟨b1.warm hW, b2.warm hW, b3.warm hW⟩, ⟨c1.moved hv, c2.moved hv, c3.moved hv⟩, ⟨va_Nw.warmM hW e1, va_Nw.warmM hW e2, va_Nw.warmM hW e3, va_Nw.warmM hW e4, va_Nw.warmM hW e5⟩⟩
theorem rof_same {g : mG} {s U : State} {H : Heap} (hv : U.vm = s.vm) (h : rof g s H) : rof g U H := by
  obtain ⟨a1, a2, a3, a4, a5, a6, a7, a8, ⟨b1, b2, b3⟩, ⟨c1, c2, c3⟩, ⟨e1, e2, e3, e4, e5⟩⟩ := h
  have hv' : s.vm.Alike U.vm := by rw [hv]; exact Vm.Alike.refl _
  exact ⟨a1.moved hv', a2.moved hv', a3.moved hv', a4.moved hv', a5.moved hv', a6.moved hv', a7.moved hv', a8.moved hv', ⟨b1.same hv, b2.same hv, b3.same hv⟩, ⟨c1.moved hv', c2.moved hv', c3.moved hv'⟩, ⟨va_Nw.same rfl hv.symm e1, va_Nw.same rfl hv.symm e2, va_Nw.same rfl hv.symm e3, va_Nw.same rfl hv.symm e4, va_Nw.same rfl hv.symm e5⟩⟩
-- a frame of method y, that may call d deep
def cx (g : mG) (p : Program) (R : Room) (s : State) (m : MethodId) (meth : Method) (c : Code) (y d : Nat) (args : Array Value) : Prop :=
  p.tables.exec = Jvm.exec ∧ c.code = bt y ∧ meth.sig.returnType = mrt y ∧ c.maxLocals = mml y ∧ s.vm.findClass (cn (mow y)) = some m.cls ∧ (∀ w ∈ WS, w.before args s = true) ∧ meth.locks = false ∧ ((myn y).name = "<init>" → meth.name = "<init>") ∧
  va_K (gD g) mcl (tysm g) s ∧ rof g s s.heap ∧ d + 1 ≤ R.frames ∧ 64 * (d + 1) ≤ R.locals ∧ gB g ≤ s.heap.size ∧ (g9 g = .null ∨ ∃ a, g9 g = .ref a)
abbrev mR : Type := Nat × List Value × List Value × mM
def Kn (g : mG) (p : Program) (l : Launch) (e : Env) (R : Room) (s : State) (m : MethodId) (args : Array Value) (below : List Frame) (meth : Method) (c : Code) (y M0 : Nat) (Q : State → Prop) (r : mR) : Prop :=
  ∀ (H : Heap) (locs : List Loc) (ls : Array Slot), rp g r.2.2.2 H → va_S (Ab g) s.heap H locs → lr g ls r.2.1 → r.2.1.length = mml y →
    W p l e R s m args below meth c H locs (r.2.2.2.1 - M0) (1200 * (r.2.2.2.1 - M0)) Q (F0 m r.1 ls (r.2.2.1.map (rv g)))
theorem gt_some {α : Type} {P : Prop} [Decidable P] {x : Option α} {r : α} (h : (if P then x else none) = some r) : P ∧ x = some r := by
  by_cases hP : P
  · rw [if_pos hP] at h; exact ⟨hP, h⟩
  · rw [if_neg hP] at h; cases h
end
section
/-! STEPS WITHOUT A CELL (wip/whole/gen6.py) -/
section SNA
variable {g : mG} {p : Program} {l : Launch} {e : Env} {R : Room} {s : State} {m : MethodId} {args : Array Value} {below : List Frame} {meth : Method} {c : Code} {y d M0 len pc : Nat} {L st : List Value} {M : mM} {Q : State → Prop} {r : mR}
theorem iv_nx {pc2 : Nat} {L2 st2 : List Value} {M2 : mM} (h : mnx pc2 L2 st2 M2 = some (.inl r)) : r = (pc2, L2, st2, M2) := by
  simp only [mnx, Option.some.injEq, Sum.inl.injEq] at h
  exact h.symm
theorem iv_ldI {i pc2 : Nat} (h : mldI L i pc2 st M = some (.inl r)) : ∃ x, L[i]? = some (.int x) ∧ r = (pc2, L, .int x :: st, M) := by
  unfold mldI at h
  split at h
  · exact ⟨_, by assumption, iv_nx h⟩
  · cases h
theorem iv_ldL {i pc2 : Nat} (h : mldL L i pc2 st M = some (.inl r)) : ∃ x, L[i]? = some (.long x) ∧ r = (pc2, L, .long x :: st, M) := by
  unfold mldL at h
  split at h
  · exact ⟨_, by assumption, iv_nx h⟩
  · cases h
theorem iv_ldA {i pc2 : Nat} (h : mldA L i pc2 st M = some (.inl r)) : ∃ x, L[i]? = some (.ref x) ∧ x ≠ 1009 ∧ r = (pc2, L, .ref x :: st, M) := by
  unfold mldA at h
  split at h
  · split at h
    · cases h
    · exact ⟨_, by assumption, by assumption, iv_nx h⟩
  · cases h
theorem iv_st1 {i : Nat} {v : Value} {L2 : List Value} (h : mst1 L i v = some L2) : i < L.length ∧ mprev L i = false ∧ L2 = L.set i v := by
  obtain ⟨h1, h2⟩ := gt_some h
  exact ⟨h1.1, h1.2, (Option.some.inj h2).symm⟩
theorem iv_st2 {i : Nat} {v : Value} {L2 : List Value} (h : mst2 L i v = some L2) : i + 1 < L.length ∧ mprev L i = false ∧ L2 = (L.set i v).set (i + 1) .null := by
  obtain ⟨h1, h2⟩ := gt_some h
  exact ⟨h1.1, h1.2, (Option.some.inj h2).symm⟩
theorem iv_stI {i pc2 : Nat} (h : mstI L i pc2 st M = some (.inl r)) : ∃ x st2, st = .int x :: st2 ∧ i < L.length ∧ mprev L i = false ∧ r = (pc2, L.set i (.int x), st2, M) := by
  unfold mstI at h
  split at h
  · split at h
    · rename_i h2
      obtain ⟨h3, h4, rfl⟩ := iv_st1 h2
      exact ⟨_, _, rfl, h3, h4, iv_nx h⟩
    · cases h
  · cases h
theorem iv_stL {i pc2 : Nat} (h : mstL L i pc2 st M = some (.inl r)) : ∃ x st2, st = .long x :: st2 ∧ i + 1 < L.length ∧ mprev L i = false ∧ r = (pc2, (L.set i (.long x)).set (i + 1) .null, st2, M) := by
  unfold mstL at h
  split at h
  · split at h
    · rename_i h2
      obtain ⟨h3, h4, rfl⟩ := iv_st2 h2
      exact ⟨_, _, rfl, h3, h4, iv_nx h⟩
    · cases h
  · cases h
theorem iv_stA {i pc2 : Nat} (h : mstA L i pc2 st M = some (.inl r)) : ∃ x st2, st = .ref x :: st2 ∧ x ≠ 1009 ∧ i < L.length ∧ mprev L i = false ∧ r = (pc2, L.set i (.ref x), st2, M) := by
  unfold mstA at h
  split at h
  · split at h
    · cases h
    · split at h
      · rename_i h1 _ _ h2
        obtain ⟨h3, h4, rfl⟩ := iv_st1 h2
        exact ⟨_, _, rfl, h1, h3, h4, iv_nx h⟩
      · cases h
  · cases h
theorem iv_bin {f : Int32 → Int32 → Option Int32} {pc2 : Nat} (h : mbin f pc2 L st M = some (.inl r)) : ∃ x y z st2, st = .int y :: .int x :: st2 ∧ f x y = some z ∧ r = (pc2, L, .int z :: st2, M) := by
  unfold mbin at h
  split at h
  · split at h
    · exact ⟨_, _, _, _, rfl, by assumption, iv_nx h⟩
    · cases h
  · cases h
theorem iv_binL {f : Int64 → Int64 → Option Int64} {pc2 : Nat} (h : mbinL f pc2 L st M = some (.inl r)) : ∃ x y z st2, st = .long y :: .long x :: st2 ∧ f x y = some z ∧ r = (pc2, L, .long z :: st2, M) := by
  unfold mbinL at h
  split at h
  · split at h
    · exact ⟨_, _, _, _, rfl, by assumption, iv_nx h⟩
    · cases h
  · cases h
theorem iv_un {f : Int32 → Value} {pc2 : Nat} (h : mun f pc2 L st M = some (.inl r)) : ∃ x st2, st = .int x :: st2 ∧ r = (pc2, L, f x :: st2, M) := by
  unfold mun at h
  split at h
  · exact ⟨_, _, rfl, iv_nx h⟩
  · cases h
theorem iv_jmp {off : Int} {L2 st2 : List Value} {M2 : mM} (h : mjmp pc off L2 st2 M2 = some (.inl r)) : (pc : Int) + off = ((((pc : Int) + off).toNat : Nat) : Int) ∧ r = (((pc : Int) + off).toNat, L2, st2, M2) := by
  obtain ⟨h1, h2⟩ := gt_some h
  exact ⟨(Int.toNat_of_nonneg h1).symm, iv_nx h2⟩
theorem rv_ref {k : Nat} (h : k < 1000) : rv g (.ref k) = .ref (gB g + k) := by
  show (if k < 1000 then Value.ref (gB g + k) else om g (k - 1000)) = _
  rw [if_pos h]
theorem rv_out {k : Nat} (h : ¬ k < 1000) (h9 : k ≠ 1009) : rv g (.ref k) = .ref (gO g (k - 1000)) := by
  show (if k < 1000 then Value.ref (gB g + k) else om g (k - 1000)) = _
  rw [if_neg h]
  unfold om
  rw [if_neg (by omega)]
theorem rv_is {k : Nat} (h9 : k ≠ 1009) : ∃ a, rv g (.ref k) = .ref a := by
  by_cases h : k < 1000
  · exact ⟨_, rv_ref h⟩
  · exact ⟨_, rv_out h h9⟩
theorem sn_iload {i : Nat} (C : cx g p R s m meth c y d args) (hd : decode (bt y) pc = .ok (.iload i, len)) (hs : stp y (.iload i) len pc L st M = some (.inl r)) (k : Kn g p l e R s m args below meth c y M0 Q r) : Kn g p l e R s m args below meth c y M0 Q (pc, L, st, M) := by
  obtain ⟨hx, hb, -, hml, -, -, -, -, -, -, -, -, -, h9⟩ := C
  obtain ⟨rfl, hs2⟩ := gt_some (show (if len = 2 then mldI L i (pc + 2) st M else none) = some (.inl r) from hs)
  obtain ⟨x, h1, rfl⟩ := iv_ldI hs2
  intro H locs ls a1 a2 a3 a4
  exact lv_iload hx hb hd (lr_at a3 h1 (fun h => by cases h)) (k H locs ls a1 a2 a3 a4)
theorem sn_iload_n {i : Fin 4} (C : cx g p R s m meth c y d args) (hd : decode (bt y) pc = .ok (.iload_n i, len)) (hs : stp y (.iload_n i) len pc L st M = some (.inl r)) (k : Kn g p l e R s m args below meth c y M0 Q r) : Kn g p l e R s m args below meth c y M0 Q (pc, L, st, M) := by
  obtain ⟨hx, hb, -, hml, -, -, -, -, -, -, -, -, -, h9⟩ := C
  obtain ⟨rfl, hs2⟩ := gt_some (show (if len = 1 then mldI L i (pc + 1) st M else none) = some (.inl r) from hs)
  obtain ⟨x, h1, rfl⟩ := iv_ldI hs2
  intro H locs ls a1 a2 a3 a4
  exact lv_iload_n hx hb hd rfl (lr_at a3 h1 (fun h => by cases h)) (k H locs ls a1 a2 a3 a4)
theorem sn_lload {i : Nat} (C : cx g p R s m meth c y d args) (hd : decode (bt y) pc = .ok (.lload i, len)) (hs : stp y (.lload i) len pc L st M = some (.inl r)) (k : Kn g p l e R s m args below meth c y M0 Q r) : Kn g p l e R s m args below meth c y M0 Q (pc, L, st, M) := by
  obtain ⟨hx, hb, -, hml, -, -, -, -, -, -, -, -, -, h9⟩ := C
  obtain ⟨rfl, hs2⟩ := gt_some (show (if len = 2 then mldL L i (pc + 2) st M else none) = some (.inl r) from hs)
  obtain ⟨x, h1, rfl⟩ := iv_ldL hs2
  intro H locs ls a1 a2 a3 a4
  exact lv_lload hx hb hd (lr_at a3 h1 (fun h => by cases h)) (k H locs ls a1 a2 a3 a4)
theorem sn_lload_n {i : Fin 4} (C : cx g p R s m meth c y d args) (hd : decode (bt y) pc = .ok (.lload_n i, len)) (hs : stp y (.lload_n i) len pc L st M = some (.inl r)) (k : Kn g p l e R s m args below meth c y M0 Q r) : Kn g p l e R s m args below meth c y M0 Q (pc, L, st, M) := by
  obtain ⟨hx, hb, -, hml, -, -, -, -, -, -, -, -, -, h9⟩ := C
  obtain ⟨rfl, hs2⟩ := gt_some (show (if len = 1 then mldL L i (pc + 1) st M else none) = some (.inl r) from hs)
  obtain ⟨x, h1, rfl⟩ := iv_ldL hs2
  intro H locs ls a1 a2 a3 a4
  exact lv_lload_n hx hb hd rfl (lr_at a3 h1 (fun h => by cases h)) (k H locs ls a1 a2 a3 a4)
theorem sn_aload {i : Nat} (C : cx g p R s m meth c y d args) (hd : decode (bt y) pc = .ok (.aload i, len)) (hs : stp y (.aload i) len pc L st M = some (.inl r)) (k : Kn g p l e R s m args below meth c y M0 Q r) : Kn g p l e R s m args below meth c y M0 Q (pc, L, st, M) := by
  obtain ⟨hx, hb, -, hml, -, -, -, -, -, -, -, -, -, h9⟩ := C
  obtain ⟨rfl, hs2⟩ := gt_some (show (if len = 2 then mldA L i (pc + 2) st M else none) = some (.inl r) from hs)
  obtain ⟨x, h1, h2, rfl⟩ := iv_ldA hs2
  intro H locs ls a1 a2 a3 a4
  obtain ⟨a, ha⟩ := rv_is (g := g) h2
  have h3 := lr_at a3 h1 (fun h => by cases h)
  rw [ha] at h3
  have h4 := k H locs ls a1 a2 a3 a4
  dsimp only at h4
  rw [List.map_cons] at h4
  rw [ha] at h4
  exact lv_aload hx hb hd h3 h4
theorem sn_aload_n {i : Fin 4} (C : cx g p R s m meth c y d args) (hd : decode (bt y) pc = .ok (.aload_n i, len)) (hs : stp y (.aload_n i) len pc L st M = some (.inl r)) (k : Kn g p l e R s m args below meth c y M0 Q r) : Kn g p l e R s m args below meth c y M0 Q (pc, L, st, M) := by
  obtain ⟨hx, hb, -, hml, -, -, -, -, -, -, -, -, -, h9⟩ := C
  obtain ⟨rfl, hs2⟩ := gt_some (show (if len = 1 then mldA L i (pc + 1) st M else none) = some (.inl r) from hs)
  obtain ⟨x, h1, h2, rfl⟩ := iv_ldA hs2
  intro H locs ls a1 a2 a3 a4
  obtain ⟨a, ha⟩ := rv_is (g := g) h2
  have h3 := lr_at a3 h1 (fun h => by cases h)
  rw [ha] at h3
  have h4 := k H locs ls a1 a2 a3 a4
  dsimp only at h4
  rw [List.map_cons] at h4
  rw [ha] at h4
  exact lv_aload_n hx hb hd rfl h3 h4
theorem sn_istore {i : Nat} (C : cx g p R s m meth c y d args) (hd : decode (bt y) pc = .ok (.istore i, len)) (hs : stp y (.istore i) len pc L st M = some (.inl r)) (k : Kn g p l e R s m args below meth c y M0 Q r) : Kn g p l e R s m args below meth c y M0 Q (pc, L, st, M) := by
  obtain ⟨hx, hb, -, hml, -, -, -, -, -, -, -, -, -, h9⟩ := C
  obtain ⟨rfl, hs2⟩ := gt_some (show (if len = 2 then mstI L i (pc + 2) st M else none) = some (.inl r) from hs)
  obtain ⟨x, st2, rfl, h1, h2, rfl⟩ := iv_stI hs2
  intro H locs ls a1 a2 a3 a4
  exact lv_istore hx hb hd a3 h1 rfl (fun ls2 h3 => k H locs ls2 a1 a2 (lr_s1 h9 h2 h3) (by simpa using a4))
theorem sn_istore_n {i : Fin 4} (C : cx g p R s m meth c y d args) (hd : decode (bt y) pc = .ok (.istore_n i, len)) (hs : stp y (.istore_n i) len pc L st M = some (.inl r)) (k : Kn g p l e R s m args below meth c y M0 Q r) : Kn g p l e R s m args below meth c y M0 Q (pc, L, st, M) := by
  obtain ⟨hx, hb, -, hml, -, -, -, -, -, -, -, -, -, h9⟩ := C
  obtain ⟨rfl, hs2⟩ := gt_some (show (if len = 1 then mstI L i (pc + 1) st M else none) = some (.inl r) from hs)
  obtain ⟨x, st2, rfl, h1, h2, rfl⟩ := iv_stI hs2
  intro H locs ls a1 a2 a3 a4
  exact lv_istore_n hx hb hd rfl a3 h1 rfl (fun ls2 h3 => k H locs ls2 a1 a2 (lr_s1 h9 h2 h3) (by simpa using a4))
theorem sn_lstore {i : Nat} (C : cx g p R s m meth c y d args) (hd : decode (bt y) pc = .ok (.lstore i, len)) (hs : stp y (.lstore i) len pc L st M = some (.inl r)) (k : Kn g p l e R s m args below meth c y M0 Q r) : Kn g p l e R s m args below meth c y M0 Q (pc, L, st, M) := by
  obtain ⟨hx, hb, -, hml, -, -, -, -, -, -, -, -, -, h9⟩ := C
  obtain ⟨rfl, hs2⟩ := gt_some (show (if len = 2 then mstL L i (pc + 2) st M else none) = some (.inl r) from hs)
  obtain ⟨x, st2, rfl, h1, h2, rfl⟩ := iv_stL hs2
  intro H locs ls a1 a2 a3 a4
  exact lv_lstore hx hb hd a3 h1 rfl (fun ls2 h3 => k H locs ls2 a1 a2 (lr_s2 h9 h2 h3) (by simpa using a4))
theorem sn_lstore_n {i : Fin 4} (C : cx g p R s m meth c y d args) (hd : decode (bt y) pc = .ok (.lstore_n i, len)) (hs : stp y (.lstore_n i) len pc L st M = some (.inl r)) (k : Kn g p l e R s m args below meth c y M0 Q r) : Kn g p l e R s m args below meth c y M0 Q (pc, L, st, M) := by
  obtain ⟨hx, hb, -, hml, -, -, -, -, -, -, -, -, -, h9⟩ := C
  obtain ⟨rfl, hs2⟩ := gt_some (show (if len = 1 then mstL L i (pc + 1) st M else none) = some (.inl r) from hs)
  obtain ⟨x, st2, rfl, h1, h2, rfl⟩ := iv_stL hs2
  intro H locs ls a1 a2 a3 a4
  exact lv_lstore_n hx hb hd rfl a3 h1 rfl (fun ls2 h3 => k H locs ls2 a1 a2 (lr_s2 h9 h2 h3) (by simpa using a4))
theorem sn_astore {i : Nat} (C : cx g p R s m meth c y d args) (hd : decode (bt y) pc = .ok (.astore i, len)) (hs : stp y (.astore i) len pc L st M = some (.inl r)) (k : Kn g p l e R s m args below meth c y M0 Q r) : Kn g p l e R s m args below meth c y M0 Q (pc, L, st, M) := by
  obtain ⟨hx, hb, -, hml, -, -, -, -, -, -, -, -, -, h9⟩ := C
  obtain ⟨rfl, hs2⟩ := gt_some (show (if len = 2 then mstA L i (pc + 2) st M else none) = some (.inl r) from hs)
  obtain ⟨x, st2, rfl, h0, h1, h2, rfl⟩ := iv_stA hs2
  intro H locs ls a1 a2 a3 a4
  obtain ⟨a, ha⟩ := rv_is (g := g) h0
  show W _ _ _ _ _ _ _ _ _ _ _ _ _ _ _ (F0 m pc ls (rv g (.ref x) :: st2.map (rv g)))
  rw [ha]
  exact lv_astore hx hb hd a3 h1 rfl (fun ls2 h3 => k H locs ls2 a1 a2 (lr_s1 h9 h2 (by rw [ha]; exact h3)) (by simpa using a4))
theorem sn_astore_n {i : Fin 4} (C : cx g p R s m meth c y d args) (hd : decode (bt y) pc = .ok (.astore_n i, len)) (hs : stp y (.astore_n i) len pc L st M = some (.inl r)) (k : Kn g p l e R s m args below meth c y M0 Q r) : Kn g p l e R s m args below meth c y M0 Q (pc, L, st, M) := by
  obtain ⟨hx, hb, -, hml, -, -, -, -, -, -, -, -, -, h9⟩ := C
  obtain ⟨rfl, hs2⟩ := gt_some (show (if len = 1 then mstA L i (pc + 1) st M else none) = some (.inl r) from hs)
  obtain ⟨x, st2, rfl, h0, h1, h2, rfl⟩ := iv_stA hs2
  intro H locs ls a1 a2 a3 a4
  obtain ⟨a, ha⟩ := rv_is (g := g) h0
  show W _ _ _ _ _ _ _ _ _ _ _ _ _ _ _ (F0 m pc ls (rv g (.ref x) :: st2.map (rv g)))
  rw [ha]
  exact lv_astore_n hx hb hd rfl a3 h1 rfl (fun ls2 h3 => k H locs ls2 a1 a2 (lr_s1 h9 h2 (by rw [ha]; exact h3)) (by simpa using a4))
theorem sn_iconst {n : Int} (C : cx g p R s m meth c y d args) (hd : decode (bt y) pc = .ok (.iconst n, len)) (hs : stp y (.iconst n) len pc L st M = some (.inl r)) (k : Kn g p l e R s m args below meth c y M0 Q r) : Kn g p l e R s m args below meth c y M0 Q (pc, L, st, M) := by
  obtain ⟨hx, hb, -, hml, -, -, -, -, -, -, -, -, -, h9⟩ := C
  obtain ⟨rfl, hs2⟩ := gt_some (show (if len = 1 then mnx (pc + 1) L (.int (Int32.ofInt n) :: st) M else none) = some (.inl r) from hs)
  obtain rfl := iv_nx hs2
  intro H locs ls a1 a2 a3 a4
  exact lv_iconst hx hb hd rfl (k H locs ls a1 a2 a3 a4)
theorem sn_bipush {n : Int} (C : cx g p R s m meth c y d args) (hd : decode (bt y) pc = .ok (.bipush n, len)) (hs : stp y (.bipush n) len pc L st M = some (.inl r)) (k : Kn g p l e R s m args below meth c y M0 Q r) : Kn g p l e R s m args below meth c y M0 Q (pc, L, st, M) := by
  obtain ⟨hx, hb, -, hml, -, -, -, -, -, -, -, -, -, h9⟩ := C
  obtain ⟨rfl, hs2⟩ := gt_some (show (if len = 2 then mnx (pc + 2) L (.int (Int8.ofInt n).toInt32 :: st) M else none) = some (.inl r) from hs)
  obtain rfl := iv_nx hs2
  intro H locs ls a1 a2 a3 a4
  exact lv_bipush hx hb hd rfl (k H locs ls a1 a2 a3 a4)
theorem sn_sipush {n : Int} (C : cx g p R s m meth c y d args) (hd : decode (bt y) pc = .ok (.sipush n, len)) (hs : stp y (.sipush n) len pc L st M = some (.inl r)) (k : Kn g p l e R s m args below meth c y M0 Q r) : Kn g p l e R s m args below meth c y M0 Q (pc, L, st, M) := by
  obtain ⟨hx, hb, -, hml, -, -, -, -, -, -, -, -, -, h9⟩ := C
  obtain ⟨rfl, hs2⟩ := gt_some (show (if len = 3 then mnx (pc + 3) L (.int (Int16.ofInt n).toInt32 :: st) M else none) = some (.inl r) from hs)
  obtain rfl := iv_nx hs2
  intro H locs ls a1 a2 a3 a4
  exact lv_sipush hx hb hd rfl (k H locs ls a1 a2 a3 a4)
theorem sn_lconst {n : Fin 2} (C : cx g p R s m meth c y d args) (hd : decode (bt y) pc = .ok (.lconst n, len)) (hs : stp y (.lconst n) len pc L st M = some (.inl r)) (k : Kn g p l e R s m args below meth c y M0 Q r) : Kn g p l e R s m args below meth c y M0 Q (pc, L, st, M) := by
  obtain ⟨hx, hb, -, hml, -, -, -, -, -, -, -, -, -, h9⟩ := C
  obtain ⟨rfl, hs2⟩ := gt_some (show (if len = 1 then mnx (pc + 1) L (.long (Int64.ofNat (n : Nat)) :: st) M else none) = some (.inl r) from hs)
  obtain rfl := iv_nx hs2
  intro H locs ls a1 a2 a3 a4
  exact lv_lconst hx hb hd rfl (k H locs ls a1 a2 a3 a4)
theorem sn_iadd (C : cx g p R s m meth c y d args) (hd : decode (bt y) pc = .ok (.iadd, len)) (hs : stp y (.iadd) len pc L st M = some (.inl r)) (k : Kn g p l e R s m args below meth c y M0 Q r) : Kn g p l e R s m args below meth c y M0 Q (pc, L, st, M) := by
  obtain ⟨hx, hb, -, hml, -, -, -, -, -, -, -, -, -, h9⟩ := C
  obtain ⟨rfl, hs2⟩ := gt_some (show (if len = 1 then mbin (fun x y => some (x + y)) (pc + 1) L st M else none) = some (.inl r) from hs)
  obtain ⟨x, z, w, st2, rfl, h1, rfl⟩ := iv_bin hs2
  obtain rfl := Option.some.inj h1
  intro H locs ls a1 a2 a3 a4
  exact lv_iadd hx hb hd (k H locs ls a1 a2 a3 a4)
theorem sn_isub (C : cx g p R s m meth c y d args) (hd : decode (bt y) pc = .ok (.isub, len)) (hs : stp y (.isub) len pc L st M = some (.inl r)) (k : Kn g p l e R s m args below meth c y M0 Q r) : Kn g p l e R s m args below meth c y M0 Q (pc, L, st, M) := by
  obtain ⟨hx, hb, -, hml, -, -, -, -, -, -, -, -, -, h9⟩ := C
  obtain ⟨rfl, hs2⟩ := gt_some (show (if len = 1 then mbin (fun x y => some (x - y)) (pc + 1) L st M else none) = some (.inl r) from hs)
  obtain ⟨x, z, w, st2, rfl, h1, rfl⟩ := iv_bin hs2
  obtain rfl := Option.some.inj h1
  intro H locs ls a1 a2 a3 a4
  exact lv_isub hx hb hd (k H locs ls a1 a2 a3 a4)
theorem sn_imul (C : cx g p R s m meth c y d args) (hd : decode (bt y) pc = .ok (.imul, len)) (hs : stp y (.imul) len pc L st M = some (.inl r)) (k : Kn g p l e R s m args below meth c y M0 Q r) : Kn g p l e R s m args below meth c y M0 Q (pc, L, st, M) := by
  obtain ⟨hx, hb, -, hml, -, -, -, -, -, -, -, -, -, h9⟩ := C
  obtain ⟨rfl, hs2⟩ := gt_some (show (if len = 1 then mbin (fun x y => some (x * y)) (pc + 1) L st M else none) = some (.inl r) from hs)
  obtain ⟨x, z, w, st2, rfl, h1, rfl⟩ := iv_bin hs2
  obtain rfl := Option.some.inj h1
  intro H locs ls a1 a2 a3 a4
  exact lv_imul hx hb hd (k H locs ls a1 a2 a3 a4)
theorem sn_iand (C : cx g p R s m meth c y d args) (hd : decode (bt y) pc = .ok (.iand, len)) (hs : stp y (.iand) len pc L st M = some (.inl r)) (k : Kn g p l e R s m args below meth c y M0 Q r) : Kn g p l e R s m args below meth c y M0 Q (pc, L, st, M) := by
  obtain ⟨hx, hb, -, hml, -, -, -, -, -, -, -, -, -, h9⟩ := C
  obtain ⟨rfl, hs2⟩ := gt_some (show (if len = 1 then mbin (fun x y => some (x &&& y)) (pc + 1) L st M else none) = some (.inl r) from hs)
  obtain ⟨x, z, w, st2, rfl, h1, rfl⟩ := iv_bin hs2
  obtain rfl := Option.some.inj h1
  intro H locs ls a1 a2 a3 a4
  exact lv_iand hx hb hd (k H locs ls a1 a2 a3 a4)
theorem sn_ior (C : cx g p R s m meth c y d args) (hd : decode (bt y) pc = .ok (.ior, len)) (hs : stp y (.ior) len pc L st M = some (.inl r)) (k : Kn g p l e R s m args below meth c y M0 Q r) : Kn g p l e R s m args below meth c y M0 Q (pc, L, st, M) := by
  obtain ⟨hx, hb, -, hml, -, -, -, -, -, -, -, -, -, h9⟩ := C
  obtain ⟨rfl, hs2⟩ := gt_some (show (if len = 1 then mbin (fun x y => some (x ||| y)) (pc + 1) L st M else none) = some (.inl r) from hs)
  obtain ⟨x, z, w, st2, rfl, h1, rfl⟩ := iv_bin hs2
  obtain rfl := Option.some.inj h1
  intro H locs ls a1 a2 a3 a4
  exact lv_ior hx hb hd (k H locs ls a1 a2 a3 a4)
theorem sn_ishl (C : cx g p R s m meth c y d args) (hd : decode (bt y) pc = .ok (.ishl, len)) (hs : stp y (.ishl) len pc L st M = some (.inl r)) (k : Kn g p l e R s m args below meth c y M0 Q r) : Kn g p l e R s m args below meth c y M0 Q (pc, L, st, M) := by
  obtain ⟨hx, hb, -, hml, -, -, -, -, -, -, -, -, -, h9⟩ := C
  obtain ⟨rfl, hs2⟩ := gt_some (show (if len = 1 then mbin (fun x y => some (x <<< (y &&& 31))) (pc + 1) L st M else none) = some (.inl r) from hs)
  obtain ⟨x, z, w, st2, rfl, h1, rfl⟩ := iv_bin hs2
  obtain rfl := Option.some.inj h1
  intro H locs ls a1 a2 a3 a4
  exact lv_ishl hx hb hd (k H locs ls a1 a2 a3 a4)
theorem sn_ishr (C : cx g p R s m meth c y d args) (hd : decode (bt y) pc = .ok (.ishr, len)) (hs : stp y (.ishr) len pc L st M = some (.inl r)) (k : Kn g p l e R s m args below meth c y M0 Q r) : Kn g p l e R s m args below meth c y M0 Q (pc, L, st, M) := by
  obtain ⟨hx, hb, -, hml, -, -, -, -, -, -, -, -, -, h9⟩ := C
  obtain ⟨rfl, hs2⟩ := gt_some (show (if len = 1 then mbin (fun x y => some (x >>> (y &&& 31))) (pc + 1) L st M else none) = some (.inl r) from hs)
  obtain ⟨x, z, w, st2, rfl, h1, rfl⟩ := iv_bin hs2
  obtain rfl := Option.some.inj h1
  intro H locs ls a1 a2 a3 a4
  exact lv_ishr hx hb hd (k H locs ls a1 a2 a3 a4)
theorem sn_idiv (C : cx g p R s m meth c y d args) (hd : decode (bt y) pc = .ok (.idiv, len)) (hs : stp y (.idiv) len pc L st M = some (.inl r)) (k : Kn g p l e R s m args below meth c y M0 Q r) : Kn g p l e R s m args below meth c y M0 Q (pc, L, st, M) := by
  obtain ⟨hx, hb, -, hml, -, -, -, -, -, -, -, -, -, h9⟩ := C
  obtain ⟨rfl, hs2⟩ := gt_some (show (if len = 1 then mbin (fun x y => if y = 0 then none else some (x / y)) (pc + 1) L st M else none) = some (.inl r) from hs)
  obtain ⟨x, z, w, st2, rfl, h1, rfl⟩ := iv_bin hs2
  by_cases hz : z = 0
  · simp [hz] at h1
  simp only [if_neg hz] at h1
  obtain rfl := Option.some.inj h1
  intro H locs ls a1 a2 a3 a4
  exact lv_idiv hx hb hd hz (k H locs ls a1 a2 a3 a4)
theorem sn_irem (C : cx g p R s m meth c y d args) (hd : decode (bt y) pc = .ok (.irem, len)) (hs : stp y (.irem) len pc L st M = some (.inl r)) (k : Kn g p l e R s m args below meth c y M0 Q r) : Kn g p l e R s m args below meth c y M0 Q (pc, L, st, M) := by
  obtain ⟨hx, hb, -, hml, -, -, -, -, -, -, -, -, -, h9⟩ := C
  obtain ⟨rfl, hs2⟩ := gt_some (show (if len = 1 then mbin (fun x y => if y = 0 then none else some (x - x / y * y)) (pc + 1) L st M else none) = some (.inl r) from hs)
  obtain ⟨x, z, w, st2, rfl, h1, rfl⟩ := iv_bin hs2
  by_cases hz : z = 0
  · simp [hz] at h1
  simp only [if_neg hz] at h1
  obtain rfl := Option.some.inj h1
  intro H locs ls a1 a2 a3 a4
  exact lv_irem hx hb hd hz (k H locs ls a1 a2 a3 a4)
theorem sn_ladd (C : cx g p R s m meth c y d args) (hd : decode (bt y) pc = .ok (.ladd, len)) (hs : stp y (.ladd) len pc L st M = some (.inl r)) (k : Kn g p l e R s m args below meth c y M0 Q r) : Kn g p l e R s m args below meth c y M0 Q (pc, L, st, M) := by
  obtain ⟨hx, hb, -, hml, -, -, -, -, -, -, -, -, -, h9⟩ := C
  obtain ⟨rfl, hs2⟩ := gt_some (show (if len = 1 then mbinL (fun x y => some (x + y)) (pc + 1) L st M else none) = some (.inl r) from hs)
  obtain ⟨x, z, w, st2, rfl, h1, rfl⟩ := iv_binL hs2
  obtain rfl := Option.some.inj h1
  intro H locs ls a1 a2 a3 a4
  exact lv_ladd hx hb hd (k H locs ls a1 a2 a3 a4)
theorem sn_lmul (C : cx g p R s m meth c y d args) (hd : decode (bt y) pc = .ok (.lmul, len)) (hs : stp y (.lmul) len pc L st M = some (.inl r)) (k : Kn g p l e R s m args below meth c y M0 Q r) : Kn g p l e R s m args below meth c y M0 Q (pc, L, st, M) := by
  obtain ⟨hx, hb, -, hml, -, -, -, -, -, -, -, -, -, h9⟩ := C
  obtain ⟨rfl, hs2⟩ := gt_some (show (if len = 1 then mbinL (fun x y => some (x * y)) (pc + 1) L st M else none) = some (.inl r) from hs)
  obtain ⟨x, z, w, st2, rfl, h1, rfl⟩ := iv_binL hs2
  obtain rfl := Option.some.inj h1
  intro H locs ls a1 a2 a3 a4
  exact lv_lmul hx hb hd (k H locs ls a1 a2 a3 a4)
theorem sn_ldiv (C : cx g p R s m meth c y d args) (hd : decode (bt y) pc = .ok (.ldiv, len)) (hs : stp y (.ldiv) len pc L st M = some (.inl r)) (k : Kn g p l e R s m args below meth c y M0 Q r) : Kn g p l e R s m args below meth c y M0 Q (pc, L, st, M) := by
  obtain ⟨hx, hb, -, hml, -, -, -, -, -, -, -, -, -, h9⟩ := C
  obtain ⟨rfl, hs2⟩ := gt_some (show (if len = 1 then mbinL (fun x y => if y = 0 then none else some (x / y)) (pc + 1) L st M else none) = some (.inl r) from hs)
  obtain ⟨x, z, w, st2, rfl, h1, rfl⟩ := iv_binL hs2
  by_cases hz : z = 0
  · simp [hz] at h1
  simp only [if_neg hz] at h1
  obtain rfl := Option.some.inj h1
  intro H locs ls a1 a2 a3 a4
  exact lv_ldiv hx hb hd hz (k H locs ls a1 a2 a3 a4)
theorem sn_lrem (C : cx g p R s m meth c y d args) (hd : decode (bt y) pc = .ok (.lrem, len)) (hs : stp y (.lrem) len pc L st M = some (.inl r)) (k : Kn g p l e R s m args below meth c y M0 Q r) : Kn g p l e R s m args below meth c y M0 Q (pc, L, st, M) := by
  obtain ⟨hx, hb, -, hml, -, -, -, -, -, -, -, -, -, h9⟩ := C
  obtain ⟨rfl, hs2⟩ := gt_some (show (if len = 1 then mbinL (fun x y => if y = 0 then none else some (x - x / y * y)) (pc + 1) L st M else none) = some (.inl r) from hs)
  obtain ⟨x, z, w, st2, rfl, h1, rfl⟩ := iv_binL hs2
  by_cases hz : z = 0
  · simp [hz] at h1
  simp only [if_neg hz] at h1
  obtain rfl := Option.some.inj h1
  intro H locs ls a1 a2 a3 a4
  exact lv_lrem hx hb hd hz (k H locs ls a1 a2 a3 a4)
theorem sn_ineg (C : cx g p R s m meth c y d args) (hd : decode (bt y) pc = .ok (.ineg, len)) (hs : stp y (.ineg) len pc L st M = some (.inl r)) (k : Kn g p l e R s m args below meth c y M0 Q r) : Kn g p l e R s m args below meth c y M0 Q (pc, L, st, M) := by
  obtain ⟨hx, hb, -, hml, -, -, -, -, -, -, -, -, -, h9⟩ := C
  obtain ⟨rfl, hs2⟩ := gt_some (show (if len = 1 then mun (fun x => .int (-x)) (pc + 1) L st M else none) = some (.inl r) from hs)
  obtain ⟨x, st2, rfl, rfl⟩ := iv_un hs2
  intro H locs ls a1 a2 a3 a4
  exact lv_ineg hx hb hd (k H locs ls a1 a2 a3 a4)
theorem sn_i2l (C : cx g p R s m meth c y d args) (hd : decode (bt y) pc = .ok (.i2l, len)) (hs : stp y (.i2l) len pc L st M = some (.inl r)) (k : Kn g p l e R s m args below meth c y M0 Q r) : Kn g p l e R s m args below meth c y M0 Q (pc, L, st, M) := by
  obtain ⟨hx, hb, -, hml, -, -, -, -, -, -, -, -, -, h9⟩ := C
  obtain ⟨rfl, hs2⟩ := gt_some (show (if len = 1 then mun (fun x => .long x.toInt64) (pc + 1) L st M else none) = some (.inl r) from hs)
  obtain ⟨x, st2, rfl, rfl⟩ := iv_un hs2
  intro H locs ls a1 a2 a3 a4
  exact lv_i2l hx hb hd rfl (k H locs ls a1 a2 a3 a4)
theorem sn_i2b (C : cx g p R s m meth c y d args) (hd : decode (bt y) pc = .ok (.i2b, len)) (hs : stp y (.i2b) len pc L st M = some (.inl r)) (k : Kn g p l e R s m args below meth c y M0 Q r) : Kn g p l e R s m args below meth c y M0 Q (pc, L, st, M) := by
  obtain ⟨hx, hb, -, hml, -, -, -, -, -, -, -, -, -, h9⟩ := C
  obtain ⟨rfl, hs2⟩ := gt_some (show (if len = 1 then mun (fun x => .int x.toInt8.toInt32) (pc + 1) L st M else none) = some (.inl r) from hs)
  obtain ⟨x, st2, rfl, rfl⟩ := iv_un hs2
  intro H locs ls a1 a2 a3 a4
  exact lv_i2b hx hb hd rfl (k H locs ls a1 a2 a3 a4)
theorem sn_i2s (C : cx g p R s m meth c y d args) (hd : decode (bt y) pc = .ok (.i2s, len)) (hs : stp y (.i2s) len pc L st M = some (.inl r)) (k : Kn g p l e R s m args below meth c y M0 Q r) : Kn g p l e R s m args below meth c y M0 Q (pc, L, st, M) := by
  obtain ⟨hx, hb, -, hml, -, -, -, -, -, -, -, -, -, h9⟩ := C
  obtain ⟨rfl, hs2⟩ := gt_some (show (if len = 1 then mun (fun x => .int x.toInt16.toInt32) (pc + 1) L st M else none) = some (.inl r) from hs)
  obtain ⟨x, st2, rfl, rfl⟩ := iv_un hs2
  intro H locs ls a1 a2 a3 a4
  exact lv_i2s hx hb hd rfl (k H locs ls a1 a2 a3 a4)
theorem sn_i2c (C : cx g p R s m meth c y d args) (hd : decode (bt y) pc = .ok (.i2c, len)) (hs : stp y (.i2c) len pc L st M = some (.inl r)) (k : Kn g p l e R s m args below meth c y M0 Q r) : Kn g p l e R s m args below meth c y M0 Q (pc, L, st, M) := by
  obtain ⟨hx, hb, -, hml, -, -, -, -, -, -, -, -, -, h9⟩ := C
  obtain ⟨rfl, hs2⟩ := gt_some (show (if len = 1 then mun (fun x => .int (x.toUInt32 % 65536).toInt32) (pc + 1) L st M else none) = some (.inl r) from hs)
  obtain ⟨x, st2, rfl, rfl⟩ := iv_un hs2
  intro H locs ls a1 a2 a3 a4
  exact lv_i2c hx hb hd rfl (k H locs ls a1 a2 a3 a4)
theorem sn_l2i (C : cx g p R s m meth c y d args) (hd : decode (bt y) pc = .ok (.l2i, len)) (hs : stp y (.l2i) len pc L st M = some (.inl r)) (k : Kn g p l e R s m args below meth c y M0 Q r) : Kn g p l e R s m args below meth c y M0 Q (pc, L, st, M) := by
  obtain ⟨hx, hb, -, hml, -, -, -, -, -, -, -, -, -, h9⟩ := C
  simp only [stp] at hs
  obtain ⟨rfl, hs2⟩ := gt_some hs
  split at hs2
  · obtain rfl := iv_nx hs2
    intro H locs ls a1 a2 a3 a4
    exact lv_l2i hx hb hd rfl (k H locs ls a1 a2 a3 a4)
  · cases hs2
theorem sn_lcmp (C : cx g p R s m meth c y d args) (hd : decode (bt y) pc = .ok (.lcmp, len)) (hs : stp y (.lcmp) len pc L st M = some (.inl r)) (k : Kn g p l e R s m args below meth c y M0 Q r) : Kn g p l e R s m args below meth c y M0 Q (pc, L, st, M) := by
  obtain ⟨hx, hb, -, hml, -, -, -, -, -, -, -, -, -, h9⟩ := C
  simp only [stp] at hs
  obtain ⟨rfl, hs2⟩ := gt_some hs
  split at hs2
  · obtain rfl := iv_nx hs2
    intro H locs ls a1 a2 a3 a4
    exact W.lcmp hx hb hd (k H locs ls a1 a2 a3 a4)
  · cases hs2
theorem sn_dup (C : cx g p R s m meth c y d args) (hd : decode (bt y) pc = .ok (.dup, len)) (hs : stp y (.dup) len pc L st M = some (.inl r)) (k : Kn g p l e R s m args below meth c y M0 Q r) : Kn g p l e R s m args below meth c y M0 Q (pc, L, st, M) := by
  obtain ⟨hx, hb, -, hml, -, -, -, -, -, -, -, -, -, h9⟩ := C
  simp only [stp] at hs
  obtain ⟨rfl, hs2⟩ := gt_some hs
  split at hs2
  · obtain ⟨h1, hs2⟩ := gt_some hs2
    obtain rfl := iv_nx hs2
    intro H locs ls a1 a2 a3 a4
    exact lv_dup hx hb hd (by rw [rv_cat h9]; exact h1) (k H locs ls a1 a2 a3 a4)
  · cases hs2
theorem sn_pop (C : cx g p R s m meth c y d args) (hd : decode (bt y) pc = .ok (.pop, len)) (hs : stp y (.pop) len pc L st M = some (.inl r)) (k : Kn g p l e R s m args below meth c y M0 Q r) : Kn g p l e R s m args below meth c y M0 Q (pc, L, st, M) := by
  obtain ⟨hx, hb, -, hml, -, -, -, -, -, -, -, -, -, h9⟩ := C
  simp only [stp] at hs
  obtain ⟨rfl, hs2⟩ := gt_some hs
  split at hs2
  · obtain ⟨h1, hs2⟩ := gt_some hs2
    obtain rfl := iv_nx hs2
    intro H locs ls a1 a2 a3 a4
    exact lv_pop hx hb hd (by rw [rv_cat h9]; exact h1) (k H locs ls a1 a2 a3 a4)
  · cases hs2
theorem sn_dup2 (C : cx g p R s m meth c y d args) (hd : decode (bt y) pc = .ok (.dup2, len)) (hs : stp y (.dup2) len pc L st M = some (.inl r)) (k : Kn g p l e R s m args below meth c y M0 Q r) : Kn g p l e R s m args below meth c y M0 Q (pc, L, st, M) := by
  obtain ⟨hx, hb, -, hml, -, -, -, -, -, -, -, -, -, h9⟩ := C
  simp only [stp] at hs
  obtain ⟨rfl, hs2⟩ := gt_some hs
  split at hs2
  · obtain ⟨h1, hs2⟩ := gt_some hs2
    obtain rfl := iv_nx hs2
    intro H locs ls a1 a2 a3 a4
    exact lv_dup2_11 hx hb hd (by rw [rv_cat h9]; exact h1.1) (by rw [rv_cat h9]; exact h1.2) (k H locs ls a1 a2 a3 a4)
  · cases hs2
theorem sn_iinc {i : Nat} {n : Int} (C : cx g p R s m meth c y d args) (hd : decode (bt y) pc = .ok (.iinc i n, len)) (hs : stp y (.iinc i n) len pc L st M = some (.inl r)) (k : Kn g p l e R s m args below meth c y M0 Q r) : Kn g p l e R s m args below meth c y M0 Q (pc, L, st, M) := by
  obtain ⟨hx, hb, -, hml, -, -, -, -, -, -, -, -, -, h9⟩ := C
  simp only [stp] at hs
  obtain ⟨rfl, hs2⟩ := gt_some hs
  split at hs2
  · rename_i x hx1
    split at hs2
    · rename_i L2 h2
      obtain ⟨h3, h4, rfl⟩ := iv_st1 h2
      obtain rfl := iv_nx hs2
      intro H locs ls a1 a2 a3 a4
      obtain ⟨q, hq⟩ := List.getElem?_of_mem (asc_mem (g := g) (L := L) (q := (i, .int x)).mpr ⟨.int x, hx1, (fun h => by cases h), rfl⟩)
      exact lv_iinc (v := x + Int32.ofInt n) hx hb hd a3 hq rfl h3 rfl (fun ls2 h5 => k H locs ls2 a1 a2 (lr_s1 h9 h4 h5) (by simpa using a4))
    · cases hs2
  · cases hs2
theorem sn_ifCond {q : Jvm.ClassFile.Cond} {off : Int} (C : cx g p R s m meth c y d args) (hd : decode (bt y) pc = .ok (.ifCond q off, len)) (hs : stp y (.ifCond q off) len pc L st M = some (.inl r)) (k : Kn g p l e R s m args below meth c y M0 Q r) : Kn g p l e R s m args below meth c y M0 Q (pc, L, st, M) := by
  obtain ⟨hx, hb, -, hml, -, -, -, -, -, -, -, -, -, h9⟩ := C
  simp only [stp] at hs
  obtain ⟨⟨rfl, h0⟩, hs2⟩ := gt_some hs
  have ht : (pc : Int) + off = ((((pc : Int) + off).toNat : Nat) : Int) := (Int.toNat_of_nonneg h0).symm
  split at hs2
  · obtain rfl := iv_nx hs2
    intro H locs ls a1 a2 a3 a4
    have h4 := k H locs ls a1 a2 a3 a4
    dsimp only at h4
    cases q
    · refine lv_if_eq hx hb hd ht (fun h => ?_) (fun h => ?_)
      · simpa [mcd, h] using h4
      · simpa [mcd, h] using h4
    · refine lv_if_ne hx hb hd ht (fun h => ?_) (fun h => ?_)
      · simpa [mcd, h] using h4
      · simpa [mcd, h] using h4
    · refine lv_if_lt hx hb hd ht (fun h => ?_) (fun h => ?_)
      · simpa [mcd, h] using h4
      · simpa [mcd, h] using h4
    · refine lv_if_ge hx hb hd ht (fun h => ?_) (fun h => ?_)
      · simpa [mcd, h] using h4
      · simpa [mcd, h] using h4
    · refine lv_if_gt hx hb hd ht (fun h => ?_) (fun h => ?_)
      · simpa [mcd, h] using h4
      · simpa [mcd, h] using h4
    · refine lv_if_le hx hb hd ht (fun h => ?_) (fun h => ?_)
      · simpa [mcd, h] using h4
      · simpa [mcd, h] using h4
  · cases hs2
theorem sn_if_icmp {q : Jvm.ClassFile.Cond} {off : Int} (C : cx g p R s m meth c y d args) (hd : decode (bt y) pc = .ok (.if_icmp q off, len)) (hs : stp y (.if_icmp q off) len pc L st M = some (.inl r)) (k : Kn g p l e R s m args below meth c y M0 Q r) : Kn g p l e R s m args below meth c y M0 Q (pc, L, st, M) := by
  obtain ⟨hx, hb, -, hml, -, -, -, -, -, -, -, -, -, h9⟩ := C
  simp only [stp] at hs
  obtain ⟨⟨rfl, h0⟩, hs2⟩ := gt_some hs
  have ht : (pc : Int) + off = ((((pc : Int) + off).toNat : Nat) : Int) := (Int.toNat_of_nonneg h0).symm
  split at hs2
  · obtain rfl := iv_nx hs2
    intro H locs ls a1 a2 a3 a4
    have h4 := k H locs ls a1 a2 a3 a4
    dsimp only at h4
    cases q
    · refine lv_icmp_eq hx hb hd ht (fun h => ?_) (fun h => ?_)
      · simpa [mcd, h] using h4
      · simpa [mcd, h] using h4
    · refine lv_icmp_ne hx hb hd ht (fun h => ?_) (fun h => ?_)
      · simpa [mcd, h] using h4
      · simpa [mcd, h] using h4
    · refine lv_icmp_lt hx hb hd ht (fun h => ?_) (fun h => ?_)
      · simpa [mcd, h] using h4
      · simpa [mcd, h] using h4
    · refine lv_icmp_ge hx hb hd ht (fun h => ?_) (fun h => ?_)
      · simpa [mcd, h] using h4
      · simpa [mcd, h] using h4
    · refine lv_icmp_gt hx hb hd ht (fun h => ?_) (fun h => ?_)
      · simpa [mcd, h] using h4
      · simpa [mcd, h] using h4
    · refine lv_icmp_le hx hb hd ht (fun h => ?_) (fun h => ?_)
      · simpa [mcd, h] using h4
      · simpa [mcd, h] using h4
  · cases hs2
theorem sn_goto {off : Int} (C : cx g p R s m meth c y d args) (hd : decode (bt y) pc = .ok (.goto off, len)) (hs : stp y (.goto off) len pc L st M = some (.inl r)) (k : Kn g p l e R s m args below meth c y M0 Q r) : Kn g p l e R s m args below meth c y M0 Q (pc, L, st, M) := by
  obtain ⟨hx, hb, -, hml, -, -, -, -, -, -, -, -, -, h9⟩ := C
  obtain ⟨rfl, hs2⟩ := gt_some (show (if len = 3 then mjmp pc off L st M else none) = some (.inl r) from hs)
  obtain ⟨h1, rfl⟩ := iv_jmp hs2
  intro H locs ls a1 a2 a3 a4
  exact lv_goto hx hb hd h1 (k H locs ls a1 a2 a3 a4)
theorem iv_sw {f : Int → Option Int} (h : msw pc f L st M = some (.inl r)) : ∃ x st2 off, st = .int x :: st2 ∧ f x.toInt = some off ∧ (pc : Int) + off = ((((pc : Int) + off).toNat : Nat) : Int) ∧ r = (((pc : Int) + off).toNat, L, st2, M) := by
  unfold msw at h
  split at h
  · split at h
    · obtain ⟨h1, h2⟩ := iv_jmp h
      exact ⟨_, _, _, rfl, by assumption, h1, h2⟩
    · cases h
  · cases h
theorem sn_tableswitch {q lo hi : Int} {os : Array Int} (C : cx g p R s m meth c y d args) (hd : decode (bt y) pc = .ok (.tableswitch q lo hi os, len)) (hs : stp y (.tableswitch q lo hi os) len pc L st M = some (.inl r)) (k : Kn g p l e R s m args below meth c y M0 Q r) : Kn g p l e R s m args below meth c y M0 Q (pc, L, st, M) := by
  obtain ⟨hx, hb, -, hml, -, -, -, -, -, -, -, -, -, h9⟩ := C
  obtain ⟨x, st2, off, rfl, h1, h2, rfl⟩ := iv_sw (show msw pc (fun x => if x < lo ∨ hi < x then some q else os[(x - lo).toNat]?) L st M = some (.inl r) from hs)
  intro H locs ls a1 a2 a3 a4
  by_cases hc : x.toInt < lo ∨ hi < x.toInt
  · simp only [if_pos hc] at h1
    obtain rfl := Option.some.inj h1
    exact lv_tableOut hx hb hd hc h2 (k H locs ls a1 a2 a3 a4)
  · simp only [if_neg hc] at h1
    exact lv_tableIn hx hb hd (fun h => hc (Or.inl h)) (fun h => hc (Or.inr h)) h1 h2 (k H locs ls a1 a2 a3 a4)
theorem sn_lookupswitch {q : Int} {ps : Array (Int × Int)} (C : cx g p R s m meth c y d args) (hd : decode (bt y) pc = .ok (.lookupswitch q ps, len)) (hs : stp y (.lookupswitch q ps) len pc L st M = some (.inl r)) (k : Kn g p l e R s m args below meth c y M0 Q r) : Kn g p l e R s m args below meth c y M0 Q (pc, L, st, M) := by
  obtain ⟨hx, hb, -, hml, -, -, -, -, -, -, -, -, -, h9⟩ := C
  obtain ⟨hp, hs⟩ := gt_some (show (if (ps.toList.zip (ps.toList.drop 1)).all (fun (a, next) => a.1 < next.1) = true then msw pc (fun x => some (Op.lookupswitch.offset ps.toList q x)) L st M else none) = some (.inl r) from hs)
  obtain ⟨x, st2, off, rfl, h1, h2, rfl⟩ := iv_sw hs
  intro H locs ls a1 a2 a3 a4
  exact lv_lookup hx hb hd hp (Option.some.inj h1) h2 (k H locs ls a1 a2 a3 a4)
end SNA
end
section
/-! STEPS ON CELLS (wip/whole/gen7.py) -/
def znm (z n : Nat) : Bool := decide ((parseMethodDescriptor (myn z).desc).map (fun d => d.parameters.length) = some n)
/-- what the table of links is like -/
def lkt (c : Nat) (e : lE) : Bool := match e with
  | (_, 1, a, b) => decide (a < 8) && decide (b < nNN a)
  | (_, 16, a, _) => decide (a < 2)
  | (_, 3, a, _) => decide (a < 4)
  | (_, 4, z, n) => decide (0 < z) && decide (z < 212) && decide (mow z < 8) && znm z n
  | (_, 15, z, n) => decide (0 < z) && decide (z < 212) && decide (mow z = 8) && znm z n
  | (_, 5, z, n) => decide (0 < z) && decide (z < 212) && znm z n
  | (_, 6, z, n) => decide (0 < z) && decide (z < 212) && znm z n && decide ((myn z).name = "<init>") && decide (mrt z = none)
  | (i, 7, z, n) => decide (0 < z) && decide (z < 212) && znm z n && decide ((myn z).name = "<init>") && decide (mrt z = none) &&
    (decide (c = 4 ∧ i = 36 ∧ myn z = ⟨"ThrownBack$Owner", "<init>", "()V"⟩) || decide (c = 6 ∧ i = 24 ∧ myn z = ⟨"ThrownBack$Reader", "<init>", "()V"⟩) || decide (c = 6 ∧ i = 43 ∧ myn z = ⟨"ThrownBack$Lots", "<init>", "()V"⟩) || decide (c = 6 ∧ i = 48 ∧ myn z = ⟨"ThrownBack$Law", "<init>", "()V"⟩) || decide (c = 6 ∧ i = 49 ∧ myn z = ⟨"ThrownBack$Sheet", "<init>", "()V"⟩))
  | (_, 10, a, b) => decide (a < 8) && decide (b = nNN a)
  | (_, 11, a, _) => decide (a = 0) || decide (a = 2) || decide (a = 5)
  | (i, 14, a, _) => decide (c = 6 ∧ i = 50 ∧ a = 1003) || decide (c = 3 ∧ i = 95 ∧ a = 1004) || decide (c = 3 ∧ i = 109 ∧ a = 1005)
  | _ => true
theorem lkt_all : ∀ c, c < 13 → (lkl c).all (lkt c) = true := by decide +kernel
theorem lk_mem {c i : Nat} (h : (lk c i).1 ≠ 0) : c < 13 ∧ (i, lk c i) ∈ lkl c := by
  unfold lk at h ⊢
  cases hf : (lkl c).find? (fun e => e.1 == i) with
  | none => rw [hf] at h; exact absurd rfl h
  | some e =>
    have h1 := List.find?_some hf
    simp only [beq_iff_eq] at h1
    have h2 := List.mem_of_find?_eq_some hf
    refine ⟨?_, by rw [← h1]; exact h2⟩
    by_cases hc : c < 13
    · exact hc
    · have h3 : lkl c = [] := by
        match c, hc with
        | c + 13, _ => rfl
        | 0, hc | 1, hc | 2, hc | 3, hc | 4, hc | 5, hc | 6, hc | 7, hc | 8, hc | 9, hc | 10, hc | 11, hc | 12, hc => exact absurd (by decide) hc
      rw [h3] at h2
      cases h2
theorem lk_t {c i : Nat} {x : Nat × Nat × Nat} (hx : lk c i = x) (h : x.1 ≠ 0) : lkt c (i, x) = true := by
  subst hx
  obtain ⟨h1, h2⟩ := lk_mem h
  exact List.all_eq_true.mp (lkt_all c h1) _ h2
theorem lk_w {c i : Nat} {x : Nat × Nat × Nat} (hx : lk c i = x) (h : x.1 ≠ 0) : ∀ w ∈ lw c (i, x), w ∈ WS := by
  subst hx
  exact lkw c i h

theorem cl_in {a : Nat} (h : a < 8) : ∀ w ∈ u_ws (cn a) (nTT a) (nNN a), w ∈ WS := by
  match a, h with
  | 0, _ => exact nin0
  | 1, _ => exact nin1
  | 2, _ => exact nin2
  | 3, _ => exact nin3
  | 4, _ => exact nin4
  | 5, _ => exact nin5
  | 6, _ => exact nin6
  | 7, _ => exact nin7
  | a + 8, h => exact absurd h (by omega)
theorem cl_at {a : Nat} (h : a < 8) : mcl[a]? = some (cn a, nTT a, nNN a) := by
  match a, h with
  | 0, _ => exact rfl
  | 1, _ => exact rfl
  | 2, _ => exact rfl
  | 3, _ => exact rfl
  | 4, _ => exact rfl
  | 5, _ => exact rfl
  | 6, _ => exact rfl
  | 7, _ => exact rfl
  | a + 8, h => exact absurd h (by omega)
theorem cl_ok {a : Nat} (h : a < 8) : ∀ k, k < nNN a → parseFieldDescriptor (nTT a k).2.2.1 = some (nYY a k) := by
  match a, h with
  | 0, _ => exact nok0
  | 1, _ => exact nok1
  | 2, _ => exact nok2
  | 3, _ => exact nok3
  | 4, _ => exact nok4
  | 5, _ => exact nok5
  | 6, _ => exact nok6
  | 7, _ => exact nok7
  | a + 8, h => exact absurd h (by omega)
theorem cl_nm {a : Nat} (h : a < 8) : ∀ x, x < nNN a → ∀ z, z < nNN a → x ≠ z → (nTT a x).2.1 ≠ (nTT a z).2.1 := by
  match a, h with
  | 0, _ => exact nnm0
  | 1, _ => exact nnm1
  | 2, _ => exact nnm2
  | 3, _ => exact nnm3
  | 4, _ => exact nnm4
  | 5, _ => exact nnm5
  | 6, _ => exact nnm6
  | 7, _ => exact nnm7
  | a + 8, h => exact absurd h (by omega)
section SNC
variable {g : mG} {p : Program} {l : Launch} {e : Env} {R : Room} {s : State} {m : MethodId} {args : Array Value} {below : List Frame} {meth : Method} {c : Code} {y d M0 len pc : Nat} {L st : List Value} {M : mM} {Q : State → Prop} {r : mR}
theorem mok_ok {ty : FieldType} {v : Value} (h : mok ty v = true) : narrow ty (rv g v) = rv g v ∧ fits ty (rv g v) = true := by
  unfold mok at h
  split at h
  · exact ⟨rfl, rfl⟩
  · simp only [Bool.or_eq_true, decide_eq_true_eq] at h
    rcases h with h | h <;> subst h <;> exact ⟨rfl, rfl⟩
  · exact ⟨rfl, rfl⟩
  · rw [rv_ref (by simpa using h)]; exact ⟨rfl, rfl⟩
  · rw [rv_ref (by simpa using h)]; exact ⟨rfl, rfl⟩
  · cases h
theorem rv_o2 {k j : Nat} (h : ¬ k < 1000) (h9 : k ≠ 1009) (e : k = 1000 + j) : rv g (.ref k) = .ref (gO g j) := by
  have h1 := rv_out (g := g) h h9
  subst e
  rw [Nat.add_sub_cancel_left] at h1
  exact h1
theorem w_sz {H : Heap} {locs : List Loc} {slots : Nat} {gg : JFrame} (hz : s.heap.size = gB g + M0) (h0 : M0 ≤ M.1) (a1 : rp g M H) (a2 : va_S (Ab g) s.heap H locs) (k : H.size = gB g + M.1 → W p l e R s m args below meth c H locs (M.1 - M0) slots Q gg) : W p l e R s m args below meth c H locs (M.1 - M0) slots Q gg := by
  intro T hT X
  refine k ?_ T hT X
  have h1 : (T.setVm s.vm).heap.size ≤ s.heap.size + (M.1 - M0) := X.same.2.2.1
  have h2 : (T.setVm s.vm).heap = H := hT
  rw [h2] at h1
  have h3 : gB g + M.1 ≤ H.size := by
    by_cases h4 : M.1 = 0
    · have := a2.1; omega
    · have h5 := (a1.2.2.2 (M.1 - 1) _ (wo_get (by omega))).lt
      simp only at h5
      omega
  omega
theorem w_nq {H1 : Heap} {locs : List Loc} {slots q : Nat} {x : va_E} {gg : JFrame} (hz : s.heap.size = gB g + M0) (h0 : M0 ≤ M.1) (hP : va_P (gD g) mcl (wo g M ++ [(q, x)]) H1) (hD : va_D (Ab g) (wo g M ++ [(q, x)])) (k : q = gB g + M.1 → W p l e R s m args below meth c H1 locs (M.1 - M0 + 1) slots Q gg) : W p l e R s m args below meth c H1 locs (M.1 - M0 + 1) slots Q gg := by
  intro T hT X
  refine k ?_ T hT X
  have h1 : (T.setVm s.vm).heap.size ≤ s.heap.size + (M.1 - M0 + 1) := X.same.2.2.1
  have h2 : (T.setVm s.vm).heap = H1 := hT
  rw [h2] at h1
  have hw : (wo g M).length = M.1 := by simp [wo]
  have h3 : (wo g M ++ [(q, x)])[M.1]? = some (q, x) := by
    rw [List.getElem?_append_right (by omega), hw]
    simp
  have h4 : q < H1.size := (hP M.1 _ h3).lt
  have h5 : gB g ≤ q := hD.2 M.1 _ h3
  by_cases h6 : q - gB g < M.1
  · have h7 := hD.1 (q - gB g) M.1 _ _ (by rw [List.getElem?_append_left (by omega)]; exact wo_get h6) h3 (by show gB g + (q - gB g) = q; omega)
    omega
  · omega
theorem hK_int (hK : va_K (gD g) mcl (tysm g) s) {cI : ClassId} (h : va_K (gD g) mcl (tysm g ++ [(cI, .int)]) s) : cI = gA g 9 := by
  have h1 : s.vm.findClass ("[" ++ FieldType.int.toString) = some cI := (h.2 4 (cI, .int) rfl).2
  have h2 : s.vm.findClass ("[" ++ FieldType.int.toString) = some (gA g 9) := (hK.2 0 (gA g 9, .int) rfl).2
  exact Option.some.inj (h1.symm.trans h2)
theorem hK_obj (hK : va_K (gD g) mcl (tysm g) s) {cI : ClassId} {C : String} {i a : Nat} (hi : (tysm g)[i]? = some (gA g a, .object C)) (h : va_K (gD g) mcl (tysm g ++ [(cI, .object C)]) s) : cI = gA g a := by
  obtain ⟨_, _, -, -, -, h1⟩ := (h.2 4 (cI, .object C) rfl).2
  obtain ⟨_, _, -, -, -, h2⟩ := (hK.2 i _ hi).2
  exact Option.some.inj (h1.symm.trans h2)
theorem sn_ldc {i : Nat} (C : cx g p R s m meth c y d args) (hd : decode (bt y) pc = .ok (.ldc i, len)) (hs : stp y (.ldc i) len pc L st M = some (.inl r)) (k : Kn g p l e R s m args below meth c y M0 Q r) : Kn g p l e R s m args below meth c y M0 Q (pc, L, st, M) := by
  obtain ⟨hx, hb, -, hml, hown, hts, -, hini, hK, hF, hfr, hlo, hbs, h9⟩ := C
  simp only [stp] at hs
  obtain ⟨rfl, hs2⟩ := gt_some hs
  generalize hlk : lk (mow y) i = q at hs2
  split at hs2
  · rename_i a b
    obtain rfl := iv_nx hs2
    have hw := hts _ (lk_w hlk (by simp) _ List.mem_cons_self)
    intro H locs ls a1 a2 a3 a4
    exact lv_ldc hx hb hown hw hd (k H locs ls a1 a2 a3 a4)
  · rename_i a b
    obtain rfl := iv_nx hs2
    have ht := lk_t hlk (by simp)
    simp only [lkt, Bool.or_eq_true, decide_eq_true_eq] at ht
    obtain ⟨-, -, -, -, -, -, -, -, ⟨b1, b2, b3⟩, -⟩ := hF
    intro H locs ls a1 a2 a3 a4
    have h4 := k H locs ls a1 a2 a3 a4
    dsimp only at h4
    rw [List.map_cons] at h4
    rcases ht with (⟨e1, e2, e3⟩ | ⟨e1, e2, e3⟩) | ⟨e1, e2, e3⟩
    · subst e2; subst e3
      rw [e1] at hown
      exact va_ldcS hx hb hown b1 hd h4
    · subst e2; subst e3
      rw [e1] at hown
      exact va_ldcS hx hb hown b2 hd h4
    · subst e2; subst e3
      rw [e1] at hown
      exact va_ldcS hx hb hown b3 hd h4
  · cases hs2
theorem sn_ldc2_w {i : Nat} (C : cx g p R s m meth c y d args) (hd : decode (bt y) pc = .ok (.ldc2_w i, len)) (hs : stp y (.ldc2_w i) len pc L st M = some (.inl r)) (k : Kn g p l e R s m args below meth c y M0 Q r) : Kn g p l e R s m args below meth c y M0 Q (pc, L, st, M) := by
  obtain ⟨hx, hb, -, hml, hown, hts, -, hini, hK, hF, hfr, hlo, hbs, h9⟩ := C
  simp only [stp] at hs
  obtain ⟨rfl, hs2⟩ := gt_some hs
  generalize hlk : lk (mow y) i = q at hs2
  split at hs2
  · rename_i a b
    obtain rfl := iv_nx hs2
    have hw := hts _ (lk_w hlk (by simp) _ List.mem_cons_self)
    intro H locs ls a1 a2 a3 a4
    exact lv_ldc2 hx hb hown hw hd (k H locs ls a1 a2 a3 a4)
  · cases hs2
theorem sn_ldc_w {i : Nat} (C : cx g p R s m meth c y d args) (hd : decode (bt y) pc = .ok (.ldc_w i, len)) (hs : stp y (.ldc_w i) len pc L st M = some (.inl r)) (k : Kn g p l e R s m args below meth c y M0 Q r) : Kn g p l e R s m args below meth c y M0 Q (pc, L, st, M) := by
  obtain ⟨hx, hb, -, hml, hown, hts, -, hini, hK, hF, hfr, hlo, hbs, h9⟩ := C
  simp only [stp] at hs
  obtain ⟨rfl, hs2⟩ := gt_some hs
  generalize hlk : lk (mow y) i = q at hs2
  split at hs2
  · rename_i a b
    obtain rfl := iv_nx hs2
    have hw := hts _ (lk_w hlk (by simp) _ List.mem_cons_self)
    intro H locs ls a1 a2 a3 a4 T hT X
    obtain ⟨t, b1, b2⟩ := k H locs ls a1 a2 a3 a4 T hT X
    exact ⟨t, va_ldcwI X hx hown hw (g := F0 m pc ls (st.map (rv g))) rfl (by rw [hb]; exact hd) t b1, b2⟩
  · cases hs2
theorem iv_get {a b pc2 : Nat} (h : mget a b pc2 L st M = some (.inl r)) : ∃ (q : Nat), ∃ fs v st2, st = .ref q :: st2 ∧ M.2 q = .inr (.inr (a, fs)) ∧ fs[b]? = some v ∧ r = (pc2, L, v :: st2, M) := by
  unfold mget at h
  split at h
  · split at h
    · obtain ⟨rfl, h2⟩ := gt_some h
      split at h2
      · exact ⟨_, _, _, _, rfl, by assumption, by assumption, iv_nx h2⟩
      · cases h2
    · cases h
  · cases h
theorem iv_putf {a b pc2 : Nat} (h : mputf y a b pc2 L st M = some (.inl r)) : ∃ (q : Nat), ∃ fs v st2, st = v :: .ref q :: st2 ∧ M.2 q = .inr (.inr (a, fs)) ∧ b < fs.length ∧ mput y a b v = true ∧ r = (pc2, L, st2, mset M q (.inr (.inr (a, fs.set b v)))) := by
  unfold mputf at h
  split at h
  · split at h
    · obtain ⟨⟨rfl, h3, h4⟩, h2⟩ := gt_some h
      exact ⟨_, _, _, _, rfl, by assumption, h3, h4, iv_nx h2⟩
    · cases h
  · cases h
theorem sn_getfield {i : Nat} (C : cx g p R s m meth c y d args) (hd : decode (bt y) pc = .ok (.getfield i, len)) (hs : stp y (.getfield i) len pc L st M = some (.inl r)) (k : Kn g p l e R s m args below meth c y M0 Q r) : Kn g p l e R s m args below meth c y M0 Q (pc, L, st, M) := by
  obtain ⟨hx, hb, -, hml, hown, hts, -, hini, hK, hF, hfr, hlo, hbs, h9⟩ := C
  simp only [stp] at hs
  obtain ⟨rfl, hs2⟩ := gt_some hs
  generalize hlk : lk (mow y) i = q at hs2
  split at hs2
  · rename_i a b
    obtain ⟨q, fs, v, st2, rfl, h1, h2, rfl⟩ := iv_get hs2
    have hw := hts _ (lk_w hlk (by simp) _ List.mem_cons_self)
    have ht := lk_t hlk (by simp)
    simp only [lkt, Bool.and_eq_true, decide_eq_true_eq] at ht
    intro H locs ls a1 a2 a3 a4
    have hq : q < M.1 := rp_obj a1 h1 ht.1
    have he := wo_get (g := g) hq
    rw [h1] at he
    have hq2 : q < 1000 := Nat.lt_of_lt_of_le hq a1.2.2.1
    show W _ _ _ _ _ _ _ _ _ _ _ _ _ _ _ (F0 m pc ls (rv g (.ref q) :: st2.map (rv g)))
    rw [rv_ref hq2]
    exact va_get (C := cn a) (T := nTT a) (N := nNN a) hx hb hts (cl_in ht.1) hown hK a1.2.2.2 q he (cl_at ht.1) b ht.2 hw (fun _ h => h) (v := rv g v) (by simp [h2]) hd (k H locs ls a1 a2 a3 a4)
  · rename_i a b
    obtain ⟨q, fs, v, st2, rfl, h1, h2, rfl⟩ := iv_get hs2
    have hw := hts _ (lk_w hlk (by simp) _ List.mem_cons_self)
    have ht := lk_t hlk (by simp)
    simp only [lkt, decide_eq_true_eq] at ht
    intro H locs ls a1 a2 a3 a4
    have hq : ¬ q < M.1 := fun hq => by
      have := a1.1 q hq
      rw [h1] at this
      exact absurd this (by simp [wk])
    have hro := a1.2.1 q (Nat.le_of_not_lt hq)
    dsimp only at hro
    rw [h1] at hro
    rcases ro_obj hro.symm with ⟨-, e1, e2, e3⟩ | ⟨e1, -⟩
    · subst e3
      have h4 := k H locs ls a1 a2 a3 a4
      show W _ _ _ _ _ _ _ _ _ _ _ _ _ _ _ (F0 m pc ls (rv g (.ref q) :: st2.map (rv g)))
      rw [rv_out (by omega) (by omega)]
      dsimp only at h4
      rw [List.map_cons] at h4
      have hS8 := (hF.2.2.2.2.2.2.2.1.1 (q - 1003) (by omega)).2
      have e5 : q - 1000 = 3 + (q - 1003) := by omega
      rw [e5]
      match a, ht with
      | 0, _ =>
        have h5 : v = .ref (q + 3) := by simpa using h2.symm
        subst h5
        have e6 : rv g (.ref (q + 3)) = .ref (gO g (6 + (q - 1003))) := rv_o2 (by omega) (by omega) (by omega)
        rw [e6] at h4
        exact vk_getf hx hb hS8.2.1 a2 hown hw (fun _ h => h) hd h4
      | 1, _ =>
        have h5 : v = .int 0 := by simpa using h2.symm
        subst h5
        exact vk_getf hx hb hS8.1 a2 hown hw (fun _ h => h) hd h4
      | a + 2, h => exact absurd h (by omega)
    · exact absurd e1 (by decide)
  · cases hs2
theorem sn_putfield {i : Nat} (C : cx g p R s m meth c y d args) (hd : decode (bt y) pc = .ok (.putfield i, len)) (hs : stp y (.putfield i) len pc L st M = some (.inl r)) (k : Kn g p l e R s m args below meth c y M0 Q r) : Kn g p l e R s m args below meth c y M0 Q (pc, L, st, M) := by
  obtain ⟨hx, hb, -, hml, hown, hts, -, hini, hK, hF, hfr, hlo, hbs, h9⟩ := C
  simp only [stp] at hs
  obtain ⟨rfl, hs2⟩ := gt_some hs
  generalize hlk : lk (mow y) i = q at hs2
  split at hs2
  · rename_i a b
    obtain ⟨q, fs, v, st2, rfl, h1, h2, h3, rfl⟩ := iv_putf hs2
    have hw := hts _ (lk_w hlk (by simp) _ List.mem_cons_self)
    have ht := lk_t hlk (by simp)
    simp only [lkt, Bool.and_eq_true, decide_eq_true_eq] at ht
    intro H locs ls a1 a2 a3 a4
    have hq : q < M.1 := rp_obj a1 h1 ht.1
    have he := wo_get (g := g) hq
    rw [h1] at he
    have hq2 : q < 1000 := Nat.lt_of_lt_of_le hq a1.2.2.1
    show W _ _ _ _ _ _ _ _ _ _ _ _ _ _ _ (F0 m pc ls (rv g v :: rv g (.ref q) :: st2.map (rv g)))
    rw [rv_ref hq2]
    simp only [mput, Bool.and_eq_true, Bool.or_eq_true, Bool.not_eq_true', decide_eq_true_eq] at h3
    obtain ⟨h5, h6⟩ := mok_ok (g := g) h3.1
    have hk : ∀ (H1 : Heap) (locs1 : List Loc), va_P (gD g) mcl ((wo g M).set q (gB g + q, .inr (a, (fs.map (rv g)).set b (rv g v)))) H1 → va_D (Ab g) ((wo g M).set q (gB g + q, .inr (a, (fs.map (rv g)).set b (rv g v)))) → va_S (Ab g) s.heap H1 locs1 → W p l e R s m args below meth c H1 locs1 (M.1 - M0) (1200 * (M.1 - M0)) Q (F0 m (pc + 3) ls (st2.map (rv g))) := by
      intro H1 locs1 hP1 hD1 hS1
      rw [← List.map_set] at hP1
      exact k H1 locs1 ls (rp_set (x := .inr (.inr (a, fs.set b v))) a1 hq ht.1 hP1) hS1 a3 a4
    have hl : b < (fs.map (rv g)).length := by simpa using h2
    by_cases hf : (nTT a b).2.2.2 = false
    · exact va_put (C := cn a) (T := nTT a) (N := nNN a) hx hb hts (cl_in ht.1) (nYY a) (cl_ok ht.1) (cl_nm ht.1) hown hK a1.2.2.2 wo_D a2 q he (cl_at ht.1) b ht.2 hw (fun _ h => h) hf (cl_ok ht.1 b ht.2) h5 h6 hl hd hk
    · rcases h3.2 with h7 | ⟨h7, h8⟩
      · exact absurd h7 hf
      · have hdc : (nTT a b).1 = cn (mow y) := by
          rw [h7]
          have : ∀ a, a < 8 → ∀ b, b < nNN a → (nTT a b).1 = cn a := by decide +kernel
          exact this a ht.1 b ht.2
        exact va_putF (C := cn a) (T := nTT a) (N := nNN a) hx hb hts (cl_in ht.1) (nYY a) (cl_ok ht.1) (cl_nm ht.1) hown hK a1.2.2.2 wo_D a2 q he (cl_at ht.1) b ht.2 hw (fun _ h => h) (by simpa using hf) (hini h8) hdc (cl_ok ht.1 b ht.2) h5 h6 hl hd hk
  · cases hs2
theorem sn_getstatic {i : Nat} (C : cx g p R s m meth c y d args) (hd : decode (bt y) pc = .ok (.getstatic i, len)) (hs : stp y (.getstatic i) len pc L st M = some (.inl r)) (k : Kn g p l e R s m args below meth c y M0 Q r) : Kn g p l e R s m args below meth c y M0 Q (pc, L, st, M) := by
  obtain ⟨hx, hb, -, hml, hown, hts, -, hini, hK, hF, hfr, hlo, hbs, h9⟩ := C
  simp only [stp] at hs
  obtain ⟨rfl, hs2⟩ := gt_some hs
  generalize hlk : lk (mow y) i = q at hs2
  split at hs2
  · rename_i a b
    obtain rfl := iv_nx hs2
    have hw := hts _ (lk_w hlk (by simp) _ List.mem_cons_self)
    have ht := lk_t hlk (by simp)
    simp only [lkt, decide_eq_true_eq] at ht
    intro H locs ls a1 a2 a3 a4
    have h4 := k H locs ls a1 a2 a3 a4
    obtain ⟨-, f1, -, f2, -, f3, f4, -⟩ := hF
    match a, ht with
    | 0, _ => exact va_gets hx hb f1 a2 hown hw (fun _ h => h) hd h4
    | 1, _ => exact va_gets hx hb f2 a2 hown hw (fun _ h => h) hd h4
    | 2, _ => exact va_gets hx hb f3 a2 hown hw (fun _ h => h) hd h4
    | 3, _ => exact va_gets hx hb f4 a2 hown hw (fun _ h => h) hd h4
    | a + 4, h => exact absurd h (by omega)
  · cases hs2
theorem iv_ald {tg : Nat → Bool} {pc2 : Nat} (h : mald tg pc2 L st M = some (.inl r)) : ∃ j, ∃ (q : Nat), ∃ t n f st2, st = .int j :: .ref q :: st2 ∧ M.2 q = .inl (t, n, f) ∧ tg t = true ∧ vp_in j n ∧ r = (pc2, L, .int (f j.toNatClampNeg) :: st2, M) := by
  unfold mald at h
  split at h
  · split at h
    · obtain ⟨⟨h1, h2⟩, h3⟩ := gt_some h
      exact ⟨_, _, _, _, _, _, rfl, by assumption, h1, h2, iv_nx h3⟩
    · cases h
  · cases h
theorem ro_read {k t n : Nat} {f : Nat → Int32} (h : ro g k = .inl (t, n, f)) (ht : t = 1) (hF : rof g s s.heap) : k ≠ 1009 ∧ ¬ k < 1000 ∧ va_T .int (gO g (k - 1000)) n (fun j => .int (f j)) (Ab g) s s.heap := by
  subst ht
  rcases ro_arr h with ⟨-, e | e | e⟩ | ⟨e, -⟩
  · subst e
    simp only [ro, if_true, Sum.inl.injEq, Prod.mk.injEq, true_and] at h
    obtain ⟨rfl, rfl⟩ := h
    exact ⟨by decide, by decide, hF.1⟩
  · subst e
    simp [ro] at h
    obtain ⟨rfl, rfl⟩ := h
    exact ⟨by decide, by decide, by simpa using hF.2.2.1⟩
  · subst e
    simp [ro] at h
    obtain ⟨rfl, rfl⟩ := h
    exact ⟨by decide, by decide, by simpa using hF.2.2.2.2.1⟩
  · exact absurd e (by decide)
theorem ro_readB {k t n : Nat} {f : Nat → Int32} (h : ro g k = .inl (t, n, f)) (ht : t = 2) (hF : rof g s s.heap) : k ≠ 1009 ∧ ¬ k < 1000 ∧ va_T .byte (gO g (k - 1000)) n (fun j => .int (f j)) (Ab g) s s.heap := by
  subst ht
  rcases ro_arr h with ⟨e, -⟩ | ⟨-, e1, e2⟩
  · exact absurd e (by decide)
  · have hS8 := (hF.2.2.2.2.2.2.2.1.1 (k - 1006) (by omega)).2.2.2
    have h3 : k = 1006 ∨ k = 1007 ∨ k = 1008 := by omega
    refine ⟨by omega, by omega, ?_⟩
    rcases h3 with e | e | e
    · subst e
      simp [ro] at h
      obtain ⟨rfl, rfl⟩ := h
      simpa using hS8
    · subst e
      simp [ro] at h
      obtain ⟨rfl, rfl⟩ := h
      simpa using hS8
    · subst e
      simp [ro] at h
      obtain ⟨rfl, rfl⟩ := h
      simpa using hS8
theorem sn_iaload (C : cx g p R s m meth c y d args) (hd : decode (bt y) pc = .ok (.iaload, len)) (hs : stp y (.iaload) len pc L st M = some (.inl r)) (k : Kn g p l e R s m args below meth c y M0 Q r) : Kn g p l e R s m args below meth c y M0 Q (pc, L, st, M) := by
  obtain ⟨hx, hb, -, hml, hown, hts, -, hini, hK, hF, hfr, hlo, hbs, h9⟩ := C
  obtain ⟨rfl, hs2⟩ := gt_some (show (if len = 1 then mald (fun t => decide (t ≤ 1)) (pc + 1) L st M else none) = some (.inl r) from hs)
  obtain ⟨j, q, t, n, f, st2, rfl, h1, h2, h3, rfl⟩ := iv_ald hs2
  simp only [decide_eq_true_eq] at h2
  intro H locs ls a1 a2 a3 a4
  have h4 := k H locs ls a1 a2 a3 a4
  show W _ _ _ _ _ _ _ _ _ _ _ _ _ _ _ (F0 m pc ls (.int j :: rv g (.ref q) :: st2.map (rv g)))
  by_cases hq : q < M.1
  · have he := wo_get (g := g) hq
    rw [h1] at he
    rw [rv_ref (Nat.lt_of_lt_of_le hq a1.2.2.1)]
    exact va_iald hx hb hK a1.2.2.2 q 0 he rfl h3 hd h4
  · have hro := a1.2.1 q (Nat.le_of_not_lt hq)
    dsimp only at hro
    rw [h1] at hro
    have ht : t = 1 := by rcases ro_arr hro.symm with ⟨e, -⟩ | ⟨e, -⟩ <;> omega
    obtain ⟨e1, e2, e3⟩ := ro_read hro.symm ht hF
    rw [rv_out e2 e1]
    exact va_ti hx hb e3 a2 h3 rfl hd h4
theorem sn_baload (C : cx g p R s m meth c y d args) (hd : decode (bt y) pc = .ok (.baload, len)) (hs : stp y (.baload) len pc L st M = some (.inl r)) (k : Kn g p l e R s m args below meth c y M0 Q r) : Kn g p l e R s m args below meth c y M0 Q (pc, L, st, M) := by
  obtain ⟨hx, hb, -, hml, hown, hts, -, hini, hK, hF, hfr, hlo, hbs, h9⟩ := C
  obtain ⟨rfl, hs2⟩ := gt_some (show (if len = 1 then mald (fun t => decide (t = 2)) (pc + 1) L st M else none) = some (.inl r) from hs)
  obtain ⟨j, q, t, n, f, st2, rfl, h1, h2, h3, rfl⟩ := iv_ald hs2
  simp only [decide_eq_true_eq] at h2
  intro H locs ls a1 a2 a3 a4
  have h4 := k H locs ls a1 a2 a3 a4
  show W _ _ _ _ _ _ _ _ _ _ _ _ _ _ _ (F0 m pc ls (.int j :: rv g (.ref q) :: st2.map (rv g)))
  by_cases hq : q < M.1
  · have := a1.1 q hq
    dsimp only at this
    rw [h1] at this
    exact absurd this (by show ¬ t = 0; omega)
  · have hro := a1.2.1 q (Nat.le_of_not_lt hq)
    dsimp only at hro
    rw [h1] at hro
    obtain ⟨e1, e2, e3⟩ := ro_readB hro.symm h2 hF
    rw [rv_out e2 e1]
    exact va_tb hx hb e3 a2 h3 rfl hd h4
theorem sn_iastore (C : cx g p R s m meth c y d args) (hd : decode (bt y) pc = .ok (.iastore, len)) (hs : stp y (.iastore) len pc L st M = some (.inl r)) (k : Kn g p l e R s m args below meth c y M0 Q r) : Kn g p l e R s m args below meth c y M0 Q (pc, L, st, M) := by
  obtain ⟨hx, hb, -, hml, hown, hts, -, hini, hK, hF, hfr, hlo, hbs, h9⟩ := C
  obtain ⟨rfl, hs2⟩ := gt_some (show (if len = 1 then mast (pc + 1) L st M else none) = some (.inl r) from hs)
  unfold mast at hs2
  split at hs2
  · rename_i x j q st2
    split at hs2
    · rename_i t n f h1
      obtain ⟨⟨rfl, h3⟩, hs3⟩ := gt_some hs2
      obtain rfl := iv_nx hs3
      intro H locs ls a1 a2 a3 a4
      have hq : q < M.1 := rp_ar a1 h1
      have he := wo_get (g := g) hq
      rw [h1] at he
      show W _ _ _ _ _ _ _ _ _ _ _ _ _ _ _ (F0 m pc ls (.int x :: .int j :: rv g (.ref q) :: st2.map (rv g)))
      rw [rv_ref (Nat.lt_of_lt_of_le hq a1.2.2.1)]
      exact va_iast hx hb hK a1.2.2.2 wo_D a2 q 0 he rfl h3 hd (fun H1 locs1 hP1 hD1 hS1 => k H1 locs1 ls (rp_set (x := .inl (0, n, upd f j.toNatClampNeg x)) a1 hq rfl hP1) hS1 a3 a4)
    · cases hs2
  · cases hs2
theorem sn_aaload (C : cx g p R s m meth c y d args) (hd : decode (bt y) pc = .ok (.aaload, len)) (hs : stp y (.aaload) len pc L st M = some (.inl r)) (k : Kn g p l e R s m args below meth c y M0 Q r) : Kn g p l e R s m args below meth c y M0 Q (pc, L, st, M) := by
  obtain ⟨hx, hb, -, hml, hown, hts, -, hini, hK, hF, hfr, hlo, hbs, h9⟩ := C
  obtain ⟨rfl, hs2⟩ := gt_some (show (if len = 1 then mald_q (pc + 1) L st M else none) = some (.inl r) from hs)
  unfold mald_q at hs2
  split at hs2
  · rename_i j q st2
    split at hs2
    · rename_i t n f h1
      obtain ⟨h3, hs3⟩ := gt_some hs2
      obtain rfl := iv_nx hs3
      intro H locs ls a1 a2 a3 a4
      have hq : q < M.1 := rp_qr a1 h1
      have he := wo_get (g := g) hq
      have hw := a1.1 q hq
      dsimp only at hw
      rw [h1] at he hw
      have h4 := k H locs ls a1 a2 a3 a4
      dsimp only at h4
      rw [List.map_cons] at h4
      have h5 : rv g (mref (f j.toNatClampNeg)) = va_rf ((f j.toNatClampNeg).map (fun k => gB g + k)) := by
        cases hf : f j.toNatClampNeg with
        | none => rfl
        | some k2 => exact rv_ref (hw.2 _ _ hf)
      rw [h5] at h4
      show W _ _ _ _ _ _ _ _ _ _ _ _ _ _ _ (F0 m pc ls (.int j :: rv g (.ref q) :: st2.map (rv g)))
      rw [rv_ref (Nat.lt_of_lt_of_le hq a1.2.2.1)]
      rcases hw.1 with e | e | e
      · subst e
        exact va_aldq hx hb hK a1.2.2.2 q 1 he rfl h3 hd h4
      · subst e
        exact va_aldq hx hb hK a1.2.2.2 q 2 he rfl h3 hd h4
      · subst e
        exact va_aldq hx hb hK a1.2.2.2 q 3 he rfl h3 hd h4
    · cases hs2
  · cases hs2
theorem sn_aastore (C : cx g p R s m meth c y d args) (hd : decode (bt y) pc = .ok (.aastore, len)) (hs : stp y (.aastore) len pc L st M = some (.inl r)) (k : Kn g p l e R s m args below meth c y M0 Q r) : Kn g p l e R s m args below meth c y M0 Q (pc, L, st, M) := by
  obtain ⟨hx, hb, -, hml, hown, hts, -, hini, hK, hF, hfr, hlo, hbs, h9⟩ := C
  obtain ⟨rfl, hs2⟩ := gt_some (show (if len = 1 then mast_q (pc + 1) L st M else none) = some (.inl r) from hs)
  unfold mast_q at hs2
  split at hs2
  · rename_i kk j q st2
    split at hs2
    · rename_i t n f a fs h1 h2
      obtain ⟨⟨rfl, h3⟩, hs3⟩ := gt_some hs2
      obtain rfl := iv_nx hs3
      intro H locs ls a1 a2 a3 a4
      have hq : q < M.1 := rp_qr a1 h1
      have he := wo_get (g := g) hq
      have hw := a1.1 q hq
      dsimp only at hw
      rw [h1] at he hw
      have ha : t < 8 := by rcases hw.1 with e | e | e <;> omega
      have hkk : kk < M.1 := rp_obj a1 h2 ha
      have hek := wo_get (g := g) hkk
      rw [h2] at hek
      have hk2 : kk < 1000 := Nat.lt_of_lt_of_le hkk a1.2.2.1
      show W _ _ _ _ _ _ _ _ _ _ _ _ _ _ _ (F0 m pc ls (rv g (.ref kk) :: .int j :: rv g (.ref q) :: st2.map (rv g)))
      rw [rv_ref (Nat.lt_of_lt_of_le hq a1.2.2.1), rv_ref hk2]
      have hx2 : wk (.inr (.inl (t, n, va_up f j.toNatClampNeg (some kk)))) := ⟨hw.1, fun j2 k2 h => by
        by_cases e : j2 = j.toNatClampNeg
        · subst e
          rw [va_up_self] at h
          cases h
          exact hk2
        · rw [va_up_ne _ _ e] at h
          exact hw.2 _ _ h⟩
      have hup : (fun j2 => (va_up f j.toNatClampNeg (some kk) j2).map (fun k => gB g + k)) = va_up (fun j2 => (f j2).map (fun k => gB g + k)) j.toNatClampNeg (some (gB g + kk)) := by
        funext j2
        by_cases e : j2 = j.toNatClampNeg
        · subst e; rw [va_up_self, va_up_self]; rfl
        · rw [va_up_ne _ _ e, va_up_ne _ _ e]
      have hgo : ∀ (H1 : Heap) (locs1 : List Loc), va_P (gD g) mcl ((wo g M).set q (gB g + q, .inl (gA g t, n, .inr (.inr (.inr (.inr (va_up (fun j2 => (f j2).map (fun k => gB g + k)) j.toNatClampNeg (some (gB g + kk))))))))) H1 → va_D (Ab g) ((wo g M).set q (gB g + q, .inl (gA g t, n, .inr (.inr (.inr (.inr (va_up (fun j2 => (f j2).map (fun k => gB g + k)) j.toNatClampNeg (some (gB g + kk))))))))) → va_S (Ab g) s.heap H1 locs1 → W p l e R s m args below meth c H1 locs1 (M.1 - M0) (1200 * (M.1 - M0)) Q (F0 m (pc + 1) ls (st2.map (rv g))) := by
        intro H1 locs1 hP1 hD1 hS1
        rw [← hup] at hP1
        exact k H1 locs1 ls (rp_set (x := .inr (.inl (t, n, va_up f j.toNatClampNeg (some kk)))) a1 hq hx2 hP1) hS1 a3 a4
      rcases hw.1 with e | e | e
      · subst e
        exact va_astq hx hb hK a1.2.2.2 wo_D a2 q 1 kk 0 (r := (cn 0, nTT 0, nNN 0)) he rfl hek rfl h3 hd hgo
      · subst e
        exact va_astq hx hb hK a1.2.2.2 wo_D a2 q 2 kk 2 (r := (cn 2, nTT 2, nNN 2)) he rfl hek rfl h3 hd hgo
      · subst e
        exact va_astq hx hb hK a1.2.2.2 wo_D a2 q 3 kk 5 (r := (cn 5, nTT 5, nNN 5)) he rfl hek rfl h3 hd hgo
    · cases hs2
  · cases hs2
theorem sn_arraylength (C : cx g p R s m meth c y d args) (hd : decode (bt y) pc = .ok (.arraylength, len)) (hs : stp y (.arraylength) len pc L st M = some (.inl r)) (k : Kn g p l e R s m args below meth c y M0 Q r) : Kn g p l e R s m args below meth c y M0 Q (pc, L, st, M) := by
  obtain ⟨hx, hb, -, hml, hown, hts, -, hini, hK, hF, hfr, hlo, hbs, h9⟩ := C
  simp only [stp] at hs
  obtain ⟨rfl, hs2⟩ := gt_some hs
  split at hs2
  · rename_i q st2
    split at hs2
    · rename_i n hn
      obtain rfl := iv_nx hs2
      intro H locs ls a1 a2 a3 a4
      have h4 := k H locs ls a1 a2 a3 a4
      show W _ _ _ _ _ _ _ _ _ _ _ _ _ _ _ (F0 m pc ls (rv g (.ref q) :: st2.map (rv g)))
      by_cases hq : q < M.1
      · have he := wo_get (g := g) hq
        have hw := a1.1 q hq
        dsimp only at hw
        rw [rv_ref (Nat.lt_of_lt_of_le hq a1.2.2.1)]
        generalize hc : M.2 q = x at hn he hw
        match x, hn with
        | .inl (t, n2, f), hn =>
          obtain rfl : n2 = n := by simpa [mlen] using hn
          exact va_alen hx hb hK a1.2.2.2 q 0 he rfl rfl hd h4
        | .inr (.inl (t, n2, f)), hn =>
          obtain rfl : n2 = n := by simpa [mlen] using hn
          rcases hw.1 with e | e | e
          · subst e
            exact va_alen hx hb hK a1.2.2.2 q 1 he rfl rfl hd h4
          · subst e
            exact va_alen hx hb hK a1.2.2.2 q 2 he rfl rfl hd h4
          · subst e
            exact va_alen hx hb hK a1.2.2.2 q 3 he rfl rfl hd h4
        | .inr (.inr (t, f)), hn => simp [mlen] at hn
      · have hro := a1.2.1 q (Nat.le_of_not_lt hq)
        dsimp only at hro
        generalize hc : M.2 q = x at hn hro
        match x, hn with
        | .inl (t, n2, f), hn =>
          obtain rfl : n2 = n := by simpa [mlen] using hn
          rcases ro_arr hro.symm with ⟨e, -⟩ | ⟨e, -⟩
          · obtain ⟨e1, e2, e3⟩ := ro_read hro.symm e hF
            rw [rv_out e2 e1]
            exact va_tlen hx hb e3 a2 rfl hd h4
          · obtain ⟨e1, e2, e3⟩ := ro_readB hro.symm e hF
            rw [rv_out e2 e1]
            exact va_tlen hx hb e3 a2 rfl hd h4
        | .inr (.inl x), hn => exact absurd (ro_q hro.symm) id
        | .inr (.inr (t, f)), hn => simp [mlen] at hn
    · cases hs2
  · cases hs2
theorem sn_newarray {t : ArrayType} (C : cx g p R s m meth c y d args) (hz : s.heap.size = gB g + M0) (h0 : M0 ≤ M.1) (hr : r.2.2.2.1 - M0 ≤ R.cells ∧ 1200 * (r.2.2.2.1 - M0) ≤ R.slots) (hd : decode (bt y) pc = .ok (.newarray t, len)) (hs : stp y (.newarray t) len pc L st M = some (.inl r)) (k : Kn g p l e R s m args below meth c y M0 Q r) : Kn g p l e R s m args below meth c y M0 Q (pc, L, st, M) := by
  obtain ⟨hx, hb, -, hml, hown, hts, -, hini, hK, hF, hfr, hlo, hbs, h9⟩ := C
  simp only [stp] at hs
  obtain ⟨⟨rfl, rfl⟩, hs2⟩ := gt_some hs
  split at hs2
  · rename_i n st2
    obtain ⟨⟨h1, h2, h3⟩, hs3⟩ := gt_some hs2
    obtain rfl := iv_nx hs3
    have hr1 : M.1 + 1 - M0 ≤ R.cells := hr.1
    have hr2 : 1200 * (M.1 + 1 - M0) ≤ R.slots := hr.2
    intro H locs ls a1 a2 a3 a4
    show W p l e R s m args below meth c H locs (M.1 - M0) (1200 * (M.1 - M0)) Q (F0 m pc ls (.int n :: st2.map (rv g)))
    refine va_newa (atype := .int) hx hb (hts _ ws_arrI) rfl hK a1.2.2.2 wo_D a2 (fun q h => Nat.le_trans hbs h) (N' := n.toNatClampNeg) (a0 := (n.toNatClampNeg, .inl (fun _ => 0))) (fun cI => rfl) h1 rfl (Nat.le_trans (Nat.mul_le_mul_right _ h2) (by decide)) (by omega) (by omega) hd ?_
    intro q cI H1 hK1 hP1 hD1 hS1
    obtain rfl := hK_int hK hK1
    refine W.widen (k := M.1 - M0 + 1) (n := 1200 * (M.1 + 1 - M0)) (Nat.le_refl _) (by omega) ?_
    refine w_nq hz h0 hP1 hD1 fun hq => ?_
    subst hq
    have h4 := k H1 locs ls (rp_push (x := .inl (0, n.toNatClampNeg, fun _ => 0)) a1 rfl h3 hP1) hS1 a3 a4
    have e1 : M.1 - M0 + 1 = M.1 + 1 - M0 := by omega
    rw [e1]
    dsimp only at h4
    rw [List.map_cons, rv_ref h3] at h4
    exact h4
  · cases hs2
theorem sn_anewarray {i : Nat} (C : cx g p R s m meth c y d args) (hz : s.heap.size = gB g + M0) (h0 : M0 ≤ M.1) (hr : r.2.2.2.1 - M0 ≤ R.cells ∧ 1200 * (r.2.2.2.1 - M0) ≤ R.slots) (hd : decode (bt y) pc = .ok (.anewarray i, len)) (hs : stp y (.anewarray i) len pc L st M = some (.inl r)) (k : Kn g p l e R s m args below meth c y M0 Q r) : Kn g p l e R s m args below meth c y M0 Q (pc, L, st, M) := by
  obtain ⟨hx, hb, -, hml, hown, hts, -, hini, hK, hF, hfr, hlo, hbs, h9⟩ := C
  simp only [stp] at hs
  obtain ⟨rfl, hs1⟩ := gt_some hs
  generalize hlk : lk (mow y) i = q at hs1
  split at hs1
  · rename_i a b
    split at hs1
    · rename_i n st2
      obtain ⟨⟨h1, h2, h3⟩, hs3⟩ := gt_some hs1
      obtain rfl := iv_nx hs3
      have hr1 : M.1 + 1 - M0 ≤ R.cells := hr.1
      have hr2 : 1200 * (M.1 + 1 - M0) ≤ R.slots := hr.2
      have hw := hts _ (lk_w hlk (by simp) _ List.mem_cons_self)
      have ht := lk_t hlk (by simp)
      simp only [lkt, Bool.or_eq_true, decide_eq_true_eq] at ht
      obtain ⟨f1, f2, f3⟩ := hF.2.2.2.2.2.2.2.2.2.1
      have ht2 : a = 0 ∨ a = 2 ∨ a = 5 := by omega
      intro H locs ls a1 a2 a3 a4
      have hgo : ∀ (q : Nat) (H1 : Heap), va_P (gD g) mcl (wo g M ++ [(q, .inl (gA g a, n.toNatClampNeg, .inr (.inr (.inr (.inr (fun _ => none))))))]) H1 → va_D (Ab g) (wo g M ++ [(q, .inl (gA g a, n.toNatClampNeg, .inr (.inr (.inr (.inr (fun _ => none))))))]) → va_S (Ab g) s.heap H1 locs → W p l e R s m args below meth c H1 locs (M.1 - M0 + 1) (1200 * (M.1 - M0) + n.toNatClampNeg) Q (F0 m (pc + 3) ls (.ref q :: st2.map (rv g))) := by
        intro q H1 hP1 hD1 hS1
        refine W.widen (k := M.1 - M0 + 1) (n := 1200 * (M.1 + 1 - M0)) (Nat.le_refl _) (by omega) ?_
        refine w_nq hz h0 hP1 hD1 fun hq => ?_
        subst hq
        have h4 := k H1 locs ls (rp_push (x := .inr (.inl (a, n.toNatClampNeg, fun _ => none))) a1 ⟨ht2, fun _ _ h => by cases h⟩ h3 hP1) hS1 a3 a4
        have e1 : M.1 - M0 + 1 = M.1 + 1 - M0 := by omega
        rw [e1]
        dsimp only at h4
        rw [List.map_cons, rv_ref h3] at h4
        exact h4
      have hby : n.toNatClampNeg * 4 ≤ 536870912 := by omega
      show W p l e R s m args below meth c H locs (M.1 - M0) (1200 * (M.1 - M0)) Q (F0 m pc ls (.int n :: st2.map (rv g)))
      rcases ht2 with e | e | e
      · subst e
        refine va_newq hx hb hown hw f1 hK a1.2.2.2 wo_D a2 (fun q h => Nat.le_trans hbs h) (N' := n.toNatClampNeg) h1 rfl hby (by omega) (by omega) hd ?_
        intro q cI H1 hK1 hP1 hD1 hS1
        obtain rfl := hK_obj (i := 1) (a := 0) hK rfl hK1
        exact hgo q H1 hP1 hD1 hS1
      · subst e
        refine va_newq hx hb hown hw f2 hK a1.2.2.2 wo_D a2 (fun q h => Nat.le_trans hbs h) (N' := n.toNatClampNeg) h1 rfl hby (by omega) (by omega) hd ?_
        intro q cI H1 hK1 hP1 hD1 hS1
        obtain rfl := hK_obj (i := 2) (a := 2) hK rfl hK1
        exact hgo q H1 hP1 hD1 hS1
      · subst e
        refine va_newq hx hb hown hw f3 hK a1.2.2.2 wo_D a2 (fun q h => Nat.le_trans hbs h) (N' := n.toNatClampNeg) h1 rfl hby (by omega) (by omega) hd ?_
        intro q cI H1 hK1 hP1 hD1 hS1
        obtain rfl := hK_obj (i := 3) (a := 5) hK rfl hK1
        exact hgo q H1 hP1 hD1 hS1
    · cases hs1
  · cases hs1
theorem sn_new {i : Nat} (C : cx g p R s m meth c y d args) (hz : s.heap.size = gB g + M0) (h0 : M0 ≤ M.1) (hr : r.2.2.2.1 - M0 ≤ R.cells ∧ 1200 * (r.2.2.2.1 - M0) ≤ R.slots) (hd : decode (bt y) pc = .ok (.new i, len)) (hs : stp y (.new i) len pc L st M = some (.inl r)) (k : Kn g p l e R s m args below meth c y M0 Q r) : Kn g p l e R s m args below meth c y M0 Q (pc, L, st, M) := by
  obtain ⟨hx, hb, -, hml, hown, hts, -, hini, hK, hF, hfr, hlo, hbs, h9⟩ := C
  simp only [stp] at hs
  obtain ⟨rfl, hs1⟩ := gt_some hs
  generalize hlk : lk (mow y) i = q at hs1
  split at hs1
  · rename_i a b
    obtain ⟨h3, hs3⟩ := gt_some hs1
    obtain rfl := iv_nx hs3
    have hr1 : M.1 + 1 - M0 ≤ R.cells := hr.1
    have hr2 : 1200 * (M.1 + 1 - M0) ≤ R.slots := hr.2
    have hws := lk_w hlk (by simp)
    have ht := lk_t hlk (by simp)
    simp only [lkt, Bool.and_eq_true, decide_eq_true_eq] at ht
    obtain ⟨ha, rfl⟩ := ht
    have hN : nNN a ≤ 100 := by
      have : ∀ a, a < 8 → nNN a ≤ 100 := by decide +kernel
      exact this a ha
    intro H locs ls a1 a2 a3 a4
    have hdf : (List.range (nNN a)).map (fun j => rv g (defaultValue (nYY a j))) = (List.range (nNN a)).map (fun j => defaultValue (nYY a j)) := by
      refine List.map_congr_left fun j _ => ?_
      cases nYY a j <;> rfl
    show W p l e R s m args below meth c H locs (M.1 - M0) (1200 * (M.1 - M0)) Q (F0 m pc ls (st.map (rv g)))
    refine va_new (C := cn a) (T := nTT a) (N := nNN a) (ci := a) hx hb hts (cl_in ha) (nYY a) (cl_ok ha) hown (hts _ (hws _ (by simp [lw]))) (hts _ (hws _ (by simp [lw]))) (hts _ (hws _ (by simp [lw]))) hK a1.2.2.2 wo_D a2 (fun q h => Nat.le_trans hbs h) (cl_at ha) (fs := (List.range (nNN a)).map (fun j => defaultValue (nYY a j))) (fun j hj => by simp [vp_V, hj]) (by omega) (by omega) hd ?_
    intro q H1 hP1 hD1 hS1
    refine W.widen (k := M.1 - M0 + 1) (n := 1200 * (M.1 + 1 - M0)) (Nat.le_refl _) (by omega) ?_
    refine w_nq hz h0 hP1 hD1 fun hq => ?_
    subst hq
    have hce : ce g (.inr (.inr (a, (List.range (nNN a)).map (fun j => defaultValue (nYY a j))))) = .inr (a, (List.range (nNN a)).map (fun j => defaultValue (nYY a j))) := by
      show Sum.inr (a, ((List.range (nNN a)).map (fun j => defaultValue (nYY a j))).map (rv g)) = _
      rw [List.map_map]
      exact congrArg (fun z => Sum.inr (a, z)) hdf
    have h4 := k H1 locs ls (rp_push (x := .inr (.inr (a, (List.range (nNN a)).map (fun j => defaultValue (nYY a j))))) a1 ha h3 (by rw [hce]; exact hP1)) hS1 a3 a4
    have e1 : M.1 - M0 + 1 = M.1 + 1 - M0 := by omega
    rw [e1]
    dsimp only at h4
    rw [List.map_cons, rv_ref h3] at h4
    exact h4
  · cases hs1
end SNC
end
section
/-! CALLS, RETURNS, AND WHOLE RUNS OF THE SMALL MACHINE (wip/whole/gen8.py) -/
theorem z_ok : ∀ z, z < 212 → 0 < z → (plainFor (myn z) = true ∧ ((myn z).cls ≠ "java/lang/invoke/MethodHandle" ∧ (myn z).cls ≠ "java/lang/invoke/VarHandle") ∧ cn (mow z) = (myn z).cls ∧ mml z ≤ 45) := by decide +kernel
theorem cwd_in {z : Nat} (h0 : 0 < z) (h : z < 212) : cwd z ∈ WS := by
  match z, h0, h with
  | 1, _, _ => exact cwd_1 _ (List.mem_of_getElem? (i := 0) rfl)
  | 2, _, _ => exact cwd_1 _ (List.mem_of_getElem? (i := 1) rfl)
  | 3, _, _ => exact cwd_1 _ (List.mem_of_getElem? (i := 2) rfl)
  | 4, _, _ => exact cwd_1 _ (List.mem_of_getElem? (i := 3) rfl)
  | 5, _, _ => exact cwd_1 _ (List.mem_of_getElem? (i := 4) rfl)
  | 6, _, _ => exact cwd_1 _ (List.mem_of_getElem? (i := 5) rfl)
  | 7, _, _ => exact cwd_1 _ (List.mem_of_getElem? (i := 6) rfl)
  | 8, _, _ => exact cwd_1 _ (List.mem_of_getElem? (i := 7) rfl)
  | 9, _, _ => exact cwd_1 _ (List.mem_of_getElem? (i := 8) rfl)
  | 10, _, _ => exact cwd_1 _ (List.mem_of_getElem? (i := 9) rfl)
  | 11, _, _ => exact cwd_1 _ (List.mem_of_getElem? (i := 10) rfl)
  | 12, _, _ => exact cwd_1 _ (List.mem_of_getElem? (i := 11) rfl)
  | 13, _, _ => exact cwd_13 _ (List.mem_of_getElem? (i := 0) rfl)
  | 14, _, _ => exact cwd_13 _ (List.mem_of_getElem? (i := 1) rfl)
  | 15, _, _ => exact cwd_13 _ (List.mem_of_getElem? (i := 2) rfl)
  | 16, _, _ => exact cwd_13 _ (List.mem_of_getElem? (i := 3) rfl)
  | 17, _, _ => exact cwd_13 _ (List.mem_of_getElem? (i := 4) rfl)
  | 18, _, _ => exact cwd_13 _ (List.mem_of_getElem? (i := 5) rfl)
  | 19, _, _ => exact cwd_13 _ (List.mem_of_getElem? (i := 6) rfl)
  | 20, _, _ => exact cwd_13 _ (List.mem_of_getElem? (i := 7) rfl)
  | 21, _, _ => exact cwd_13 _ (List.mem_of_getElem? (i := 8) rfl)
  | 22, _, _ => exact cwd_13 _ (List.mem_of_getElem? (i := 9) rfl)
  | 23, _, _ => exact cwd_13 _ (List.mem_of_getElem? (i := 10) rfl)
  | 24, _, _ => exact cwd_13 _ (List.mem_of_getElem? (i := 11) rfl)
  | 25, _, _ => exact cwd_25 _ (List.mem_of_getElem? (i := 0) rfl)
  | 26, _, _ => exact cwd_25 _ (List.mem_of_getElem? (i := 1) rfl)
  | 27, _, _ => exact cwd_25 _ (List.mem_of_getElem? (i := 2) rfl)
  | 28, _, _ => exact cwd_25 _ (List.mem_of_getElem? (i := 3) rfl)
  | 29, _, _ => exact cwd_25 _ (List.mem_of_getElem? (i := 4) rfl)
  | 30, _, _ => exact cwd_25 _ (List.mem_of_getElem? (i := 5) rfl)
  | 31, _, _ => exact cwd_25 _ (List.mem_of_getElem? (i := 6) rfl)
  | 32, _, _ => exact cwd_25 _ (List.mem_of_getElem? (i := 7) rfl)
  | 33, _, _ => exact cwd_25 _ (List.mem_of_getElem? (i := 8) rfl)
  | 34, _, _ => exact cwd_25 _ (List.mem_of_getElem? (i := 9) rfl)
  | 35, _, _ => exact cwd_25 _ (List.mem_of_getElem? (i := 10) rfl)
  | 36, _, _ => exact cwd_25 _ (List.mem_of_getElem? (i := 11) rfl)
  | 37, _, _ => exact cwd_37 _ (List.mem_of_getElem? (i := 0) rfl)
  | 38, _, _ => exact cwd_37 _ (List.mem_of_getElem? (i := 1) rfl)
  | 39, _, _ => exact cwd_37 _ (List.mem_of_getElem? (i := 2) rfl)
  | 40, _, _ => exact cwd_37 _ (List.mem_of_getElem? (i := 3) rfl)
  | 41, _, _ => exact cwd_37 _ (List.mem_of_getElem? (i := 4) rfl)
  | 42, _, _ => exact cwd_37 _ (List.mem_of_getElem? (i := 5) rfl)
  | 43, _, _ => exact cwd_37 _ (List.mem_of_getElem? (i := 6) rfl)
  | 44, _, _ => exact cwd_37 _ (List.mem_of_getElem? (i := 7) rfl)
  | 45, _, _ => exact cwd_37 _ (List.mem_of_getElem? (i := 8) rfl)
  | 46, _, _ => exact cwd_37 _ (List.mem_of_getElem? (i := 9) rfl)
  | 47, _, _ => exact cwd_37 _ (List.mem_of_getElem? (i := 10) rfl)
  | 48, _, _ => exact cwd_37 _ (List.mem_of_getElem? (i := 11) rfl)
  | 49, _, _ => exact cwd_49 _ (List.mem_of_getElem? (i := 0) rfl)
  | 50, _, _ => exact cwd_49 _ (List.mem_of_getElem? (i := 1) rfl)
  | 51, _, _ => exact cwd_49 _ (List.mem_of_getElem? (i := 2) rfl)
  | 52, _, _ => exact cwd_49 _ (List.mem_of_getElem? (i := 3) rfl)
  | 53, _, _ => exact cwd_49 _ (List.mem_of_getElem? (i := 4) rfl)
  | 54, _, _ => exact cwd_49 _ (List.mem_of_getElem? (i := 5) rfl)
  | 55, _, _ => exact cwd_49 _ (List.mem_of_getElem? (i := 6) rfl)
  | 56, _, _ => exact cwd_49 _ (List.mem_of_getElem? (i := 7) rfl)
  | 57, _, _ => exact cwd_49 _ (List.mem_of_getElem? (i := 8) rfl)
  | 58, _, _ => exact cwd_49 _ (List.mem_of_getElem? (i := 9) rfl)
  | 59, _, _ => exact cwd_49 _ (List.mem_of_getElem? (i := 10) rfl)
  | 60, _, _ => exact cwd_49 _ (List.mem_of_getElem? (i := 11) rfl)
  | 61, _, _ => exact cwd_61 _ (List.mem_of_getElem? (i := 0) rfl)
  | 62, _, _ => exact cwd_61 _ (List.mem_of_getElem? (i := 1) rfl)
  | 63, _, _ => exact cwd_61 _ (List.mem_of_getElem? (i := 2) rfl)
  | 64, _, _ => exact cwd_61 _ (List.mem_of_getElem? (i := 3) rfl)
  | 65, _, _ => exact cwd_61 _ (List.mem_of_getElem? (i := 4) rfl)
  | 66, _, _ => exact cwd_61 _ (List.mem_of_getElem? (i := 5) rfl)
  | 67, _, _ => exact cwd_61 _ (List.mem_of_getElem? (i := 6) rfl)
  | 68, _, _ => exact cwd_61 _ (List.mem_of_getElem? (i := 7) rfl)
  | 69, _, _ => exact cwd_61 _ (List.mem_of_getElem? (i := 8) rfl)
  | 70, _, _ => exact cwd_61 _ (List.mem_of_getElem? (i := 9) rfl)
  | 71, _, _ => exact cwd_61 _ (List.mem_of_getElem? (i := 10) rfl)
  | 72, _, _ => exact cwd_61 _ (List.mem_of_getElem? (i := 11) rfl)
  | 73, _, _ => exact cwd_73 _ (List.mem_of_getElem? (i := 0) rfl)
  | 74, _, _ => exact cwd_73 _ (List.mem_of_getElem? (i := 1) rfl)
  | 75, _, _ => exact cwd_73 _ (List.mem_of_getElem? (i := 2) rfl)
  | 76, _, _ => exact cwd_73 _ (List.mem_of_getElem? (i := 3) rfl)
  | 77, _, _ => exact cwd_73 _ (List.mem_of_getElem? (i := 4) rfl)
  | 78, _, _ => exact cwd_73 _ (List.mem_of_getElem? (i := 5) rfl)
  | 79, _, _ => exact cwd_73 _ (List.mem_of_getElem? (i := 6) rfl)
  | 80, _, _ => exact cwd_73 _ (List.mem_of_getElem? (i := 7) rfl)
  | 81, _, _ => exact cwd_73 _ (List.mem_of_getElem? (i := 8) rfl)
  | 82, _, _ => exact cwd_73 _ (List.mem_of_getElem? (i := 9) rfl)
  | 83, _, _ => exact cwd_73 _ (List.mem_of_getElem? (i := 10) rfl)
  | 84, _, _ => exact cwd_73 _ (List.mem_of_getElem? (i := 11) rfl)
  | 85, _, _ => exact cwd_85 _ (List.mem_of_getElem? (i := 0) rfl)
  | 86, _, _ => exact cwd_85 _ (List.mem_of_getElem? (i := 1) rfl)
  | 87, _, _ => exact cwd_85 _ (List.mem_of_getElem? (i := 2) rfl)
  | 88, _, _ => exact cwd_85 _ (List.mem_of_getElem? (i := 3) rfl)
  | 89, _, _ => exact cwd_85 _ (List.mem_of_getElem? (i := 4) rfl)
  | 90, _, _ => exact cwd_85 _ (List.mem_of_getElem? (i := 5) rfl)
  | 91, _, _ => exact cwd_85 _ (List.mem_of_getElem? (i := 6) rfl)
  | 92, _, _ => exact cwd_85 _ (List.mem_of_getElem? (i := 7) rfl)
  | 93, _, _ => exact cwd_85 _ (List.mem_of_getElem? (i := 8) rfl)
  | 94, _, _ => exact cwd_85 _ (List.mem_of_getElem? (i := 9) rfl)
  | 95, _, _ => exact cwd_85 _ (List.mem_of_getElem? (i := 10) rfl)
  | 96, _, _ => exact cwd_85 _ (List.mem_of_getElem? (i := 11) rfl)
  | 97, _, _ => exact cwd_97 _ (List.mem_of_getElem? (i := 0) rfl)
  | 98, _, _ => exact cwd_97 _ (List.mem_of_getElem? (i := 1) rfl)
  | 99, _, _ => exact cwd_97 _ (List.mem_of_getElem? (i := 2) rfl)
  | 100, _, _ => exact cwd_97 _ (List.mem_of_getElem? (i := 3) rfl)
  | 101, _, _ => exact cwd_97 _ (List.mem_of_getElem? (i := 4) rfl)
  | 102, _, _ => exact cwd_97 _ (List.mem_of_getElem? (i := 5) rfl)
  | 103, _, _ => exact cwd_97 _ (List.mem_of_getElem? (i := 6) rfl)
  | 104, _, _ => exact cwd_97 _ (List.mem_of_getElem? (i := 7) rfl)
  | 105, _, _ => exact cwd_97 _ (List.mem_of_getElem? (i := 8) rfl)
  | 106, _, _ => exact cwd_97 _ (List.mem_of_getElem? (i := 9) rfl)
  | 107, _, _ => exact cwd_97 _ (List.mem_of_getElem? (i := 10) rfl)
  | 108, _, _ => exact cwd_97 _ (List.mem_of_getElem? (i := 11) rfl)
  | 109, _, _ => exact cwd_109 _ (List.mem_of_getElem? (i := 0) rfl)
  | 110, _, _ => exact cwd_109 _ (List.mem_of_getElem? (i := 1) rfl)
  | 111, _, _ => exact cwd_109 _ (List.mem_of_getElem? (i := 2) rfl)
  | 112, _, _ => exact cwd_109 _ (List.mem_of_getElem? (i := 3) rfl)
  | 113, _, _ => exact cwd_109 _ (List.mem_of_getElem? (i := 4) rfl)
  | 114, _, _ => exact cwd_109 _ (List.mem_of_getElem? (i := 5) rfl)
  | 115, _, _ => exact cwd_109 _ (List.mem_of_getElem? (i := 6) rfl)
  | 116, _, _ => exact cwd_109 _ (List.mem_of_getElem? (i := 7) rfl)
  | 117, _, _ => exact cwd_109 _ (List.mem_of_getElem? (i := 8) rfl)
  | 118, _, _ => exact cwd_109 _ (List.mem_of_getElem? (i := 9) rfl)
  | 119, _, _ => exact cwd_109 _ (List.mem_of_getElem? (i := 10) rfl)
  | 120, _, _ => exact cwd_109 _ (List.mem_of_getElem? (i := 11) rfl)
  | 121, _, _ => exact cwd_121 _ (List.mem_of_getElem? (i := 0) rfl)
  | 122, _, _ => exact cwd_121 _ (List.mem_of_getElem? (i := 1) rfl)
  | 123, _, _ => exact cwd_121 _ (List.mem_of_getElem? (i := 2) rfl)
  | 124, _, _ => exact cwd_121 _ (List.mem_of_getElem? (i := 3) rfl)
  | 125, _, _ => exact cwd_121 _ (List.mem_of_getElem? (i := 4) rfl)
  | 126, _, _ => exact cwd_121 _ (List.mem_of_getElem? (i := 5) rfl)
  | 127, _, _ => exact cwd_121 _ (List.mem_of_getElem? (i := 6) rfl)
  | 128, _, _ => exact cwd_121 _ (List.mem_of_getElem? (i := 7) rfl)
  | 129, _, _ => exact cwd_121 _ (List.mem_of_getElem? (i := 8) rfl)
  | 130, _, _ => exact cwd_121 _ (List.mem_of_getElem? (i := 9) rfl)
  | 131, _, _ => exact cwd_121 _ (List.mem_of_getElem? (i := 10) rfl)
  | 132, _, _ => exact cwd_121 _ (List.mem_of_getElem? (i := 11) rfl)
  | 133, _, _ => exact cwd_133 _ (List.mem_of_getElem? (i := 0) rfl)
  | 134, _, _ => exact cwd_133 _ (List.mem_of_getElem? (i := 1) rfl)
  | 135, _, _ => exact cwd_133 _ (List.mem_of_getElem? (i := 2) rfl)
  | 136, _, _ => exact cwd_133 _ (List.mem_of_getElem? (i := 3) rfl)
  | 137, _, _ => exact cwd_133 _ (List.mem_of_getElem? (i := 4) rfl)
  | 138, _, _ => exact cwd_133 _ (List.mem_of_getElem? (i := 5) rfl)
  | 139, _, _ => exact cwd_133 _ (List.mem_of_getElem? (i := 6) rfl)
  | 140, _, _ => exact cwd_133 _ (List.mem_of_getElem? (i := 7) rfl)
  | 141, _, _ => exact cwd_133 _ (List.mem_of_getElem? (i := 8) rfl)
  | 142, _, _ => exact cwd_133 _ (List.mem_of_getElem? (i := 9) rfl)
  | 143, _, _ => exact cwd_133 _ (List.mem_of_getElem? (i := 10) rfl)
  | 144, _, _ => exact cwd_133 _ (List.mem_of_getElem? (i := 11) rfl)
  | 145, _, _ => exact cwd_145 _ (List.mem_of_getElem? (i := 0) rfl)
  | 146, _, _ => exact cwd_145 _ (List.mem_of_getElem? (i := 1) rfl)
  | 147, _, _ => exact cwd_145 _ (List.mem_of_getElem? (i := 2) rfl)
  | 148, _, _ => exact cwd_145 _ (List.mem_of_getElem? (i := 3) rfl)
  | 149, _, _ => exact cwd_145 _ (List.mem_of_getElem? (i := 4) rfl)
  | 150, _, _ => exact cwd_145 _ (List.mem_of_getElem? (i := 5) rfl)
  | 151, _, _ => exact cwd_145 _ (List.mem_of_getElem? (i := 6) rfl)
  | 152, _, _ => exact cwd_145 _ (List.mem_of_getElem? (i := 7) rfl)
  | 153, _, _ => exact cwd_145 _ (List.mem_of_getElem? (i := 8) rfl)
  | 154, _, _ => exact cwd_145 _ (List.mem_of_getElem? (i := 9) rfl)
  | 155, _, _ => exact cwd_145 _ (List.mem_of_getElem? (i := 10) rfl)
  | 156, _, _ => exact cwd_145 _ (List.mem_of_getElem? (i := 11) rfl)
  | 157, _, _ => exact cwd_157 _ (List.mem_of_getElem? (i := 0) rfl)
  | 158, _, _ => exact cwd_157 _ (List.mem_of_getElem? (i := 1) rfl)
  | 159, _, _ => exact cwd_157 _ (List.mem_of_getElem? (i := 2) rfl)
  | 160, _, _ => exact cwd_157 _ (List.mem_of_getElem? (i := 3) rfl)
  | 161, _, _ => exact cwd_157 _ (List.mem_of_getElem? (i := 4) rfl)
  | 162, _, _ => exact cwd_157 _ (List.mem_of_getElem? (i := 5) rfl)
  | 163, _, _ => exact cwd_157 _ (List.mem_of_getElem? (i := 6) rfl)
  | 164, _, _ => exact cwd_157 _ (List.mem_of_getElem? (i := 7) rfl)
  | 165, _, _ => exact cwd_157 _ (List.mem_of_getElem? (i := 8) rfl)
  | 166, _, _ => exact cwd_157 _ (List.mem_of_getElem? (i := 9) rfl)
  | 167, _, _ => exact cwd_157 _ (List.mem_of_getElem? (i := 10) rfl)
  | 168, _, _ => exact cwd_157 _ (List.mem_of_getElem? (i := 11) rfl)
  | 169, _, _ => exact cwd_169 _ (List.mem_of_getElem? (i := 0) rfl)
  | 170, _, _ => exact cwd_169 _ (List.mem_of_getElem? (i := 1) rfl)
  | 171, _, _ => exact cwd_169 _ (List.mem_of_getElem? (i := 2) rfl)
  | 172, _, _ => exact cwd_169 _ (List.mem_of_getElem? (i := 3) rfl)
  | 173, _, _ => exact cwd_169 _ (List.mem_of_getElem? (i := 4) rfl)
  | 174, _, _ => exact cwd_169 _ (List.mem_of_getElem? (i := 5) rfl)
  | 175, _, _ => exact cwd_169 _ (List.mem_of_getElem? (i := 6) rfl)
  | 176, _, _ => exact cwd_169 _ (List.mem_of_getElem? (i := 7) rfl)
  | 177, _, _ => exact cwd_169 _ (List.mem_of_getElem? (i := 8) rfl)
  | 178, _, _ => exact cwd_169 _ (List.mem_of_getElem? (i := 9) rfl)
  | 179, _, _ => exact cwd_169 _ (List.mem_of_getElem? (i := 10) rfl)
  | 180, _, _ => exact cwd_169 _ (List.mem_of_getElem? (i := 11) rfl)
  | 181, _, _ => exact cwd_181 _ (List.mem_of_getElem? (i := 0) rfl)
  | 182, _, _ => exact cwd_181 _ (List.mem_of_getElem? (i := 1) rfl)
  | 183, _, _ => exact cwd_181 _ (List.mem_of_getElem? (i := 2) rfl)
  | 184, _, _ => exact cwd_181 _ (List.mem_of_getElem? (i := 3) rfl)
  | 185, _, _ => exact cwd_181 _ (List.mem_of_getElem? (i := 4) rfl)
  | 186, _, _ => exact cwd_181 _ (List.mem_of_getElem? (i := 5) rfl)
  | 187, _, _ => exact cwd_181 _ (List.mem_of_getElem? (i := 6) rfl)
  | 188, _, _ => exact cwd_181 _ (List.mem_of_getElem? (i := 7) rfl)
  | 189, _, _ => exact cwd_181 _ (List.mem_of_getElem? (i := 8) rfl)
  | 190, _, _ => exact cwd_181 _ (List.mem_of_getElem? (i := 9) rfl)
  | 191, _, _ => exact cwd_181 _ (List.mem_of_getElem? (i := 10) rfl)
  | 192, _, _ => exact cwd_181 _ (List.mem_of_getElem? (i := 11) rfl)
  | 193, _, _ => exact cwd_193 _ (List.mem_of_getElem? (i := 0) rfl)
  | 194, _, _ => exact cwd_193 _ (List.mem_of_getElem? (i := 1) rfl)
  | 195, _, _ => exact cwd_193 _ (List.mem_of_getElem? (i := 2) rfl)
  | 196, _, _ => exact cwd_193 _ (List.mem_of_getElem? (i := 3) rfl)
  | 197, _, _ => exact cwd_193 _ (List.mem_of_getElem? (i := 4) rfl)
  | 198, _, _ => exact cwd_193 _ (List.mem_of_getElem? (i := 5) rfl)
  | 199, _, _ => exact cwd_193 _ (List.mem_of_getElem? (i := 6) rfl)
  | 200, _, _ => exact cwd_193 _ (List.mem_of_getElem? (i := 7) rfl)
  | 201, _, _ => exact cwd_193 _ (List.mem_of_getElem? (i := 8) rfl)
  | 202, _, _ => exact cwd_193 _ (List.mem_of_getElem? (i := 9) rfl)
  | 203, _, _ => exact cwd_193 _ (List.mem_of_getElem? (i := 10) rfl)
  | 204, _, _ => exact cwd_193 _ (List.mem_of_getElem? (i := 11) rfl)
  | 205, _, _ => exact cwd_205 _ (List.mem_of_getElem? (i := 0) rfl)
  | 206, _, _ => exact cwd_205 _ (List.mem_of_getElem? (i := 1) rfl)
  | 207, _, _ => exact cwd_205 _ (List.mem_of_getElem? (i := 2) rfl)
  | 208, _, _ => exact cwd_205 _ (List.mem_of_getElem? (i := 3) rfl)
  | 209, _, _ => exact cwd_205 _ (List.mem_of_getElem? (i := 4) rfl)
  | 210, _, _ => exact cwd_205 _ (List.mem_of_getElem? (i := 5) rfl)
  | 211, _, _ => exact cwd_205 _ (List.mem_of_getElem? (i := 6) rfl)
  | z + 212, _, h => exact absurd h (by omega)
section SNR
variable {g : mG} {p : Program} {l : Launch} {e : Env} {R : Room} {s : State} {m : MethodId} {args : Array Value} {below : List Frame} {meth : Method} {c : Code} {y d M0 len pc : Nat} {L st : List Value} {M : mM} {Q : State → Prop} {r : mR}
theorem iv_inv {i sp : Nat} (h : minv y i st sp M = some (.inl r)) : False := by
  unfold minv mcall at h
  split at h
  split at h
  · split at h
    · split at h
      · split at h
        · obtain ⟨-, h⟩ := gt_some h
          cases h
        · cases h
      · cases h
    · cases h
  · split at h
    · split at h
      · obtain ⟨-, h⟩ := gt_some h
        cases h
      · cases h
    · split at h
      · split at h
        · split at h
          · obtain ⟨-, h⟩ := gt_some h
            cases h
          · cases h
        · cases h
      · cases h
theorem sn_invokestatic {i : Nat} (C : cx g p R s m meth c y d args) (hd : decode (bt y) pc = .ok (.invokestatic i, len)) (hs : stp y (.invokestatic i) len pc L st M = some (.inl r)) (k : Kn g p l e R s m args below meth c y M0 Q r) : Kn g p l e R s m args below meth c y M0 Q (pc, L, st, M) := by
  obtain ⟨hx, hb, -, hml, hown, hts, -, hini, hK, hF, hfr, hlo, hbs, h9⟩ := C
  simp only [stp] at hs
  obtain ⟨rfl, hs2⟩ := gt_some hs
  split at hs2
  · rename_i hk9
    have hws := lk_w (c := mow y) (i := i) rfl (by rw [hk9]; simp)
    have hlk : lk (mow y) i = (9, (lk (mow y) i).2.1, (lk (mow y) i).2.2) := by rw [← hk9]
    rw [hlk] at hws
    unfold mcopy at hs2
    split at hs2
    · rename_i n dp a sp a0
      split at hs2
      · rename_i n0 f n1 q h1 h2
        obtain ⟨⟨g1, g2, g3, g4, g5⟩, hs3⟩ := gt_some hs2
        obtain rfl := iv_nx hs3
        intro H locs ls a1 a2 a3 a4
        have hq0 : a0 < M.1 := rp_ar a1 h1
        have hq : a < M.1 := rp_ar a1 h2
        have he0 := wo_get (g := g) hq0
        have he := wo_get (g := g) hq
        rw [h1] at he0
        rw [h2] at he
        show W _ _ _ _ _ _ _ _ _ _ _ _ _ _ _ (F0 m pc ls [.int n, .int dp, rv g (.ref a), .int sp, rv g (.ref a0)])
        rw [rv_ref (Nat.lt_of_lt_of_le hq a1.2.2.1), rv_ref (Nat.lt_of_lt_of_le hq0 a1.2.2.1)]
        have hsz : c.maxLocals = ls.size := by rw [hml, a3.1]; exact a4.symm
        have hnf : nativeFrameWords "java/lang/System" "arraycopy" 5 + 11 ≤ 64 := by decide
        exact va_copyi hx hb hsz hown (hts _ (hws _ (by simp [lw]))) (hts _ (hws _ (by simp [lw]))) (hts _ (hws _ (by simp [lw]))) (hts _ (hws _ (by simp [lw]))) hK a1.2.2.2 wo_D a2 a0 a 0 0 he0 he rfl rfl rfl g1 g2 g3 g4 g5 (fun _ _ => rfl) (by omega) (by simp; omega) hd
          (fun H1 locs1 hP1 hD1 hS1 => k H1 locs1 ls (rp_set (x := .inl (0, n1, va_cpy f q sp.toNatClampNeg dp.toNatClampNeg n.toNatClampNeg)) a1 hq rfl hP1) hS1 a3 a4)
      · cases hs2
    · cases hs2
  · exact absurd (iv_inv hs2) id
theorem sn_invokespecial {i : Nat} (C : cx g p R s m meth c y d args) (hd : decode (bt y) pc = .ok (.invokespecial i, len)) (hs : stp y (.invokespecial i) len pc L st M = some (.inl r)) (k : Kn g p l e R s m args below meth c y M0 Q r) : Kn g p l e R s m args below meth c y M0 Q (pc, L, st, M) := by
  obtain ⟨hx, hb, -, hml, hown, hts, -, hini, hK, hF, hfr, hlo, hbs, h9⟩ := C
  simp only [stp] at hs
  obtain ⟨rfl, hs2⟩ := gt_some hs
  split at hs2
  · rename_i hk9
    have hws := lk_w (c := mow y) (i := i) rfl (by rw [hk9]; simp)
    have hlk : lk (mow y) i = (8, (lk (mow y) i).2.1, (lk (mow y) i).2.2) := by rw [← hk9]
    rw [hlk] at hws
    split at hs2
    · rename_i b st2
      obtain ⟨⟨g1, g2⟩, hs3⟩ := gt_some hs2
      obtain rfl := iv_nx hs3
      intro H locs ls a1 a2 a3 a4
      have hsum : ((st2.map (rv g)).map fun v => v.category).sum ≤ 8 := by
        have key : ∀ (l : List Value), ((l.map (rv g)).map fun v => v.category).sum ≤ 2 * l.length := by
          intro l
          induction l with
          | nil => exact Nat.le_refl _
          | cons v l ih =>
            have : (rv g v).category ≤ 2 := by rcases lv_cat (rv g v) with h | h <;> omega
            simp only [List.map_cons, List.sum_cons, List.length_cons]
            omega
        have := key st2
        omega
      show W _ _ _ _ _ _ _ _ _ _ _ _ _ _ _ (F0 m pc ls (rv g (.ref b) :: st2.map (rv g)))
      rw [rv_ref g1]
      have hsz : ls.size = c.maxLocals := by rw [hml, a3.1]; exact a4
      exact W.objInit hx hb hown (hts _ (hws _ (by simp [lw]))) (hts _ (hws _ (by simp [lw]))) (hts _ ws_obj) rfl hsz rfl hd (by omega) (by show 2 * 0 + _ + 12 ≤ _; omega) (k H locs ls a1 a2 a3 a4)
    · cases hs2
  · exact absurd (iv_inv hs2) id
theorem sn_invokevirtual {i : Nat} (hs : stp y (.invokevirtual i) len pc L st M = some (.inl r)) : False := by
  simp only [stp] at hs
  obtain ⟨rfl, hs2⟩ := gt_some hs
  exact iv_inv hs2
/-- a call's room on the stack -/
theorem sum8 {l : List Value} (h : l.length ≤ 4) : ((l.map (rv g)).map fun v => v.category).sum ≤ 8 := by
  have key : ∀ (l : List Value), ((l.map (rv g)).map fun v => v.category).sum ≤ 2 * l.length := by
    intro l
    induction l with
    | nil => exact Nat.le_refl _
    | cons v l ih =>
      have : (rv g v).category ≤ 2 := by rcases lv_cat (rv g v) with h | h <;> omega
      simp only [List.map_cons, List.sum_cons, List.length_cons]
      omega
  have := key l
  omega
-- contracts
def Pq (g : mG) (vs : List Value) (M : mM) : Array Value → State → Prop := fun a U => a = (vs.map (rv g)).toArray ∧ U.heap.size = gB g + M.1 ∧ rp g M U.heap ∧ va_K (gD g) mcl (tysm g) U ∧ rof g U U.heap
def Qq (g : mG) (v : Option Value) (M : mM) : Array Value → State → Outcome → State → Prop := fun _ st oc t => oc = .returned (v.map (rv g)) ∧ rp g M t.heap ∧ va_F (Ab g) st t
def rmm (d k : Nat) : Room := { frames := d + 1, cells := k, slots := 1200 * k, locals := 64 * (d + 1) }
def wsm (z : Nat) : List Cond := cwd z :: WS
theorem pq_blind {vs : List Value} : FrameBlind (Pq g vs M) := fun a U gg mk h => ⟨h.1, h.2.1, h.2.2.1, va_K.moved (u := U) (U := U.calling gg mk a) (Vm.Alike.refl U.vm) h.2.2.2.1, rof_same (s := U) (U := U.calling gg mk a) rfl h.2.2.2.2⟩
theorem pq_at {vs : List Value} {H : Heap} {locs : List Loc} (hK : va_K (gD g) mcl (tysm g) s) (hF : rof g s s.heap) (a1 : rp g M H) (a2 : va_S (Ab g) s.heap H locs) (hsz : H.size = gB g + M.1) {U : State} (hU : U.heap = H) (hW : s.WarmedH U.vm) : Pq g vs M ((vs.map (rv g)).toArray) U :=
  ⟨rfl, by rw [hU]; exact hsz, by rw [hU]; exact a1, va_K.moved hW.alike hK, by rw [hU]; exact rof_kept (rof_warm hW hF) a2.2.1⟩
/-- what the machine's run of a method gives the caller -/
theorem sn_ran {v2 : Option Value} {M2 : mM} {rest : List Value} {a : Array Value} (h0 : M0 ≤ M.1) (h1 : M.1 ≤ M2.1)
    (hr : ∀ (H : Heap) (locs : List Loc) (ls : Array Slot), rp g M H → va_S (Ab g) s.heap H locs → lr g ls L → L.length = mml y → H.size = gB g + M.1 →
      va_Run p l e R s m args below meth c H locs (M.1 - M0) (1200 * (M.1 - M0)) (M2.1 - M.1) (1200 * (M2.1 - M.1)) (F0 m pc ls (st.map (rv g))) (rest.map (rv g)) (Qq g v2 M2 a) (Ab g))
    (hz : s.heap.size = gB g + M0) (k : Kn g p l e R s m args below meth c y M0 Q (pc + 3, L, v2.toList ++ rest, M2)) : Kn g p l e R s m args below meth c y M0 Q (pc, L, st, M) := by
  intro H locs ls a1 a2 a3 a4
  refine w_sz hz h0 a1 a2 fun hsz => ?_
  intro T hT X
  obtain ⟨v, st₀, t, T', Lc, b0, X', hL, e1, e2, ⟨hv, hrp, hz', hk⟩, stp'⟩ := hr H locs ls a1 a2 a3 a4 hsz T hT X
  rw [b0] at hz' hk
  cases hv
  have e3 : M.1 - M0 + (M2.1 - M.1) = M2.1 - M0 := by omega
  have e4 : 1200 * (M.1 - M0) + 1200 * (M2.1 - M.1) = 1200 * (M2.1 - M0) := by omega
  rw [e3, e4] at X'
  have h4 := k T'.heap (locs ++ Lc) ls (by rw [e1]; exact hrp)
    ⟨Nat.le_trans a2.1 (by rw [e1]; exact hz'), fun q g1 g2 => by rw [e1, hk q (Nat.lt_of_lt_of_le g1 a2.1) g2]; exact a2.2.1 q g1 g2, fun q hq => by
      rcases List.mem_append.mp hq with h | h
      · exact a2.2.2 q h
      · exact hL q h⟩ a3 a4
  have e5 : (v2.toList ++ rest).map (rv g) = (v2.map (rv g)).toList ++ rest.map (rv g) := by cases v2 <;> simp
  dsimp only at h4
  rw [e5] at h4
  obtain ⟨t2, c1, c2⟩ := h4 T' rfl X'
  exact ⟨t2, stp' t2 c1, c2⟩
/-- a method's contract out of its run -/
theorem met_of {z d' : Nat} {vs : List Value} {v2 : Option Value} {M2 : mM} (l : Launch) (h0 : 0 < z) (hz : z < 212) (h9 : g9 g = .null ∨ ∃ a, g9 g = .ref a) (hvs : (mexp vs).length ≤ mml z)
    (hrun : ∀ {p : Program} {e : Env} {R : Room} {s : State} {m : MethodId} {args : Array Value} {below : List Frame} {meth : Method} {c : Code}, cx g p R s m meth c z d' args → s.heap.size = gB g + M.1 → M2.1 - M.1 ≤ R.cells → 1200 * (M2.1 - M.1) ≤ R.slots →
      Kn g p l e R s m args below meth c z M.1 (MQ below (Qq g v2 M2) args s (M2.1 - M.1) (1200 * (M2.1 - M.1)) (Ab g)) (0, ment z vs, [], M)) :
    Met l (myn z) (wsm z) (rmm d' (M2.1 - M.1)) (Pq g vs M) (Qq g v2 M2) (M2.1 - M.1) (1200 * (M2.1 - M.1)) (Ab g) := by
  obtain ⟨z1, z2, z3, z4⟩ := z_ok z hz h0
  refine va_MetF (cc := bt z) (maxL := mml z) (ret := mrt z) z1 (ws' := WS) rfl ?_
  intro p e s m args below meth c s₁ B hml hP
  obtain ⟨rfl, hsz, hrp, hK, hF⟩ := hP
  have hts := atoms_spec (ws := wsm z) B.pre
  have hown : s.vm.findClass (cn (mow z)) = some m.cls := by rw [z3]; exact findClass_of_methodNamed B.named
  have hC : cx g p (rmm d' (M2.1 - M.1)) s m meth c z d' (vs.map (rv g)).toArray :=
    ⟨B.exec, B.bytes, B.returns, hml, hown, fun w hw => hts w (List.mem_cons_of_mem _ hw), B.notSynchronized, fun h => ((name_of_methodNamed B.named B.method).1).trans h, hK, hF, Nat.le_refl _, Nat.le_refl _, by omega, h9⟩
  have h4 := hrun (e := e) (below := below) hC hsz (Nat.le_refl _) (Nat.le_refl _)
  rw [lg_entry_eq]
  have hcat : ∀ v, (rv g v).category = v.category := rv_cat h9
  have hln : ∀ vs : List Value, (lg_sl (vs.map (rv g))).length = (mexp vs).length := by
    intro vs
    induction vs with
    | nil => rfl
    | cons v vs ih =>
      simp only [lg_sl, mexp, List.map_cons, List.flatMap_cons, List.length_append, hcat] at ih ⊢
      rw [ih]
      by_cases h : v.category = 2 <;> simp [h]
  have hent := lv_entry (vs.map (rv g)) (n := mml z) (by rw [hln]; exact hvs)
  have hlen : (ment z vs).length = mml z := by simp [ment]; omega
  have hargs : ∀ (vs : List Value) (i j : Nat) (v : Value), (mexp vs)[j]? = some v → v ≠ .null → (i + j, rv g v) ∈ lv_args i (vs.map (rv g)) := by
    intro vs
    induction vs with
    | nil => intro i j v h; simp [mexp] at h
    | cons w vs ih =>
      intro i j v h hn
      simp only [mexp, List.flatMap_cons] at h ih
      simp only [List.map_cons, lv_args, hcat]
      by_cases hc : w.category = 2
      · rw [if_pos hc] at h ⊢
        match j, h with
        | 0, h =>
          simp at h
          subst h
          exact List.mem_cons_self
        | 1, h =>
          simp at h
          exact absurd h.symm hn
        | j + 2, h =>
          simp at h
          have := ih (i + 2) j v (by simpa using h) hn
          rw [show i + 2 + j = i + (j + 2) by omega] at this
          exact List.mem_cons_of_mem _ this
      · rw [if_neg hc] at h ⊢
        match j, h with
        | 0, h =>
          simp at h
          subst h
          exact List.mem_cons_self
        | j + 1, h =>
          simp at h
          have := ih (i + 1) j v (by simpa using h) hn
          rw [show i + 1 + j = i + (j + 1) by omega] at this
          exact List.mem_cons_of_mem _ this
  have hlr : lr g ((lg_sl (vs.map (rv g)) ++ List.replicate (mml z - (lg_sl (vs.map (rv g))).length) Slot.unset).toArray) (ment z vs) := by
    refine ⟨by rw [hlen]; exact hent.1, hent.2.1, fun q hq => hent.2.2 q ?_⟩
    obtain ⟨v, g1, g2, g3⟩ := asc_mem.mp hq
    have hj : q.1 < (mexp vs).length := by
      by_cases hj : q.1 < (mexp vs).length
      · exact hj
      · rw [ment, List.getElem?_append_right (Nat.le_of_not_lt hj)] at g1
        have := List.mem_of_getElem? g1
        exact absurd (List.eq_of_mem_replicate this) g2
    rw [ment, List.getElem?_append_left hj] at g1
    have := hargs vs 0 q.1 v g1 g2
    rw [Nat.zero_add, ← g3] at this
    exact this
  have h5 := h4 s.heap [] _ hrp va_S.rf hlr hlen
  dsimp only at h5
  rw [Nat.sub_self, Nat.mul_zero] at h5
  exact h5
end SNR
end
section
/-! WHOLE RUNS (wip/whole/gen9.py) -/
section SNW
variable {g : mG} {p : Program} {l : Launch} {e : Env} {R : Room} {s : State} {m : MethodId} {args : Array Value} {below : List Frame} {meth : Method} {c : Code} {y d M0 len pc : Nat} {L st : List Value} {M : mM} {Q : State → Prop} {r : mR}
theorem cut_at {n b : Nat} (h : st[n]? = some (.ref b)) : ∃ As rest, As.length = n ∧ st = As.reverse ++ .ref b :: rest ∧ (st.take (n + 1)).reverse = .ref b :: As ∧ st.drop (n + 1) = rest := by
  have hn : n < st.length := (List.getElem?_eq_some_iff.mp h).1
  have h1 : st[n] = .ref b := by
    have := List.getElem?_eq_getElem hn
    rw [this] at h
    exact Option.some.inj h
  refine ⟨(st.take n).reverse, st.drop (n + 1), by simp; omega, ?_, ?_, rfl⟩
  · rw [List.reverse_reverse, ← h1, ← List.drop_eq_getElem_cons hn, List.take_append_drop]
  · rw [List.take_succ, h]
    simp
theorem iv_v {i z : Nat} {vs rest : List Value} (h : minv y i st 0 M = some (.inr (.inl (z, vs, rest)))) : ∃ (na b : Nat) (As : List Value), (lk (mow y) i = (4, z, na) ∨ lk (mow y) i = (15, z, na)) ∧ mrecv z b M = true ∧ As.length = na ∧ st = As.reverse ++ .ref b :: rest ∧ vs = .ref b :: As ∧ rest.length ≤ 4 := by
  unfold minv at h
  generalize hlk : lk (mow y) i = q at h
  obtain ⟨k, z', na⟩ := q
  dsimp only at h
  rw [if_pos rfl] at h
  obtain ⟨hk, h⟩ := gt_some h
  split at h
  · rename_i b hb
    obtain ⟨hr, h⟩ := gt_some h
    unfold mcall at h
    obtain ⟨⟨h1, h2⟩, h⟩ := gt_some h
    obtain ⟨As, rest', e1, e2, e3, e4⟩ := cut_at hb
    simp only [if_true, Option.some.injEq, Sum.inr.injEq, Sum.inl.injEq, Prod.mk.injEq] at h
    obtain ⟨rfl, rfl, rfl⟩ := h
    refine ⟨na, b, As, ?_, hr, e1, by rw [e4]; exact e2, e3, h2⟩
    rcases hk with hk | hk
    · subst hk; exact Or.inl rfl
    · subst hk; exact Or.inr rfl
  · cases h
theorem iv_s {i z : Nat} {vs rest : List Value} (h : minv y i st 1 M = some (.inr (.inl (z, vs, rest)))) : ∃ (na : Nat), lk (mow y) i = (5, z, na) ∧ vs.length = na ∧ st = vs.reverse ++ rest ∧ rest.length ≤ 4 := by
  unfold minv at h
  generalize hlk : lk (mow y) i = q at h
  obtain ⟨k, z', na⟩ := q
  dsimp only at h
  rw [if_neg (by decide), if_pos rfl] at h
  obtain ⟨hk, h⟩ := gt_some h
  unfold mcall at h
  obtain ⟨⟨h1, h2⟩, h⟩ := gt_some h
  simp only [Option.some.injEq, Sum.inr.injEq, Sum.inl.injEq, Prod.mk.injEq] at h
  obtain ⟨rfl, rfl, rfl⟩ := h
  subst hk
  simp only [Bool.false_eq_true, if_false] at h1 h2 ⊢
  exact ⟨na, rfl, by simp; omega, by simp, h2⟩
theorem iv_i {i z : Nat} {vs rest : List Value} (h : minv y i st 2 M = some (.inr (.inl (z, vs, rest)))) : ∃ (na b : Nat) (As : List Value), (lk (mow y) i = (6, z, na) ∨ lk (mow y) i = (7, z, na)) ∧ b < 1000 ∧ As.length = na ∧ st = As.reverse ++ .ref b :: rest ∧ vs = .ref b :: As ∧ rest.length ≤ 4 := by
  unfold minv at h
  generalize hlk : lk (mow y) i = q at h
  obtain ⟨k, z', na⟩ := q
  dsimp only at h
  rw [if_neg (by decide), if_neg (by decide)] at h
  obtain ⟨hk, h⟩ := gt_some h
  split at h
  · rename_i b hb
    obtain ⟨hr, h⟩ := gt_some h
    unfold mcall at h
    obtain ⟨⟨h1, h2⟩, h⟩ := gt_some h
    obtain ⟨As, rest', e1, e2, e3, e4⟩ := cut_at hb
    simp only [if_true, Option.some.injEq, Sum.inr.injEq, Sum.inl.injEq, Prod.mk.injEq] at h
    obtain ⟨rfl, rfl, rfl⟩ := h
    refine ⟨na, b, As, ?_, hr, e1, by rw [e4]; exact e2, e3, h2⟩
    rcases hk with hk | hk
    · subst hk; exact Or.inl rfl
    · subst hk; exact Or.inr rfl
  · cases h
theorem ws_good {z : Nat} (h0 : 0 < z) (hz : z < 212) : GoodIn WS (wsm z) := by
  intro w hw
  have h1 : w ∈ WS := by
    rcases List.mem_cons.mp hw with h | h
    · subst h; exact cwd_in h0 hz
    · exact h
  exact ⟨h1, good_of_word (List.mem_filter.mp h1).2⟩
theorem cb_of {z na d' i : Nat} {M2 : mM} (C : cx g p R s m meth c y d args) (h0 : 0 < z) (hz : z < 212) (hn : znm z na = true) (hd : d = d' + 1) (hini : (Cond.initialized (myn z).cls).before args s = true) (hl : (Cond.methodLink (cn (mow y)) i (myn z)).before args s = true) :
    CallB R s args (cn (mow y)) i (myn z) (bt z) (mml z) (mrt z) (wsm z) (rmm d' (M2.1 - M.1)) (M2.1 - M.1) (1200 * (M2.1 - M.1)) na := by
  obtain ⟨hx, hb, hrt0, hml, hown, hts, hlk0, hini0, hK, hF, hfr, hlo, hbs, h9⟩ := C
  obtain ⟨z1, z2, z3, z4⟩ := z_ok z hz h0
  subst hd
  exact callB_of na hts (ws_good h0 hz) rfl rfl rfl hini hl ⟨z2.1, z2.2, by simpa [znm] using hn⟩ ⟨hfr, by show 8 + (mml z + 11) + 64 * (d' + 1) ≤ R.locals; omega⟩
theorem sn_callV {i z d' : Nat} {vs rest : List Value} {v2 : Option Value} {M2 : mM} (C : cx g p R s m meth c y d args) (hz : s.heap.size = gB g + M0) (h0 : M0 ≤ M.1) (h1 : M.1 ≤ M2.1) (hr1 : M2.1 - M0 ≤ R.cells) (hr2 : 1200 * (M2.1 - M0) ≤ R.slots) (hd : decode (bt y) pc = .ok (.invokevirtual i, 3)) (hs : minv y i st 0 M = some (.inr (.inl (z, vs, rest)))) (hdd : d = d' + 1)
    (hM : 0 < z → z < 212 → Met l (myn z) (wsm z) (rmm d' (M2.1 - M.1)) (Pq g vs M) (Qq g v2 M2) (M2.1 - M.1) (1200 * (M2.1 - M.1)) (Ab g)) (k : Kn g p l e R s m args below meth c y M0 Q (pc + 3, L, v2.toList ++ rest, M2)) : Kn g p l e R s m args below meth c y M0 Q (pc, L, st, M) := by
  obtain ⟨na, b, As, hlk, hrv, hlen, hst, rfl, hrest⟩ := iv_v hs
  have C' := C
  obtain ⟨hx, hb, hrt0, hml, hown, hts, hlk0, hini0, hK, hF, hfr, hlo, hbs, h9⟩ := C'
  have hfacts : 0 < z ∧ z < 212 ∧ znm z na = true ∧ (mow z < 8 ∨ mow z = 8) ∧ (∀ w ∈ ([.methodLink (cn (mow y)) i (myn z), .instanceMethod (myn z), .selects (myn z).cls (myn z) (myn z), .initialized (myn z).cls] : List Cond), w ∈ WS) := by
    rcases hlk with hlk | hlk
    · have ht := lk_t hlk (by simp)
      have hw := lk_w hlk (by simp)
      simp only [lkt, Bool.and_eq_true, decide_eq_true_eq] at ht
      exact ⟨ht.1.1.1, ht.1.1.2, ht.2, Or.inl ht.1.2, hw⟩
    · have ht := lk_t hlk (by simp)
      have hw := lk_w hlk (by simp)
      simp only [lkt, Bool.and_eq_true, decide_eq_true_eq] at ht
      exact ⟨ht.1.1.1, ht.1.1.2, ht.2, Or.inr ht.1.2, hw⟩
  obtain ⟨z0, zN, zn, zc, hw⟩ := hfacts
  obtain ⟨z1, z2, z3, z4⟩ := z_ok z zN z0
  have cb := cb_of (i := i) (M2 := M2) (M := M) C z0 zN zn hdd (hts _ (hw _ (by simp))) (hts _ (hw _ (by simp)))
  have hMet := hM z0 zN
  have hcl : ∀ {H : Heap} {locs : List Loc}, rp g M H → va_S (Ab g) s.heap H locs → ∃ a : Nat, rv g (.ref b) = .ref a ∧ ∃ cell : Cell, H[a]? = some cell ∧ cell.vm.isStatics = false ∧ s.vm.findClass (myn z).cls = some cell.cls := by
    intro H locs a1 a2
    unfold mrecv at hrv
    split at hrv
    · rename_i a fs hM2
      simp only [decide_eq_true_eq] at hrv
      subst hrv
      rcases zc with zc | zc
      · have hq : b < M.1 := rp_obj a1 hM2 zc
        have he := wo_get (g := g) hq
        rw [hM2] at he
        refine ⟨gB g + b, rv_ref (Nat.lt_of_lt_of_le hq a1.2.2.1), ?_⟩
        have := va_recv hK a1.2.2.2 (cl_at zc) he
        rw [← z3]
        exact this
      · have hq : ¬ b < M.1 := fun hq => by
          have := a1.1 b hq
          rw [hM2] at this
          exact absurd this (by simp [wk, zc])
        have hro := a1.2.1 b (Nat.le_of_not_lt hq)
        rw [hM2] at hro
        rcases ro_obj hro.symm with ⟨-, e1, e2, -⟩ | ⟨e1, -⟩
        · refine ⟨gO g (3 + (b - 1003)), rv_o2 (by omega) (by omega) (by omega), ?_⟩
          have h3 := vk_recv hF.2.2.2.2.2.2.2.1 (i := b - 1003) (by omega) a2
          rw [← z3, zc]
          exact h3
        · omega
    · cases hrv
  refine sn_ran (a := #[]) h0 h1 (fun H locs ls a1 a2 a3 a4 hsz => ?_) hz k
  obtain ⟨a, ha, hcell⟩ := hcl a1 a2
  have hls : ls.size = mml y := by rw [a3.1]; exact a4
  have hpre : PreV s H (myn z).cls a (Pq g (.ref b :: As) M) (As.map (rv g)) := ⟨pq_blind, hcell, fun U hU hW => by
    have := pq_at (vs := .ref b :: As) hK hF a1 a2 hsz hU hW
    rw [List.map_cons, ha] at this
    exact this⟩
  exact va_runV (C := (myn z).cls) (b := a) (As := As.map (rv g)) (rest := rest.map (rv g)) (n := na) ⟨hx, hb, hml, hown, hts⟩ hMet ⟨cb, hts _ (hw _ (by simp)), hts _ (hw _ (by simp))⟩ hpre rfl (by simpa using hlen) hls (by show st.map (rv g) = _; rw [hst, List.map_append, List.map_cons, ha, List.map_reverse]) (lv_room (sum8 hrest)) hd ⟨by omega, by omega⟩
theorem sn_callS {i z d' : Nat} {vs rest : List Value} {v2 : Option Value} {M2 : mM} (C : cx g p R s m meth c y d args) (hz : s.heap.size = gB g + M0) (h0 : M0 ≤ M.1) (h1 : M.1 ≤ M2.1) (hr1 : M2.1 - M0 ≤ R.cells) (hr2 : 1200 * (M2.1 - M0) ≤ R.slots) (hd : decode (bt y) pc = .ok (.invokestatic i, 3)) (hs : minv y i st 1 M = some (.inr (.inl (z, vs, rest)))) (hdd : d = d' + 1)
    (hM : 0 < z → z < 212 → Met l (myn z) (wsm z) (rmm d' (M2.1 - M.1)) (Pq g vs M) (Qq g v2 M2) (M2.1 - M.1) (1200 * (M2.1 - M.1)) (Ab g)) (k : Kn g p l e R s m args below meth c y M0 Q (pc + 3, L, v2.toList ++ rest, M2)) : Kn g p l e R s m args below meth c y M0 Q (pc, L, st, M) := by
  obtain ⟨na, hlk, hlen, hst, hrest⟩ := iv_s hs
  have C' := C
  obtain ⟨hx, hb, hrt0, hml, hown, hts, hlk0, hini0, hK, hF, hfr, hlo, hbs, h9⟩ := C'
  have ht := lk_t hlk (by simp)
  have hw := lk_w hlk (by simp)
  simp only [lkt, Bool.and_eq_true, decide_eq_true_eq] at ht
  obtain ⟨⟨z0, zN⟩, zn⟩ := ht
  have cb := cb_of (i := i) (M2 := M2) (M := M) C z0 zN zn hdd (hts _ (hw _ (by simp [lw]))) (hts _ (hw _ (by simp [lw])))
  have hMet := hM z0 zN
  refine sn_ran (a := #[]) h0 h1 (fun H locs ls a1 a2 a3 a4 hsz => ?_) hz k
  have hls : ls.size = mml y := by rw [a3.1]; exact a4
  exact va_runS (As := vs.map (rv g)) (rest := rest.map (rv g)) (n := na) ⟨hx, hb, hml, hown, hts⟩ hMet ⟨cb, hts _ (hw _ (by simp [lw]))⟩ ⟨pq_blind, fun U hU hW => pq_at hK hF a1 a2 hsz hU hW⟩ rfl (by simpa using hlen) hls (by show st.map (rv g) = _; rw [hst, List.map_append, List.map_reverse]) (lv_room (sum8 hrest)) hd ⟨by omega, by omega⟩
theorem sn_callI {i z d' : Nat} {vs rest : List Value} {v2 : Option Value} {M2 : mM} (C : cx g p R s m meth c y d args) (hz : s.heap.size = gB g + M0) (h0 : M0 ≤ M.1) (h1 : M.1 ≤ M2.1) (hr1 : M2.1 - M0 ≤ R.cells) (hr2 : 1200 * (M2.1 - M0) ≤ R.slots) (hd : decode (bt y) pc = .ok (.invokespecial i, 3)) (hs : minv y i st 2 M = some (.inr (.inl (z, vs, rest)))) (hdd : d = d' + 1)
    (hM : 0 < z → z < 212 → Met l (myn z) (wsm z) (rmm d' (M2.1 - M.1)) (Pq g vs M) (Qq g v2 M2) (M2.1 - M.1) (1200 * (M2.1 - M.1)) (Ab g)) (k : Kn g p l e R s m args below meth c y M0 Q (pc + 3, L, v2.toList ++ rest, M2)) : Kn g p l e R s m args below meth c y M0 Q (pc, L, st, M) := by
  obtain ⟨na, b, As, hlk, hbk, hlen, hst, rfl, hrest⟩ := iv_i hs
  have C' := C
  obtain ⟨hx, hb, hrt0, hml, hown, hts, hlk0, hini0, hK, hF, hfr, hlo, hbs, h9⟩ := C'
  have hpre : ∀ {H : Heap} {locs : List Loc}, rp g M H → va_S (Ab g) s.heap H locs → H.size = gB g + M.1 → PreS s H (Pq g (.ref b :: As) M) (.ref (gB g + b) :: As.map (rv g)) := fun a1 a2 hsz => ⟨pq_blind, fun U hU hW => by
    have := pq_at (vs := .ref b :: As) hK hF a1 a2 hsz hU hW
    rw [List.map_cons, rv_ref hbk] at this
    exact this⟩
  have hstk : ∀ ls, (F0 m pc ls (st.map (rv g))).stack = (As.map (rv g)).reverse ++ .ref (gB g + b) :: rest.map (rv g) := fun ls => by
    show st.map (rv g) = _
    rw [hst, List.map_append, List.map_cons, rv_ref hbk, List.map_reverse]
  rcases hlk with hlk | hlk
  · have ht := lk_t hlk (by simp)
    have hw := lk_w hlk (by simp)
    simp only [lkt, Bool.and_eq_true, decide_eq_true_eq] at ht
    obtain ⟨⟨⟨⟨z0, zN⟩, zn⟩, zi⟩, zr⟩ := ht
    have cb := cb_of (i := i) (M2 := M2) (M := M) C z0 zN zn hdd (hts _ (hw _ (by simp [lw]))) (hts _ (hw _ (by simp [lw])))
    have hMet := hM z0 zN
    rw [zr] at cb
    refine sn_ran (a := #[]) h0 h1 (fun H locs ls a1 a2 a3 a4 hsz => ?_) hz k
    have hls : ls.size = mml y := by rw [a3.1]; exact a4
    exact va_runI (As := As.map (rv g)) (rest := rest.map (rv g)) (n := na) ⟨hx, hb, hml, hown, hts⟩ hMet ⟨cb, zi, hts _ (hw _ (by simp [lw]))⟩ (hpre a1 a2 hsz) rfl (by simpa using hlen) hls (hstk ls) (lv_room (sum8 hrest)) hd ⟨by omega, by omega⟩
  · have ht := lk_t hlk (by simp)
    have hw := lk_w hlk (by simp)
    simp only [lkt, Bool.and_eq_true, Bool.or_eq_true, decide_eq_true_eq] at ht
    obtain ⟨⟨⟨⟨⟨z0, zN⟩, zn⟩, zi⟩, zr⟩, zz⟩ := ht
    obtain ⟨z1, z2, z3, z4⟩ := z_ok z zN z0
    obtain ⟨n1, n2, n3, n4, n5⟩ := hF.2.2.2.2.2.2.2.2.2.2
    have hnest : va_Nw (.methodLinkNest (cn (mow y)) i (myn z) "ThrownBack") s := by
      rcases zz with (((⟨e1, e2, e3⟩ | ⟨e1, e2, e3⟩) | ⟨e1, e2, e3⟩) | ⟨e1, e2, e3⟩) | ⟨e1, e2, e3⟩ <;> subst e2 <;> rw [e1, e3]
      · exact n1
      · exact n2
      · exact n3
      · exact n4
      · exact n5
    have hMet := hM z0 zN
    subst hdd
    have cb := va_cnB (R := R) (rm := rmm d' (M2.1 - M.1)) (maxL := mml z) (ret := mrt z) (bytes := bt z) na hts (ws_good z0 zN) rfl rfl rfl hnest (hts _ (hw _ (by simp [lw]))) ⟨z2.1, z2.2, by simpa [znm] using zn⟩ ⟨hfr, by show 8 + (mml z + 11) + 64 * (d' + 1) ≤ R.locals; omega⟩
    rw [zr] at cb
    refine sn_ran (a := #[]) h0 h1 (fun H locs ls a1 a2 a3 a4 hsz => ?_) hz k
    have hls : ls.size = mml y := by rw [a3.1]; exact a4
    exact va_runIN (As := As.map (rv g)) (rest := rest.map (rv g)) (n := na) ⟨hx, hb, hml, hown, hts⟩ hMet ⟨cb, zi, hts _ (hw _ (by simp [lw]))⟩ (hpre a1 a2 hsz) rfl (by simpa using hlen) hls (hstk ls) (lv_room (sum8 hrest)) hd ⟨by omega, by omega⟩
set_option maxHeartbeats 4000000 in
theorem stp_ret {ins : Instr} {v : Option Value} (h : stp y ins len pc L st M = some (.inr (.inr v))) : len = 1 ∧ ((ins = .ireturn ∧ ∃ x ty, st = [.int x] ∧ mrt y = some ty ∧ narrow ty (.int x) = .int x ∧ v = some (.int x)) ∨ (ins = .lreturn ∧ ∃ x, st = [.long x] ∧ mrt y = some .long ∧ v = some (.long x)) ∨ (ins = .return_ ∧ st = [] ∧ mrt y = none ∧ v = none)) := by
  cases ins
  case ireturn =>
    simp only [stp] at h
    obtain ⟨h1, h⟩ := gt_some h
    split at h
    · obtain ⟨h2, h⟩ := gt_some h
      simp only [Option.some.injEq, Sum.inr.injEq] at h
      exact ⟨h1, Or.inl ⟨rfl, _, _, rfl, by assumption, h2, h.symm⟩⟩
    · cases h
  case lreturn =>
    simp only [stp] at h
    obtain ⟨h1, h⟩ := gt_some h
    split at h
    · simp only [Option.some.injEq, Sum.inr.injEq] at h
      exact ⟨h1, Or.inr (Or.inl ⟨rfl, _, rfl, by assumption, h.symm⟩)⟩
    · cases h
  case return_ =>
    simp only [stp] at h
    obtain ⟨h1, h⟩ := gt_some h
    split at h
    · simp only [Option.some.injEq, Sum.inr.injEq] at h
      exact ⟨h1, Or.inr (Or.inr ⟨rfl, rfl, by assumption, h.symm⟩)⟩
    · cases h
  all_goals
    exfalso
    simp only [stp, mldI, mldL, mldA, mstI, mstL, mstA, mbin, mbinL, mun, mjmp, mnx, msw, mget, mputf, mald, mast, mald_q, mast_q, mcopy, minv, mcall] at h
    repeat' (split at h)
    all_goals first | cases h | simp_all
set_option maxHeartbeats 4000000 in
theorem stp_mono {ins : Instr} (h : stp y ins len pc L st M = some (.inl r)) : M.1 ≤ r.2.2.2.1 := by
  cases ins
  all_goals
    simp only [stp, mldI, mldL, mldA, mstI, mstL, mstA, mbin, mbinL, mun, mjmp, mnx, msw, mget, mputf, mald, mast, mald_q, mast_q, mcopy, minv, mcall] at h
    repeat' (split at h)
    all_goals first | (cases h; done) | (simp only [Option.some.injEq, Sum.inl.injEq, reduceCtorEq] at h; subst h; first | exact Nat.le_refl _ | exact Nat.le_succ _)
set_option maxHeartbeats 4000000 in
theorem stp_call {ins : Instr} {x : Nat × List Value × List Value} (h : stp y ins len pc L st M = some (.inr (.inl x))) : len = 3 ∧ ((∃ i, ins = .invokevirtual i ∧ minv y i st 0 M = some (.inr (.inl x))) ∨ (∃ i, ins = .invokestatic i ∧ minv y i st 1 M = some (.inr (.inl x))) ∨ (∃ i, ins = .invokespecial i ∧ minv y i st 2 M = some (.inr (.inl x)))) := by
  cases ins
  case invokevirtual i =>
    simp only [stp] at h
    obtain ⟨h1, h⟩ := gt_some h
    exact ⟨h1, Or.inl ⟨i, rfl, h⟩⟩
  case invokestatic i =>
    simp only [stp] at h
    obtain ⟨h1, h⟩ := gt_some h
    split at h
    · exfalso
      simp only [mcopy, mnx] at h
      repeat' (split at h)
      all_goals cases h
    · exact ⟨h1, Or.inr (Or.inl ⟨i, rfl, h⟩)⟩
  case invokespecial i =>
    simp only [stp] at h
    obtain ⟨h1, h⟩ := gt_some h
    split at h
    · exfalso
      simp only [mnx] at h
      repeat' (split at h)
      all_goals cases h
    · exact ⟨h1, Or.inr (Or.inr ⟨i, rfl, h⟩)⟩
  all_goals
    exfalso
    simp only [stp, mldI, mldL, mldA, mstI, mstL, mstA, mbin, mbinL, mun, mjmp, mnx, msw, mget, mputf, mald, mast, mald_q, mast_q, mcopy, minv, mcall] at h
    repeat' (split at h)
    all_goals cases h
theorem sn_ret {ins : Instr} {v : Option Value} (C : cx g p R s m meth c y d args) (hd : decode (bt y) pc = .ok (ins, len)) (hs : stp y ins len pc L st M = some (.inr (.inr v))) : Kn g p l e R s m args below meth c y M0 (MQ below (Qq g v M) args s (M.1 - M0) (1200 * (M.1 - M0)) (Ab g)) (pc, L, st, M) := by
  obtain ⟨hx, hb, hrt0, hml, hown, hts, hlk0, hini, hK, hF, hfr, hlo, hbs, h9⟩ := C
  obtain ⟨rfl, h⟩ := stp_ret hs
  intro H locs ls a1 a2 a3 a4
  have hq : ∀ t : State, t.heap = H → Qq g v M args s (.returned (v.map (rv g))) t := fun t ht => ⟨rfl, by rw [ht]; exact a1, a2.F ht⟩
  rcases h with ⟨rfl, x, ty, rfl, e1, e2, rfl⟩ | ⟨rfl, x, rfl, e1, rfl⟩ | ⟨rfl, rfl, e1, rfl⟩
  · exact W.zret hx hb (hrt0.trans e1) e2 (fun t ht _ => hq t ht) a2.2.2 hd hlk0
  · exact W.lret hx hb (hrt0.trans e1) (fun t ht _ => hq t ht) a2.2.2 hd hlk0
  · exact W.vret hx hb (hrt0.trans e1) (fun t ht _ => hq t ht) a2.2.2 hd hlk0
theorem snd_step {ins : Instr} (C : cx g p R s m meth c y d args) (hz : s.heap.size = gB g + M0) (h0 : M0 ≤ M.1) (hr : r.2.2.2.1 - M0 ≤ R.cells ∧ 1200 * (r.2.2.2.1 - M0) ≤ R.slots) (hd : decode (bt y) pc = .ok (ins, len)) (hs : stp y ins len pc L st M = some (.inl r)) (k : Kn g p l e R s m args below meth c y M0 Q r) : Kn g p l e R s m args below meth c y M0 Q (pc, L, st, M) := by
  cases ins
  case iload => exact sn_iload C hd hs k
  case iload_n => exact sn_iload_n C hd hs k
  case lload => exact sn_lload C hd hs k
  case lload_n => exact sn_lload_n C hd hs k
  case aload => exact sn_aload C hd hs k
  case aload_n => exact sn_aload_n C hd hs k
  case istore => exact sn_istore C hd hs k
  case istore_n => exact sn_istore_n C hd hs k
  case lstore => exact sn_lstore C hd hs k
  case lstore_n => exact sn_lstore_n C hd hs k
  case astore => exact sn_astore C hd hs k
  case astore_n => exact sn_astore_n C hd hs k
  case iconst => exact sn_iconst C hd hs k
  case bipush => exact sn_bipush C hd hs k
  case sipush => exact sn_sipush C hd hs k
  case lconst => exact sn_lconst C hd hs k
  case iadd => exact sn_iadd C hd hs k
  case isub => exact sn_isub C hd hs k
  case imul => exact sn_imul C hd hs k
  case iand => exact sn_iand C hd hs k
  case ior => exact sn_ior C hd hs k
  case ishl => exact sn_ishl C hd hs k
  case ishr => exact sn_ishr C hd hs k
  case idiv => exact sn_idiv C hd hs k
  case irem => exact sn_irem C hd hs k
  case ladd => exact sn_ladd C hd hs k
  case lmul => exact sn_lmul C hd hs k
  case ldiv => exact sn_ldiv C hd hs k
  case lrem => exact sn_lrem C hd hs k
  case ineg => exact sn_ineg C hd hs k
  case i2l => exact sn_i2l C hd hs k
  case i2b => exact sn_i2b C hd hs k
  case i2s => exact sn_i2s C hd hs k
  case i2c => exact sn_i2c C hd hs k
  case l2i => exact sn_l2i C hd hs k
  case lcmp => exact sn_lcmp C hd hs k
  case dup => exact sn_dup C hd hs k
  case pop => exact sn_pop C hd hs k
  case dup2 => exact sn_dup2 C hd hs k
  case iinc => exact sn_iinc C hd hs k
  case ifCond => exact sn_ifCond C hd hs k
  case if_icmp => exact sn_if_icmp C hd hs k
  case goto => exact sn_goto C hd hs k
  case tableswitch => exact sn_tableswitch C hd hs k
  case lookupswitch => exact sn_lookupswitch C hd hs k
  case ldc => exact sn_ldc C hd hs k
  case ldc_w => exact sn_ldc_w C hd hs k
  case ldc2_w => exact sn_ldc2_w C hd hs k
  case getfield => exact sn_getfield C hd hs k
  case putfield => exact sn_putfield C hd hs k
  case getstatic => exact sn_getstatic C hd hs k
  case iaload => exact sn_iaload C hd hs k
  case baload => exact sn_baload C hd hs k
  case iastore => exact sn_iastore C hd hs k
  case aaload => exact sn_aaload C hd hs k
  case aastore => exact sn_aastore C hd hs k
  case arraylength => exact sn_arraylength C hd hs k
  case invokestatic => exact sn_invokestatic C hd hs k
  case invokespecial => exact sn_invokespecial C hd hs k
  case newarray => exact sn_newarray C hz h0 hr hd hs k
  case anewarray => exact sn_anewarray C hz h0 hr hd hs k
  case new => exact sn_new C hz h0 hr hd hs k
  case invokevirtual => exact absurd (sn_invokevirtual hs) id
  case ireturn =>
    simp only [stp] at hs
    obtain ⟨-, hs⟩ := gt_some hs
    split at hs
    · first | (cases hs; done) | (obtain ⟨-, hs⟩ := gt_some hs; cases hs)
    · cases hs
  case lreturn =>
    simp only [stp] at hs
    obtain ⟨-, hs⟩ := gt_some hs
    split at hs
    · first | (cases hs; done) | (obtain ⟨-, hs⟩ := gt_some hs; cases hs)
    · cases hs
  case return_ =>
    simp only [stp] at hs
    obtain ⟨-, hs⟩ := gt_some hs
    split at hs
    · first | (cases hs; done) | (obtain ⟨-, hs⟩ := gt_some hs; cases hs)
    · cases hs
  all_goals (simp only [stp] at hs; cases hs)
set_option maxHeartbeats 4000000 in
/-- THE SMALL MACHINE'S RUNS ARE THE MACHINE'S -/
theorem snd_run (g : mG) (l : Launch) (h9 : g9 g = .null ∨ ∃ a, g9 g = .ref a) : ∀ (n d y pc : Nat) (L st : List Value) (M : mM) (v : Option Value) (M2 : mM), run d n y pc L st M = some (v, M2) → M.1 ≤ M2.1 ∧
    ∀ {p : Program} {e : Env} {R : Room} {s : State} {m : MethodId} {args : Array Value} {below : List Frame} {meth : Method} {c : Code} {M0 : Nat} {Q : State → Prop}, cx g p R s m meth c y d args → s.heap.size = gB g + M0 → M0 ≤ M.1 → M2.1 - M0 ≤ R.cells → 1200 * (M2.1 - M0) ≤ R.slots →
      (∀ (pc' len : Nat) (ins : Instr) (L' st' : List Value), decode (bt y) pc' = .ok (ins, len) → stp y ins len pc' L' st' M2 = some (.inr (.inr v)) → Kn g p l e R s m args below meth c y M0 Q (pc', L', st', M2)) →
      Kn g p l e R s m args below meth c y M0 Q (pc, L, st, M) := by
  intro n
  induction n with
  | zero => intro d y pc L st M v M2 h; cases h
  | succ n ih =>
    intro d y pc L st M v M2 h
    rw [run] at h
    cases hdc : decode (bt y) pc with
    | error er => rw [hdc] at h; cases h
    | ok il =>
      obtain ⟨ins, len⟩ := il
      rw [hdc] at h
      dsimp only at h
      cases hst : stp y ins len pc L st M with
      | none => rw [hst] at h; cases h
      | some q =>
        rw [hst] at h
        match q, h, hst with
        | .inl (pc', L', st', M'), h, hst =>
          dsimp only at h
          obtain ⟨h1, h2⟩ := ih _ _ _ _ _ _ _ _ h
          have h3 := stp_mono hst
          dsimp only at h3
          refine ⟨Nat.le_trans h3 h1, ?_⟩
          intro p e R s m args below meth c M0 Q C hz h0 hr1 hr2 hfin
          exact snd_step C hz h0 ⟨by dsimp only; omega, by dsimp only; omega⟩ hdc hst (h2 C hz (by omega) hr1 hr2 hfin)
        | .inr (.inr v'), h, hst =>
          dsimp only at h
          simp only [Option.some.injEq, Prod.mk.injEq] at h
          obtain ⟨rfl, rfl⟩ := h
          refine ⟨Nat.le_refl _, ?_⟩
          intro p e R s m args below meth c M0 Q C hz h0 hr1 hr2 hfin
          exact hfin _ _ _ _ _ hdc hst
        | .inr (.inl (z, vs, rest)), h, hst =>
          dsimp only at h
          match d, h with
          | 0, h => cases h
          | d' + 1, h =>
            dsimp only at h
            obtain ⟨hvs, h⟩ := gt_some h
            cases hcal : run d' n z 0 (ment z vs) [] M with
            | none => rw [hcal] at h; cases h
            | some w =>
              obtain ⟨v2, M1⟩ := w
              rw [hcal] at h
              dsimp only at h
              obtain ⟨g1, g2⟩ := ih _ _ _ _ _ _ _ _ hcal
              obtain ⟨h1, h2⟩ := ih _ _ _ _ _ _ _ _ h
              refine ⟨Nat.le_trans g1 h1, ?_⟩
              intro p e R s m args below meth c M0 Q C hz h0 hr1 hr2 hfin
              have k := h2 C hz (by omega) hr1 hr2 hfin
              have hM : 0 < z → z < 212 → Met l (myn z) (wsm z) (rmm d' (M1.1 - M.1)) (Pq g vs M) (Qq g v2 M1) (M1.1 - M.1) (1200 * (M1.1 - M.1)) (Ab g) := fun z0 zN =>
                met_of l z0 zN h9 hvs (fun C' hz' hr1' hr2' => g2 C' hz' (Nat.le_refl _) hr1' hr2' (fun pc' len' ins' L' st' hd' hs' => sn_ret C' hd' hs'))
              obtain ⟨rfl, hc⟩ := stp_call hst
              rcases hc with ⟨i, rfl, hi⟩ | ⟨i, rfl, hi⟩ | ⟨i, rfl, hi⟩
              · exact sn_callV C hz h0 g1 (by omega) (by omega) hdc hi rfl hM k
              · exact sn_callS C hz h0 g1 (by omega) (by omega) hdc hi rfl hM k
              · exact sn_callI C hz h0 g1 (by omega) (by omega) hdc hi rfl hM k
end SNW
end
section
/-- what is left: over the small machine alone -/
theorem pure_law (g : mG) (hL : gL g ≤ 3584) : ∃ (n : Nat) (M2 : mM), run 100 n 0 0 [.ref 1000, .null, .null, .null] [] (0, ro g) = some (some (.int 1), M2) ∧ M2.1 ≤ 1000 := sorry
end
section
/-! THE CLAIM OUT OF ONE WALK OF THE LAW'S BODY. Your part is whole_start (and what it stands on); all else here is the same for every law, but numbers. -/
def R_law : String := "ThrownBackLaw"
def lw_P (b : Addr) (xs : List Int32) (args : Array Value) (s : State) : Prop := args = #[.ref b] ∧ s.IntsAt b xs ∧ xs.length ≤ 3584 ∧ (Jvm.Cond.and given_1 narrow_1).before args s = true
def lw_Q (_ : Array Value) (s : State) (o : Outcome) (t : State) : Prop := o = .returned (some (.int 1)) ∧ Framed s o t [] 600000 7302250
def lw_Z (below : List Frame) (a : Array Value) (s : State) : State → Prop := fun t => ∃ o, t.status = .running ∧ Ended t below o ∧ lw_Q a s o t
/-- the law's own end, with 1 on the stack, nothing written that was there before, its room as the claim has it -/
theorem lw_ret {p : Program} {l : Launch} {e : Env} {s : State} {m : MethodId} {below : List Frame} {meth : Method} {c : Code} {b : Nat} (hx : p.tables.exec = Jvm.exec) (hb : c.code = code) (hr : meth.sig.returnType = ret) (hlocks : meth.locks = false) {pc : Nat} {H : Heap} {ls : Array Slot} (hdg : decode code pc = .ok (.ireturn, 1)) : W p l e room_1 s m #[Value.ref b] below meth c H [] 600000 7302250 (lw_Z below #[Value.ref b] s) (F0 m pc ls [.int 1]) := by
  intro T hT X
  obtain ⟨fs, hret, hrun, hended, hW, hframe⟩ := X.leave (v := some (.int 1)) (hlocks := hlocks) (fun h => by rw [hr] at h; cases h)
  have hmeth' : T.vm.method? m = some meth := X.method'
  refine ⟨T.setFrames fs, ?_, .returned (some (.int 1)), hrun, hended, rfl, ⟨_, rfl⟩, hW, hframe⟩
  jvm_step X.here [X.here.top, hx, hb, hdg, hmeth', hr, ret, narrow_b1]
  (try refine ⟨rfl, ?_⟩); (try refine ⟨rfl, ?_⟩)
  first | (intro acts; rw [hret _ acts rfl rfl rfl]) | rw [hret _ _ rfl rfl rfl]
  exact Steps.refl _
/-- what holds at the law's entry: the machine, the code, the tables' words (any of lw_tbl by 'hts w (by decide +kernel)'), the script of L ints xs at the cell b, what the Statement gives of the start (any of its parts by flat_of_before) -/
def lw_At (p : Program) (s : State) (m : MethodId) (meth : Method) (c : Code) (b L : Nat) (xs : Nat → Int32) : Prop :=
  p.tables.exec = Jvm.exec ∧ c.code = code ∧ meth.sig.returnType = ret ∧ c.maxLocals = 4 ∧ s.vm.findClass R_law = some m.cls ∧ (∀ w ∈ lw_tbl, w.before #[Value.ref b] s = true) ∧ va_X b L xs s s.heap ∧ b < s.heap.size ∧ meth.locks = false ∧ (Jvm.Cond.and given_1 narrow_1).before #[Value.ref b] s = true
-- ===== YOUR PART BEGINS =====
theorem w_ini : ∀ a, a < 8 → Cond.instantiable (cn a) (nNN a) ∈ WS := by
  have h := ws_of [.instantiable "ThrownBack$Law" 4, .instantiable "ThrownBack$Lots" 1, .instantiable "ThrownBack$Owner" 9, .instantiable "ThrownBack$Reader" 7, .instantiable "ThrownBack$Road" 11, .instantiable "ThrownBack$Sheet" 3, .instantiable "ThrownBack" 9, .instantiable "ThrownBackModel" 42] [218, 209, 89, 176, 82, 236, 74, 861] (by decide +kernel) (by decide +kernel)
  intro a ha
  match a, ha with
  | 0, _ => exact h _ (List.mem_of_getElem? (i := 0) rfl)
  | 1, _ => exact h _ (List.mem_of_getElem? (i := 1) rfl)
  | 2, _ => exact h _ (List.mem_of_getElem? (i := 2) rfl)
  | 3, _ => exact h _ (List.mem_of_getElem? (i := 3) rfl)
  | 4, _ => exact h _ (List.mem_of_getElem? (i := 4) rfl)
  | 5, _ => exact h _ (List.mem_of_getElem? (i := 5) rfl)
  | 6, _ => exact h _ (List.mem_of_getElem? (i := 6) rfl)
  | 7, _ => exact h _ (List.mem_of_getElem? (i := 7) rfl)
  | a + 8, ha => exact absurd ha (by omega)
abbrev sT (i : Nat) : Term := match i with
  | 0 => .string "ThrownBack" 50
  | 1 => .string "ThrownBack$Reader" 95
  | _ => .string "ThrownBack$Reader" 109
theorem f_put : ∀ j, j < 5 → Cond.eq (.elem (.static "ThrownBack" "MOST_PUT" "[I") (.int (Int32.ofNat j))) (.int ((rot 0).getD j 0)) ∈ flatC (Jvm.Cond.and given_1 narrow_1) := by decide +kernel
theorem f_kab : ∀ j, j < 6 → Cond.eq (.elem (.static "ThrownBack$Owner" "KIND_ABOVE" "[I") (.int (Int32.ofNat j))) (.int ((rot 1).getD j 0)) ∈ flatC (Jvm.Cond.and given_1 narrow_1) := by decide +kernel
theorem f_misc : ∀ w ∈ ([.arrayOf (.static "ThrownBack" "MOST_PUT" "[I") .int, .eq (.length (.static "ThrownBack" "MOST_PUT" "[I")) (.int (Int32.ofNat 5)), .arrayOf (.static "ThrownBack$Owner" "KIND_ABOVE" "[I") .int, .eq (.length (.static "ThrownBack$Owner" "KIND_ABOVE" "[I")) (.int (Int32.ofNat 6)), .eq (.static "java/lang/String" "COMPACT_STRINGS" "Z") (.int 1), .isRef (.static "jdk/internal/util/Preconditions" "SIOOBE_FORMATTER" "Ljava/util/function/BiFunction;")] : List Cond), w ∈ flatC (Jvm.Cond.and given_1 narrow_1) := by decide +kernel
theorem f_str : ∀ i, i < 3 → (Cond.exactly (sT i) "java/lang/String" ∈ flatC (Jvm.Cond.and given_1 narrow_1) ∧ Cond.eq (.field (sT i) "java/lang/String" "coder" "B") (.int 0) ∈ flatC (Jvm.Cond.and given_1 narrow_1) ∧ Cond.arrayOf (.field (sT i) "java/lang/String" "value" "[B") .byte ∈ flatC (Jvm.Cond.and given_1 narrow_1) ∧ Cond.eq (.length (.field (sT i) "java/lang/String" "value" "[B")) (.int (Int32.ofNat ([ron 0, ron 1, ron 2].getD i 0))) ∈ flatC (Jvm.Cond.and given_1 narrow_1)) := by decide +kernel
theorem f_s0 : ∀ j, j < ron 0 → Cond.eq (.elem (.field (sT 0) "java/lang/String" "value" "[B") (.int (Int32.ofNat j))) (.int ((roS 0).getD j 0)) ∈ flatC (Jvm.Cond.and given_1 narrow_1) := by decide +kernel
theorem f_s1 : ∀ j, j < ron 1 → Cond.eq (.elem (.field (sT 1) "java/lang/String" "value" "[B") (.int (Int32.ofNat j))) (.int ((roS 1).getD j 0)) ∈ flatC (Jvm.Cond.and given_1 narrow_1) := by decide +kernel
theorem f_s2 : ∀ j, j < ron 2 → Cond.eq (.elem (.field (sT 2) "java/lang/String" "value" "[B") (.int (Int32.ofNat j))) (.int ((roS 2).getD j 0)) ∈ flatC (Jvm.Cond.and given_1 narrow_1) := by decide +kernel
theorem f_ne : ∀ i j, i < 3 → j < 3 → i ≠ j → (Cond.not (Cond.eq (sT i) (sT j)) ∈ flatC (Jvm.Cond.and given_1 narrow_1) ∨ Cond.not (Cond.eq (sT j) (sT i)) ∈ flatC (Jvm.Cond.and given_1 narrow_1)) := by
  have h : ∀ i, i < 3 → ∀ j, j < 3 → i ≠ j → (Cond.not (Cond.eq (sT i) (sT j)) ∈ flatC (Jvm.Cond.and given_1 narrow_1) ∨ Cond.not (Cond.eq (sT j) (sT i)) ∈ flatC (Jvm.Cond.and given_1 narrow_1)) := by decide +kernel
  exact fun i j hi hj => h i hi j hj
set_option maxHeartbeats 4000000 in
set_option maxRecDepth 20000 in
theorem whole_start {p : Program} {e : Env} {s : State} {m : MethodId} {below : List Frame} {meth : Method} {c : Code} (l : Launch) (hflags : l.flags = flags0) {b L : Nat} {xs : Nat → Int32} (hL : L ≤ 3584) (C0 : lw_At p s m meth c b L xs) : W p l e room_1 s m #[Value.ref b] below meth c s.heap [] 0 0 (lw_Z below #[Value.ref b] s) (entryFrame m ([Value.ref b] : List Value).toArray 4) := by
  obtain ⟨hx, hb, hr, hml, hown, hts, hX, hbl, hlocks, hgv⟩ := C0
  have htw : ∀ w ∈ WS, w.before #[Value.ref b] s = true := fun w hw => hts w (List.mem_filter.mp hw).1
  have hfl := flat_of_before _ hgv
  -- the classes
  have hc0 : ∀ k, ∃ q : ClassId × (Nat → Nat), k < 8 → u_Kn s (cn k) (nTT k) (nNN k) q.1 q.2 := by
    intro k
    by_cases hk : k < 8
    · obtain ⟨cC, iS, h⟩ := u_known htw (cl_in hk) (htw _ (w_ini k hk))
      exact ⟨(cC, iS), fun _ => h⟩
    · exact ⟨(0, fun _ => 0), fun h => absurd h hk⟩
  obtain ⟨qC, hqC⟩ := Classical.axiomOfChoice hc0
  obtain ⟨cI, kI, pI, i1, i2, i3⟩ := Cond.arrayClass_spec (htw _ ws_arrI)
  have ho1 : (Cond.arrayOver (.object "ThrownBack$Law")).before #[Value.ref b] s = true := hts _ (List.mem_of_getElem? (i := 205) (by decide +kernel))
  have ho2 : (Cond.arrayOver (.object "ThrownBack$Owner")).before #[Value.ref b] s = true := hts _ (List.mem_of_getElem? (i := 88) (by decide +kernel))
  have ho3 : (Cond.arrayOver (.object "ThrownBack$Sheet")).before #[Value.ref b] s = true := hts _ (List.mem_of_getElem? (i := 207) (by decide +kernel))
  obtain ⟨p1, c1, k1, a11, -, a12, a13, a14⟩ := Cond.arrayOver_spec ho1
  obtain ⟨p2, c2, k2, a21, -, a22, a23, a24⟩ := Cond.arrayOver_spec ho2
  obtain ⟨p3, c3, k3, a31, -, a32, a33, a34⟩ := Cond.arrayOver_spec ho3
  -- what lies outside
  have hA0 : ∀ a : Nat, a < s.heap.size → ¬ s.heap.size ≤ a := fun a h => Nat.not_le.mpr h
  obtain ⟨t1, e1, hT1⟩ := va_Tof (tm := .static "ThrownBack" "MOST_PUT" "[I") (ty := .int) (N := 5) (f := fun j => .int ((rot 0).getD j 0)) (A := fun q => s.heap.size ≤ q) (by decide) (hfl _ (f_misc _ (by simp))) (va_eqt (hfl _ (f_misc _ (by simp)))) (fun j hj => va_eqt (hfl _ (f_put j hj))) hA0
  obtain ⟨t2, e2, hT2⟩ := va_Tof (tm := .static "ThrownBack$Owner" "KIND_ABOVE" "[I") (ty := .int) (N := 6) (f := fun j => .int ((rot 1).getD j 0)) (A := fun q => s.heap.size ≤ q) (by decide) (hfl _ (f_misc _ (by simp))) (va_eqt (hfl _ (f_misc _ (by simp)))) (fun j hj => va_eqt (hfl _ (f_kab j hj))) hA0
  have hZ1 := va_Zof (A := fun q => s.heap.size ≤ q) (hts (.laysStatic "ThrownBack" "MOST_PUT" "[I") (List.mem_of_getElem? (i := 555) (by decide +kernel))) (hts (.initialized "ThrownBack") (List.mem_of_getElem? (i := 58) (by decide +kernel))) e1 hA0
  have hZ2 := va_Zof (A := fun q => s.heap.size ≤ q) (hts (.laysStatic "ThrownBack$Owner" "KIND_ABOVE" "[I") (List.mem_of_getElem? (i := 859) (by decide +kernel))) (hts (.initialized "ThrownBack$Owner") (List.mem_of_getElem? (i := 60) (by decide +kernel))) e2 hA0
  have hZ3 := va_Zof (v := .int 1) (A := fun q => s.heap.size ≤ q) (hts (.laysStatic "java/lang/String" "COMPACT_STRINGS" "Z") (List.mem_of_getElem? (i := 265) (by decide +kernel))) (hts (.initialized "java/lang/String") (List.mem_of_getElem? (i := 65) (by decide +kernel))) (va_eqi (hfl _ (f_misc _ (by simp)))) hA0
  have hZ4 := va_Zqof (A := fun q => s.heap.size ≤ q) (hts (.laysStatic "jdk/internal/util/Preconditions" "SIOOBE_FORMATTER" "Ljava/util/function/BiFunction;") (List.mem_of_getElem? (i := 281) (by decide +kernel))) (hts (.initialized "jdk/internal/util/Preconditions") (List.mem_of_getElem? (i := 67) (by decide +kernel))) (hfl _ (f_misc _ (by simp))) hA0
  obtain ⟨adK, adV, hSS, hSe⟩ := vk_Sof (N := 3) (tm := sT) (len := [ron 0, ron 1, ron 2]) (byt := [roS 0, roS 1, roS 2]) (A := fun q => s.heap.size ≤ q) (args := #[Value.ref b]) (s := s)
    (by decide) (fun i hi => hfl _ (f_str i hi).1) (fun i hi => hfl _ (f_str i hi).2.1) (fun i hi => hfl _ (f_str i hi).2.2.1) (fun i hi => hfl _ (f_str i hi).2.2.2)
    (fun i hi j hj => by
      match i, hi with
      | 0, _ => exact hfl _ (f_s0 j hj)
      | 1, _ => exact hfl _ (f_s1 j hj)
      | 2, _ => exact hfl _ (f_s2 j hj)
      | i + 3, h => exact absurd h (by omega))
    (fun i j hi hj hij => (f_ne i j hi hj hij).imp (hfl _) (hfl _)) hA0
  obtain ⟨o9, h9, hZ9⟩ : ∃ o9 : Value, (o9 = .null ∨ ∃ a, o9 = .ref a) ∧ va_Z "jdk/internal/util/Preconditions" "SIOOBE_FORMATTER" "Ljava/util/function/BiFunction;" o9 (fun q => s.heap.size ≤ q) s s.heap := by
    rcases hZ4 with h | ⟨t, h⟩
    · exact ⟨.null, Or.inl rfl, h⟩
    · exact ⟨.ref t, Or.inr ⟨t, rfl⟩, h⟩
  let gO' : Nat → Nat := fun j => if j = 0 then b else if j = 1 then t1 else if j = 2 then t2 else if j < 6 then adK (j - 3) else adV (j - 6)
  let cA' : Nat → ClassId := fun j => if j = 9 then cI else if j = 0 then c1 else if j = 2 then c2 else c3
  let g : mG := (s.heap.size, gO', o9, fun k => (qC k).1, fun k => (qC k).2, cA', L, xs)
  have hG3 : ∀ i, i < 3 → gO g (3 + i) = adK i := by
    intro i hi
    show (if 3 + i = 0 then b else if 3 + i = 1 then t1 else if 3 + i = 2 then t2 else if 3 + i < 6 then adK (3 + i - 3) else adV (3 + i - 6)) = _
    rw [if_neg (by omega), if_neg (by omega), if_neg (by omega), if_pos (by omega), Nat.add_sub_cancel_left]
  have hG6 : ∀ i, i < 3 → gO g (6 + i) = adV i := by
    intro i hi
    show (if 6 + i = 0 then b else if 6 + i = 1 then t1 else if 6 + i = 2 then t2 else if 6 + i < 6 then adK (6 + i - 3) else adV (6 + i - 6)) = _
    rw [if_neg (by omega), if_neg (by omega), if_neg (by omega), if_neg (by omega), Nat.add_sub_cancel_left]
  have hK : va_K (gD g) mcl (tysm g) s := by
    refine ⟨fun k q hq => ?_, fun k q hq => ?_⟩
    · have hk : k < 8 := (List.getElem?_eq_some_iff.mp hq).1
      rw [cl_at hk] at hq
      cases hq
      exact hqC k hk
    · have hk : k < 4 := (List.getElem?_eq_some_iff.mp hq).1
      obtain rfl | rfl | rfl | rfl : k = 0 ∨ k = 1 ∨ k = 2 ∨ k = 3 := by omega
      · cases hq; exact ⟨fun n z => ⟨fun k h => (by cases h), kI, i2, pI, i3⟩, i1⟩
      · cases hq; exact ⟨fun n z => ⟨fun k h => (by cases h), k1, a12, p1, a13⟩, k1, p1, a12, a13, a11, a14⟩
      · cases hq; exact ⟨fun n z => ⟨fun k h => (by cases h), k2, a22, p2, a23⟩, k2, p2, a22, a23, a21, a24⟩
      · cases hq; exact ⟨fun n z => ⟨fun k h => (by cases h), k3, a32, p3, a33⟩, k3, p3, a32, a33, a31, a34⟩
  have hTX : va_T .int b L (fun j => .int (xs j)) (fun q => s.heap.size ≤ q) s s.heap := by
    obtain ⟨scr, x1, x2, x3, x4, x5⟩ := hX
    exact ⟨scr, x1, x2, x3, Nat.le_of_eq x4.symm, by rw [x4], x5, hA0 b hbl⟩
  have hR0 := hSe 0 (by decide)
  have hR1 := hSe 1 (by decide)
  have hR2 := hSe 2 (by decide)
  have e3 : gO g 3 = adK 0 := hG3 0 (by decide)
  have e4 : gO g 4 = adK 1 := hG3 1 (by decide)
  have e5 : gO g 5 = adK 2 := hG3 2 (by decide)
  have hF : rof g s s.heap := by
    refine ⟨hTX, hZ1, hT1, hZ2, hT2, hZ3, hZ9, ⟨fun i hi => ?_, fun i j hi hj h => ?_⟩, ⟨?_, ?_, ?_⟩, ⟨va_AO.of ho1, va_AO.of ho2, va_AO.of ho3⟩, ?_⟩
    · dsimp only
      rw [hG3 i hi, hG6 i hi]
      exact hSS.1 i hi
    · dsimp only at h
      rw [hG3 i hi, hG3 j hj] at h
      exact hSS.2 i j hi hj h
    · rw [e3]
      exact vk_R.of (hts (.stringRef "ThrownBack" 50 (rotx 0)) (List.mem_of_getElem? (i := 255) (by decide +kernel))) hR0
    · rw [e4]
      exact vk_R.of (hts (.stringRef "ThrownBack$Reader" 95 (rotx 1)) (List.mem_of_getElem? (i := 330) (by decide +kernel))) hR1
    · rw [e5]
      exact vk_R.of (hts (.stringRef "ThrownBack$Reader" 109 (rotx 2)) (List.mem_of_getElem? (i := 348) (by decide +kernel))) hR2
    · exact ⟨va_Nw.of rfl (hts (.methodLinkNest "ThrownBack$Road" 36 ⟨"ThrownBack$Owner", "<init>", "()V"⟩ "ThrownBack") (List.mem_of_getElem? (i := 90) (by decide +kernel))), va_Nw.of rfl (hts (.methodLinkNest "ThrownBack" 24 ⟨"ThrownBack$Reader", "<init>", "()V"⟩ "ThrownBack") (List.mem_of_getElem? (i := 177) (by decide +kernel))), va_Nw.of rfl (hts (.methodLinkNest "ThrownBack" 43 ⟨"ThrownBack$Lots", "<init>", "()V"⟩ "ThrownBack") (List.mem_of_getElem? (i := 210) (by decide +kernel))), va_Nw.of rfl (hts (.methodLinkNest "ThrownBack" 48 ⟨"ThrownBack$Law", "<init>", "()V"⟩ "ThrownBack") (List.mem_of_getElem? (i := 219) (by decide +kernel))), va_Nw.of rfl (hts (.methodLinkNest "ThrownBack" 49 ⟨"ThrownBack$Sheet", "<init>", "()V"⟩ "ThrownBack") (List.mem_of_getElem? (i := 237) (by decide +kernel)))⟩
  obtain ⟨n, M2, hrun, hM2⟩ := pure_law g hL
  have hcx : cx g p room_1 s m meth c 0 100 #[Value.ref b] := ⟨hx, hb, hr, hml, hown, htw, hlocks, fun h => absurd h (by decide), hK, hF, by decide, by decide, Nat.le_refl _, h9⟩
  have hk := (snd_run g l h9 n 100 0 0 _ _ _ _ _ hrun).2 (e := e) (below := below) (M0 := 0) (Q := lw_Z below #[Value.ref b] s) hcx rfl (Nat.le_refl _) (by show M2.1 - 0 ≤ 600000; omega) (by show 1200 * (M2.1 - 0) ≤ 7302250; omega) (fun pc' len ins L' st' hd hs => by
    obtain ⟨rfl, h⟩ := stp_ret hs
    rcases h with ⟨rfl, x, ty, rfl, f1, f2, f3⟩ | ⟨rfl, x, rfl, f1, f2⟩ | ⟨rfl, rfl, f1, f2⟩
    · cases f3
      intro H locs ls a1 a2 a3 a4
      refine va_forget (fun q hq => a2.2.2 q hq) ?_
      refine W.widen (k := 600000) (n := 7302250) (by show M2.1 - 0 ≤ 600000; omega) (by show 1200 * (M2.1 - 0) ≤ 7302250; omega) ?_
      exact lw_ret hx hb hr hlocks hd
    · cases f2
    · cases f2)
  rw [lg_entry_eq]
  have hent := lv_entry ([Value.ref b]) (n := 4) (Nat.le_of_ble_eq_true rfl)
  have hrv : rv g (.ref 1000) = .ref b := rv_o2 (j := 0) (by decide) (by decide) rfl
  have hlr : lr g ((lg_sl ([Value.ref b]) ++ List.replicate (4 - (lg_sl ([Value.ref b])).length) Slot.unset).toArray) [.ref 1000, .null, .null, .null] := by
    refine ⟨hent.1, hent.2.1, fun q hq => hent.2.2 q ?_⟩
    have h5 : asc g [.ref 1000, .null, .null, .null] = [(0, rv g (.ref 1000))] := rfl
    rw [h5, hrv] at hq
    exact hq
  have h6 := hk s.heap [] _ ⟨fun k hk => absurd hk (Nat.not_lt_zero _), fun k _ => rfl, Nat.zero_le _, fun k q h => by simp [wo] at h⟩ va_S.rf hlr rfl
  exact h6
-- ===== YOUR PART ENDS =====
set_option maxHeartbeats 4000000 in
theorem lw_walk (l : Launch) (hflags : l.flags = flags0) (b : Addr) (xs : List Int32) : MetFree l x (headSpec (Jvm.Cond.code x code maxLocals ret :: tables_1) room_1) (lw_P b xs) (fun _ _ _ _ _ => True) lw_Q := by
  refine MetFree.of_bodyS (code := code) (maxLocals := maxLocals) (ret := ret) (by decide) ?_ ?_
  · intro args s m h hn
    obtain ⟨meth, c, h1, h2, h3, h4, h5, h6, -, -⟩ := Cond.code_spec hn (atoms_spec (ws := Jvm.Cond.code x code maxLocals ret :: tables_1) h _ List.mem_cons_self)
    exact ⟨meth, c, h1, h2, h3, h4, h5, h6⟩
  · intro p e s m args below meth c s₁ B hml0 hP _
    obtain ⟨rfl, hx, hbd, hgv⟩ := hP
    obtain ⟨scr, harrAt, hlist, hof, hsmall⟩ := hx
    obtain ⟨hcb, hkn, -, -⟩ := State.arrayAt?_spec harrAt
    have hown : s.vm.findClass R_law = some m.cls := findClass_of_methodNamed B.named
    have hts0 : ∀ c ∈ (Jvm.Cond.code x code maxLocals ret :: tables_1), c.before #[Value.ref b] s = true := atoms_spec (ws := Jvm.Cond.code x code maxLocals ret :: tables_1) B.pre
    have hts : ∀ w ∈ lw_tbl, w.before #[Value.ref b] s = true := k2_hts_sels lw_privs (fun w hw => hts0 w (List.mem_cons_of_mem _ hw)) lw_privs_ok
    have hml : c.maxLocals = 4 := B.maxLocals_eq (hts0 _ List.mem_cons_self)
    have X₀ : Stand p l e room_1 s m #[Value.ref b] below meth c s₁ [] 0 0 := Stand.of_body B
    have hh0 : s₁.heap = s.heap := by rw [B.state]; rfl
    have hsz : scr.slots.size = xs.length := by rw [← Array.length_toList, hlist, List.length_map]
    have hval : ∀ j : Nat, j < xs.length → scr.slots[j]? = some (.int (xs.getD j 0)) := fun j hj => by
      rw [← Array.getElem?_toList, hlist]
      simp [hj]
    have hbl : b < s.heap.size := (Array.getElem?_eq_some_iff.mp hcb).1
    have hX : va_X b xs.length (fun j => xs.getD j 0) s s.heap := ⟨scr, hcb, hof, hkn, hsz, hval⟩
    have K : W p l e room_1 s m #[Value.ref b] below meth c s₁.heap [] 0 0 (lw_Z below #[Value.ref b] s) (entryFrame m ([Value.ref b] : List Value).toArray 4) := by
      rw [hh0]
      exact whole_start l hflags hbd ⟨B.exec, B.bytes, B.returns, hml, hown, hts, hX, hbl, B.notSynchronized, hgv⟩
    obtain ⟨t, a1, o, b1, b2, b3⟩ := K s₁ rfl X₀
    exact ⟨t, o, a1, b1, b2, b3⟩
theorem lw_pre_spec {args : Array Value} {s : State} (h : (Jvm.Cond.and given_1 narrow_1).before args s = true) (hr : rest_1_c.before args s = true) : ∃ (b : Addr) (xs : List Int32), lw_P b xs args s := by
  have hs := flat_of_before _ h
  have hq := flat_of_before _ hr
  have hc : (Cond.count 1).before args s = true := hs _ (by decide +kernel)
  have harr : (Cond.arrayOf (.arg 0) .int).before args s = true := hs _ (by decide +kernel)
  have hle : (Cond.le (.length (.arg 0)) (.int 3584)).before args s = true := hs _ (by decide +kernel)
  have hlen : (Cond.isInt (.length (.arg 0))).before args s = true := hq _ (by decide +kernel)
  have hall : (Cond.all (.arg 0) (.isInt (.elem (.arg 0) (.index 0)))).before args s = true := hq _ (by decide +kernel)
  obtain ⟨b, xs, hb, hx⟩ := State.ints_of_pre rfl harr hlen hall
  have hsm : xs.length < 2 ^ 31 := hx.choose_spec.2.2.2
  have hev : (Term.length (.arg 0)).eval args s none [] s = some (.int xs.length.toInt32) := hx.length_eval hb
  have hv := Cond.le_ints hev (show (Term.int 3584).eval args s none [] s = some (.int 3584) from rfl)
  have hd : xs.length.toInt32 ≤ 3584 := by
    simpa [Cond.before, Cond.holds, hv] using hle
  have hN : xs.length ≤ 3584 := (Int32.ofNat_le_ofNat hsm (by decide)).mp (show Int32.ofNat xs.length ≤ Int32.ofNat 3584 from hd)
  exact ⟨b, xs, Cond.one_arg hc (show args[0]? = some (.ref b) from hb), hx, hN, h⟩
theorem lw_comes (l : Launch) (hflags : l.flags = flags0) : Comes l x (Jvm.Cond.code x code maxLocals ret :: tables_1) room_1 (fun tb e args s => Calls_1 tb e args s ∧ rest_1 tb e args s ∧ Pre_1 tb e args s)
    (fun _ _ args s o t => lw_Q args s o t) := by
  intro p e ha hc hk s m args below hf hfit hheap happ hpre
  obtain ⟨b, xs, hP⟩ := lw_pre_spec hpre.2.2 hpre.2.1
  obtain ⟨k, o, h1, h2, h3, hQ⟩ := lw_walk l hflags b xs p e ha hc hk s m args below hf ((Spec.applies_iff_loose hf).mp happ).1 hP trivial
  exact ⟨k, o, h1, h2, h3, hQ⟩
theorem lw_frame {s t : State} {o : Outcome} {args : Array Value} (h : Framed s o t [] 600000 7302250) :
    Framed s o t (fieldLocs frame_1_writes args s ++ arrayLocs frame_1_arrays args s ++ staticLocs frame_1_statics s) 600000 7302250 := h
theorem lw_limb (L : Cond) (hL : ∀ (args : Array Value) (s t : State), L.after args s (.returned (some (.int 1))) t = true) :
    ArmFor flags0 classFile x code maxLocals ret World_1 tables_1 room_1 Calls_1 rest_1 Pre_1
      (fun tb e a s o t => postC L tb e a s o t ∧ Framed s o t (fieldLocs frame_1_writes a s ++ arrayLocs frame_1_arrays a s ++ staticLocs frame_1_statics s) 600000 7302250) := by
  intro l hflags _ _ p e ha hc hk s m args below hf hfit hheap happ hpre
  obtain ⟨k, o, h1, h2, h3, rfl, hF⟩ := lw_comes l hflags p e ha hc hk s m args below hf hfit hheap happ hpre
  exact ⟨k, _, h1, h2, h3, hL args s _, lw_frame hF⟩
theorem i_vc : Claimed_1_1 ∧ Claimed_1_2 := ⟨lw_limb limb_1_1 (fun args s t => by simp [limb_1_1, Cond.after, Cond.holds, Cond.value]), lw_limb limb_1_2 (fun args s t => Cond.after_iff.mpr (by
  first | (rw [show limb_1_2 = Cond.eq .result (.int 1) from rfl, Cond.eq_ints (x := 1) (y := 1) rfl rfl]; simp; done) | (simp [limb_1_2, Cond.value, Term.eval]; done)))⟩
end
