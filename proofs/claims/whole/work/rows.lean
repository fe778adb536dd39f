section
-- ===== PART A: goes FIRST, ahead of the names: the tables' words, and 'selects' of the private methods out of them =====
/-- a private method of a class that the tables say can be made, by its rows of tables_1 -/
def lw_okq (q : MethodName × Nat) : Prop := (q.1.cls ≠ "java/lang/invoke/MethodHandle" ∧ q.1.cls ≠ "java/lang/invoke/VarHandle") ∧ Cond.instantiable q.1.cls q.2 ∈ tables_1 ∧ Cond.privateMethod q.1 ∈ tables_1 ∧ Cond.instanceMethod q.1 ∈ tables_1
theorem lw_p0 : lw_okq (⟨"BargainTree", "isLetter", "(I)Z"⟩, 9) := ⟨⟨by decide +kernel, by decide +kernel⟩, List.mem_of_getElem? (i := 20) (by decide +kernel), List.mem_of_getElem? (i := 67) (by decide +kernel), List.mem_of_getElem? (i := 68) (by decide +kernel)⟩
theorem lw_p1 : lw_okq (⟨"BargainTree", "isAgent", "(I)Z"⟩, 9) := ⟨⟨by decide +kernel, by decide +kernel⟩, List.mem_of_getElem? (i := 20) (by decide +kernel), List.mem_of_getElem? (i := 95) (by decide +kernel), List.mem_of_getElem? (i := 96) (by decide +kernel)⟩
theorem lw_p2 : lw_okq (⟨"java/lang/Throwable", "fillInStackTrace", "(I)Ljava/lang/Throwable;"⟩, 6) := ⟨⟨by decide +kernel, by decide +kernel⟩, List.mem_of_getElem? (i := 173) (by decide +kernel), List.mem_of_getElem? (i := 171) (by decide +kernel), List.mem_of_getElem? (i := 172) (by decide +kernel)⟩
theorem lw_p3 : lw_okq (⟨"BargainTree", "isValue", "(II)Z"⟩, 9) := ⟨⟨by decide +kernel, by decide +kernel⟩, List.mem_of_getElem? (i := 20) (by decide +kernel), List.mem_of_getElem? (i := 305) (by decide +kernel), List.mem_of_getElem? (i := 306) (by decide +kernel)⟩
theorem lw_p4 : lw_okq (⟨"BargainTree", "pairOf", "(II)LBargainTree$Pair;"⟩, 9) := ⟨⟨by decide +kernel, by decide +kernel⟩, List.mem_of_getElem? (i := 20) (by decide +kernel), List.mem_of_getElem? (i := 322) (by decide +kernel), List.mem_of_getElem? (i := 323) (by decide +kernel)⟩
theorem lw_p5 : lw_okq (⟨"BargainTree", "pairWith", "(IIII)LBargainTree$Pair;"⟩, 9) := ⟨⟨by decide +kernel, by decide +kernel⟩, List.mem_of_getElem? (i := 20) (by decide +kernel), List.mem_of_getElem? (i := 358) (by decide +kernel), List.mem_of_getElem? (i := 359) (by decide +kernel)⟩
theorem lw_p6 : lw_okq (⟨"BargainTree", "findParts", "()V"⟩, 9) := ⟨⟨by decide +kernel, by decide +kernel⟩, List.mem_of_getElem? (i := 20) (by decide +kernel), List.mem_of_getElem? (i := 375) (by decide +kernel), List.mem_of_getElem? (i := 376) (by decide +kernel)⟩
theorem lw_p7 : lw_okq (⟨"BargainTree", "partOf", "(I)I"⟩, 9) := ⟨⟨by decide +kernel, by decide +kernel⟩, List.mem_of_getElem? (i := 20) (by decide +kernel), List.mem_of_getElem? (i := 379) (by decide +kernel), List.mem_of_getElem? (i := 380) (by decide +kernel)⟩
theorem lw_p8 : lw_okq (⟨"BargainTree", "mostJoined", "(I)I"⟩, 9) := ⟨⟨by decide +kernel, by decide +kernel⟩, List.mem_of_getElem? (i := 20) (by decide +kernel), List.mem_of_getElem? (i := 388) (by decide +kernel), List.mem_of_getElem? (i := 389) (by decide +kernel)⟩
theorem lw_p9 : lw_okq (⟨"BargainTree", "join", "(ILBargainTree$Part;)V"⟩, 9) := ⟨⟨by decide +kernel, by decide +kernel⟩, List.mem_of_getElem? (i := 20) (by decide +kernel), List.mem_of_getElem? (i := 416) (by decide +kernel), List.mem_of_getElem? (i := 417) (by decide +kernel)⟩
theorem lw_p10 : lw_okq (⟨"BargainTree", "hold", "(LBargainTree$Agent;)Z"⟩, 9) := ⟨⟨by decide +kernel, by decide +kernel⟩, List.mem_of_getElem? (i := 20) (by decide +kernel), List.mem_of_getElem? (i := 420) (by decide +kernel), List.mem_of_getElem? (i := 421) (by decide +kernel)⟩
theorem lw_p11 : lw_okq (⟨"BargainTree", "sendToken", "(LBargainTree$Agent;)V"⟩, 9) := ⟨⟨by decide +kernel, by decide +kernel⟩, List.mem_of_getElem? (i := 20) (by decide +kernel), List.mem_of_getElem? (i := 448) (by decide +kernel), List.mem_of_getElem? (i := 449) (by decide +kernel)⟩
theorem lw_p12 : lw_okq (⟨"BargainTree", "send", "(LBargainTree$Letter;)V"⟩, 9) := ⟨⟨by decide +kernel, by decide +kernel⟩, List.mem_of_getElem? (i := 20) (by decide +kernel), List.mem_of_getElem? (i := 478) (by decide +kernel), List.mem_of_getElem? (i := 479) (by decide +kernel)⟩
theorem lw_p13 : lw_okq (⟨"BargainTree", "sendBack", "(LBargainTree$Agent;)V"⟩, 9) := ⟨⟨by decide +kernel, by decide +kernel⟩, List.mem_of_getElem? (i := 20) (by decide +kernel), List.mem_of_getElem? (i := 486) (by decide +kernel), List.mem_of_getElem? (i := 487) (by decide +kernel)⟩
theorem lw_p14 : lw_okq (⟨"BargainTree", "makeTable", "(LBargainTree$Agent;I)V"⟩, 9) := ⟨⟨by decide +kernel, by decide +kernel⟩, List.mem_of_getElem? (i := 20) (by decide +kernel), List.mem_of_getElem? (i := 494) (by decide +kernel), List.mem_of_getElem? (i := 495) (by decide +kernel)⟩
theorem lw_p15 : lw_okq (⟨"BargainTree", "tableSize", "(I)I"⟩, 9) := ⟨⟨by decide +kernel, by decide +kernel⟩, List.mem_of_getElem? (i := 20) (by decide +kernel), List.mem_of_getElem? (i := 498) (by decide +kernel), List.mem_of_getElem? (i := 499) (by decide +kernel)⟩
def lw_privs_1 : List (MethodName × Nat) := [(⟨"BargainTree", "isLetter", "(I)Z"⟩, 9), (⟨"BargainTree", "isAgent", "(I)Z"⟩, 9), (⟨"java/lang/Throwable", "fillInStackTrace", "(I)Ljava/lang/Throwable;"⟩, 6), (⟨"BargainTree", "isValue", "(II)Z"⟩, 9), (⟨"BargainTree", "pairOf", "(II)LBargainTree$Pair;"⟩, 9), (⟨"BargainTree", "pairWith", "(IIII)LBargainTree$Pair;"⟩, 9), (⟨"BargainTree", "findParts", "()V"⟩, 9), (⟨"BargainTree", "partOf", "(I)I"⟩, 9), (⟨"BargainTree", "mostJoined", "(I)I"⟩, 9), (⟨"BargainTree", "join", "(ILBargainTree$Part;)V"⟩, 9), (⟨"BargainTree", "hold", "(LBargainTree$Agent;)Z"⟩, 9), (⟨"BargainTree", "sendToken", "(LBargainTree$Agent;)V"⟩, 9), (⟨"BargainTree", "send", "(LBargainTree$Letter;)V"⟩, 9), (⟨"BargainTree", "sendBack", "(LBargainTree$Agent;)V"⟩, 9), (⟨"BargainTree", "makeTable", "(LBargainTree$Agent;I)V"⟩, 9), (⟨"BargainTree", "tableSize", "(I)I"⟩, 9)]
theorem lw_r1 : ∀ q ∈ lw_privs_1, lw_okq q := List.forall_mem_cons.mpr ⟨lw_p0, List.forall_mem_cons.mpr ⟨lw_p1, List.forall_mem_cons.mpr ⟨lw_p2, List.forall_mem_cons.mpr ⟨lw_p3, List.forall_mem_cons.mpr ⟨lw_p4, List.forall_mem_cons.mpr ⟨lw_p5, List.forall_mem_cons.mpr ⟨lw_p6, List.forall_mem_cons.mpr ⟨lw_p7, List.forall_mem_cons.mpr ⟨lw_p8, List.forall_mem_cons.mpr ⟨lw_p9, List.forall_mem_cons.mpr ⟨lw_p10, List.forall_mem_cons.mpr ⟨lw_p11, List.forall_mem_cons.mpr ⟨lw_p12, List.forall_mem_cons.mpr ⟨lw_p13, List.forall_mem_cons.mpr ⟨lw_p14, List.forall_mem_cons.mpr ⟨lw_p15, fun _ h => absurd h List.not_mem_nil⟩⟩⟩⟩⟩⟩⟩⟩⟩⟩⟩⟩⟩⟩⟩⟩
theorem lw_p16 : lw_okq (⟨"BargainTree", "tryEntry", "(II)V"⟩, 9) := ⟨⟨by decide +kernel, by decide +kernel⟩, List.mem_of_getElem? (i := 20) (by decide +kernel), List.mem_of_getElem? (i := 502) (by decide +kernel), List.mem_of_getElem? (i := 503) (by decide +kernel)⟩
theorem lw_p17 : lw_okq (⟨"BargainTree", "leastCost", "(LBargainTree$Agent;)I"⟩, 9) := ⟨⟨by decide +kernel, by decide +kernel⟩, List.mem_of_getElem? (i := 20) (by decide +kernel), List.mem_of_getElem? (i := 506) (by decide +kernel), List.mem_of_getElem? (i := 507) (by decide +kernel)⟩
theorem lw_p18 : lw_okq (⟨"BargainTree", "costWith", "(LBargainTree$Agent;[I)I"⟩, 9) := ⟨⟨by decide +kernel, by decide +kernel⟩, List.mem_of_getElem? (i := 20) (by decide +kernel), List.mem_of_getElem? (i := 510) (by decide +kernel), List.mem_of_getElem? (i := 511) (by decide +kernel)⟩
theorem lw_p19 : lw_okq (⟨"BargainTree", "entryAt", "([II[I)I"⟩, 9) := ⟨⟨by decide +kernel, by decide +kernel⟩, List.mem_of_getElem? (i := 20) (by decide +kernel), List.mem_of_getElem? (i := 522) (by decide +kernel), List.mem_of_getElem? (i := 523) (by decide +kernel)⟩
theorem lw_p20 : lw_okq (⟨"BargainTree", "choose", "(LBargainTree$Agent;I[I)V"⟩, 9) := ⟨⟨by decide +kernel, by decide +kernel⟩, List.mem_of_getElem? (i := 20) (by decide +kernel), List.mem_of_getElem? (i := 535) (by decide +kernel), List.mem_of_getElem? (i := 536) (by decide +kernel)⟩
theorem lw_p21 : lw_okq (⟨"BargainTree", "sendChoices", "(LBargainTree$Agent;)V"⟩, 9) := ⟨⟨by decide +kernel, by decide +kernel⟩, List.mem_of_getElem? (i := 20) (by decide +kernel), List.mem_of_getElem? (i := 546) (by decide +kernel), List.mem_of_getElem? (i := 547) (by decide +kernel)⟩
theorem lw_p22 : lw_okq (⟨"BargainTree", "sendTable", "(LBargainTree$Agent;)V"⟩, 9) := ⟨⟨by decide +kernel, by decide +kernel⟩, List.mem_of_getElem? (i := 20) (by decide +kernel), List.mem_of_getElem? (i := 550) (by decide +kernel), List.mem_of_getElem? (i := 551) (by decide +kernel)⟩
theorem lw_p23 : lw_okq (⟨"BargainTree", "takeOut", "(I)V"⟩, 9) := ⟨⟨by decide +kernel, by decide +kernel⟩, List.mem_of_getElem? (i := 20) (by decide +kernel), List.mem_of_getElem? (i := 580) (by decide +kernel), List.mem_of_getElem? (i := 581) (by decide +kernel)⟩
theorem lw_p24 : lw_okq (⟨"BargainTree", "deliver", "(LBargainTree$Letter;)V"⟩, 9) := ⟨⟨by decide +kernel, by decide +kernel⟩, List.mem_of_getElem? (i := 20) (by decide +kernel), List.mem_of_getElem? (i := 584) (by decide +kernel), List.mem_of_getElem? (i := 585) (by decide +kernel)⟩
theorem lw_p25 : lw_okq (⟨"BargainTree", "takesToken", "(LBargainTree$Agent;LBargainTree$Letter;)Z"⟩, 9) := ⟨⟨by decide +kernel, by decide +kernel⟩, List.mem_of_getElem? (i := 20) (by decide +kernel), List.mem_of_getElem? (i := 588) (by decide +kernel), List.mem_of_getElem? (i := 589) (by decide +kernel)⟩
theorem lw_p26 : lw_okq (⟨"BargainTree", "takesBack", "(LBargainTree$Agent;LBargainTree$Letter;)Z"⟩, 9) := ⟨⟨by decide +kernel, by decide +kernel⟩, List.mem_of_getElem? (i := 20) (by decide +kernel), List.mem_of_getElem? (i := 593) (by decide +kernel), List.mem_of_getElem? (i := 594) (by decide +kernel)⟩
theorem lw_p27 : lw_okq (⟨"BargainTree", "takesTable", "(LBargainTree$Agent;LBargainTree$Letter;)Z"⟩, 9) := ⟨⟨by decide +kernel, by decide +kernel⟩, List.mem_of_getElem? (i := 20) (by decide +kernel), List.mem_of_getElem? (i := 597) (by decide +kernel), List.mem_of_getElem? (i := 598) (by decide +kernel)⟩
theorem lw_p28 : lw_okq (⟨"BargainTreeModel", "isValue", "(II)Z"⟩, 42) := ⟨⟨by decide +kernel, by decide +kernel⟩, List.mem_of_getElem? (i := 622) (by decide +kernel), List.mem_of_getElem? (i := 771) (by decide +kernel), List.mem_of_getElem? (i := 772) (by decide +kernel)⟩
theorem lw_p29 : lw_okq (⟨"BargainTreeModel", "isAgent", "(I)Z"⟩, 42) := ⟨⟨by decide +kernel, by decide +kernel⟩, List.mem_of_getElem? (i := 622) (by decide +kernel), List.mem_of_getElem? (i := 775) (by decide +kernel), List.mem_of_getElem? (i := 776) (by decide +kernel)⟩
theorem lw_p30 : lw_okq (⟨"BargainTreeModel", "pairOf", "(II)I"⟩, 42) := ⟨⟨by decide +kernel, by decide +kernel⟩, List.mem_of_getElem? (i := 622) (by decide +kernel), List.mem_of_getElem? (i := 787) (by decide +kernel), List.mem_of_getElem? (i := 788) (by decide +kernel)⟩
theorem lw_p31 : lw_okq (⟨"BargainTreeModel", "isPairCost", "(IIIII)Z"⟩, 42) := ⟨⟨by decide +kernel, by decide +kernel⟩, List.mem_of_getElem? (i := 622) (by decide +kernel), List.mem_of_getElem? (i := 795) (by decide +kernel), List.mem_of_getElem? (i := 796) (by decide +kernel)⟩
def lw_privs_2 : List (MethodName × Nat) := [(⟨"BargainTree", "tryEntry", "(II)V"⟩, 9), (⟨"BargainTree", "leastCost", "(LBargainTree$Agent;)I"⟩, 9), (⟨"BargainTree", "costWith", "(LBargainTree$Agent;[I)I"⟩, 9), (⟨"BargainTree", "entryAt", "([II[I)I"⟩, 9), (⟨"BargainTree", "choose", "(LBargainTree$Agent;I[I)V"⟩, 9), (⟨"BargainTree", "sendChoices", "(LBargainTree$Agent;)V"⟩, 9), (⟨"BargainTree", "sendTable", "(LBargainTree$Agent;)V"⟩, 9), (⟨"BargainTree", "takeOut", "(I)V"⟩, 9), (⟨"BargainTree", "deliver", "(LBargainTree$Letter;)V"⟩, 9), (⟨"BargainTree", "takesToken", "(LBargainTree$Agent;LBargainTree$Letter;)Z"⟩, 9), (⟨"BargainTree", "takesBack", "(LBargainTree$Agent;LBargainTree$Letter;)Z"⟩, 9), (⟨"BargainTree", "takesTable", "(LBargainTree$Agent;LBargainTree$Letter;)Z"⟩, 9), (⟨"BargainTreeModel", "isValue", "(II)Z"⟩, 42), (⟨"BargainTreeModel", "isAgent", "(I)Z"⟩, 42), (⟨"BargainTreeModel", "pairOf", "(II)I"⟩, 42), (⟨"BargainTreeModel", "isPairCost", "(IIIII)Z"⟩, 42)]
theorem lw_r2 : ∀ q ∈ lw_privs_2, lw_okq q := List.forall_mem_cons.mpr ⟨lw_p16, List.forall_mem_cons.mpr ⟨lw_p17, List.forall_mem_cons.mpr ⟨lw_p18, List.forall_mem_cons.mpr ⟨lw_p19, List.forall_mem_cons.mpr ⟨lw_p20, List.forall_mem_cons.mpr ⟨lw_p21, List.forall_mem_cons.mpr ⟨lw_p22, List.forall_mem_cons.mpr ⟨lw_p23, List.forall_mem_cons.mpr ⟨lw_p24, List.forall_mem_cons.mpr ⟨lw_p25, List.forall_mem_cons.mpr ⟨lw_p26, List.forall_mem_cons.mpr ⟨lw_p27, List.forall_mem_cons.mpr ⟨lw_p28, List.forall_mem_cons.mpr ⟨lw_p29, List.forall_mem_cons.mpr ⟨lw_p30, List.forall_mem_cons.mpr ⟨lw_p31, fun _ h => absurd h List.not_mem_nil⟩⟩⟩⟩⟩⟩⟩⟩⟩⟩⟩⟩⟩⟩⟩⟩
theorem lw_p32 : lw_okq (⟨"BargainTreeModel", "setCost", "(IIIII)V"⟩, 42) := ⟨⟨by decide +kernel, by decide +kernel⟩, List.mem_of_getElem? (i := 622) (by decide +kernel), List.mem_of_getElem? (i := 799) (by decide +kernel), List.mem_of_getElem? (i := 800) (by decide +kernel)⟩
theorem lw_p33 : lw_okq (⟨"BargainTreeModel", "findPart", "(I)V"⟩, 42) := ⟨⟨by decide +kernel, by decide +kernel⟩, List.mem_of_getElem? (i := 622) (by decide +kernel), List.mem_of_getElem? (i := 807) (by decide +kernel), List.mem_of_getElem? (i := 808) (by decide +kernel)⟩
theorem lw_p34 : lw_okq (⟨"BargainTreeModel", "goesBefore", "(II)Z"⟩, 42) := ⟨⟨by decide +kernel, by decide +kernel⟩, List.mem_of_getElem? (i := 622) (by decide +kernel), List.mem_of_getElem? (i := 814) (by decide +kernel), List.mem_of_getElem? (i := 815) (by decide +kernel)⟩
theorem lw_p35 : lw_okq (⟨"BargainTreeModel", "receiveToken", "(III)V"⟩, 42) := ⟨⟨by decide +kernel, by decide +kernel⟩, List.mem_of_getElem? (i := 622) (by decide +kernel), List.mem_of_getElem? (i := 821) (by decide +kernel), List.mem_of_getElem? (i := 822) (by decide +kernel)⟩
theorem lw_p36 : lw_okq (⟨"BargainTreeModel", "hold", "(I)V"⟩, 42) := ⟨⟨by decide +kernel, by decide +kernel⟩, List.mem_of_getElem? (i := 622) (by decide +kernel), List.mem_of_getElem? (i := 825) (by decide +kernel), List.mem_of_getElem? (i := 826) (by decide +kernel)⟩
theorem lw_p37 : lw_okq (⟨"BargainTreeModel", "post", "(IIII)I"⟩, 42) := ⟨⟨by decide +kernel, by decide +kernel⟩, List.mem_of_getElem? (i := 622) (by decide +kernel), List.mem_of_getElem? (i := 829) (by decide +kernel), List.mem_of_getElem? (i := 830) (by decide +kernel)⟩
theorem lw_p38 : lw_okq (⟨"BargainTreeModel", "work", "(II)V"⟩, 42) := ⟨⟨by decide +kernel, by decide +kernel⟩, List.mem_of_getElem? (i := 622) (by decide +kernel), List.mem_of_getElem? (i := 833) (by decide +kernel), List.mem_of_getElem? (i := 834) (by decide +kernel)⟩
theorem lw_p39 : lw_okq (⟨"BargainTreeModel", "hasAll", "(I)Z"⟩, 42) := ⟨⟨by decide +kernel, by decide +kernel⟩, List.mem_of_getElem? (i := 622) (by decide +kernel), List.mem_of_getElem? (i := 837) (by decide +kernel), List.mem_of_getElem? (i := 838) (by decide +kernel)⟩
theorem lw_p40 : lw_okq (⟨"BargainTreeModel", "width", "(I)I"⟩, 42) := ⟨⟨by decide +kernel, by decide +kernel⟩, List.mem_of_getElem? (i := 622) (by decide +kernel), List.mem_of_getElem? (i := 841) (by decide +kernel), List.mem_of_getElem? (i := 842) (by decide +kernel)⟩
theorem lw_p41 : lw_okq (⟨"BargainTreeModel", "make", "(II)V"⟩, 42) := ⟨⟨by decide +kernel, by decide +kernel⟩, List.mem_of_getElem? (i := 622) (by decide +kernel), List.mem_of_getElem? (i := 845) (by decide +kernel), List.mem_of_getElem? (i := 846) (by decide +kernel)⟩
theorem lw_p42 : lw_okq (⟨"BargainTreeModel", "best", "(I)I"⟩, 42) := ⟨⟨by decide +kernel, by decide +kernel⟩, List.mem_of_getElem? (i := 622) (by decide +kernel), List.mem_of_getElem? (i := 849) (by decide +kernel), List.mem_of_getElem? (i := 850) (by decide +kernel)⟩
theorem lw_p43 : lw_okq (⟨"BargainTreeModel", "costNow", "(I)I"⟩, 42) := ⟨⟨by decide +kernel, by decide +kernel⟩, List.mem_of_getElem? (i := 622) (by decide +kernel), List.mem_of_getElem? (i := 853) (by decide +kernel), List.mem_of_getElem? (i := 854) (by decide +kernel)⟩
theorem lw_p44 : lw_okq (⟨"BargainTreeModel", "placeIn", "(I)I"⟩, 42) := ⟨⟨by decide +kernel, by decide +kernel⟩, List.mem_of_getElem? (i := 622) (by decide +kernel), List.mem_of_getElem? (i := 857) (by decide +kernel), List.mem_of_getElem? (i := 858) (by decide +kernel)⟩
theorem lw_p45 : lw_okq (⟨"BargainTreeModel", "postTable", "(I)V"⟩, 42) := ⟨⟨by decide +kernel, by decide +kernel⟩, List.mem_of_getElem? (i := 622) (by decide +kernel), List.mem_of_getElem? (i := 861) (by decide +kernel), List.mem_of_getElem? (i := 862) (by decide +kernel)⟩
theorem lw_p46 : lw_okq (⟨"BargainTreeModel", "choose", "(II)V"⟩, 42) := ⟨⟨by decide +kernel, by decide +kernel⟩, List.mem_of_getElem? (i := 622) (by decide +kernel), List.mem_of_getElem? (i := 865) (by decide +kernel), List.mem_of_getElem? (i := 866) (by decide +kernel)⟩
theorem lw_p47 : lw_okq (⟨"BargainTreeModel", "postChoices", "(I)V"⟩, 42) := ⟨⟨by decide +kernel, by decide +kernel⟩, List.mem_of_getElem? (i := 622) (by decide +kernel), List.mem_of_getElem? (i := 869) (by decide +kernel), List.mem_of_getElem? (i := 870) (by decide +kernel)⟩
def lw_privs_3 : List (MethodName × Nat) := [(⟨"BargainTreeModel", "setCost", "(IIIII)V"⟩, 42), (⟨"BargainTreeModel", "findPart", "(I)V"⟩, 42), (⟨"BargainTreeModel", "goesBefore", "(II)Z"⟩, 42), (⟨"BargainTreeModel", "receiveToken", "(III)V"⟩, 42), (⟨"BargainTreeModel", "hold", "(I)V"⟩, 42), (⟨"BargainTreeModel", "post", "(IIII)I"⟩, 42), (⟨"BargainTreeModel", "work", "(II)V"⟩, 42), (⟨"BargainTreeModel", "hasAll", "(I)Z"⟩, 42), (⟨"BargainTreeModel", "width", "(I)I"⟩, 42), (⟨"BargainTreeModel", "make", "(II)V"⟩, 42), (⟨"BargainTreeModel", "best", "(I)I"⟩, 42), (⟨"BargainTreeModel", "costNow", "(I)I"⟩, 42), (⟨"BargainTreeModel", "placeIn", "(I)I"⟩, 42), (⟨"BargainTreeModel", "postTable", "(I)V"⟩, 42), (⟨"BargainTreeModel", "choose", "(II)V"⟩, 42), (⟨"BargainTreeModel", "postChoices", "(I)V"⟩, 42)]
theorem lw_r3 : ∀ q ∈ lw_privs_3, lw_okq q := List.forall_mem_cons.mpr ⟨lw_p32, List.forall_mem_cons.mpr ⟨lw_p33, List.forall_mem_cons.mpr ⟨lw_p34, List.forall_mem_cons.mpr ⟨lw_p35, List.forall_mem_cons.mpr ⟨lw_p36, List.forall_mem_cons.mpr ⟨lw_p37, List.forall_mem_cons.mpr ⟨lw_p38, List.forall_mem_cons.mpr ⟨lw_p39, List.forall_mem_cons.mpr ⟨lw_p40, List.forall_mem_cons.mpr ⟨lw_p41, List.forall_mem_cons.mpr ⟨lw_p42, List.forall_mem_cons.mpr ⟨lw_p43, List.forall_mem_cons.mpr ⟨lw_p44, List.forall_mem_cons.mpr ⟨lw_p45, List.forall_mem_cons.mpr ⟨lw_p46, List.forall_mem_cons.mpr ⟨lw_p47, fun _ h => absurd h List.not_mem_nil⟩⟩⟩⟩⟩⟩⟩⟩⟩⟩⟩⟩⟩⟩⟩⟩
theorem lw_p48 : lw_okq (⟨"BargainTreeModel", "copyLetter", "(II)V"⟩, 42) := ⟨⟨by decide +kernel, by decide +kernel⟩, List.mem_of_getElem? (i := 622) (by decide +kernel), List.mem_of_getElem? (i := 877) (by decide +kernel), List.mem_of_getElem? (i := 878) (by decide +kernel)⟩
theorem lw_p49 : lw_okq (⟨"BargainTreeModel", "deliver", "()V"⟩, 42) := ⟨⟨by decide +kernel, by decide +kernel⟩, List.mem_of_getElem? (i := 622) (by decide +kernel), List.mem_of_getElem? (i := 881) (by decide +kernel), List.mem_of_getElem? (i := 882) (by decide +kernel)⟩
theorem lw_p50 : lw_okq (⟨"BargainTreeModel", "entryOf", "(II)I"⟩, 42) := ⟨⟨by decide +kernel, by decide +kernel⟩, List.mem_of_getElem? (i := 622) (by decide +kernel), List.mem_of_getElem? (i := 889) (by decide +kernel), List.mem_of_getElem? (i := 890) (by decide +kernel)⟩
theorem lw_p51 : lw_okq (⟨"BargainTreeModel", "state", "()I"⟩, 42) := ⟨⟨by decide +kernel, by decide +kernel⟩, List.mem_of_getElem? (i := 622) (by decide +kernel), List.mem_of_getElem? (i := 901) (by decide +kernel), List.mem_of_getElem? (i := 902) (by decide +kernel)⟩
theorem lw_p52 : lw_okq (⟨"BargainTreeModel", "isLost", "(I)Z"⟩, 42) := ⟨⟨by decide +kernel, by decide +kernel⟩, List.mem_of_getElem? (i := 622) (by decide +kernel), List.mem_of_getElem? (i := 905) (by decide +kernel), List.mem_of_getElem? (i := 906) (by decide +kernel)⟩
theorem lw_p53 : lw_okq (⟨"BargainTreeModel", "isSettled", "(I)Z"⟩, 42) := ⟨⟨by decide +kernel, by decide +kernel⟩, List.mem_of_getElem? (i := 622) (by decide +kernel), List.mem_of_getElem? (i := 909) (by decide +kernel), List.mem_of_getElem? (i := 910) (by decide +kernel)⟩
def lw_privs_4 : List (MethodName × Nat) := [(⟨"BargainTreeModel", "copyLetter", "(II)V"⟩, 42), (⟨"BargainTreeModel", "deliver", "()V"⟩, 42), (⟨"BargainTreeModel", "entryOf", "(II)I"⟩, 42), (⟨"BargainTreeModel", "state", "()I"⟩, 42), (⟨"BargainTreeModel", "isLost", "(I)Z"⟩, 42), (⟨"BargainTreeModel", "isSettled", "(I)Z"⟩, 42)]
theorem lw_r4 : ∀ q ∈ lw_privs_4, lw_okq q := List.forall_mem_cons.mpr ⟨lw_p48, List.forall_mem_cons.mpr ⟨lw_p49, List.forall_mem_cons.mpr ⟨lw_p50, List.forall_mem_cons.mpr ⟨lw_p51, List.forall_mem_cons.mpr ⟨lw_p52, List.forall_mem_cons.mpr ⟨lw_p53, fun _ h => absurd h List.not_mem_nil⟩⟩⟩⟩⟩⟩
def lw_privs : List (MethodName × Nat) := lw_privs_1 ++ (lw_privs_2 ++ (lw_privs_3 ++ (lw_privs_4)))
def lw_tbl : List Cond := k2_sels lw_privs ++ tables_1
theorem lw_privs_ok : ∀ q ∈ lw_privs, lw_okq q := by
  show ∀ q ∈ lw_privs_1 ++ (lw_privs_2 ++ (lw_privs_3 ++ (lw_privs_4))), lw_okq q
  exact List.forall_mem_append.mpr ⟨lw_r1, List.forall_mem_append.mpr ⟨lw_r2, List.forall_mem_append.mpr ⟨lw_r3, lw_r4⟩⟩⟩
end
section
/-! NAMES: our classes, their fields, the methods, the words. Written by wip/whole/gen/names.py -/
section
/-- words that stay true under warmer tables -/
def jm_good : Cond → Bool
  | .methodLinkNest .. => true
  | .declares _ => true
  | .castable .. => true
  | .arrayOver (.object _) => true
  | w => goodWord w
def jm_ws : List Cond := lw_tbl.filter jm_good
theorem jm_in {w : Cond} (h1 : w ∈ tables_1) (h2 : jm_good w = true) : w ∈ jm_ws := List.mem_filter.mpr ⟨List.mem_append_right _ h1, h2⟩
theorem jm_inP {w : Cond} (h1 : w ∈ k2_sels lw_privs) (h2 : jm_good w = true) : w ∈ jm_ws := List.mem_filter.mpr ⟨List.mem_append_left _ h1, h2⟩
theorem jm_word {args a' : Array Value} {s U : State} (hW : s.WarmedH U.vm) {w : Cond} (hg : jm_good w = true) (h : w.before args s = true) : w.before a' U = true := by
  cases w with
  | methodLinkNest a i x hh => exact va_Nw.use rfl (va_Nw.warmM hW (va_Nw.of rfl h))
  | declares x => exact va_Nw.use rfl (va_Nw.warmD hW (va_Nw.of rfl h))
  | castable c t => exact va_Nw.use rfl (va_Nw.warmC hW (va_Nw.of rfl h))
  | arrayOver ty =>
    cases ty with
    | object C => exact va_AO.use (va_AO.moved hW.alike (va_AO.of h))
    | _ => exact word_at hW (good_of_word hg) h
  | _ => exact word_at hW (good_of_word hg) h
def jm_F0 : u_T := fun k => match k with
  | 0 => ("BargainTree", "agents", "[LBargainTree$Agent;", true)
  | 1 => ("BargainTree", "agentCount", "I", false)
  | 2 => ("BargainTree", "pairs", "[LBargainTree$Pair;", true)
  | 3 => ("BargainTree", "pairCount", "I", false)
  | 4 => ("BargainTree", "letters", "[LBargainTree$Letter;", true)
  | 5 => ("BargainTree", "letterCount", "I", false)
  | 6 => ("BargainTree", "tried", "[I", true)
  | 7 => ("BargainTree", "open", "Z", false)
  | _ => ("BargainTree", "tablesMade", "I", false)
def jm_Y0 : Nat → FieldType := fun k => match k with
  | 0 => (.array (.object "BargainTree$Agent"))
  | 1 => .int
  | 2 => (.array (.object "BargainTree$Pair"))
  | 3 => .int
  | 4 => (.array (.object "BargainTree$Letter"))
  | 5 => .int
  | 6 => (.array .int)
  | 7 => .boolean
  | _ => .int
def jm_V0 : Nat → Value := fun k => match k with
  | 0 => .null
  | 1 => .int 0
  | 2 => .null
  | 3 => .int 0
  | 4 => .null
  | 5 => .int 0
  | 6 => .null
  | 7 => .int 0
  | _ => .int 0
def jm_F1 : u_T := fun k => match k with
  | 0 => ("BargainTree$Agent", "number", "I", true)
  | 1 => ("BargainTree$Agent", "values", "I", true)
  | 2 => ("BargainTree$Agent", "ownCosts", "[I", true)
  | 3 => ("BargainTree$Agent", "children", "[LBargainTree$Child;", true)
  | 4 => ("BargainTree$Agent", "childCount", "I", false)
  | 5 => ("BargainTree$Agent", "neighbours", "I", false)
  | 6 => ("BargainTree$Agent", "part", "LBargainTree$Part;", false)
  | 7 => ("BargainTree$Agent", "stage", "LBargainTree$Stage;", false)
  | 8 => ("BargainTree$Agent", "mask", "I", false)
  | 9 => ("BargainTree$Agent", "ancestors", "I", false)
  | 10 => ("BargainTree$Agent", "parent", "I", false)
  | 11 => ("BargainTree$Agent", "awaited", "I", false)
  | 12 => ("BargainTree$Agent", "separator", "I", false)
  | 13 => ("BargainTree$Agent", "tooWide", "Z", false)
  | 14 => ("BargainTree$Agent", "table", "[I", false)
  | 15 => ("BargainTree$Agent", "tableRun", "I", false)
  | 16 => ("BargainTree$Agent", "choice", "[I", false)
  | _ => ("BargainTree$Agent", "settledRun", "I", false)
def jm_Y1 : Nat → FieldType := fun k => match k with
  | 0 => .int
  | 1 => .int
  | 2 => (.array .int)
  | 3 => (.array (.object "BargainTree$Child"))
  | 4 => .int
  | 5 => .int
  | 6 => (.object "BargainTree$Part")
  | 7 => (.object "BargainTree$Stage")
  | 8 => .int
  | 9 => .int
  | 10 => .int
  | 11 => .int
  | 12 => .int
  | 13 => .boolean
  | 14 => (.array .int)
  | 15 => .int
  | 16 => (.array .int)
  | _ => .int
def jm_V1 : Nat → Value := fun k => match k with
  | 0 => .int 0
  | 1 => .int 0
  | 2 => .null
  | 3 => .null
  | 4 => .int 0
  | 5 => .int 0
  | 6 => .null
  | 7 => .null
  | 8 => .int 0
  | 9 => .int 0
  | 10 => .int 0
  | 11 => .int 0
  | 12 => .int 0
  | 13 => .int 0
  | 14 => .null
  | 15 => .int 0
  | 16 => .null
  | _ => .int 0
def jm_F2 : u_T := fun k => match k with
  | 0 => ("BargainTree$Part", "root", "LBargainTree$Agent;", true)
  | 1 => ("BargainTree$Part", "run", "I", false)
  | _ => ("BargainTree$Part", "noneRun", "I", false)
def jm_Y2 : Nat → FieldType := fun k => match k with
  | 0 => (.object "BargainTree$Agent")
  | 1 => .int
  | _ => .int
def jm_V2 : Nat → Value := fun k => match k with
  | 0 => .null
  | 1 => .int 0
  | _ => .int 0
def jm_F3 : u_T := fun k => match k with
  | 0 => ("BargainTree$Child", "agent", "LBargainTree$Agent;", true)
  | 1 => ("BargainTree$Child", "run", "I", false)
  | _ => ("BargainTree$Child", "table", "[I", false)
def jm_Y3 : Nat → FieldType := fun k => match k with
  | 0 => (.object "BargainTree$Agent")
  | 1 => .int
  | _ => (.array .int)
def jm_V3 : Nat → Value := fun k => match k with
  | 0 => .null
  | 1 => .int 0
  | _ => .null
def jm_F4 : u_T := fun k => match k with
  | 0 => ("BargainTree$Pair", "low", "I", true)
  | 1 => ("BargainTree$Pair", "high", "I", true)
  | _ => ("BargainTree$Pair", "costs", "[I", true)
def jm_Y4 : Nat → FieldType := fun k => match k with
  | 0 => .int
  | 1 => .int
  | _ => (.array .int)
def jm_V4 : Nat → Value := fun k => match k with
  | 0 => .int 0
  | 1 => .int 0
  | _ => .null
def jm_F5 : u_T := fun k => match k with
  | 0 => ("BargainTree$Letter", "kind", "I", true)
  | 1 => ("BargainTree$Letter", "from", "I", true)
  | 2 => ("BargainTree$Letter", "to", "I", true)
  | 3 => ("BargainTree$Letter", "stamp", "I", true)
  | _ => ("BargainTree$Letter", "content", "[I", true)
def jm_Y5 : Nat → FieldType := fun k => match k with
  | 0 => .int
  | 1 => .int
  | 2 => .int
  | 3 => .int
  | _ => (.array .int)
def jm_V5 : Nat → Value := fun k => match k with
  | 0 => .int 0
  | 1 => .int 0
  | 2 => .int 0
  | 3 => .int 0
  | _ => .null
def jm_F6 : u_T := fun k => match k with
  | 0 => ("BargainTreeModel", "thrown", "I", false)
  | 1 => ("BargainTreeModel", "agents", "I", false)
  | 2 => ("BargainTreeModel", "started", "Z", false)
  | 3 => ("BargainTreeModel", "size", "[I", true)
  | 4 => ("BargainTreeModel", "ownCost", "[I", true)
  | 5 => ("BargainTreeModel", "pairs", "I", false)
  | 6 => ("BargainTreeModel", "first", "[I", true)
  | 7 => ("BargainTreeModel", "second", "[I", true)
  | 8 => ("BargainTreeModel", "pairCost", "[I", true)
  | 9 => ("BargainTreeModel", "neighbours", "[I", true)
  | 10 => ("BargainTreeModel", "part", "[I", true)
  | 11 => ("BargainTreeModel", "root", "[I", true)
  | 12 => ("BargainTreeModel", "run", "[I", true)
  | 13 => ("BargainTreeModel", "had", "[Z", true)
  | 14 => ("BargainTreeModel", "through", "[Z", true)
  | 15 => ("BargainTreeModel", "wide", "[Z", true)
  | 16 => ("BargainTreeModel", "parents", "[I", true)
  | 17 => ("BargainTreeModel", "ancestors", "[I", true)
  | 18 => ("BargainTreeModel", "masks", "[I", true)
  | 19 => ("BargainTreeModel", "waits", "[I", true)
  | 20 => ("BargainTreeModel", "children", "[I", true)
  | 21 => ("BargainTreeModel", "childCount", "[I", true)
  | 22 => ("BargainTreeModel", "separators", "[I", true)
  | 23 => ("BargainTreeModel", "tableRun", "[I", true)
  | 24 => ("BargainTreeModel", "tableMask", "[I", true)
  | 25 => ("BargainTreeModel", "tableCount", "[I", true)
  | 26 => ("BargainTreeModel", "cells", "[I", true)
  | 27 => ("BargainTreeModel", "made", "I", false)
  | 28 => ("BargainTreeModel", "settled", "[I", true)
  | 29 => ("BargainTreeModel", "noneRun", "[I", true)
  | 30 => ("BargainTreeModel", "chosen", "[I", true)
  | 31 => ("BargainTreeModel", "knows", "[I", true)
  | 32 => ("BargainTreeModel", "now", "[I", true)
  | 33 => ("BargainTreeModel", "least", "I", false)
  | 34 => ("BargainTreeModel", "letters", "I", false)
  | 35 => ("BargainTreeModel", "kind", "[I", true)
  | 36 => ("BargainTreeModel", "from", "[I", true)
  | 37 => ("BargainTreeModel", "to", "[I", true)
  | 38 => ("BargainTreeModel", "word", "[I", true)
  | 39 => ("BargainTreeModel", "many", "[I", true)
  | 40 => ("BargainTreeModel", "letterMask", "[I", true)
  | _ => ("BargainTreeModel", "entries", "[I", true)
def jm_Y6 : Nat → FieldType := fun k => match k with
  | 0 => .int
  | 1 => .int
  | 2 => .boolean
  | 3 => (.array .int)
  | 4 => (.array .int)
  | 5 => .int
  | 6 => (.array .int)
  | 7 => (.array .int)
  | 8 => (.array .int)
  | 9 => (.array .int)
  | 10 => (.array .int)
  | 11 => (.array .int)
  | 12 => (.array .int)
  | 13 => (.array .boolean)
  | 14 => (.array .boolean)
  | 15 => (.array .boolean)
  | 16 => (.array .int)
  | 17 => (.array .int)
  | 18 => (.array .int)
  | 19 => (.array .int)
  | 20 => (.array .int)
  | 21 => (.array .int)
  | 22 => (.array .int)
  | 23 => (.array .int)
  | 24 => (.array .int)
  | 25 => (.array .int)
  | 26 => (.array .int)
  | 27 => .int
  | 28 => (.array .int)
  | 29 => (.array .int)
  | 30 => (.array .int)
  | 31 => (.array .int)
  | 32 => (.array .int)
  | 33 => .int
  | 34 => .int
  | 35 => (.array .int)
  | 36 => (.array .int)
  | 37 => (.array .int)
  | 38 => (.array .int)
  | 39 => (.array .int)
  | 40 => (.array .int)
  | _ => (.array .int)
def jm_V6 : Nat → Value := fun k => match k with
  | 0 => .int 0
  | 1 => .int 0
  | 2 => .int 0
  | 3 => .null
  | 4 => .null
  | 5 => .int 0
  | 6 => .null
  | 7 => .null
  | 8 => .null
  | 9 => .null
  | 10 => .null
  | 11 => .null
  | 12 => .null
  | 13 => .null
  | 14 => .null
  | 15 => .null
  | 16 => .null
  | 17 => .null
  | 18 => .null
  | 19 => .null
  | 20 => .null
  | 21 => .null
  | 22 => .null
  | 23 => .null
  | 24 => .null
  | 25 => .null
  | 26 => .null
  | 27 => .int 0
  | 28 => .null
  | 29 => .null
  | 30 => .null
  | 31 => .null
  | 32 => .null
  | 33 => .int 0
  | 34 => .int 0
  | 35 => .null
  | 36 => .null
  | 37 => .null
  | 38 => .null
  | 39 => .null
  | 40 => .null
  | _ => .null
def jm_cl : List vw_C := [("BargainTree", jm_F0, 9), ("BargainTree$Agent", jm_F1, 18), ("BargainTree$Part", jm_F2, 3), ("BargainTree$Child", jm_F3, 3), ("BargainTree$Pair", jm_F4, 3), ("BargainTree$Letter", jm_F5, 5), ("BargainTreeModel", jm_F6, 42)]
theorem jm_cl_len : jm_cl.length ≤ 100 := by decide
theorem jm_lw0_0 : u_lay "BargainTree" jm_F0 0 ∈ jm_ws := jm_in (List.mem_of_getElem? (i := 42) (by decide +kernel)) (by decide +kernel)
theorem jm_lw0_1 : u_lay "BargainTree" jm_F0 1 ∈ jm_ws := jm_in (List.mem_of_getElem? (i := 44) (by decide +kernel)) (by decide +kernel)
theorem jm_lw0_2 : u_lay "BargainTree" jm_F0 2 ∈ jm_ws := jm_in (List.mem_of_getElem? (i := 46) (by decide +kernel)) (by decide +kernel)
theorem jm_lw0_3 : u_lay "BargainTree" jm_F0 3 ∈ jm_ws := jm_in (List.mem_of_getElem? (i := 48) (by decide +kernel)) (by decide +kernel)
theorem jm_lw0_4 : u_lay "BargainTree" jm_F0 4 ∈ jm_ws := jm_in (List.mem_of_getElem? (i := 50) (by decide +kernel)) (by decide +kernel)
theorem jm_lw0_5 : u_lay "BargainTree" jm_F0 5 ∈ jm_ws := jm_in (List.mem_of_getElem? (i := 52) (by decide +kernel)) (by decide +kernel)
theorem jm_lw0_6 : u_lay "BargainTree" jm_F0 6 ∈ jm_ws := jm_in (List.mem_of_getElem? (i := 54) (by decide +kernel)) (by decide +kernel)
theorem jm_lw0_7 : u_lay "BargainTree" jm_F0 7 ∈ jm_ws := jm_in (List.mem_of_getElem? (i := 56) (by decide +kernel)) (by decide +kernel)
theorem jm_lw0_8 : u_lay "BargainTree" jm_F0 8 ∈ jm_ws := jm_in (List.mem_of_getElem? (i := 58) (by decide +kernel)) (by decide +kernel)
theorem jm_lin0 : ∀ w ∈ u_ws "BargainTree" jm_F0 9, w ∈ jm_ws := by
  intro w hw
  obtain ⟨k, hk, rfl⟩ := List.mem_map.mp hw
  have hk := List.mem_range.mp hk
  match k, hk with
  | 0, _ => exact jm_lw0_0
  | 1, _ => exact jm_lw0_1
  | 2, _ => exact jm_lw0_2
  | 3, _ => exact jm_lw0_3
  | 4, _ => exact jm_lw0_4
  | 5, _ => exact jm_lw0_5
  | 6, _ => exact jm_lw0_6
  | 7, _ => exact jm_lw0_7
  | 8, _ => exact jm_lw0_8
  | n + 9, hk => exact absurd hk (by omega)
theorem jm_yok0 : ∀ k, k < 9 → parseFieldDescriptor (jm_F0 k).2.2.1 = some (jm_Y0 k) := by decide +kernel
theorem jm_nok0 : ∀ a, a < 9 → ∀ b, b < 9 → a ≠ b → (jm_F0 a).2.1 ≠ (jm_F0 b).2.1 := by decide +kernel
theorem jm_vok0 : ∀ j, j < 9 → defaultValue (jm_Y0 j) = jm_V0 j := by decide +kernel
theorem jm_lw1_0 : u_lay "BargainTree$Agent" jm_F1 0 ∈ jm_ws := jm_in (List.mem_of_getElem? (i := 260) (by decide +kernel)) (by decide +kernel)
theorem jm_lw1_1 : u_lay "BargainTree$Agent" jm_F1 1 ∈ jm_ws := jm_in (List.mem_of_getElem? (i := 262) (by decide +kernel)) (by decide +kernel)
theorem jm_lw1_2 : u_lay "BargainTree$Agent" jm_F1 2 ∈ jm_ws := jm_in (List.mem_of_getElem? (i := 264) (by decide +kernel)) (by decide +kernel)
theorem jm_lw1_3 : u_lay "BargainTree$Agent" jm_F1 3 ∈ jm_ws := jm_in (List.mem_of_getElem? (i := 266) (by decide +kernel)) (by decide +kernel)
theorem jm_lw1_4 : u_lay "BargainTree$Agent" jm_F1 4 ∈ jm_ws := jm_in (List.mem_of_getElem? (i := 268) (by decide +kernel)) (by decide +kernel)
theorem jm_lw1_5 : u_lay "BargainTree$Agent" jm_F1 5 ∈ jm_ws := jm_in (List.mem_of_getElem? (i := 270) (by decide +kernel)) (by decide +kernel)
theorem jm_lw1_6 : u_lay "BargainTree$Agent" jm_F1 6 ∈ jm_ws := jm_in (List.mem_of_getElem? (i := 272) (by decide +kernel)) (by decide +kernel)
theorem jm_lw1_7 : u_lay "BargainTree$Agent" jm_F1 7 ∈ jm_ws := jm_in (List.mem_of_getElem? (i := 274) (by decide +kernel)) (by decide +kernel)
theorem jm_lw1_8 : u_lay "BargainTree$Agent" jm_F1 8 ∈ jm_ws := jm_in (List.mem_of_getElem? (i := 276) (by decide +kernel)) (by decide +kernel)
theorem jm_lw1_9 : u_lay "BargainTree$Agent" jm_F1 9 ∈ jm_ws := jm_in (List.mem_of_getElem? (i := 278) (by decide +kernel)) (by decide +kernel)
theorem jm_lw1_10 : u_lay "BargainTree$Agent" jm_F1 10 ∈ jm_ws := jm_in (List.mem_of_getElem? (i := 280) (by decide +kernel)) (by decide +kernel)
theorem jm_lw1_11 : u_lay "BargainTree$Agent" jm_F1 11 ∈ jm_ws := jm_in (List.mem_of_getElem? (i := 282) (by decide +kernel)) (by decide +kernel)
theorem jm_lw1_12 : u_lay "BargainTree$Agent" jm_F1 12 ∈ jm_ws := jm_in (List.mem_of_getElem? (i := 284) (by decide +kernel)) (by decide +kernel)
theorem jm_lw1_13 : u_lay "BargainTree$Agent" jm_F1 13 ∈ jm_ws := jm_in (List.mem_of_getElem? (i := 286) (by decide +kernel)) (by decide +kernel)
theorem jm_lw1_14 : u_lay "BargainTree$Agent" jm_F1 14 ∈ jm_ws := jm_in (List.mem_of_getElem? (i := 288) (by decide +kernel)) (by decide +kernel)
theorem jm_lw1_15 : u_lay "BargainTree$Agent" jm_F1 15 ∈ jm_ws := jm_in (List.mem_of_getElem? (i := 290) (by decide +kernel)) (by decide +kernel)
theorem jm_lw1_16 : u_lay "BargainTree$Agent" jm_F1 16 ∈ jm_ws := jm_in (List.mem_of_getElem? (i := 292) (by decide +kernel)) (by decide +kernel)
theorem jm_lw1_17 : u_lay "BargainTree$Agent" jm_F1 17 ∈ jm_ws := jm_in (List.mem_of_getElem? (i := 294) (by decide +kernel)) (by decide +kernel)
theorem jm_lin1 : ∀ w ∈ u_ws "BargainTree$Agent" jm_F1 18, w ∈ jm_ws := by
  intro w hw
  obtain ⟨k, hk, rfl⟩ := List.mem_map.mp hw
  have hk := List.mem_range.mp hk
  match k, hk with
  | 0, _ => exact jm_lw1_0
  | 1, _ => exact jm_lw1_1
  | 2, _ => exact jm_lw1_2
  | 3, _ => exact jm_lw1_3
  | 4, _ => exact jm_lw1_4
  | 5, _ => exact jm_lw1_5
  | 6, _ => exact jm_lw1_6
  | 7, _ => exact jm_lw1_7
  | 8, _ => exact jm_lw1_8
  | 9, _ => exact jm_lw1_9
  | 10, _ => exact jm_lw1_10
  | 11, _ => exact jm_lw1_11
  | 12, _ => exact jm_lw1_12
  | 13, _ => exact jm_lw1_13
  | 14, _ => exact jm_lw1_14
  | 15, _ => exact jm_lw1_15
  | 16, _ => exact jm_lw1_16
  | 17, _ => exact jm_lw1_17
  | n + 18, hk => exact absurd hk (by omega)
theorem jm_yok1 : ∀ k, k < 18 → parseFieldDescriptor (jm_F1 k).2.2.1 = some (jm_Y1 k) := by decide +kernel
theorem jm_nok1 : ∀ a, a < 18 → ∀ b, b < 18 → a ≠ b → (jm_F1 a).2.1 ≠ (jm_F1 b).2.1 := by decide +kernel
theorem jm_vok1 : ∀ j, j < 18 → defaultValue (jm_Y1 j) = jm_V1 j := by decide +kernel
theorem jm_lw2_0 : u_lay "BargainTree$Part" jm_F2 0 ∈ jm_ws := jm_in (List.mem_of_getElem? (i := 408) (by decide +kernel)) (by decide +kernel)
theorem jm_lw2_1 : u_lay "BargainTree$Part" jm_F2 1 ∈ jm_ws := jm_in (List.mem_of_getElem? (i := 410) (by decide +kernel)) (by decide +kernel)
theorem jm_lw2_2 : u_lay "BargainTree$Part" jm_F2 2 ∈ jm_ws := jm_in (List.mem_of_getElem? (i := 412) (by decide +kernel)) (by decide +kernel)
theorem jm_lin2 : ∀ w ∈ u_ws "BargainTree$Part" jm_F2 3, w ∈ jm_ws := by
  intro w hw
  obtain ⟨k, hk, rfl⟩ := List.mem_map.mp hw
  have hk := List.mem_range.mp hk
  match k, hk with
  | 0, _ => exact jm_lw2_0
  | 1, _ => exact jm_lw2_1
  | 2, _ => exact jm_lw2_2
  | n + 3, hk => exact absurd hk (by omega)
theorem jm_yok2 : ∀ k, k < 3 → parseFieldDescriptor (jm_F2 k).2.2.1 = some (jm_Y2 k) := by decide +kernel
theorem jm_nok2 : ∀ a, a < 3 → ∀ b, b < 3 → a ≠ b → (jm_F2 a).2.1 ≠ (jm_F2 b).2.1 := by decide +kernel
theorem jm_vok2 : ∀ j, j < 3 → defaultValue (jm_Y2 j) = jm_V2 j := by decide +kernel
theorem jm_lw3_0 : u_lay "BargainTree$Child" jm_F3 0 ∈ jm_ws := jm_in (List.mem_of_getElem? (i := 438) (by decide +kernel)) (by decide +kernel)
theorem jm_lw3_1 : u_lay "BargainTree$Child" jm_F3 1 ∈ jm_ws := jm_in (List.mem_of_getElem? (i := 440) (by decide +kernel)) (by decide +kernel)
theorem jm_lw3_2 : u_lay "BargainTree$Child" jm_F3 2 ∈ jm_ws := jm_in (List.mem_of_getElem? (i := 442) (by decide +kernel)) (by decide +kernel)
theorem jm_lin3 : ∀ w ∈ u_ws "BargainTree$Child" jm_F3 3, w ∈ jm_ws := by
  intro w hw
  obtain ⟨k, hk, rfl⟩ := List.mem_map.mp hw
  have hk := List.mem_range.mp hk
  match k, hk with
  | 0, _ => exact jm_lw3_0
  | 1, _ => exact jm_lw3_1
  | 2, _ => exact jm_lw3_2
  | n + 3, hk => exact absurd hk (by omega)
theorem jm_yok3 : ∀ k, k < 3 → parseFieldDescriptor (jm_F3 k).2.2.1 = some (jm_Y3 k) := by decide +kernel
theorem jm_nok3 : ∀ a, a < 3 → ∀ b, b < 3 → a ≠ b → (jm_F3 a).2.1 ≠ (jm_F3 b).2.1 := by decide +kernel
theorem jm_vok3 : ∀ j, j < 3 → defaultValue (jm_Y3 j) = jm_V3 j := by decide +kernel
theorem jm_lw4_0 : u_lay "BargainTree$Pair" jm_F4 0 ∈ jm_ws := jm_in (List.mem_of_getElem? (i := 343) (by decide +kernel)) (by decide +kernel)
theorem jm_lw4_1 : u_lay "BargainTree$Pair" jm_F4 1 ∈ jm_ws := jm_in (List.mem_of_getElem? (i := 345) (by decide +kernel)) (by decide +kernel)
theorem jm_lw4_2 : u_lay "BargainTree$Pair" jm_F4 2 ∈ jm_ws := jm_in (List.mem_of_getElem? (i := 347) (by decide +kernel)) (by decide +kernel)
theorem jm_lin4 : ∀ w ∈ u_ws "BargainTree$Pair" jm_F4 3, w ∈ jm_ws := by
  intro w hw
  obtain ⟨k, hk, rfl⟩ := List.mem_map.mp hw
  have hk := List.mem_range.mp hk
  match k, hk with
  | 0, _ => exact jm_lw4_0
  | 1, _ => exact jm_lw4_1
  | 2, _ => exact jm_lw4_2
  | n + 3, hk => exact absurd hk (by omega)
theorem jm_yok4 : ∀ k, k < 3 → parseFieldDescriptor (jm_F4 k).2.2.1 = some (jm_Y4 k) := by decide +kernel
theorem jm_nok4 : ∀ a, a < 3 → ∀ b, b < 3 → a ≠ b → (jm_F4 a).2.1 ≠ (jm_F4 b).2.1 := by decide +kernel
theorem jm_vok4 : ∀ j, j < 3 → defaultValue (jm_Y4 j) = jm_V4 j := by decide +kernel
theorem jm_lw5_0 : u_lay "BargainTree$Letter" jm_F5 0 ∈ jm_ws := jm_in (List.mem_of_getElem? (i := 466) (by decide +kernel)) (by decide +kernel)
theorem jm_lw5_1 : u_lay "BargainTree$Letter" jm_F5 1 ∈ jm_ws := jm_in (List.mem_of_getElem? (i := 468) (by decide +kernel)) (by decide +kernel)
theorem jm_lw5_2 : u_lay "BargainTree$Letter" jm_F5 2 ∈ jm_ws := jm_in (List.mem_of_getElem? (i := 470) (by decide +kernel)) (by decide +kernel)
theorem jm_lw5_3 : u_lay "BargainTree$Letter" jm_F5 3 ∈ jm_ws := jm_in (List.mem_of_getElem? (i := 472) (by decide +kernel)) (by decide +kernel)
theorem jm_lw5_4 : u_lay "BargainTree$Letter" jm_F5 4 ∈ jm_ws := jm_in (List.mem_of_getElem? (i := 474) (by decide +kernel)) (by decide +kernel)
theorem jm_lin5 : ∀ w ∈ u_ws "BargainTree$Letter" jm_F5 5, w ∈ jm_ws := by
  intro w hw
  obtain ⟨k, hk, rfl⟩ := List.mem_map.mp hw
  have hk := List.mem_range.mp hk
  match k, hk with
  | 0, _ => exact jm_lw5_0
  | 1, _ => exact jm_lw5_1
  | 2, _ => exact jm_lw5_2
  | 3, _ => exact jm_lw5_3
  | 4, _ => exact jm_lw5_4
  | n + 5, hk => exact absurd hk (by omega)
theorem jm_yok5 : ∀ k, k < 5 → parseFieldDescriptor (jm_F5 k).2.2.1 = some (jm_Y5 k) := by decide +kernel
theorem jm_nok5 : ∀ a, a < 5 → ∀ b, b < 5 → a ≠ b → (jm_F5 a).2.1 ≠ (jm_F5 b).2.1 := by decide +kernel
theorem jm_vok5 : ∀ j, j < 5 → defaultValue (jm_Y5 j) = jm_V5 j := by decide +kernel
theorem jm_lw6_0 : u_lay "BargainTreeModel" jm_F6 0 ∈ jm_ws := jm_in (List.mem_of_getElem? (i := 669) (by decide +kernel)) (by decide +kernel)
theorem jm_lw6_1 : u_lay "BargainTreeModel" jm_F6 1 ∈ jm_ws := jm_in (List.mem_of_getElem? (i := 671) (by decide +kernel)) (by decide +kernel)
theorem jm_lw6_2 : u_lay "BargainTreeModel" jm_F6 2 ∈ jm_ws := jm_in (List.mem_of_getElem? (i := 673) (by decide +kernel)) (by decide +kernel)
theorem jm_lw6_3 : u_lay "BargainTreeModel" jm_F6 3 ∈ jm_ws := jm_in (List.mem_of_getElem? (i := 675) (by decide +kernel)) (by decide +kernel)
theorem jm_lw6_4 : u_lay "BargainTreeModel" jm_F6 4 ∈ jm_ws := jm_in (List.mem_of_getElem? (i := 677) (by decide +kernel)) (by decide +kernel)
theorem jm_lw6_5 : u_lay "BargainTreeModel" jm_F6 5 ∈ jm_ws := jm_in (List.mem_of_getElem? (i := 679) (by decide +kernel)) (by decide +kernel)
theorem jm_lw6_6 : u_lay "BargainTreeModel" jm_F6 6 ∈ jm_ws := jm_in (List.mem_of_getElem? (i := 681) (by decide +kernel)) (by decide +kernel)
theorem jm_lw6_7 : u_lay "BargainTreeModel" jm_F6 7 ∈ jm_ws := jm_in (List.mem_of_getElem? (i := 683) (by decide +kernel)) (by decide +kernel)
theorem jm_lw6_8 : u_lay "BargainTreeModel" jm_F6 8 ∈ jm_ws := jm_in (List.mem_of_getElem? (i := 685) (by decide +kernel)) (by decide +kernel)
theorem jm_lw6_9 : u_lay "BargainTreeModel" jm_F6 9 ∈ jm_ws := jm_in (List.mem_of_getElem? (i := 687) (by decide +kernel)) (by decide +kernel)
theorem jm_lw6_10 : u_lay "BargainTreeModel" jm_F6 10 ∈ jm_ws := jm_in (List.mem_of_getElem? (i := 689) (by decide +kernel)) (by decide +kernel)
theorem jm_lw6_11 : u_lay "BargainTreeModel" jm_F6 11 ∈ jm_ws := jm_in (List.mem_of_getElem? (i := 691) (by decide +kernel)) (by decide +kernel)
theorem jm_lw6_12 : u_lay "BargainTreeModel" jm_F6 12 ∈ jm_ws := jm_in (List.mem_of_getElem? (i := 693) (by decide +kernel)) (by decide +kernel)
theorem jm_lw6_13 : u_lay "BargainTreeModel" jm_F6 13 ∈ jm_ws := jm_in (List.mem_of_getElem? (i := 695) (by decide +kernel)) (by decide +kernel)
theorem jm_lw6_14 : u_lay "BargainTreeModel" jm_F6 14 ∈ jm_ws := jm_in (List.mem_of_getElem? (i := 697) (by decide +kernel)) (by decide +kernel)
theorem jm_lw6_15 : u_lay "BargainTreeModel" jm_F6 15 ∈ jm_ws := jm_in (List.mem_of_getElem? (i := 699) (by decide +kernel)) (by decide +kernel)
theorem jm_lw6_16 : u_lay "BargainTreeModel" jm_F6 16 ∈ jm_ws := jm_in (List.mem_of_getElem? (i := 701) (by decide +kernel)) (by decide +kernel)
theorem jm_lw6_17 : u_lay "BargainTreeModel" jm_F6 17 ∈ jm_ws := jm_in (List.mem_of_getElem? (i := 703) (by decide +kernel)) (by decide +kernel)
theorem jm_lw6_18 : u_lay "BargainTreeModel" jm_F6 18 ∈ jm_ws := jm_in (List.mem_of_getElem? (i := 705) (by decide +kernel)) (by decide +kernel)
theorem jm_lw6_19 : u_lay "BargainTreeModel" jm_F6 19 ∈ jm_ws := jm_in (List.mem_of_getElem? (i := 707) (by decide +kernel)) (by decide +kernel)
theorem jm_lw6_20 : u_lay "BargainTreeModel" jm_F6 20 ∈ jm_ws := jm_in (List.mem_of_getElem? (i := 709) (by decide +kernel)) (by decide +kernel)
theorem jm_lw6_21 : u_lay "BargainTreeModel" jm_F6 21 ∈ jm_ws := jm_in (List.mem_of_getElem? (i := 711) (by decide +kernel)) (by decide +kernel)
theorem jm_lw6_22 : u_lay "BargainTreeModel" jm_F6 22 ∈ jm_ws := jm_in (List.mem_of_getElem? (i := 713) (by decide +kernel)) (by decide +kernel)
theorem jm_lw6_23 : u_lay "BargainTreeModel" jm_F6 23 ∈ jm_ws := jm_in (List.mem_of_getElem? (i := 715) (by decide +kernel)) (by decide +kernel)
theorem jm_lw6_24 : u_lay "BargainTreeModel" jm_F6 24 ∈ jm_ws := jm_in (List.mem_of_getElem? (i := 717) (by decide +kernel)) (by decide +kernel)
theorem jm_lw6_25 : u_lay "BargainTreeModel" jm_F6 25 ∈ jm_ws := jm_in (List.mem_of_getElem? (i := 719) (by decide +kernel)) (by decide +kernel)
theorem jm_lw6_26 : u_lay "BargainTreeModel" jm_F6 26 ∈ jm_ws := jm_in (List.mem_of_getElem? (i := 721) (by decide +kernel)) (by decide +kernel)
theorem jm_lw6_27 : u_lay "BargainTreeModel" jm_F6 27 ∈ jm_ws := jm_in (List.mem_of_getElem? (i := 723) (by decide +kernel)) (by decide +kernel)
theorem jm_lw6_28 : u_lay "BargainTreeModel" jm_F6 28 ∈ jm_ws := jm_in (List.mem_of_getElem? (i := 725) (by decide +kernel)) (by decide +kernel)
theorem jm_lw6_29 : u_lay "BargainTreeModel" jm_F6 29 ∈ jm_ws := jm_in (List.mem_of_getElem? (i := 727) (by decide +kernel)) (by decide +kernel)
theorem jm_lw6_30 : u_lay "BargainTreeModel" jm_F6 30 ∈ jm_ws := jm_in (List.mem_of_getElem? (i := 729) (by decide +kernel)) (by decide +kernel)
theorem jm_lw6_31 : u_lay "BargainTreeModel" jm_F6 31 ∈ jm_ws := jm_in (List.mem_of_getElem? (i := 731) (by decide +kernel)) (by decide +kernel)
theorem jm_lw6_32 : u_lay "BargainTreeModel" jm_F6 32 ∈ jm_ws := jm_in (List.mem_of_getElem? (i := 733) (by decide +kernel)) (by decide +kernel)
theorem jm_lw6_33 : u_lay "BargainTreeModel" jm_F6 33 ∈ jm_ws := jm_in (List.mem_of_getElem? (i := 735) (by decide +kernel)) (by decide +kernel)
theorem jm_lw6_34 : u_lay "BargainTreeModel" jm_F6 34 ∈ jm_ws := jm_in (List.mem_of_getElem? (i := 737) (by decide +kernel)) (by decide +kernel)
theorem jm_lw6_35 : u_lay "BargainTreeModel" jm_F6 35 ∈ jm_ws := jm_in (List.mem_of_getElem? (i := 739) (by decide +kernel)) (by decide +kernel)
theorem jm_lw6_36 : u_lay "BargainTreeModel" jm_F6 36 ∈ jm_ws := jm_in (List.mem_of_getElem? (i := 741) (by decide +kernel)) (by decide +kernel)
theorem jm_lw6_37 : u_lay "BargainTreeModel" jm_F6 37 ∈ jm_ws := jm_in (List.mem_of_getElem? (i := 743) (by decide +kernel)) (by decide +kernel)
theorem jm_lw6_38 : u_lay "BargainTreeModel" jm_F6 38 ∈ jm_ws := jm_in (List.mem_of_getElem? (i := 745) (by decide +kernel)) (by decide +kernel)
theorem jm_lw6_39 : u_lay "BargainTreeModel" jm_F6 39 ∈ jm_ws := jm_in (List.mem_of_getElem? (i := 747) (by decide +kernel)) (by decide +kernel)
theorem jm_lw6_40 : u_lay "BargainTreeModel" jm_F6 40 ∈ jm_ws := jm_in (List.mem_of_getElem? (i := 749) (by decide +kernel)) (by decide +kernel)
theorem jm_lw6_41 : u_lay "BargainTreeModel" jm_F6 41 ∈ jm_ws := jm_in (List.mem_of_getElem? (i := 751) (by decide +kernel)) (by decide +kernel)
theorem jm_lin6 : ∀ w ∈ u_ws "BargainTreeModel" jm_F6 42, w ∈ jm_ws := by
  intro w hw
  obtain ⟨k, hk, rfl⟩ := List.mem_map.mp hw
  have hk := List.mem_range.mp hk
  match k, hk with
  | 0, _ => exact jm_lw6_0
  | 1, _ => exact jm_lw6_1
  | 2, _ => exact jm_lw6_2
  | 3, _ => exact jm_lw6_3
  | 4, _ => exact jm_lw6_4
  | 5, _ => exact jm_lw6_5
  | 6, _ => exact jm_lw6_6
  | 7, _ => exact jm_lw6_7
  | 8, _ => exact jm_lw6_8
  | 9, _ => exact jm_lw6_9
  | 10, _ => exact jm_lw6_10
  | 11, _ => exact jm_lw6_11
  | 12, _ => exact jm_lw6_12
  | 13, _ => exact jm_lw6_13
  | 14, _ => exact jm_lw6_14
  | 15, _ => exact jm_lw6_15
  | 16, _ => exact jm_lw6_16
  | 17, _ => exact jm_lw6_17
  | 18, _ => exact jm_lw6_18
  | 19, _ => exact jm_lw6_19
  | 20, _ => exact jm_lw6_20
  | 21, _ => exact jm_lw6_21
  | 22, _ => exact jm_lw6_22
  | 23, _ => exact jm_lw6_23
  | 24, _ => exact jm_lw6_24
  | 25, _ => exact jm_lw6_25
  | 26, _ => exact jm_lw6_26
  | 27, _ => exact jm_lw6_27
  | 28, _ => exact jm_lw6_28
  | 29, _ => exact jm_lw6_29
  | 30, _ => exact jm_lw6_30
  | 31, _ => exact jm_lw6_31
  | 32, _ => exact jm_lw6_32
  | 33, _ => exact jm_lw6_33
  | 34, _ => exact jm_lw6_34
  | 35, _ => exact jm_lw6_35
  | 36, _ => exact jm_lw6_36
  | 37, _ => exact jm_lw6_37
  | 38, _ => exact jm_lw6_38
  | 39, _ => exact jm_lw6_39
  | 40, _ => exact jm_lw6_40
  | 41, _ => exact jm_lw6_41
  | n + 42, hk => exact absurd hk (by omega)
theorem jm_yok6 : ∀ k, k < 42 → parseFieldDescriptor (jm_F6 k).2.2.1 = some (jm_Y6 k) := by decide +kernel
theorem jm_nok6 : ∀ a, a < 42 → ∀ b, b < 42 → a ≠ b → (jm_F6 a).2.1 ≠ (jm_F6 b).2.1 := by decide +kernel
theorem jm_vok6 : ∀ j, j < 42 → defaultValue (jm_Y6 j) = jm_V6 j := by decide +kernel
theorem jm_clok : ∀ (ci : Nat) (C : String) (T : u_T) (N : Nat), jm_cl[ci]? = some (C, T, N) → (∀ w ∈ u_ws C T N, w ∈ jm_ws) ∧ (∃ ty0 : Nat → FieldType, ∀ k, k < N → parseFieldDescriptor (T k).2.2.1 = some (ty0 k)) ∧ ∀ a, a < N → ∀ b, b < N → a ≠ b → (T a).2.1 ≠ (T b).2.1 := by
  intro ci C T N h
  match ci, h with
  | 0, h => cases h; exact ⟨jm_lin0, ⟨jm_Y0, jm_yok0⟩, jm_nok0⟩
  | 1, h => cases h; exact ⟨jm_lin1, ⟨jm_Y1, jm_yok1⟩, jm_nok1⟩
  | 2, h => cases h; exact ⟨jm_lin2, ⟨jm_Y2, jm_yok2⟩, jm_nok2⟩
  | 3, h => cases h; exact ⟨jm_lin3, ⟨jm_Y3, jm_yok3⟩, jm_nok3⟩
  | 4, h => cases h; exact ⟨jm_lin4, ⟨jm_Y4, jm_yok4⟩, jm_nok4⟩
  | 5, h => cases h; exact ⟨jm_lin5, ⟨jm_Y5, jm_yok5⟩, jm_nok5⟩
  | 6, h => cases h; exact ⟨jm_lin6, ⟨jm_Y6, jm_yok6⟩, jm_nok6⟩
def jm_ty : Nat → FieldType := fun k => match k with
  | 0 => .int
  | 1 => .boolean
  | 2 => .long
  | 3 => .object "BargainTree$Agent"
  | 4 => .object "BargainTree$Pair"
  | 5 => .object "BargainTree$Letter"
  | _ => .object "BargainTree$Child"
def jm_en : String := "BargainTree$Stage"
def jm_ed : String := "LBargainTree$Stage;"
def jm_enm : Nat → String := fun k => match k with
  | 0 => "NEW"
  | 1 => "WAITS"
  | _ => "THROUGH"
def jm_xn : Nat → String := fun k => match k with
  | 0 => "java/lang/IllegalArgumentException"
  | 1 => "java/lang/IllegalStateException"
  | _ => "java/lang/IndexOutOfBoundsException"
def jm_strs : List (String × Nat × String) := [("BargainTree", 37, "an agent has 2 to 4 values"), ("BargainTree", 48, "no more agents"), ("BargainTree", 62, "no such agent, value or cost"), ("BargainTree", 64, "started already"), ("BargainTree", 72, "no such two agents"), ("BargainTree", 81, "no such pair can be made"), ("BargainTree", 100, "no such pair, value or cost"), ("BargainTree", 109, "started already, or no agent"), ("BargainTree", 129, "no such action"), ("BargainTree", 136, "no such letter"), ("BargainTree", 142, "no room for one more letter"), ("BargainTree", 172, "no such agent"), ("BargainTree", 174, "not started"), ("BargainTree", 210, "something is still to be done")]
end
end
section
/-! THE CORE: one relation between an abstract heap and the machine's, one judgement for a frame (jm_W), one for a method (jm_M); a call of it that returns or throws. -/
section
/-- an abstract heap: the kind of the cell at an address (class number < 100, or 100 + kind of array, and its length), and the value at (tag, index, address): a field's (class number, field) or an element's (100, index) -/
abbrev jm_H : Type := (Nat → Option (Nat × Nat)) × (Nat → Nat → Nat → Value)
def jm_set (h : jm_H) (t i a : Nat) (v : Value) : jm_H := (h.1, fun t' i' a' => if t' = t ∧ i' = i ∧ a' = a then v else h.2 t' i' a')
def jm_new (h : jm_H) (a : Nat) (k : Nat × Nat) (d : Nat → Value) : jm_H := (fun a' => if a' = a then some k else h.1 a', fun t' i' a' => if a' = a then d i' else h.2 t' i' a')
/-- an outcome: what is returned, or the number of the exception's class -/
abbrev jm_O : Type := Option Value ⊕ Nat
/-- what an invocation leaves: warmer tables; nothing moved but L and at most k new cells of n slots -/
def jm_End (st t : State) (L : List Loc) (k n : Nat) : Prop := st.WarmedH t.vm ∧ st.sameButNew ({ t with vm := st.vm } : State) L k n
end
section
variable {p : Program} {l : Launch} {e : Env} {R : Room} {s : State} {m : MethodId} {args : Array Value} {below : List Frame} {meth : Method} {c : Code} {U : State} {locs : List Loc} {cells slots : Nat}
/-- a callee, from the point where it is invoked: it returns or throws, and the walk stands again -/
theorem jm_back (X : Stand p l e R s m args below meth c U locs cells slots) {y : MethodName} {ws : List Cond} {rm : Room} {P : Array Value → State → Prop} {Qx : Array Value → State → Outcome → State → Prop} {free : Addr → Prop} {mk : MethodId} {a : Array Value} {g : JFrame} {ig : Instr} {len : Nat}
    (hM : MetFree l y (headSpec ws rm) P (fun _ _ _ _ _ => True) Qx)
    (hend : ∀ st o t, Qx a st o t → ∃ L, jm_End st t L rm.cells rm.slots ∧ ∀ q ∈ L, free q.base)
    (hg : g.method = m) (hsize : g.locals.size = c.maxLocals) (hdg : decode c.code g.pc = .ok (ig, len)) (hW : 2 * g.monitorRoom + (g.stack.map fun v => v.category).sum ≤ 8)
    (hn : U.methodNamed? y = some mk) {methY : Method} {cY : Code} (hmY : U.vm.method? mk = some methY) (hcY : methY.code = some cY)
    (hframes : rm.frames + 1 ≤ R.frames) (hlocals : 8 + (cY.maxLocals + 11) + rm.locals ≤ R.locals) (hcells : cells + rm.cells ≤ R.cells) (hslots : slots + rm.slots ≤ R.slots)
    (hws : ∀ w ∈ ws, w.before a U = true) (hini : (Cond.initialized y.cls).before a U = true) (hP : P a (U.calling g mk a)) :
    ∃ (o : Outcome) (t T' : State) (L : List Loc), Stand p l e R s m args below meth c T' (locs ++ L) (cells + rm.cells) (slots + rm.slots) ∧ (∀ q ∈ L, free q.base) ∧ T'.heap = t.heap ∧ T'.vm = t.vm ∧ Qx a (U.calling g mk a) o t ∧
      match o with
      | .returned v => Steps p.tables e below (doInvoke e (U.setTop g) [] mk a).1 (T'.setTop { g with pc := g.pc + len, stack := v.toList ++ g.stack })
      | .threw x => Steps p.tables e below (doInvoke e (U.setTop g) [] mk a).1 ((T'.setTop g).pushFrame (.throwing x)) := by
  obtain ⟨kY, hkY, -⟩ := className_of_methodNamed hn
  have hinitY : kY.init = .initialized := Cond.initialized_spec (findClass_of_methodNamed hn) hkY hini
  have h : At U g.method c below := by rw [hg]; exact X.here
  have happ : (headSpec ws rm).appliesLoose y e.platform (U.calling g mk a) = true :=
    Spec.appliesLoose_calling (g := g) h hdg hn hkY hinitY
      (X.room_calling (g := g) (R' := rm) hsize hmY hcY hframes (by omega) hcells hslots) (atoms_intro hws)
  obtain ⟨mid, hmid⟩ := h.above
  have hfr : (U.setTop g).frames = (.java g :: mid) ++ below := by rw [State.frames_setTop' g h.top, hmid]; rfl
  obtain ⟨o, s₂, hsteps, -, hE, hq⟩ := Steps.callFree hM p X.admits X.cas X.clock (acts := []) hfr happ hP trivial
  have hq' : Qx a (U.calling g mk a) o s₂ := hq
  obtain ⟨L, ⟨hW₂, hsame⟩, hL⟩ := hend _ _ _ hq'
  rw [State.frames_setTop' g h.top, X.tail] at hE
  cases o with
  | threw x =>
    obtain ⟨T', X', -, -, ht⟩ := X.outOfThrown hg hE hW₂ hsame
    refine ⟨.threw x, s₂, T', L, X', hL, ?_, ?_, hq', ?_⟩
    · rw [ht, Stand.throwing_heap]
    · rw [ht, Stand.throwing_vm]
    · show Steps _ _ _ _ _
      rw [← ht]
      exact hsteps
  | returned v =>
    obtain ⟨e2, q2, q3, q4, q5, q6⟩ := hsame
    have e3 : s₂ = ({ (U.calling g mk a).setFrames s₂.frames with heap := s₂.heap, slotsUsed := s₂.slotsUsed } : State).setVm s₂.vm := by
      have : s₂ = ({ s₂ with vm := (U.calling g mk a).vm } : State).setVm s₂.vm := rfl
      rw [e2] at this
      exact this
    obtain ⟨c₂, i₂, len₂, hc₂, hd₂, hf₂⟩ := hE
    have hW' : U.WarmedH s₂.vm := hW₂
    have hcc : c₂ = c := by
      have h1 : s₂.code? g.method = U.code? g.method := by
        rw [State.code?_eq, State.code?_eq, hW'.alike.method?]
      exact Option.some.inj (hc₂.symm.trans (h1.trans h.code))
    subst hcc
    have hlen : len₂ = len := by rw [hdg] at hd₂; cases hd₂; rfl
    subst hlen
    obtain ⟨g₀, hr⟩ := X.frames_eq
    have hs₂ : s₂ = (({ U with heap := s₂.heap, slotsUsed := s₂.slotsUsed } : State).setVm s₂.vm).setTop { g with pc := g.pc + len₂, stack := v.toList ++ g.stack } := by
      have hr' : (({ U with heap := s₂.heap, slotsUsed := s₂.slotsUsed } : State).setVm s₂.vm).frames = .java g₀ :: below := hr
      refine e3.trans ?_
      rw [hf₂, State.calling_eq h.top, State.setFrames_setFrames, State.setTop_of_frames _ hr']
      rfl
    have hsame' : U.sameButNew ({ U with heap := s₂.heap, slotsUsed := s₂.slotsUsed } : State) L rm.cells rm.slots := by
      refine ⟨?_, q2, q3, q4, q5, q6⟩
      obtain ⟨t, ht, -⟩ := State.frames_cons hr
      show ({ U with heap := s₂.heap, slotsUsed := s₂.slotsUsed } : State) = { U.setFrames U.frames with heap := s₂.heap, slotsUsed := s₂.slotsUsed }
      rw [State.setFrames_self ht]
    subst hg
    refine ⟨.returned v, s₂, ({ U with heap := s₂.heap, slotsUsed := s₂.slotsUsed } : State).setVm s₂.vm, L,
      ⟨X.admits, X.cas, X.clock, X.frames, X.room, X.hears, X.method, X.code, (X.here.setHeapUsed s₂.heap s₂.slotsUsed).setVm hW'.alike, X.tail, State.WarmedH.trans X.warmed hW', X.limits, X.bytes, X.same.trans (hsame'.setVm s.vm)⟩, hL, rfl, rfl, hq', ?_⟩
    show Steps p.tables e below _ ((({ U with heap := s₂.heap, slotsUsed := s₂.slotsUsed } : State).setVm s₂.vm).setTop { g with pc := g.pc + len₂, stack := v.toList ++ g.stack })
    rw [← hs₂]
    exact hsteps
end
section
/-- the fixed things: the launch, the heap's size and the heap at the law's entry, the numbers of our classes, the slots of their fields, the numbers of the array classes, the addresses of the constants of Stage -/
abbrev jm_G : Type := Launch × Nat × Heap × (Nat → ClassId) × (Nat → Nat → Nat) × (Nat → ClassId) × (Nat → Nat)
abbrev jm_l (Γ : jm_G) : Launch := Γ.1
abbrev jm_b (Γ : jm_G) : Nat := Γ.2.1
abbrev jm_h0 (Γ : jm_G) : Heap := Γ.2.2.1
abbrev jm_dC (Γ : jm_G) : Nat → ClassId := Γ.2.2.2.1
abbrev jm_dI (Γ : jm_G) : Nat → Nat → Nat := Γ.2.2.2.2.1
abbrev jm_dA (Γ : jm_G) : Nat → ClassId := Γ.2.2.2.2.2.1
abbrev jm_eA (Γ : jm_G) : Nat → Nat := Γ.2.2.2.2.2.2
abbrev jm_D (Γ : jm_G) : va_G := (jm_dC Γ, jm_dI Γ)
/-- a method: its name, bytes, locals, result, handlers -/
abbrev jm_Mt : Type := MethodName × ByteArray × Nat × Option FieldType × List (Nat × Nat × Nat × Nat)
def jm_cw (μ : jm_Mt) : Cond := if μ.2.2.2.2 = [] then .code μ.1 μ.2.1 μ.2.2.1 μ.2.2.2.1 else .codeWith μ.1 μ.2.1 μ.2.2.1 μ.2.2.2.1 μ.2.2.2.2
def jm_tys (Γ : jm_G) : List (ClassId × FieldType) := (List.range 7).map (fun k => (jm_dA Γ k, jm_ty k))
/-- a static field is laid, below b -/
def jm_LS (C n d : String) (b : Nat) (U : State) (H : Heap) : Prop := ∃ (c : ClassId) (k : Class) (i : Nat) (f : Field) (a : Nat) (cell : Cell), U.vm.findClass C = some c ∧ U.fieldFound? C n d = some (c, k, i, f) ∧ f.isStatic = true ∧ k.statics = some a ∧ H[a]? = some cell ∧ cell.vm.isStatics = true ∧ cell.cls = c ∧ f.slot < cell.slots.size ∧ k.staticTypes[f.slot]? = some f.type ∧ a < b
theorem jm_LS.moved {C n d : String} {b : Nat} {u U : State} {H : Heap} (hvm : u.vm.Alike U.vm) (h : jm_LS C n d b u H) : jm_LS C n d b U H := by
  obtain ⟨c, k, i, f, a, cell, h1, h2, h3, h4, h5, h6, h7, h8, h9, h10⟩ := h
  obtain ⟨k', hi', he⟩ := State.fieldFound?_setVm hvm h2
  exact ⟨c, k', i, f, a, cell, by rw [hvm.findClass]; exact h1, hi', h3, by rw [he]; exact h4, h5, h6, h7, h8, by rw [he]; exact h9, h10⟩
theorem jm_LS.word {C n d : String} {b : Nat} {s : State} {H : Heap} {args : Array Value} (h : jm_LS C n d b s H) (hs : ∀ a, a < b → s.heap[a]? = H[a]?) : (Cond.laysStatic C n d).before args s = true := by
  obtain ⟨c, k, i, f, a, cell, h1, h2, h3, h4, h5, h6, h7, h8, h9, h10⟩ := h
  show (Cond.laysStatic C n d).holds args s none s [] = true
  exact Cond.laysStatic_of h1 h2 h3 h4 (by rw [hs a h10]; exact h5) h6 h7 h8 h9
/-- what the tables and the old heap say at every state of the run -/
def jm_C (Γ : jm_G) (U : State) : Prop :=
  va_K (jm_D Γ) jm_cl (jm_tys Γ) U ∧ (∀ i, i < 3 → va_Z jm_en (jm_enm i) jm_ed (.ref (jm_eA Γ i)) (fun q => jm_b Γ ≤ q) U (jm_h0 Γ)) ∧
  (∀ q ∈ jm_strs, ∃ a, vk_R q.1 q.2.1 q.2.2 a U) ∧ va_Zq Bundle.tN "UNASSIGNED_STACK" Bundle.steD (fun q => jm_b Γ ≤ q) U (jm_h0 Γ) ∧ va_Zq Bundle.tN "SUPPRESSED_SENTINEL" Bundle.listD (fun q => jm_b Γ ≤ q) U (jm_h0 Γ) ∧ (∀ X Y, X < 3 → Y < 3 → X ≠ Y → va_Nc (jm_xn X) (jm_xn Y) U) ∧ jm_LS Bundle.tN "UNASSIGNED_STACK" Bundle.steD (jm_b Γ) U (jm_h0 Γ) ∧ jm_LS Bundle.tN "SUPPRESSED_SENTINEL" Bundle.listD (jm_b Γ) U (jm_h0 Γ) ∧ (jm_l Γ).flags = pinnedFlags ++ [noTraceFlag]
def jm_R (Γ : jm_G) (U : State) (h : jm_H) (H : Heap) : Prop :=
  jm_b Γ ≤ H.size ∧ (∀ a, a < jm_b Γ → H[a]? = (jm_h0 Γ)[a]?) ∧ (∀ (a : Nat) (cell : Cell), jm_b Γ ≤ a → H[a]? = some cell → cell.vm.isStatics = false) ∧
  ∀ a k n, h.1 a = some (k, n) →
    (k < 100 → jm_b Γ ≤ a ∧ ∃ r : vw_C, jm_cl[k]? = some r ∧ t_OB a (jm_dC Γ k) r.2.2 (jm_dI Γ k) H (fun j => h.2 k j a)) ∧
    (100 ≤ k → k < 150 → jm_b Γ ≤ a ∧ n < 2 ^ 31 ∧ H[a]? = some (arrV (jm_dA Γ (k - 100)) n (fun i => h.2 100 i a))) ∧
    (150 ≤ k → n < 2 ^ 31 ∧ ∃ xs : Nat → Int32, va_X a n xs U H ∧ ∀ i, i < n → h.2 100 i a = .int (xs i))
def jm_OR (oc : jm_O) (o : Outcome) (t : State) : Prop := match oc with
  | .inl v => o = .returned v
  | .inr X => ∃ (a : Addr) (ce : Cell), o = .threw a ∧ t.heap[a]? = some ce ∧ ce.vm = .none ∧ t.vm.findClass (jm_xn X) = some ce.cls
def jm_Q (Γ : jm_G) (mc ms : Nat) (Q : jm_O → jm_H → Prop) (s : State) (o : Outcome) (t : State) : Prop :=
  (∃ (oc : jm_O) (h' : jm_H), Q oc h' ∧ jm_OR oc o t ∧ jm_R Γ t h' t.heap) ∧ ∃ L, jm_End s t L mc ms ∧ ∀ q ∈ L, jm_b Γ ≤ q.base
def jm_Z (Γ : jm_G) (mc ms : Nat) (Q : jm_O → jm_H → Prop) (s : State) (below : List Frame) : State → Prop := fun t =>
  ∃ o, t.status = .running ∧ Ended t below o ∧ jm_Q Γ mc ms Q s o t
def jm_rm (d mc ms : Nat) : Room := { frames := d, cells := mc, slots := ms, locals := 36 * d }
/-- a method's contract -/
def jm_M (Γ : jm_G) (μ : jm_Mt) (d : Nat) (av : List Value) (h : jm_H) (mc ms : Nat) (Q : jm_O → jm_H → Prop) : Prop :=
  MetFree (jm_l Γ) μ.1 (headSpec (jm_cw μ :: jm_ws) (jm_rm d mc ms)) (fun a U => a = av.toArray ∧ jm_C Γ U ∧ jm_R Γ U h U.heap) (fun _ _ _ _ _ => True) (fun _ s o t => jm_Q Γ mc ms Q s o t)
/-- the locals -/
def jm_L (ls : List (Option Value)) (arr : Array Slot) : Prop := arr.size = ls.length ∧ lv_wf arr ∧ ∀ (i : Nat) (v : Value), ls[i]? = some (some v) → arr[i]? = some (Slot.val v) ∧ v.category = 1
/-- what stays fixed while a frame of the method stands -/
def jm_E (Γ : jm_G) (μ : jm_Mt) (d : Nat) (p : Program) (R : Room) (s : State) (m : MethodId) (args : Array Value) (meth : Method) (c : Code) : Prop :=
  p.tables.exec = Jvm.exec ∧ c.code = μ.2.1 ∧ meth.sig.returnType = μ.2.2.2.1 ∧ c.maxLocals = μ.2.2.1 ∧ s.vm.findClass μ.1.cls = some m.cls ∧ (∀ w ∈ jm_ws, w.before args s = true) ∧ jm_C Γ s ∧ meth.locks = false ∧
  meth.name = μ.1.name ∧ c.exceptionTable.toList = tableOf μ.2.2.2.2 ∧ d ≤ R.frames ∧ 36 * d ≤ R.locals ∧ jm_b Γ ≤ s.heap.size ∧ (∀ a, a < jm_b Γ → s.heap[a]? = (jm_h0 Γ)[a]?) ∧ (∀ (a : Nat) (cell : Cell), jm_b Γ ≤ a → s.heap[a]? = some cell → cell.vm.isStatics = false)
/-- a frame of the method at pc, with these locals and this stack, over the heap h, with room for rc cells of rs slots: it comes to an end with Q -/
def jm_W (Γ : jm_G) (μ : jm_Mt) (d rc rs : Nat) (Q : jm_O → jm_H → Prop) (pc : Nat) (ls : List (Option Value)) (st : List Value) (h : jm_H) : Prop :=
  ∀ (p : Program) (e : Env) (R : Room) (s : State) (m : MethodId) (args : Array Value) (below : List Frame) (meth : Method) (c : Code) (H : Heap) (locs : List Loc) (cells slots : Nat) (arr : Array Slot),
    jm_E Γ μ d p R s m args meth c → jm_R Γ s h H → (∀ q ∈ locs, jm_b Γ ≤ q.base) → cells + rc ≤ R.cells → slots + rs ≤ R.slots → jm_L ls arr → ls.length = μ.2.2.1 →
    W p (jm_l Γ) e R s m args below meth c H locs cells slots (jm_Z Γ R.cells R.slots Q s below) (F0 m pc arr st)
theorem jm_mono {p : Program} {l : Launch} {e : Env} {R : Room} {s : State} {m : MethodId} {args : Array Value} {below : List Frame} {meth : Method} {c : Code} {H : Heap} {locs : List Loc} {cells slots : Nat} {Q Q' : State → Prop} {g : JFrame}
    (h : ∀ t, Q t → Q' t) (k : W p l e R s m args below meth c H locs cells slots Q g) : W p l e R s m args below meth c H locs cells slots Q' g := by
  intro T hT X
  obtain ⟨t, a, b⟩ := k T hT X
  exact ⟨t, a, h t b⟩
theorem jm_R.moved {Γ : jm_G} {u U : State} {h : jm_H} {H : Heap} (hvm : u.vm.Alike U.vm) (hR : jm_R Γ u h H) : jm_R Γ U h H := by
  obtain ⟨h1, h2, h9, h3⟩ := hR
  refine ⟨h1, h2, h9, fun a k n hk => ?_⟩
  obtain ⟨q1, q2, q3⟩ := h3 a k n hk
  refine ⟨q1, q2, fun hk' => ?_⟩
  obtain ⟨r1, xs, r2, r3⟩ := q3 hk'
  exact ⟨r1, xs, r2.moved hvm, r3⟩
theorem jm_Nc.moved {u U : State} {C T : String} (hvm : u.vm.Alike U.vm) (h : va_Nc C T u) : va_Nc C T U := by
  obtain ⟨c, t, h1, h2, h3⟩ := h
  exact ⟨c, t, by rw [hvm.findClass]; exact h1, by rw [hvm.findClass]; exact h2, by rw [hvm.assignable]; exact h3⟩
theorem jm_C.warm {Γ : jm_G} {u U : State} (hW : u.WarmedH U.vm) (hC : jm_C Γ u) : jm_C Γ U := by
  obtain ⟨h1, h2, h3, h4, h5, h7, h8, h9, h6⟩ := hC
  refine ⟨h1.moved hW.alike, fun i hi => (h2 i hi).moved hW.alike, fun q hq => ?_, ?_, ?_, fun X Y hX hY hn => jm_Nc.moved hW.alike (h7 X Y hX hY hn), h8.moved hW.alike, h9.moved hW.alike, h6⟩
  · obtain ⟨a, ha⟩ := h3 q hq
    exact ⟨a, ha.warm hW⟩
  · rcases h4 with h | ⟨t, h⟩
    · exact Or.inl (h.moved hW.alike)
    · exact Or.inr ⟨t, h.moved hW.alike⟩
  · rcases h5 with h | ⟨t, h⟩
    · exact Or.inl (h.moved hW.alike)
    · exact Or.inr ⟨t, h.moved hW.alike⟩
end
end
section
/-! ROWS of single instructions over jm_W. Written by wip/whole/gen/rows.py -/
section
variable {Γ : jm_G} {μ : jm_Mt} {d rc rs : Nat} {Q : jm_O → jm_H → Prop} {pc : Nat} {ls : List (Option Value)} {st : List Value} {h : jm_H}
theorem jm_iconst {n : Int} (hd : decode μ.2.1 pc = .ok (.iconst n, 1)) (k : jm_W Γ μ d rc rs Q (pc + 1) ls (.int (Int32.ofInt n) :: st) h) : jm_W Γ μ d rc rs Q pc ls (st) h := by
  intro p e R s m args below meth c H locs cells slots arr E hR hlo hc hs hl hn
  exact lv_iconst E.1 E.2.1 hd rfl (k p e R s m args below meth c H locs cells slots arr E hR hlo hc hs hl hn)
theorem jm_bipush {n : Int} (hd : decode μ.2.1 pc = .ok (.bipush n, 2)) (k : jm_W Γ μ d rc rs Q (pc + 2) ls (.int (Int8.ofInt n).toInt32 :: st) h) : jm_W Γ μ d rc rs Q pc ls (st) h := by
  intro p e R s m args below meth c H locs cells slots arr E hR hlo hc hs hl hn
  exact lv_bipush E.1 E.2.1 hd rfl (k p e R s m args below meth c H locs cells slots arr E hR hlo hc hs hl hn)
theorem jm_sipush {n : Int} (hd : decode μ.2.1 pc = .ok (.sipush n, 3)) (k : jm_W Γ μ d rc rs Q (pc + 3) ls (.int (Int16.ofInt n).toInt32 :: st) h) : jm_W Γ μ d rc rs Q pc ls (st) h := by
  intro p e R s m args below meth c H locs cells slots arr E hR hlo hc hs hl hn
  exact lv_sipush E.1 E.2.1 hd rfl (k p e R s m args below meth c H locs cells slots arr E hR hlo hc hs hl hn)
theorem jm_null  (hd : decode μ.2.1 pc = .ok (.aconst_null, 1)) (k : jm_W Γ μ d rc rs Q (pc + 1) ls (.null :: st) h) : jm_W Γ μ d rc rs Q pc ls (st) h := by
  intro p e R s m args below meth c H locs cells slots arr E hR hlo hc hs hl hn
  exact lv_null E.1 E.2.1 hd (k p e R s m args below meth c H locs cells slots arr E hR hlo hc hs hl hn)
theorem jm_iadd {x y : Int32} (hd : decode μ.2.1 pc = .ok (.iadd, 1)) (k : jm_W Γ μ d rc rs Q (pc + 1) ls (.int (x + y) :: st) h) : jm_W Γ μ d rc rs Q pc ls (.int y :: .int x :: st) h := by
  intro p e R s m args below meth c H locs cells slots arr E hR hlo hc hs hl hn
  exact lv_iadd E.1 E.2.1 hd (k p e R s m args below meth c H locs cells slots arr E hR hlo hc hs hl hn)
theorem jm_isub {x y : Int32} (hd : decode μ.2.1 pc = .ok (.isub, 1)) (k : jm_W Γ μ d rc rs Q (pc + 1) ls (.int (x - y) :: st) h) : jm_W Γ μ d rc rs Q pc ls (.int y :: .int x :: st) h := by
  intro p e R s m args below meth c H locs cells slots arr E hR hlo hc hs hl hn
  exact lv_isub E.1 E.2.1 hd (k p e R s m args below meth c H locs cells slots arr E hR hlo hc hs hl hn)
theorem jm_imul {x y : Int32} (hd : decode μ.2.1 pc = .ok (.imul, 1)) (k : jm_W Γ μ d rc rs Q (pc + 1) ls (.int (x * y) :: st) h) : jm_W Γ μ d rc rs Q pc ls (.int y :: .int x :: st) h := by
  intro p e R s m args below meth c H locs cells slots arr E hR hlo hc hs hl hn
  exact lv_imul E.1 E.2.1 hd (k p e R s m args below meth c H locs cells slots arr E hR hlo hc hs hl hn)
theorem jm_iand {x y : Int32} (hd : decode μ.2.1 pc = .ok (.iand, 1)) (k : jm_W Γ μ d rc rs Q (pc + 1) ls (.int (x &&& y) :: st) h) : jm_W Γ μ d rc rs Q pc ls (.int y :: .int x :: st) h := by
  intro p e R s m args below meth c H locs cells slots arr E hR hlo hc hs hl hn
  exact lv_iand E.1 E.2.1 hd (k p e R s m args below meth c H locs cells slots arr E hR hlo hc hs hl hn)
theorem jm_ior {x y : Int32} (hd : decode μ.2.1 pc = .ok (.ior, 1)) (k : jm_W Γ μ d rc rs Q (pc + 1) ls (.int (x ||| y) :: st) h) : jm_W Γ μ d rc rs Q pc ls (.int y :: .int x :: st) h := by
  intro p e R s m args below meth c H locs cells slots arr E hR hlo hc hs hl hn
  exact lv_ior E.1 E.2.1 hd (k p e R s m args below meth c H locs cells slots arr E hR hlo hc hs hl hn)
theorem jm_ixor {x y : Int32} (hd : decode μ.2.1 pc = .ok (.ixor, 1)) (k : jm_W Γ μ d rc rs Q (pc + 1) ls (.int (x ^^^ y) :: st) h) : jm_W Γ μ d rc rs Q pc ls (.int y :: .int x :: st) h := by
  intro p e R s m args below meth c H locs cells slots arr E hR hlo hc hs hl hn
  exact lv_ixor E.1 E.2.1 hd (k p e R s m args below meth c H locs cells slots arr E hR hlo hc hs hl hn)
theorem jm_idiv {x y : Int32} (hd : decode μ.2.1 pc = .ok (.idiv, 1)) (hne : ¬ y = 0) (k : jm_W Γ μ d rc rs Q (pc + 1) ls (.int (x / y) :: st) h) : jm_W Γ μ d rc rs Q pc ls (.int y :: .int x :: st) h := by
  intro p e R s m args below meth c H locs cells slots arr E hR hlo hc hs hl hn
  exact lv_idiv E.1 E.2.1 hd hne (k p e R s m args below meth c H locs cells slots arr E hR hlo hc hs hl hn)
theorem jm_irem {x y : Int32} (hd : decode μ.2.1 pc = .ok (.irem, 1)) (hne : ¬ y = 0) (k : jm_W Γ μ d rc rs Q (pc + 1) ls (.int (x - x / y * y) :: st) h) : jm_W Γ μ d rc rs Q pc ls (.int y :: .int x :: st) h := by
  intro p e R s m args below meth c H locs cells slots arr E hR hlo hc hs hl hn
  exact lv_irem E.1 E.2.1 hd hne (k p e R s m args below meth c H locs cells slots arr E hR hlo hc hs hl hn)
theorem jm_ineg {x : Int32} (hd : decode μ.2.1 pc = .ok (.ineg, 1)) (k : jm_W Γ μ d rc rs Q (pc + 1) ls (.int (-x) :: st) h) : jm_W Γ μ d rc rs Q pc ls (.int x :: st) h := by
  intro p e R s m args below meth c H locs cells slots arr E hR hlo hc hs hl hn
  exact lv_ineg E.1 E.2.1 hd (k p e R s m args below meth c H locs cells slots arr E hR hlo hc hs hl hn)
theorem jm_ishl {x y : Int32} (hd : decode μ.2.1 pc = .ok (.ishl, 1)) (k : jm_W Γ μ d rc rs Q (pc + 1) ls (.int (x <<< (y &&& 31)) :: st) h) : jm_W Γ μ d rc rs Q pc ls (.int y :: .int x :: st) h := by
  intro p e R s m args below meth c H locs cells slots arr E hR hlo hc hs hl hn
  exact lv_ishl E.1 E.2.1 hd (k p e R s m args below meth c H locs cells slots arr E hR hlo hc hs hl hn)
theorem jm_ishr {x y : Int32} (hd : decode μ.2.1 pc = .ok (.ishr, 1)) (k : jm_W Γ μ d rc rs Q (pc + 1) ls (.int (x >>> (y &&& 31)) :: st) h) : jm_W Γ μ d rc rs Q pc ls (.int y :: .int x :: st) h := by
  intro p e R s m args below meth c H locs cells slots arr E hR hlo hc hs hl hn
  exact lv_ishr E.1 E.2.1 hd (k p e R s m args below meth c H locs cells slots arr E hR hlo hc hs hl hn)
theorem jm_iushr {x y : Int32} (hd : decode μ.2.1 pc = .ok (.iushr, 1)) (k : jm_W Γ μ d rc rs Q (pc + 1) ls (.int (x.toUInt32 >>> (y.toUInt32 &&& Int32.toUInt32 31)).toInt32 :: st) h) : jm_W Γ μ d rc rs Q pc ls (.int y :: .int x :: st) h := by
  intro p e R s m args below meth c H locs cells slots arr E hR hlo hc hs hl hn
  exact lv_iushr E.1 E.2.1 hd rfl (k p e R s m args below meth c H locs cells slots arr E hR hlo hc hs hl hn)
theorem jm_i2l {x : Int32} (hd : decode μ.2.1 pc = .ok (.i2l, 1)) (k : jm_W Γ μ d rc rs Q (pc + 1) ls (.long x.toInt64 :: st) h) : jm_W Γ μ d rc rs Q pc ls (.int x :: st) h := by
  intro p e R s m args below meth c H locs cells slots arr E hR hlo hc hs hl hn
  exact lv_i2l E.1 E.2.1 hd rfl (k p e R s m args below meth c H locs cells slots arr E hR hlo hc hs hl hn)
theorem jm_lcmp {x y : Int64} (hd : decode μ.2.1 pc = .ok (.lcmp, 1)) (k : jm_W Γ μ d rc rs Q (pc + 1) ls (.int (lg_cmp x y) :: st) h) : jm_W Γ μ d rc rs Q pc ls (.long y :: .long x :: st) h := by
  intro p e R s m args below meth c H locs cells slots arr E hR hlo hc hs hl hn
  exact W.lcmp E.1 E.2.1 hd (k p e R s m args below meth c H locs cells slots arr E hR hlo hc hs hl hn)
theorem jm_dup {v : Value} (hd : decode μ.2.1 pc = .ok (.dup, 1)) (hv : v.category = 1) (k : jm_W Γ μ d rc rs Q (pc + 1) ls (v :: v :: st) h) : jm_W Γ μ d rc rs Q pc ls (v :: st) h := by
  intro p e R s m args below meth c H locs cells slots arr E hR hlo hc hs hl hn
  exact lv_dup E.1 E.2.1 hd hv (k p e R s m args below meth c H locs cells slots arr E hR hlo hc hs hl hn)
theorem jm_pop {v : Value} (hd : decode μ.2.1 pc = .ok (.pop, 1)) (hv : v.category = 1) (k : jm_W Γ μ d rc rs Q (pc + 1) ls (st) h) : jm_W Γ μ d rc rs Q pc ls (v :: st) h := by
  intro p e R s m args below meth c H locs cells slots arr E hR hlo hc hs hl hn
  exact lv_pop E.1 E.2.1 hd hv (k p e R s m args below meth c H locs cells slots arr E hR hlo hc hs hl hn)
theorem jm_dup_x1 {v u : Value} (hd : decode μ.2.1 pc = .ok (.dup_x1, 1)) (hv : v.category = 1) (hu : u.category = 1) (k : jm_W Γ μ d rc rs Q (pc + 1) ls (v :: u :: v :: st) h) : jm_W Γ μ d rc rs Q pc ls (v :: u :: st) h := by
  intro p e R s m args below meth c H locs cells slots arr E hR hlo hc hs hl hn
  exact lv_dup_x1 E.1 E.2.1 hd hv hu (k p e R s m args below meth c H locs cells slots arr E hR hlo hc hs hl hn)
theorem jm_dup_x2 {v u x : Value} (hd : decode μ.2.1 pc = .ok (.dup_x2, 1)) (hv : v.category = 1) (hu : u.category = 1) (hx : x.category = 1) (k : jm_W Γ μ d rc rs Q (pc + 1) ls (v :: u :: x :: v :: st) h) : jm_W Γ μ d rc rs Q pc ls (v :: u :: x :: st) h := by
  intro p e R s m args below meth c H locs cells slots arr E hR hlo hc hs hl hn
  exact lv_dup_x2 E.1 E.2.1 hd hv hu hx (k p e R s m args below meth c H locs cells slots arr E hR hlo hc hs hl hn)
theorem jm_dup2 {v u : Value} (hd : decode μ.2.1 pc = .ok (.dup2, 1)) (hv : v.category = 1) (hu : u.category = 1) (k : jm_W Γ μ d rc rs Q (pc + 1) ls (v :: u :: v :: u :: st) h) : jm_W Γ μ d rc rs Q pc ls (v :: u :: st) h := by
  intro p e R s m args below meth c H locs cells slots arr E hR hlo hc hs hl hn
  exact lv_dup2_11 E.1 E.2.1 hd hv hu (k p e R s m args below meth c H locs cells slots arr E hR hlo hc hs hl hn)
theorem jm_iload_n {i : Fin 4} {x : Int32} (hd : decode μ.2.1 pc = .ok (.iload_n i, 1)) (hx : ls[i.val]? = some (some (.int x))) (k : jm_W Γ μ d rc rs Q (pc + 1) ls (.int x :: st) h) : jm_W Γ μ d rc rs Q pc ls (st) h := by
  intro p e R s m args below meth c H locs cells slots arr E hR hlo hc hs hl hn
  exact lv_iload_n E.1 E.2.1 hd rfl (hl.2.2 _ _ hx).1 (k p e R s m args below meth c H locs cells slots arr E hR hlo hc hs hl hn)
theorem jm_iload {i : Nat} {x : Int32} (hd : decode μ.2.1 pc = .ok (.iload i, 2)) (hx : ls[i]? = some (some (.int x))) (k : jm_W Γ μ d rc rs Q (pc + 2) ls (.int x :: st) h) : jm_W Γ μ d rc rs Q pc ls (st) h := by
  intro p e R s m args below meth c H locs cells slots arr E hR hlo hc hs hl hn
  exact lv_iload E.1 E.2.1 hd (hl.2.2 _ _ hx).1 (k p e R s m args below meth c H locs cells slots arr E hR hlo hc hs hl hn)
theorem jm_aload_n {i : Fin 4} {x : Nat} (hd : decode μ.2.1 pc = .ok (.aload_n i, 1)) (hx : ls[i.val]? = some (some (.ref x))) (k : jm_W Γ μ d rc rs Q (pc + 1) ls (.ref x :: st) h) : jm_W Γ μ d rc rs Q pc ls (st) h := by
  intro p e R s m args below meth c H locs cells slots arr E hR hlo hc hs hl hn
  exact lv_aload_n E.1 E.2.1 hd rfl (hl.2.2 _ _ hx).1 (k p e R s m args below meth c H locs cells slots arr E hR hlo hc hs hl hn)
theorem jm_aload {i : Nat} {x : Nat} (hd : decode μ.2.1 pc = .ok (.aload i, 2)) (hx : ls[i]? = some (some (.ref x))) (k : jm_W Γ μ d rc rs Q (pc + 2) ls (.ref x :: st) h) : jm_W Γ μ d rc rs Q pc ls (st) h := by
  intro p e R s m args below meth c H locs cells slots arr E hR hlo hc hs hl hn
  exact lv_aload E.1 E.2.1 hd (hl.2.2 _ _ hx).1 (k p e R s m args below meth c H locs cells slots arr E hR hlo hc hs hl hn)
theorem jm_aload_nN {i : Fin 4} (hd : decode μ.2.1 pc = .ok (.aload_n i, 1)) (hx : ls[i.val]? = some (some .null)) (k : jm_W Γ μ d rc rs Q (pc + 1) ls (.null :: st) h) : jm_W Γ μ d rc rs Q pc ls (st) h := by
  intro p e R s m args below meth c H locs cells slots arr E hR hlo hc hs hl hn
  exact lv_aload_nN E.1 E.2.1 hd rfl (hl.2.2 _ _ hx).1 (k p e R s m args below meth c H locs cells slots arr E hR hlo hc hs hl hn)
theorem jm_aloadN {i : Nat} (hd : decode μ.2.1 pc = .ok (.aload i, 2)) (hx : ls[i]? = some (some .null)) (k : jm_W Γ μ d rc rs Q (pc + 2) ls (.null :: st) h) : jm_W Γ μ d rc rs Q pc ls (st) h := by
  intro p e R s m args below meth c H locs cells slots arr E hR hlo hc hs hl hn
  exact lv_aloadN E.1 E.2.1 hd (hl.2.2 _ _ hx).1 (k p e R s m args below meth c H locs cells slots arr E hR hlo hc hs hl hn)
def jm_pr (ls : List (Option Value)) : List (Nat × Value) := (List.range ls.length).filterMap (fun i => (ls[i]?).bind (fun o => o.map (fun v => (i, v))))
theorem jm_pr_mem {ls : List (Option Value)} {i : Nat} {v : Value} : (i, v) ∈ jm_pr ls ↔ ls[i]? = some (some v) := by
  unfold jm_pr
  rw [List.mem_filterMap]
  constructor
  · rintro ⟨j, -, hj⟩
    cases hq : ls[j]? with
    | none => rw [hq] at hj; cases hj
    | some o =>
      rw [hq] at hj
      cases o with
      | none => cases hj
      | some w =>
        cases hj
        exact hq
  · intro hq
    exact ⟨i, List.mem_range.mpr (List.getElem?_eq_some_iff.mp hq).1, by rw [hq]; rfl⟩
theorem jm_has {ls : List (Option Value)} {arr : Array Slot} (hl : jm_L ls arr) : lv_has arr ls.length (jm_pr ls) :=
  ⟨hl.1, hl.2.1, fun q hq => (hl.2.2 q.1 q.2 (jm_pr_mem.mp hq)).1⟩
theorem jm_stored {ls : List (Option Value)} {arr arr' : Array Slot} {i : Nat} {v : Value} (hl : jm_L ls arr) (hv : v.category = 1)
    (hh : lv_has arr' ls.length ((i, v) :: (jm_pr ls).filter (fun q => !(q.1 == i) && !(q.1 + 1 == i && q.2.category == 2)))) : jm_L (ls.set i (some v)) arr' := by
  obtain ⟨h1, h2, h3⟩ := hh
  refine ⟨by rw [List.length_set]; exact h1, h2, fun j w hj => ?_⟩
  by_cases hji : j = i
  · subst hji
    have hlt : j < ls.length := by
      have := (List.getElem?_eq_some_iff.mp hj).1
      rwa [List.length_set] at this
    rw [List.getElem?_set_self hlt] at hj
    cases hj
    exact ⟨h3 _ List.mem_cons_self, hv⟩
  · rw [List.getElem?_set_ne (Ne.symm hji)] at hj
    obtain ⟨g1, g2⟩ := hl.2.2 j w hj
    refine ⟨h3 (j, w) (List.mem_cons_of_mem _ (List.mem_filter.mpr ⟨jm_pr_mem.mpr hj, ?_⟩)), g2⟩
    simp [hji, g2]
theorem jm_istore_n {i : Fin 4} {x : Int32} (hd : decode μ.2.1 pc = .ok (.istore_n i, 1)) (hi : i.val < ls.length) (k : jm_W Γ μ d rc rs Q (pc + 1) (ls.set i.val (some (.int x))) st h) : jm_W Γ μ d rc rs Q pc ls (.int x :: st) h := by
  intro p e R s m args below meth c H locs cells slots arr E hR hlo hc hs hl hn
  exact lv_istore_n E.1 E.2.1 hd rfl (jm_has hl) hi rfl (fun arr' hh => k p e R s m args below meth c H locs cells slots arr' E hR hlo hc hs (jm_stored hl rfl hh) (by rw [List.length_set]; exact hn))
theorem jm_istore {i : Nat} {x : Int32} (hd : decode μ.2.1 pc = .ok (.istore i, 2)) (hi : i < ls.length) (k : jm_W Γ μ d rc rs Q (pc + 2) (ls.set i (some (.int x))) st h) : jm_W Γ μ d rc rs Q pc ls (.int x :: st) h := by
  intro p e R s m args below meth c H locs cells slots arr E hR hlo hc hs hl hn
  exact lv_istore E.1 E.2.1 hd (jm_has hl) hi rfl (fun arr' hh => k p e R s m args below meth c H locs cells slots arr' E hR hlo hc hs (jm_stored hl rfl hh) (by rw [List.length_set]; exact hn))
theorem jm_astore_n {i : Fin 4} {x : Nat} (hd : decode μ.2.1 pc = .ok (.astore_n i, 1)) (hi : i.val < ls.length) (k : jm_W Γ μ d rc rs Q (pc + 1) (ls.set i.val (some (.ref x))) st h) : jm_W Γ μ d rc rs Q pc ls (.ref x :: st) h := by
  intro p e R s m args below meth c H locs cells slots arr E hR hlo hc hs hl hn
  exact lv_astore_n E.1 E.2.1 hd rfl (jm_has hl) hi rfl (fun arr' hh => k p e R s m args below meth c H locs cells slots arr' E hR hlo hc hs (jm_stored hl rfl hh) (by rw [List.length_set]; exact hn))
theorem jm_astore {i : Nat} {x : Nat} (hd : decode μ.2.1 pc = .ok (.astore i, 2)) (hi : i < ls.length) (k : jm_W Γ μ d rc rs Q (pc + 2) (ls.set i (some (.ref x))) st h) : jm_W Γ μ d rc rs Q pc ls (.ref x :: st) h := by
  intro p e R s m args below meth c H locs cells slots arr E hR hlo hc hs hl hn
  exact lv_astore E.1 E.2.1 hd (jm_has hl) hi rfl (fun arr' hh => k p e R s m args below meth c H locs cells slots arr' E hR hlo hc hs (jm_stored hl rfl hh) (by rw [List.length_set]; exact hn))
theorem jm_astore_nN {i : Fin 4} (hd : decode μ.2.1 pc = .ok (.astore_n i, 1)) (hi : i.val < ls.length) (k : jm_W Γ μ d rc rs Q (pc + 1) (ls.set i.val (some (.null))) st h) : jm_W Γ μ d rc rs Q pc ls (.null :: st) h := by
  intro p e R s m args below meth c H locs cells slots arr E hR hlo hc hs hl hn
  exact lv_astore_nN E.1 E.2.1 hd rfl (jm_has hl) hi rfl (fun arr' hh => k p e R s m args below meth c H locs cells slots arr' E hR hlo hc hs (jm_stored hl rfl hh) (by rw [List.length_set]; exact hn))
theorem jm_astoreN {i : Nat} (hd : decode μ.2.1 pc = .ok (.astore i, 2)) (hi : i < ls.length) (k : jm_W Γ μ d rc rs Q (pc + 2) (ls.set i (some (.null))) st h) : jm_W Γ μ d rc rs Q pc ls (.null :: st) h := by
  intro p e R s m args below meth c H locs cells slots arr E hR hlo hc hs hl hn
  exact lv_astoreN E.1 E.2.1 hd (jm_has hl) hi rfl (fun arr' hh => k p e R s m args below meth c H locs cells slots arr' E hR hlo hc hs (jm_stored hl rfl hh) (by rw [List.length_set]; exact hn))
theorem jm_iinc {i : Nat} {n : Int} {x : Int32} (hd : decode μ.2.1 pc = .ok (.iinc i n, 3)) (hx : ls[i]? = some (some (.int x))) (k : jm_W Γ μ d rc rs Q (pc + 3) (ls.set i (some (.int (x + Int32.ofInt n)))) st h) : jm_W Γ μ d rc rs Q pc ls st h := by
  intro p e R s m args below meth c H locs cells slots arr E hR hlo hc hs hl hn
  obtain ⟨j, hj⟩ := List.getElem?_of_mem (jm_pr_mem.mpr hx)
  exact lv_iinc E.1 E.2.1 hd (jm_has hl) hj rfl (List.getElem?_eq_some_iff.mp hx).1 rfl (fun arr' hh => k p e R s m args below meth c H locs cells slots arr' E hR hlo hc hs (jm_stored hl rfl hh) (by rw [List.length_set]; exact hn))
theorem jm_icmp_eq {x y : Int32} {off : Int} (tgt : Nat) (hd : decode μ.2.1 pc = .ok (.if_icmp .eq off, 3)) (ht : (pc : Int) + off = (tgt : Int)) (kt : x = y → jm_W Γ μ d rc rs Q tgt ls st h) (kf : ¬ (x = y) → jm_W Γ μ d rc rs Q (pc + 3) ls st h) : jm_W Γ μ d rc rs Q pc ls (.int y :: .int x :: st) h := by
  intro p e R s m args below meth c H locs cells slots arr E hR hlo hc hs hl hn
  exact lv_icmp_eq E.1 E.2.1 hd ht (fun q => kt (by first | exact q | simpa using q) p e R s m args below meth c H locs cells slots arr E hR hlo hc hs hl hn) (fun q => kf (by first | exact q | simpa using q) p e R s m args below meth c H locs cells slots arr E hR hlo hc hs hl hn)
theorem jm_if_eq {x : Int32} {off : Int} (tgt : Nat) (hd : decode μ.2.1 pc = .ok (.ifCond .eq off, 3)) (ht : (pc : Int) + off = (tgt : Int)) (kt : x = 0 → jm_W Γ μ d rc rs Q tgt ls st h) (kf : ¬ (x = 0) → jm_W Γ μ d rc rs Q (pc + 3) ls st h) : jm_W Γ μ d rc rs Q pc ls (.int x :: st) h := by
  intro p e R s m args below meth c H locs cells slots arr E hR hlo hc hs hl hn
  exact lv_if_eq E.1 E.2.1 hd ht (fun q => kt (by first | exact q | simpa using q) p e R s m args below meth c H locs cells slots arr E hR hlo hc hs hl hn) (fun q => kf (by first | exact q | simpa using q) p e R s m args below meth c H locs cells slots arr E hR hlo hc hs hl hn)
theorem jm_icmp_ne {x y : Int32} {off : Int} (tgt : Nat) (hd : decode μ.2.1 pc = .ok (.if_icmp .ne off, 3)) (ht : (pc : Int) + off = (tgt : Int)) (kt : ¬ x = y → jm_W Γ μ d rc rs Q tgt ls st h) (kf : ¬ (¬ x = y) → jm_W Γ μ d rc rs Q (pc + 3) ls st h) : jm_W Γ μ d rc rs Q pc ls (.int y :: .int x :: st) h := by
  intro p e R s m args below meth c H locs cells slots arr E hR hlo hc hs hl hn
  exact lv_icmp_ne E.1 E.2.1 hd ht (fun q => kt (by first | exact q | simpa using q) p e R s m args below meth c H locs cells slots arr E hR hlo hc hs hl hn) (fun q => kf (by first | exact q | simpa using q) p e R s m args below meth c H locs cells slots arr E hR hlo hc hs hl hn)
theorem jm_if_ne {x : Int32} {off : Int} (tgt : Nat) (hd : decode μ.2.1 pc = .ok (.ifCond .ne off, 3)) (ht : (pc : Int) + off = (tgt : Int)) (kt : ¬ x = 0 → jm_W Γ μ d rc rs Q tgt ls st h) (kf : ¬ (¬ x = 0) → jm_W Γ μ d rc rs Q (pc + 3) ls st h) : jm_W Γ μ d rc rs Q pc ls (.int x :: st) h := by
  intro p e R s m args below meth c H locs cells slots arr E hR hlo hc hs hl hn
  exact lv_if_ne E.1 E.2.1 hd ht (fun q => kt (by first | exact q | simpa using q) p e R s m args below meth c H locs cells slots arr E hR hlo hc hs hl hn) (fun q => kf (by first | exact q | simpa using q) p e R s m args below meth c H locs cells slots arr E hR hlo hc hs hl hn)
theorem jm_icmp_lt {x y : Int32} {off : Int} (tgt : Nat) (hd : decode μ.2.1 pc = .ok (.if_icmp .lt off, 3)) (ht : (pc : Int) + off = (tgt : Int)) (kt : x < y → jm_W Γ μ d rc rs Q tgt ls st h) (kf : ¬ (x < y) → jm_W Γ μ d rc rs Q (pc + 3) ls st h) : jm_W Γ μ d rc rs Q pc ls (.int y :: .int x :: st) h := by
  intro p e R s m args below meth c H locs cells slots arr E hR hlo hc hs hl hn
  exact lv_icmp_lt E.1 E.2.1 hd ht (fun q => kt (by first | exact q | simpa using q) p e R s m args below meth c H locs cells slots arr E hR hlo hc hs hl hn) (fun q => kf (by first | exact q | simpa using q) p e R s m args below meth c H locs cells slots arr E hR hlo hc hs hl hn)
theorem jm_if_lt {x : Int32} {off : Int} (tgt : Nat) (hd : decode μ.2.1 pc = .ok (.ifCond .lt off, 3)) (ht : (pc : Int) + off = (tgt : Int)) (kt : x < 0 → jm_W Γ μ d rc rs Q tgt ls st h) (kf : ¬ (x < 0) → jm_W Γ μ d rc rs Q (pc + 3) ls st h) : jm_W Γ μ d rc rs Q pc ls (.int x :: st) h := by
  intro p e R s m args below meth c H locs cells slots arr E hR hlo hc hs hl hn
  exact lv_if_lt E.1 E.2.1 hd ht (fun q => kt (by first | exact q | simpa using q) p e R s m args below meth c H locs cells slots arr E hR hlo hc hs hl hn) (fun q => kf (by first | exact q | simpa using q) p e R s m args below meth c H locs cells slots arr E hR hlo hc hs hl hn)
theorem jm_icmp_ge {x y : Int32} {off : Int} (tgt : Nat) (hd : decode μ.2.1 pc = .ok (.if_icmp .ge off, 3)) (ht : (pc : Int) + off = (tgt : Int)) (kt : y ≤ x → jm_W Γ μ d rc rs Q tgt ls st h) (kf : ¬ (y ≤ x) → jm_W Γ μ d rc rs Q (pc + 3) ls st h) : jm_W Γ μ d rc rs Q pc ls (.int y :: .int x :: st) h := by
  intro p e R s m args below meth c H locs cells slots arr E hR hlo hc hs hl hn
  exact lv_icmp_ge E.1 E.2.1 hd ht (fun q => kt (by first | exact q | simpa using q) p e R s m args below meth c H locs cells slots arr E hR hlo hc hs hl hn) (fun q => kf (by first | exact q | simpa using q) p e R s m args below meth c H locs cells slots arr E hR hlo hc hs hl hn)
theorem jm_if_ge {x : Int32} {off : Int} (tgt : Nat) (hd : decode μ.2.1 pc = .ok (.ifCond .ge off, 3)) (ht : (pc : Int) + off = (tgt : Int)) (kt : 0 ≤ x → jm_W Γ μ d rc rs Q tgt ls st h) (kf : ¬ (0 ≤ x) → jm_W Γ μ d rc rs Q (pc + 3) ls st h) : jm_W Γ μ d rc rs Q pc ls (.int x :: st) h := by
  intro p e R s m args below meth c H locs cells slots arr E hR hlo hc hs hl hn
  exact lv_if_ge E.1 E.2.1 hd ht (fun q => kt (by first | exact q | simpa using q) p e R s m args below meth c H locs cells slots arr E hR hlo hc hs hl hn) (fun q => kf (by first | exact q | simpa using q) p e R s m args below meth c H locs cells slots arr E hR hlo hc hs hl hn)
theorem jm_icmp_gt {x y : Int32} {off : Int} (tgt : Nat) (hd : decode μ.2.1 pc = .ok (.if_icmp .gt off, 3)) (ht : (pc : Int) + off = (tgt : Int)) (kt : y < x → jm_W Γ μ d rc rs Q tgt ls st h) (kf : ¬ (y < x) → jm_W Γ μ d rc rs Q (pc + 3) ls st h) : jm_W Γ μ d rc rs Q pc ls (.int y :: .int x :: st) h := by
  intro p e R s m args below meth c H locs cells slots arr E hR hlo hc hs hl hn
  exact lv_icmp_gt E.1 E.2.1 hd ht (fun q => kt (by first | exact q | simpa using q) p e R s m args below meth c H locs cells slots arr E hR hlo hc hs hl hn) (fun q => kf (by first | exact q | simpa using q) p e R s m args below meth c H locs cells slots arr E hR hlo hc hs hl hn)
theorem jm_if_gt {x : Int32} {off : Int} (tgt : Nat) (hd : decode μ.2.1 pc = .ok (.ifCond .gt off, 3)) (ht : (pc : Int) + off = (tgt : Int)) (kt : 0 < x → jm_W Γ μ d rc rs Q tgt ls st h) (kf : ¬ (0 < x) → jm_W Γ μ d rc rs Q (pc + 3) ls st h) : jm_W Γ μ d rc rs Q pc ls (.int x :: st) h := by
  intro p e R s m args below meth c H locs cells slots arr E hR hlo hc hs hl hn
  exact lv_if_gt E.1 E.2.1 hd ht (fun q => kt (by first | exact q | simpa using q) p e R s m args below meth c H locs cells slots arr E hR hlo hc hs hl hn) (fun q => kf (by first | exact q | simpa using q) p e R s m args below meth c H locs cells slots arr E hR hlo hc hs hl hn)
theorem jm_icmp_le {x y : Int32} {off : Int} (tgt : Nat) (hd : decode μ.2.1 pc = .ok (.if_icmp .le off, 3)) (ht : (pc : Int) + off = (tgt : Int)) (kt : x ≤ y → jm_W Γ μ d rc rs Q tgt ls st h) (kf : ¬ (x ≤ y) → jm_W Γ μ d rc rs Q (pc + 3) ls st h) : jm_W Γ μ d rc rs Q pc ls (.int y :: .int x :: st) h := by
  intro p e R s m args below meth c H locs cells slots arr E hR hlo hc hs hl hn
  exact lv_icmp_le E.1 E.2.1 hd ht (fun q => kt (by first | exact q | simpa using q) p e R s m args below meth c H locs cells slots arr E hR hlo hc hs hl hn) (fun q => kf (by first | exact q | simpa using q) p e R s m args below meth c H locs cells slots arr E hR hlo hc hs hl hn)
theorem jm_if_le {x : Int32} {off : Int} (tgt : Nat) (hd : decode μ.2.1 pc = .ok (.ifCond .le off, 3)) (ht : (pc : Int) + off = (tgt : Int)) (kt : x ≤ 0 → jm_W Γ μ d rc rs Q tgt ls st h) (kf : ¬ (x ≤ 0) → jm_W Γ μ d rc rs Q (pc + 3) ls st h) : jm_W Γ μ d rc rs Q pc ls (.int x :: st) h := by
  intro p e R s m args below meth c H locs cells slots arr E hR hlo hc hs hl hn
  exact lv_if_le E.1 E.2.1 hd ht (fun q => kt (by first | exact q | simpa using q) p e R s m args below meth c H locs cells slots arr E hR hlo hc hs hl hn) (fun q => kf (by first | exact q | simpa using q) p e R s m args below meth c H locs cells slots arr E hR hlo hc hs hl hn)
theorem jm_goto {off : Int} (tgt : Nat) (hd : decode μ.2.1 pc = .ok (.goto off, 3)) (ht : (pc : Int) + off = (tgt : Int)) (k : jm_W Γ μ d rc rs Q tgt ls st h) : jm_W Γ μ d rc rs Q pc ls st h := by
  intro p e R s m args below meth c H locs cells slots arr E hR hlo hc hs hl hn
  exact lv_goto E.1 E.2.1 hd ht (k p e R s m args below meth c H locs cells slots arr E hR hlo hc hs hl hn)
theorem jm_ifnull {x : Nat} {off : Int} (hd : decode μ.2.1 pc = .ok (.ifnull off, 3)) (k : jm_W Γ μ d rc rs Q (pc + 3) ls st h) : jm_W Γ μ d rc rs Q pc ls (.ref x :: st) h := by
  intro p e R s m args below meth c H locs cells slots arr E hR hlo hc hs hl hn
  exact lv_ifnull E.1 E.2.1 hd (k p e R s m args below meth c H locs cells slots arr E hR hlo hc hs hl hn)
theorem jm_ifnullN {off : Int} (tgt : Nat) (hd : decode μ.2.1 pc = .ok (.ifnull off, 3)) (ht : (pc : Int) + off = (tgt : Int)) (k : jm_W Γ μ d rc rs Q tgt ls st h) : jm_W Γ μ d rc rs Q pc ls (.null :: st) h := by
  intro p e R s m args below meth c H locs cells slots arr E hR hlo hc hs hl hn
  exact lv_ifnullN E.1 E.2.1 hd ht (k p e R s m args below meth c H locs cells slots arr E hR hlo hc hs hl hn)
theorem jm_ifnonnull {x : Nat} {off : Int} (tgt : Nat) (hd : decode μ.2.1 pc = .ok (.ifnonnull off, 3)) (ht : (pc : Int) + off = (tgt : Int)) (k : jm_W Γ μ d rc rs Q tgt ls st h) : jm_W Γ μ d rc rs Q pc ls (.ref x :: st) h := by
  intro p e R s m args below meth c H locs cells slots arr E hR hlo hc hs hl hn
  exact lv_ifnonnull E.1 E.2.1 hd ht (k p e R s m args below meth c H locs cells slots arr E hR hlo hc hs hl hn)
theorem jm_ifnonnullN {off : Int} (hd : decode μ.2.1 pc = .ok (.ifnonnull off, 3)) (k : jm_W Γ μ d rc rs Q (pc + 3) ls st h) : jm_W Γ μ d rc rs Q pc ls (.null :: st) h := by
  intro p e R s m args below meth c H locs cells slots arr E hR hlo hc hs hl hn
  exact lv_ifnonnullN E.1 E.2.1 hd (k p e R s m args below meth c H locs cells slots arr E hR hlo hc hs hl hn)
theorem jm_acmp_eq {x y : Nat} {off : Int} (tgt : Nat) (hd : decode μ.2.1 pc = .ok (.if_acmp .eq off, 3)) (ht : (pc : Int) + off = (tgt : Int)) (kt : x = y → jm_W Γ μ d rc rs Q tgt ls st h) (kf : ¬ (x = y) → jm_W Γ μ d rc rs Q (pc + 3) ls st h) : jm_W Γ μ d rc rs Q pc ls (.ref y :: .ref x :: st) h := by
  intro p e R s m args below meth c H locs cells slots arr E hR hlo hc hs hl hn
  exact lv_acmp_eq (rx := some x) (ry := some y) E.1 E.2.1 hd ht (fun q => kt (by simpa using q) p e R s m args below meth c H locs cells slots arr E hR hlo hc hs hl hn) (fun q => kf (by simpa using q) p e R s m args below meth c H locs cells slots arr E hR hlo hc hs hl hn)
theorem jm_acmp_ne {x y : Nat} {off : Int} (tgt : Nat) (hd : decode μ.2.1 pc = .ok (.if_acmp .ne off, 3)) (ht : (pc : Int) + off = (tgt : Int)) (kt : ¬ x = y → jm_W Γ μ d rc rs Q tgt ls st h) (kf : ¬ (¬ x = y) → jm_W Γ μ d rc rs Q (pc + 3) ls st h) : jm_W Γ μ d rc rs Q pc ls (.ref y :: .ref x :: st) h := by
  intro p e R s m args below meth c H locs cells slots arr E hR hlo hc hs hl hn
  exact lv_acmp_ne (rx := some x) (ry := some y) E.1 E.2.1 hd ht (fun q => kt (by simpa using q) p e R s m args below meth c H locs cells slots arr E hR hlo hc hs hl hn) (fun q => kf (by simpa using q) p e R s m args below meth c H locs cells slots arr E hR hlo hc hs hl hn)
theorem jm_tableIn {dflt lo hi : Int} {offs : Array Int} {len : Nat} {x : Int32} {off : Int} (tgt : Nat) (hd : decode μ.2.1 pc = .ok (.tableswitch dflt lo hi offs, len)) (h1 : ¬ x.toInt < lo) (h2 : ¬ hi < x.toInt) (ho : offs[(x.toInt - lo).toNat]? = some off) (ht : (pc : Int) + off = (tgt : Int)) (k : jm_W Γ μ d rc rs Q tgt ls st h) : jm_W Γ μ d rc rs Q pc ls (.int x :: st) h := by
  intro p e R s m args below meth c H locs cells slots arr E hR hlo hc hs hl hn
  exact lv_tableIn E.1 E.2.1 hd h1 h2 ho ht (k p e R s m args below meth c H locs cells slots arr E hR hlo hc hs hl hn)
theorem jm_tableOut {dflt lo hi : Int} {offs : Array Int} {len : Nat} {x : Int32} (tgt : Nat) (hd : decode μ.2.1 pc = .ok (.tableswitch dflt lo hi offs, len)) (h1 : x.toInt < lo ∨ hi < x.toInt) (ht : (pc : Int) + dflt = (tgt : Int)) (k : jm_W Γ μ d rc rs Q tgt ls st h) : jm_W Γ μ d rc rs Q pc ls (.int x :: st) h := by
  intro p e R s m args below meth c H locs cells slots arr E hR hlo hc hs hl hn
  exact lv_tableOut E.1 E.2.1 hd h1 ht (k p e R s m args below meth c H locs cells slots arr E hR hlo hc hs hl hn)
end
end
section
/-! ROWS that read, write and make cells, over jm_W -/
section
/-- the pool's entry idx of the class own is the field j of class number ci -/
def jm_FL (own : String) (idx ci j : Nat) (fin : Bool) (ty : FieldType) : Prop :=
  ∃ (C : String) (T : u_T) (N : Nat), jm_cl[ci]? = some (C, T, N) ∧ j < N ∧ (T j).2.2.2 = fin ∧ parseFieldDescriptor (T j).2.2.1 = some ty ∧ Cond.fieldLink own idx (T j).1 (T j).2.1 (T j).2.2.1 ∈ jm_ws ∧ (fin = true → (T j).1 = own)
theorem jm_lt {α : Type} {l : List α} {i : Nat} {x : α} (h : l[i]? = some x) (hl : l.length ≤ 100) : i < 100 := Nat.lt_of_lt_of_le (List.getElem?_eq_some_iff.mp h).1 hl
variable {Γ : jm_G} {U : State} {h : jm_H} {H H1 : Heap}
/-- one cell changes -/
theorem jm_R.put {t i a : Nat} {v : Value} (hR : jm_R Γ U h H) (hb : jm_b Γ ≤ a) (hz : H1.size = H.size) (oq : ∀ q : Nat, q ≠ a → H1[q]? = H[q]?)
    (ho : ∀ k n, h.1 a = some (k, n) → k < 100 → ∃ r : vw_C, jm_cl[k]? = some r ∧ t_OB a (jm_dC Γ k) r.2.2 (jm_dI Γ k) H1 (fun j => (jm_set h t i a v).2 k j a))
    (hr : ∀ k n, h.1 a = some (k, n) → 100 ≤ k → k < 150 → H1[a]? = some (arrV (jm_dA Γ (k - 100)) n (fun j => (jm_set h t i a v).2 100 j a)))
    (hx : ∀ k n, h.1 a = some (k, n) → k < 150) (hns : ∀ cell : Cell, H1[a]? = some cell → cell.vm.isStatics = false) : jm_R Γ U (jm_set h t i a v) H1 := by
  obtain ⟨h1, h2, h9, h3⟩ := hR
  have hset : ∀ (a' : Nat), a' ≠ a → ∀ (t' i' : Nat), (jm_set h t i a v).2 t' i' a' = h.2 t' i' a' := fun a' ha' t' i' => by
    show (if t' = t ∧ i' = i ∧ a' = a then v else h.2 t' i' a') = _
    rw [if_neg (fun q => ha' q.2.2)]
  refine ⟨by rw [hz]; exact h1, fun a' ha' => ?_, fun a' cell ha' hcell => ?_, fun a' k n hk => ?_⟩
  · rw [oq a' (fun q => by omega)]
    exact h2 a' ha'
  · by_cases haa : a' = a
    · subst haa
      exact hns cell hcell
    · rw [oq a' haa] at hcell
      exact h9 a' cell ha' hcell
  · have hk' : h.1 a' = some (k, n) := hk
    obtain ⟨q1, q2, q3⟩ := h3 a' k n hk'
    by_cases haa : a' = a
    · subst haa
      exact ⟨fun hlt => ⟨hb, ho k n hk' hlt⟩, fun g1 g2 => ⟨hb, (q2 g1 g2).2.1, hr k n hk' g1 g2⟩, fun g => absurd (hx k n hk') (by omega)⟩
    · have hq := oq a' haa
      refine ⟨fun hlt => ?_, fun g1 g2 => ?_, fun g => ?_⟩
      · obtain ⟨b1, r, b2, b3⟩ := q1 hlt
        exact ⟨b1, r, b2, (b3.kept hq).to (fun j _ => (hset a' haa k j).symm)⟩
      · obtain ⟨b1, b2, b3⟩ := q2 g1 g2
        refine ⟨b1, b2, ?_⟩
        rw [hq, b3]
        congr 2
        funext j
        exact (hset a' haa 100 j).symm
      · obtain ⟨b1, xs, b2, b3⟩ := q3 g
        exact ⟨b1, xs, b2.kept hq, fun j hj => (hset a' haa 100 j).trans (b3 j hj)⟩
/-- a cell comes -/
theorem jm_R.born {kn : Nat × Nat} {dv : Nat → Value} (hR : jm_R Γ U h H) (hz : H1.size = H.size + 1) (oq : ∀ q : Nat, q < H.size → H1[q]? = H[q]?) (hk9 : kn.1 < 150) (hn9 : kn.2 < 2 ^ 31)
    (ho : kn.1 < 100 → ∃ r : vw_C, jm_cl[kn.1]? = some r ∧ t_OB H.size (jm_dC Γ kn.1) r.2.2 (jm_dI Γ kn.1) H1 dv)
    (hr : 100 ≤ kn.1 → H1[H.size]? = some (arrV (jm_dA Γ (kn.1 - 100)) kn.2 dv)) : h.1 H.size = none ∧ jm_R Γ U (jm_new h H.size kn dv) H1 := by
  obtain ⟨h1, h2, h9, h3⟩ := hR
  have hlt : ∀ a k n, h.1 a = some (k, n) → a < H.size := by
    intro a k n hk
    obtain ⟨q1, q2, q3⟩ := h3 a k n hk
    by_cases g1 : k < 100
    · obtain ⟨-, r, -, cell, b, -⟩ := q1 g1
      exact (Array.getElem?_eq_some_iff.mp b).1
    · by_cases g2 : k < 150
      · exact (Array.getElem?_eq_some_iff.mp (q2 (by omega) g2).2.2).1
      · obtain ⟨-, xs, ⟨scr, b, -⟩, -⟩ := q3 (by omega)
        exact (Array.getElem?_eq_some_iff.mp b).1
  have hfresh : h.1 H.size = none := by
    cases hq : h.1 H.size with
    | none => rfl
    | some q => exact absurd (hlt _ q.1 q.2 hq) (Nat.lt_irrefl _)
  refine ⟨hfresh, by omega, fun a ha => (oq a (by omega)).trans (h2 a ha), fun a cell ha hcell => ?_, fun a k n hk => ?_⟩
  · by_cases haa : a = H.size
    · subst haa
      by_cases g : kn.1 < 100
      · obtain ⟨r, -, cell', b1, -, b2, -⟩ := ho g
        cases hcell.symm.trans b1
        rw [b2]
        rfl
      · cases hcell.symm.trans (hr (by omega))
        rfl
    · have hlt' : a < H1.size := (Array.getElem?_eq_some_iff.mp hcell).1
      rw [oq a (by omega)] at hcell
      exact h9 a cell ha hcell
  by_cases haa : a = H.size
  · subst haa
    have hk' : kn = (k, n) := by
      have : (if H.size = H.size then some kn else h.1 H.size) = some (k, n) := hk
      rw [if_pos rfl] at this
      exact Option.some.inj this
    have hd : ∀ t j, (jm_new h H.size kn dv).2 t j H.size = dv j := fun t j => by
      show (if H.size = H.size then dv j else _) = _
      rw [if_pos rfl]
    subst hk'
    refine ⟨fun g => ?_, fun g1 g2 => ?_, fun g => absurd hk9 (by omega)⟩
    · obtain ⟨r, b1, b2⟩ := ho g
      exact ⟨h1, r, b1, b2.to (fun j _ => (hd _ j).symm)⟩
    · refine ⟨h1, hn9, ?_⟩
      rw [hr g1]
      congr 2
      funext j
      exact (hd 100 j).symm
  · have hk' : h.1 a = some (k, n) := by
      have : (if a = H.size then some kn else h.1 a) = some (k, n) := hk
      rwa [if_neg haa] at this
    have hd : ∀ t j, (jm_new h H.size kn dv).2 t j a = h.2 t j a := fun t j => by
      show (if a = H.size then dv j else _) = _
      rw [if_neg haa]
    have hq := oq a (hlt a k n hk')
    obtain ⟨q1, q2, q3⟩ := h3 a k n hk'
    refine ⟨fun g => ?_, fun g1 g2 => ?_, fun g => ?_⟩
    · obtain ⟨b1, r, b2, b3⟩ := q1 g
      exact ⟨b1, r, b2, (b3.kept hq).to (fun j _ => (hd k j).symm)⟩
    · obtain ⟨b1, b2, b3⟩ := q2 g1 g2
      refine ⟨b1, b2, ?_⟩
      rw [hq, b3]
      congr 2
      funext j
      exact (hd 100 j).symm
    · obtain ⟨b1, xs, b2, b3⟩ := q3 g
      exact ⟨b1, xs, b2.kept hq, fun j hj => (hd 100 j).trans (b3 j hj)⟩
end
section
variable {Γ : jm_G} {μ : jm_Mt} {d rc rs : Nat} {Q : jm_O → jm_H → Prop} {pc : Nat} {ls : List (Option Value)} {st : List Value} {h : jm_H}
theorem jm_locs {b : Nat} {locs : List Loc} {a k : Nat} (hlo : ∀ q ∈ locs, b ≤ q.base) (ha : b ≤ a) : ∀ q ∈ locs ++ [(⟨a, k⟩ : Loc)], b ≤ q.base := by
  intro q hq
  rcases List.mem_append.mp hq with h1 | h1
  · exact hlo q h1
  · rw [List.mem_singleton.mp h1]
    exact ha
theorem jm_getf {idx ci j n a : Nat} {fin : Bool} {ty : FieldType} (hd : decode μ.2.1 pc = .ok (.getfield idx, 3)) (hf : jm_FL μ.1.cls idx ci j fin ty) (ha : h.1 a = some (ci, n))
    (k : jm_W Γ μ d rc rs Q (pc + 3) ls (h.2 ci j a :: st) h) : jm_W Γ μ d rc rs Q pc ls (.ref a :: st) h := by
  intro p e R s m args below meth c H locs cells slots arr E hR hlo hc hs hl hn
  obtain ⟨C, T, N, f1, f2, f3, f4, f5, f6⟩ := hf
  obtain ⟨hx, hb, hr, hml, hown, hts, hC, -⟩ := id E
  obtain ⟨hb0, r, g1, cell, g2, g3, g4, g5⟩ := (hR.2.2.2 a ci n ha).1 (jm_lt f1 jm_cl_len)
  cases Option.some.inj (g1.symm.trans f1)
  obtain ⟨hin, -, -⟩ := jm_clok ci C T N f1
  obtain ⟨hS, hfc, kC, hkC, hkind⟩ := hC.1.1 ci _ f1
  obtain ⟨cf, kf, fi, f, hi, hsl⟩ := hS j f2
  exact W.getf hx hb hown (hts _ f5) hi (u_facts hfc hkC (u_lays hts hin f2) hi).1 g2 (by rw [g4]; exact fun z => by cases z) (v := h.2 ci j a) (by rw [hsl]; exact g5 j f2) rfl rfl hd (k p e R s m args below meth c H locs cells slots arr E hR hlo hc hs hl hn)
theorem jm_putf {idx ci j n a : Nat} {ty : FieldType} {v : Value} (hd : decode μ.2.1 pc = .ok (.putfield idx, 3)) (hf : jm_FL μ.1.cls idx ci j false ty) (ha : h.1 a = some (ci, n)) (hnar : narrow ty v = v) (hfit : fits ty v = true)
    (k : jm_W Γ μ d rc rs Q (pc + 3) ls st (jm_set h ci j a v)) : jm_W Γ μ d rc rs Q pc ls (v :: .ref a :: st) h := by
  intro p e R s m args below meth c H locs cells slots arr E hR hlo hc hs hl hn
  obtain ⟨C, T, N, f1, f2, f3, f4, f5, f6⟩ := hf
  obtain ⟨hx, hb, hr, hml, hown, hts, hC, -⟩ := id E
  have hci := jm_lt f1 jm_cl_len
  obtain ⟨hb0, r, g1, cell, g2, g3, g4, g5⟩ := (hR.2.2.2 a ci n ha).1 hci
  cases Option.some.inj (g1.symm.trans f1)
  obtain ⟨hin, ⟨ty0, hty⟩, hnm⟩ := jm_clok ci C T N f1
  have hap := va_apart (own := C) hts hin ty0 hty hnm hC.1 f1
  obtain ⟨hS, hfc, kC, hkC, hkind⟩ := hC.1.1 ci _ f1
  obtain ⟨cf, kf, fi, f, hi, hsl⟩ := hS j f2
  have hlay := hts _ (hin _ (u_in_lay f2))
  unfold u_lay at hlay
  rw [if_neg (by rw [f3]; decide)] at hlay
  have hst := (u_facts hfc hkC (u_lays hts hin f2) hi).1
  have h6 := u_store hfc hkC hkind hlay hi f4 hnar hfit
  refine W.putK hx hb (f := f) ⟨hown, hts _ f5, ⟨_, _, _, hi⟩, hst⟩ (by rw [g3]; exact h6) g2 g4 (by rw [hsl]; exact k2_hasslot (g5 j f2)) rfl rfl hd fun H' e1 e2 e3 => ?_
  rw [hsl] at e1
  refine k p e R s m args below meth c H' _ cells slots arr E (hR.put hb0 e2 e3 (fun k' n' hk' _ => ?_) (fun k' n' hk' q1 _ => ?_) (fun k' n' hk' => ?_) (fun cell9 hc9 => ?_)) (jm_locs hlo hb0) hc hs hl hn
  · cases ha.symm.trans hk'
    refine ⟨_, f1, t_OB.to (V := updV (fun j => h.2 ci j a) j v) ⟨_, e1, g3, g4, t_set g5 hap f2 v⟩ (fun j' _ => ?_)⟩
    show updV (fun j => h.2 ci j a) j v j' = if ci = ci ∧ j' = j ∧ a = a then v else h.2 ci j' a
    simp [updV]
  · cases ha.symm.trans hk'
    omega
  · cases ha.symm.trans hk'
    omega
  · cases hc9.symm.trans e1
    show cell.vm.isStatics = false
    rw [g4]
    rfl
theorem jm_putF {idx ci j n a : Nat} {ty : FieldType} {v : Value} (hd : decode μ.2.1 pc = .ok (.putfield idx, 3)) (hf : jm_FL μ.1.cls idx ci j true ty) (hinit : μ.1.name = "<init>") (ha : h.1 a = some (ci, n)) (hnar : narrow ty v = v) (hfit : fits ty v = true)
    (k : jm_W Γ μ d rc rs Q (pc + 3) ls st (jm_set h ci j a v)) : jm_W Γ μ d rc rs Q pc ls (v :: .ref a :: st) h := by
  intro p e R s m args below meth c H locs cells slots arr E hR hlo hc hs hl hn
  obtain ⟨C, T, N, f1, f2, f3, f4, f5, f6⟩ := hf
  obtain ⟨hx, hb, hr, hml, hown, hts, hC, hlk, hnm0, -⟩ := id E
  have hci := jm_lt f1 jm_cl_len
  obtain ⟨hb0, r, g1, cell, g2, g3, g4, g5⟩ := (hR.2.2.2 a ci n ha).1 hci
  cases Option.some.inj (g1.symm.trans f1)
  obtain ⟨hin, ⟨ty0, hty⟩, hnm⟩ := jm_clok ci C T N f1
  have hap := va_apart (own := C) hts hin ty0 hty hnm hC.1 f1
  obtain ⟨hS, hfc, kC, hkC, hkind⟩ := hC.1.1 ci _ f1
  obtain ⟨cf, kf, fi, f, hi, hsl⟩ := hS j f2
  have hlay := hts _ (hin _ (u_in_lay f2))
  unfold u_lay at hlay
  rw [if_pos f3] at hlay
  have hst := (u_facts hfc hkC (u_lays hts hin f2) hi).1
  have hcf : m.cls = cf := by
    obtain ⟨_, _, c', _, _, _, -, -, hf', -, -, -, hown2, -⟩ := Cond.laysFinal_spec hlay
    have e1 : c' = cf := by have := hi.symm.trans hf'; simp at this; exact this.1.symm
    rw [f6 rfl] at hown2
    rw [← e1]; exact Option.some.inj (hown.symm.trans hown2)
  have h6 := u_fits hfc hkC hkind (Or.inr hlay) hi f4 hnar hfit
  refine W.putFinK hx hb hown (hts _ f5) hi hst hcf (hnm0.trans hinit) (by rw [g3]; exact h6) g2 g4 (by rw [hsl]; exact k2_hasslot (g5 j f2)) rfl rfl hd fun H' e1 e2 e3 => ?_
  rw [hsl] at e1
  refine k p e R s m args below meth c H' _ cells slots arr E (hR.put hb0 e2 e3 (fun k' n' hk' _ => ?_) (fun k' n' hk' q1 _ => ?_) (fun k' n' hk' => ?_) (fun cell9 hc9 => ?_)) (jm_locs hlo hb0) hc hs hl hn
  · cases ha.symm.trans hk'
    refine ⟨_, f1, t_OB.to (V := updV (fun j => h.2 ci j a) j v) ⟨_, e1, g3, g4, t_set g5 hap f2 v⟩ (fun j' _ => ?_)⟩
    show updV (fun j => h.2 ci j a) j v j' = if ci = ci ∧ j' = j ∧ a = a then v else h.2 ci j' a
    simp [updV]
  · cases ha.symm.trans hk'
    omega
  · cases ha.symm.trans hk'
    omega
  · cases hc9.symm.trans e1
    show cell.vm.isStatics = false
    rw [g4]
    rfl
/-- what an array's cell is -/
theorem jm_arr {s : State} {H : Heap} {k n a : Nat} (hR : jm_R Γ s h H) (hC : jm_C Γ s) (hk : k < 7) (ha : h.1 a = some (100 + k, n)) :
    jm_b Γ ≤ a ∧ n < 2 ^ 31 ∧ H[a]? = some (arrV (jm_dA Γ k) n (fun i => h.2 100 i a)) ∧ s.isArrayOf (arrV (jm_dA Γ k) n (fun i => h.2 100 i a)) (jm_ty k) ∧ va_RA s (jm_dA Γ k) (jm_ty k) := by
  obtain ⟨h1, h2, h3⟩ := (hR.2.2.2 a _ n ha).2.1 (by omega) (by omega)
  have hq : (jm_tys Γ)[k]? = some (jm_dA Γ k, jm_ty k) := by
    unfold jm_tys
    rw [List.getElem?_map, List.getElem?_range hk]
    rfl
  obtain ⟨g1, g2⟩ := hC.1.2 k _ hq
  rw [show 100 + k - 100 = k by omega] at h3
  exact ⟨h1, h2, h3, g1 n _, g2⟩
end
end
section
/-! ROWS of arrays, constants, casts. Written by wip/whole/gen/arrays.py -/
section
variable {Γ : jm_G} {μ : jm_Mt} {d rc rs : Nat} {Q : jm_O → jm_H → Prop} {pc : Nat} {ls : List (Option Value)} {st : List Value} {h : jm_H}
theorem jm_iaload {i : Int32} {n a : Nat} (hd : decode μ.2.1 pc = .ok (.iaload, 1)) (ha : h.1 a = some (100, n)) (hi : vp_in i n) (k : jm_W Γ μ d rc rs Q (pc + 1) ls (h.2 100 i.toNatClampNeg a :: st) h) : jm_W Γ μ d rc rs Q pc ls (.int i :: .ref a :: st) h := by
  intro p e R s m args below meth c H locs cells slots arr E hR hlo hc hs hl hn
  obtain ⟨hx, hb, hr, hml, hown, hts, hC, -⟩ := id E
  obtain ⟨-, -, g1, g2, -⟩ := jm_arr (k := 0) hR hC (by decide) ha
  have hlt : i.toNatClampNeg < n := Nat.not_le.mp fun q => hi (Or.inr q)
  exact W.iald (v := h.2 100 i.toNatClampNeg a) hx hb g1 g2 (fun q => by cases q) (by rw [arrV_size]; exact hi) (by rw [arrV_read _ _ hlt]) rfl rfl hd (k p e R s m args below meth c H locs cells slots arr E hR hlo hc hs hl hn)
theorem jm_baload {i : Int32} {n a : Nat} (hd : decode μ.2.1 pc = .ok (.baload, 1)) (ha : h.1 a = some (101, n)) (hi : vp_in i n) (k : jm_W Γ μ d rc rs Q (pc + 1) ls (h.2 100 i.toNatClampNeg a :: st) h) : jm_W Γ μ d rc rs Q pc ls (.int i :: .ref a :: st) h := by
  intro p e R s m args below meth c H locs cells slots arr E hR hlo hc hs hl hn
  obtain ⟨hx, hb, hr, hml, hown, hts, hC, -⟩ := id E
  obtain ⟨-, -, g1, g2, -⟩ := jm_arr (k := 1) hR hC (by decide) ha
  have hlt : i.toNatClampNeg < n := Nat.not_le.mp fun q => hi (Or.inr q)
  exact W.zald (v := h.2 100 i.toNatClampNeg a) hx hb g1 g2 (fun q => by cases q) (by rw [arrV_size]; exact hi) (by rw [arrV_read _ _ hlt]) rfl rfl hd (k p e R s m args below meth c H locs cells slots arr E hR hlo hc hs hl hn)
theorem jm_laload {i : Int32} {n a : Nat} (hd : decode μ.2.1 pc = .ok (.laload, 1)) (ha : h.1 a = some (102, n)) (hi : vp_in i n) (k : jm_W Γ μ d rc rs Q (pc + 1) ls (h.2 100 i.toNatClampNeg a :: st) h) : jm_W Γ μ d rc rs Q pc ls (.int i :: .ref a :: st) h := by
  intro p e R s m args below meth c H locs cells slots arr E hR hlo hc hs hl hn
  obtain ⟨hx, hb, hr, hml, hown, hts, hC, -⟩ := id E
  obtain ⟨-, -, g1, g2, -⟩ := jm_arr (k := 2) hR hC (by decide) ha
  have hlt : i.toNatClampNeg < n := Nat.not_le.mp fun q => hi (Or.inr q)
  exact W.lald (v := h.2 100 i.toNatClampNeg a) hx hb g1 g2 (fun q => by cases q) (by rw [arrV_size]; exact hi) (by rw [arrV_read _ _ hlt]) rfl rfl hd (k p e R s m args below meth c H locs cells slots arr E hR hlo hc hs hl hn)
theorem jm_aaload (kd : Nat) {i : Int32} {n a : Nat} (hd : decode μ.2.1 pc = .ok (.aaload, 1)) (hkd : kd < 7) (hty : (jm_ty kd).isReference = true) (ha : h.1 a = some (100 + kd, n)) (hi : vp_in i n) (k : jm_W Γ μ d rc rs Q (pc + 1) ls (h.2 100 i.toNatClampNeg a :: st) h) : jm_W Γ μ d rc rs Q pc ls (.int i :: .ref a :: st) h := by
  intro p e R s m args below meth c H locs cells slots arr E hR hlo hc hs hl hn
  obtain ⟨hx, hb, hr, hml, hown, hts, hC, -⟩ := id E
  obtain ⟨-, -, g1, g2, -⟩ := jm_arr (k := kd) hR hC hkd ha
  have hlt : i.toNatClampNeg < n := Nat.not_le.mp fun q => hi (Or.inr q)
  exact W.aald (v := h.2 100 i.toNatClampNeg a) (ty := jm_ty kd) hx hb g1 g2 hty (fun q => by cases q) (by rw [arrV_size]; exact hi) (by rw [arrV_read _ _ hlt]) rfl rfl hd (k p e R s m args below meth c H locs cells slots arr E hR hlo hc hs hl hn)
theorem jm_sload {i : Int32} {n a : Nat} (hd : decode μ.2.1 pc = .ok (.iaload, 1)) (ha : h.1 a = some (150, n)) (hi : vp_in i n) (k : jm_W Γ μ d rc rs Q (pc + 1) ls (h.2 100 i.toNatClampNeg a :: st) h) : jm_W Γ μ d rc rs Q pc ls (.int i :: .ref a :: st) h := by
  intro p e R s m args below meth c H locs cells slots arr E hR hlo hc hs hl hn
  obtain ⟨hx, hb, hr, hml, hown, hts, hC, -⟩ := id E
  obtain ⟨-, xs, ⟨scr, q1, q2, q3, q4, q5⟩, q6⟩ := (hR.2.2.2 a _ n ha).2.2 (by decide)
  have hlt : i.toNatClampNeg < n := Nat.not_le.mp fun q => hi (Or.inr q)
  exact W.iald (v := h.2 100 i.toNatClampNeg a) hx hb q1 q2 q3 (by rw [q4]; exact hi) (by rw [q6 _ hlt]; exact q5 _ hlt) rfl rfl hd (k p e R s m args below meth c H locs cells slots arr E hR hlo hc hs hl hn)
theorem jm_slen {n a : Nat} (hd : decode μ.2.1 pc = .ok (.arraylength, 1)) (ha : h.1 a = some (150, n)) (k : jm_W Γ μ d rc rs Q (pc + 1) ls (.int (nI n) :: st) h) : jm_W Γ μ d rc rs Q pc ls (.ref a :: st) h := by
  intro p e R s m args below meth c H locs cells slots arr E hR hlo hc hs hl hn
  obtain ⟨hx, hb, hr, hml, hown, hts, hC, -⟩ := id E
  obtain ⟨-, xs, ⟨scr, q1, q2, q3, q4, q5⟩, q6⟩ := (hR.2.2.2 a _ n ha).2.2 (by decide)
  exact W.alen (n := nI n) hx hb q1 q2 (by rw [q4] <;> rfl) rfl rfl hd (k p e R s m args below meth c H locs cells slots arr E hR hlo hc hs hl hn)
theorem jm_alen (kd : Nat) {n a : Nat} (hd : decode μ.2.1 pc = .ok (.arraylength, 1)) (hkd : kd < 7) (ha : h.1 a = some (100 + kd, n)) (k : jm_W Γ μ d rc rs Q (pc + 1) ls (.int (nI n) :: st) h) : jm_W Γ μ d rc rs Q pc ls (.ref a :: st) h := by
  intro p e R s m args below meth c H locs cells slots arr E hR hlo hc hs hl hn
  obtain ⟨hx, hb, hr, hml, hown, hts, hC, -⟩ := id E
  obtain ⟨-, -, g1, g2, -⟩ := jm_arr (k := kd) hR hC hkd ha
  exact W.alen (n := nI n) hx hb g1 g2 (by rw [arrV_size] <;> rfl) rfl rfl hd (k p e R s m args below meth c H locs cells slots arr E hR hlo hc hs hl hn)
theorem jm_iastore {i : Int32} {n a : Nat} {x : Int32} (hd : decode μ.2.1 pc = .ok (.iastore, 1)) (ha : h.1 a = some (100, n)) (hi : vp_in i n) (k : jm_W Γ μ d rc rs Q (pc + 1) ls st (jm_set h 100 i.toNatClampNeg a (.int x))) : jm_W Γ μ d rc rs Q pc ls (.int x :: .int i :: .ref a :: st) h := by
  intro p e R s m args below meth c H locs cells slots arr E hR hlo hc hs hl hn
  obtain ⟨hx, hb, hr, hml, hown, hts, hC, -⟩ := id E
  obtain ⟨hb0, -, g1, g2, -⟩ := jm_arr (k := 0) hR hC (by decide) ha
  refine W.iast hx hb g1 g2 (fun q => by cases q) (by rw [arrV_size]; exact hi) rfl rfl hd fun H1 e1 z oq => ?_
  refine k p e R s m args below meth c H1 _ cells slots arr E (hR.put hb0 z oq (fun k' n' hk' q1 => ?_) (fun k' n' hk' q1 _ => ?_) (fun k' n' hk' => ?_) (fun cell9 hc9 => ?_)) (jm_locs hlo hb0) hc hs hl hn
  · cases ha.symm.trans hk'
    omega
  · cases ha.symm.trans hk'
    rw [e1, arrV_store]
    congr 2
    funext q
    show updV (fun i => h.2 100 i a) i.toNatClampNeg _ q = if (100 : Nat) = 100 ∧ q = i.toNatClampNeg ∧ a = a then _ else h.2 100 q a
    simp [updV]
  · cases ha.symm.trans hk'
    omega
  · rw [e1, arrV_store] at hc9
    cases hc9
    rfl
theorem jm_lastore {i : Int32} {n a : Nat} {x : Int64} (hd : decode μ.2.1 pc = .ok (.lastore, 1)) (ha : h.1 a = some (102, n)) (hi : vp_in i n) (k : jm_W Γ μ d rc rs Q (pc + 1) ls st (jm_set h 100 i.toNatClampNeg a (.long x))) : jm_W Γ μ d rc rs Q pc ls (.long x :: .int i :: .ref a :: st) h := by
  intro p e R s m args below meth c H locs cells slots arr E hR hlo hc hs hl hn
  obtain ⟨hx, hb, hr, hml, hown, hts, hC, -⟩ := id E
  obtain ⟨hb0, -, g1, g2, -⟩ := jm_arr (k := 2) hR hC (by decide) ha
  refine W.last hx hb g1 g2 (fun q => by cases q) (by rw [arrV_size]; exact hi) rfl rfl hd fun H1 e1 z oq => ?_
  refine k p e R s m args below meth c H1 _ cells slots arr E (hR.put hb0 z oq (fun k' n' hk' q1 => ?_) (fun k' n' hk' q1 _ => ?_) (fun k' n' hk' => ?_) (fun cell9 hc9 => ?_)) (jm_locs hlo hb0) hc hs hl hn
  · cases ha.symm.trans hk'
    omega
  · cases ha.symm.trans hk'
    rw [e1, arrV_store]
    congr 2
    funext q
    show updV (fun i => h.2 100 i a) i.toNatClampNeg _ q = if (100 : Nat) = 100 ∧ q = i.toNatClampNeg ∧ a = a then _ else h.2 100 q a
    simp [updV]
  · cases ha.symm.trans hk'
    omega
  · rw [e1, arrV_store] at hc9
    cases hc9
    rfl
theorem jm_bastore {i : Int32} {n a : Nat} {x : Int32} (hd : decode μ.2.1 pc = .ok (.bastore, 1)) (ha : h.1 a = some (101, n)) (hi : vp_in i n) (k : jm_W Γ μ d rc rs Q (pc + 1) ls st (jm_set h 100 i.toNatClampNeg a (narrow .boolean (.int x)))) : jm_W Γ μ d rc rs Q pc ls (.int x :: .int i :: .ref a :: st) h := by
  intro p e R s m args below meth c H locs cells slots arr E hR hlo hc hs hl hn
  obtain ⟨hx, hb, hr, hml, hown, hts, hC, -⟩ := id E
  obtain ⟨hb0, -, g1, g2, -⟩ := jm_arr (k := 1) hR hC (by decide) ha
  refine W.zast hx hb g1 g2 (fun q => by cases q) (by rw [arrV_size]; exact hi) rfl rfl hd fun H1 e1 z oq => ?_
  refine k p e R s m args below meth c H1 _ cells slots arr E (hR.put hb0 z oq (fun k' n' hk' q1 => ?_) (fun k' n' hk' q1 _ => ?_) (fun k' n' hk' => ?_) (fun cell9 hc9 => ?_)) (jm_locs hlo hb0) hc hs hl hn
  · cases ha.symm.trans hk'
    omega
  · cases ha.symm.trans hk'
    rw [e1, arrV_store]
    congr 2
    funext q
    show updV (fun i => h.2 100 i a) i.toNatClampNeg _ q = if (100 : Nat) = 100 ∧ q = i.toNatClampNeg ∧ a = a then _ else h.2 100 q a
    simp [updV]
  · cases ha.symm.trans hk'
    omega
  · rw [e1, arrV_store] at hc9
    cases hc9
    rfl
theorem jm_aastore (kd : Nat) {i : Int32} {n a v ci n' : Nat} {r : vw_C} (hd : decode μ.2.1 pc = .ok (.aastore, 1)) (hkd : kd < 7) (ha : h.1 a = some (100 + kd, n)) (hi : vp_in i n) (hv : h.1 v = some (ci, n')) (hc9 : jm_cl[ci]? = some r) (hty : jm_ty kd = .object r.1) (k : jm_W Γ μ d rc rs Q (pc + 1) ls st (jm_set h 100 i.toNatClampNeg a (.ref v))) : jm_W Γ μ d rc rs Q pc ls (.ref v :: .int i :: .ref a :: st) h := by
  intro p e R s m args below meth c H locs cells slots arr E hR hlo hc hs hl hn
  obtain ⟨hx, hb, hr, hml, hown, hts, hC, -⟩ := id E
  obtain ⟨hb0, -, g1, g2, g3⟩ := jm_arr (k := kd) hR hC hkd ha
  have hlt : i.toNatClampNeg < n := Nat.not_le.mp fun q => hi (Or.inr q)
  have h0 : ¬ i < 0 := fun q => hi (Or.inl q)
  obtain ⟨-, r', f1, cellV, f2, f3, f4, -⟩ := (hR.2.2.2 v ci n' hv).1 (jm_lt hc9 jm_cl_len)
  have hcls := (hC.1.1 ci r hc9).2
  rw [hty] at g3
  obtain ⟨kA, comp, k1, k2, k3, -⟩ := g3
  have hcomp : comp = jm_dC Γ ci := Option.some.inj (k3.symm.trans hcls.1)
  subst hcomp
  obtain ⟨kC, hkC, -⟩ := hcls.2
  refine W.aast hx hb g1 (fun q h => by cases h) (fun h => by cases h) k1 k2 rfl hkC ⟨h0, by rw [arrV_size]; exact hlt⟩ f2 (fun q h => by rw [f4] at h; cases h) (by rw [f3]; exact hkC) (by rw [f3]; exact va_assign hcls) rfl rfl hd fun H1 e1 z oq => ?_
  refine k p e R s m args below meth c H1 _ cells slots arr E (hR.put hb0 z oq (fun k' n' hk' q1 => ?_) (fun k' n' hk' q1 _ => ?_) (fun k' n' hk' => ?_) (fun cell9 hc9 => ?_)) (jm_locs hlo hb0) hc hs hl hn
  · cases ha.symm.trans hk'
    omega
  · cases ha.symm.trans hk'
    rw [show 100 + kd - 100 = kd by omega, e1, arrV_store]
    congr 2
    funext q
    show updV (fun i => h.2 100 i a) i.toNatClampNeg _ q = if (100 : Nat) = 100 ∧ q = i.toNatClampNeg ∧ a = a then _ else h.2 100 q a
    simp [updV]
  · cases ha.symm.trans hk'
    omega
  · rw [e1, arrV_store] at hc9
    cases hc9
    rfl
theorem jm_aastoreN (kd : Nat) {i : Int32} {n a : Nat} {C : String} (hd : decode μ.2.1 pc = .ok (.aastore, 1)) (hkd : kd < 7) (ha : h.1 a = some (100 + kd, n)) (hi : vp_in i n) (hty : jm_ty kd = .object C) (k : jm_W Γ μ d rc rs Q (pc + 1) ls st (jm_set h 100 i.toNatClampNeg a .null)) : jm_W Γ μ d rc rs Q pc ls (.null :: .int i :: .ref a :: st) h := by
  intro p e R s m args below meth c H locs cells slots arr E hR hlo hc hs hl hn
  obtain ⟨hx, hb, hr, hml, hown, hts, hC, -⟩ := id E
  obtain ⟨hb0, -, g1, g2, g3⟩ := jm_arr (k := kd) hR hC hkd ha
  rw [hty] at g2
  refine va_WaastN (C := C) hx hb g1 g2 (fun h => by cases h) (by rw [arrV_size]; exact hi) rfl rfl hd fun H1 e1 z oq => ?_
  refine k p e R s m args below meth c H1 _ cells slots arr E (hR.put hb0 z oq (fun k' n' hk' q1 => ?_) (fun k' n' hk' q1 _ => ?_) (fun k' n' hk' => ?_) (fun cell9 hc9 => ?_)) (jm_locs hlo hb0) hc hs hl hn
  · cases ha.symm.trans hk'
    omega
  · cases ha.symm.trans hk'
    rw [show 100 + kd - 100 = kd by omega, e1, arrV_store]
    congr 2
    funext q
    show updV (fun i => h.2 100 i a) i.toNatClampNeg _ q = if (100 : Nat) = 100 ∧ q = i.toNatClampNeg ∧ a = a then _ else h.2 100 q a
    simp [updV]
  · cases ha.symm.trans hk'
    omega
  · rw [e1, arrV_store] at hc9
    cases hc9
    rfl
/-- a new array of numbers -/
theorem jm_newarray (kd : Nat) {at9 : ArrayType} {n : Int32} (hd : decode μ.2.1 pc = .ok (.newarray at9, 2)) (hkd : kd < 7) (hw : Cond.arrayClass (jm_ty kd) ∈ jm_ws) (hty : newarray.typeOf at9 = jm_ty kd) (hra : ∀ (U : State) (cA : ClassId), va_RA U cA (jm_ty kd) → U.vm.findClass ("[" ++ (jm_ty kd).toString) = some cA) (hn0 : ¬ n < 0) (hbt : n.toNatClampNeg * componentBytes (jm_ty kd) ≤ 536870912) (h1 : 1 ≤ rc) (h2 : n.toNatClampNeg ≤ rs)
    (k : ∀ q, h.1 q = none → jm_W Γ μ d (rc - 1) (rs - n.toNatClampNeg) Q (pc + 2) ls (.ref q :: st) (jm_new h q (100 + kd, n.toNatClampNeg) (fun _ => defaultValue (jm_ty kd)))) : jm_W Γ μ d rc rs Q pc ls (.int n :: st) h := by
  intro p e R s m args below meth c H locs cells slots arr E hR hlo hc hs hl hn
  obtain ⟨hx, hb, hr, hml, hown, hts, hC, -⟩ := id E
  have hq : (jm_tys Γ)[kd]? = some (jm_dA Γ kd, jm_ty kd) := by
    unfold jm_tys
    rw [List.getElem?_map, List.getElem?_range hkd]
    rfl
  have g2 := hra s _ (hC.1.2 kd _ hq).2
  have hn31 : n.toNatClampNeg < 2 ^ 31 := by
    have := Int32.toInt_lt n
    simp only [Int32.toNatClampNeg]
    omega
  refine va_newaK hx hb (by rw [hty]; exact hts _ hw) rfl hd rfl hn0 rfl (by rw [hty]; exact hbt) (by omega) (by omega) rfl fun H1 cA e1 z1 o1 hAr hNm => ?_
  rw [hty] at e1 hNm
  cases Option.some.inj (hNm.symm.trans g2)
  obtain ⟨b1, b2⟩ := hR.born (kn := (100 + kd, n.toNatClampNeg)) (dv := fun _ => defaultValue (jm_ty kd)) z1 o1 (by omega) hn31 (fun q => by omega) (fun _ => by rw [show 100 + kd - 100 = kd by omega]; exact e1)
  exact k H.size b1 p e R s m args below meth c H1 locs (cells + 1) (slots + n.toNatClampNeg) arr E b2 hlo (by omega) (by omega) hl hn
/-- a new array of references -/
theorem jm_anewarray (kd : Nat) {idx : Nat} {C : String} {n : Int32} (hd : decode μ.2.1 pc = .ok (.anewarray idx, 3)) (hkd : kd < 7) (hty : jm_ty kd = .object C) (hw1 : Cond.classLink μ.1.cls idx C ∈ jm_ws) (hw2 : Cond.arrayOver (.object C) ∈ jm_ws) (hn0 : ¬ n < 0) (hbt : n.toNatClampNeg * 4 ≤ 536870912) (h1 : 1 ≤ rc) (h2 : n.toNatClampNeg ≤ rs)
    (k : ∀ q, h.1 q = none → jm_W Γ μ d (rc - 1) (rs - n.toNatClampNeg) Q (pc + 3) ls (.ref q :: st) (jm_new h q (100 + kd, n.toNatClampNeg) (fun _ => .null))) : jm_W Γ μ d rc rs Q pc ls (.int n :: st) h := by
  intro p e R s m args below meth c H locs cells slots arr E hR hlo hc hs hl hn
  obtain ⟨hx, hb, hr, hml, hown, hts, hC, -⟩ := id E
  have hq : (jm_tys Γ)[kd]? = some (jm_dA Γ kd, jm_ty kd) := by
    unfold jm_tys
    rw [List.getElem?_map, List.getElem?_range hkd]
    rfl
  have g2 := (hC.1.2 kd _ hq).2
  rw [hty] at g2
  obtain ⟨kA0, comp0, -, -, -, g3⟩ := g2
  have hn31 : n.toNatClampNeg < 2 ^ 31 := by
    have := Int32.toInt_lt n
    simp only [Int32.toNatClampNeg]
    omega
  refine W.anew hx hb hown (hts _ hw1) (hts _ hw2) rfl hd rfl hn0 hbt (by omega) (by omega) fun cA kA comp f1 f2 f3 f4 => ?_
  cases Option.some.inj (f1.symm.trans g3)
  generalize hH1 : H.push ({ cls := jm_dA Γ kd, slots := Array.replicate n.toNatClampNeg .null, vm := .none } : Cell) = H1
  have z1 : H1.size = H.size + 1 := by rw [← hH1, Array.size_push]
  have e1 : H1[H.size]? = some (arrV (jm_dA Γ kd) n.toNatClampNeg (fun _ => .null)) := by rw [← hH1, Array.getElem?_push_size, ← arrV_new]
  have o1 : ∀ q : Nat, q < H.size → H1[q]? = H[q]? := fun q hq => by rw [← hH1, Array.getElem?_push, if_neg (Nat.ne_of_lt hq)]
  obtain ⟨b1, b2⟩ := hR.born (kn := (100 + kd, n.toNatClampNeg)) (dv := fun _ => .null) z1 o1 (by omega) hn31 (fun q => by omega) (fun _ => by rw [show 100 + kd - 100 = kd by omega]; exact e1)
  exact k H.size b1 p e R s m args below meth c H1 locs (cells + 1) (slots + n.toNatClampNeg) arr E b2 hlo (by omega) (by omega) hl hn
/-- a new object of one of our classes -/
theorem jm_newobj {idx ci N : Nat} {C : String} {T : u_T} {dv : Nat → Value} (hd : decode μ.2.1 pc = .ok (.new idx, 3)) (hcl : jm_cl[ci]? = some (C, T, N)) (hw1 : Cond.classLink μ.1.cls idx C ∈ jm_ws) (hw2 : Cond.instantiable C N ∈ jm_ws) (hw3 : Cond.initialized C ∈ jm_ws)
    (ty0 : Nat → FieldType) (hty : ∀ k, k < N → parseFieldDescriptor (T k).2.2.1 = some (ty0 k)) (hdv : ∀ j, j < N → defaultValue (ty0 j) = dv j) (h1 : 1 ≤ rc) (h2 : N ≤ rs)
    (k : ∀ q, h.1 q = none → jm_W Γ μ d (rc - 1) (rs - N) Q (pc + 3) ls (.ref q :: st) (jm_new h q (ci, 0) dv)) : jm_W Γ μ d rc rs Q pc ls st h := by
  intro p e R s m args below meth c H locs cells slots arr E hR hlo hc hs hl hn
  obtain ⟨hx, hb, hr, hml, hown, hts, hC, -⟩ := id E
  have hci := jm_lt hcl jm_cl_len
  obtain ⟨hin, -, -⟩ := jm_clok ci C T N hcl
  have hKn := hC.1.1 ci _ hcl
  refine W.newcK hx hb hown (hts _ hw1) (hts _ hw2) (hts _ hw3) rfl hd (by omega) (by omega) hKn.2.1 rfl fun H1 kC hkC e1 z1 o1 => ?_
  obtain ⟨b1, b2⟩ := hR.born (kn := (ci, 0)) (dv := dv) z1 o1 (by show ci < 150; omega) (by show (0 : Nat) < 2 ^ 31; decide) (fun _ => ⟨_, hcl, (u_born ty0 hts hin hKn hkC e1 hty).to hdv⟩) (fun q => absurd (show (100 : Nat) ≤ ci from q) (by omega))
  exact k H.size b1 p e R s m args below meth c H1 locs (cells + 1) (slots + N) arr E b2 hlo (by omega) (by omega) hl hn
/-- a constant of Stage -/
theorem jm_getE {idx i : Nat} (hd : decode μ.2.1 pc = .ok (.getstatic idx, 3)) (hi : i < 3) (hw : Cond.fieldLink μ.1.cls idx jm_en (jm_enm i) jm_ed ∈ jm_ws) (k : jm_W Γ μ d rc rs Q (pc + 3) ls (.ref (jm_eA Γ i) :: st) h) : jm_W Γ μ d rc rs Q pc ls st h := by
  intro p e R s m args below meth c H locs cells slots arr E hR hlo hc hs hl hn
  obtain ⟨hx, hb, hr, hml, hown, hts, hC, -⟩ := id E
  obtain ⟨cf, kf, fi, f, a, cell, h1, h2, h3, h4, h5, h6, h7, h8⟩ := hC.2.1 i hi
  exact W.gets hx hb hown (hts _ hw) h1 h2 h3 h4 (by rw [hR.2.1 a (Nat.not_le.mp h8)]; exact h5) (fun e => by rw [e] at h6; cases h6) h7 rfl hd (k p e R s m args below meth c H locs cells slots arr E hR hlo hc hs hl hn)
/-- an int constant of the pool -/
theorem jm_ldc {idx : Nat} {v : Int32} (hd : decode μ.2.1 pc = .ok (.ldc idx, 2)) (hw : Cond.constant μ.1.cls idx v ∈ jm_ws) (k : jm_W Γ μ d rc rs Q (pc + 2) ls (.int v :: st) h) : jm_W Γ μ d rc rs Q pc ls st h := by
  intro p e R s m args below meth c H locs cells slots arr E hR hlo hc hs hl hn
  obtain ⟨hx, hb, hr, hml, hown, hts, hC, -⟩ := id E
  exact lv_ldc hx hb hown (hts _ hw) hd (k p e R s m args below meth c H locs cells slots arr E hR hlo hc hs hl hn)
end
end
section
/-! ENDS, ENTRY, CALLS, over jm_W and jm_M -/
section
variable {Γ : jm_G} {μ : jm_Mt} {d rc rs : Nat} {Q : jm_O → jm_H → Prop} {pc : Nat} {ls : List (Option Value)} {st : List Value} {h : jm_H}
theorem jm_Zof {p : Program} {l : Launch} {e : Env} {R : Room} {s : State} {m : MethodId} {args : Array Value} {below : List Frame} {meth : Method} {c : Code} {H : Heap} {locs : List Loc} {cells slots : Nat} {g : JFrame} (hc : cells ≤ R.cells) (hs : slots ≤ R.slots)
    (k : W p l e R s m args below meth c H locs R.cells R.slots (MQ below (fun _ _ o t => ∃ (oc : jm_O) (h' : jm_H), Q oc h' ∧ jm_OR oc o t ∧ jm_R Γ t h' t.heap) args s R.cells R.slots (fun q => jm_b Γ ≤ q)) g) :
    W p l e R s m args below meth c H locs cells slots (jm_Z Γ R.cells R.slots Q s below) g :=
  W.widen hc hs (jm_mono (fun t ⟨o, h1, h2, h3, L, h4, h5⟩ => ⟨o, h1, h2, h3, L, ⟨h4.2.1, h4.2.2⟩, h5⟩) k)
theorem jm_iret {x : Int32} (hd : decode μ.2.1 pc = .ok (.ireturn, 1)) (hr : μ.2.2.2.1 = some .int) (k : Q (.inl (some (.int x))) h) : jm_W Γ μ d rc rs Q pc ls [.int x] h := by
  intro p e R s m args below meth c H locs cells slots arr E hR hlo hc hs hl hn
  obtain ⟨hx, hb, hre, hml, hown, hts, hC, hlk, -⟩ := id E
  exact jm_Zof (by omega) (by omega) (W.iret hx hb (hre.trans hr) (fun t ht hW => ⟨_, h, k, rfl, by rw [ht]; exact hR.moved hW.alike⟩) hlo hd)
theorem jm_zret {x : Int32} (hd : decode μ.2.1 pc = .ok (.ireturn, 1)) (hr : μ.2.2.2.1 = some .boolean) (hx9 : narrow .boolean (.int x) = .int x) (k : Q (.inl (some (.int x))) h) : jm_W Γ μ d rc rs Q pc ls [.int x] h := by
  intro p e R s m args below meth c H locs cells slots arr E hR hlo hc hs hl hn
  obtain ⟨hx, hb, hre, hml, hown, hts, hC, hlk, -⟩ := id E
  exact jm_Zof (by omega) (by omega) (W.zret hx hb (hre.trans hr) hx9 (fun t ht hW => ⟨_, h, k, rfl, by rw [ht]; exact hR.moved hW.alike⟩) hlo hd)
theorem jm_vret (hd : decode μ.2.1 pc = .ok (.return_, 1)) (hr : μ.2.2.2.1 = none) (k : Q (.inl none) h) : jm_W Γ μ d rc rs Q pc ls [] h := by
  intro p e R s m args below meth c H locs cells slots arr E hR hlo hc hs hl hn
  obtain ⟨hx, hb, hre, hml, hown, hts, hC, hlk, -⟩ := id E
  exact jm_Zof (by omega) (by omega) (W.vret hx hb (hre.trans hr) (fun t ht hW => ⟨_, h, k, rfl, by rw [ht]; exact hR.moved hW.alike⟩) hlo hd)
theorem jm_aret {v : Value} {rt : FieldType} (hd : decode μ.2.1 pc = .ok (.areturn, 1)) (hr : μ.2.2.2.1 = some rt) (hrt : (∃ n, rt = .object n) ∨ ∃ t, rt = .array t) (hv : v = .null ∨ ∃ a, v = .ref a) (k : Q (.inl (some v)) h) : jm_W Γ μ d rc rs Q pc ls [v] h := by
  intro p e R s m args below meth c H locs cells slots arr E hR hlo hc hs hl hn
  obtain ⟨hx, hb, hre, hml, hown, hts, hC, hlk, -⟩ := id E
  exact jm_Zof (by omega) (by omega) (W.aret hx hb (hre.trans hr) hrt hv (fun t ht hW => ⟨_, h, k, rfl, by rw [ht]; exact hR.moved hW.alike⟩) hlo hd)
theorem jm_sl : ∀ (av : List Value), (∀ v ∈ av, v.category = 1) → lg_sl av = av.map Slot.val
  | [], _ => rfl
  | v :: r, hv => by
    have h1 : v.category = 1 := hv v List.mem_cons_self
    have ih := jm_sl r (fun w hw => hv w (List.mem_cons_of_mem _ hw))
    unfold lg_sl at ih ⊢
    rw [List.flatMap_cons, ih, if_neg (by omega)]
    rfl
/-- a method's code word, read -/
theorem jm_cw_spec {args : Array Value} {s : State} {m : MethodId} (hn : s.methodNamed? μ.1 = some m) (hw : (jm_cw μ).before args s = true) :
    ∃ meth c, s.vm.method? m = some meth ∧ meth.code = some c ∧ c.code = μ.2.1 ∧ c.maxLocals = μ.2.2.1 ∧ meth.sig.returnType = μ.2.2.2.1 ∧ meth.locks = false ∧ c.exceptionTable.toList = tableOf μ.2.2.2.2 ∧ parseMethodDescriptor μ.1.desc = some meth.sig := by
  unfold jm_cw at hw
  split at hw
  · rename_i hh
    obtain ⟨meth, c, h1, h2, h3, h4, h5, h6, h7, h8⟩ := Cond.code_spec hn hw
    refine ⟨meth, c, h1, h2, h3, h4, h5, h6, ?_, h8⟩
    rw [hh]
    have h0 : c.exceptionTable.size = 0 := by simpa [Array.isEmpty] using h7
    exact List.eq_nil_of_length_eq_zero (by simpa using h0)
  · obtain ⟨m', meth, c, hn', h1, h2, h3, h4, h5, h6, h7, h8⟩ := Cond.codeWith_spec hw
    cases hn.symm.trans hn'
    refine ⟨meth, c, h1, h2, h3, h4, h6, h7, ?_, h8⟩
    rw [← h5, table_eq]
theorem jm_entry {av : List Value} {mc ms : Nat} (hy : plainName μ.1.cls = true) (hav : ∀ v ∈ av, v.category = 1) (hlen : av.length ≤ μ.2.2.1)
    (k : jm_W Γ μ d mc ms Q 0 (av.map some ++ List.replicate (μ.2.2.1 - av.length) none) [] h) : jm_M Γ μ d av h mc ms Q := by
  refine MetFree.of_bodyS (code := μ.2.1) (maxLocals := μ.2.2.1) (ret := μ.2.2.2.1) hy ?_ ?_
  · intro args s m hp hn
    obtain ⟨meth, c, h1, h2, h3, h4, h5, h6, -, -⟩ := jm_cw_spec hn (atoms_spec (ws := jm_cw μ :: jm_ws) hp _ List.mem_cons_self)
    exact ⟨meth, c, h1, h2, h3, h4, h5, h6⟩
  · intro p e s m args below meth c s₁ B hml hP _
    obtain ⟨rfl, hC, hR⟩ := hP
    have hts := atoms_spec (ws := jm_cw μ :: jm_ws) B.pre
    have hown : s.vm.findClass μ.1.cls = some m.cls := findClass_of_methodNamed B.named
    obtain ⟨meth', c', h1, h2, -, -, -, -, h7, -⟩ := jm_cw_spec B.named (hts _ List.mem_cons_self)
    cases B.method.symm.trans h1
    cases (Stand.of_body B).code.symm.trans h2
    have hE : jm_E Γ μ d p (jm_rm d mc ms) s m av.toArray meth c :=
      ⟨B.exec, B.bytes, B.returns, hml, hown, fun w hw => hts w (List.mem_cons_of_mem _ hw), hC, B.notSynchronized, (name_of_methodNamed B.named B.method).1, h7, Nat.le_refl _, Nat.le_refl _, hR.1, hR.2.1, hR.2.2.1⟩
    have hsl := jm_sl av hav
    have hlv := lv_entry av (n := μ.2.2.1) (by rw [hsl, List.length_map]; exact hlen)
    have hw := k p e (jm_rm d mc ms) s m av.toArray below meth c s.heap [] 0 0 ((lg_sl av ++ List.replicate (μ.2.2.1 - (lg_sl av).length) Slot.unset).toArray) hE hR (fun q hq => by cases hq) (by show 0 + mc ≤ mc; omega) (by show 0 + ms ≤ ms; omega)
      ⟨by rw [hlv.1]; simp; omega, hlv.2.1, fun i v hi => by
        have hi' : i < av.length := by
          by_cases g : i < av.length
          · exact g
          · rw [List.getElem?_append_right (by simp; omega)] at hi
            have := List.mem_of_getElem? hi
            rw [List.mem_replicate] at this
            cases this.2
        rw [List.getElem?_append_left (by simpa using hi'), List.getElem?_map, List.getElem?_eq_getElem hi'] at hi
        have hv : av[i] = v := by simpa using hi
        refine ⟨?_, hav v (hv ▸ List.getElem_mem hi')⟩
        rw [hsl]
        simp [List.getElem?_append_left, hi', hv]⟩ (by simp; omega)
    rw [← lg_entry_eq] at hw
    have hh0 : s₁.heap = s.heap := by rw [B.state]; rfl
    obtain ⟨t, a1, o, b1, b2, b3⟩ := hw s₁ hh0 (Stand.of_body B)
    exact ⟨t, o, a1, b1, b2, b3⟩
/-- an exception of class number X flies over the frame at pc -/
def jm_T (Γ : jm_G) (μ : jm_Mt) (d rc rs : Nat) (Q : jm_O → jm_H → Prop) (pc : Nat) (ls : List (Option Value)) (X : Nat) (h : jm_H) : Prop :=
  ∀ (p : Program) (e : Env) (R : Room) (s : State) (m : MethodId) (args : Array Value) (below : List Frame) (meth : Method) (c : Code) (T : State) (locs : List Loc) (cells slots : Nat) (arr : Array Slot) (st : List Value) (a : Addr) (ce : Cell),
    jm_E Γ μ d p R s m args meth c → jm_R Γ s h T.heap → (∀ q ∈ locs, jm_b Γ ≤ q.base) → cells + rc ≤ R.cells → slots + rs ≤ R.slots → jm_L ls arr → ls.length = μ.2.2.1 → Stand p (jm_l Γ) e R s m args below meth c T locs cells slots →
    T.heap[a]? = some ce → ce.vm = .none → s.vm.findClass (jm_xn X) = some ce.cls →
    ∃ t, Steps p.tables e below ((T.setTop (F0 m pc arr st)).pushFrame (.throwing a)) t ∧ jm_Z Γ R.cells R.slots Q s below t
theorem jm_Tout {X : Nat} (hh : μ.2.2.2.2 = []) (k : Q (.inr X) h) : jm_T Γ μ d rc rs Q pc ls X h := by
  intro p e R s m args below meth c T locs cells slots arr st a ce E hR hlo hc hs hl hn S ha hv hf
  obtain ⟨hx, hb, hre, hml, hown, hts, hC, hlk, hnm, htab, -⟩ := id E
  have hout : ∀ x ∈ c.exceptionTable.toList, covers x pc = false := by
    rw [htab, hh]
    intro x hx
    cases hx
  have S' := stand_widen (k := R.cells) (n := R.slots) S (by omega) (by omega)
  obtain ⟨g1, g2, g3, g4, g5⟩ := S'.leaveThrown a (g := F0 m pc arr st) rfl rfl rfl hout hlk
  refine ⟨_, g1, .threw a, g2, g3, ⟨.inr X, h, k, ⟨a, ce, rfl, ha, hv, ?_⟩, ?_⟩, locs, ⟨g4, g5⟩, hlo⟩
  · rw [g4.alike.findClass]
    exact hf
  · exact hR.moved g4.alike
/-- the callee runs, from where it is invoked -/
theorem jm_after {ν : jm_Mt} {d' mc ms : Nat} {av rest : List Value} {Q' : jm_O → jm_H → Prop} (hM : jm_M Γ ν d' av h mc ms Q') (hd' : d' + 1 ≤ d) (hL9 : ν.2.2.1 ≤ 17) (h1 : mc ≤ rc) (h2 : ms ≤ rs) (hrest : rest.length ≤ 4)
    (hret : ∀ v h', Q' (.inl v) h' → jm_W Γ μ d (rc - mc) (rs - ms) Q (pc + 3) ls (v.toList ++ rest) h') (hthr : ∀ X h', Q' (.inr X) h' → jm_T Γ μ d (rc - mc) (rs - ms) Q pc ls X h')
    {p : Program} {e : Env} {R : Room} {s : State} {m : MethodId} {args : Array Value} {below : List Frame} {meth : Method} {c : Code} {U : State} {locs : List Loc} {cells slots : Nat} {arr : Array Slot} {ig : Instr} {mk : MethodId}
    (E : jm_E Γ μ d p R s m args meth c) (hR : jm_R Γ s h U.heap) (hlo : ∀ q ∈ locs, jm_b Γ ≤ q.base) (hc : cells + rc ≤ R.cells) (hs : slots + rs ≤ R.slots) (hl : jm_L ls arr) (hn : ls.length = μ.2.2.1)
    (S : Stand p (jm_l Γ) e R s m args below meth c U locs cells slots) (hdg : decode c.code pc = .ok (ig, 3)) (hnm : s.methodNamed? ν.1 = some mk) (hcw : (jm_cw ν).before args s = true) (hcg : jm_good (jm_cw ν) = true) (hini : (Cond.initialized ν.1.cls).before args s = true) :
    ∃ t, Steps p.tables e below (doInvoke e (U.setTop (F0 m pc arr rest)) [] mk av.toArray).1 t ∧ jm_Z Γ R.cells R.slots Q s below t := by
  obtain ⟨hx, hb, hre, hml, hown, hts, hC, hlk, hnm9, htab, hfr, hlc, hbs⟩ := id E
  have hwU : ∀ w ∈ jm_cw ν :: jm_ws, w.before av.toArray U = true := by
    intro w hw
    rcases List.mem_cons.mp hw with rfl | hw
    · exact jm_word S.warmed hcg hcw
    · exact jm_word S.warmed (List.mem_filter.mp hw).2 (hts w hw)
  have hnU : U.methodNamed? ν.1 = some mk := S.named hnm
  obtain ⟨methY, cY, q1, q2, -, q4, -, -, -, -⟩ := jm_cw_spec hnU (hwU _ List.mem_cons_self)
  have hini' : (Cond.initialized ν.1.cls).before av.toArray U = true := word_at S.warmed (Or.inl (by first | rfl | simp [Cond.onTables, Cond.keeps, Cond.steady])) hini
  have hst : (rest.map fun v => v.category).sum ≤ 2 * rest.length := by
    clear hrest hret
    induction rest with
    | nil => simp
    | cons v r ih =>
      rcases lv_cat v with q | q <;> simp only [List.map_cons, List.sum_cons, List.length_cons, q] <;> omega
  obtain ⟨o, t, T', L, X', hL, e1, e2, ⟨⟨oc, h', hq, hoc, hR'⟩, -⟩, hst9⟩ := jm_back S (free := fun q => jm_b Γ ≤ q) (g := F0 m pc arr rest) (ig := ig) (len := 3) hM (fun st o t hq => hq.2) rfl (by show arr.size = _; rw [hml, ← hn]; exact hl.1) hdg
    (by show 2 * 0 + (rest.map fun v => v.category).sum ≤ 8; omega) hnU q1 q2 (by show d' + 1 ≤ R.frames; omega) (by show 8 + (cY.maxLocals + 11) + 36 * d' ≤ R.locals; rw [q4]; omega) (by show cells + mc ≤ R.cells; omega) (by show slots + ms ≤ R.slots; omega) hwU hini'
    ⟨rfl, jm_C.warm (U := U.calling (F0 m pc arr rest) mk av.toArray) S.warmed hC, hR.moved (U := U.calling (F0 m pc arr rest) mk av.toArray) S.warmed.alike⟩
  have hR2 : jm_R Γ s h' T'.heap := by
    rw [e1]
    refine jm_R.moved ?_ hR'
    rw [← e2]
    exact X'.warmed.alike.symm
  have hlo2 : ∀ q ∈ locs ++ L, jm_b Γ ≤ q.base := by
    intro q hq
    rcases List.mem_append.mp hq with g | g
    · exact hlo q g
    · exact hL q g
  cases oc with
  | inl v =>
    cases hoc
    obtain ⟨t2, g1, g2⟩ := hret v h' hq p e R s m args below meth c T'.heap (locs ++ L) (cells + mc) (slots + ms) arr E hR2 hlo2 (by omega) (by omega) hl hn T' rfl X'
    exact ⟨t2, hst9.trans g1, g2⟩
  | inr Xn =>
    obtain ⟨a, ce, rfl, ha, hv, hf⟩ := hoc
    obtain ⟨t2, g1, g2⟩ := hthr Xn h' hq p e R s m args below meth c T' (locs ++ L) (cells + mc) (slots + ms) arr rest a ce E hR2 hlo2 (by omega) (by omega) hl hn X' (by rw [e1]; exact ha) hv (by rw [← X'.warmed.alike.findClass, e2]; exact hf)
    exact ⟨t2, hst9.trans g1, g2⟩
end
end
section
/-! CALL ROWS, and 'throw new X("..")' -/
section
variable {Γ : jm_G} {μ ν : jm_Mt} {d d' rc rs mc ms : Nat} {Q Q' : jm_O → jm_H → Prop} {pc : Nat} {ls : List (Option Value)} {st As rest : List Value} {h : jm_H}
/-- what is asked of the callee's name, code and number of parameters -/
def jm_NV (ν : jm_Mt) (n : Nat) : Prop := Cond.initialized ν.1.cls ∈ jm_ws ∧ jm_cw ν ∈ jm_ws ∧ (ν.1.cls ≠ "java/lang/invoke/MethodHandle" ∧ ν.1.cls ≠ "java/lang/invoke/VarHandle") ∧ (parseMethodDescriptor ν.1.desc).map (fun q => q.parameters.length) = some n ∧ ν.2.2.1 ≤ 17
theorem jm_NVn {n : Nat} {sig : MethodDescriptor} (hN : (parseMethodDescriptor ν.1.desc).map (fun q => q.parameters.length) = some n) (hs : parseMethodDescriptor ν.1.desc = some sig) : sig.parameters.length = n := by
  rw [hs] at hN
  exact Option.some.inj hN
theorem jm_callS {idx : Nat} (hd : decode μ.2.1 pc = .ok (.invokestatic idx, 3)) (hl9 : Cond.methodLink μ.1.cls idx ν.1 ∈ jm_ws) (hs9 : Cond.static ν.1 ∈ jm_ws) (hN : jm_NV ν As.length) (hst : st = As.reverse ++ rest) (hrest : rest.length ≤ 4)
    (hd' : d' + 1 ≤ d) (h1 : mc ≤ rc) (h2 : ms ≤ rs) (hM : jm_M Γ ν d' As h mc ms Q')
    (hret : ∀ v h', Q' (.inl v) h' → jm_W Γ μ d (rc - mc) (rs - ms) Q (pc + 3) ls (v.toList ++ rest) h') (hthr : ∀ X h', Q' (.inr X) h' → jm_T Γ μ d (rc - mc) (rs - ms) Q pc ls X h') : jm_W Γ μ d rc rs Q pc ls st h := by
  intro p e R s m args below meth c H locs cells slots arr E hR hlo hc hs hl hn
  obtain ⟨hx, hb, hre, hml, hown, hts, hC, hlk, -⟩ := id E
  obtain ⟨n1, n2, n3, n4, n5⟩ := hN
  have hcode := hts _ n2
  have hstat := hts _ hs9
  have hini := hts _ n1
  intro T hT X
  obtain ⟨mk, methM, hnamed, hmethM, hsigM⟩ : ∃ mk methM, s.methodNamed? ν.1 = some mk ∧ s.vm.method? mk = some methM ∧ parseMethodDescriptor ν.1.desc = some methM.sig := by
    cases hq : s.methodNamed? ν.1 with
    | none => simp [Cond.before, Cond.holds, Cond.value, hq] at hstat
    | some mk =>
      obtain ⟨meth', c', q1, -, -, -, -, -, -, q2⟩ := jm_cw_spec hq hcode
      exact ⟨mk, meth', rfl, q1, q2⟩
  have hstatic : methM.isStatic = true := Cond.static_spec hnamed hmethM hstat
  obtain ⟨kP, hkP, -⟩ := className_of_methodNamed hnamed
  have hinitP : kP.init = .initialized := Cond.initialized_spec (findClass_of_methodNamed hnamed) hkP hini
  obtain ⟨vm₁, X₁, hstep₁⟩ := X.invokestatic hx hown (hts _ hl9) hnamed hmethM hstatic hkP hinitP n3 (g := F0 m pc arr st) rfl (argsL := As) (rest := rest) (jm_NVn n4 hsigM).symm hst (by rw [hb]; exact hd)
  obtain ⟨t, g1, g2⟩ := jm_after hM hd' n5 h1 h2 hrest hret hthr E (U := T.setVm vm₁) (by rw [← hT] at hR; exact hR) hlo hc hs hl hn X₁ (ig := .invokestatic idx) (by rw [hb]; exact hd) hnamed hcode (List.mem_filter.mp n2).2 hini
  exact ⟨t, hstep₁ _ fun acts => by rw [doInvoke_state]; exact g1, g2⟩
theorem jm_callV {idx b ci nb : Nat} {r : vw_C} (hd : decode μ.2.1 pc = .ok (.invokevirtual idx, 3)) (hl9 : Cond.methodLink μ.1.cls idx ν.1 ∈ jm_ws) (hi9 : Cond.instanceMethod ν.1 ∈ jm_ws) (hse9 : Cond.selects r.1 ν.1 ν.1 ∈ jm_ws) (hcl : jm_cl[ci]? = some r) (hN : jm_NV ν As.length) (hst : st = As.reverse ++ .ref b :: rest) (hb9 : h.1 b = some (ci, nb)) (hrest : rest.length ≤ 4)
    (hd' : d' + 1 ≤ d) (h1 : mc ≤ rc) (h2 : ms ≤ rs) (hM : jm_M Γ ν d' (.ref b :: As) h mc ms Q')
    (hret : ∀ v h', Q' (.inl v) h' → jm_W Γ μ d (rc - mc) (rs - ms) Q (pc + 3) ls (v.toList ++ rest) h') (hthr : ∀ X h', Q' (.inr X) h' → jm_T Γ μ d (rc - mc) (rs - ms) Q pc ls X h') : jm_W Γ μ d rc rs Q pc ls st h := by
  intro p e R s m args below meth c H locs cells slots arr E hR hlo hc hs hl hn
  obtain ⟨hx, hb, hre, hml, hown, hts, hC, hlk, -⟩ := id E
  obtain ⟨n1, n2, n3, n4, n5⟩ := hN
  have hcode := hts _ n2
  have hini := hts _ n1
  obtain ⟨-, r', f1, cellB, f2, f3, f4, -⟩ := (hR.2.2.2 b ci nb hb9).1 (jm_lt hcl jm_cl_len)
  have hcls : s.vm.findClass r.1 = some cellB.cls := by rw [f3]; exact (hC.1.1 ci r hcl).2.1
  intro T hT X
  obtain ⟨mk, methM, hnamed, hmethM, hstM, habM⟩ := Cond.instanceMethod_spec (hts _ hi9)
  obtain ⟨meth', c', q1, -, -, -, -, -, -, hsigM⟩ := jm_cw_spec hnamed hcode
  cases hmethM.symm.trans q1
  obtain ⟨c2, r2, m2, p1, p2, p3, p4, kP, hkP, hkPi⟩ := Cond.selects_spec (hts _ hse9)
  cases hcls.symm.trans p1
  cases (State.methodFound?_of_named hnamed n3).symm.trans p2
  cases hnamed.symm.trans p3
  have hselP : selectMethod e.platform s.vm cellB.cls mk = .method mk := by rw [Launch.admits_selectMethod X.admits]; exact p4
  obtain ⟨vm₁, X₁, hstep₁⟩ := X.invokevirtual hx hown (hts _ hl9) hnamed hmethM hstM hkP hkPi n3 (a := b) (cell := cellB) (by rw [hT]; exact f2)
    (fun z hz => by rw [f4] at hz; cases hz) hselP hmethM habM hkP hkPi (g := F0 m pc arr st) rfl (argsL := As) (rest := rest) (jm_NVn n4 hsigM).symm hst (by rw [hb]; exact hd)
  obtain ⟨t, g1, g2⟩ := jm_after hM hd' n5 h1 h2 hrest hret hthr E (U := T.setVm vm₁) (by rw [← hT] at hR; exact hR) hlo hc hs hl hn X₁ (ig := .invokevirtual idx) (by rw [hb]; exact hd) hnamed hcode (List.mem_filter.mp n2).2 hini
  exact ⟨t, hstep₁ _ fun acts => by rw [doInvoke_state]; exact g1, g2⟩
theorem jm_callI {idx b : Nat} (hd : decode μ.2.1 pc = .ok (.invokespecial idx, 3)) (hnm9 : ν.1.name = "<init>") (hret9 : ν.2.2.2.1 = none) (hh9 : ν.2.2.2.2 = []) (hl9 : Cond.methodLink μ.1.cls idx ν.1 ∈ jm_ws) (hi9 : Cond.instanceMethod ν.1 ∈ jm_ws) (hN : jm_NV ν As.length) (hst : st = As.reverse ++ .ref b :: rest) (hrest : rest.length ≤ 4)
    (hd' : d' + 1 ≤ d) (h1 : mc ≤ rc) (h2 : ms ≤ rs) (hM : jm_M Γ ν d' (.ref b :: As) h mc ms Q')
    (hret : ∀ v h', Q' (.inl v) h' → jm_W Γ μ d (rc - mc) (rs - ms) Q (pc + 3) ls (v.toList ++ rest) h') (hthr : ∀ X h', Q' (.inr X) h' → jm_T Γ μ d (rc - mc) (rs - ms) Q pc ls X h') : jm_W Γ μ d rc rs Q pc ls st h := by
  intro p e R s m args below meth c H locs cells slots arr E hR hlo hc hs hl hn
  obtain ⟨hx, hb, hre, hml, hown, hts, hC, hlk, -⟩ := id E
  obtain ⟨n1, n2, n3, n4, n5⟩ := hN
  have hcode := hts _ n2
  have hini := hts _ n1
  have hcode' : (Cond.code ν.1 ν.2.1 ν.2.2.1 none).before args s = true := by
    have hq := hcode
    unfold jm_cw at hq
    rw [if_pos hh9, hret9] at hq
    exact hq
  intro T hT X
  have hpl : e.platform.magicAccessors = ({} : Platform).magicAccessors := by rw [X.admits.platform]
  obtain ⟨mk, methM, cM, kP, vm₁, hnamed, hmethM, hcodeM, -, hlocalsM, -, hkP, -, hW₁, hstep₁⟩ := Steps.initColdArgs (e := e) X.here hx X.warmed hpl hown hnm9 n3 (hts _ hl9) (hts _ hi9) hcode' (f := F0 m pc arr st) rfl (fun sig hs => (jm_NVn n4 hs).symm) hst (by rw [hb]; exact hd)
  have X₁ := X.noted hW₁
  obtain ⟨t, g1, g2⟩ := jm_after hM hd' n5 h1 h2 hrest hret hthr E (U := T.setVm vm₁) (by rw [← hT] at hR; exact hR) hlo hc hs hl hn X₁ (ig := .invokespecial idx) (by rw [hb]; exact hd) hnamed hcode (List.mem_filter.mp n2).2 hini
  exact ⟨t, hstep₁ _ fun acts => by rw [doInvoke_state]; exact g1, g2⟩
theorem jm_objInit {idx a : Nat} (hd : decode μ.2.1 pc = .ok (.invokespecial idx, 3)) (hl9 : Cond.methodLink μ.1.cls idx Lib.objectInit ∈ jm_ws) (hi9 : Cond.instanceMethod Lib.objectInit ∈ jm_ws) (hc9 : Cond.code Lib.objectInit ⟨#[0xb1]⟩ 1 none ∈ jm_ws) (hd1 : 1 ≤ d) (hst : st.length ≤ 4)
    (k : jm_W Γ μ d rc rs Q (pc + 3) ls st h) : jm_W Γ μ d rc rs Q pc ls (.ref a :: st) h := by
  intro p e R s m args below meth c H locs cells slots arr E hR hlo hc hs hl hn
  obtain ⟨hx, hb, hre, hml, hown, hts, hC, hlk, hnm9, htab, hfr, hlc, -⟩ := id E
  have hst2 : (st.map fun v => v.category).sum ≤ 2 * st.length := by
    clear hst k
    induction st with
    | nil => simp
    | cons v r ih =>
      rcases lv_cat v with q | q <;> simp only [List.map_cons, List.sum_cons, List.length_cons, q] <;> omega
  exact W.objInit hx hb hown (hts _ hl9) (hts _ hi9) (hts _ hc9) rfl (by show arr.size = _; rw [hml, ← hn]; exact hl.1) rfl hd (by omega) (by show 2 * 0 + _ + 12 ≤ R.locals; omega) (k p e R s m args below meth c H locs cells slots arr E hR hlo hc hs hl hn)
end
end
section
/-! 'throw new X("..")': the constructor, then athrow, out of the method -/
section
variable {p : Program} {l : Launch} {e : Env} {R : Room} {s : State} {m : MethodId} {args : Array Value} {below : List Frame} {meth : Method} {c : Code} {T9 : State} {locs : List Loc} {cells slots : Nat}
set_option maxHeartbeats 4000000 in
theorem jm_ctorThrow (X : Stand p l e R s m args below meth c T9 locs cells slots) (hexec : p.tables.exec = Jvm.exec) (htr : e.platform.stackTraces = false) {own cls : String} {names : List String} {ic : Nat}
    (hown : s.vm.findClass own = some m.cls) (hcls : Bundle.fit cls = true) (hnames : ∀ n ∈ names, Bundle.fit n = true) (h : ∀ a ∈ Bundle.ownAtoms own ic cls names, a.before args s = true)
    (hstat : ∀ (q : Addr) (cell : Cell), s.heap[q]? = some cell → cell.vm.isStatics = true → T9.heap[q]? = some cell)
    {a : Addr} {cX : ClassId} {kX : Class} (hfoundX : s.vm.findClass cls = some cX) (hkX : s.vm.classes[cX]? = some kX) (hcell : T9.heap[a]? = some (freshCell cX kX)) (hnew : ∀ (cell : Cell), s.heap[a]? = some cell → cell.vm.isStatics = false)
    {msg : Value} (hmsg : msg.isRef = true) {g : JFrame} (hg : g.method = m) (hsize : g.locals.size = c.maxLocals) (hlocked : g.locked = none) (hentered : g.entered = []) {rest : List Value} (hstack : g.stack = msg :: .ref a :: .ref a :: rest)
    (hd6 : decode c.code g.pc = .ok (.invokespecial ic, 3)) (hd9 : decode c.code (g.pc + 3) = .ok (.athrow, 1)) (hout : ∀ x ∈ c.exceptionTable.toList, covers x (g.pc + 3) = false)
    (hRframes : names.length + 3 < R.frames) (hRlocals : 2 * g.monitorRoom + ((Value.ref a :: rest).map fun v => v.category).sum + (13 * (names.length + 1) + 42) ≤ R.locals) (hlocks : meth.locks = false) :
    ∃ (U : State) (ce : Cell) (L : List Loc), Steps p.tables e below (T9.setTop g) U ∧ U.status = .running ∧ Ended U below (.threw a) ∧ s.WarmedH U.vm ∧ s.sameButNew ({ U with vm := s.vm } : State) (locs ++ L) cells slots ∧ (∀ q ∈ L, q.base = a) ∧
      U.heap[a]? = some ce ∧ U.heap.size = T9.heap.size ∧ (∀ q : Nat, q ≠ a → U.heap[q]? = T9.heap[q]?) ∧ ce.vm = .none ∧ ce.cls = cX := by
  have howns : e.platform.frameOwnsMonitors = true := by rw [X.admits.platform]
  have hfin : e.platform.finalization = false := by rw [X.admits.platform]
  have hpl : e.platform.magicAccessors = ({} : Platform).magicAccessors := by rw [X.admits.platform]
  have a' : ∀ x, x ∈ Bundle.ownAtoms own ic cls names → x.holds args s none s [] = true := fun x hx => h x hx
  obtain ⟨T, Z0, L, -, Y⟩ := ThrowableC.of_atoms (args := args) howns hfin hpl (fun x hx => h x (by simp [Bundle.ownAtoms, hx]))
  obtain ⟨Z, M, LZ, LM, hnZ⟩ := Init0T.ofS_atoms (args := args) hpl L Y (fun x hx => h x (by simp [Bundle.ownAtoms, hx]))
  obtain ⟨P1, Ps, hlen, L1, hL, hP1m, hlink1, hlink⟩ := Bundle.chainS (args := args) hpl hnZ names cls hcls hnames (fun x hx => h x (by simp [Bundle.ownAtoms, hx]))
  have hfound : s.vm.findClass cls = some P1.m.cls := findClass_of_methodNamed hP1m
  cases Option.some.inj (hfoundX.symm.trans hfound)
  obtain ⟨c1, kX', hc1, hk, hord, -, -, hn6⟩ := Cond.instantiable_spec (a' (.instantiable cls 6) (by simp [Bundle.ownAtoms]))
  cases Option.some.inj (hc1.symm.trans hfound)
  cases Option.some.inj (hkX.symm.trans hk)
  have sel : ∀ (z : MethodName) (mz : MethodId), s.methodNamed? z = some mz → (z.cls ≠ "java/lang/invoke/MethodHandle" ∧ z.cls ≠ "java/lang/invoke/VarHandle") → (Cond.selects cls z z).before args s = true → selectMethod e.platform s.vm P1.m.cls mz = .method mz := by
    intro z mz hz hz2 hs
    obtain ⟨c2, r2, m2, q1, q2, q3, q4, -⟩ := Cond.selects_spec hs
    cases Option.some.inj (q1.symm.trans hfound)
    cases Option.some.inj (q2.symm.trans (State.methodFound?_of_named hz hz2))
    cases Option.some.inj (q3.symm.trans hz)
    rw [Launch.admits_selectMethod X.admits]; exact q4
  have hsel0 := sel _ _ Y.fill0 (by decide) (a' (.selects cls Bundle.tFill0 Bundle.tFill0) (by simp [Bundle.ownAtoms]))
  have hselF := sel _ _ Y.fill (by decide) (a' (.selects cls Bundle.tFill Bundle.tFill) (by simp [Bundle.ownAtoms]))
  obtain ⟨cellS0, hcS0, hiss⟩ := Y.statics
  obtain ⟨u0, hu0⟩ := Cond.staticRefV Y.unassigned L.unassignedStatic L.statics hcS0 hiss (a' (.isRef (.static Bundle.tN "UNASSIGNED_STACK" Bundle.steD)) (by simp [Bundle.ownAtoms]))
  obtain ⟨sen, hsen⟩ := Cond.staticRefV Y.sentinel L.sentinelStatic L.statics hcS0 hiss (a' (.isRef (.static Bundle.tN "SUPPRESSED_SENTINEL" Bundle.listD)) (by simp [Bundle.ownAtoms]))
  obtain ⟨ci198, i198, fB, hk198, hg198, ha198, hsB, -, hnB, htB, hffB⟩ := Cond.ownField (t := .object "java/lang/Object") Y.found L.cls (by decide +kernel) (a' (.fieldLink Bundle.tN 198 Bundle.tN "backtrace" "Ljava/lang/Object;") (by simp [Bundle.ownAtoms])) (a' (.lays Bundle.tN Bundle.tN "backtrace" "Ljava/lang/Object;") (by simp [Bundle.ownAtoms])) e.platform hpl
  have hcellS := hstat _ _ hcS0 hiss
  have hknownS : cellS0.vm ≠ .unknown := by
    intro hu
    rw [hu] at hiss
    cases hiss
  have hneS : T.aS ≠ a := by
    intro q
    rw [q] at hcS0
    rw [hnew _ hcS0] at hiss
    cases hiss
  obtain ⟨iM, hffM⟩ := Y.msg
  obtain ⟨tyC, dC, hdC, hdnC⟩ := Cond.laysAt hfound hk Y.cause (a' (.lays cls Bundle.tN "cause" "Ljava/lang/Throwable;") (by simp [Bundle.ownAtoms]))
  obtain ⟨tyS, dS, hdS, hdnS⟩ := Cond.laysAt hfound hk Y.stack (a' (.lays cls Bundle.tN "stackTrace" Bundle.steD) (by simp [Bundle.ownAtoms]))
  obtain ⟨tyP, dP, hdP, hdnP⟩ := Cond.laysAt hfound hk Y.supp (a' (.lays cls Bundle.tN "suppressedExceptions" Bundle.listD) (by simp [Bundle.ownAtoms]))
  obtain ⟨tyM, dM, hdM, hdnM⟩ := Cond.laysAt hfound hk hffM (a' (.lays cls Bundle.tN "detailMessage" "Ljava/lang/String;") (by simp [Bundle.ownAtoms]))
  obtain ⟨tyB, dB, hdB, hdnB⟩ := Cond.laysAt hfound hk hffB (a' (.lays cls Bundle.tN "backtrace" "Ljava/lang/Object;") (by simp [Bundle.ownAtoms]))
  have bC := Cond.laysApart hdB hdC hdnB hdnC (by rw [hnB, Y.causeName]; decide)
  have bS := Cond.laysApart hdB hdS hdnB hdnS (by rw [hnB, Y.stackName]; decide)
  have bP := Cond.laysApart hdB hdP hdnB hdnP (by rw [hnB, Y.suppName]; decide)
  have hskip : SkipFacts T e.platform s (fun u => u) u0 ((preparedCellV T.toThrowableT (freshCell P1.m.cls kX) a u0 sen).withEntry T9.cur) :=
    ⟨{ ci198 := ci198, i198 := i198, fBack := fB }, ⟨hk198, hg198, ha198, hsB⟩, by
      have := fresh_default (c := P1.m.cls) tyB
      rw [htB] at this
      simpa [preparedCellV, Cell.setSlot, Cell.withEntry, Array.getElem?_setIfInBounds, bC, bS, bP, bC.symm, bS.symm, bP.symm, defaultValue] using this, fun _ _ => rfl⟩
  obtain ⟨tm, methC, cdC, kC, vm₁, hnC, -, -, -, -, -, -, -, hW₁, st1⟩ := Steps.initColdS (tb := p.tables) (e := e) (below := below) (s := s) (U := T9) X.here hexec X.warmed hpl hown (t := Bundle.initS cls) rfl rfl (Bundle.fit_spec hcls).2
    (a' (.methodLink own ic (Bundle.initS cls)) (by simp [Bundle.ownAtoms])) (h (.instanceMethod (Bundle.initS cls)) (by cases names <;> simp [Bundle.ownAtoms, Bundle.chainSAtoms, Bundle.passSAtoms])) (bytes := Bundle.six) (maxL := 2) (h (.code (Bundle.initS cls) Bundle.six 2 none) (by cases names <;> simp [Bundle.ownAtoms, Bundle.chainSAtoms, Bundle.passSAtoms]))
    (f := g) hg (a := a) (msg := msg) (rest := .ref a :: rest) hstack hd6
  cases Option.some.inj (hnC.symm.trans hP1m)
  have X₁ := X.noted hW₁
  obtain ⟨vm₂, X₂, st2⟩ := X₁.ctorMessageOffV hexec (g := { g with stack := .ref a :: rest }) hg hsize T L Z LZ M LM (P1 :: Ps)
    (fun P hP => by rcases List.mem_cons.mp hP with rfl | hP; exact L1; exact hL P hP) ⟨hlink1, hlink⟩ (u0 := u0) (sen := sen) (self := a) hmsg (cell := freshCell P1.m.cls kX) (cellS := cellS0)
    hcell (fun _ => by simp) (by simp) rfl rfl hsel0 hselF hcellS hneS hknownS hu0 hsen
    (Takes.of_laid hk hord tyC (by rw [Y.causeType]; rfl)) (Takes.of_laid hk hord tyS (by rw [Y.stackType]; exact fits_refV_array _ u0)) (Takes.of_laid hk hord tyP (by rw [Y.suppType]; exact fits_refV_object _ sen))
    (Takes.of_laid hk hord tyM (by rw [Y.msgType]; exact fits_refV_object _ ⟨msg, hmsg⟩)) Y.objLocals hskip htr [] hd6
    (by simp only [List.length_cons, hlen]; omega) (by simp only [List.length_cons, hlen]; exact hRlocals)
  obtain ⟨hwalk, hrun, hended, hWU, hsame⟩ := X₂.athrowLeaves hexec (g := { g with stack := .ref a :: rest, pc := g.pc + 3 }) hg hlocked hentered hout (a := a) (rest := rest) rfl hd9 hlocks
  have hlt : a < ((T9.setVm vm₁).setVm vm₂).heap.size := (Array.getElem?_eq_some_iff.mp hcell).1
  have hU := heapAt_setCell_self (s := (T9.setVm vm₁).setVm vm₂) (plainBareV T.toThrowableT (freshCell P1.m.cls kX) a u0 sen msg) hlt
  refine ⟨_, _, _, st1 _ (fun acts => ?_), hrun, hended, hWU, hsame, ?_, hU, ?_, ?_, rfl, rfl⟩
  · rw [doInvoke_state]
    exact st2 _ hwalk
  · intro q hq
    simp only [List.mem_cons, List.not_mem_nil, or_false] at hq
    rcases hq with rfl | rfl | rfl | rfl | rfl <;> rfl
  · exact size_setCell _ _ _
  · intro q hq
    exact heapAt_setCell_ne _ (Ne.symm hq)
end
section
variable {Γ : jm_G} {μ : jm_Mt} {d rc rs : Nat} {Q : jm_O → jm_H → Prop} {pc : Nat} {ls : List (Option Value)} {st : List Value} {h : jm_H}
theorem jm_isRef {C n d9 : String} {b : Nat} {s : State} {H0 : Heap} {args : Array Value} (hZ : va_Zq C n d9 (fun q => b ≤ q) s H0) (hs : ∀ a, a < b → s.heap[a]? = H0[a]?) : (Cond.isRef (.static C n d9)).before args s = true := by
  rcases hZ with hZ | ⟨t, hZ⟩ <;>
  · obtain ⟨cf, kf, fi, f, a, cell, h1, h2, h3, h4, h5, h6, h7, h8⟩ := hZ
    have h9 : s.heap[a]? = some cell := by rw [hs a (Nat.not_le.mp h8)]; exact h5
    simp [Cond.before, Cond.holds, Cond.value, Term.eval, State.fieldNamed?, h1, h2, h4, h9, h6, h7]
/-- the words of 'throw new cls("..")' in the class own: the pool's entries of the class and of its constructor; the classes above it -/
def jm_XW (own cls : String) (idx ic : Nat) (names : List String) : Prop :=
  Cond.classLink own idx cls ∈ jm_ws ∧ Cond.instantiable cls 6 ∈ jm_ws ∧ Cond.initialized cls ∈ jm_ws ∧ Bundle.fit cls = true ∧ (∀ n ∈ names, Bundle.fit n = true) ∧
  ∀ w ∈ Bundle.ownAtoms own ic cls names, w ∈ jm_ws ∨ w = .isRef (.static Bundle.tN "UNASSIGNED_STACK" Bundle.steD) ∨ w = .isRef (.static Bundle.tN "SUPPRESSED_SENTINEL" Bundle.listD) ∨ w = .laysStatic Bundle.tN "UNASSIGNED_STACK" Bundle.steD ∨ w = .laysStatic Bundle.tN "SUPPRESSED_SENTINEL" Bundle.listD
set_option maxHeartbeats 4000000 in
theorem jm_throw {idx ids ic X : Nat} {tx : String} {names : List String} (hd0 : decode μ.2.1 pc = .ok (.new idx, 3)) (hd3 : decode μ.2.1 (pc + 3) = .ok (.dup, 1)) (hd4 : decode μ.2.1 (pc + 3 + 1) = .ok (.ldc ids, 2)) (hd6 : decode μ.2.1 (pc + 3 + 1 + 2) = .ok (.invokespecial ic, 3)) (hd9 : decode μ.2.1 (pc + 3 + 1 + 2 + 3) = .ok (.athrow, 1))
    (hw : jm_XW μ.1.cls (jm_xn X) idx ic names) (htx : (μ.1.cls, ids, tx) ∈ jm_strs) (hh : μ.2.2.2.2 = []) (h1 : 1 ≤ rc) (h2 : 6 ≤ rs) (hdd : names.length + 3 < d) (hnl : names.length ≤ 4) (hst : st.length ≤ 4) (k : Q (.inr X) h) : jm_W Γ μ d rc rs Q pc ls st h := by
  intro p e R s m args below meth c H locs cells slots arr E hR hlo hc hs hl hn
  obtain ⟨hx, hb, hre, hml, hown, hts, hC, hlk, hnm9, htab, hfr, hlc, hbs, hold, hns⟩ := id E
  obtain ⟨w1, w2, w3, w4, w5, w6⟩ := hw
  obtain ⟨-, -, hstr, hz1, hz2, -, hz3, hz4, hfl⟩ := hC
  obtain ⟨sa, hsa⟩ := hstr _ htx
  have hout : ∀ q, ∀ x ∈ c.exceptionTable.toList, covers x q = false := by
    rw [htab, hh]
    intro q x hx
    cases hx
  have hst2 : (st.map fun v => v.category).sum ≤ 2 * st.length := by
    clear hst k
    induction st with
    | nil => simp
    | cons v r ih =>
      rcases lv_cat v with q | q <;> simp only [List.map_cons, List.sum_cons, List.length_cons, q] <;> omega
  refine W.newc (n := 6) hx hb hown (hts _ w1) (hts _ w2) (hts _ w3) rfl hd0 (by omega) (by omega) fun cC kC f1 f2 f3 f4 => ?_
  refine lv_dup hx hb hd3 rfl ?_
  refine va_ldcS hx hb hown hsa hd4 ?_
  intro T hT S
  have hHs : T.heap.size = H.size + 1 := by rw [hT, Array.size_push]
  have hHn : T.heap[H.size]? = some (freshCell cC kC) := by rw [hT, Array.getElem?_push_size]
  have hHo : ∀ q : Nat, q < H.size → T.heap[q]? = H[q]? := fun q hq => by rw [hT, Array.getElem?_push, if_neg (Nat.ne_of_lt hq)]
  have S' := stand_widen (k := R.cells) (n := R.slots) S (by omega) (by omega)
  obtain ⟨U, ce, L, g1, g2, g3, g4, g5, g6, g7, g8, g9, g10, g11⟩ := jm_ctorThrow S' hx (Launch.traces_off hfl S.admits) hown w4 w5
    (fun w hw => by
      rcases w6 w hw with q | rfl | rfl | rfl | rfl
      · exact hts w q
      · exact jm_isRef hz1 hold
      · exact jm_isRef hz2 hold
      · exact hz3.word hold
      · exact hz4.word hold)
    (fun q cell hq hi => by
      have hqb : q < jm_b Γ := by
        rcases Nat.lt_or_ge q (jm_b Γ) with z | z
        · exact z
        · rw [hns q cell z hq] at hi
          cases hi
      rw [hHo q (Nat.lt_of_lt_of_le hqb hR.1), hR.2.1 q hqb, ← hold q hqb]
      exact hq)
    f1 f2 hHn (fun cell hq => hns _ cell hR.1 hq) (msg := .ref sa) rfl (g := F0 m (pc + 3 + 1 + 2) arr (.ref sa :: .ref H.size :: .ref H.size :: st)) rfl (by show arr.size = _; rw [hml, ← hn]; exact hl.1) rfl rfl (rest := st) rfl (by rw [hb]; exact hd6) (by rw [hb]; exact hd9) (hout _) (by omega)
    (by show 2 * 0 + (1 + (st.map fun v => v.category).sum) + _ ≤ R.locals; omega) hlk
  refine ⟨U, g1, .threw H.size, g2, g3, ⟨.inr X, h, k, ⟨H.size, ce, rfl, g7, g10, ?_⟩, ?_⟩, locs ++ L, ⟨g4, g5⟩, fun q hq => ?_⟩
  · rw [g4.alike.findClass, g11]
    exact f1
  · refine jm_R.moved g4.alike ?_
    obtain ⟨b1, b2, b3, b4⟩ := hR
    have hlt : ∀ (a : Nat), a < H.size → U.heap[a]? = H[a]? := fun a ha => (g9 a (Nat.ne_of_lt ha)).trans (hHo a ha)
    refine ⟨by omega, fun a ha => (hlt a (by omega)).trans (b2 a ha), fun a cell ha hcell => ?_, fun a kk n hk => ?_⟩
    · by_cases z : a = H.size
      · subst z
        cases hcell.symm.trans g7
        rw [g10]
        rfl
      · have z2 : a < U.heap.size := (Array.getElem?_eq_some_iff.mp hcell).1
        rw [hlt a (by omega)] at hcell
        exact b3 a cell ha hcell
    · obtain ⟨q1, q2, q3⟩ := b4 a kk n hk
      refine ⟨fun z => ?_, fun z1 z2 => ?_, fun z => ?_⟩
      · obtain ⟨c1, r, c2, c3⟩ := q1 z
        refine ⟨c1, r, c2, c3.kept (hlt a ?_)⟩
        obtain ⟨cell, c4, -⟩ := c3
        exact (Array.getElem?_eq_some_iff.mp c4).1
      · obtain ⟨c1, c2, c3⟩ := q2 z1 z2
        exact ⟨c1, c2, (hlt a (Array.getElem?_eq_some_iff.mp c3).1).trans c3⟩
      · obtain ⟨c1, xs, c2, c3⟩ := q3 z
        refine ⟨c1, xs, c2.kept (hlt a ?_), c3⟩
        obtain ⟨scr, c4, -⟩ := c2
        exact (Array.getElem?_eq_some_iff.mp c4).1
  · rcases List.mem_append.mp hq with z | z
    · exact hlo q z
    · rw [g6 q z]
      exact hR.1
end
end
section
/-! An exception is caught in the frame: the search resolves the catch types, cold or warm -/
section
variable {e : Env} {f : JFrame} {a : Addr}
theorem jm_go_cold {E : CtlPost} {d : Bool} {acts : List Action} {s : State} {Q : Handler → Pre} {x : ExceptionTableEntry} {t : List ExceptionTableEntry} {c : ClassId} {cell : Cell} (hx : covers x f.pc = true) (h0 : x.catchType ≠ 0)
    (hcl : s.vm.ClassLinks e.platform f.method.cls x.catchType c) (hcell : s.heap[a]? = some cell) (hobj : ∀ k, cell.vm ≠ .statics k)
    (hk : ∃ k, (s.vm.noted f.method.cls x.catchType (.cls c)).classes[cell.cls]? = some k) (hc : ∃ k, (s.vm.noted f.method.cls x.catchType (.cls c)).classes[c]? = some k) :
    wp (findHandler.go f a (x :: t)) Q E e d acts s ↔
      if (s.vm.noted f.method.cls x.catchType (.cls c)).assignable cell.cls c = true then Q (.found x.handlerPc) d acts (s.setVm (s.vm.noted f.method.cls x.catchType (.cls c))) else wp (findHandler.go f a t) Q E e d acts (s.setVm (s.vm.noted f.method.cls x.catchType (.cls c))) := by
  obtain ⟨ha, ht⟩ := (resolveClass_links e.toSetting hcl).op (op := VmOp.resolveClass f.method.cls x.catchType) rfl
  have hsz : (s.vm.noted f.method.cls x.catchType (.cls c)).classes.size ≤ s.vm.classes.size := by no_record
  simp only [covers] at hx
  generalize hvm : s.vm.noted f.method.cls x.catchType (.cls c) = vm' at ha ht hsz hk hc ⊢
  cases hfit : vm'.assignable cell.cls c <;>
    simp [findHandler.go, hx, h0, ha, ht, hsz, hcell, hobj, hk, hc, hfit, VmOp.dirties, VmOp.acts]
theorem jm_stepCatch {s : State} {r : List Frame} {pc : Nat} {vm' : Vm} (hfind : ∀ (Q : Handler → Pre) (E : CtlPost) (d : Bool) (acts : List Action), wp (findHandler f a) Q E e d acts s ↔ Q (.found pc) d acts (s.setVm vm')) :
    (stepThrowing e s a (.java f :: r)).Is ((s.setVm vm').setFrames (.java { f with pc := pc, stack := [.ref a] } :: r)) [] := by
  simp only [stepThrowing, searchFrame, vmDo]
  generalize hr : Sem.go _ e false [] s = res
  obtain ⟨as, rfl, ha⟩ := Sem.eq_ok_of hr (a := Handler.found pc) (s' := s.setVm vm') (acts' := []) (by simp [hfind _ _ _ _])
  exact ⟨rfl, ha⟩
end
section
variable {p : Program} {l : Launch} {e : Env} {R : Room} {s : State} {m : MethodId} {args : Array Value} {below : List Frame} {meth : Method} {c : Code} {T : State} {locs : List Loc} {cells slots : Nat}
theorem jm_caught (X : Stand p l e R s m args below meth c T locs cells slots) {a : Addr} {g : JFrame} (hg : g.method = m) {pc : Nat} {vm' : Vm}
    (hfind : ∀ (Q : Handler → Pre) (E : CtlPost) (d : Bool) (acts : List Action), wp (findHandler g a) Q E e d acts ((T.setTop g).pushFrame (.throwing a)) ↔ Q (.found pc) d acts (((T.setTop g).pushFrame (.throwing a)).setVm vm')) {target : State}
    (hrest : Steps p.tables e below ((T.setVm vm').setTop { g with pc := pc, stack := [.ref a] }) target) : Steps p.tables e below ((T.setTop g).pushFrame (.throwing a)) target := by
  have h : At T g.method c below := by rw [hg]; exact X.here
  obtain ⟨hgo, hw⟩ := h.throwing a
  refine Steps.head hgo hw ?_
  rw [stepThread_throwing (frames_entered h.top _), (jm_stepCatch (s := (T.setTop g).pushFrame (.throwing a)) hfind).1]
  obtain ⟨g₀, hr⟩ := X.frames_eq
  have hr' : (T.setVm vm').frames = .java g₀ :: below := hr
  rw [State.setTop_of_frames _ hr'] at hrest
  have e1 : (((T.setTop g).pushFrame (.throwing a)).setVm vm').setFrames (.java { g with pc := pc, stack := [.ref a] } :: T.frames.tail) = (T.setVm vm').setFrames (.java { g with pc := pc, stack := [.ref a] } :: below) := by
    rw [State.pushFrame, State.setTop_of_frames _ hr, State.setFrames_setFrames, X.tail]
    show ((T.setFrames _).setVm vm').setFrames _ = _
    rw [show (T.setFrames (Frame.throwing a :: (T.setFrames (.java g :: below)).frames)).setVm vm' = (T.setVm vm').setFrames (Frame.throwing a :: (T.setFrames (.java g :: below)).frames) from rfl, State.setFrames_setFrames]
  rw [e1]
  exact hrest
/-- the search through a list whose entries all cover the pc and name classes: those that aren't the exception's are passed, the first that is takes it -/
theorem jm_search {u : State} {g : JFrame} {a : Addr} {cell : Cell} {own xn : String} {cX : ClassId} (hW0 : s.WarmedH u.vm) (hpl : e.platform.magicAccessors = ({} : Platform).magicAccessors) (hown : s.vm.findClass own = some g.method.cls) (hcell : u.heap[a]? = some cell) (hvm : cell.vm = .none) (hcX : s.vm.findClass xn = some cell.cls) (cat : Nat → String) :
    ∀ (L : List (Nat × Nat × Nat × Nat)) (hp : Nat) (v : Vm), s.WarmedH v → (∀ q ∈ L, q.1 ≤ g.pc ∧ g.pc < q.2.1 ∧ q.2.2.2 ≠ 0 ∧ (Cond.classLink own q.2.2.2 (cat q.2.2.2)).before args s = true ∧ (cat q.2.2.2 = xn ∨ va_Nc xn (cat q.2.2.2) s)) →
      (L.find? (fun q => cat q.2.2.2 == xn)).map (fun q => q.2.2.1) = some hp →
      ∃ v', s.WarmedH v' ∧ ∀ (Q : Handler → Pre) (E : CtlPost) (d : Bool) (acts : List Action), wp (findHandler.go g a (tableOf L)) Q E e d acts (u.setVm v) ↔ Q (.found hp) d acts (u.setVm v') := by
  intro L
  induction L with
  | nil => intro hp v _ _ h; cases h
  | cons x t ih =>
    intro hp v hv hall hfind
    obtain ⟨c1, c2, c3, c4, c5⟩ := hall x List.mem_cons_self
    obtain ⟨c', hc', hcl⟩ := Cond.classLink_spec hown c4 e.platform hpl
    obtain ⟨dk, _, _, kt, hd, _, _, _, _, hkt, _, hopen⟩ := hcl.here
    have hcl₀ := hv.classLinks hcl
    have hW' : s.WarmedH (v.noted g.method.cls x.2.2.2 (.cls c')) := hv.noted hd hopen (State.rightAt_cls hcl)
    obtain ⟨ks, hks, -⟩ := Vm.findClass_spec hcX
    obtain ⟨ks', hks', -⟩ := hW'.alike.2.2 _ _ hks
    obtain ⟨kt', hkt', -⟩ := hW'.alike.2.2 _ _ hkt
    have hgo : ∀ (Q : Handler → Pre) (E : CtlPost) (d : Bool) (acts : List Action), _ := fun Q E d acts => jm_go_cold (e := e) (f := g) (a := a) (E := E) (d := d) (acts := acts) (s := u.setVm v) (Q := Q) (x := ⟨x.1, x.2.1, x.2.2.1, x.2.2.2⟩) (t := tableOf t) (c := c') (cell := cell) (by simp [covers, c1, c2]) c3 hcl₀ hcell (fun k h => by rw [hvm] at h; cases h) ⟨ks', hks'⟩ ⟨kt', hkt'⟩
    by_cases hq : cat x.2.2.2 = xn
    · have hcc : c' = cell.cls := by rw [hq] at hc'; exact Option.some.inj (hc'.symm.trans hcX)
      have hp' : x.2.2.1 = hp := by
        rw [List.find?_cons_of_pos (by simp [hq])] at hfind
        exact Option.some.inj hfind
      refine ⟨_, hW', fun Q E d acts => ?_⟩
      have h9 := hgo Q E d acts
      rw [if_pos (by rw [hcc]; exact va_asg _ _)] at h9
      rw [← hp']
      exact h9
    · obtain ⟨c0, t0, f1, f2, f3⟩ := c5.resolve_left hq
      cases Option.some.inj (f1.symm.trans hcX)
      cases Option.some.inj (f2.symm.trans hc')
      rw [List.find?_cons_of_neg (by simp [hq])] at hfind
      obtain ⟨v', g1, g2⟩ := ih hp _ hW' (fun q hq => hall q (List.mem_cons_of_mem _ hq)) hfind
      refine ⟨v', g1, fun Q E d acts => ?_⟩
      have h9 := hgo Q E d acts
      rw [if_neg (by show ¬ (v.noted g.method.cls x.2.2.2 (.cls c')).assignable _ _ = true; rw [hW'.alike.assignable, f3]; decide)] at h9
      exact h9.trans (g2 Q E d acts)
end
end
section
/-! MORE ROWS: a handler takes the exception; a nest mate's static method; an int array's clone; the cast behind it; consequence -/
section
variable {Γ : jm_G} {μ ν : jm_Mt} {d d' rc rs mc ms : Nat} {Q Q' : jm_O → jm_H → Prop} {pc : Nat} {ls : List (Option Value)} {st As rest : List Value} {h : jm_H}
/-- the name of the class at a catch type -/
def jm_cat (k : Nat) : Nat := match k with
  | 13 => 0
  | 15 => 1
  | _ => 2
theorem jm_Tcatch {X hp : Nat} (hX : X < 3) (hcls : ∀ q ∈ μ.2.2.2.2, q.1 ≤ pc ∧ pc < q.2.1 ∧ q.2.2.2 ≠ 0 ∧ Cond.classLink μ.1.cls q.2.2.2 (jm_xn (jm_cat q.2.2.2)) ∈ jm_ws ∧ jm_cat q.2.2.2 < 3) (hn9 : ∀ a b, a < 3 → b < 3 → jm_xn a = jm_xn b → a = b)
    (hfind : (μ.2.2.2.2.find? (fun q => jm_xn (jm_cat q.2.2.2) == jm_xn X)).map (fun q => q.2.2.1) = some hp) (k : ∀ a, jm_W Γ μ d rc rs Q hp ls [.ref a] h) : jm_T Γ μ d rc rs Q pc ls X h := by
  intro p e R s m args below meth c T locs cells slots arr st a ce E hR hlo hc hs hl hn S ha hv hf
  obtain ⟨hx, hb, hre, hml, hown, hts, hC, hlk, hnm, htab, -⟩ := id E
  have hpl : e.platform.magicAccessors = ({} : Platform).magicAccessors := by rw [S.admits.platform]
  obtain ⟨v', hv', hfin⟩ := jm_search (e := e) (args := args) (s := s) (u := (T.setTop (F0 m pc arr st)).pushFrame (.throwing a)) (g := F0 m pc arr st) (a := a) (cell := ce) (own := μ.1.cls) (xn := jm_xn X) (cX := ce.cls) (by rw [Stand.throwing_vm]; exact S.warmed) hpl hown (by rw [Stand.throwing_heap]; exact ha) hv hf
    (fun k => jm_xn (jm_cat k)) μ.2.2.2.2 hp T.vm S.warmed (fun q hq => by
      obtain ⟨c1, c2, c3, c4, c5⟩ := hcls q hq
      refine ⟨c1, c2, c3, hts _ c4, ?_⟩
      by_cases hz : jm_cat q.2.2.2 = X
      · exact Or.inl (by rw [hz])
      · exact Or.inr (hC.2.2.2.2.2.1 X _ hX c5 (Ne.symm hz))) hfind
  have hfind2 : ∀ (Q : Handler → Pre) (E : CtlPost) (d : Bool) (acts : List Action), wp (findHandler (F0 m pc arr st) a) Q E e d acts ((T.setTop (F0 m pc arr st)).pushFrame (.throwing a)) ↔ Q (.found hp) d acts (((T.setTop (F0 m pc arr st)).pushFrame (.throwing a)).setVm v') := by
    intro Q E d acts
    rw [W.findHandler_eq (meth := meth) (code := c) (by rw [Stand.throwing_vm]; exact S.method') S.code, htab]
    have h9 := hfin Q E d acts
    have e9 : ((T.setTop (F0 m pc arr st)).pushFrame (.throwing a)).setVm T.vm = (T.setTop (F0 m pc arr st)).pushFrame (.throwing a) := by
      exact (congrArg (fun v => ((T.setTop (F0 m pc arr st)).pushFrame (.throwing a)).setVm v) (Stand.throwing_vm T (F0 m pc arr st) a).symm).trans (State.setVm_self _)
    rw [e9] at h9
    exact h9
  have S2 := S.noted hv'
  obtain ⟨t, g1, g2⟩ := k a p e R s m args below meth c T.heap locs cells slots arr E hR hlo hc hs hl hn (T.setVm v') rfl S2
  exact ⟨t, jm_caught S rfl hfind2 g1, g2⟩
theorem jm_callSN {idx : Nat} {host : String} (hd : decode μ.2.1 pc = .ok (.invokestatic idx, 3)) (hl9 : Cond.methodLinkNest μ.1.cls idx ν.1 host ∈ jm_ws) (hs9 : Cond.static ν.1 ∈ jm_ws) (hN : jm_NV ν As.length) (hst : st = As.reverse ++ rest) (hrest : rest.length ≤ 4)
    (hd' : d' + 1 ≤ d) (h1 : mc ≤ rc) (h2 : ms ≤ rs) (hM : jm_M Γ ν d' As h mc ms Q')
    (hret : ∀ v h', Q' (.inl v) h' → jm_W Γ μ d (rc - mc) (rs - ms) Q (pc + 3) ls (v.toList ++ rest) h') (hthr : ∀ X h', Q' (.inr X) h' → jm_T Γ μ d (rc - mc) (rs - ms) Q pc ls X h') : jm_W Γ μ d rc rs Q pc ls st h := by
  intro p e R s m args below meth c H locs cells slots arr E hR hlo hc hs hl hn
  obtain ⟨hx, hb, hre, hml, hown, hts, hC, hlk, -⟩ := id E
  obtain ⟨n1, n2, n3, n4, n5⟩ := hN
  have hcode := hts _ n2
  have hstat := hts _ hs9
  have hini := hts _ n1
  intro T hT X
  obtain ⟨mk, methM, hnamed, hmethM, hsigM⟩ : ∃ mk methM, s.methodNamed? ν.1 = some mk ∧ s.vm.method? mk = some methM ∧ parseMethodDescriptor ν.1.desc = some methM.sig := by
    cases hq : s.methodNamed? ν.1 with
    | none => simp [Cond.before, Cond.holds, Cond.value, hq] at hstat
    | some mk =>
      obtain ⟨meth', c', q1, -, -, -, -, -, -, q2⟩ := jm_cw_spec hq hcode
      exact ⟨mk, meth', rfl, q1, q2⟩
  have hstatic : methM.isStatic = true := Cond.static_spec hnamed hmethM hstat
  obtain ⟨kP, hkP, -⟩ := className_of_methodNamed hnamed
  have hinitP : kP.init = .initialized := Cond.initialized_spec (findClass_of_methodNamed hnamed) hkP hini
  obtain ⟨vm₁, X₁, hstep₁⟩ := X.invokestaticNest hx hown (hts _ hl9) hnamed hmethM hstatic hkP hinitP n3 (g := F0 m pc arr st) rfl (argsL := As) (rest := rest) (jm_NVn n4 hsigM).symm hst (by rw [hb]; exact hd)
  obtain ⟨t, g1, g2⟩ := jm_after hM hd' n5 h1 h2 hrest hret hthr E (U := T.setVm vm₁) (by rw [← hT] at hR; exact hR) hlo hc hs hl hn X₁ (ig := .invokestatic idx) (by rw [hb]; exact hd) hnamed hcode (List.mem_filter.mp n2).2 hini
  exact ⟨t, hstep₁ _ fun acts => by rw [doInvoke_state]; exact g1, g2⟩
theorem jm_clone {idx a n : Nat} (hd : decode μ.2.1 pc = .ok (.invokevirtual idx, 3)) (hl9 : Cond.methodLink μ.1.cls idx ⟨"[I", "clone", "()Ljava/lang/Object;"⟩ ∈ jm_ws) (hs9 : Cond.sameMethod "[I" "java/lang/Object" "clone" "()Ljava/lang/Object;" ∈ jm_ws)
    (hn9 : Cond.native ⟨"java/lang/Object", "clone", "()Ljava/lang/Object;"⟩ ∈ jm_ws) (hi9 : Cond.instanceMethod ⟨"java/lang/Object", "clone", "()Ljava/lang/Object;"⟩ ∈ jm_ws) (hse9 : Cond.selects "[I" ⟨"[I", "clone", "()Ljava/lang/Object;"⟩ ⟨"java/lang/Object", "clone", "()Ljava/lang/Object;"⟩ ∈ jm_ws)
    (hc9 : Cond.castable "[I" "java/lang/Cloneable" ∈ jm_ws) (ha : h.1 a = some (100, n)) (hfit9 : ∀ i, i < n → ∃ x : Int32, h.2 100 i a = .int x) (hd1 : 1 ≤ d) (hst : st.length ≤ 4) (h1 : 1 ≤ rc) (h2 : n ≤ rs)
    (k : ∀ q, h.1 q = none → jm_W Γ μ d (rc - 1) (rs - n) Q (pc + 3) ls (.ref q :: st) (jm_new h q (100, n) (fun i => h.2 100 i a))) : jm_W Γ μ d rc rs Q pc ls (.ref a :: st) h := by
  intro p e R s m args below meth c H locs cells slots arr E hR hlo hc hs hl hn
  obtain ⟨hx, hb, hre, hml, hown, hts, hC, hlk, hnm9, htab, hfr, hlc, -⟩ := id E
  obtain ⟨hb0, hn31, g1, g2, g3⟩ := jm_arr (k := 0) hR hC (by decide) ha
  have hnm : s.vm.findClass "[I" = some (jm_dA Γ 0) := va_nm_int g3
  have hst2 : (st.map fun v => v.category).sum ≤ 2 * st.length := by
    clear hst k
    induction st with
    | nil => simp
    | cons v r ih =>
      rcases lv_cat v with q | q <;> simp only [List.map_cons, List.sum_cons, List.length_cons, q] <;> omega
  obtain ⟨c0, t0', f1, f2, f3⟩ := Cond.castable_spec (hts _ hc9)
  cases hnm.symm.trans f1
  intro T hT X
  have hcellT : T.heap[a]? = some (arrV (jm_dA Γ 0) n (fun i => h.2 100 i a)) := by rw [hT]; exact g1
  obtain ⟨-, kA, hkA, comp, hkind⟩ := State.isArrayOf_alike X.warmed.alike g2
  obtain ⟨-, kS, hkS, compS, hkindS⟩ := g2
  obtain ⟨vm', X', st9⟩ := X.cloneArray hx hown (hts _ hl9) (hts _ hs9) (hts _ hn9) (hts _ hi9) (hts _ hse9) (a := a) (cell := arrV (jm_dA Γ 0) n (fun i => h.2 100 i a)) hcellT (fun k h => by cases h) (fun h => by cases h) hnm f2 f3
    (fun i v hv => by
      have hk' : T.vm.classes[jm_dA Γ 0]? = some kA := hkA
      have hfv : fits .int v = true := va_fit (fun i hi => by obtain ⟨x, hx⟩ := hfit9 i hi; rw [hx]; rfl) i v hv
      show T.fitsSlot (jm_dA Γ 0) .none i v = true
      have hkind' : kA.kind = .array comp .int := hkind
      simpa [State.fitsSlot, State.slotType?, hk', hkind'] using hfv)
    (g := F0 m pc arr (.ref a :: st)) rfl (by show arr.size = _; rw [hml, ← hn]; exact hl.1) rfl (by rw [hb]; exact hd) (by omega) (by show 2 * 0 + (st.map fun v => v.category).sum + 14 ≤ _; omega) (by omega) (by rw [arrV_size]; omega) (hloader := Vm.clonesLoader_of_array hkS hkindS)
  rw [arrV_size] at X'
  generalize hH1 : H.push (arrV (jm_dA Γ 0) n (fun i => h.2 100 i a)) = H1
  have z1 : H1.size = H.size + 1 := by rw [← hH1, Array.size_push]
  have e1 : H1[H.size]? = some (arrV (jm_dA Γ 0) n (fun i => h.2 100 i a)) := by rw [← hH1, Array.getElem?_push_size]
  have o1 : ∀ q : Nat, q < H.size → H1[q]? = H[q]? := fun q hq => by rw [← hH1, Array.getElem?_push, if_neg (Nat.ne_of_lt hq)]
  obtain ⟨b1, b2⟩ := hR.born (kn := (100, n)) (dv := fun i => h.2 100 i a) z1 o1 (by show (100 : Nat) < 150; decide) hn31 (fun q => absurd (show (100 : Nat) < 100 from q) (by decide)) (fun _ => e1)
  obtain ⟨t, q1, q2⟩ := k H.size b1 p e R s m args below meth c H1 locs (cells + 1) (slots + n) arr E b2 hlo (by omega) (by omega) hl hn ((T.setVm vm').pushCell (arrV (jm_dA Γ 0) n (fun i => h.2 100 i a))) (by rw [← hH1, ← hT]; rfl) X'
  refine ⟨t, st9 t ?_, q2⟩
  rw [hT]
  exact q1
theorem jm_castI {idx a n : Nat} (hd : decode μ.2.1 pc = .ok (.checkcast idx, 3)) (hl9 : Cond.classLink μ.1.cls idx "[I" ∈ jm_ws) (ha : h.1 a = some (100, n)) (k : jm_W Γ μ d rc rs Q (pc + 3) ls (.ref a :: st) h) : jm_W Γ μ d rc rs Q pc ls (.ref a :: st) h := by
  intro p e R s m args below meth c H locs cells slots arr E hR hlo hc hs hl hn
  obtain ⟨hx, hb, hre, hml, hown, hts, hC, hlk, hnm9, htab, hfr, hlc, -⟩ := id E
  obtain ⟨hb0, hn31, g1, g2, g3⟩ := jm_arr (k := 0) hR hC (by decide) ha
  have hnm : s.vm.findClass "[I" = some (jm_dA Γ 0) := va_nm_int g3
  intro T hT X
  obtain ⟨vm', X', st9⟩ := X.checkcastYes hx hown (hts _ hl9) (by rw [hT]; exact g1) rfl hnm (va_asg _ _) (g := F0 m pc arr (.ref a :: st)) rfl rfl (by rw [hb]; exact hd)
  obtain ⟨t, a1, b1⟩ := k p e R s m args below meth c H locs cells slots arr E hR hlo hc hs hl hn (T.setVm vm') hT X'
  exact ⟨t, st9 t a1, b1⟩
/-- consequence -/
theorem jm_M.cons {av : List Value} (hM : jm_M Γ μ d av h mc ms Q') (hQ : ∀ oc h', Q' oc h' → Q oc h') : jm_M Γ μ d av h mc ms Q := by
  intro p e ha hc hk s m args below hf happ hP hK
  obtain ⟨n, o, h1, h2, h3, ⟨oc, h', q1, q2, q3⟩, q4⟩ := hM p e ha hc hk s m args below hf happ hP hK
  exact ⟨n, o, h1, h2, h3, ⟨oc, h', hQ oc h' q1, q2, q3⟩, q4⟩
end
end
section
/-! CALLS of methods that only answer -/
section
variable {Γ : jm_G} {μ ν : jm_Mt} {d d' rc rs : Nat} {Q : jm_O → jm_H → Prop} {pc : Nat} {ls : List (Option Value)} {st As rest : List Value} {h : jm_H}
/-- a method that answers v and leaves the heap -/
abbrev jm_A (Γ : jm_G) (ν : jm_Mt) (d : Nat) (As : List Value) (h : jm_H) (v : Option Value) : Prop := jm_M Γ ν d As h 0 0 (fun oc h' => h' = h ∧ oc = .inl v)
theorem jm_callSp {idx : Nat} {v : Option Value} (hd : decode μ.2.1 pc = .ok (.invokestatic idx, 3)) (hl9 : Cond.methodLink μ.1.cls idx ν.1 ∈ jm_ws) (hs9 : Cond.static ν.1 ∈ jm_ws) (hN : jm_NV ν As.length) (hst : st = As.reverse ++ rest) (hrest : rest.length ≤ 4)
    (hd' : d' + 1 ≤ d) (hM : jm_A Γ ν d' As h v) (k : jm_W Γ μ d rc rs Q (pc + 3) ls (v.toList ++ rest) h) : jm_W Γ μ d rc rs Q pc ls st h :=
  jm_callS hd hl9 hs9 hN hst hrest hd' (Nat.zero_le _) (Nat.zero_le _) hM (fun v' h' hq => by obtain ⟨rfl, hv⟩ := hq; cases hv; exact k) (fun X h' hq => by cases hq.2)
theorem jm_callSNp {idx : Nat} {host : String} {v : Option Value} (hd : decode μ.2.1 pc = .ok (.invokestatic idx, 3)) (hl9 : Cond.methodLinkNest μ.1.cls idx ν.1 host ∈ jm_ws) (hs9 : Cond.static ν.1 ∈ jm_ws) (hN : jm_NV ν As.length) (hst : st = As.reverse ++ rest) (hrest : rest.length ≤ 4)
    (hd' : d' + 1 ≤ d) (hM : jm_A Γ ν d' As h v) (k : jm_W Γ μ d rc rs Q (pc + 3) ls (v.toList ++ rest) h) : jm_W Γ μ d rc rs Q pc ls st h :=
  jm_callSN hd hl9 hs9 hN hst hrest hd' (Nat.zero_le _) (Nat.zero_le _) hM (fun v' h' hq => by obtain ⟨rfl, hv⟩ := hq; cases hv; exact k) (fun X h' hq => by cases hq.2)
theorem jm_callVp {idx b ci nb : Nat} {r : vw_C} {v : Option Value} (hd : decode μ.2.1 pc = .ok (.invokevirtual idx, 3)) (hl9 : Cond.methodLink μ.1.cls idx ν.1 ∈ jm_ws) (hi9 : Cond.instanceMethod ν.1 ∈ jm_ws) (hse9 : Cond.selects r.1 ν.1 ν.1 ∈ jm_ws) (hcl : jm_cl[ci]? = some r) (hN : jm_NV ν As.length) (hst : st = As.reverse ++ .ref b :: rest) (hb9 : h.1 b = some (ci, nb)) (hrest : rest.length ≤ 4)
    (hd' : d' + 1 ≤ d) (hM : jm_A Γ ν d' (.ref b :: As) h v) (k : jm_W Γ μ d rc rs Q (pc + 3) ls (v.toList ++ rest) h) : jm_W Γ μ d rc rs Q pc ls st h :=
  jm_callV hd hl9 hi9 hse9 hcl hN hst hb9 hrest hd' (Nat.zero_le _) (Nat.zero_le _) hM (fun v' h' hq => by obtain ⟨rfl, hv⟩ := hq; cases hv; exact k) (fun X h' hq => by cases hq.2)
/-- more room -/
theorem jm_W.room {rc' rs' : Nat} (h1 : rc' ≤ rc) (h2 : rs' ≤ rs) (k : jm_W Γ μ d rc' rs' Q pc ls st h) : jm_W Γ μ d rc rs Q pc ls st h :=
  fun p e R s m args below meth c H locs cells slots arr E hR hlo hc hs hl hn => k p e R s m args below meth c H locs cells slots arr E hR hlo (by omega) (by omega) hl hn
theorem jm_W.mono {Q' : jm_O → jm_H → Prop} (hQ : ∀ oc h', Q' oc h' → Q oc h') (k : jm_W Γ μ d rc rs Q' pc ls st h) : jm_W Γ μ d rc rs Q pc ls st h :=
  fun p e R s m args below meth c H locs cells slots arr E hR hlo hc hs hl hn => jm_mono (fun t ⟨o, g1, g2, ⟨oc, h', g3, g4, g5⟩, g6⟩ => ⟨o, g1, g2, ⟨oc, h', hQ oc h' g3, g4, g5⟩, g6⟩) (k p e R s m args below meth c H locs cells slots arr E hR hlo hc hs hl hn)
end
section
variable {Γ : jm_G} {μ : jm_Mt} {d rc rs : Nat} {Q : jm_O → jm_H → Prop} {pc : Nat} {ls : List (Option Value)} {st : List Value} {h : jm_H}
theorem jm_ldcw {idx : Nat} {v : Int32} (hd : decode μ.2.1 pc = .ok (.ldc_w idx, 3)) (hw : Cond.constant μ.1.cls idx v ∈ jm_ws) (k : jm_W Γ μ d rc rs Q (pc + 3) ls (.int v :: st) h) : jm_W Γ μ d rc rs Q pc ls st h := by
  intro p e R s m args below meth c H locs cells slots arr E hR hlo hc hs hl hn
  obtain ⟨hx, hb, hr, hml, hown, hts, hC, -⟩ := id E
  exact lv_ldcw hx hb hown (hts _ hw) hd (k p e R s m args below meth c H locs cells slots arr E hR hlo hc hs hl hn)
end
end
section
/-! METHODS and their words. Written by wip/whole/gen/meths.py -/
def m_B_init : jm_Mt := (⟨"BargainTree", "<init>", "()V"⟩, prog_1_method_1_code, 1, none, [])
def m_B_told : jm_Mt := (⟨"BargainTree", "told", "(II)I"⟩, prog_1_method_8_code, 4, (some .int), [])
def m_B_isLetter : jm_Mt := (⟨"BargainTree", "isLetter", "(I)Z"⟩, prog_1_method_20_code, 2, (some .boolean), [])
def m_L_contentCount : jm_Mt := (⟨"BargainTree$Letter", "contentCount", "()I"⟩, prog_4_method_2_code, 3, (some .int), [])
def m_L_contentAt : jm_Mt := (⟨"BargainTree$Letter", "contentAt", "(I)I"⟩, prog_4_method_3_code, 2, (some .int), [])
def m_B_done : jm_Mt := (⟨"BargainTree", "done", "()I"⟩, prog_1_method_11_code, 5, (some .int), [])
def m_P_foundNone : jm_Mt := (⟨"BargainTree$Part", "foundNone", "()Z"⟩, prog_6_method_2_code, 1, (some .boolean), [])
def m_A_isSettled : jm_Mt := (⟨"BargainTree$Agent", "isSettled", "()Z"⟩, prog_2_method_3_code, 1, (some .boolean), [])
def m_B_value : jm_Mt := (⟨"BargainTree", "value", "(I)I"⟩, prog_1_method_12_code, 2, (some .int), [])
def m_B_isAgent : jm_Mt := (⟨"BargainTree", "isAgent", "(I)Z"⟩, prog_1_method_18_code, 2, (some .boolean), [])
def m_B_total : jm_Mt := (⟨"BargainTree", "total", "()I"⟩, prog_1_method_13_code, 3, (some .int), [])
def m_A_isRoot : jm_Mt := (⟨"BargainTree$Agent", "isRoot", "()Z"⟩, prog_2_method_2_code, 1, (some .boolean), [])
def m_B_parent : jm_Mt := (⟨"BargainTree", "parent", "(I)I"⟩, prog_1_method_14_code, 2, (some .int), [])
def m_B_separator : jm_Mt := (⟨"BargainTree", "separator", "(I)I"⟩, prog_1_method_15_code, 2, (some .int), [])
def m_B_entries : jm_Mt := (⟨"BargainTree", "entries", "(I)I"⟩, prog_1_method_16_code, 2, (some .int), [])
def m_B_tables : jm_Mt := (⟨"BargainTree", "tables", "()I"⟩, prog_1_method_17_code, 1, (some .int), [])
def m_W_agent : jm_Mt := (⟨"BargainTreeLaw", "agent", "(LBargainTree;I[J)I"⟩, method_3_code, 4, (some .int), [(0, 9, 12, 13), (0, 9, 15, 15)])
def m_B_agent : jm_Mt := (⟨"BargainTree", "agent", "(I)I"⟩, prog_1_method_2_code, 2, (some .int), [])
def m_A_init : jm_Mt := (⟨"BargainTree$Agent", "<init>", "(II)V"⟩, prog_2_method_1_code, 3, none, [])
def m_W_own : jm_Mt := (⟨"BargainTreeLaw", "own", "(LBargainTree;III)I"⟩, method_4_code, 5, (some .int), [(0, 7, 10, 13), (0, 7, 14, 15)])
def m_B_own : jm_Mt := (⟨"BargainTree", "own", "(III)V"⟩, prog_1_method_3_code, 4, none, [])
def m_B_isValue : jm_Mt := (⟨"BargainTree", "isValue", "(II)Z"⟩, prog_1_method_19_code, 3, (some .boolean), [])
def m_B_isCost : jm_Mt := (⟨"BargainTree", "isCost", "(I)Z"⟩, prog_1_method_21_code, 1, (some .boolean), [])
def m_W_pair : jm_Mt := (⟨"BargainTreeLaw", "pair", "(LBargainTree;II[J)I"⟩, method_5_code, 5, (some .int), [(0, 10, 13, 13), (0, 10, 17, 15)])
def m_B_pair : jm_Mt := (⟨"BargainTree", "pair", "(II)I"⟩, prog_1_method_4_code, 3, (some .int), [])
def m_B_pairOf : jm_Mt := (⟨"BargainTree", "pairOf", "(II)LBargainTree$Pair;"⟩, prog_1_method_25_code, 4, (some (.object "BargainTree$Pair")), [])
def m_J_min : jm_Mt := (⟨"java/lang/Math", "min", "(II)I"⟩, prog_17_method_69_code, 2, (some .int), [])
def m_J_max : jm_Mt := (⟨"java/lang/Math", "max", "(II)I"⟩, prog_17_method_65_code, 2, (some .int), [])
def m_Q_init : jm_Mt := (⟨"BargainTree$Pair", "<init>", "(II)V"⟩, prog_5_method_1_code, 3, none, [])
def m_W_cost : jm_Mt := (⟨"BargainTreeLaw", "cost", "(LBargainTree;IIIII)I"⟩, method_6_code, 7, (some .int), [(0, 11, 14, 13), (0, 11, 18, 15)])
def m_B_cost : jm_Mt := (⟨"BargainTree", "cost", "(IIIII)V"⟩, prog_1_method_5_code, 7, none, [])
def m_B_pairWith : jm_Mt := (⟨"BargainTree", "pairWith", "(IIII)LBargainTree$Pair;"⟩, prog_1_method_26_code, 5, (some (.object "BargainTree$Pair")), [])
def m_Q_place : jm_Mt := (⟨"BargainTree$Pair", "place", "(III)I"⟩, prog_5_method_2_code, 4, (some .int), [])
def m_W_start : jm_Mt := (⟨"BargainTreeLaw", "start", "(LBargainTree;[J)I"⟩, method_7_code, 3, (some .int), [(0, 8, 11, 15)])
def m_B_start : jm_Mt := (⟨"BargainTree", "start", "()I"⟩, prog_1_method_6_code, 3, (some .int), [])
def m_B_findParts : jm_Mt := (⟨"BargainTree", "findParts", "()V"⟩, prog_1_method_27_code, 3, none, [])
def m_B_partOf : jm_Mt := (⟨"BargainTree", "partOf", "(I)I"⟩, prog_1_method_29_code, 5, (some .int), [])
def m_B_contains : jm_Mt := (⟨"BargainTree", "contains", "(II)Z"⟩, prog_1_method_22_code, 2, (some .boolean), [])
def m_B_mostJoined : jm_Mt := (⟨"BargainTree", "mostJoined", "(I)I"⟩, prog_1_method_30_code, 6, (some .int), [])
def m_J_bitCount : jm_Mt := (⟨"java/lang/Integer", "bitCount", "(I)I"⟩, prog_16_method_49_code, 1, (some .int), [])
def m_P_init : jm_Mt := (⟨"BargainTree$Part", "<init>", "(LBargainTree$Agent;)V"⟩, prog_6_method_1_code, 2, none, [])
def m_B_join : jm_Mt := (⟨"BargainTree", "join", "(ILBargainTree$Part;)V"⟩, prog_1_method_28_code, 4, none, [])
def m_B_hold : jm_Mt := (⟨"BargainTree", "hold", "(LBargainTree$Agent;)Z"⟩, prog_1_method_35_code, 3, (some .boolean), [])
def m_A_addChild : jm_Mt := (⟨"BargainTree$Agent", "addChild", "(LBargainTree$Agent;)V"⟩, prog_2_method_4_code, 2, none, [])
def m_C_init : jm_Mt := (⟨"BargainTree$Child", "<init>", "(LBargainTree$Agent;)V"⟩, prog_3_method_1_code, 2, none, [])
def m_B_sendToken : jm_Mt := (⟨"BargainTree", "sendToken", "(LBargainTree$Agent;)V"⟩, prog_1_method_44_code, 2, none, [])
def m_L_init : jm_Mt := (⟨"BargainTree$Letter", "<init>", "(IIII[I)V"⟩, prog_4_method_1_code, 6, none, [])
def m_B_send : jm_Mt := (⟨"BargainTree", "send", "(LBargainTree$Letter;)V"⟩, prog_1_method_48_code, 2, none, [])
def m_A_findSeparator : jm_Mt := (⟨"BargainTree$Agent", "findSeparator", "()V"⟩, prog_2_method_7_code, 2, none, [])
def m_B_sendBack : jm_Mt := (⟨"BargainTree", "sendBack", "(LBargainTree$Agent;)V"⟩, prog_1_method_45_code, 2, none, [])
def m_A_hasAllTables : jm_Mt := (⟨"BargainTree$Agent", "hasAllTables", "()Z"⟩, prog_2_method_6_code, 2, (some .boolean), [])
def m_B_makeTable : jm_Mt := (⟨"BargainTree", "makeTable", "(LBargainTree$Agent;I)V"⟩, prog_1_method_36_code, 6, none, [])
def m_B_tableSize : jm_Mt := (⟨"BargainTree", "tableSize", "(I)I"⟩, prog_1_method_37_code, 4, (some .int), [])
def m_B_tryEntry : jm_Mt := (⟨"BargainTree", "tryEntry", "(II)V"⟩, prog_1_method_38_code, 5, none, [])
def m_B_leastCost : jm_Mt := (⟨"BargainTree", "leastCost", "(LBargainTree$Agent;)I"⟩, prog_1_method_40_code, 4, (some .int), [])
def m_B_costWith : jm_Mt := (⟨"BargainTree", "costWith", "(LBargainTree$Agent;[I)I"⟩, prog_1_method_41_code, 6, (some .int), [])
def m_Q_joinsUpwards : jm_Mt := (⟨"BargainTree$Pair", "joinsUpwards", "(LBargainTree$Agent;)Z"⟩, prog_5_method_3_code, 2, (some .boolean), [])
def m_B_plus : jm_Mt := (⟨"BargainTree", "plus", "(II)I"⟩, prog_1_method_23_code, 2, (some .int), [])
def m_B_entryAt : jm_Mt := (⟨"BargainTree", "entryAt", "([II[I)I"⟩, prog_1_method_39_code, 7, (some .int), [])
def m_B_lesser : jm_Mt := (⟨"BargainTree", "lesser", "(II)I"⟩, prog_1_method_24_code, 2, (some .int), [])
def m_B_nothingTold : jm_Mt := (⟨"BargainTree", "nothingTold", "()[I"⟩, prog_1_method_42_code, 1, (some (.array .int)), [])
def m_J_fill : jm_Mt := (⟨"java/util/Arrays", "fill", "([II)V"⟩, prog_21_method_103_code, 4, none, [])
def m_B_choose : jm_Mt := (⟨"BargainTree", "choose", "(LBargainTree$Agent;I[I)V"⟩, prog_1_method_43_code, 7, none, [])
def m_B_sendChoices : jm_Mt := (⟨"BargainTree", "sendChoices", "(LBargainTree$Agent;)V"⟩, prog_1_method_47_code, 3, none, [])
def m_B_sendTable : jm_Mt := (⟨"BargainTree", "sendTable", "(LBargainTree$Agent;)V"⟩, prog_1_method_46_code, 2, none, [])
def m_W_letter : jm_Mt := (⟨"BargainTreeLaw", "letter", "(LBargainTree;II[J)I"⟩, method_8_code, 5, (some .int), [(0, 10, 13, 13), (0, 10, 17, 36), (0, 10, 21, 15)])
def m_B_letter : jm_Mt := (⟨"BargainTree", "letter", "(II)I"⟩, prog_1_method_7_code, 4, (some .int), [])
def m_B_takeOut : jm_Mt := (⟨"BargainTree", "takeOut", "(I)V"⟩, prog_1_method_49_code, 3, none, [])
def m_B_deliver : jm_Mt := (⟨"BargainTree", "deliver", "(LBargainTree$Letter;)V"⟩, prog_1_method_31_code, 3, none, [])
def m_B_takesToken : jm_Mt := (⟨"BargainTree", "takesToken", "(LBargainTree$Agent;LBargainTree$Letter;)Z"⟩, prog_1_method_32_code, 3, (some .boolean), [])
def m_B_takesBack : jm_Mt := (⟨"BargainTree", "takesBack", "(LBargainTree$Agent;LBargainTree$Letter;)Z"⟩, prog_1_method_33_code, 3, (some .boolean), [])
def m_B_takesTable : jm_Mt := (⟨"BargainTree", "takesTable", "(LBargainTree$Agent;LBargainTree$Letter;)Z"⟩, prog_1_method_34_code, 4, (some .boolean), [])
def m_A_childWith : jm_Mt := (⟨"BargainTree$Agent", "childWith", "(I)LBargainTree$Child;"⟩, prog_2_method_5_code, 3, (some (.object "BargainTree$Child")), [])
def m_W_again : jm_Mt := (⟨"BargainTreeLaw", "again", "(LBargainTree;I[J)I"⟩, method_9_code, 4, (some .int), [(0, 9, 12, 13), (0, 9, 15, 15)])
def m_B_again : jm_Mt := (⟨"BargainTree", "again", "(I)I"⟩, prog_1_method_9_code, 3, (some .int), [])
def m_W_change : jm_Mt := (⟨"BargainTreeLaw", "change", "(LBargainTree;IIIII[J)I"⟩, method_10_code, 8, (some .int), [(0, 16, 19, 13), (0, 16, 23, 15)])
def m_B_change : jm_Mt := (⟨"BargainTree", "change", "(IIIII)I"⟩, prog_1_method_10_code, 9, (some .int), [])
def m_M_init : jm_Mt := (⟨"BargainTreeModel", "<init>", "()V"⟩, prog_9_method_1_code, 2, none, [])
def m_M_thrown : jm_Mt := (⟨"BargainTreeModel", "thrown", "()I"⟩, prog_9_method_2_code, 1, (some .int), [])
def m_M_agent : jm_Mt := (⟨"BargainTreeModel", "agent", "(I)I"⟩, prog_9_method_10_code, 2, (some .int), [])
def m_M_within : jm_Mt := (⟨"BargainTreeModel", "within", "(III)Z"⟩, prog_9_method_4_code, 3, (some .boolean), [])
def m_M_own : jm_Mt := (⟨"BargainTreeModel", "own", "(III)V"⟩, prog_9_method_11_code, 4, none, [])
def m_M_isValue : jm_Mt := (⟨"BargainTreeModel", "isValue", "(II)Z"⟩, prog_9_method_8_code, 3, (some .boolean), [])
def m_M_isAgent : jm_Mt := (⟨"BargainTreeModel", "isAgent", "(I)Z"⟩, prog_9_method_7_code, 2, (some .boolean), [])
def m_M_isCost : jm_Mt := (⟨"BargainTreeModel", "isCost", "(I)Z"⟩, prog_9_method_9_code, 1, (some .boolean), [])
def m_M_pair : jm_Mt := (⟨"BargainTreeModel", "pair", "(II)I"⟩, prog_9_method_13_code, 3, (some .int), [])
def m_M_pairOf : jm_Mt := (⟨"BargainTreeModel", "pairOf", "(II)I"⟩, prog_9_method_12_code, 4, (some .int), [])
def m_M_cost : jm_Mt := (⟨"BargainTreeModel", "cost", "(IIIII)V"⟩, prog_9_method_16_code, 6, none, [])
def m_M_isPairCost : jm_Mt := (⟨"BargainTreeModel", "isPairCost", "(IIIII)Z"⟩, prog_9_method_14_code, 6, (some .boolean), [])
def m_M_setCost : jm_Mt := (⟨"BargainTreeModel", "setCost", "(IIIII)V"⟩, prog_9_method_15_code, 8, none, [])
def m_M_start : jm_Mt := (⟨"BargainTreeModel", "start", "()I"⟩, prog_9_method_19_code, 3, (some .int), [])
def m_M_findPart : jm_Mt := (⟨"BargainTreeModel", "findPart", "(I)V"⟩, prog_9_method_18_code, 5, none, [])
def m_M_has : jm_Mt := (⟨"BargainTreeModel", "has", "(II)Z"⟩, prog_9_method_5_code, 2, (some .boolean), [])
def m_M_goesBefore : jm_Mt := (⟨"BargainTreeModel", "goesBefore", "(II)Z"⟩, prog_9_method_17_code, 5, (some .boolean), [])
def m_M_bits : jm_Mt := (⟨"BargainTreeModel", "bits", "(I)I"⟩, prog_9_method_6_code, 3, (some .int), [])
def m_M_receiveToken : jm_Mt := (⟨"BargainTreeModel", "receiveToken", "(III)V"⟩, prog_9_method_24_code, 4, none, [])
def m_M_hold : jm_Mt := (⟨"BargainTreeModel", "hold", "(I)V"⟩, prog_9_method_25_code, 5, none, [])
def m_M_post : jm_Mt := (⟨"BargainTreeModel", "post", "(IIII)I"⟩, prog_9_method_20_code, 5, (some .int), [])
def m_M_work : jm_Mt := (⟨"BargainTreeModel", "work", "(II)V"⟩, prog_9_method_32_code, 3, none, [])
def m_M_hasAll : jm_Mt := (⟨"BargainTreeModel", "hasAll", "(I)Z"⟩, prog_9_method_31_code, 4, (some .boolean), [])
def m_M_width : jm_Mt := (⟨"BargainTreeModel", "width", "(I)I"⟩, prog_9_method_29_code, 4, (some .int), [])
def m_M_make : jm_Mt := (⟨"BargainTreeModel", "make", "(II)V"⟩, prog_9_method_30_code, 7, none, [])
def m_M_best : jm_Mt := (⟨"BargainTreeModel", "best", "(I)I"⟩, prog_9_method_28_code, 5, (some .int), [])
def m_M_costNow : jm_Mt := (⟨"BargainTreeModel", "costNow", "(I)I"⟩, prog_9_method_27_code, 5, (some .int), [])
def m_M_placeIn : jm_Mt := (⟨"BargainTreeModel", "placeIn", "(I)I"⟩, prog_9_method_26_code, 5, (some .int), [])
def m_M_postTable : jm_Mt := (⟨"BargainTreeModel", "postTable", "(I)V"⟩, prog_9_method_21_code, 4, none, [])
def m_M_choose : jm_Mt := (⟨"BargainTreeModel", "choose", "(II)V"⟩, prog_9_method_33_code, 4, none, [])
def m_M_postChoices : jm_Mt := (⟨"BargainTreeModel", "postChoices", "(I)V"⟩, prog_9_method_22_code, 5, none, [])
def m_M_letter : jm_Mt := (⟨"BargainTreeModel", "letter", "(II)I"⟩, prog_9_method_35_code, 4, (some .int), [])
def m_M_copyLetter : jm_Mt := (⟨"BargainTreeModel", "copyLetter", "(II)V"⟩, prog_9_method_23_code, 4, none, [])
def m_M_deliver : jm_Mt := (⟨"BargainTreeModel", "deliver", "()V"⟩, prog_9_method_34_code, 4, none, [])
def m_M_told : jm_Mt := (⟨"BargainTreeModel", "told", "(II)I"⟩, prog_9_method_36_code, 3, (some .int), [])
def m_M_entryOf : jm_Mt := (⟨"BargainTreeModel", "entryOf", "(II)I"⟩, prog_9_method_37_code, 4, (some .int), [])
def m_M_again : jm_Mt := (⟨"BargainTreeModel", "again", "(I)I"⟩, prog_9_method_38_code, 3, (some .int), [])
def m_M_change : jm_Mt := (⟨"BargainTreeModel", "change", "(IIIII)I"⟩, prog_9_method_42_code, 8, (some .int), [])
def m_M_state : jm_Mt := (⟨"BargainTreeModel", "state", "()I"⟩, prog_9_method_41_code, 5, (some .int), [])
def m_M_isLost : jm_Mt := (⟨"BargainTreeModel", "isLost", "(I)Z"⟩, prog_9_method_40_code, 2, (some .boolean), [])
def m_M_isSettled : jm_Mt := (⟨"BargainTreeModel", "isSettled", "(I)Z"⟩, prog_9_method_39_code, 2, (some .boolean), [])
def m_M_done : jm_Mt := (⟨"BargainTreeModel", "done", "()I"⟩, prog_9_method_43_code, 1, (some .int), [])
def m_M_value : jm_Mt := (⟨"BargainTreeModel", "value", "(I)I"⟩, prog_9_method_44_code, 2, (some .int), [])
def m_M_total : jm_Mt := (⟨"BargainTreeModel", "total", "()I"⟩, prog_9_method_45_code, 3, (some .int), [])
def m_M_parent : jm_Mt := (⟨"BargainTreeModel", "parent", "(I)I"⟩, prog_9_method_46_code, 2, (some .int), [])
def m_M_separator : jm_Mt := (⟨"BargainTreeModel", "separator", "(I)I"⟩, prog_9_method_47_code, 2, (some .int), [])
def m_M_entries : jm_Mt := (⟨"BargainTreeModel", "entries", "(I)I"⟩, prog_9_method_48_code, 2, (some .int), [])
def m_M_tables : jm_Mt := (⟨"BargainTreeModel", "tables", "()I"⟩, prog_9_method_49_code, 1, (some .int), [])
def m_W_law : jm_Mt := (⟨"BargainTreeLaw", "law", "([I)Z"⟩, code, maxLocals, ret, [])
theorem nv_B_init : jm_NV m_B_init 0 := ⟨jm_in (List.mem_of_getElem? (i := 1) (by decide +kernel)) (by decide +kernel), jm_in (List.mem_of_getElem? (i := 23) (by decide +kernel)) (by decide +kernel), ⟨by decide, by decide⟩, by decide +kernel, by decide⟩
theorem iw_B_init : Cond.instanceMethod m_B_init.1 ∈ jm_ws := jm_in (List.mem_of_getElem? (i := 22) (by decide +kernel)) (by decide +kernel)
theorem nv_B_told : jm_NV m_B_told 2 := ⟨jm_in (List.mem_of_getElem? (i := 1) (by decide +kernel)) (by decide +kernel), jm_in (List.mem_of_getElem? (i := 65) (by decide +kernel)) (by decide +kernel), ⟨by decide, by decide⟩, by decide +kernel, by decide⟩
theorem iw_B_told : Cond.instanceMethod m_B_told.1 ∈ jm_ws := jm_in (List.mem_of_getElem? (i := 63) (by decide +kernel)) (by decide +kernel)
theorem ew_B_told : Cond.selects "BargainTree" m_B_told.1 m_B_told.1 ∈ jm_ws := jm_in (List.mem_of_getElem? (i := 64) (by decide +kernel)) (by decide +kernel)
theorem nv_B_isLetter : jm_NV m_B_isLetter 1 := ⟨jm_in (List.mem_of_getElem? (i := 1) (by decide +kernel)) (by decide +kernel), jm_in (List.mem_of_getElem? (i := 69) (by decide +kernel)) (by decide +kernel), ⟨by decide, by decide⟩, by decide +kernel, by decide⟩
theorem iw_B_isLetter : Cond.instanceMethod m_B_isLetter.1 ∈ jm_ws := jm_in (List.mem_of_getElem? (i := 68) (by decide +kernel)) (by decide +kernel)
theorem ew_B_isLetter : Cond.selects "BargainTree" m_B_isLetter.1 m_B_isLetter.1 ∈ jm_ws := jm_inP (List.mem_of_getElem? (i := 0) (by decide +kernel)) (by decide +kernel)
theorem nv_L_contentCount : jm_NV m_L_contentCount 0 := ⟨jm_in (List.mem_of_getElem? (i := 16) (by decide +kernel)) (by decide +kernel), jm_in (List.mem_of_getElem? (i := 73) (by decide +kernel)) (by decide +kernel), ⟨by decide, by decide⟩, by decide +kernel, by decide⟩
theorem iw_L_contentCount : Cond.instanceMethod m_L_contentCount.1 ∈ jm_ws := jm_in (List.mem_of_getElem? (i := 71) (by decide +kernel)) (by decide +kernel)
theorem ew_L_contentCount : Cond.selects "BargainTree$Letter" m_L_contentCount.1 m_L_contentCount.1 ∈ jm_ws := jm_in (List.mem_of_getElem? (i := 72) (by decide +kernel)) (by decide +kernel)
theorem nv_L_contentAt : jm_NV m_L_contentAt 1 := ⟨jm_in (List.mem_of_getElem? (i := 16) (by decide +kernel)) (by decide +kernel), jm_in (List.mem_of_getElem? (i := 77) (by decide +kernel)) (by decide +kernel), ⟨by decide, by decide⟩, by decide +kernel, by decide⟩
theorem iw_L_contentAt : Cond.instanceMethod m_L_contentAt.1 ∈ jm_ws := jm_in (List.mem_of_getElem? (i := 75) (by decide +kernel)) (by decide +kernel)
theorem ew_L_contentAt : Cond.selects "BargainTree$Letter" m_L_contentAt.1 m_L_contentAt.1 ∈ jm_ws := jm_in (List.mem_of_getElem? (i := 76) (by decide +kernel)) (by decide +kernel)
theorem nv_B_done : jm_NV m_B_done 0 := ⟨jm_in (List.mem_of_getElem? (i := 1) (by decide +kernel)) (by decide +kernel), jm_in (List.mem_of_getElem? (i := 81) (by decide +kernel)) (by decide +kernel), ⟨by decide, by decide⟩, by decide +kernel, by decide⟩
theorem iw_B_done : Cond.instanceMethod m_B_done.1 ∈ jm_ws := jm_in (List.mem_of_getElem? (i := 79) (by decide +kernel)) (by decide +kernel)
theorem ew_B_done : Cond.selects "BargainTree" m_B_done.1 m_B_done.1 ∈ jm_ws := jm_in (List.mem_of_getElem? (i := 80) (by decide +kernel)) (by decide +kernel)
theorem nv_P_foundNone : jm_NV m_P_foundNone 0 := ⟨jm_in (List.mem_of_getElem? (i := 13) (by decide +kernel)) (by decide +kernel), jm_in (List.mem_of_getElem? (i := 85) (by decide +kernel)) (by decide +kernel), ⟨by decide, by decide⟩, by decide +kernel, by decide⟩
theorem iw_P_foundNone : Cond.instanceMethod m_P_foundNone.1 ∈ jm_ws := jm_in (List.mem_of_getElem? (i := 83) (by decide +kernel)) (by decide +kernel)
theorem ew_P_foundNone : Cond.selects "BargainTree$Part" m_P_foundNone.1 m_P_foundNone.1 ∈ jm_ws := jm_in (List.mem_of_getElem? (i := 84) (by decide +kernel)) (by decide +kernel)
theorem nv_A_isSettled : jm_NV m_A_isSettled 0 := ⟨jm_in (List.mem_of_getElem? (i := 8) (by decide +kernel)) (by decide +kernel), jm_in (List.mem_of_getElem? (i := 89) (by decide +kernel)) (by decide +kernel), ⟨by decide, by decide⟩, by decide +kernel, by decide⟩
theorem iw_A_isSettled : Cond.instanceMethod m_A_isSettled.1 ∈ jm_ws := jm_in (List.mem_of_getElem? (i := 87) (by decide +kernel)) (by decide +kernel)
theorem ew_A_isSettled : Cond.selects "BargainTree$Agent" m_A_isSettled.1 m_A_isSettled.1 ∈ jm_ws := jm_in (List.mem_of_getElem? (i := 88) (by decide +kernel)) (by decide +kernel)
theorem nv_B_value : jm_NV m_B_value 1 := ⟨jm_in (List.mem_of_getElem? (i := 1) (by decide +kernel)) (by decide +kernel), jm_in (List.mem_of_getElem? (i := 93) (by decide +kernel)) (by decide +kernel), ⟨by decide, by decide⟩, by decide +kernel, by decide⟩
theorem iw_B_value : Cond.instanceMethod m_B_value.1 ∈ jm_ws := jm_in (List.mem_of_getElem? (i := 91) (by decide +kernel)) (by decide +kernel)
theorem ew_B_value : Cond.selects "BargainTree" m_B_value.1 m_B_value.1 ∈ jm_ws := jm_in (List.mem_of_getElem? (i := 92) (by decide +kernel)) (by decide +kernel)
theorem nv_B_isAgent : jm_NV m_B_isAgent 1 := ⟨jm_in (List.mem_of_getElem? (i := 1) (by decide +kernel)) (by decide +kernel), jm_in (List.mem_of_getElem? (i := 97) (by decide +kernel)) (by decide +kernel), ⟨by decide, by decide⟩, by decide +kernel, by decide⟩
theorem iw_B_isAgent : Cond.instanceMethod m_B_isAgent.1 ∈ jm_ws := jm_in (List.mem_of_getElem? (i := 96) (by decide +kernel)) (by decide +kernel)
theorem ew_B_isAgent : Cond.selects "BargainTree" m_B_isAgent.1 m_B_isAgent.1 ∈ jm_ws := jm_inP (List.mem_of_getElem? (i := 1) (by decide +kernel)) (by decide +kernel)
theorem nv_B_total : jm_NV m_B_total 0 := ⟨jm_in (List.mem_of_getElem? (i := 1) (by decide +kernel)) (by decide +kernel), jm_in (List.mem_of_getElem? (i := 101) (by decide +kernel)) (by decide +kernel), ⟨by decide, by decide⟩, by decide +kernel, by decide⟩
theorem iw_B_total : Cond.instanceMethod m_B_total.1 ∈ jm_ws := jm_in (List.mem_of_getElem? (i := 99) (by decide +kernel)) (by decide +kernel)
theorem ew_B_total : Cond.selects "BargainTree" m_B_total.1 m_B_total.1 ∈ jm_ws := jm_in (List.mem_of_getElem? (i := 100) (by decide +kernel)) (by decide +kernel)
theorem nv_A_isRoot : jm_NV m_A_isRoot 0 := ⟨jm_in (List.mem_of_getElem? (i := 8) (by decide +kernel)) (by decide +kernel), jm_in (List.mem_of_getElem? (i := 106) (by decide +kernel)) (by decide +kernel), ⟨by decide, by decide⟩, by decide +kernel, by decide⟩
theorem iw_A_isRoot : Cond.instanceMethod m_A_isRoot.1 ∈ jm_ws := jm_in (List.mem_of_getElem? (i := 104) (by decide +kernel)) (by decide +kernel)
theorem ew_A_isRoot : Cond.selects "BargainTree$Agent" m_A_isRoot.1 m_A_isRoot.1 ∈ jm_ws := jm_in (List.mem_of_getElem? (i := 105) (by decide +kernel)) (by decide +kernel)
theorem nv_B_parent : jm_NV m_B_parent 1 := ⟨jm_in (List.mem_of_getElem? (i := 1) (by decide +kernel)) (by decide +kernel), jm_in (List.mem_of_getElem? (i := 110) (by decide +kernel)) (by decide +kernel), ⟨by decide, by decide⟩, by decide +kernel, by decide⟩
theorem iw_B_parent : Cond.instanceMethod m_B_parent.1 ∈ jm_ws := jm_in (List.mem_of_getElem? (i := 108) (by decide +kernel)) (by decide +kernel)
theorem ew_B_parent : Cond.selects "BargainTree" m_B_parent.1 m_B_parent.1 ∈ jm_ws := jm_in (List.mem_of_getElem? (i := 109) (by decide +kernel)) (by decide +kernel)
theorem nv_B_separator : jm_NV m_B_separator 1 := ⟨jm_in (List.mem_of_getElem? (i := 1) (by decide +kernel)) (by decide +kernel), jm_in (List.mem_of_getElem? (i := 114) (by decide +kernel)) (by decide +kernel), ⟨by decide, by decide⟩, by decide +kernel, by decide⟩
theorem iw_B_separator : Cond.instanceMethod m_B_separator.1 ∈ jm_ws := jm_in (List.mem_of_getElem? (i := 112) (by decide +kernel)) (by decide +kernel)
theorem ew_B_separator : Cond.selects "BargainTree" m_B_separator.1 m_B_separator.1 ∈ jm_ws := jm_in (List.mem_of_getElem? (i := 113) (by decide +kernel)) (by decide +kernel)
theorem nv_B_entries : jm_NV m_B_entries 1 := ⟨jm_in (List.mem_of_getElem? (i := 1) (by decide +kernel)) (by decide +kernel), jm_in (List.mem_of_getElem? (i := 120) (by decide +kernel)) (by decide +kernel), ⟨by decide, by decide⟩, by decide +kernel, by decide⟩
theorem iw_B_entries : Cond.instanceMethod m_B_entries.1 ∈ jm_ws := jm_in (List.mem_of_getElem? (i := 118) (by decide +kernel)) (by decide +kernel)
theorem ew_B_entries : Cond.selects "BargainTree" m_B_entries.1 m_B_entries.1 ∈ jm_ws := jm_in (List.mem_of_getElem? (i := 119) (by decide +kernel)) (by decide +kernel)
theorem nv_B_tables : jm_NV m_B_tables 0 := ⟨jm_in (List.mem_of_getElem? (i := 1) (by decide +kernel)) (by decide +kernel), jm_in (List.mem_of_getElem? (i := 124) (by decide +kernel)) (by decide +kernel), ⟨by decide, by decide⟩, by decide +kernel, by decide⟩
theorem iw_B_tables : Cond.instanceMethod m_B_tables.1 ∈ jm_ws := jm_in (List.mem_of_getElem? (i := 122) (by decide +kernel)) (by decide +kernel)
theorem ew_B_tables : Cond.selects "BargainTree" m_B_tables.1 m_B_tables.1 ∈ jm_ws := jm_in (List.mem_of_getElem? (i := 123) (by decide +kernel)) (by decide +kernel)
theorem nv_W_agent : jm_NV m_W_agent 3 := ⟨jm_in (List.mem_of_getElem? (i := 0) (by decide +kernel)) (by decide +kernel), jm_in (List.mem_of_getElem? (i := 127) (by decide +kernel)) (by decide +kernel), ⟨by decide, by decide⟩, by decide +kernel, by decide⟩
theorem sw_W_agent : Cond.static m_W_agent.1 ∈ jm_ws := jm_in (List.mem_of_getElem? (i := 126) (by decide +kernel)) (by decide +kernel)
theorem nv_B_agent : jm_NV m_B_agent 1 := ⟨jm_in (List.mem_of_getElem? (i := 1) (by decide +kernel)) (by decide +kernel), jm_in (List.mem_of_getElem? (i := 133) (by decide +kernel)) (by decide +kernel), ⟨by decide, by decide⟩, by decide +kernel, by decide⟩
theorem iw_B_agent : Cond.instanceMethod m_B_agent.1 ∈ jm_ws := jm_in (List.mem_of_getElem? (i := 131) (by decide +kernel)) (by decide +kernel)
theorem ew_B_agent : Cond.selects "BargainTree" m_B_agent.1 m_B_agent.1 ∈ jm_ws := jm_in (List.mem_of_getElem? (i := 132) (by decide +kernel)) (by decide +kernel)
theorem nv_A_init : jm_NV m_A_init 2 := ⟨jm_in (List.mem_of_getElem? (i := 8) (by decide +kernel)) (by decide +kernel), jm_in (List.mem_of_getElem? (i := 221) (by decide +kernel)) (by decide +kernel), ⟨by decide, by decide⟩, by decide +kernel, by decide⟩
theorem iw_A_init : Cond.instanceMethod m_A_init.1 ∈ jm_ws := jm_in (List.mem_of_getElem? (i := 220) (by decide +kernel)) (by decide +kernel)
theorem nv_W_own : jm_NV m_W_own 4 := ⟨jm_in (List.mem_of_getElem? (i := 0) (by decide +kernel)) (by decide +kernel), jm_in (List.mem_of_getElem? (i := 299) (by decide +kernel)) (by decide +kernel), ⟨by decide, by decide⟩, by decide +kernel, by decide⟩
theorem sw_W_own : Cond.static m_W_own.1 ∈ jm_ws := jm_in (List.mem_of_getElem? (i := 298) (by decide +kernel)) (by decide +kernel)
theorem nv_B_own : jm_NV m_B_own 3 := ⟨jm_in (List.mem_of_getElem? (i := 1) (by decide +kernel)) (by decide +kernel), jm_in (List.mem_of_getElem? (i := 303) (by decide +kernel)) (by decide +kernel), ⟨by decide, by decide⟩, by decide +kernel, by decide⟩
theorem iw_B_own : Cond.instanceMethod m_B_own.1 ∈ jm_ws := jm_in (List.mem_of_getElem? (i := 301) (by decide +kernel)) (by decide +kernel)
theorem ew_B_own : Cond.selects "BargainTree" m_B_own.1 m_B_own.1 ∈ jm_ws := jm_in (List.mem_of_getElem? (i := 302) (by decide +kernel)) (by decide +kernel)
theorem nv_B_isValue : jm_NV m_B_isValue 2 := ⟨jm_in (List.mem_of_getElem? (i := 1) (by decide +kernel)) (by decide +kernel), jm_in (List.mem_of_getElem? (i := 307) (by decide +kernel)) (by decide +kernel), ⟨by decide, by decide⟩, by decide +kernel, by decide⟩
theorem iw_B_isValue : Cond.instanceMethod m_B_isValue.1 ∈ jm_ws := jm_in (List.mem_of_getElem? (i := 306) (by decide +kernel)) (by decide +kernel)
theorem ew_B_isValue : Cond.selects "BargainTree" m_B_isValue.1 m_B_isValue.1 ∈ jm_ws := jm_inP (List.mem_of_getElem? (i := 3) (by decide +kernel)) (by decide +kernel)
theorem nv_B_isCost : jm_NV m_B_isCost 1 := ⟨jm_in (List.mem_of_getElem? (i := 1) (by decide +kernel)) (by decide +kernel), jm_in (List.mem_of_getElem? (i := 310) (by decide +kernel)) (by decide +kernel), ⟨by decide, by decide⟩, by decide +kernel, by decide⟩
theorem sw_B_isCost : Cond.static m_B_isCost.1 ∈ jm_ws := jm_in (List.mem_of_getElem? (i := 309) (by decide +kernel)) (by decide +kernel)
theorem nv_W_pair : jm_NV m_W_pair 4 := ⟨jm_in (List.mem_of_getElem? (i := 0) (by decide +kernel)) (by decide +kernel), jm_in (List.mem_of_getElem? (i := 315) (by decide +kernel)) (by decide +kernel), ⟨by decide, by decide⟩, by decide +kernel, by decide⟩
theorem sw_W_pair : Cond.static m_W_pair.1 ∈ jm_ws := jm_in (List.mem_of_getElem? (i := 314) (by decide +kernel)) (by decide +kernel)
theorem nv_B_pair : jm_NV m_B_pair 2 := ⟨jm_in (List.mem_of_getElem? (i := 1) (by decide +kernel)) (by decide +kernel), jm_in (List.mem_of_getElem? (i := 319) (by decide +kernel)) (by decide +kernel), ⟨by decide, by decide⟩, by decide +kernel, by decide⟩
theorem iw_B_pair : Cond.instanceMethod m_B_pair.1 ∈ jm_ws := jm_in (List.mem_of_getElem? (i := 317) (by decide +kernel)) (by decide +kernel)
theorem ew_B_pair : Cond.selects "BargainTree" m_B_pair.1 m_B_pair.1 ∈ jm_ws := jm_in (List.mem_of_getElem? (i := 318) (by decide +kernel)) (by decide +kernel)
theorem nv_B_pairOf : jm_NV m_B_pairOf 2 := ⟨jm_in (List.mem_of_getElem? (i := 1) (by decide +kernel)) (by decide +kernel), jm_in (List.mem_of_getElem? (i := 324) (by decide +kernel)) (by decide +kernel), ⟨by decide, by decide⟩, by decide +kernel, by decide⟩
theorem iw_B_pairOf : Cond.instanceMethod m_B_pairOf.1 ∈ jm_ws := jm_in (List.mem_of_getElem? (i := 323) (by decide +kernel)) (by decide +kernel)
theorem ew_B_pairOf : Cond.selects "BargainTree" m_B_pairOf.1 m_B_pairOf.1 ∈ jm_ws := jm_inP (List.mem_of_getElem? (i := 4) (by decide +kernel)) (by decide +kernel)
theorem nv_J_min : jm_NV m_J_min 2 := ⟨jm_in (List.mem_of_getElem? (i := 11) (by decide +kernel)) (by decide +kernel), jm_in (List.mem_of_getElem? (i := 327) (by decide +kernel)) (by decide +kernel), ⟨by decide, by decide⟩, by decide +kernel, by decide⟩
theorem sw_J_min : Cond.static m_J_min.1 ∈ jm_ws := jm_in (List.mem_of_getElem? (i := 326) (by decide +kernel)) (by decide +kernel)
theorem nv_J_max : jm_NV m_J_max 2 := ⟨jm_in (List.mem_of_getElem? (i := 11) (by decide +kernel)) (by decide +kernel), jm_in (List.mem_of_getElem? (i := 330) (by decide +kernel)) (by decide +kernel), ⟨by decide, by decide⟩, by decide +kernel, by decide⟩
theorem sw_J_max : Cond.static m_J_max.1 ∈ jm_ws := jm_in (List.mem_of_getElem? (i := 329) (by decide +kernel)) (by decide +kernel)
theorem nv_Q_init : jm_NV m_Q_init 2 := ⟨jm_in (List.mem_of_getElem? (i := 12) (by decide +kernel)) (by decide +kernel), jm_in (List.mem_of_getElem? (i := 335) (by decide +kernel)) (by decide +kernel), ⟨by decide, by decide⟩, by decide +kernel, by decide⟩
theorem iw_Q_init : Cond.instanceMethod m_Q_init.1 ∈ jm_ws := jm_in (List.mem_of_getElem? (i := 334) (by decide +kernel)) (by decide +kernel)
theorem nv_W_cost : jm_NV m_W_cost 6 := ⟨jm_in (List.mem_of_getElem? (i := 0) (by decide +kernel)) (by decide +kernel), jm_in (List.mem_of_getElem? (i := 352) (by decide +kernel)) (by decide +kernel), ⟨by decide, by decide⟩, by decide +kernel, by decide⟩
theorem sw_W_cost : Cond.static m_W_cost.1 ∈ jm_ws := jm_in (List.mem_of_getElem? (i := 351) (by decide +kernel)) (by decide +kernel)
theorem nv_B_cost : jm_NV m_B_cost 5 := ⟨jm_in (List.mem_of_getElem? (i := 1) (by decide +kernel)) (by decide +kernel), jm_in (List.mem_of_getElem? (i := 356) (by decide +kernel)) (by decide +kernel), ⟨by decide, by decide⟩, by decide +kernel, by decide⟩
theorem iw_B_cost : Cond.instanceMethod m_B_cost.1 ∈ jm_ws := jm_in (List.mem_of_getElem? (i := 354) (by decide +kernel)) (by decide +kernel)
theorem ew_B_cost : Cond.selects "BargainTree" m_B_cost.1 m_B_cost.1 ∈ jm_ws := jm_in (List.mem_of_getElem? (i := 355) (by decide +kernel)) (by decide +kernel)
theorem nv_B_pairWith : jm_NV m_B_pairWith 4 := ⟨jm_in (List.mem_of_getElem? (i := 1) (by decide +kernel)) (by decide +kernel), jm_in (List.mem_of_getElem? (i := 360) (by decide +kernel)) (by decide +kernel), ⟨by decide, by decide⟩, by decide +kernel, by decide⟩
theorem iw_B_pairWith : Cond.instanceMethod m_B_pairWith.1 ∈ jm_ws := jm_in (List.mem_of_getElem? (i := 359) (by decide +kernel)) (by decide +kernel)
theorem ew_B_pairWith : Cond.selects "BargainTree" m_B_pairWith.1 m_B_pairWith.1 ∈ jm_ws := jm_inP (List.mem_of_getElem? (i := 5) (by decide +kernel)) (by decide +kernel)
theorem nv_Q_place : jm_NV m_Q_place 3 := ⟨jm_in (List.mem_of_getElem? (i := 12) (by decide +kernel)) (by decide +kernel), jm_in (List.mem_of_getElem? (i := 365) (by decide +kernel)) (by decide +kernel), ⟨by decide, by decide⟩, by decide +kernel, by decide⟩
theorem iw_Q_place : Cond.instanceMethod m_Q_place.1 ∈ jm_ws := jm_in (List.mem_of_getElem? (i := 363) (by decide +kernel)) (by decide +kernel)
theorem ew_Q_place : Cond.selects "BargainTree$Pair" m_Q_place.1 m_Q_place.1 ∈ jm_ws := jm_in (List.mem_of_getElem? (i := 364) (by decide +kernel)) (by decide +kernel)
theorem nv_W_start : jm_NV m_W_start 2 := ⟨jm_in (List.mem_of_getElem? (i := 0) (by decide +kernel)) (by decide +kernel), jm_in (List.mem_of_getElem? (i := 368) (by decide +kernel)) (by decide +kernel), ⟨by decide, by decide⟩, by decide +kernel, by decide⟩
theorem sw_W_start : Cond.static m_W_start.1 ∈ jm_ws := jm_in (List.mem_of_getElem? (i := 367) (by decide +kernel)) (by decide +kernel)
theorem nv_B_start : jm_NV m_B_start 0 := ⟨jm_in (List.mem_of_getElem? (i := 1) (by decide +kernel)) (by decide +kernel), jm_in (List.mem_of_getElem? (i := 372) (by decide +kernel)) (by decide +kernel), ⟨by decide, by decide⟩, by decide +kernel, by decide⟩
theorem iw_B_start : Cond.instanceMethod m_B_start.1 ∈ jm_ws := jm_in (List.mem_of_getElem? (i := 370) (by decide +kernel)) (by decide +kernel)
theorem ew_B_start : Cond.selects "BargainTree" m_B_start.1 m_B_start.1 ∈ jm_ws := jm_in (List.mem_of_getElem? (i := 371) (by decide +kernel)) (by decide +kernel)
theorem nv_B_findParts : jm_NV m_B_findParts 0 := ⟨jm_in (List.mem_of_getElem? (i := 1) (by decide +kernel)) (by decide +kernel), jm_in (List.mem_of_getElem? (i := 377) (by decide +kernel)) (by decide +kernel), ⟨by decide, by decide⟩, by decide +kernel, by decide⟩
theorem iw_B_findParts : Cond.instanceMethod m_B_findParts.1 ∈ jm_ws := jm_in (List.mem_of_getElem? (i := 376) (by decide +kernel)) (by decide +kernel)
theorem ew_B_findParts : Cond.selects "BargainTree" m_B_findParts.1 m_B_findParts.1 ∈ jm_ws := jm_inP (List.mem_of_getElem? (i := 6) (by decide +kernel)) (by decide +kernel)
theorem nv_B_partOf : jm_NV m_B_partOf 1 := ⟨jm_in (List.mem_of_getElem? (i := 1) (by decide +kernel)) (by decide +kernel), jm_in (List.mem_of_getElem? (i := 381) (by decide +kernel)) (by decide +kernel), ⟨by decide, by decide⟩, by decide +kernel, by decide⟩
theorem iw_B_partOf : Cond.instanceMethod m_B_partOf.1 ∈ jm_ws := jm_in (List.mem_of_getElem? (i := 380) (by decide +kernel)) (by decide +kernel)
theorem ew_B_partOf : Cond.selects "BargainTree" m_B_partOf.1 m_B_partOf.1 ∈ jm_ws := jm_inP (List.mem_of_getElem? (i := 7) (by decide +kernel)) (by decide +kernel)
theorem nv_B_contains : jm_NV m_B_contains 2 := ⟨jm_in (List.mem_of_getElem? (i := 1) (by decide +kernel)) (by decide +kernel), jm_in (List.mem_of_getElem? (i := 384) (by decide +kernel)) (by decide +kernel), ⟨by decide, by decide⟩, by decide +kernel, by decide⟩
theorem sw_B_contains : Cond.static m_B_contains.1 ∈ jm_ws := jm_in (List.mem_of_getElem? (i := 383) (by decide +kernel)) (by decide +kernel)
theorem nv_B_mostJoined : jm_NV m_B_mostJoined 1 := ⟨jm_in (List.mem_of_getElem? (i := 1) (by decide +kernel)) (by decide +kernel), jm_in (List.mem_of_getElem? (i := 390) (by decide +kernel)) (by decide +kernel), ⟨by decide, by decide⟩, by decide +kernel, by decide⟩
theorem iw_B_mostJoined : Cond.instanceMethod m_B_mostJoined.1 ∈ jm_ws := jm_in (List.mem_of_getElem? (i := 389) (by decide +kernel)) (by decide +kernel)
theorem ew_B_mostJoined : Cond.selects "BargainTree" m_B_mostJoined.1 m_B_mostJoined.1 ∈ jm_ws := jm_inP (List.mem_of_getElem? (i := 8) (by decide +kernel)) (by decide +kernel)
theorem nv_J_bitCount : jm_NV m_J_bitCount 1 := ⟨jm_in (List.mem_of_getElem? (i := 14) (by decide +kernel)) (by decide +kernel), jm_in (List.mem_of_getElem? (i := 393) (by decide +kernel)) (by decide +kernel), ⟨by decide, by decide⟩, by decide +kernel, by decide⟩
theorem sw_J_bitCount : Cond.static m_J_bitCount.1 ∈ jm_ws := jm_in (List.mem_of_getElem? (i := 392) (by decide +kernel)) (by decide +kernel)
theorem nv_P_init : jm_NV m_P_init 1 := ⟨jm_in (List.mem_of_getElem? (i := 13) (by decide +kernel)) (by decide +kernel), jm_in (List.mem_of_getElem? (i := 399) (by decide +kernel)) (by decide +kernel), ⟨by decide, by decide⟩, by decide +kernel, by decide⟩
theorem iw_P_init : Cond.instanceMethod m_P_init.1 ∈ jm_ws := jm_in (List.mem_of_getElem? (i := 398) (by decide +kernel)) (by decide +kernel)
theorem nv_B_join : jm_NV m_B_join 2 := ⟨jm_in (List.mem_of_getElem? (i := 1) (by decide +kernel)) (by decide +kernel), jm_in (List.mem_of_getElem? (i := 418) (by decide +kernel)) (by decide +kernel), ⟨by decide, by decide⟩, by decide +kernel, by decide⟩
theorem iw_B_join : Cond.instanceMethod m_B_join.1 ∈ jm_ws := jm_in (List.mem_of_getElem? (i := 417) (by decide +kernel)) (by decide +kernel)
theorem ew_B_join : Cond.selects "BargainTree" m_B_join.1 m_B_join.1 ∈ jm_ws := jm_inP (List.mem_of_getElem? (i := 9) (by decide +kernel)) (by decide +kernel)
theorem nv_B_hold : jm_NV m_B_hold 1 := ⟨jm_in (List.mem_of_getElem? (i := 1) (by decide +kernel)) (by decide +kernel), jm_in (List.mem_of_getElem? (i := 422) (by decide +kernel)) (by decide +kernel), ⟨by decide, by decide⟩, by decide +kernel, by decide⟩
theorem iw_B_hold : Cond.instanceMethod m_B_hold.1 ∈ jm_ws := jm_in (List.mem_of_getElem? (i := 421) (by decide +kernel)) (by decide +kernel)
theorem ew_B_hold : Cond.selects "BargainTree" m_B_hold.1 m_B_hold.1 ∈ jm_ws := jm_inP (List.mem_of_getElem? (i := 10) (by decide +kernel)) (by decide +kernel)
theorem nv_A_addChild : jm_NV m_A_addChild 1 := ⟨jm_in (List.mem_of_getElem? (i := 8) (by decide +kernel)) (by decide +kernel), jm_in (List.mem_of_getElem? (i := 426) (by decide +kernel)) (by decide +kernel), ⟨by decide, by decide⟩, by decide +kernel, by decide⟩
theorem iw_A_addChild : Cond.instanceMethod m_A_addChild.1 ∈ jm_ws := jm_in (List.mem_of_getElem? (i := 424) (by decide +kernel)) (by decide +kernel)
theorem ew_A_addChild : Cond.selects "BargainTree$Agent" m_A_addChild.1 m_A_addChild.1 ∈ jm_ws := jm_in (List.mem_of_getElem? (i := 425) (by decide +kernel)) (by decide +kernel)
theorem nv_C_init : jm_NV m_C_init 1 := ⟨jm_in (List.mem_of_getElem? (i := 15) (by decide +kernel)) (by decide +kernel), jm_in (List.mem_of_getElem? (i := 430) (by decide +kernel)) (by decide +kernel), ⟨by decide, by decide⟩, by decide +kernel, by decide⟩
theorem iw_C_init : Cond.instanceMethod m_C_init.1 ∈ jm_ws := jm_in (List.mem_of_getElem? (i := 429) (by decide +kernel)) (by decide +kernel)
theorem nv_B_sendToken : jm_NV m_B_sendToken 1 := ⟨jm_in (List.mem_of_getElem? (i := 1) (by decide +kernel)) (by decide +kernel), jm_in (List.mem_of_getElem? (i := 450) (by decide +kernel)) (by decide +kernel), ⟨by decide, by decide⟩, by decide +kernel, by decide⟩
theorem iw_B_sendToken : Cond.instanceMethod m_B_sendToken.1 ∈ jm_ws := jm_in (List.mem_of_getElem? (i := 449) (by decide +kernel)) (by decide +kernel)
theorem ew_B_sendToken : Cond.selects "BargainTree" m_B_sendToken.1 m_B_sendToken.1 ∈ jm_ws := jm_inP (List.mem_of_getElem? (i := 11) (by decide +kernel)) (by decide +kernel)
theorem nv_L_init : jm_NV m_L_init 5 := ⟨jm_in (List.mem_of_getElem? (i := 16) (by decide +kernel)) (by decide +kernel), jm_in (List.mem_of_getElem? (i := 454) (by decide +kernel)) (by decide +kernel), ⟨by decide, by decide⟩, by decide +kernel, by decide⟩
theorem iw_L_init : Cond.instanceMethod m_L_init.1 ∈ jm_ws := jm_in (List.mem_of_getElem? (i := 453) (by decide +kernel)) (by decide +kernel)
theorem nv_B_send : jm_NV m_B_send 1 := ⟨jm_in (List.mem_of_getElem? (i := 1) (by decide +kernel)) (by decide +kernel), jm_in (List.mem_of_getElem? (i := 480) (by decide +kernel)) (by decide +kernel), ⟨by decide, by decide⟩, by decide +kernel, by decide⟩
theorem iw_B_send : Cond.instanceMethod m_B_send.1 ∈ jm_ws := jm_in (List.mem_of_getElem? (i := 479) (by decide +kernel)) (by decide +kernel)
theorem ew_B_send : Cond.selects "BargainTree" m_B_send.1 m_B_send.1 ∈ jm_ws := jm_inP (List.mem_of_getElem? (i := 12) (by decide +kernel)) (by decide +kernel)
theorem nv_A_findSeparator : jm_NV m_A_findSeparator 0 := ⟨jm_in (List.mem_of_getElem? (i := 8) (by decide +kernel)) (by decide +kernel), jm_in (List.mem_of_getElem? (i := 484) (by decide +kernel)) (by decide +kernel), ⟨by decide, by decide⟩, by decide +kernel, by decide⟩
theorem iw_A_findSeparator : Cond.instanceMethod m_A_findSeparator.1 ∈ jm_ws := jm_in (List.mem_of_getElem? (i := 482) (by decide +kernel)) (by decide +kernel)
theorem ew_A_findSeparator : Cond.selects "BargainTree$Agent" m_A_findSeparator.1 m_A_findSeparator.1 ∈ jm_ws := jm_in (List.mem_of_getElem? (i := 483) (by decide +kernel)) (by decide +kernel)
theorem nv_B_sendBack : jm_NV m_B_sendBack 1 := ⟨jm_in (List.mem_of_getElem? (i := 1) (by decide +kernel)) (by decide +kernel), jm_in (List.mem_of_getElem? (i := 488) (by decide +kernel)) (by decide +kernel), ⟨by decide, by decide⟩, by decide +kernel, by decide⟩
theorem iw_B_sendBack : Cond.instanceMethod m_B_sendBack.1 ∈ jm_ws := jm_in (List.mem_of_getElem? (i := 487) (by decide +kernel)) (by decide +kernel)
theorem ew_B_sendBack : Cond.selects "BargainTree" m_B_sendBack.1 m_B_sendBack.1 ∈ jm_ws := jm_inP (List.mem_of_getElem? (i := 13) (by decide +kernel)) (by decide +kernel)
theorem nv_A_hasAllTables : jm_NV m_A_hasAllTables 0 := ⟨jm_in (List.mem_of_getElem? (i := 8) (by decide +kernel)) (by decide +kernel), jm_in (List.mem_of_getElem? (i := 492) (by decide +kernel)) (by decide +kernel), ⟨by decide, by decide⟩, by decide +kernel, by decide⟩
theorem iw_A_hasAllTables : Cond.instanceMethod m_A_hasAllTables.1 ∈ jm_ws := jm_in (List.mem_of_getElem? (i := 490) (by decide +kernel)) (by decide +kernel)
theorem ew_A_hasAllTables : Cond.selects "BargainTree$Agent" m_A_hasAllTables.1 m_A_hasAllTables.1 ∈ jm_ws := jm_in (List.mem_of_getElem? (i := 491) (by decide +kernel)) (by decide +kernel)
theorem nv_B_makeTable : jm_NV m_B_makeTable 2 := ⟨jm_in (List.mem_of_getElem? (i := 1) (by decide +kernel)) (by decide +kernel), jm_in (List.mem_of_getElem? (i := 496) (by decide +kernel)) (by decide +kernel), ⟨by decide, by decide⟩, by decide +kernel, by decide⟩
theorem iw_B_makeTable : Cond.instanceMethod m_B_makeTable.1 ∈ jm_ws := jm_in (List.mem_of_getElem? (i := 495) (by decide +kernel)) (by decide +kernel)
theorem ew_B_makeTable : Cond.selects "BargainTree" m_B_makeTable.1 m_B_makeTable.1 ∈ jm_ws := jm_inP (List.mem_of_getElem? (i := 14) (by decide +kernel)) (by decide +kernel)
theorem nv_B_tableSize : jm_NV m_B_tableSize 1 := ⟨jm_in (List.mem_of_getElem? (i := 1) (by decide +kernel)) (by decide +kernel), jm_in (List.mem_of_getElem? (i := 500) (by decide +kernel)) (by decide +kernel), ⟨by decide, by decide⟩, by decide +kernel, by decide⟩
theorem iw_B_tableSize : Cond.instanceMethod m_B_tableSize.1 ∈ jm_ws := jm_in (List.mem_of_getElem? (i := 499) (by decide +kernel)) (by decide +kernel)
theorem ew_B_tableSize : Cond.selects "BargainTree" m_B_tableSize.1 m_B_tableSize.1 ∈ jm_ws := jm_inP (List.mem_of_getElem? (i := 15) (by decide +kernel)) (by decide +kernel)
theorem nv_B_tryEntry : jm_NV m_B_tryEntry 2 := ⟨jm_in (List.mem_of_getElem? (i := 1) (by decide +kernel)) (by decide +kernel), jm_in (List.mem_of_getElem? (i := 504) (by decide +kernel)) (by decide +kernel), ⟨by decide, by decide⟩, by decide +kernel, by decide⟩
theorem iw_B_tryEntry : Cond.instanceMethod m_B_tryEntry.1 ∈ jm_ws := jm_in (List.mem_of_getElem? (i := 503) (by decide +kernel)) (by decide +kernel)
theorem ew_B_tryEntry : Cond.selects "BargainTree" m_B_tryEntry.1 m_B_tryEntry.1 ∈ jm_ws := jm_inP (List.mem_of_getElem? (i := 16) (by decide +kernel)) (by decide +kernel)
theorem nv_B_leastCost : jm_NV m_B_leastCost 1 := ⟨jm_in (List.mem_of_getElem? (i := 1) (by decide +kernel)) (by decide +kernel), jm_in (List.mem_of_getElem? (i := 508) (by decide +kernel)) (by decide +kernel), ⟨by decide, by decide⟩, by decide +kernel, by decide⟩
theorem iw_B_leastCost : Cond.instanceMethod m_B_leastCost.1 ∈ jm_ws := jm_in (List.mem_of_getElem? (i := 507) (by decide +kernel)) (by decide +kernel)
theorem ew_B_leastCost : Cond.selects "BargainTree" m_B_leastCost.1 m_B_leastCost.1 ∈ jm_ws := jm_inP (List.mem_of_getElem? (i := 17) (by decide +kernel)) (by decide +kernel)
theorem nv_B_costWith : jm_NV m_B_costWith 2 := ⟨jm_in (List.mem_of_getElem? (i := 1) (by decide +kernel)) (by decide +kernel), jm_in (List.mem_of_getElem? (i := 512) (by decide +kernel)) (by decide +kernel), ⟨by decide, by decide⟩, by decide +kernel, by decide⟩
theorem iw_B_costWith : Cond.instanceMethod m_B_costWith.1 ∈ jm_ws := jm_in (List.mem_of_getElem? (i := 511) (by decide +kernel)) (by decide +kernel)
theorem ew_B_costWith : Cond.selects "BargainTree" m_B_costWith.1 m_B_costWith.1 ∈ jm_ws := jm_inP (List.mem_of_getElem? (i := 18) (by decide +kernel)) (by decide +kernel)
theorem nv_Q_joinsUpwards : jm_NV m_Q_joinsUpwards 1 := ⟨jm_in (List.mem_of_getElem? (i := 12) (by decide +kernel)) (by decide +kernel), jm_in (List.mem_of_getElem? (i := 516) (by decide +kernel)) (by decide +kernel), ⟨by decide, by decide⟩, by decide +kernel, by decide⟩
theorem iw_Q_joinsUpwards : Cond.instanceMethod m_Q_joinsUpwards.1 ∈ jm_ws := jm_in (List.mem_of_getElem? (i := 514) (by decide +kernel)) (by decide +kernel)
theorem ew_Q_joinsUpwards : Cond.selects "BargainTree$Pair" m_Q_joinsUpwards.1 m_Q_joinsUpwards.1 ∈ jm_ws := jm_in (List.mem_of_getElem? (i := 515) (by decide +kernel)) (by decide +kernel)
theorem nv_B_plus : jm_NV m_B_plus 2 := ⟨jm_in (List.mem_of_getElem? (i := 1) (by decide +kernel)) (by decide +kernel), jm_in (List.mem_of_getElem? (i := 520) (by decide +kernel)) (by decide +kernel), ⟨by decide, by decide⟩, by decide +kernel, by decide⟩
theorem sw_B_plus : Cond.static m_B_plus.1 ∈ jm_ws := jm_in (List.mem_of_getElem? (i := 519) (by decide +kernel)) (by decide +kernel)
theorem nv_B_entryAt : jm_NV m_B_entryAt 3 := ⟨jm_in (List.mem_of_getElem? (i := 1) (by decide +kernel)) (by decide +kernel), jm_in (List.mem_of_getElem? (i := 524) (by decide +kernel)) (by decide +kernel), ⟨by decide, by decide⟩, by decide +kernel, by decide⟩
theorem iw_B_entryAt : Cond.instanceMethod m_B_entryAt.1 ∈ jm_ws := jm_in (List.mem_of_getElem? (i := 523) (by decide +kernel)) (by decide +kernel)
theorem ew_B_entryAt : Cond.selects "BargainTree" m_B_entryAt.1 m_B_entryAt.1 ∈ jm_ws := jm_inP (List.mem_of_getElem? (i := 19) (by decide +kernel)) (by decide +kernel)
theorem nv_B_lesser : jm_NV m_B_lesser 2 := ⟨jm_in (List.mem_of_getElem? (i := 1) (by decide +kernel)) (by decide +kernel), jm_in (List.mem_of_getElem? (i := 527) (by decide +kernel)) (by decide +kernel), ⟨by decide, by decide⟩, by decide +kernel, by decide⟩
theorem sw_B_lesser : Cond.static m_B_lesser.1 ∈ jm_ws := jm_in (List.mem_of_getElem? (i := 526) (by decide +kernel)) (by decide +kernel)
theorem nv_B_nothingTold : jm_NV m_B_nothingTold 0 := ⟨jm_in (List.mem_of_getElem? (i := 1) (by decide +kernel)) (by decide +kernel), jm_in (List.mem_of_getElem? (i := 530) (by decide +kernel)) (by decide +kernel), ⟨by decide, by decide⟩, by decide +kernel, by decide⟩
theorem sw_B_nothingTold : Cond.static m_B_nothingTold.1 ∈ jm_ws := jm_in (List.mem_of_getElem? (i := 529) (by decide +kernel)) (by decide +kernel)
theorem nv_J_fill : jm_NV m_J_fill 2 := ⟨jm_in (List.mem_of_getElem? (i := 17) (by decide +kernel)) (by decide +kernel), jm_in (List.mem_of_getElem? (i := 533) (by decide +kernel)) (by decide +kernel), ⟨by decide, by decide⟩, by decide +kernel, by decide⟩
theorem sw_J_fill : Cond.static m_J_fill.1 ∈ jm_ws := jm_in (List.mem_of_getElem? (i := 532) (by decide +kernel)) (by decide +kernel)
theorem nv_B_choose : jm_NV m_B_choose 3 := ⟨jm_in (List.mem_of_getElem? (i := 1) (by decide +kernel)) (by decide +kernel), jm_in (List.mem_of_getElem? (i := 537) (by decide +kernel)) (by decide +kernel), ⟨by decide, by decide⟩, by decide +kernel, by decide⟩
theorem iw_B_choose : Cond.instanceMethod m_B_choose.1 ∈ jm_ws := jm_in (List.mem_of_getElem? (i := 536) (by decide +kernel)) (by decide +kernel)
theorem ew_B_choose : Cond.selects "BargainTree" m_B_choose.1 m_B_choose.1 ∈ jm_ws := jm_inP (List.mem_of_getElem? (i := 20) (by decide +kernel)) (by decide +kernel)
theorem nv_B_sendChoices : jm_NV m_B_sendChoices 1 := ⟨jm_in (List.mem_of_getElem? (i := 1) (by decide +kernel)) (by decide +kernel), jm_in (List.mem_of_getElem? (i := 548) (by decide +kernel)) (by decide +kernel), ⟨by decide, by decide⟩, by decide +kernel, by decide⟩
theorem iw_B_sendChoices : Cond.instanceMethod m_B_sendChoices.1 ∈ jm_ws := jm_in (List.mem_of_getElem? (i := 547) (by decide +kernel)) (by decide +kernel)
theorem ew_B_sendChoices : Cond.selects "BargainTree" m_B_sendChoices.1 m_B_sendChoices.1 ∈ jm_ws := jm_inP (List.mem_of_getElem? (i := 21) (by decide +kernel)) (by decide +kernel)
theorem nv_B_sendTable : jm_NV m_B_sendTable 1 := ⟨jm_in (List.mem_of_getElem? (i := 1) (by decide +kernel)) (by decide +kernel), jm_in (List.mem_of_getElem? (i := 552) (by decide +kernel)) (by decide +kernel), ⟨by decide, by decide⟩, by decide +kernel, by decide⟩
theorem iw_B_sendTable : Cond.instanceMethod m_B_sendTable.1 ∈ jm_ws := jm_in (List.mem_of_getElem? (i := 551) (by decide +kernel)) (by decide +kernel)
theorem ew_B_sendTable : Cond.selects "BargainTree" m_B_sendTable.1 m_B_sendTable.1 ∈ jm_ws := jm_inP (List.mem_of_getElem? (i := 22) (by decide +kernel)) (by decide +kernel)
theorem nv_W_letter : jm_NV m_W_letter 4 := ⟨jm_in (List.mem_of_getElem? (i := 0) (by decide +kernel)) (by decide +kernel), jm_in (List.mem_of_getElem? (i := 555) (by decide +kernel)) (by decide +kernel), ⟨by decide, by decide⟩, by decide +kernel, by decide⟩
theorem sw_W_letter : Cond.static m_W_letter.1 ∈ jm_ws := jm_in (List.mem_of_getElem? (i := 554) (by decide +kernel)) (by decide +kernel)
theorem nv_B_letter : jm_NV m_B_letter 2 := ⟨jm_in (List.mem_of_getElem? (i := 1) (by decide +kernel)) (by decide +kernel), jm_in (List.mem_of_getElem? (i := 560) (by decide +kernel)) (by decide +kernel), ⟨by decide, by decide⟩, by decide +kernel, by decide⟩
theorem iw_B_letter : Cond.instanceMethod m_B_letter.1 ∈ jm_ws := jm_in (List.mem_of_getElem? (i := 558) (by decide +kernel)) (by decide +kernel)
theorem ew_B_letter : Cond.selects "BargainTree" m_B_letter.1 m_B_letter.1 ∈ jm_ws := jm_in (List.mem_of_getElem? (i := 559) (by decide +kernel)) (by decide +kernel)
theorem nv_B_takeOut : jm_NV m_B_takeOut 1 := ⟨jm_in (List.mem_of_getElem? (i := 1) (by decide +kernel)) (by decide +kernel), jm_in (List.mem_of_getElem? (i := 582) (by decide +kernel)) (by decide +kernel), ⟨by decide, by decide⟩, by decide +kernel, by decide⟩
theorem iw_B_takeOut : Cond.instanceMethod m_B_takeOut.1 ∈ jm_ws := jm_in (List.mem_of_getElem? (i := 581) (by decide +kernel)) (by decide +kernel)
theorem ew_B_takeOut : Cond.selects "BargainTree" m_B_takeOut.1 m_B_takeOut.1 ∈ jm_ws := jm_inP (List.mem_of_getElem? (i := 23) (by decide +kernel)) (by decide +kernel)
theorem nv_B_deliver : jm_NV m_B_deliver 1 := ⟨jm_in (List.mem_of_getElem? (i := 1) (by decide +kernel)) (by decide +kernel), jm_in (List.mem_of_getElem? (i := 586) (by decide +kernel)) (by decide +kernel), ⟨by decide, by decide⟩, by decide +kernel, by decide⟩
theorem iw_B_deliver : Cond.instanceMethod m_B_deliver.1 ∈ jm_ws := jm_in (List.mem_of_getElem? (i := 585) (by decide +kernel)) (by decide +kernel)
theorem ew_B_deliver : Cond.selects "BargainTree" m_B_deliver.1 m_B_deliver.1 ∈ jm_ws := jm_inP (List.mem_of_getElem? (i := 24) (by decide +kernel)) (by decide +kernel)
theorem nv_B_takesToken : jm_NV m_B_takesToken 2 := ⟨jm_in (List.mem_of_getElem? (i := 1) (by decide +kernel)) (by decide +kernel), jm_in (List.mem_of_getElem? (i := 590) (by decide +kernel)) (by decide +kernel), ⟨by decide, by decide⟩, by decide +kernel, by decide⟩
theorem iw_B_takesToken : Cond.instanceMethod m_B_takesToken.1 ∈ jm_ws := jm_in (List.mem_of_getElem? (i := 589) (by decide +kernel)) (by decide +kernel)
theorem ew_B_takesToken : Cond.selects "BargainTree" m_B_takesToken.1 m_B_takesToken.1 ∈ jm_ws := jm_inP (List.mem_of_getElem? (i := 25) (by decide +kernel)) (by decide +kernel)
theorem nv_B_takesBack : jm_NV m_B_takesBack 2 := ⟨jm_in (List.mem_of_getElem? (i := 1) (by decide +kernel)) (by decide +kernel), jm_in (List.mem_of_getElem? (i := 595) (by decide +kernel)) (by decide +kernel), ⟨by decide, by decide⟩, by decide +kernel, by decide⟩
theorem iw_B_takesBack : Cond.instanceMethod m_B_takesBack.1 ∈ jm_ws := jm_in (List.mem_of_getElem? (i := 594) (by decide +kernel)) (by decide +kernel)
theorem ew_B_takesBack : Cond.selects "BargainTree" m_B_takesBack.1 m_B_takesBack.1 ∈ jm_ws := jm_inP (List.mem_of_getElem? (i := 26) (by decide +kernel)) (by decide +kernel)
theorem nv_B_takesTable : jm_NV m_B_takesTable 2 := ⟨jm_in (List.mem_of_getElem? (i := 1) (by decide +kernel)) (by decide +kernel), jm_in (List.mem_of_getElem? (i := 599) (by decide +kernel)) (by decide +kernel), ⟨by decide, by decide⟩, by decide +kernel, by decide⟩
theorem iw_B_takesTable : Cond.instanceMethod m_B_takesTable.1 ∈ jm_ws := jm_in (List.mem_of_getElem? (i := 598) (by decide +kernel)) (by decide +kernel)
theorem ew_B_takesTable : Cond.selects "BargainTree" m_B_takesTable.1 m_B_takesTable.1 ∈ jm_ws := jm_inP (List.mem_of_getElem? (i := 27) (by decide +kernel)) (by decide +kernel)
theorem nv_A_childWith : jm_NV m_A_childWith 1 := ⟨jm_in (List.mem_of_getElem? (i := 8) (by decide +kernel)) (by decide +kernel), jm_in (List.mem_of_getElem? (i := 603) (by decide +kernel)) (by decide +kernel), ⟨by decide, by decide⟩, by decide +kernel, by decide⟩
theorem iw_A_childWith : Cond.instanceMethod m_A_childWith.1 ∈ jm_ws := jm_in (List.mem_of_getElem? (i := 601) (by decide +kernel)) (by decide +kernel)
theorem ew_A_childWith : Cond.selects "BargainTree$Agent" m_A_childWith.1 m_A_childWith.1 ∈ jm_ws := jm_in (List.mem_of_getElem? (i := 602) (by decide +kernel)) (by decide +kernel)
theorem nv_W_again : jm_NV m_W_again 3 := ⟨jm_in (List.mem_of_getElem? (i := 0) (by decide +kernel)) (by decide +kernel), jm_in (List.mem_of_getElem? (i := 606) (by decide +kernel)) (by decide +kernel), ⟨by decide, by decide⟩, by decide +kernel, by decide⟩
theorem sw_W_again : Cond.static m_W_again.1 ∈ jm_ws := jm_in (List.mem_of_getElem? (i := 605) (by decide +kernel)) (by decide +kernel)
theorem nv_B_again : jm_NV m_B_again 1 := ⟨jm_in (List.mem_of_getElem? (i := 1) (by decide +kernel)) (by decide +kernel), jm_in (List.mem_of_getElem? (i := 610) (by decide +kernel)) (by decide +kernel), ⟨by decide, by decide⟩, by decide +kernel, by decide⟩
theorem iw_B_again : Cond.instanceMethod m_B_again.1 ∈ jm_ws := jm_in (List.mem_of_getElem? (i := 608) (by decide +kernel)) (by decide +kernel)
theorem ew_B_again : Cond.selects "BargainTree" m_B_again.1 m_B_again.1 ∈ jm_ws := jm_in (List.mem_of_getElem? (i := 609) (by decide +kernel)) (by decide +kernel)
theorem nv_W_change : jm_NV m_W_change 7 := ⟨jm_in (List.mem_of_getElem? (i := 0) (by decide +kernel)) (by decide +kernel), jm_in (List.mem_of_getElem? (i := 615) (by decide +kernel)) (by decide +kernel), ⟨by decide, by decide⟩, by decide +kernel, by decide⟩
theorem sw_W_change : Cond.static m_W_change.1 ∈ jm_ws := jm_in (List.mem_of_getElem? (i := 614) (by decide +kernel)) (by decide +kernel)
theorem nv_B_change : jm_NV m_B_change 5 := ⟨jm_in (List.mem_of_getElem? (i := 1) (by decide +kernel)) (by decide +kernel), jm_in (List.mem_of_getElem? (i := 619) (by decide +kernel)) (by decide +kernel), ⟨by decide, by decide⟩, by decide +kernel, by decide⟩
theorem iw_B_change : Cond.instanceMethod m_B_change.1 ∈ jm_ws := jm_in (List.mem_of_getElem? (i := 617) (by decide +kernel)) (by decide +kernel)
theorem ew_B_change : Cond.selects "BargainTree" m_B_change.1 m_B_change.1 ∈ jm_ws := jm_in (List.mem_of_getElem? (i := 618) (by decide +kernel)) (by decide +kernel)
theorem nv_M_init : jm_NV m_M_init 0 := ⟨jm_in (List.mem_of_getElem? (i := 2) (by decide +kernel)) (by decide +kernel), jm_in (List.mem_of_getElem? (i := 625) (by decide +kernel)) (by decide +kernel), ⟨by decide, by decide⟩, by decide +kernel, by decide⟩
theorem iw_M_init : Cond.instanceMethod m_M_init.1 ∈ jm_ws := jm_in (List.mem_of_getElem? (i := 624) (by decide +kernel)) (by decide +kernel)
theorem nv_M_thrown : jm_NV m_M_thrown 0 := ⟨jm_in (List.mem_of_getElem? (i := 2) (by decide +kernel)) (by decide +kernel), jm_in (List.mem_of_getElem? (i := 758) (by decide +kernel)) (by decide +kernel), ⟨by decide, by decide⟩, by decide +kernel, by decide⟩
theorem iw_M_thrown : Cond.instanceMethod m_M_thrown.1 ∈ jm_ws := jm_in (List.mem_of_getElem? (i := 756) (by decide +kernel)) (by decide +kernel)
theorem ew_M_thrown : Cond.selects "BargainTreeModel" m_M_thrown.1 m_M_thrown.1 ∈ jm_ws := jm_in (List.mem_of_getElem? (i := 757) (by decide +kernel)) (by decide +kernel)
theorem nv_M_agent : jm_NV m_M_agent 1 := ⟨jm_in (List.mem_of_getElem? (i := 2) (by decide +kernel)) (by decide +kernel), jm_in (List.mem_of_getElem? (i := 762) (by decide +kernel)) (by decide +kernel), ⟨by decide, by decide⟩, by decide +kernel, by decide⟩
theorem iw_M_agent : Cond.instanceMethod m_M_agent.1 ∈ jm_ws := jm_in (List.mem_of_getElem? (i := 760) (by decide +kernel)) (by decide +kernel)
theorem ew_M_agent : Cond.selects "BargainTreeModel" m_M_agent.1 m_M_agent.1 ∈ jm_ws := jm_in (List.mem_of_getElem? (i := 761) (by decide +kernel)) (by decide +kernel)
theorem nv_M_within : jm_NV m_M_within 3 := ⟨jm_in (List.mem_of_getElem? (i := 2) (by decide +kernel)) (by decide +kernel), jm_in (List.mem_of_getElem? (i := 765) (by decide +kernel)) (by decide +kernel), ⟨by decide, by decide⟩, by decide +kernel, by decide⟩
theorem sw_M_within : Cond.static m_M_within.1 ∈ jm_ws := jm_in (List.mem_of_getElem? (i := 764) (by decide +kernel)) (by decide +kernel)
theorem nv_M_own : jm_NV m_M_own 3 := ⟨jm_in (List.mem_of_getElem? (i := 2) (by decide +kernel)) (by decide +kernel), jm_in (List.mem_of_getElem? (i := 769) (by decide +kernel)) (by decide +kernel), ⟨by decide, by decide⟩, by decide +kernel, by decide⟩
theorem iw_M_own : Cond.instanceMethod m_M_own.1 ∈ jm_ws := jm_in (List.mem_of_getElem? (i := 767) (by decide +kernel)) (by decide +kernel)
theorem ew_M_own : Cond.selects "BargainTreeModel" m_M_own.1 m_M_own.1 ∈ jm_ws := jm_in (List.mem_of_getElem? (i := 768) (by decide +kernel)) (by decide +kernel)
theorem nv_M_isValue : jm_NV m_M_isValue 2 := ⟨jm_in (List.mem_of_getElem? (i := 2) (by decide +kernel)) (by decide +kernel), jm_in (List.mem_of_getElem? (i := 773) (by decide +kernel)) (by decide +kernel), ⟨by decide, by decide⟩, by decide +kernel, by decide⟩
theorem iw_M_isValue : Cond.instanceMethod m_M_isValue.1 ∈ jm_ws := jm_in (List.mem_of_getElem? (i := 772) (by decide +kernel)) (by decide +kernel)
theorem ew_M_isValue : Cond.selects "BargainTreeModel" m_M_isValue.1 m_M_isValue.1 ∈ jm_ws := jm_inP (List.mem_of_getElem? (i := 28) (by decide +kernel)) (by decide +kernel)
theorem nv_M_isAgent : jm_NV m_M_isAgent 1 := ⟨jm_in (List.mem_of_getElem? (i := 2) (by decide +kernel)) (by decide +kernel), jm_in (List.mem_of_getElem? (i := 777) (by decide +kernel)) (by decide +kernel), ⟨by decide, by decide⟩, by decide +kernel, by decide⟩
theorem iw_M_isAgent : Cond.instanceMethod m_M_isAgent.1 ∈ jm_ws := jm_in (List.mem_of_getElem? (i := 776) (by decide +kernel)) (by decide +kernel)
theorem ew_M_isAgent : Cond.selects "BargainTreeModel" m_M_isAgent.1 m_M_isAgent.1 ∈ jm_ws := jm_inP (List.mem_of_getElem? (i := 29) (by decide +kernel)) (by decide +kernel)
theorem nv_M_isCost : jm_NV m_M_isCost 1 := ⟨jm_in (List.mem_of_getElem? (i := 2) (by decide +kernel)) (by decide +kernel), jm_in (List.mem_of_getElem? (i := 780) (by decide +kernel)) (by decide +kernel), ⟨by decide, by decide⟩, by decide +kernel, by decide⟩
theorem sw_M_isCost : Cond.static m_M_isCost.1 ∈ jm_ws := jm_in (List.mem_of_getElem? (i := 779) (by decide +kernel)) (by decide +kernel)
theorem nv_M_pair : jm_NV m_M_pair 2 := ⟨jm_in (List.mem_of_getElem? (i := 2) (by decide +kernel)) (by decide +kernel), jm_in (List.mem_of_getElem? (i := 785) (by decide +kernel)) (by decide +kernel), ⟨by decide, by decide⟩, by decide +kernel, by decide⟩
theorem iw_M_pair : Cond.instanceMethod m_M_pair.1 ∈ jm_ws := jm_in (List.mem_of_getElem? (i := 783) (by decide +kernel)) (by decide +kernel)
theorem ew_M_pair : Cond.selects "BargainTreeModel" m_M_pair.1 m_M_pair.1 ∈ jm_ws := jm_in (List.mem_of_getElem? (i := 784) (by decide +kernel)) (by decide +kernel)
theorem nv_M_pairOf : jm_NV m_M_pairOf 2 := ⟨jm_in (List.mem_of_getElem? (i := 2) (by decide +kernel)) (by decide +kernel), jm_in (List.mem_of_getElem? (i := 789) (by decide +kernel)) (by decide +kernel), ⟨by decide, by decide⟩, by decide +kernel, by decide⟩
theorem iw_M_pairOf : Cond.instanceMethod m_M_pairOf.1 ∈ jm_ws := jm_in (List.mem_of_getElem? (i := 788) (by decide +kernel)) (by decide +kernel)
theorem ew_M_pairOf : Cond.selects "BargainTreeModel" m_M_pairOf.1 m_M_pairOf.1 ∈ jm_ws := jm_inP (List.mem_of_getElem? (i := 30) (by decide +kernel)) (by decide +kernel)
theorem nv_M_cost : jm_NV m_M_cost 5 := ⟨jm_in (List.mem_of_getElem? (i := 2) (by decide +kernel)) (by decide +kernel), jm_in (List.mem_of_getElem? (i := 793) (by decide +kernel)) (by decide +kernel), ⟨by decide, by decide⟩, by decide +kernel, by decide⟩
theorem iw_M_cost : Cond.instanceMethod m_M_cost.1 ∈ jm_ws := jm_in (List.mem_of_getElem? (i := 791) (by decide +kernel)) (by decide +kernel)
theorem ew_M_cost : Cond.selects "BargainTreeModel" m_M_cost.1 m_M_cost.1 ∈ jm_ws := jm_in (List.mem_of_getElem? (i := 792) (by decide +kernel)) (by decide +kernel)
theorem nv_M_isPairCost : jm_NV m_M_isPairCost 5 := ⟨jm_in (List.mem_of_getElem? (i := 2) (by decide +kernel)) (by decide +kernel), jm_in (List.mem_of_getElem? (i := 797) (by decide +kernel)) (by decide +kernel), ⟨by decide, by decide⟩, by decide +kernel, by decide⟩
theorem iw_M_isPairCost : Cond.instanceMethod m_M_isPairCost.1 ∈ jm_ws := jm_in (List.mem_of_getElem? (i := 796) (by decide +kernel)) (by decide +kernel)
theorem ew_M_isPairCost : Cond.selects "BargainTreeModel" m_M_isPairCost.1 m_M_isPairCost.1 ∈ jm_ws := jm_inP (List.mem_of_getElem? (i := 31) (by decide +kernel)) (by decide +kernel)
theorem nv_M_setCost : jm_NV m_M_setCost 5 := ⟨jm_in (List.mem_of_getElem? (i := 2) (by decide +kernel)) (by decide +kernel), jm_in (List.mem_of_getElem? (i := 801) (by decide +kernel)) (by decide +kernel), ⟨by decide, by decide⟩, by decide +kernel, by decide⟩
theorem iw_M_setCost : Cond.instanceMethod m_M_setCost.1 ∈ jm_ws := jm_in (List.mem_of_getElem? (i := 800) (by decide +kernel)) (by decide +kernel)
theorem ew_M_setCost : Cond.selects "BargainTreeModel" m_M_setCost.1 m_M_setCost.1 ∈ jm_ws := jm_inP (List.mem_of_getElem? (i := 32) (by decide +kernel)) (by decide +kernel)
theorem nv_M_start : jm_NV m_M_start 0 := ⟨jm_in (List.mem_of_getElem? (i := 2) (by decide +kernel)) (by decide +kernel), jm_in (List.mem_of_getElem? (i := 805) (by decide +kernel)) (by decide +kernel), ⟨by decide, by decide⟩, by decide +kernel, by decide⟩
theorem iw_M_start : Cond.instanceMethod m_M_start.1 ∈ jm_ws := jm_in (List.mem_of_getElem? (i := 803) (by decide +kernel)) (by decide +kernel)
theorem ew_M_start : Cond.selects "BargainTreeModel" m_M_start.1 m_M_start.1 ∈ jm_ws := jm_in (List.mem_of_getElem? (i := 804) (by decide +kernel)) (by decide +kernel)
theorem nv_M_findPart : jm_NV m_M_findPart 1 := ⟨jm_in (List.mem_of_getElem? (i := 2) (by decide +kernel)) (by decide +kernel), jm_in (List.mem_of_getElem? (i := 809) (by decide +kernel)) (by decide +kernel), ⟨by decide, by decide⟩, by decide +kernel, by decide⟩
theorem iw_M_findPart : Cond.instanceMethod m_M_findPart.1 ∈ jm_ws := jm_in (List.mem_of_getElem? (i := 808) (by decide +kernel)) (by decide +kernel)
theorem ew_M_findPart : Cond.selects "BargainTreeModel" m_M_findPart.1 m_M_findPart.1 ∈ jm_ws := jm_inP (List.mem_of_getElem? (i := 33) (by decide +kernel)) (by decide +kernel)
theorem nv_M_has : jm_NV m_M_has 2 := ⟨jm_in (List.mem_of_getElem? (i := 2) (by decide +kernel)) (by decide +kernel), jm_in (List.mem_of_getElem? (i := 812) (by decide +kernel)) (by decide +kernel), ⟨by decide, by decide⟩, by decide +kernel, by decide⟩
theorem sw_M_has : Cond.static m_M_has.1 ∈ jm_ws := jm_in (List.mem_of_getElem? (i := 811) (by decide +kernel)) (by decide +kernel)
theorem nv_M_goesBefore : jm_NV m_M_goesBefore 2 := ⟨jm_in (List.mem_of_getElem? (i := 2) (by decide +kernel)) (by decide +kernel), jm_in (List.mem_of_getElem? (i := 816) (by decide +kernel)) (by decide +kernel), ⟨by decide, by decide⟩, by decide +kernel, by decide⟩
theorem iw_M_goesBefore : Cond.instanceMethod m_M_goesBefore.1 ∈ jm_ws := jm_in (List.mem_of_getElem? (i := 815) (by decide +kernel)) (by decide +kernel)
theorem ew_M_goesBefore : Cond.selects "BargainTreeModel" m_M_goesBefore.1 m_M_goesBefore.1 ∈ jm_ws := jm_inP (List.mem_of_getElem? (i := 34) (by decide +kernel)) (by decide +kernel)
theorem nv_M_bits : jm_NV m_M_bits 1 := ⟨jm_in (List.mem_of_getElem? (i := 2) (by decide +kernel)) (by decide +kernel), jm_in (List.mem_of_getElem? (i := 819) (by decide +kernel)) (by decide +kernel), ⟨by decide, by decide⟩, by decide +kernel, by decide⟩
theorem sw_M_bits : Cond.static m_M_bits.1 ∈ jm_ws := jm_in (List.mem_of_getElem? (i := 818) (by decide +kernel)) (by decide +kernel)
theorem nv_M_receiveToken : jm_NV m_M_receiveToken 3 := ⟨jm_in (List.mem_of_getElem? (i := 2) (by decide +kernel)) (by decide +kernel), jm_in (List.mem_of_getElem? (i := 823) (by decide +kernel)) (by decide +kernel), ⟨by decide, by decide⟩, by decide +kernel, by decide⟩
theorem iw_M_receiveToken : Cond.instanceMethod m_M_receiveToken.1 ∈ jm_ws := jm_in (List.mem_of_getElem? (i := 822) (by decide +kernel)) (by decide +kernel)
theorem ew_M_receiveToken : Cond.selects "BargainTreeModel" m_M_receiveToken.1 m_M_receiveToken.1 ∈ jm_ws := jm_inP (List.mem_of_getElem? (i := 35) (by decide +kernel)) (by decide +kernel)
theorem nv_M_hold : jm_NV m_M_hold 1 := ⟨jm_in (List.mem_of_getElem? (i := 2) (by decide +kernel)) (by decide +kernel), jm_in (List.mem_of_getElem? (i := 827) (by decide +kernel)) (by decide +kernel), ⟨by decide, by decide⟩, by decide +kernel, by decide⟩
theorem iw_M_hold : Cond.instanceMethod m_M_hold.1 ∈ jm_ws := jm_in (List.mem_of_getElem? (i := 826) (by decide +kernel)) (by decide +kernel)
theorem ew_M_hold : Cond.selects "BargainTreeModel" m_M_hold.1 m_M_hold.1 ∈ jm_ws := jm_inP (List.mem_of_getElem? (i := 36) (by decide +kernel)) (by decide +kernel)
theorem nv_M_post : jm_NV m_M_post 4 := ⟨jm_in (List.mem_of_getElem? (i := 2) (by decide +kernel)) (by decide +kernel), jm_in (List.mem_of_getElem? (i := 831) (by decide +kernel)) (by decide +kernel), ⟨by decide, by decide⟩, by decide +kernel, by decide⟩
theorem iw_M_post : Cond.instanceMethod m_M_post.1 ∈ jm_ws := jm_in (List.mem_of_getElem? (i := 830) (by decide +kernel)) (by decide +kernel)
theorem ew_M_post : Cond.selects "BargainTreeModel" m_M_post.1 m_M_post.1 ∈ jm_ws := jm_inP (List.mem_of_getElem? (i := 37) (by decide +kernel)) (by decide +kernel)
theorem nv_M_work : jm_NV m_M_work 2 := ⟨jm_in (List.mem_of_getElem? (i := 2) (by decide +kernel)) (by decide +kernel), jm_in (List.mem_of_getElem? (i := 835) (by decide +kernel)) (by decide +kernel), ⟨by decide, by decide⟩, by decide +kernel, by decide⟩
theorem iw_M_work : Cond.instanceMethod m_M_work.1 ∈ jm_ws := jm_in (List.mem_of_getElem? (i := 834) (by decide +kernel)) (by decide +kernel)
theorem ew_M_work : Cond.selects "BargainTreeModel" m_M_work.1 m_M_work.1 ∈ jm_ws := jm_inP (List.mem_of_getElem? (i := 38) (by decide +kernel)) (by decide +kernel)
theorem nv_M_hasAll : jm_NV m_M_hasAll 1 := ⟨jm_in (List.mem_of_getElem? (i := 2) (by decide +kernel)) (by decide +kernel), jm_in (List.mem_of_getElem? (i := 839) (by decide +kernel)) (by decide +kernel), ⟨by decide, by decide⟩, by decide +kernel, by decide⟩
theorem iw_M_hasAll : Cond.instanceMethod m_M_hasAll.1 ∈ jm_ws := jm_in (List.mem_of_getElem? (i := 838) (by decide +kernel)) (by decide +kernel)
theorem ew_M_hasAll : Cond.selects "BargainTreeModel" m_M_hasAll.1 m_M_hasAll.1 ∈ jm_ws := jm_inP (List.mem_of_getElem? (i := 39) (by decide +kernel)) (by decide +kernel)
theorem nv_M_width : jm_NV m_M_width 1 := ⟨jm_in (List.mem_of_getElem? (i := 2) (by decide +kernel)) (by decide +kernel), jm_in (List.mem_of_getElem? (i := 843) (by decide +kernel)) (by decide +kernel), ⟨by decide, by decide⟩, by decide +kernel, by decide⟩
theorem iw_M_width : Cond.instanceMethod m_M_width.1 ∈ jm_ws := jm_in (List.mem_of_getElem? (i := 842) (by decide +kernel)) (by decide +kernel)
theorem ew_M_width : Cond.selects "BargainTreeModel" m_M_width.1 m_M_width.1 ∈ jm_ws := jm_inP (List.mem_of_getElem? (i := 40) (by decide +kernel)) (by decide +kernel)
theorem nv_M_make : jm_NV m_M_make 2 := ⟨jm_in (List.mem_of_getElem? (i := 2) (by decide +kernel)) (by decide +kernel), jm_in (List.mem_of_getElem? (i := 847) (by decide +kernel)) (by decide +kernel), ⟨by decide, by decide⟩, by decide +kernel, by decide⟩
theorem iw_M_make : Cond.instanceMethod m_M_make.1 ∈ jm_ws := jm_in (List.mem_of_getElem? (i := 846) (by decide +kernel)) (by decide +kernel)
theorem ew_M_make : Cond.selects "BargainTreeModel" m_M_make.1 m_M_make.1 ∈ jm_ws := jm_inP (List.mem_of_getElem? (i := 41) (by decide +kernel)) (by decide +kernel)
theorem nv_M_best : jm_NV m_M_best 1 := ⟨jm_in (List.mem_of_getElem? (i := 2) (by decide +kernel)) (by decide +kernel), jm_in (List.mem_of_getElem? (i := 851) (by decide +kernel)) (by decide +kernel), ⟨by decide, by decide⟩, by decide +kernel, by decide⟩
theorem iw_M_best : Cond.instanceMethod m_M_best.1 ∈ jm_ws := jm_in (List.mem_of_getElem? (i := 850) (by decide +kernel)) (by decide +kernel)
theorem ew_M_best : Cond.selects "BargainTreeModel" m_M_best.1 m_M_best.1 ∈ jm_ws := jm_inP (List.mem_of_getElem? (i := 42) (by decide +kernel)) (by decide +kernel)
theorem nv_M_costNow : jm_NV m_M_costNow 1 := ⟨jm_in (List.mem_of_getElem? (i := 2) (by decide +kernel)) (by decide +kernel), jm_in (List.mem_of_getElem? (i := 855) (by decide +kernel)) (by decide +kernel), ⟨by decide, by decide⟩, by decide +kernel, by decide⟩
theorem iw_M_costNow : Cond.instanceMethod m_M_costNow.1 ∈ jm_ws := jm_in (List.mem_of_getElem? (i := 854) (by decide +kernel)) (by decide +kernel)
theorem ew_M_costNow : Cond.selects "BargainTreeModel" m_M_costNow.1 m_M_costNow.1 ∈ jm_ws := jm_inP (List.mem_of_getElem? (i := 43) (by decide +kernel)) (by decide +kernel)
theorem nv_M_placeIn : jm_NV m_M_placeIn 1 := ⟨jm_in (List.mem_of_getElem? (i := 2) (by decide +kernel)) (by decide +kernel), jm_in (List.mem_of_getElem? (i := 859) (by decide +kernel)) (by decide +kernel), ⟨by decide, by decide⟩, by decide +kernel, by decide⟩
theorem iw_M_placeIn : Cond.instanceMethod m_M_placeIn.1 ∈ jm_ws := jm_in (List.mem_of_getElem? (i := 858) (by decide +kernel)) (by decide +kernel)
theorem ew_M_placeIn : Cond.selects "BargainTreeModel" m_M_placeIn.1 m_M_placeIn.1 ∈ jm_ws := jm_inP (List.mem_of_getElem? (i := 44) (by decide +kernel)) (by decide +kernel)
theorem nv_M_postTable : jm_NV m_M_postTable 1 := ⟨jm_in (List.mem_of_getElem? (i := 2) (by decide +kernel)) (by decide +kernel), jm_in (List.mem_of_getElem? (i := 863) (by decide +kernel)) (by decide +kernel), ⟨by decide, by decide⟩, by decide +kernel, by decide⟩
theorem iw_M_postTable : Cond.instanceMethod m_M_postTable.1 ∈ jm_ws := jm_in (List.mem_of_getElem? (i := 862) (by decide +kernel)) (by decide +kernel)
theorem ew_M_postTable : Cond.selects "BargainTreeModel" m_M_postTable.1 m_M_postTable.1 ∈ jm_ws := jm_inP (List.mem_of_getElem? (i := 45) (by decide +kernel)) (by decide +kernel)
theorem nv_M_choose : jm_NV m_M_choose 2 := ⟨jm_in (List.mem_of_getElem? (i := 2) (by decide +kernel)) (by decide +kernel), jm_in (List.mem_of_getElem? (i := 867) (by decide +kernel)) (by decide +kernel), ⟨by decide, by decide⟩, by decide +kernel, by decide⟩
theorem iw_M_choose : Cond.instanceMethod m_M_choose.1 ∈ jm_ws := jm_in (List.mem_of_getElem? (i := 866) (by decide +kernel)) (by decide +kernel)
theorem ew_M_choose : Cond.selects "BargainTreeModel" m_M_choose.1 m_M_choose.1 ∈ jm_ws := jm_inP (List.mem_of_getElem? (i := 46) (by decide +kernel)) (by decide +kernel)
theorem nv_M_postChoices : jm_NV m_M_postChoices 1 := ⟨jm_in (List.mem_of_getElem? (i := 2) (by decide +kernel)) (by decide +kernel), jm_in (List.mem_of_getElem? (i := 871) (by decide +kernel)) (by decide +kernel), ⟨by decide, by decide⟩, by decide +kernel, by decide⟩
theorem iw_M_postChoices : Cond.instanceMethod m_M_postChoices.1 ∈ jm_ws := jm_in (List.mem_of_getElem? (i := 870) (by decide +kernel)) (by decide +kernel)
theorem ew_M_postChoices : Cond.selects "BargainTreeModel" m_M_postChoices.1 m_M_postChoices.1 ∈ jm_ws := jm_inP (List.mem_of_getElem? (i := 47) (by decide +kernel)) (by decide +kernel)
theorem nv_M_letter : jm_NV m_M_letter 2 := ⟨jm_in (List.mem_of_getElem? (i := 2) (by decide +kernel)) (by decide +kernel), jm_in (List.mem_of_getElem? (i := 875) (by decide +kernel)) (by decide +kernel), ⟨by decide, by decide⟩, by decide +kernel, by decide⟩
theorem iw_M_letter : Cond.instanceMethod m_M_letter.1 ∈ jm_ws := jm_in (List.mem_of_getElem? (i := 873) (by decide +kernel)) (by decide +kernel)
theorem ew_M_letter : Cond.selects "BargainTreeModel" m_M_letter.1 m_M_letter.1 ∈ jm_ws := jm_in (List.mem_of_getElem? (i := 874) (by decide +kernel)) (by decide +kernel)
theorem nv_M_copyLetter : jm_NV m_M_copyLetter 2 := ⟨jm_in (List.mem_of_getElem? (i := 2) (by decide +kernel)) (by decide +kernel), jm_in (List.mem_of_getElem? (i := 879) (by decide +kernel)) (by decide +kernel), ⟨by decide, by decide⟩, by decide +kernel, by decide⟩
theorem iw_M_copyLetter : Cond.instanceMethod m_M_copyLetter.1 ∈ jm_ws := jm_in (List.mem_of_getElem? (i := 878) (by decide +kernel)) (by decide +kernel)
theorem ew_M_copyLetter : Cond.selects "BargainTreeModel" m_M_copyLetter.1 m_M_copyLetter.1 ∈ jm_ws := jm_inP (List.mem_of_getElem? (i := 48) (by decide +kernel)) (by decide +kernel)
theorem nv_M_deliver : jm_NV m_M_deliver 0 := ⟨jm_in (List.mem_of_getElem? (i := 2) (by decide +kernel)) (by decide +kernel), jm_in (List.mem_of_getElem? (i := 883) (by decide +kernel)) (by decide +kernel), ⟨by decide, by decide⟩, by decide +kernel, by decide⟩
theorem iw_M_deliver : Cond.instanceMethod m_M_deliver.1 ∈ jm_ws := jm_in (List.mem_of_getElem? (i := 882) (by decide +kernel)) (by decide +kernel)
theorem ew_M_deliver : Cond.selects "BargainTreeModel" m_M_deliver.1 m_M_deliver.1 ∈ jm_ws := jm_inP (List.mem_of_getElem? (i := 49) (by decide +kernel)) (by decide +kernel)
theorem nv_M_told : jm_NV m_M_told 2 := ⟨jm_in (List.mem_of_getElem? (i := 2) (by decide +kernel)) (by decide +kernel), jm_in (List.mem_of_getElem? (i := 887) (by decide +kernel)) (by decide +kernel), ⟨by decide, by decide⟩, by decide +kernel, by decide⟩
theorem iw_M_told : Cond.instanceMethod m_M_told.1 ∈ jm_ws := jm_in (List.mem_of_getElem? (i := 885) (by decide +kernel)) (by decide +kernel)
theorem ew_M_told : Cond.selects "BargainTreeModel" m_M_told.1 m_M_told.1 ∈ jm_ws := jm_in (List.mem_of_getElem? (i := 886) (by decide +kernel)) (by decide +kernel)
theorem nv_M_entryOf : jm_NV m_M_entryOf 2 := ⟨jm_in (List.mem_of_getElem? (i := 2) (by decide +kernel)) (by decide +kernel), jm_in (List.mem_of_getElem? (i := 891) (by decide +kernel)) (by decide +kernel), ⟨by decide, by decide⟩, by decide +kernel, by decide⟩
theorem iw_M_entryOf : Cond.instanceMethod m_M_entryOf.1 ∈ jm_ws := jm_in (List.mem_of_getElem? (i := 890) (by decide +kernel)) (by decide +kernel)
theorem ew_M_entryOf : Cond.selects "BargainTreeModel" m_M_entryOf.1 m_M_entryOf.1 ∈ jm_ws := jm_inP (List.mem_of_getElem? (i := 50) (by decide +kernel)) (by decide +kernel)
theorem nv_M_again : jm_NV m_M_again 1 := ⟨jm_in (List.mem_of_getElem? (i := 2) (by decide +kernel)) (by decide +kernel), jm_in (List.mem_of_getElem? (i := 895) (by decide +kernel)) (by decide +kernel), ⟨by decide, by decide⟩, by decide +kernel, by decide⟩
theorem iw_M_again : Cond.instanceMethod m_M_again.1 ∈ jm_ws := jm_in (List.mem_of_getElem? (i := 893) (by decide +kernel)) (by decide +kernel)
theorem ew_M_again : Cond.selects "BargainTreeModel" m_M_again.1 m_M_again.1 ∈ jm_ws := jm_in (List.mem_of_getElem? (i := 894) (by decide +kernel)) (by decide +kernel)
theorem nv_M_change : jm_NV m_M_change 5 := ⟨jm_in (List.mem_of_getElem? (i := 2) (by decide +kernel)) (by decide +kernel), jm_in (List.mem_of_getElem? (i := 899) (by decide +kernel)) (by decide +kernel), ⟨by decide, by decide⟩, by decide +kernel, by decide⟩
theorem iw_M_change : Cond.instanceMethod m_M_change.1 ∈ jm_ws := jm_in (List.mem_of_getElem? (i := 897) (by decide +kernel)) (by decide +kernel)
theorem ew_M_change : Cond.selects "BargainTreeModel" m_M_change.1 m_M_change.1 ∈ jm_ws := jm_in (List.mem_of_getElem? (i := 898) (by decide +kernel)) (by decide +kernel)
theorem nv_M_state : jm_NV m_M_state 0 := ⟨jm_in (List.mem_of_getElem? (i := 2) (by decide +kernel)) (by decide +kernel), jm_in (List.mem_of_getElem? (i := 903) (by decide +kernel)) (by decide +kernel), ⟨by decide, by decide⟩, by decide +kernel, by decide⟩
theorem iw_M_state : Cond.instanceMethod m_M_state.1 ∈ jm_ws := jm_in (List.mem_of_getElem? (i := 902) (by decide +kernel)) (by decide +kernel)
theorem ew_M_state : Cond.selects "BargainTreeModel" m_M_state.1 m_M_state.1 ∈ jm_ws := jm_inP (List.mem_of_getElem? (i := 51) (by decide +kernel)) (by decide +kernel)
theorem nv_M_isLost : jm_NV m_M_isLost 1 := ⟨jm_in (List.mem_of_getElem? (i := 2) (by decide +kernel)) (by decide +kernel), jm_in (List.mem_of_getElem? (i := 907) (by decide +kernel)) (by decide +kernel), ⟨by decide, by decide⟩, by decide +kernel, by decide⟩
theorem iw_M_isLost : Cond.instanceMethod m_M_isLost.1 ∈ jm_ws := jm_in (List.mem_of_getElem? (i := 906) (by decide +kernel)) (by decide +kernel)
theorem ew_M_isLost : Cond.selects "BargainTreeModel" m_M_isLost.1 m_M_isLost.1 ∈ jm_ws := jm_inP (List.mem_of_getElem? (i := 52) (by decide +kernel)) (by decide +kernel)
theorem nv_M_isSettled : jm_NV m_M_isSettled 1 := ⟨jm_in (List.mem_of_getElem? (i := 2) (by decide +kernel)) (by decide +kernel), jm_in (List.mem_of_getElem? (i := 911) (by decide +kernel)) (by decide +kernel), ⟨by decide, by decide⟩, by decide +kernel, by decide⟩
theorem iw_M_isSettled : Cond.instanceMethod m_M_isSettled.1 ∈ jm_ws := jm_in (List.mem_of_getElem? (i := 910) (by decide +kernel)) (by decide +kernel)
theorem ew_M_isSettled : Cond.selects "BargainTreeModel" m_M_isSettled.1 m_M_isSettled.1 ∈ jm_ws := jm_inP (List.mem_of_getElem? (i := 53) (by decide +kernel)) (by decide +kernel)
theorem nv_M_done : jm_NV m_M_done 0 := ⟨jm_in (List.mem_of_getElem? (i := 2) (by decide +kernel)) (by decide +kernel), jm_in (List.mem_of_getElem? (i := 915) (by decide +kernel)) (by decide +kernel), ⟨by decide, by decide⟩, by decide +kernel, by decide⟩
theorem iw_M_done : Cond.instanceMethod m_M_done.1 ∈ jm_ws := jm_in (List.mem_of_getElem? (i := 913) (by decide +kernel)) (by decide +kernel)
theorem ew_M_done : Cond.selects "BargainTreeModel" m_M_done.1 m_M_done.1 ∈ jm_ws := jm_in (List.mem_of_getElem? (i := 914) (by decide +kernel)) (by decide +kernel)
theorem nv_M_value : jm_NV m_M_value 1 := ⟨jm_in (List.mem_of_getElem? (i := 2) (by decide +kernel)) (by decide +kernel), jm_in (List.mem_of_getElem? (i := 919) (by decide +kernel)) (by decide +kernel), ⟨by decide, by decide⟩, by decide +kernel, by decide⟩
theorem iw_M_value : Cond.instanceMethod m_M_value.1 ∈ jm_ws := jm_in (List.mem_of_getElem? (i := 917) (by decide +kernel)) (by decide +kernel)
theorem ew_M_value : Cond.selects "BargainTreeModel" m_M_value.1 m_M_value.1 ∈ jm_ws := jm_in (List.mem_of_getElem? (i := 918) (by decide +kernel)) (by decide +kernel)
theorem nv_M_total : jm_NV m_M_total 0 := ⟨jm_in (List.mem_of_getElem? (i := 2) (by decide +kernel)) (by decide +kernel), jm_in (List.mem_of_getElem? (i := 923) (by decide +kernel)) (by decide +kernel), ⟨by decide, by decide⟩, by decide +kernel, by decide⟩
theorem iw_M_total : Cond.instanceMethod m_M_total.1 ∈ jm_ws := jm_in (List.mem_of_getElem? (i := 921) (by decide +kernel)) (by decide +kernel)
theorem ew_M_total : Cond.selects "BargainTreeModel" m_M_total.1 m_M_total.1 ∈ jm_ws := jm_in (List.mem_of_getElem? (i := 922) (by decide +kernel)) (by decide +kernel)
theorem nv_M_parent : jm_NV m_M_parent 1 := ⟨jm_in (List.mem_of_getElem? (i := 2) (by decide +kernel)) (by decide +kernel), jm_in (List.mem_of_getElem? (i := 927) (by decide +kernel)) (by decide +kernel), ⟨by decide, by decide⟩, by decide +kernel, by decide⟩
theorem iw_M_parent : Cond.instanceMethod m_M_parent.1 ∈ jm_ws := jm_in (List.mem_of_getElem? (i := 925) (by decide +kernel)) (by decide +kernel)
theorem ew_M_parent : Cond.selects "BargainTreeModel" m_M_parent.1 m_M_parent.1 ∈ jm_ws := jm_in (List.mem_of_getElem? (i := 926) (by decide +kernel)) (by decide +kernel)
theorem nv_M_separator : jm_NV m_M_separator 1 := ⟨jm_in (List.mem_of_getElem? (i := 2) (by decide +kernel)) (by decide +kernel), jm_in (List.mem_of_getElem? (i := 931) (by decide +kernel)) (by decide +kernel), ⟨by decide, by decide⟩, by decide +kernel, by decide⟩
theorem iw_M_separator : Cond.instanceMethod m_M_separator.1 ∈ jm_ws := jm_in (List.mem_of_getElem? (i := 929) (by decide +kernel)) (by decide +kernel)
theorem ew_M_separator : Cond.selects "BargainTreeModel" m_M_separator.1 m_M_separator.1 ∈ jm_ws := jm_in (List.mem_of_getElem? (i := 930) (by decide +kernel)) (by decide +kernel)
theorem nv_M_entries : jm_NV m_M_entries 1 := ⟨jm_in (List.mem_of_getElem? (i := 2) (by decide +kernel)) (by decide +kernel), jm_in (List.mem_of_getElem? (i := 935) (by decide +kernel)) (by decide +kernel), ⟨by decide, by decide⟩, by decide +kernel, by decide⟩
theorem iw_M_entries : Cond.instanceMethod m_M_entries.1 ∈ jm_ws := jm_in (List.mem_of_getElem? (i := 933) (by decide +kernel)) (by decide +kernel)
theorem ew_M_entries : Cond.selects "BargainTreeModel" m_M_entries.1 m_M_entries.1 ∈ jm_ws := jm_in (List.mem_of_getElem? (i := 934) (by decide +kernel)) (by decide +kernel)
theorem nv_M_tables : jm_NV m_M_tables 0 := ⟨jm_in (List.mem_of_getElem? (i := 2) (by decide +kernel)) (by decide +kernel), jm_in (List.mem_of_getElem? (i := 939) (by decide +kernel)) (by decide +kernel), ⟨by decide, by decide⟩, by decide +kernel, by decide⟩
theorem iw_M_tables : Cond.instanceMethod m_M_tables.1 ∈ jm_ws := jm_in (List.mem_of_getElem? (i := 937) (by decide +kernel)) (by decide +kernel)
theorem ew_M_tables : Cond.selects "BargainTreeModel" m_M_tables.1 m_M_tables.1 ∈ jm_ws := jm_in (List.mem_of_getElem? (i := 938) (by decide +kernel)) (by decide +kernel)
end
section
/-! LINKS of the pools. Written by wip/whole/gen/meths.py -/
def jm_FG (own : String) (idx ci j : Nat) (ty : FieldType) : Prop :=
  ∃ (C : String) (T : u_T) (N : Nat), jm_cl[ci]? = some (C, T, N) ∧ j < N ∧ parseFieldDescriptor (T j).2.2.1 = some ty ∧ Cond.fieldLink own idx (T j).1 (T j).2.1 (T j).2.2.1 ∈ jm_ws
theorem jm_getG {Γ : jm_G} {μ : jm_Mt} {d rc rs : Nat} {Q : jm_O → jm_H → Prop} {pc : Nat} {ls : List (Option Value)} {st : List Value} {h : jm_H} {idx ci j n a : Nat} {ty : FieldType} (hd : decode μ.2.1 pc = .ok (.getfield idx, 3)) (hf : jm_FG μ.1.cls idx ci j ty) (ha : h.1 a = some (ci, n))
    (k : jm_W Γ μ d rc rs Q (pc + 3) ls (h.2 ci j a :: st) h) : jm_W Γ μ d rc rs Q pc ls (.ref a :: st) h := by
  intro p e R s m args below meth c H locs cells slots arr E hR hlo hc hs hl hn
  obtain ⟨C, T, N, f1, f2, f4, f5⟩ := hf
  obtain ⟨hx, hb, hr, hml, hown, hts, hC, -⟩ := id E
  obtain ⟨hb0, r, g1, cell, g2, g3, g4, g5⟩ := (hR.2.2.2 a ci n ha).1 (jm_lt f1 jm_cl_len)
  cases Option.some.inj (g1.symm.trans f1)
  obtain ⟨hin, -, -⟩ := jm_clok ci C T N f1
  obtain ⟨hS, hfc, kC, hkC, hkind⟩ := hC.1.1 ci _ f1
  obtain ⟨cf, kf, fi, f, hi, hsl⟩ := hS j f2
  exact W.getf hx hb hown (hts _ f5) hi (u_facts hfc hkC (u_lays hts hin f2) hi).1 g2 (by rw [g4]; exact fun z => by cases z) (v := h.2 ci j a) (by rw [hsl]; exact g5 j f2) rfl rfl hd (k p e R s m args below meth c H locs cells slots arr E hR hlo hc hs hl hn)
theorem iw_obj : Cond.instanceMethod Lib.objectInit ∈ jm_ws := jm_in (List.mem_of_getElem? (i := 25) (by decide +kernel)) (by decide +kernel)
theorem cw_obj : Cond.code Lib.objectInit ⟨#[0xb1]⟩ 1 none ∈ jm_ws := jm_in (List.mem_of_getElem? (i := 26) (by decide +kernel)) (by decide +kernel)
theorem f_B_11 : jm_FL "BargainTree" 11 0 0 true (.array (.object "BargainTree$Agent")) := ⟨"BargainTree", jm_F0, 9, rfl, by decide, rfl, jm_yok0 0 (by decide), jm_in (List.mem_of_getElem? (i := 33) (by decide +kernel)) (by decide +kernel), fun _ => rfl⟩
theorem f_B_42 : jm_FL "BargainTree" 42 0 1 false .int := ⟨"BargainTree", jm_F0, 9, rfl, by decide, rfl, jm_yok0 1 (by decide), jm_in (List.mem_of_getElem? (i := 34) (by decide +kernel)) (by decide +kernel), fun h => nomatch h⟩
theorem f_B_17 : jm_FL "BargainTree" 17 0 2 true (.array (.object "BargainTree$Pair")) := ⟨"BargainTree", jm_F0, 9, rfl, by decide, rfl, jm_yok0 2 (by decide), jm_in (List.mem_of_getElem? (i := 35) (by decide +kernel)) (by decide +kernel), fun _ => rfl⟩
theorem f_B_74 : jm_FL "BargainTree" 74 0 3 false .int := ⟨"BargainTree", jm_F0, 9, rfl, by decide, rfl, jm_yok0 3 (by decide), jm_in (List.mem_of_getElem? (i := 36) (by decide +kernel)) (by decide +kernel), fun h => nomatch h⟩
theorem f_B_23 : jm_FL "BargainTree" 23 0 4 true (.array (.object "BargainTree$Letter")) := ⟨"BargainTree", jm_F0, 9, rfl, by decide, rfl, jm_yok0 4 (by decide), jm_in (List.mem_of_getElem? (i := 37) (by decide +kernel)) (by decide +kernel), fun _ => rfl⟩
theorem f_B_139 : jm_FL "BargainTree" 139 0 5 false .int := ⟨"BargainTree", jm_F0, 9, rfl, by decide, rfl, jm_yok0 5 (by decide), jm_in (List.mem_of_getElem? (i := 38) (by decide +kernel)) (by decide +kernel), fun h => nomatch h⟩
theorem f_B_27 : jm_FL "BargainTree" 27 0 6 true (.array .int) := ⟨"BargainTree", jm_F0, 9, rfl, by decide, rfl, jm_yok0 6 (by decide), jm_in (List.mem_of_getElem? (i := 39) (by decide +kernel)) (by decide +kernel), fun _ => rfl⟩
theorem f_B_31 : jm_FL "BargainTree" 31 0 7 false .boolean := ⟨"BargainTree", jm_F0, 9, rfl, by decide, rfl, jm_yok0 7 (by decide), jm_in (List.mem_of_getElem? (i := 40) (by decide +kernel)) (by decide +kernel), fun h => nomatch h⟩
theorem f_B_221 : jm_FL "BargainTree" 221 0 8 false .int := ⟨"BargainTree", jm_F0, 9, rfl, by decide, rfl, jm_yok0 8 (by decide), jm_in (List.mem_of_getElem? (i := 41) (by decide +kernel)) (by decide +kernel), fun h => nomatch h⟩
theorem f_B_189 : Cond.fieldLink "BargainTree" 189 jm_en (jm_enm 2) jm_ed ∈ jm_ws := jm_in (List.mem_of_getElem? (i := 115) (by decide +kernel)) (by decide +kernel)
theorem f_A_21 : Cond.fieldLink "BargainTree$Agent" 21 jm_en (jm_enm 0) jm_ed ∈ jm_ws := jm_in (List.mem_of_getElem? (i := 225) (by decide +kernel)) (by decide +kernel)
theorem f_A_37 : jm_FL "BargainTree$Agent" 37 1 0 true .int := ⟨"BargainTree$Agent", jm_F1, 18, rfl, by decide, rfl, jm_yok1 0 (by decide), jm_in (List.mem_of_getElem? (i := 227) (by decide +kernel)) (by decide +kernel), fun _ => rfl⟩
theorem f_Q_22 : jm_FG "BargainTree$Pair" 22 1 0 .int := ⟨"BargainTree$Agent", jm_F1, 18, rfl, by decide, jm_yok1 0 (by decide), jm_in (List.mem_of_getElem? (i := 228) (by decide +kernel)) (by decide +kernel)⟩
theorem f_B_294 : jm_FG "BargainTree" 294 1 0 .int := ⟨"BargainTree$Agent", jm_F1, 18, rfl, by decide, jm_yok1 0 (by decide), jm_in (List.mem_of_getElem? (i := 229) (by decide +kernel)) (by decide +kernel)⟩
theorem f_A_40 : jm_FL "BargainTree$Agent" 40 1 1 true .int := ⟨"BargainTree$Agent", jm_F1, 18, rfl, by decide, rfl, jm_yok1 1 (by decide), jm_in (List.mem_of_getElem? (i := 230) (by decide +kernel)) (by decide +kernel), fun _ => rfl⟩
theorem f_B_245 : jm_FG "BargainTree" 245 1 1 .int := ⟨"BargainTree$Agent", jm_F1, 18, rfl, by decide, jm_yok1 1 (by decide), jm_in (List.mem_of_getElem? (i := 231) (by decide +kernel)) (by decide +kernel)⟩
theorem f_A_9 : jm_FL "BargainTree$Agent" 9 1 2 true (.array .int) := ⟨"BargainTree$Agent", jm_F1, 18, rfl, by decide, rfl, jm_yok1 2 (by decide), jm_in (List.mem_of_getElem? (i := 232) (by decide +kernel)) (by decide +kernel), fun _ => rfl⟩
theorem f_B_66 : jm_FG "BargainTree" 66 1 2 (.array .int) := ⟨"BargainTree$Agent", jm_F1, 18, rfl, by decide, jm_yok1 2 (by decide), jm_in (List.mem_of_getElem? (i := 233) (by decide +kernel)) (by decide +kernel)⟩
theorem f_A_17 : jm_FL "BargainTree$Agent" 17 1 3 true (.array (.object "BargainTree$Child")) := ⟨"BargainTree$Agent", jm_F1, 18, rfl, by decide, rfl, jm_yok1 3 (by decide), jm_in (List.mem_of_getElem? (i := 234) (by decide +kernel)) (by decide +kernel), fun _ => rfl⟩
theorem f_B_350 : jm_FG "BargainTree" 350 1 3 (.array (.object "BargainTree$Child")) := ⟨"BargainTree$Agent", jm_F1, 18, rfl, by decide, jm_yok1 3 (by decide), jm_in (List.mem_of_getElem? (i := 235) (by decide +kernel)) (by decide +kernel)⟩
theorem f_A_62 : jm_FL "BargainTree$Agent" 62 1 4 false .int := ⟨"BargainTree$Agent", jm_F1, 18, rfl, by decide, rfl, jm_yok1 4 (by decide), jm_in (List.mem_of_getElem? (i := 236) (by decide +kernel)) (by decide +kernel), fun h => nomatch h⟩
theorem f_B_347 : jm_FL "BargainTree" 347 1 4 false .int := ⟨"BargainTree$Agent", jm_F1, 18, rfl, by decide, rfl, jm_yok1 4 (by decide), jm_in (List.mem_of_getElem? (i := 237) (by decide +kernel)) (by decide +kernel), fun h => nomatch h⟩
theorem f_B_93 : jm_FL "BargainTree" 93 1 5 false .int := ⟨"BargainTree$Agent", jm_F1, 18, rfl, by decide, rfl, jm_yok1 5 (by decide), jm_in (List.mem_of_getElem? (i := 238) (by decide +kernel)) (by decide +kernel), fun h => nomatch h⟩
theorem f_A_43 : jm_FL "BargainTree$Agent" 43 1 6 false (.object "BargainTree$Part") := ⟨"BargainTree$Agent", jm_F1, 18, rfl, by decide, rfl, jm_yok1 6 (by decide), jm_in (List.mem_of_getElem? (i := 239) (by decide +kernel)) (by decide +kernel), fun h => nomatch h⟩
theorem f_B_212 : jm_FL "BargainTree" 212 1 6 false (.object "BargainTree$Part") := ⟨"BargainTree$Agent", jm_F1, 18, rfl, by decide, rfl, jm_yok1 6 (by decide), jm_in (List.mem_of_getElem? (i := 240) (by decide +kernel)) (by decide +kernel), fun h => nomatch h⟩
theorem f_A_27 : jm_FL "BargainTree$Agent" 27 1 7 false (.object "BargainTree$Stage") := ⟨"BargainTree$Agent", jm_F1, 18, rfl, by decide, rfl, jm_yok1 7 (by decide), jm_in (List.mem_of_getElem? (i := 241) (by decide +kernel)) (by decide +kernel), fun h => nomatch h⟩
theorem f_B_176 : jm_FL "BargainTree" 176 1 7 false (.object "BargainTree$Stage") := ⟨"BargainTree$Agent", jm_F1, 18, rfl, by decide, rfl, jm_yok1 7 (by decide), jm_in (List.mem_of_getElem? (i := 242) (by decide +kernel)) (by decide +kernel), fun h => nomatch h⟩
theorem f_B_118 : jm_FL "BargainTree" 118 1 8 false .int := ⟨"BargainTree$Agent", jm_F1, 18, rfl, by decide, rfl, jm_yok1 8 (by decide), jm_in (List.mem_of_getElem? (i := 243) (by decide +kernel)) (by decide +kernel), fun h => nomatch h⟩
theorem f_Q_27 : jm_FL "BargainTree$Pair" 27 1 9 false .int := ⟨"BargainTree$Agent", jm_F1, 18, rfl, by decide, rfl, jm_yok1 9 (by decide), jm_in (List.mem_of_getElem? (i := 244) (by decide +kernel)) (by decide +kernel), fun h => nomatch h⟩
theorem f_A_74 : jm_FL "BargainTree$Agent" 74 1 9 false .int := ⟨"BargainTree$Agent", jm_F1, 18, rfl, by decide, rfl, jm_yok1 9 (by decide), jm_in (List.mem_of_getElem? (i := 245) (by decide +kernel)) (by decide +kernel), fun h => nomatch h⟩
theorem f_B_224 : jm_FL "BargainTree" 224 1 9 false .int := ⟨"BargainTree$Agent", jm_F1, 18, rfl, by decide, rfl, jm_yok1 9 (by decide), jm_in (List.mem_of_getElem? (i := 246) (by decide +kernel)) (by decide +kernel), fun h => nomatch h⟩
theorem f_A_30 : jm_FL "BargainTree$Agent" 30 1 10 false .int := ⟨"BargainTree$Agent", jm_F1, 18, rfl, by decide, rfl, jm_yok1 10 (by decide), jm_in (List.mem_of_getElem? (i := 247) (by decide +kernel)) (by decide +kernel), fun h => nomatch h⟩
theorem f_B_239 : jm_FL "BargainTree" 239 1 10 false .int := ⟨"BargainTree$Agent", jm_F1, 18, rfl, by decide, rfl, jm_yok1 10 (by decide), jm_in (List.mem_of_getElem? (i := 248) (by decide +kernel)) (by decide +kernel), fun h => nomatch h⟩
theorem f_A_34 : jm_FL "BargainTree$Agent" 34 1 11 false .int := ⟨"BargainTree$Agent", jm_F1, 18, rfl, by decide, rfl, jm_yok1 11 (by decide), jm_in (List.mem_of_getElem? (i := 249) (by decide +kernel)) (by decide +kernel), fun h => nomatch h⟩
theorem f_B_297 : jm_FL "BargainTree" 297 1 11 false .int := ⟨"BargainTree$Agent", jm_F1, 18, rfl, by decide, rfl, jm_yok1 11 (by decide), jm_in (List.mem_of_getElem? (i := 250) (by decide +kernel)) (by decide +kernel), fun h => nomatch h⟩
theorem f_A_77 : jm_FL "BargainTree$Agent" 77 1 12 false .int := ⟨"BargainTree$Agent", jm_F1, 18, rfl, by decide, rfl, jm_yok1 12 (by decide), jm_in (List.mem_of_getElem? (i := 251) (by decide +kernel)) (by decide +kernel), fun h => nomatch h⟩
theorem f_B_242 : jm_FL "BargainTree" 242 1 12 false .int := ⟨"BargainTree$Agent", jm_F1, 18, rfl, by decide, rfl, jm_yok1 12 (by decide), jm_in (List.mem_of_getElem? (i := 252) (by decide +kernel)) (by decide +kernel), fun h => nomatch h⟩
theorem f_B_230 : jm_FL "BargainTree" 230 1 13 false .boolean := ⟨"BargainTree$Agent", jm_F1, 18, rfl, by decide, rfl, jm_yok1 13 (by decide), jm_in (List.mem_of_getElem? (i := 253) (by decide +kernel)) (by decide +kernel), fun h => nomatch h⟩
theorem f_B_195 : jm_FL "BargainTree" 195 1 14 false (.array .int) := ⟨"BargainTree$Agent", jm_F1, 18, rfl, by decide, rfl, jm_yok1 14 (by decide), jm_in (List.mem_of_getElem? (i := 254) (by decide +kernel)) (by decide +kernel), fun h => nomatch h⟩
theorem f_B_327 : jm_FL "BargainTree" 327 1 15 false .int := ⟨"BargainTree$Agent", jm_F1, 18, rfl, by decide, rfl, jm_yok1 15 (by decide), jm_in (List.mem_of_getElem? (i := 255) (by decide +kernel)) (by decide +kernel), fun h => nomatch h⟩
theorem f_A_53 : jm_FL "BargainTree$Agent" 53 1 16 false (.array .int) := ⟨"BargainTree$Agent", jm_F1, 18, rfl, by decide, rfl, jm_yok1 16 (by decide), jm_in (List.mem_of_getElem? (i := 256) (by decide +kernel)) (by decide +kernel), fun h => nomatch h⟩
theorem f_B_201 : jm_FL "BargainTree" 201 1 16 false (.array .int) := ⟨"BargainTree$Agent", jm_F1, 18, rfl, by decide, rfl, jm_yok1 16 (by decide), jm_in (List.mem_of_getElem? (i := 257) (by decide +kernel)) (by decide +kernel), fun h => nomatch h⟩
theorem f_A_56 : jm_FL "BargainTree$Agent" 56 1 17 false .int := ⟨"BargainTree$Agent", jm_F1, 18, rfl, by decide, rfl, jm_yok1 17 (by decide), jm_in (List.mem_of_getElem? (i := 258) (by decide +kernel)) (by decide +kernel), fun h => nomatch h⟩
theorem f_B_281 : jm_FL "BargainTree" 281 1 17 false .int := ⟨"BargainTree$Agent", jm_F1, 18, rfl, by decide, rfl, jm_yok1 17 (by decide), jm_in (List.mem_of_getElem? (i := 259) (by decide +kernel)) (by decide +kernel), fun h => nomatch h⟩
theorem f_Q_15 : jm_FL "BargainTree$Pair" 15 4 0 true .int := ⟨"BargainTree$Pair", jm_F4, 3, rfl, by decide, rfl, jm_yok4 0 (by decide), jm_in (List.mem_of_getElem? (i := 337) (by decide +kernel)) (by decide +kernel), fun _ => rfl⟩
theorem f_B_248 : jm_FG "BargainTree" 248 4 0 .int := ⟨"BargainTree$Pair", jm_F4, 3, rfl, by decide, jm_yok4 0 (by decide), jm_in (List.mem_of_getElem? (i := 338) (by decide +kernel)) (by decide +kernel)⟩
theorem f_Q_19 : jm_FL "BargainTree$Pair" 19 4 1 true .int := ⟨"BargainTree$Pair", jm_F4, 3, rfl, by decide, rfl, jm_yok4 1 (by decide), jm_in (List.mem_of_getElem? (i := 339) (by decide +kernel)) (by decide +kernel), fun _ => rfl⟩
theorem f_B_251 : jm_FG "BargainTree" 251 4 1 .int := ⟨"BargainTree$Pair", jm_F4, 3, rfl, by decide, jm_yok4 1 (by decide), jm_in (List.mem_of_getElem? (i := 340) (by decide +kernel)) (by decide +kernel)⟩
theorem f_Q_9 : jm_FL "BargainTree$Pair" 9 4 2 true (.array .int) := ⟨"BargainTree$Pair", jm_F4, 3, rfl, by decide, rfl, jm_yok4 2 (by decide), jm_in (List.mem_of_getElem? (i := 341) (by decide +kernel)) (by decide +kernel), fun _ => rfl⟩
theorem f_B_102 : jm_FG "BargainTree" 102 4 2 (.array .int) := ⟨"BargainTree$Pair", jm_F4, 3, rfl, by decide, jm_yok4 2 (by decide), jm_in (List.mem_of_getElem? (i := 342) (by decide +kernel)) (by decide +kernel)⟩
theorem f_P_15 : jm_FL "BargainTree$Part" 15 2 0 true (.object "BargainTree$Agent") := ⟨"BargainTree$Part", jm_F2, 3, rfl, by decide, rfl, jm_yok2 0 (by decide), jm_in (List.mem_of_getElem? (i := 401) (by decide +kernel)) (by decide +kernel), fun _ => rfl⟩
theorem f_A_47 : jm_FG "BargainTree$Agent" 47 2 0 (.object "BargainTree$Agent") := ⟨"BargainTree$Part", jm_F2, 3, rfl, by decide, jm_yok2 0 (by decide), jm_in (List.mem_of_getElem? (i := 402) (by decide +kernel)) (by decide +kernel)⟩
theorem f_P_9 : jm_FL "BargainTree$Part" 9 2 1 false .int := ⟨"BargainTree$Part", jm_F2, 3, rfl, by decide, rfl, jm_yok2 1 (by decide), jm_in (List.mem_of_getElem? (i := 403) (by decide +kernel)) (by decide +kernel), fun h => nomatch h⟩
theorem f_A_59 : jm_FL "BargainTree$Agent" 59 2 1 false .int := ⟨"BargainTree$Part", jm_F2, 3, rfl, by decide, rfl, jm_yok2 1 (by decide), jm_in (List.mem_of_getElem? (i := 404) (by decide +kernel)) (by decide +kernel), fun h => nomatch h⟩
theorem f_B_216 : jm_FL "BargainTree" 216 2 1 false .int := ⟨"BargainTree$Part", jm_F2, 3, rfl, by decide, rfl, jm_yok2 1 (by decide), jm_in (List.mem_of_getElem? (i := 405) (by decide +kernel)) (by decide +kernel), fun h => nomatch h⟩
theorem f_P_19 : jm_FL "BargainTree$Part" 19 2 2 false .int := ⟨"BargainTree$Part", jm_F2, 3, rfl, by decide, rfl, jm_yok2 2 (by decide), jm_in (List.mem_of_getElem? (i := 406) (by decide +kernel)) (by decide +kernel), fun h => nomatch h⟩
theorem f_B_368 : jm_FL "BargainTree" 368 2 2 false .int := ⟨"BargainTree$Part", jm_F2, 3, rfl, by decide, rfl, jm_yok2 2 (by decide), jm_in (List.mem_of_getElem? (i := 407) (by decide +kernel)) (by decide +kernel), fun h => nomatch h⟩
theorem f_C_7 : jm_FL "BargainTree$Child" 7 3 0 true (.object "BargainTree$Agent") := ⟨"BargainTree$Child", jm_F3, 3, rfl, by decide, rfl, jm_yok3 0 (by decide), jm_in (List.mem_of_getElem? (i := 432) (by decide +kernel)) (by decide +kernel), fun _ => rfl⟩
theorem f_A_68 : jm_FG "BargainTree$Agent" 68 3 0 (.object "BargainTree$Agent") := ⟨"BargainTree$Child", jm_F3, 3, rfl, by decide, jm_yok3 0 (by decide), jm_in (List.mem_of_getElem? (i := 433) (by decide +kernel)) (by decide +kernel)⟩
theorem f_B_354 : jm_FG "BargainTree" 354 3 0 (.object "BargainTree$Agent") := ⟨"BargainTree$Child", jm_F3, 3, rfl, by decide, jm_yok3 0 (by decide), jm_in (List.mem_of_getElem? (i := 434) (by decide +kernel)) (by decide +kernel)⟩
theorem f_B_304 : jm_FL "BargainTree" 304 3 1 false .int := ⟨"BargainTree$Child", jm_F3, 3, rfl, by decide, rfl, jm_yok3 1 (by decide), jm_in (List.mem_of_getElem? (i := 435) (by decide +kernel)) (by decide +kernel), fun h => nomatch h⟩
theorem f_A_71 : jm_FL "BargainTree$Agent" 71 3 2 false (.array .int) := ⟨"BargainTree$Child", jm_F3, 3, rfl, by decide, rfl, jm_yok3 2 (by decide), jm_in (List.mem_of_getElem? (i := 436) (by decide +kernel)) (by decide +kernel), fun h => nomatch h⟩
theorem f_B_307 : jm_FL "BargainTree" 307 3 2 false (.array .int) := ⟨"BargainTree$Child", jm_F3, 3, rfl, by decide, rfl, jm_yok3 2 (by decide), jm_in (List.mem_of_getElem? (i := 437) (by decide +kernel)) (by decide +kernel), fun h => nomatch h⟩
theorem f_B_180 : Cond.fieldLink "BargainTree" 180 jm_en (jm_enm 1) jm_ed ∈ jm_ws := jm_in (List.mem_of_getElem? (i := 445) (by decide +kernel)) (by decide +kernel)
theorem f_L_9 : jm_FL "BargainTree$Letter" 9 5 0 true .int := ⟨"BargainTree$Letter", jm_F5, 5, rfl, by decide, rfl, jm_yok5 0 (by decide), jm_in (List.mem_of_getElem? (i := 456) (by decide +kernel)) (by decide +kernel), fun _ => rfl⟩
theorem f_B_152 : jm_FG "BargainTree" 152 5 0 .int := ⟨"BargainTree$Letter", jm_F5, 5, rfl, by decide, jm_yok5 0 (by decide), jm_in (List.mem_of_getElem? (i := 457) (by decide +kernel)) (by decide +kernel)⟩
theorem f_L_15 : jm_FL "BargainTree$Letter" 15 5 1 true .int := ⟨"BargainTree$Letter", jm_F5, 5, rfl, by decide, rfl, jm_yok5 1 (by decide), jm_in (List.mem_of_getElem? (i := 458) (by decide +kernel)) (by decide +kernel), fun _ => rfl⟩
theorem f_B_155 : jm_FG "BargainTree" 155 5 1 .int := ⟨"BargainTree$Letter", jm_F5, 5, rfl, by decide, jm_yok5 1 (by decide), jm_in (List.mem_of_getElem? (i := 459) (by decide +kernel)) (by decide +kernel)⟩
theorem f_L_18 : jm_FL "BargainTree$Letter" 18 5 2 true .int := ⟨"BargainTree$Letter", jm_F5, 5, rfl, by decide, rfl, jm_yok5 2 (by decide), jm_in (List.mem_of_getElem? (i := 460) (by decide +kernel)) (by decide +kernel), fun _ => rfl⟩
theorem f_B_158 : jm_FG "BargainTree" 158 5 2 .int := ⟨"BargainTree$Letter", jm_F5, 5, rfl, by decide, jm_yok5 2 (by decide), jm_in (List.mem_of_getElem? (i := 461) (by decide +kernel)) (by decide +kernel)⟩
theorem f_L_21 : jm_FL "BargainTree$Letter" 21 5 3 true .int := ⟨"BargainTree$Letter", jm_F5, 5, rfl, by decide, rfl, jm_yok5 3 (by decide), jm_in (List.mem_of_getElem? (i := 462) (by decide +kernel)) (by decide +kernel), fun _ => rfl⟩
theorem f_B_161 : jm_FG "BargainTree" 161 5 3 .int := ⟨"BargainTree$Letter", jm_F5, 5, rfl, by decide, jm_yok5 3 (by decide), jm_in (List.mem_of_getElem? (i := 463) (by decide +kernel)) (by decide +kernel)⟩
theorem f_L_24 : jm_FL "BargainTree$Letter" 24 5 4 true (.array .int) := ⟨"BargainTree$Letter", jm_F5, 5, rfl, by decide, rfl, jm_yok5 4 (by decide), jm_in (List.mem_of_getElem? (i := 464) (by decide +kernel)) (by decide +kernel), fun _ => rfl⟩
theorem f_B_284 : jm_FG "BargainTree" 284 5 4 (.array .int) := ⟨"BargainTree$Letter", jm_F5, 5, rfl, by decide, jm_yok5 4 (by decide), jm_in (List.mem_of_getElem? (i := 465) (by decide +kernel)) (by decide +kernel)⟩
theorem f_B_291 : Cond.fieldLink "BargainTree" 291 jm_en (jm_enm 0) jm_ed ∈ jm_ws := jm_in (List.mem_of_getElem? (i := 591) (by decide +kernel)) (by decide +kernel)
theorem f_M_116 : jm_FL "BargainTreeModel" 116 6 0 false .int := ⟨"BargainTreeModel", jm_F6, 42, rfl, by decide, rfl, jm_yok6 0 (by decide), jm_in (List.mem_of_getElem? (i := 627) (by decide +kernel)) (by decide +kernel), fun h => nomatch h⟩
theorem f_M_124 : jm_FL "BargainTreeModel" 124 6 1 false .int := ⟨"BargainTreeModel", jm_F6, 42, rfl, by decide, rfl, jm_yok6 1 (by decide), jm_in (List.mem_of_getElem? (i := 628) (by decide +kernel)) (by decide +kernel), fun h => nomatch h⟩
theorem f_M_135 : jm_FL "BargainTreeModel" 135 6 2 false .boolean := ⟨"BargainTreeModel", jm_F6, 42, rfl, by decide, rfl, jm_yok6 2 (by decide), jm_in (List.mem_of_getElem? (i := 629) (by decide +kernel)) (by decide +kernel), fun h => nomatch h⟩
theorem f_M_7 : jm_FL "BargainTreeModel" 7 6 3 true (.array .int) := ⟨"BargainTreeModel", jm_F6, 42, rfl, by decide, rfl, jm_yok6 3 (by decide), jm_in (List.mem_of_getElem? (i := 630) (by decide +kernel)) (by decide +kernel), fun _ => rfl⟩
theorem f_M_13 : jm_FL "BargainTreeModel" 13 6 4 true (.array .int) := ⟨"BargainTreeModel", jm_F6, 42, rfl, by decide, rfl, jm_yok6 4 (by decide), jm_in (List.mem_of_getElem? (i := 631) (by decide +kernel)) (by decide +kernel), fun _ => rfl⟩
theorem f_M_146 : jm_FL "BargainTreeModel" 146 6 5 false .int := ⟨"BargainTreeModel", jm_F6, 42, rfl, by decide, rfl, jm_yok6 5 (by decide), jm_in (List.mem_of_getElem? (i := 632) (by decide +kernel)) (by decide +kernel), fun h => nomatch h⟩
theorem f_M_16 : jm_FL "BargainTreeModel" 16 6 6 true (.array .int) := ⟨"BargainTreeModel", jm_F6, 42, rfl, by decide, rfl, jm_yok6 6 (by decide), jm_in (List.mem_of_getElem? (i := 633) (by decide +kernel)) (by decide +kernel), fun _ => rfl⟩
theorem f_M_19 : jm_FL "BargainTreeModel" 19 6 7 true (.array .int) := ⟨"BargainTreeModel", jm_F6, 42, rfl, by decide, rfl, jm_yok6 7 (by decide), jm_in (List.mem_of_getElem? (i := 634) (by decide +kernel)) (by decide +kernel), fun _ => rfl⟩
theorem f_M_22 : jm_FL "BargainTreeModel" 22 6 8 true (.array .int) := ⟨"BargainTreeModel", jm_F6, 42, rfl, by decide, rfl, jm_yok6 8 (by decide), jm_in (List.mem_of_getElem? (i := 635) (by decide +kernel)) (by decide +kernel), fun _ => rfl⟩
theorem f_M_25 : jm_FL "BargainTreeModel" 25 6 9 true (.array .int) := ⟨"BargainTreeModel", jm_F6, 42, rfl, by decide, rfl, jm_yok6 9 (by decide), jm_in (List.mem_of_getElem? (i := 636) (by decide +kernel)) (by decide +kernel), fun _ => rfl⟩
theorem f_M_28 : jm_FL "BargainTreeModel" 28 6 10 true (.array .int) := ⟨"BargainTreeModel", jm_F6, 42, rfl, by decide, rfl, jm_yok6 10 (by decide), jm_in (List.mem_of_getElem? (i := 637) (by decide +kernel)) (by decide +kernel), fun _ => rfl⟩
theorem f_M_31 : jm_FL "BargainTreeModel" 31 6 11 true (.array .int) := ⟨"BargainTreeModel", jm_F6, 42, rfl, by decide, rfl, jm_yok6 11 (by decide), jm_in (List.mem_of_getElem? (i := 638) (by decide +kernel)) (by decide +kernel), fun _ => rfl⟩
theorem f_M_34 : jm_FL "BargainTreeModel" 34 6 12 true (.array .int) := ⟨"BargainTreeModel", jm_F6, 42, rfl, by decide, rfl, jm_yok6 12 (by decide), jm_in (List.mem_of_getElem? (i := 639) (by decide +kernel)) (by decide +kernel), fun _ => rfl⟩
theorem f_M_37 : jm_FL "BargainTreeModel" 37 6 13 true (.array .boolean) := ⟨"BargainTreeModel", jm_F6, 42, rfl, by decide, rfl, jm_yok6 13 (by decide), jm_in (List.mem_of_getElem? (i := 640) (by decide +kernel)) (by decide +kernel), fun _ => rfl⟩
theorem f_M_41 : jm_FL "BargainTreeModel" 41 6 14 true (.array .boolean) := ⟨"BargainTreeModel", jm_F6, 42, rfl, by decide, rfl, jm_yok6 14 (by decide), jm_in (List.mem_of_getElem? (i := 641) (by decide +kernel)) (by decide +kernel), fun _ => rfl⟩
theorem f_M_44 : jm_FL "BargainTreeModel" 44 6 15 true (.array .boolean) := ⟨"BargainTreeModel", jm_F6, 42, rfl, by decide, rfl, jm_yok6 15 (by decide), jm_in (List.mem_of_getElem? (i := 642) (by decide +kernel)) (by decide +kernel), fun _ => rfl⟩
theorem f_M_47 : jm_FL "BargainTreeModel" 47 6 16 true (.array .int) := ⟨"BargainTreeModel", jm_F6, 42, rfl, by decide, rfl, jm_yok6 16 (by decide), jm_in (List.mem_of_getElem? (i := 643) (by decide +kernel)) (by decide +kernel), fun _ => rfl⟩
theorem f_M_50 : jm_FL "BargainTreeModel" 50 6 17 true (.array .int) := ⟨"BargainTreeModel", jm_F6, 42, rfl, by decide, rfl, jm_yok6 17 (by decide), jm_in (List.mem_of_getElem? (i := 644) (by decide +kernel)) (by decide +kernel), fun _ => rfl⟩
theorem f_M_53 : jm_FL "BargainTreeModel" 53 6 18 true (.array .int) := ⟨"BargainTreeModel", jm_F6, 42, rfl, by decide, rfl, jm_yok6 18 (by decide), jm_in (List.mem_of_getElem? (i := 645) (by decide +kernel)) (by decide +kernel), fun _ => rfl⟩
theorem f_M_56 : jm_FL "BargainTreeModel" 56 6 19 true (.array .int) := ⟨"BargainTreeModel", jm_F6, 42, rfl, by decide, rfl, jm_yok6 19 (by decide), jm_in (List.mem_of_getElem? (i := 646) (by decide +kernel)) (by decide +kernel), fun _ => rfl⟩
theorem f_M_59 : jm_FL "BargainTreeModel" 59 6 20 true (.array .int) := ⟨"BargainTreeModel", jm_F6, 42, rfl, by decide, rfl, jm_yok6 20 (by decide), jm_in (List.mem_of_getElem? (i := 647) (by decide +kernel)) (by decide +kernel), fun _ => rfl⟩
theorem f_M_62 : jm_FL "BargainTreeModel" 62 6 21 true (.array .int) := ⟨"BargainTreeModel", jm_F6, 42, rfl, by decide, rfl, jm_yok6 21 (by decide), jm_in (List.mem_of_getElem? (i := 648) (by decide +kernel)) (by decide +kernel), fun _ => rfl⟩
theorem f_M_65 : jm_FL "BargainTreeModel" 65 6 22 true (.array .int) := ⟨"BargainTreeModel", jm_F6, 42, rfl, by decide, rfl, jm_yok6 22 (by decide), jm_in (List.mem_of_getElem? (i := 649) (by decide +kernel)) (by decide +kernel), fun _ => rfl⟩
theorem f_M_68 : jm_FL "BargainTreeModel" 68 6 23 true (.array .int) := ⟨"BargainTreeModel", jm_F6, 42, rfl, by decide, rfl, jm_yok6 23 (by decide), jm_in (List.mem_of_getElem? (i := 650) (by decide +kernel)) (by decide +kernel), fun _ => rfl⟩
theorem f_M_71 : jm_FL "BargainTreeModel" 71 6 24 true (.array .int) := ⟨"BargainTreeModel", jm_F6, 42, rfl, by decide, rfl, jm_yok6 24 (by decide), jm_in (List.mem_of_getElem? (i := 651) (by decide +kernel)) (by decide +kernel), fun _ => rfl⟩
theorem f_M_74 : jm_FL "BargainTreeModel" 74 6 25 true (.array .int) := ⟨"BargainTreeModel", jm_F6, 42, rfl, by decide, rfl, jm_yok6 25 (by decide), jm_in (List.mem_of_getElem? (i := 652) (by decide +kernel)) (by decide +kernel), fun _ => rfl⟩
theorem f_M_77 : jm_FL "BargainTreeModel" 77 6 26 true (.array .int) := ⟨"BargainTreeModel", jm_F6, 42, rfl, by decide, rfl, jm_yok6 26 (by decide), jm_in (List.mem_of_getElem? (i := 653) (by decide +kernel)) (by decide +kernel), fun _ => rfl⟩
theorem f_M_205 : jm_FL "BargainTreeModel" 205 6 27 false .int := ⟨"BargainTreeModel", jm_F6, 42, rfl, by decide, rfl, jm_yok6 27 (by decide), jm_in (List.mem_of_getElem? (i := 654) (by decide +kernel)) (by decide +kernel), fun h => nomatch h⟩
theorem f_M_80 : jm_FL "BargainTreeModel" 80 6 28 true (.array .int) := ⟨"BargainTreeModel", jm_F6, 42, rfl, by decide, rfl, jm_yok6 28 (by decide), jm_in (List.mem_of_getElem? (i := 655) (by decide +kernel)) (by decide +kernel), fun _ => rfl⟩
theorem f_M_83 : jm_FL "BargainTreeModel" 83 6 29 true (.array .int) := ⟨"BargainTreeModel", jm_F6, 42, rfl, by decide, rfl, jm_yok6 29 (by decide), jm_in (List.mem_of_getElem? (i := 656) (by decide +kernel)) (by decide +kernel), fun _ => rfl⟩
theorem f_M_86 : jm_FL "BargainTreeModel" 86 6 30 true (.array .int) := ⟨"BargainTreeModel", jm_F6, 42, rfl, by decide, rfl, jm_yok6 30 (by decide), jm_in (List.mem_of_getElem? (i := 657) (by decide +kernel)) (by decide +kernel), fun _ => rfl⟩
theorem f_M_89 : jm_FL "BargainTreeModel" 89 6 31 true (.array .int) := ⟨"BargainTreeModel", jm_F6, 42, rfl, by decide, rfl, jm_yok6 31 (by decide), jm_in (List.mem_of_getElem? (i := 658) (by decide +kernel)) (by decide +kernel), fun _ => rfl⟩
theorem f_M_92 : jm_FL "BargainTreeModel" 92 6 32 true (.array .int) := ⟨"BargainTreeModel", jm_F6, 42, rfl, by decide, rfl, jm_yok6 32 (by decide), jm_in (List.mem_of_getElem? (i := 659) (by decide +kernel)) (by decide +kernel), fun _ => rfl⟩
theorem f_M_193 : jm_FL "BargainTreeModel" 193 6 33 false .int := ⟨"BargainTreeModel", jm_F6, 42, rfl, by decide, rfl, jm_yok6 33 (by decide), jm_in (List.mem_of_getElem? (i := 660) (by decide +kernel)) (by decide +kernel), fun h => nomatch h⟩
theorem f_M_176 : jm_FL "BargainTreeModel" 176 6 34 false .int := ⟨"BargainTreeModel", jm_F6, 42, rfl, by decide, rfl, jm_yok6 34 (by decide), jm_in (List.mem_of_getElem? (i := 661) (by decide +kernel)) (by decide +kernel), fun h => nomatch h⟩
theorem f_M_95 : jm_FL "BargainTreeModel" 95 6 35 true (.array .int) := ⟨"BargainTreeModel", jm_F6, 42, rfl, by decide, rfl, jm_yok6 35 (by decide), jm_in (List.mem_of_getElem? (i := 662) (by decide +kernel)) (by decide +kernel), fun _ => rfl⟩
theorem f_M_98 : jm_FL "BargainTreeModel" 98 6 36 true (.array .int) := ⟨"BargainTreeModel", jm_F6, 42, rfl, by decide, rfl, jm_yok6 36 (by decide), jm_in (List.mem_of_getElem? (i := 663) (by decide +kernel)) (by decide +kernel), fun _ => rfl⟩
theorem f_M_101 : jm_FL "BargainTreeModel" 101 6 37 true (.array .int) := ⟨"BargainTreeModel", jm_F6, 42, rfl, by decide, rfl, jm_yok6 37 (by decide), jm_in (List.mem_of_getElem? (i := 664) (by decide +kernel)) (by decide +kernel), fun _ => rfl⟩
theorem f_M_104 : jm_FL "BargainTreeModel" 104 6 38 true (.array .int) := ⟨"BargainTreeModel", jm_F6, 42, rfl, by decide, rfl, jm_yok6 38 (by decide), jm_in (List.mem_of_getElem? (i := 665) (by decide +kernel)) (by decide +kernel), fun _ => rfl⟩
theorem f_M_107 : jm_FL "BargainTreeModel" 107 6 39 true (.array .int) := ⟨"BargainTreeModel", jm_F6, 42, rfl, by decide, rfl, jm_yok6 39 (by decide), jm_in (List.mem_of_getElem? (i := 666) (by decide +kernel)) (by decide +kernel), fun _ => rfl⟩
theorem f_M_110 : jm_FL "BargainTreeModel" 110 6 40 true (.array .int) := ⟨"BargainTreeModel", jm_F6, 42, rfl, by decide, rfl, jm_yok6 40 (by decide), jm_in (List.mem_of_getElem? (i := 667) (by decide +kernel)) (by decide +kernel), fun _ => rfl⟩
theorem f_M_113 : jm_FL "BargainTreeModel" 113 6 41 true (.array .int) := ⟨"BargainTreeModel", jm_F6, 42, rfl, by decide, rfl, jm_yok6 41 (by decide), jm_in (List.mem_of_getElem? (i := 668) (by decide +kernel)) (by decide +kernel), fun _ => rfl⟩
theorem l_W_45 : Cond.methodLink "BargainTreeLaw" 45 m_B_init.1 ∈ jm_ws := jm_in (List.mem_of_getElem? (i := 21) (by decide +kernel)) (by decide +kernel)
theorem l_B_1 : Cond.methodLink "BargainTree" 1 Lib.objectInit ∈ jm_ws := jm_in (List.mem_of_getElem? (i := 24) (by decide +kernel)) (by decide +kernel)
theorem l_W_77 : Cond.methodLink "BargainTreeLaw" 77 m_B_told.1 ∈ jm_ws := jm_in (List.mem_of_getElem? (i := 62) (by decide +kernel)) (by decide +kernel)
theorem l_B_131 : Cond.methodLink "BargainTree" 131 m_B_isLetter.1 ∈ jm_ws := jm_in (List.mem_of_getElem? (i := 66) (by decide +kernel)) (by decide +kernel)
theorem l_B_164 : Cond.methodLink "BargainTree" 164 m_L_contentCount.1 ∈ jm_ws := jm_in (List.mem_of_getElem? (i := 70) (by decide +kernel)) (by decide +kernel)
theorem l_B_168 : Cond.methodLink "BargainTree" 168 m_L_contentAt.1 ∈ jm_ws := jm_in (List.mem_of_getElem? (i := 74) (by decide +kernel)) (by decide +kernel)
theorem l_W_88 : Cond.methodLink "BargainTreeLaw" 88 m_B_done.1 ∈ jm_ws := jm_in (List.mem_of_getElem? (i := 78) (by decide +kernel)) (by decide +kernel)
theorem l_B_233 : Cond.methodLink "BargainTree" 233 m_P_foundNone.1 ∈ jm_ws := jm_in (List.mem_of_getElem? (i := 82) (by decide +kernel)) (by decide +kernel)
theorem l_B_236 : Cond.methodLink "BargainTree" 236 m_A_isSettled.1 ∈ jm_ws := jm_in (List.mem_of_getElem? (i := 86) (by decide +kernel)) (by decide +kernel)
theorem l_W_92 : Cond.methodLink "BargainTreeLaw" 92 m_B_value.1 ∈ jm_ws := jm_in (List.mem_of_getElem? (i := 90) (by decide +kernel)) (by decide +kernel)
theorem l_B_69 : Cond.methodLink "BargainTree" 69 m_B_isAgent.1 ∈ jm_ws := jm_in (List.mem_of_getElem? (i := 94) (by decide +kernel)) (by decide +kernel)
theorem l_W_96 : Cond.methodLink "BargainTreeLaw" 96 m_B_total.1 ∈ jm_ws := jm_in (List.mem_of_getElem? (i := 98) (by decide +kernel)) (by decide +kernel)
theorem l_B_207 : Cond.methodLink "BargainTree" 207 m_B_done.1 ∈ jm_ws := jm_in (List.mem_of_getElem? (i := 102) (by decide +kernel)) (by decide +kernel)
theorem l_B_114 : Cond.methodLink "BargainTree" 114 m_A_isRoot.1 ∈ jm_ws := jm_in (List.mem_of_getElem? (i := 103) (by decide +kernel)) (by decide +kernel)
theorem l_W_100 : Cond.methodLink "BargainTreeLaw" 100 m_B_parent.1 ∈ jm_ws := jm_in (List.mem_of_getElem? (i := 107) (by decide +kernel)) (by decide +kernel)
theorem l_W_104 : Cond.methodLink "BargainTreeLaw" 104 m_B_separator.1 ∈ jm_ws := jm_in (List.mem_of_getElem? (i := 111) (by decide +kernel)) (by decide +kernel)
theorem l_W_108 : Cond.methodLink "BargainTreeLaw" 108 m_B_entries.1 ∈ jm_ws := jm_in (List.mem_of_getElem? (i := 117) (by decide +kernel)) (by decide +kernel)
theorem l_W_112 : Cond.methodLink "BargainTreeLaw" 112 m_B_tables.1 ∈ jm_ws := jm_in (List.mem_of_getElem? (i := 121) (by decide +kernel)) (by decide +kernel)
theorem l_W_49 : Cond.methodLink "BargainTreeLaw" 49 m_W_agent.1 ∈ jm_ws := jm_in (List.mem_of_getElem? (i := 125) (by decide +kernel)) (by decide +kernel)
theorem l_W_7 : Cond.methodLink "BargainTreeLaw" 7 m_B_agent.1 ∈ jm_ws := jm_in (List.mem_of_getElem? (i := 130) (by decide +kernel)) (by decide +kernel)
theorem l_B_39 : Cond.methodLink "BargainTree" 39 ⟨"java/lang/IllegalArgumentException", "<init>", "(Ljava/lang/String;)V"⟩ ∈ jm_ws := jm_in (List.mem_of_getElem? (i := 176) (by decide +kernel)) (by decide +kernel)
theorem l_B_50 : Cond.methodLink "BargainTree" 50 ⟨"java/lang/IllegalStateException", "<init>", "(Ljava/lang/String;)V"⟩ ∈ jm_ws := jm_in (List.mem_of_getElem? (i := 212) (by decide +kernel)) (by decide +kernel)
theorem l_B_51 : Cond.methodLink "BargainTree" 51 m_A_init.1 ∈ jm_ws := jm_in (List.mem_of_getElem? (i := 219) (by decide +kernel)) (by decide +kernel)
theorem l_A_3 : Cond.methodLink "BargainTree$Agent" 3 Lib.objectInit ∈ jm_ws := jm_in (List.mem_of_getElem? (i := 222) (by decide +kernel)) (by decide +kernel)
theorem l_W_58 : Cond.methodLink "BargainTreeLaw" 58 m_W_own.1 ∈ jm_ws := jm_in (List.mem_of_getElem? (i := 297) (by decide +kernel)) (by decide +kernel)
theorem l_W_17 : Cond.methodLink "BargainTreeLaw" 17 m_B_own.1 ∈ jm_ws := jm_in (List.mem_of_getElem? (i := 300) (by decide +kernel)) (by decide +kernel)
theorem l_B_54 : Cond.methodLink "BargainTree" 54 m_B_isValue.1 ∈ jm_ws := jm_in (List.mem_of_getElem? (i := 304) (by decide +kernel)) (by decide +kernel)
theorem l_B_58 : Cond.methodLink "BargainTree" 58 m_B_isCost.1 ∈ jm_ws := jm_in (List.mem_of_getElem? (i := 308) (by decide +kernel)) (by decide +kernel)
theorem l_W_62 : Cond.methodLink "BargainTreeLaw" 62 m_W_pair.1 ∈ jm_ws := jm_in (List.mem_of_getElem? (i := 313) (by decide +kernel)) (by decide +kernel)
theorem l_W_21 : Cond.methodLink "BargainTreeLaw" 21 m_B_pair.1 ∈ jm_ws := jm_in (List.mem_of_getElem? (i := 316) (by decide +kernel)) (by decide +kernel)
theorem l_B_77 : Cond.methodLink "BargainTree" 77 m_B_pairOf.1 ∈ jm_ws := jm_in (List.mem_of_getElem? (i := 321) (by decide +kernel)) (by decide +kernel)
theorem l_B_83 : Cond.methodLink "BargainTree" 83 m_J_min.1 ∈ jm_ws := jm_in (List.mem_of_getElem? (i := 325) (by decide +kernel)) (by decide +kernel)
theorem l_B_89 : Cond.methodLink "BargainTree" 89 m_J_max.1 ∈ jm_ws := jm_in (List.mem_of_getElem? (i := 328) (by decide +kernel)) (by decide +kernel)
theorem l_B_92 : Cond.methodLink "BargainTree" 92 m_Q_init.1 ∈ jm_ws := jm_in (List.mem_of_getElem? (i := 333) (by decide +kernel)) (by decide +kernel)
theorem l_Q_3 : Cond.methodLink "BargainTree$Pair" 3 Lib.objectInit ∈ jm_ws := jm_in (List.mem_of_getElem? (i := 336) (by decide +kernel)) (by decide +kernel)
theorem l_W_66 : Cond.methodLink "BargainTreeLaw" 66 m_W_cost.1 ∈ jm_ws := jm_in (List.mem_of_getElem? (i := 350) (by decide +kernel)) (by decide +kernel)
theorem l_W_25 : Cond.methodLink "BargainTreeLaw" 25 m_B_cost.1 ∈ jm_ws := jm_in (List.mem_of_getElem? (i := 353) (by decide +kernel)) (by decide +kernel)
theorem l_B_96 : Cond.methodLink "BargainTree" 96 m_B_pairWith.1 ∈ jm_ws := jm_in (List.mem_of_getElem? (i := 357) (by decide +kernel)) (by decide +kernel)
theorem l_B_105 : Cond.methodLink "BargainTree" 105 m_Q_place.1 ∈ jm_ws := jm_in (List.mem_of_getElem? (i := 362) (by decide +kernel)) (by decide +kernel)
theorem l_W_70 : Cond.methodLink "BargainTreeLaw" 70 m_W_start.1 ∈ jm_ws := jm_in (List.mem_of_getElem? (i := 366) (by decide +kernel)) (by decide +kernel)
theorem l_W_29 : Cond.methodLink "BargainTreeLaw" 29 m_B_start.1 ∈ jm_ws := jm_in (List.mem_of_getElem? (i := 369) (by decide +kernel)) (by decide +kernel)
theorem l_B_111 : Cond.methodLink "BargainTree" 111 m_B_findParts.1 ∈ jm_ws := jm_in (List.mem_of_getElem? (i := 374) (by decide +kernel)) (by decide +kernel)
theorem l_B_254 : Cond.methodLink "BargainTree" 254 m_B_partOf.1 ∈ jm_ws := jm_in (List.mem_of_getElem? (i := 378) (by decide +kernel)) (by decide +kernel)
theorem l_B_227 : Cond.methodLink "BargainTree" 227 m_B_contains.1 ∈ jm_ws := jm_in (List.mem_of_getElem? (i := 382) (by decide +kernel)) (by decide +kernel)
theorem l_B_257 : Cond.methodLink "BargainTree" 257 m_B_mostJoined.1 ∈ jm_ws := jm_in (List.mem_of_getElem? (i := 387) (by decide +kernel)) (by decide +kernel)
theorem l_B_266 : Cond.methodLink "BargainTree" 266 m_J_bitCount.1 ∈ jm_ws := jm_in (List.mem_of_getElem? (i := 391) (by decide +kernel)) (by decide +kernel)
theorem l_B_260 : Cond.methodLink "BargainTree" 260 m_P_init.1 ∈ jm_ws := jm_in (List.mem_of_getElem? (i := 397) (by decide +kernel)) (by decide +kernel)
theorem l_P_3 : Cond.methodLink "BargainTree$Part" 3 Lib.objectInit ∈ jm_ws := jm_in (List.mem_of_getElem? (i := 400) (by decide +kernel)) (by decide +kernel)
theorem l_B_262 : Cond.methodLink "BargainTree" 262 m_B_join.1 ∈ jm_ws := jm_in (List.mem_of_getElem? (i := 415) (by decide +kernel)) (by decide +kernel)
theorem l_B_121 : Cond.methodLink "BargainTree" 121 m_B_hold.1 ∈ jm_ws := jm_in (List.mem_of_getElem? (i := 419) (by decide +kernel)) (by decide +kernel)
theorem l_B_311 : Cond.methodLink "BargainTree" 311 m_A_addChild.1 ∈ jm_ws := jm_in (List.mem_of_getElem? (i := 423) (by decide +kernel)) (by decide +kernel)
theorem l_A_65 : Cond.methodLink "BargainTree$Agent" 65 m_C_init.1 ∈ jm_ws := jm_in (List.mem_of_getElem? (i := 428) (by decide +kernel)) (by decide +kernel)
theorem l_C_1 : Cond.methodLink "BargainTree$Child" 1 Lib.objectInit ∈ jm_ws := jm_in (List.mem_of_getElem? (i := 431) (by decide +kernel)) (by decide +kernel)
theorem l_B_185 : Cond.methodLink "BargainTree" 185 m_B_sendToken.1 ∈ jm_ws := jm_in (List.mem_of_getElem? (i := 447) (by decide +kernel)) (by decide +kernel)
theorem l_B_376 : Cond.methodLink "BargainTree" 376 m_L_init.1 ∈ jm_ws := jm_in (List.mem_of_getElem? (i := 452) (by decide +kernel)) (by decide +kernel)
theorem l_L_3 : Cond.methodLink "BargainTree$Letter" 3 Lib.objectInit ∈ jm_ws := jm_in (List.mem_of_getElem? (i := 455) (by decide +kernel)) (by decide +kernel)
theorem l_B_379 : Cond.methodLink "BargainTree" 379 m_B_send.1 ∈ jm_ws := jm_in (List.mem_of_getElem? (i := 477) (by decide +kernel)) (by decide +kernel)
theorem l_B_314 : Cond.methodLink "BargainTree" 314 m_A_findSeparator.1 ∈ jm_ws := jm_in (List.mem_of_getElem? (i := 481) (by decide +kernel)) (by decide +kernel)
theorem l_B_192 : Cond.methodLink "BargainTree" 192 m_B_sendBack.1 ∈ jm_ws := jm_in (List.mem_of_getElem? (i := 485) (by decide +kernel)) (by decide +kernel)
theorem l_B_308 : Cond.methodLink "BargainTree" 308 m_A_hasAllTables.1 ∈ jm_ws := jm_in (List.mem_of_getElem? (i := 489) (by decide +kernel)) (by decide +kernel)
theorem l_B_125 : Cond.methodLink "BargainTree" 125 m_B_makeTable.1 ∈ jm_ws := jm_in (List.mem_of_getElem? (i := 493) (by decide +kernel)) (by decide +kernel)
theorem l_B_317 : Cond.methodLink "BargainTree" 317 m_B_tableSize.1 ∈ jm_ws := jm_in (List.mem_of_getElem? (i := 497) (by decide +kernel)) (by decide +kernel)
theorem l_B_320 : Cond.methodLink "BargainTree" 320 m_B_tryEntry.1 ∈ jm_ws := jm_in (List.mem_of_getElem? (i := 501) (by decide +kernel)) (by decide +kernel)
theorem l_B_323 : Cond.methodLink "BargainTree" 323 m_B_leastCost.1 ∈ jm_ws := jm_in (List.mem_of_getElem? (i := 505) (by decide +kernel)) (by decide +kernel)
theorem l_B_334 : Cond.methodLink "BargainTree" 334 m_B_costWith.1 ∈ jm_ws := jm_in (List.mem_of_getElem? (i := 509) (by decide +kernel)) (by decide +kernel)
theorem l_B_341 : Cond.methodLink "BargainTree" 341 m_Q_joinsUpwards.1 ∈ jm_ws := jm_in (List.mem_of_getElem? (i := 513) (by decide +kernel)) (by decide +kernel)
theorem l_Q_30 : Cond.methodLinkNest "BargainTree$Pair" 30 m_B_contains.1 "BargainTree" ∈ jm_ws := jm_in (List.mem_of_getElem? (i := 517) (by decide +kernel)) (by decide +kernel)
theorem l_B_344 : Cond.methodLink "BargainTree" 344 m_B_plus.1 ∈ jm_ws := jm_in (List.mem_of_getElem? (i := 518) (by decide +kernel)) (by decide +kernel)
theorem l_B_358 : Cond.methodLink "BargainTree" 358 m_B_entryAt.1 ∈ jm_ws := jm_in (List.mem_of_getElem? (i := 521) (by decide +kernel)) (by decide +kernel)
theorem l_B_338 : Cond.methodLink "BargainTree" 338 m_B_lesser.1 ∈ jm_ws := jm_in (List.mem_of_getElem? (i := 525) (by decide +kernel)) (by decide +kernel)
theorem l_B_330 : Cond.methodLink "BargainTree" 330 m_B_nothingTold.1 ∈ jm_ws := jm_in (List.mem_of_getElem? (i := 528) (by decide +kernel)) (by decide +kernel)
theorem l_B_362 : Cond.methodLink "BargainTree" 362 m_J_fill.1 ∈ jm_ws := jm_in (List.mem_of_getElem? (i := 531) (by decide +kernel)) (by decide +kernel)
theorem l_B_287 : Cond.methodLink "BargainTree" 287 m_B_choose.1 ∈ jm_ws := jm_in (List.mem_of_getElem? (i := 534) (by decide +kernel)) (by decide +kernel)
theorem l_B_371 : Cond.methodLink "BargainTree" 371 ⟨"[I", "clone", "()Ljava/lang/Object;"⟩ ∈ jm_ws := jm_in (List.mem_of_getElem? (i := 538) (by decide +kernel)) (by decide +kernel)
theorem l_B_204 : Cond.methodLink "BargainTree" 204 m_B_sendChoices.1 ∈ jm_ws := jm_in (List.mem_of_getElem? (i := 545) (by decide +kernel)) (by decide +kernel)
theorem l_B_198 : Cond.methodLink "BargainTree" 198 m_B_sendTable.1 ∈ jm_ws := jm_in (List.mem_of_getElem? (i := 549) (by decide +kernel)) (by decide +kernel)
theorem l_W_74 : Cond.methodLink "BargainTreeLaw" 74 m_W_letter.1 ∈ jm_ws := jm_in (List.mem_of_getElem? (i := 553) (by decide +kernel)) (by decide +kernel)
theorem l_W_33 : Cond.methodLink "BargainTreeLaw" 33 m_B_letter.1 ∈ jm_ws := jm_in (List.mem_of_getElem? (i := 557) (by decide +kernel)) (by decide +kernel)
theorem l_B_138 : Cond.methodLink "BargainTree" 138 ⟨"java/lang/IndexOutOfBoundsException", "<init>", "(Ljava/lang/String;)V"⟩ ∈ jm_ws := jm_in (List.mem_of_getElem? (i := 572) (by decide +kernel)) (by decide +kernel)
theorem l_B_144 : Cond.methodLink "BargainTree" 144 m_B_takeOut.1 ∈ jm_ws := jm_in (List.mem_of_getElem? (i := 579) (by decide +kernel)) (by decide +kernel)
theorem l_B_148 : Cond.methodLink "BargainTree" 148 m_B_deliver.1 ∈ jm_ws := jm_in (List.mem_of_getElem? (i := 583) (by decide +kernel)) (by decide +kernel)
theorem l_B_271 : Cond.methodLink "BargainTree" 271 m_B_takesToken.1 ∈ jm_ws := jm_in (List.mem_of_getElem? (i := 587) (by decide +kernel)) (by decide +kernel)
theorem l_B_275 : Cond.methodLink "BargainTree" 275 m_B_takesBack.1 ∈ jm_ws := jm_in (List.mem_of_getElem? (i := 592) (by decide +kernel)) (by decide +kernel)
theorem l_B_278 : Cond.methodLink "BargainTree" 278 m_B_takesTable.1 ∈ jm_ws := jm_in (List.mem_of_getElem? (i := 596) (by decide +kernel)) (by decide +kernel)
theorem l_B_300 : Cond.methodLink "BargainTree" 300 m_A_childWith.1 ∈ jm_ws := jm_in (List.mem_of_getElem? (i := 600) (by decide +kernel)) (by decide +kernel)
theorem l_W_81 : Cond.methodLink "BargainTreeLaw" 81 m_W_again.1 ∈ jm_ws := jm_in (List.mem_of_getElem? (i := 604) (by decide +kernel)) (by decide +kernel)
theorem l_W_38 : Cond.methodLink "BargainTreeLaw" 38 m_B_again.1 ∈ jm_ws := jm_in (List.mem_of_getElem? (i := 607) (by decide +kernel)) (by decide +kernel)
theorem l_W_84 : Cond.methodLink "BargainTreeLaw" 84 m_W_change.1 ∈ jm_ws := jm_in (List.mem_of_getElem? (i := 613) (by decide +kernel)) (by decide +kernel)
theorem l_W_41 : Cond.methodLink "BargainTreeLaw" 41 m_B_change.1 ∈ jm_ws := jm_in (List.mem_of_getElem? (i := 616) (by decide +kernel)) (by decide +kernel)
theorem l_W_48 : Cond.methodLink "BargainTreeLaw" 48 m_M_init.1 ∈ jm_ws := jm_in (List.mem_of_getElem? (i := 623) (by decide +kernel)) (by decide +kernel)
theorem l_M_1 : Cond.methodLink "BargainTreeModel" 1 Lib.objectInit ∈ jm_ws := jm_in (List.mem_of_getElem? (i := 626) (by decide +kernel)) (by decide +kernel)
theorem l_W_55 : Cond.methodLink "BargainTreeLaw" 55 m_M_thrown.1 ∈ jm_ws := jm_in (List.mem_of_getElem? (i := 755) (by decide +kernel)) (by decide +kernel)
theorem l_W_54 : Cond.methodLink "BargainTreeLaw" 54 m_M_agent.1 ∈ jm_ws := jm_in (List.mem_of_getElem? (i := 759) (by decide +kernel)) (by decide +kernel)
theorem l_M_127 : Cond.methodLink "BargainTreeModel" 127 m_M_within.1 ∈ jm_ws := jm_in (List.mem_of_getElem? (i := 763) (by decide +kernel)) (by decide +kernel)
theorem l_W_61 : Cond.methodLink "BargainTreeLaw" 61 m_M_own.1 ∈ jm_ws := jm_in (List.mem_of_getElem? (i := 766) (by decide +kernel)) (by decide +kernel)
theorem l_M_139 : Cond.methodLink "BargainTreeModel" 139 m_M_isValue.1 ∈ jm_ws := jm_in (List.mem_of_getElem? (i := 770) (by decide +kernel)) (by decide +kernel)
theorem l_M_131 : Cond.methodLink "BargainTreeModel" 131 m_M_isAgent.1 ∈ jm_ws := jm_in (List.mem_of_getElem? (i := 774) (by decide +kernel)) (by decide +kernel)
theorem l_M_142 : Cond.methodLink "BargainTreeModel" 142 m_M_isCost.1 ∈ jm_ws := jm_in (List.mem_of_getElem? (i := 778) (by decide +kernel)) (by decide +kernel)
theorem l_W_65 : Cond.methodLink "BargainTreeLaw" 65 m_M_pair.1 ∈ jm_ws := jm_in (List.mem_of_getElem? (i := 782) (by decide +kernel)) (by decide +kernel)
theorem l_M_149 : Cond.methodLink "BargainTreeModel" 149 m_M_pairOf.1 ∈ jm_ws := jm_in (List.mem_of_getElem? (i := 786) (by decide +kernel)) (by decide +kernel)
theorem l_W_69 : Cond.methodLink "BargainTreeLaw" 69 m_M_cost.1 ∈ jm_ws := jm_in (List.mem_of_getElem? (i := 790) (by decide +kernel)) (by decide +kernel)
theorem l_M_153 : Cond.methodLink "BargainTreeModel" 153 m_M_isPairCost.1 ∈ jm_ws := jm_in (List.mem_of_getElem? (i := 794) (by decide +kernel)) (by decide +kernel)
theorem l_M_157 : Cond.methodLink "BargainTreeModel" 157 m_M_setCost.1 ∈ jm_ws := jm_in (List.mem_of_getElem? (i := 798) (by decide +kernel)) (by decide +kernel)
theorem l_W_73 : Cond.methodLink "BargainTreeLaw" 73 m_M_start.1 ∈ jm_ws := jm_in (List.mem_of_getElem? (i := 802) (by decide +kernel)) (by decide +kernel)
theorem l_M_168 : Cond.methodLink "BargainTreeModel" 168 m_M_findPart.1 ∈ jm_ws := jm_in (List.mem_of_getElem? (i := 806) (by decide +kernel)) (by decide +kernel)
theorem l_M_120 : Cond.methodLink "BargainTreeModel" 120 m_M_has.1 ∈ jm_ws := jm_in (List.mem_of_getElem? (i := 810) (by decide +kernel)) (by decide +kernel)
theorem l_M_165 : Cond.methodLink "BargainTreeModel" 165 m_M_goesBefore.1 ∈ jm_ws := jm_in (List.mem_of_getElem? (i := 813) (by decide +kernel)) (by decide +kernel)
theorem l_M_161 : Cond.methodLink "BargainTreeModel" 161 m_M_bits.1 ∈ jm_ws := jm_in (List.mem_of_getElem? (i := 817) (by decide +kernel)) (by decide +kernel)
theorem l_M_172 : Cond.methodLink "BargainTreeModel" 172 m_M_receiveToken.1 ∈ jm_ws := jm_in (List.mem_of_getElem? (i := 820) (by decide +kernel)) (by decide +kernel)
theorem l_M_183 : Cond.methodLink "BargainTreeModel" 183 m_M_hold.1 ∈ jm_ws := jm_in (List.mem_of_getElem? (i := 824) (by decide +kernel)) (by decide +kernel)
theorem l_M_179 : Cond.methodLink "BargainTreeModel" 179 m_M_post.1 ∈ jm_ws := jm_in (List.mem_of_getElem? (i := 828) (by decide +kernel)) (by decide +kernel)
theorem l_M_186 : Cond.methodLink "BargainTreeModel" 186 m_M_work.1 ∈ jm_ws := jm_in (List.mem_of_getElem? (i := 832) (by decide +kernel)) (by decide +kernel)
theorem l_M_208 : Cond.methodLink "BargainTreeModel" 208 m_M_hasAll.1 ∈ jm_ws := jm_in (List.mem_of_getElem? (i := 836) (by decide +kernel)) (by decide +kernel)
theorem l_M_199 : Cond.methodLink "BargainTreeModel" 199 m_M_width.1 ∈ jm_ws := jm_in (List.mem_of_getElem? (i := 840) (by decide +kernel)) (by decide +kernel)
theorem l_M_211 : Cond.methodLink "BargainTreeModel" 211 m_M_make.1 ∈ jm_ws := jm_in (List.mem_of_getElem? (i := 844) (by decide +kernel)) (by decide +kernel)
theorem l_M_202 : Cond.methodLink "BargainTreeModel" 202 m_M_best.1 ∈ jm_ws := jm_in (List.mem_of_getElem? (i := 848) (by decide +kernel)) (by decide +kernel)
theorem l_M_196 : Cond.methodLink "BargainTreeModel" 196 m_M_costNow.1 ∈ jm_ws := jm_in (List.mem_of_getElem? (i := 852) (by decide +kernel)) (by decide +kernel)
theorem l_M_190 : Cond.methodLink "BargainTreeModel" 190 m_M_placeIn.1 ∈ jm_ws := jm_in (List.mem_of_getElem? (i := 856) (by decide +kernel)) (by decide +kernel)
theorem l_M_214 : Cond.methodLink "BargainTreeModel" 214 m_M_postTable.1 ∈ jm_ws := jm_in (List.mem_of_getElem? (i := 860) (by decide +kernel)) (by decide +kernel)
theorem l_M_217 : Cond.methodLink "BargainTreeModel" 217 m_M_choose.1 ∈ jm_ws := jm_in (List.mem_of_getElem? (i := 864) (by decide +kernel)) (by decide +kernel)
theorem l_M_220 : Cond.methodLink "BargainTreeModel" 220 m_M_postChoices.1 ∈ jm_ws := jm_in (List.mem_of_getElem? (i := 868) (by decide +kernel)) (by decide +kernel)
theorem l_W_76 : Cond.methodLink "BargainTreeLaw" 76 m_M_letter.1 ∈ jm_ws := jm_in (List.mem_of_getElem? (i := 872) (by decide +kernel)) (by decide +kernel)
theorem l_M_223 : Cond.methodLink "BargainTreeModel" 223 m_M_copyLetter.1 ∈ jm_ws := jm_in (List.mem_of_getElem? (i := 876) (by decide +kernel)) (by decide +kernel)
theorem l_M_226 : Cond.methodLink "BargainTreeModel" 226 m_M_deliver.1 ∈ jm_ws := jm_in (List.mem_of_getElem? (i := 880) (by decide +kernel)) (by decide +kernel)
theorem l_W_80 : Cond.methodLink "BargainTreeLaw" 80 m_M_told.1 ∈ jm_ws := jm_in (List.mem_of_getElem? (i := 884) (by decide +kernel)) (by decide +kernel)
theorem l_M_229 : Cond.methodLink "BargainTreeModel" 229 m_M_entryOf.1 ∈ jm_ws := jm_in (List.mem_of_getElem? (i := 888) (by decide +kernel)) (by decide +kernel)
theorem l_W_83 : Cond.methodLink "BargainTreeLaw" 83 m_M_again.1 ∈ jm_ws := jm_in (List.mem_of_getElem? (i := 892) (by decide +kernel)) (by decide +kernel)
theorem l_W_87 : Cond.methodLink "BargainTreeLaw" 87 m_M_change.1 ∈ jm_ws := jm_in (List.mem_of_getElem? (i := 896) (by decide +kernel)) (by decide +kernel)
theorem l_M_238 : Cond.methodLink "BargainTreeModel" 238 m_M_state.1 ∈ jm_ws := jm_in (List.mem_of_getElem? (i := 900) (by decide +kernel)) (by decide +kernel)
theorem l_M_232 : Cond.methodLink "BargainTreeModel" 232 m_M_isLost.1 ∈ jm_ws := jm_in (List.mem_of_getElem? (i := 904) (by decide +kernel)) (by decide +kernel)
theorem l_M_235 : Cond.methodLink "BargainTreeModel" 235 m_M_isSettled.1 ∈ jm_ws := jm_in (List.mem_of_getElem? (i := 908) (by decide +kernel)) (by decide +kernel)
theorem l_W_91 : Cond.methodLink "BargainTreeLaw" 91 m_M_done.1 ∈ jm_ws := jm_in (List.mem_of_getElem? (i := 912) (by decide +kernel)) (by decide +kernel)
theorem l_W_95 : Cond.methodLink "BargainTreeLaw" 95 m_M_value.1 ∈ jm_ws := jm_in (List.mem_of_getElem? (i := 916) (by decide +kernel)) (by decide +kernel)
theorem l_W_99 : Cond.methodLink "BargainTreeLaw" 99 m_M_total.1 ∈ jm_ws := jm_in (List.mem_of_getElem? (i := 920) (by decide +kernel)) (by decide +kernel)
theorem l_W_103 : Cond.methodLink "BargainTreeLaw" 103 m_M_parent.1 ∈ jm_ws := jm_in (List.mem_of_getElem? (i := 924) (by decide +kernel)) (by decide +kernel)
theorem l_W_107 : Cond.methodLink "BargainTreeLaw" 107 m_M_separator.1 ∈ jm_ws := jm_in (List.mem_of_getElem? (i := 928) (by decide +kernel)) (by decide +kernel)
theorem l_W_111 : Cond.methodLink "BargainTreeLaw" 111 m_M_entries.1 ∈ jm_ws := jm_in (List.mem_of_getElem? (i := 932) (by decide +kernel)) (by decide +kernel)
theorem l_W_115 : Cond.methodLink "BargainTreeLaw" 115 m_M_tables.1 ∈ jm_ws := jm_in (List.mem_of_getElem? (i := 936) (by decide +kernel)) (by decide +kernel)
theorem c_W_8 : Cond.classLink "BargainTreeLaw" 8 "BargainTree" ∈ jm_ws := jm_in (List.mem_of_getElem? (i := 19) (by decide +kernel)) (by decide +kernel)
theorem c_B_9 : Cond.classLink "BargainTree" 9 "BargainTree$Agent" ∈ jm_ws := jm_in (List.mem_of_getElem? (i := 27) (by decide +kernel)) (by decide +kernel)
theorem c_B_15 : Cond.classLink "BargainTree" 15 "BargainTree$Pair" ∈ jm_ws := jm_in (List.mem_of_getElem? (i := 29) (by decide +kernel)) (by decide +kernel)
theorem c_B_21 : Cond.classLink "BargainTree" 21 "BargainTree$Letter" ∈ jm_ws := jm_in (List.mem_of_getElem? (i := 31) (by decide +kernel)) (by decide +kernel)
theorem c_W_13 : Cond.classLink "BargainTreeLaw" 13 "java/lang/IllegalArgumentException" ∈ jm_ws := jm_in (List.mem_of_getElem? (i := 128) (by decide +kernel)) (by decide +kernel)
theorem c_W_15 : Cond.classLink "BargainTreeLaw" 15 "java/lang/IllegalStateException" ∈ jm_ws := jm_in (List.mem_of_getElem? (i := 129) (by decide +kernel)) (by decide +kernel)
theorem c_B_35 : Cond.classLink "BargainTree" 35 "java/lang/IllegalArgumentException" ∈ jm_ws := jm_in (List.mem_of_getElem? (i := 134) (by decide +kernel)) (by decide +kernel)
theorem c_B_46 : Cond.classLink "BargainTree" 46 "java/lang/IllegalStateException" ∈ jm_ws := jm_in (List.mem_of_getElem? (i := 202) (by decide +kernel)) (by decide +kernel)
theorem c_A_15 : Cond.classLink "BargainTree$Agent" 15 "BargainTree$Child" ∈ jm_ws := jm_in (List.mem_of_getElem? (i := 223) (by decide +kernel)) (by decide +kernel)
theorem c_B_217 : Cond.classLink "BargainTree" 217 "BargainTree$Part" ∈ jm_ws := jm_in (List.mem_of_getElem? (i := 385) (by decide +kernel)) (by decide +kernel)
theorem c_B_372 : Cond.classLink "BargainTree" 372 "[I" ∈ jm_ws := jm_in (List.mem_of_getElem? (i := 544) (by decide +kernel)) (by decide +kernel)
theorem c_W_36 : Cond.classLink "BargainTreeLaw" 36 "java/lang/IndexOutOfBoundsException" ∈ jm_ws := jm_in (List.mem_of_getElem? (i := 556) (by decide +kernel)) (by decide +kernel)
theorem c_B_134 : Cond.classLink "BargainTree" 134 "java/lang/IndexOutOfBoundsException" ∈ jm_ws := jm_in (List.mem_of_getElem? (i := 562) (by decide +kernel)) (by decide +kernel)
theorem c_W_46 : Cond.classLink "BargainTreeLaw" 46 "BargainTreeModel" ∈ jm_ws := jm_in (List.mem_of_getElem? (i := 621) (by decide +kernel)) (by decide +kernel)
theorem k_J_265 : Cond.constant "java/lang/Integer" 265 1431655765 ∈ jm_ws := jm_in (List.mem_of_getElem? (i := 394) (by decide +kernel)) (by decide +kernel)
theorem k_J_266 : Cond.constant "java/lang/Integer" 266 858993459 ∈ jm_ws := jm_in (List.mem_of_getElem? (i := 395) (by decide +kernel)) (by decide +kernel)
theorem k_J_267 : Cond.constant "java/lang/Integer" 267 252645135 ∈ jm_ws := jm_in (List.mem_of_getElem? (i := 396) (by decide +kernel)) (by decide +kernel)
theorem k_M_145 : Cond.constant "BargainTreeModel" 145 1048576 ∈ jm_ws := jm_in (List.mem_of_getElem? (i := 781) (by decide +kernel)) (by decide +kernel)
theorem n_B : Cond.instantiable "BargainTree" 9 ∈ jm_ws := jm_in (List.mem_of_getElem? (i := 20) (by decide +kernel)) (by decide +kernel)
theorem z_B : Cond.initialized "BargainTree" ∈ jm_ws := jm_in (List.mem_of_getElem? (i := 1) (by decide +kernel)) (by decide +kernel)
theorem n_A : Cond.instantiable "BargainTree$Agent" 18 ∈ jm_ws := jm_in (List.mem_of_getElem? (i := 218) (by decide +kernel)) (by decide +kernel)
theorem z_A : Cond.initialized "BargainTree$Agent" ∈ jm_ws := jm_in (List.mem_of_getElem? (i := 8) (by decide +kernel)) (by decide +kernel)
theorem n_P : Cond.instantiable "BargainTree$Part" 3 ∈ jm_ws := jm_in (List.mem_of_getElem? (i := 386) (by decide +kernel)) (by decide +kernel)
theorem z_P : Cond.initialized "BargainTree$Part" ∈ jm_ws := jm_in (List.mem_of_getElem? (i := 13) (by decide +kernel)) (by decide +kernel)
theorem n_C : Cond.instantiable "BargainTree$Child" 3 ∈ jm_ws := jm_in (List.mem_of_getElem? (i := 427) (by decide +kernel)) (by decide +kernel)
theorem z_C : Cond.initialized "BargainTree$Child" ∈ jm_ws := jm_in (List.mem_of_getElem? (i := 15) (by decide +kernel)) (by decide +kernel)
theorem n_Q : Cond.instantiable "BargainTree$Pair" 3 ∈ jm_ws := jm_in (List.mem_of_getElem? (i := 332) (by decide +kernel)) (by decide +kernel)
theorem z_Q : Cond.initialized "BargainTree$Pair" ∈ jm_ws := jm_in (List.mem_of_getElem? (i := 12) (by decide +kernel)) (by decide +kernel)
theorem n_L : Cond.instantiable "BargainTree$Letter" 5 ∈ jm_ws := jm_in (List.mem_of_getElem? (i := 451) (by decide +kernel)) (by decide +kernel)
theorem z_L : Cond.initialized "BargainTree$Letter" ∈ jm_ws := jm_in (List.mem_of_getElem? (i := 16) (by decide +kernel)) (by decide +kernel)
theorem n_M : Cond.instantiable "BargainTreeModel" 42 ∈ jm_ws := jm_in (List.mem_of_getElem? (i := 622) (by decide +kernel)) (by decide +kernel)
theorem z_M : Cond.initialized "BargainTreeModel" ∈ jm_ws := jm_in (List.mem_of_getElem? (i := 2) (by decide +kernel)) (by decide +kernel)
theorem ao_Agent : Cond.arrayOver (.object "BargainTree$Agent") ∈ jm_ws := jm_in (List.mem_of_getElem? (i := 28) (by decide +kernel)) (by decide +kernel)
theorem ao_Pair : Cond.arrayOver (.object "BargainTree$Pair") ∈ jm_ws := jm_in (List.mem_of_getElem? (i := 30) (by decide +kernel)) (by decide +kernel)
theorem ao_Letter : Cond.arrayOver (.object "BargainTree$Letter") ∈ jm_ws := jm_in (List.mem_of_getElem? (i := 32) (by decide +kernel)) (by decide +kernel)
theorem ao_Child : Cond.arrayOver (.object "BargainTree$Child") ∈ jm_ws := jm_in (List.mem_of_getElem? (i := 224) (by decide +kernel)) (by decide +kernel)
theorem ac_int : Cond.arrayClass .int ∈ jm_ws := jm_in (List.mem_of_getElem? (i := 61) (by decide +kernel)) (by decide +kernel)
theorem ac_boolean : Cond.arrayClass .boolean ∈ jm_ws := jm_in (List.mem_of_getElem? (i := 754) (by decide +kernel)) (by decide +kernel)
theorem ac_long : Cond.arrayClass .long ∈ jm_ws := jm_in (List.mem_of_getElem? (i := 940) (by decide +kernel)) (by decide +kernel)
theorem cl_same : Cond.sameMethod "[I" "java/lang/Object" "clone" "()Ljava/lang/Object;" ∈ jm_ws := jm_in (List.mem_of_getElem? (i := 539) (by decide +kernel)) (by decide +kernel)
theorem cl_nat : Cond.native ⟨"java/lang/Object", "clone", "()Ljava/lang/Object;"⟩ ∈ jm_ws := jm_in (List.mem_of_getElem? (i := 540) (by decide +kernel)) (by decide +kernel)
theorem cl_inst : Cond.instanceMethod ⟨"java/lang/Object", "clone", "()Ljava/lang/Object;"⟩ ∈ jm_ws := jm_in (List.mem_of_getElem? (i := 541) (by decide +kernel)) (by decide +kernel)
theorem cl_sel : Cond.selects "[I" ⟨"[I", "clone", "()Ljava/lang/Object;"⟩ ⟨"java/lang/Object", "clone", "()Ljava/lang/Object;"⟩ ∈ jm_ws := jm_in (List.mem_of_getElem? (i := 542) (by decide +kernel)) (by decide +kernel)
theorem cl_cast : Cond.castable "[I" "java/lang/Cloneable" ∈ jm_ws := jm_in (List.mem_of_getElem? (i := 543) (by decide +kernel)) (by decide +kernel)
end
section
/-! EXCEPTIONS: the words of their constructors, all found in the tables -/
set_option maxRecDepth 100000 in
theorem x_0 : jm_XW "BargainTree" (jm_xn 0) 35 39 ["java/lang/RuntimeException", "java/lang/Exception"] := ⟨c_B_35, jm_in (List.mem_of_getElem? (i := 135) (by decide +kernel)) (by decide +kernel), jm_in (List.mem_of_getElem? (i := 6) (by decide +kernel)) (by decide +kernel), by decide +kernel, by decide +kernel, by decide +kernel⟩
set_option maxRecDepth 100000 in
theorem x_1 : jm_XW "BargainTree" (jm_xn 1) 46 50 ["java/lang/RuntimeException", "java/lang/Exception"] := ⟨c_B_46, jm_in (List.mem_of_getElem? (i := 203) (by decide +kernel)) (by decide +kernel), jm_in (List.mem_of_getElem? (i := 7) (by decide +kernel)) (by decide +kernel), by decide +kernel, by decide +kernel, by decide +kernel⟩
set_option maxRecDepth 100000 in
theorem x_2 : jm_XW "BargainTree" (jm_xn 2) 134 138 ["java/lang/RuntimeException", "java/lang/Exception"] := ⟨c_B_134, jm_in (List.mem_of_getElem? (i := 563) (by decide +kernel)) (by decide +kernel), jm_in (List.mem_of_getElem? (i := 18) (by decide +kernel)) (by decide +kernel), by decide +kernel, by decide +kernel, by decide +kernel⟩
end
section
/-! DECODED: written by wip/whole/gen/dec.py -/
theorem d_B_init_0 : decode m_B_init.2.1 0 = .ok (.aload_n 0, 1) := by decide +kernel
theorem d_B_init_1 : decode m_B_init.2.1 1 = .ok (.invokespecial 1, 3) := by decide +kernel
theorem d_B_init_4 : decode m_B_init.2.1 4 = .ok (.aload_n 0, 1) := by decide +kernel
theorem d_B_init_5 : decode m_B_init.2.1 5 = .ok (.bipush 8, 2) := by decide +kernel
theorem d_B_init_7 : decode m_B_init.2.1 7 = .ok (.anewarray 9, 3) := by decide +kernel
theorem d_B_init_10 : decode m_B_init.2.1 10 = .ok (.putfield 11, 3) := by decide +kernel
theorem d_B_init_13 : decode m_B_init.2.1 13 = .ok (.aload_n 0, 1) := by decide +kernel
theorem d_B_init_14 : decode m_B_init.2.1 14 = .ok (.bipush 12, 2) := by decide +kernel
theorem d_B_init_16 : decode m_B_init.2.1 16 = .ok (.anewarray 15, 3) := by decide +kernel
theorem d_B_init_19 : decode m_B_init.2.1 19 = .ok (.putfield 17, 3) := by decide +kernel
theorem d_B_init_22 : decode m_B_init.2.1 22 = .ok (.aload_n 0, 1) := by decide +kernel
theorem d_B_init_23 : decode m_B_init.2.1 23 = .ok (.bipush 20, 2) := by decide +kernel
theorem d_B_init_25 : decode m_B_init.2.1 25 = .ok (.anewarray 21, 3) := by decide +kernel
theorem d_B_init_28 : decode m_B_init.2.1 28 = .ok (.putfield 23, 3) := by decide +kernel
theorem d_B_init_31 : decode m_B_init.2.1 31 = .ok (.aload_n 0, 1) := by decide +kernel
theorem d_B_init_32 : decode m_B_init.2.1 32 = .ok (.bipush 8, 2) := by decide +kernel
theorem d_B_init_34 : decode m_B_init.2.1 34 = .ok (.newarray .int, 2) := by decide +kernel
theorem d_B_init_36 : decode m_B_init.2.1 36 = .ok (.putfield 27, 3) := by decide +kernel
theorem d_B_init_39 : decode m_B_init.2.1 39 = .ok (.aload_n 0, 1) := by decide +kernel
theorem d_B_init_40 : decode m_B_init.2.1 40 = .ok (.iconst 1, 1) := by decide +kernel
theorem d_B_init_41 : decode m_B_init.2.1 41 = .ok (.putfield 31, 3) := by decide +kernel
theorem d_B_init_44 : decode m_B_init.2.1 44 = .ok (.return_, 1) := by decide +kernel
theorem d_B_told_0 : decode m_B_told.2.1 0 = .ok (.aload_n 0, 1) := by decide +kernel
theorem d_B_told_1 : decode m_B_told.2.1 1 = .ok (.iload_n 1, 1) := by decide +kernel
theorem d_B_told_2 : decode m_B_told.2.1 2 = .ok (.invokevirtual 131, 3) := by decide +kernel
theorem d_B_told_5 : decode m_B_told.2.1 5 = .ok (.ifCond .ne 5, 3) := by decide +kernel
theorem d_B_told_8 : decode m_B_told.2.1 8 = .ok (.iconst (-1), 1) := by decide +kernel
theorem d_B_told_9 : decode m_B_told.2.1 9 = .ok (.ireturn, 1) := by decide +kernel
theorem d_B_told_10 : decode m_B_told.2.1 10 = .ok (.aload_n 0, 1) := by decide +kernel
theorem d_B_told_11 : decode m_B_told.2.1 11 = .ok (.getfield 23, 3) := by decide +kernel
theorem d_B_told_14 : decode m_B_told.2.1 14 = .ok (.iload_n 1, 1) := by decide +kernel
theorem d_B_told_15 : decode m_B_told.2.1 15 = .ok (.aaload, 1) := by decide +kernel
theorem d_B_told_16 : decode m_B_told.2.1 16 = .ok (.astore_n 3, 1) := by decide +kernel
theorem d_B_told_17 : decode m_B_told.2.1 17 = .ok (.iload_n 2, 1) := by decide +kernel
theorem d_B_told_18 : decode m_B_told.2.1 18 = .ok (.tableswitch 59 0 4 #[34, 39, 44, 49, 54], 34) := by decide +kernel
theorem d_B_told_52 : decode m_B_told.2.1 52 = .ok (.aload_n 3, 1) := by decide +kernel
theorem d_B_told_53 : decode m_B_told.2.1 53 = .ok (.getfield 152, 3) := by decide +kernel
theorem d_B_told_56 : decode m_B_told.2.1 56 = .ok (.ireturn, 1) := by decide +kernel
theorem d_B_told_57 : decode m_B_told.2.1 57 = .ok (.aload_n 3, 1) := by decide +kernel
theorem d_B_told_58 : decode m_B_told.2.1 58 = .ok (.getfield 155, 3) := by decide +kernel
theorem d_B_told_61 : decode m_B_told.2.1 61 = .ok (.ireturn, 1) := by decide +kernel
theorem d_B_told_62 : decode m_B_told.2.1 62 = .ok (.aload_n 3, 1) := by decide +kernel
theorem d_B_told_63 : decode m_B_told.2.1 63 = .ok (.getfield 158, 3) := by decide +kernel
theorem d_B_told_66 : decode m_B_told.2.1 66 = .ok (.ireturn, 1) := by decide +kernel
theorem d_B_told_67 : decode m_B_told.2.1 67 = .ok (.aload_n 3, 1) := by decide +kernel
theorem d_B_told_68 : decode m_B_told.2.1 68 = .ok (.getfield 161, 3) := by decide +kernel
theorem d_B_told_71 : decode m_B_told.2.1 71 = .ok (.ireturn, 1) := by decide +kernel
theorem d_B_told_72 : decode m_B_told.2.1 72 = .ok (.aload_n 3, 1) := by decide +kernel
theorem d_B_told_73 : decode m_B_told.2.1 73 = .ok (.invokevirtual 164, 3) := by decide +kernel
theorem d_B_told_76 : decode m_B_told.2.1 76 = .ok (.ireturn, 1) := by decide +kernel
theorem d_B_told_77 : decode m_B_told.2.1 77 = .ok (.iload_n 2, 1) := by decide +kernel
theorem d_B_told_78 : decode m_B_told.2.1 78 = .ok (.bipush 10, 2) := by decide +kernel
theorem d_B_told_80 : decode m_B_told.2.1 80 = .ok (.if_icmp .ge 7, 3) := by decide +kernel
theorem d_B_told_83 : decode m_B_told.2.1 83 = .ok (.iconst (-1), 1) := by decide +kernel
theorem d_B_told_84 : decode m_B_told.2.1 84 = .ok (.goto 11, 3) := by decide +kernel
theorem d_B_told_87 : decode m_B_told.2.1 87 = .ok (.aload_n 3, 1) := by decide +kernel
theorem d_B_told_88 : decode m_B_told.2.1 88 = .ok (.iload_n 2, 1) := by decide +kernel
theorem d_B_told_89 : decode m_B_told.2.1 89 = .ok (.bipush 10, 2) := by decide +kernel
theorem d_B_told_91 : decode m_B_told.2.1 91 = .ok (.isub, 1) := by decide +kernel
theorem d_B_told_92 : decode m_B_told.2.1 92 = .ok (.invokevirtual 168, 3) := by decide +kernel
theorem d_B_told_95 : decode m_B_told.2.1 95 = .ok (.ireturn, 1) := by decide +kernel
theorem d_B_isLetter_0 : decode m_B_isLetter.2.1 0 = .ok (.iload_n 1, 1) := by decide +kernel
theorem d_B_isLetter_1 : decode m_B_isLetter.2.1 1 = .ok (.ifCond .lt 15, 3) := by decide +kernel
theorem d_B_isLetter_4 : decode m_B_isLetter.2.1 4 = .ok (.iload_n 1, 1) := by decide +kernel
theorem d_B_isLetter_5 : decode m_B_isLetter.2.1 5 = .ok (.aload_n 0, 1) := by decide +kernel
theorem d_B_isLetter_6 : decode m_B_isLetter.2.1 6 = .ok (.getfield 139, 3) := by decide +kernel
theorem d_B_isLetter_9 : decode m_B_isLetter.2.1 9 = .ok (.if_icmp .ge 7, 3) := by decide +kernel
theorem d_B_isLetter_12 : decode m_B_isLetter.2.1 12 = .ok (.iconst 1, 1) := by decide +kernel
theorem d_B_isLetter_13 : decode m_B_isLetter.2.1 13 = .ok (.goto 4, 3) := by decide +kernel
theorem d_B_isLetter_16 : decode m_B_isLetter.2.1 16 = .ok (.iconst 0, 1) := by decide +kernel
theorem d_B_isLetter_17 : decode m_B_isLetter.2.1 17 = .ok (.ireturn, 1) := by decide +kernel
theorem d_L_contentCount_0 : decode m_L_contentCount.2.1 0 = .ok (.aload_n 0, 1) := by decide +kernel
theorem d_L_contentCount_1 : decode m_L_contentCount.2.1 1 = .ok (.getfield 24, 3) := by decide +kernel
theorem d_L_contentCount_4 : decode m_L_contentCount.2.1 4 = .ok (.ifnonnull 5, 3) := by decide +kernel
theorem d_L_contentCount_7 : decode m_L_contentCount.2.1 7 = .ok (.iconst 0, 1) := by decide +kernel
theorem d_L_contentCount_8 : decode m_L_contentCount.2.1 8 = .ok (.ireturn, 1) := by decide +kernel
theorem d_L_contentCount_9 : decode m_L_contentCount.2.1 9 = .ok (.iconst 0, 1) := by decide +kernel
theorem d_L_contentCount_10 : decode m_L_contentCount.2.1 10 = .ok (.istore_n 1, 1) := by decide +kernel
theorem d_L_contentCount_11 : decode m_L_contentCount.2.1 11 = .ok (.iconst 0, 1) := by decide +kernel
theorem d_L_contentCount_12 : decode m_L_contentCount.2.1 12 = .ok (.istore_n 2, 1) := by decide +kernel
theorem d_L_contentCount_13 : decode m_L_contentCount.2.1 13 = .ok (.iload_n 2, 1) := by decide +kernel
theorem d_L_contentCount_14 : decode m_L_contentCount.2.1 14 = .ok (.aload_n 0, 1) := by decide +kernel
theorem d_L_contentCount_15 : decode m_L_contentCount.2.1 15 = .ok (.getfield 24, 3) := by decide +kernel
theorem d_L_contentCount_18 : decode m_L_contentCount.2.1 18 = .ok (.arraylength, 1) := by decide +kernel
theorem d_L_contentCount_19 : decode m_L_contentCount.2.1 19 = .ok (.if_icmp .ge 22, 3) := by decide +kernel
theorem d_L_contentCount_22 : decode m_L_contentCount.2.1 22 = .ok (.aload_n 0, 1) := by decide +kernel
theorem d_L_contentCount_23 : decode m_L_contentCount.2.1 23 = .ok (.getfield 24, 3) := by decide +kernel
theorem d_L_contentCount_26 : decode m_L_contentCount.2.1 26 = .ok (.iload_n 2, 1) := by decide +kernel
theorem d_L_contentCount_27 : decode m_L_contentCount.2.1 27 = .ok (.iaload, 1) := by decide +kernel
theorem d_L_contentCount_28 : decode m_L_contentCount.2.1 28 = .ok (.iconst (-1), 1) := by decide +kernel
theorem d_L_contentCount_29 : decode m_L_contentCount.2.1 29 = .ok (.if_icmp .eq 6, 3) := by decide +kernel
theorem d_L_contentCount_32 : decode m_L_contentCount.2.1 32 = .ok (.iinc 1 1, 3) := by decide +kernel
theorem d_L_contentCount_35 : decode m_L_contentCount.2.1 35 = .ok (.iinc 2 1, 3) := by decide +kernel
theorem d_L_contentCount_38 : decode m_L_contentCount.2.1 38 = .ok (.goto (-25), 3) := by decide +kernel
theorem d_L_contentCount_41 : decode m_L_contentCount.2.1 41 = .ok (.iload_n 1, 1) := by decide +kernel
theorem d_L_contentCount_42 : decode m_L_contentCount.2.1 42 = .ok (.ireturn, 1) := by decide +kernel
theorem d_L_contentAt_0 : decode m_L_contentAt.2.1 0 = .ok (.aload_n 0, 1) := by decide +kernel
theorem d_L_contentAt_1 : decode m_L_contentAt.2.1 1 = .ok (.getfield 24, 3) := by decide +kernel
theorem d_L_contentAt_4 : decode m_L_contentAt.2.1 4 = .ok (.ifnull 21, 3) := by decide +kernel
theorem d_L_contentAt_7 : decode m_L_contentAt.2.1 7 = .ok (.iload_n 1, 1) := by decide +kernel
theorem d_L_contentAt_8 : decode m_L_contentAt.2.1 8 = .ok (.aload_n 0, 1) := by decide +kernel
theorem d_L_contentAt_9 : decode m_L_contentAt.2.1 9 = .ok (.getfield 24, 3) := by decide +kernel
theorem d_L_contentAt_12 : decode m_L_contentAt.2.1 12 = .ok (.arraylength, 1) := by decide +kernel
theorem d_L_contentAt_13 : decode m_L_contentAt.2.1 13 = .ok (.if_icmp .ge 12, 3) := by decide +kernel
theorem d_L_contentAt_16 : decode m_L_contentAt.2.1 16 = .ok (.aload_n 0, 1) := by decide +kernel
theorem d_L_contentAt_17 : decode m_L_contentAt.2.1 17 = .ok (.getfield 24, 3) := by decide +kernel
theorem d_L_contentAt_20 : decode m_L_contentAt.2.1 20 = .ok (.iload_n 1, 1) := by decide +kernel
theorem d_L_contentAt_21 : decode m_L_contentAt.2.1 21 = .ok (.iaload, 1) := by decide +kernel
theorem d_L_contentAt_22 : decode m_L_contentAt.2.1 22 = .ok (.goto 4, 3) := by decide +kernel
theorem d_L_contentAt_25 : decode m_L_contentAt.2.1 25 = .ok (.iconst (-1), 1) := by decide +kernel
theorem d_L_contentAt_26 : decode m_L_contentAt.2.1 26 = .ok (.ireturn, 1) := by decide +kernel
theorem d_B_done_0 : decode m_B_done.2.1 0 = .ok (.aload_n 0, 1) := by decide +kernel
theorem d_B_done_1 : decode m_B_done.2.1 1 = .ok (.getfield 31, 3) := by decide +kernel
theorem d_B_done_4 : decode m_B_done.2.1 4 = .ok (.ifCond .eq 5, 3) := by decide +kernel
theorem d_B_done_7 : decode m_B_done.2.1 7 = .ok (.iconst 0, 1) := by decide +kernel
theorem d_B_done_8 : decode m_B_done.2.1 8 = .ok (.ireturn, 1) := by decide +kernel
theorem d_B_done_9 : decode m_B_done.2.1 9 = .ok (.iconst 1, 1) := by decide +kernel
theorem d_B_done_10 : decode m_B_done.2.1 10 = .ok (.istore_n 1, 1) := by decide +kernel
theorem d_B_done_11 : decode m_B_done.2.1 11 = .ok (.iconst 0, 1) := by decide +kernel
theorem d_B_done_12 : decode m_B_done.2.1 12 = .ok (.istore_n 2, 1) := by decide +kernel
theorem d_B_done_13 : decode m_B_done.2.1 13 = .ok (.iconst 0, 1) := by decide +kernel
theorem d_B_done_14 : decode m_B_done.2.1 14 = .ok (.istore_n 3, 1) := by decide +kernel
theorem d_B_done_15 : decode m_B_done.2.1 15 = .ok (.iload_n 3, 1) := by decide +kernel
theorem d_B_done_16 : decode m_B_done.2.1 16 = .ok (.aload_n 0, 1) := by decide +kernel
theorem d_B_done_17 : decode m_B_done.2.1 17 = .ok (.getfield 42, 3) := by decide +kernel
theorem d_B_done_20 : decode m_B_done.2.1 20 = .ok (.if_icmp .ge 79, 3) := by decide +kernel
theorem d_B_done_23 : decode m_B_done.2.1 23 = .ok (.aload_n 0, 1) := by decide +kernel
theorem d_B_done_24 : decode m_B_done.2.1 24 = .ok (.getfield 11, 3) := by decide +kernel
theorem d_B_done_27 : decode m_B_done.2.1 27 = .ok (.iload_n 3, 1) := by decide +kernel
theorem d_B_done_28 : decode m_B_done.2.1 28 = .ok (.aaload, 1) := by decide +kernel
theorem d_B_done_29 : decode m_B_done.2.1 29 = .ok (.getfield 230, 3) := by decide +kernel
theorem d_B_done_32 : decode m_B_done.2.1 32 = .ok (.ifCond .eq 5, 3) := by decide +kernel
theorem d_B_done_35 : decode m_B_done.2.1 35 = .ok (.iconst 3, 1) := by decide +kernel
theorem d_B_done_36 : decode m_B_done.2.1 36 = .ok (.ireturn, 1) := by decide +kernel
theorem d_B_done_37 : decode m_B_done.2.1 37 = .ok (.aload_n 0, 1) := by decide +kernel
theorem d_B_done_38 : decode m_B_done.2.1 38 = .ok (.getfield 11, 3) := by decide +kernel
theorem d_B_done_41 : decode m_B_done.2.1 41 = .ok (.iload_n 3, 1) := by decide +kernel
theorem d_B_done_42 : decode m_B_done.2.1 42 = .ok (.aaload, 1) := by decide +kernel
theorem d_B_done_43 : decode m_B_done.2.1 43 = .ok (.getfield 212, 3) := by decide +kernel
theorem d_B_done_46 : decode m_B_done.2.1 46 = .ok (.invokevirtual 233, 3) := by decide +kernel
theorem d_B_done_49 : decode m_B_done.2.1 49 = .ok (.istore 4, 2) := by decide +kernel
theorem d_B_done_51 : decode m_B_done.2.1 51 = .ok (.iload_n 2, 1) := by decide +kernel
theorem d_B_done_52 : decode m_B_done.2.1 52 = .ok (.ifCond .ne 8, 3) := by decide +kernel
theorem d_B_done_55 : decode m_B_done.2.1 55 = .ok (.iload 4, 2) := by decide +kernel
theorem d_B_done_57 : decode m_B_done.2.1 57 = .ok (.ifCond .eq 7, 3) := by decide +kernel
theorem d_B_done_60 : decode m_B_done.2.1 60 = .ok (.iconst 1, 1) := by decide +kernel
theorem d_B_done_61 : decode m_B_done.2.1 61 = .ok (.goto 4, 3) := by decide +kernel
theorem d_B_done_64 : decode m_B_done.2.1 64 = .ok (.iconst 0, 1) := by decide +kernel
theorem d_B_done_65 : decode m_B_done.2.1 65 = .ok (.istore_n 2, 1) := by decide +kernel
theorem d_B_done_66 : decode m_B_done.2.1 66 = .ok (.iload_n 1, 1) := by decide +kernel
theorem d_B_done_67 : decode m_B_done.2.1 67 = .ok (.ifCond .eq 24, 3) := by decide +kernel
theorem d_B_done_70 : decode m_B_done.2.1 70 = .ok (.iload 4, 2) := by decide +kernel
theorem d_B_done_72 : decode m_B_done.2.1 72 = .ok (.ifCond .ne 15, 3) := by decide +kernel
theorem d_B_done_75 : decode m_B_done.2.1 75 = .ok (.aload_n 0, 1) := by decide +kernel
theorem d_B_done_76 : decode m_B_done.2.1 76 = .ok (.getfield 11, 3) := by decide +kernel
theorem d_B_done_79 : decode m_B_done.2.1 79 = .ok (.iload_n 3, 1) := by decide +kernel
theorem d_B_done_80 : decode m_B_done.2.1 80 = .ok (.aaload, 1) := by decide +kernel
theorem d_B_done_81 : decode m_B_done.2.1 81 = .ok (.invokevirtual 236, 3) := by decide +kernel
theorem d_B_done_84 : decode m_B_done.2.1 84 = .ok (.ifCond .eq 7, 3) := by decide +kernel
theorem d_B_done_87 : decode m_B_done.2.1 87 = .ok (.iconst 1, 1) := by decide +kernel
theorem d_B_done_88 : decode m_B_done.2.1 88 = .ok (.goto 4, 3) := by decide +kernel
theorem d_B_done_91 : decode m_B_done.2.1 91 = .ok (.iconst 0, 1) := by decide +kernel
theorem d_B_done_92 : decode m_B_done.2.1 92 = .ok (.istore_n 1, 1) := by decide +kernel
theorem d_B_done_93 : decode m_B_done.2.1 93 = .ok (.iinc 3 1, 3) := by decide +kernel
theorem d_B_done_96 : decode m_B_done.2.1 96 = .ok (.goto (-81), 3) := by decide +kernel
theorem d_B_done_99 : decode m_B_done.2.1 99 = .ok (.iload_n 1, 1) := by decide +kernel
theorem d_B_done_100 : decode m_B_done.2.1 100 = .ok (.ifCond .ne 5, 3) := by decide +kernel
theorem d_B_done_103 : decode m_B_done.2.1 103 = .ok (.iconst 0, 1) := by decide +kernel
theorem d_B_done_104 : decode m_B_done.2.1 104 = .ok (.ireturn, 1) := by decide +kernel
theorem d_B_done_105 : decode m_B_done.2.1 105 = .ok (.iload_n 2, 1) := by decide +kernel
theorem d_B_done_106 : decode m_B_done.2.1 106 = .ok (.ifCond .eq 7, 3) := by decide +kernel
theorem d_B_done_109 : decode m_B_done.2.1 109 = .ok (.iconst 2, 1) := by decide +kernel
theorem d_B_done_110 : decode m_B_done.2.1 110 = .ok (.goto 4, 3) := by decide +kernel
theorem d_B_done_113 : decode m_B_done.2.1 113 = .ok (.iconst 1, 1) := by decide +kernel
theorem d_B_done_114 : decode m_B_done.2.1 114 = .ok (.ireturn, 1) := by decide +kernel
theorem d_P_foundNone_0 : decode m_P_foundNone.2.1 0 = .ok (.aload_n 0, 1) := by decide +kernel
theorem d_P_foundNone_1 : decode m_P_foundNone.2.1 1 = .ok (.getfield 19, 3) := by decide +kernel
theorem d_P_foundNone_4 : decode m_P_foundNone.2.1 4 = .ok (.aload_n 0, 1) := by decide +kernel
theorem d_P_foundNone_5 : decode m_P_foundNone.2.1 5 = .ok (.getfield 9, 3) := by decide +kernel
theorem d_P_foundNone_8 : decode m_P_foundNone.2.1 8 = .ok (.if_icmp .ne 7, 3) := by decide +kernel
theorem d_P_foundNone_11 : decode m_P_foundNone.2.1 11 = .ok (.iconst 1, 1) := by decide +kernel
theorem d_P_foundNone_12 : decode m_P_foundNone.2.1 12 = .ok (.goto 4, 3) := by decide +kernel
theorem d_P_foundNone_15 : decode m_P_foundNone.2.1 15 = .ok (.iconst 0, 1) := by decide +kernel
theorem d_P_foundNone_16 : decode m_P_foundNone.2.1 16 = .ok (.ireturn, 1) := by decide +kernel
theorem d_A_isSettled_0 : decode m_A_isSettled.2.1 0 = .ok (.aload_n 0, 1) := by decide +kernel
theorem d_A_isSettled_1 : decode m_A_isSettled.2.1 1 = .ok (.getfield 53, 3) := by decide +kernel
theorem d_A_isSettled_4 : decode m_A_isSettled.2.1 4 = .ok (.ifnull 28, 3) := by decide +kernel
theorem d_A_isSettled_7 : decode m_A_isSettled.2.1 7 = .ok (.aload_n 0, 1) := by decide +kernel
theorem d_A_isSettled_8 : decode m_A_isSettled.2.1 8 = .ok (.getfield 43, 3) := by decide +kernel
theorem d_A_isSettled_11 : decode m_A_isSettled.2.1 11 = .ok (.ifnull 21, 3) := by decide +kernel
theorem d_A_isSettled_14 : decode m_A_isSettled.2.1 14 = .ok (.aload_n 0, 1) := by decide +kernel
theorem d_A_isSettled_15 : decode m_A_isSettled.2.1 15 = .ok (.getfield 56, 3) := by decide +kernel
theorem d_A_isSettled_18 : decode m_A_isSettled.2.1 18 = .ok (.aload_n 0, 1) := by decide +kernel
theorem d_A_isSettled_19 : decode m_A_isSettled.2.1 19 = .ok (.getfield 43, 3) := by decide +kernel
theorem d_A_isSettled_22 : decode m_A_isSettled.2.1 22 = .ok (.getfield 59, 3) := by decide +kernel
theorem d_A_isSettled_25 : decode m_A_isSettled.2.1 25 = .ok (.if_icmp .ne 7, 3) := by decide +kernel
theorem d_A_isSettled_28 : decode m_A_isSettled.2.1 28 = .ok (.iconst 1, 1) := by decide +kernel
theorem d_A_isSettled_29 : decode m_A_isSettled.2.1 29 = .ok (.goto 4, 3) := by decide +kernel
theorem d_A_isSettled_32 : decode m_A_isSettled.2.1 32 = .ok (.iconst 0, 1) := by decide +kernel
theorem d_A_isSettled_33 : decode m_A_isSettled.2.1 33 = .ok (.ireturn, 1) := by decide +kernel
theorem d_B_value_0 : decode m_B_value.2.1 0 = .ok (.aload_n 0, 1) := by decide +kernel
theorem d_B_value_1 : decode m_B_value.2.1 1 = .ok (.iload_n 1, 1) := by decide +kernel
theorem d_B_value_2 : decode m_B_value.2.1 2 = .ok (.invokevirtual 69, 3) := by decide +kernel
theorem d_B_value_5 : decode m_B_value.2.1 5 = .ok (.ifCond .eq 29, 3) := by decide +kernel
theorem d_B_value_8 : decode m_B_value.2.1 8 = .ok (.aload_n 0, 1) := by decide +kernel
theorem d_B_value_9 : decode m_B_value.2.1 9 = .ok (.getfield 11, 3) := by decide +kernel
theorem d_B_value_12 : decode m_B_value.2.1 12 = .ok (.iload_n 1, 1) := by decide +kernel
theorem d_B_value_13 : decode m_B_value.2.1 13 = .ok (.aaload, 1) := by decide +kernel
theorem d_B_value_14 : decode m_B_value.2.1 14 = .ok (.invokevirtual 236, 3) := by decide +kernel
theorem d_B_value_17 : decode m_B_value.2.1 17 = .ok (.ifCond .eq 17, 3) := by decide +kernel
theorem d_B_value_20 : decode m_B_value.2.1 20 = .ok (.aload_n 0, 1) := by decide +kernel
theorem d_B_value_21 : decode m_B_value.2.1 21 = .ok (.getfield 11, 3) := by decide +kernel
theorem d_B_value_24 : decode m_B_value.2.1 24 = .ok (.iload_n 1, 1) := by decide +kernel
theorem d_B_value_25 : decode m_B_value.2.1 25 = .ok (.aaload, 1) := by decide +kernel
theorem d_B_value_26 : decode m_B_value.2.1 26 = .ok (.getfield 201, 3) := by decide +kernel
theorem d_B_value_29 : decode m_B_value.2.1 29 = .ok (.iload_n 1, 1) := by decide +kernel
theorem d_B_value_30 : decode m_B_value.2.1 30 = .ok (.iaload, 1) := by decide +kernel
theorem d_B_value_31 : decode m_B_value.2.1 31 = .ok (.goto 4, 3) := by decide +kernel
theorem d_B_value_34 : decode m_B_value.2.1 34 = .ok (.iconst (-1), 1) := by decide +kernel
theorem d_B_value_35 : decode m_B_value.2.1 35 = .ok (.ireturn, 1) := by decide +kernel
theorem d_B_isAgent_0 : decode m_B_isAgent.2.1 0 = .ok (.iload_n 1, 1) := by decide +kernel
theorem d_B_isAgent_1 : decode m_B_isAgent.2.1 1 = .ok (.ifCond .lt 15, 3) := by decide +kernel
theorem d_B_isAgent_4 : decode m_B_isAgent.2.1 4 = .ok (.iload_n 1, 1) := by decide +kernel
theorem d_B_isAgent_5 : decode m_B_isAgent.2.1 5 = .ok (.aload_n 0, 1) := by decide +kernel
theorem d_B_isAgent_6 : decode m_B_isAgent.2.1 6 = .ok (.getfield 42, 3) := by decide +kernel
theorem d_B_isAgent_9 : decode m_B_isAgent.2.1 9 = .ok (.if_icmp .ge 7, 3) := by decide +kernel
theorem d_B_isAgent_12 : decode m_B_isAgent.2.1 12 = .ok (.iconst 1, 1) := by decide +kernel
theorem d_B_isAgent_13 : decode m_B_isAgent.2.1 13 = .ok (.goto 4, 3) := by decide +kernel
theorem d_B_isAgent_16 : decode m_B_isAgent.2.1 16 = .ok (.iconst 0, 1) := by decide +kernel
theorem d_B_isAgent_17 : decode m_B_isAgent.2.1 17 = .ok (.ireturn, 1) := by decide +kernel
theorem d_B_total_0 : decode m_B_total.2.1 0 = .ok (.aload_n 0, 1) := by decide +kernel
theorem d_B_total_1 : decode m_B_total.2.1 1 = .ok (.invokevirtual 207, 3) := by decide +kernel
theorem d_B_total_4 : decode m_B_total.2.1 4 = .ok (.iconst 1, 1) := by decide +kernel
theorem d_B_total_5 : decode m_B_total.2.1 5 = .ok (.if_icmp .eq 5, 3) := by decide +kernel
theorem d_B_total_8 : decode m_B_total.2.1 8 = .ok (.iconst (-1), 1) := by decide +kernel
theorem d_B_total_9 : decode m_B_total.2.1 9 = .ok (.ireturn, 1) := by decide +kernel
theorem d_B_total_10 : decode m_B_total.2.1 10 = .ok (.iconst 0, 1) := by decide +kernel
theorem d_B_total_11 : decode m_B_total.2.1 11 = .ok (.istore_n 1, 1) := by decide +kernel
theorem d_B_total_12 : decode m_B_total.2.1 12 = .ok (.iconst 0, 1) := by decide +kernel
theorem d_B_total_13 : decode m_B_total.2.1 13 = .ok (.istore_n 2, 1) := by decide +kernel
theorem d_B_total_14 : decode m_B_total.2.1 14 = .ok (.iload_n 2, 1) := by decide +kernel
theorem d_B_total_15 : decode m_B_total.2.1 15 = .ok (.aload_n 0, 1) := by decide +kernel
theorem d_B_total_16 : decode m_B_total.2.1 16 = .ok (.getfield 42, 3) := by decide +kernel
theorem d_B_total_19 : decode m_B_total.2.1 19 = .ok (.if_icmp .ge 35, 3) := by decide +kernel
theorem d_B_total_22 : decode m_B_total.2.1 22 = .ok (.aload_n 0, 1) := by decide +kernel
theorem d_B_total_23 : decode m_B_total.2.1 23 = .ok (.getfield 11, 3) := by decide +kernel
theorem d_B_total_26 : decode m_B_total.2.1 26 = .ok (.iload_n 2, 1) := by decide +kernel
theorem d_B_total_27 : decode m_B_total.2.1 27 = .ok (.aaload, 1) := by decide +kernel
theorem d_B_total_28 : decode m_B_total.2.1 28 = .ok (.invokevirtual 114, 3) := by decide +kernel
theorem d_B_total_31 : decode m_B_total.2.1 31 = .ok (.ifCond .eq 17, 3) := by decide +kernel
theorem d_B_total_34 : decode m_B_total.2.1 34 = .ok (.iload_n 1, 1) := by decide +kernel
theorem d_B_total_35 : decode m_B_total.2.1 35 = .ok (.aload_n 0, 1) := by decide +kernel
theorem d_B_total_36 : decode m_B_total.2.1 36 = .ok (.getfield 11, 3) := by decide +kernel
theorem d_B_total_39 : decode m_B_total.2.1 39 = .ok (.iload_n 2, 1) := by decide +kernel
theorem d_B_total_40 : decode m_B_total.2.1 40 = .ok (.aaload, 1) := by decide +kernel
theorem d_B_total_41 : decode m_B_total.2.1 41 = .ok (.getfield 195, 3) := by decide +kernel
theorem d_B_total_44 : decode m_B_total.2.1 44 = .ok (.iconst 0, 1) := by decide +kernel
theorem d_B_total_45 : decode m_B_total.2.1 45 = .ok (.iaload, 1) := by decide +kernel
theorem d_B_total_46 : decode m_B_total.2.1 46 = .ok (.iadd, 1) := by decide +kernel
theorem d_B_total_47 : decode m_B_total.2.1 47 = .ok (.istore_n 1, 1) := by decide +kernel
theorem d_B_total_48 : decode m_B_total.2.1 48 = .ok (.iinc 2 1, 3) := by decide +kernel
theorem d_B_total_51 : decode m_B_total.2.1 51 = .ok (.goto (-37), 3) := by decide +kernel
theorem d_B_total_54 : decode m_B_total.2.1 54 = .ok (.iload_n 1, 1) := by decide +kernel
theorem d_B_total_55 : decode m_B_total.2.1 55 = .ok (.ireturn, 1) := by decide +kernel
theorem d_A_isRoot_0 : decode m_A_isRoot.2.1 0 = .ok (.aload_n 0, 1) := by decide +kernel
theorem d_A_isRoot_1 : decode m_A_isRoot.2.1 1 = .ok (.getfield 43, 3) := by decide +kernel
theorem d_A_isRoot_4 : decode m_A_isRoot.2.1 4 = .ok (.ifnull 18, 3) := by decide +kernel
theorem d_A_isRoot_7 : decode m_A_isRoot.2.1 7 = .ok (.aload_n 0, 1) := by decide +kernel
theorem d_A_isRoot_8 : decode m_A_isRoot.2.1 8 = .ok (.getfield 43, 3) := by decide +kernel
theorem d_A_isRoot_11 : decode m_A_isRoot.2.1 11 = .ok (.getfield 47, 3) := by decide +kernel
theorem d_A_isRoot_14 : decode m_A_isRoot.2.1 14 = .ok (.aload_n 0, 1) := by decide +kernel
theorem d_A_isRoot_15 : decode m_A_isRoot.2.1 15 = .ok (.if_acmp .ne 7, 3) := by decide +kernel
theorem d_A_isRoot_18 : decode m_A_isRoot.2.1 18 = .ok (.iconst 1, 1) := by decide +kernel
theorem d_A_isRoot_19 : decode m_A_isRoot.2.1 19 = .ok (.goto 4, 3) := by decide +kernel
theorem d_A_isRoot_22 : decode m_A_isRoot.2.1 22 = .ok (.iconst 0, 1) := by decide +kernel
theorem d_A_isRoot_23 : decode m_A_isRoot.2.1 23 = .ok (.ireturn, 1) := by decide +kernel
theorem d_B_parent_0 : decode m_B_parent.2.1 0 = .ok (.aload_n 0, 1) := by decide +kernel
theorem d_B_parent_1 : decode m_B_parent.2.1 1 = .ok (.iload_n 1, 1) := by decide +kernel
theorem d_B_parent_2 : decode m_B_parent.2.1 2 = .ok (.invokevirtual 69, 3) := by decide +kernel
theorem d_B_parent_5 : decode m_B_parent.2.1 5 = .ok (.ifCond .eq 15, 3) := by decide +kernel
theorem d_B_parent_8 : decode m_B_parent.2.1 8 = .ok (.aload_n 0, 1) := by decide +kernel
theorem d_B_parent_9 : decode m_B_parent.2.1 9 = .ok (.getfield 11, 3) := by decide +kernel
theorem d_B_parent_12 : decode m_B_parent.2.1 12 = .ok (.iload_n 1, 1) := by decide +kernel
theorem d_B_parent_13 : decode m_B_parent.2.1 13 = .ok (.aaload, 1) := by decide +kernel
theorem d_B_parent_14 : decode m_B_parent.2.1 14 = .ok (.getfield 239, 3) := by decide +kernel
theorem d_B_parent_17 : decode m_B_parent.2.1 17 = .ok (.goto 4, 3) := by decide +kernel
theorem d_B_parent_20 : decode m_B_parent.2.1 20 = .ok (.iconst (-1), 1) := by decide +kernel
theorem d_B_parent_21 : decode m_B_parent.2.1 21 = .ok (.ireturn, 1) := by decide +kernel
theorem d_B_separator_0 : decode m_B_separator.2.1 0 = .ok (.aload_n 0, 1) := by decide +kernel
theorem d_B_separator_1 : decode m_B_separator.2.1 1 = .ok (.iload_n 1, 1) := by decide +kernel
theorem d_B_separator_2 : decode m_B_separator.2.1 2 = .ok (.invokevirtual 69, 3) := by decide +kernel
theorem d_B_separator_5 : decode m_B_separator.2.1 5 = .ok (.ifCond .eq 30, 3) := by decide +kernel
theorem d_B_separator_8 : decode m_B_separator.2.1 8 = .ok (.aload_n 0, 1) := by decide +kernel
theorem d_B_separator_9 : decode m_B_separator.2.1 9 = .ok (.getfield 11, 3) := by decide +kernel
theorem d_B_separator_12 : decode m_B_separator.2.1 12 = .ok (.iload_n 1, 1) := by decide +kernel
theorem d_B_separator_13 : decode m_B_separator.2.1 13 = .ok (.aaload, 1) := by decide +kernel
theorem d_B_separator_14 : decode m_B_separator.2.1 14 = .ok (.getfield 176, 3) := by decide +kernel
theorem d_B_separator_17 : decode m_B_separator.2.1 17 = .ok (.getstatic 189, 3) := by decide +kernel
theorem d_B_separator_20 : decode m_B_separator.2.1 20 = .ok (.if_acmp .ne 15, 3) := by decide +kernel
theorem d_B_separator_23 : decode m_B_separator.2.1 23 = .ok (.aload_n 0, 1) := by decide +kernel
theorem d_B_separator_24 : decode m_B_separator.2.1 24 = .ok (.getfield 11, 3) := by decide +kernel
theorem d_B_separator_27 : decode m_B_separator.2.1 27 = .ok (.iload_n 1, 1) := by decide +kernel
theorem d_B_separator_28 : decode m_B_separator.2.1 28 = .ok (.aaload, 1) := by decide +kernel
theorem d_B_separator_29 : decode m_B_separator.2.1 29 = .ok (.getfield 242, 3) := by decide +kernel
theorem d_B_separator_32 : decode m_B_separator.2.1 32 = .ok (.goto 4, 3) := by decide +kernel
theorem d_B_separator_35 : decode m_B_separator.2.1 35 = .ok (.iconst (-1), 1) := by decide +kernel
theorem d_B_separator_36 : decode m_B_separator.2.1 36 = .ok (.ireturn, 1) := by decide +kernel
theorem d_B_entries_0 : decode m_B_entries.2.1 0 = .ok (.aload_n 0, 1) := by decide +kernel
theorem d_B_entries_1 : decode m_B_entries.2.1 1 = .ok (.iload_n 1, 1) := by decide +kernel
theorem d_B_entries_2 : decode m_B_entries.2.1 2 = .ok (.invokevirtual 69, 3) := by decide +kernel
theorem d_B_entries_5 : decode m_B_entries.2.1 5 = .ok (.ifCond .eq 28, 3) := by decide +kernel
theorem d_B_entries_8 : decode m_B_entries.2.1 8 = .ok (.aload_n 0, 1) := by decide +kernel
theorem d_B_entries_9 : decode m_B_entries.2.1 9 = .ok (.getfield 11, 3) := by decide +kernel
theorem d_B_entries_12 : decode m_B_entries.2.1 12 = .ok (.iload_n 1, 1) := by decide +kernel
theorem d_B_entries_13 : decode m_B_entries.2.1 13 = .ok (.aaload, 1) := by decide +kernel
theorem d_B_entries_14 : decode m_B_entries.2.1 14 = .ok (.getfield 195, 3) := by decide +kernel
theorem d_B_entries_17 : decode m_B_entries.2.1 17 = .ok (.ifnull 16, 3) := by decide +kernel
theorem d_B_entries_20 : decode m_B_entries.2.1 20 = .ok (.aload_n 0, 1) := by decide +kernel
theorem d_B_entries_21 : decode m_B_entries.2.1 21 = .ok (.getfield 11, 3) := by decide +kernel
theorem d_B_entries_24 : decode m_B_entries.2.1 24 = .ok (.iload_n 1, 1) := by decide +kernel
theorem d_B_entries_25 : decode m_B_entries.2.1 25 = .ok (.aaload, 1) := by decide +kernel
theorem d_B_entries_26 : decode m_B_entries.2.1 26 = .ok (.getfield 195, 3) := by decide +kernel
theorem d_B_entries_29 : decode m_B_entries.2.1 29 = .ok (.arraylength, 1) := by decide +kernel
theorem d_B_entries_30 : decode m_B_entries.2.1 30 = .ok (.goto 4, 3) := by decide +kernel
theorem d_B_entries_33 : decode m_B_entries.2.1 33 = .ok (.iconst (-1), 1) := by decide +kernel
theorem d_B_entries_34 : decode m_B_entries.2.1 34 = .ok (.ireturn, 1) := by decide +kernel
theorem d_B_tables_0 : decode m_B_tables.2.1 0 = .ok (.aload_n 0, 1) := by decide +kernel
theorem d_B_tables_1 : decode m_B_tables.2.1 1 = .ok (.getfield 221, 3) := by decide +kernel
theorem d_B_tables_4 : decode m_B_tables.2.1 4 = .ok (.ireturn, 1) := by decide +kernel
theorem d_B_agent_0 : decode m_B_agent.2.1 0 = .ok (.iload_n 1, 1) := by decide +kernel
theorem d_B_agent_1 : decode m_B_agent.2.1 1 = .ok (.iconst 2, 1) := by decide +kernel
theorem d_B_agent_2 : decode m_B_agent.2.1 2 = .ok (.if_icmp .lt 8, 3) := by decide +kernel
theorem d_B_agent_5 : decode m_B_agent.2.1 5 = .ok (.iload_n 1, 1) := by decide +kernel
theorem d_B_agent_6 : decode m_B_agent.2.1 6 = .ok (.iconst 4, 1) := by decide +kernel
theorem d_B_agent_7 : decode m_B_agent.2.1 7 = .ok (.if_icmp .le 13, 3) := by decide +kernel
theorem d_B_agent_10 : decode m_B_agent.2.1 10 = .ok (.new 35, 3) := by decide +kernel
theorem d_B_agent_13 : decode m_B_agent.2.1 13 = .ok (.dup, 1) := by decide +kernel
theorem d_B_agent_14 : decode m_B_agent.2.1 14 = .ok (.ldc 37, 2) := by decide +kernel
theorem d_B_agent_16 : decode m_B_agent.2.1 16 = .ok (.invokespecial 39, 3) := by decide +kernel
theorem d_B_agent_19 : decode m_B_agent.2.1 19 = .ok (.athrow, 1) := by decide +kernel
theorem d_B_agent_20 : decode m_B_agent.2.1 20 = .ok (.aload_n 0, 1) := by decide +kernel
theorem d_B_agent_21 : decode m_B_agent.2.1 21 = .ok (.getfield 31, 3) := by decide +kernel
theorem d_B_agent_24 : decode m_B_agent.2.1 24 = .ok (.ifCond .eq 12, 3) := by decide +kernel
theorem d_B_agent_27 : decode m_B_agent.2.1 27 = .ok (.aload_n 0, 1) := by decide +kernel
theorem d_B_agent_28 : decode m_B_agent.2.1 28 = .ok (.getfield 42, 3) := by decide +kernel
theorem d_B_agent_31 : decode m_B_agent.2.1 31 = .ok (.bipush 8, 2) := by decide +kernel
theorem d_B_agent_33 : decode m_B_agent.2.1 33 = .ok (.if_icmp .ne 13, 3) := by decide +kernel
theorem d_B_agent_36 : decode m_B_agent.2.1 36 = .ok (.new 46, 3) := by decide +kernel
theorem d_B_agent_39 : decode m_B_agent.2.1 39 = .ok (.dup, 1) := by decide +kernel
theorem d_B_agent_40 : decode m_B_agent.2.1 40 = .ok (.ldc 48, 2) := by decide +kernel
theorem d_B_agent_42 : decode m_B_agent.2.1 42 = .ok (.invokespecial 50, 3) := by decide +kernel
theorem d_B_agent_45 : decode m_B_agent.2.1 45 = .ok (.athrow, 1) := by decide +kernel
theorem d_B_agent_46 : decode m_B_agent.2.1 46 = .ok (.aload_n 0, 1) := by decide +kernel
theorem d_B_agent_47 : decode m_B_agent.2.1 47 = .ok (.getfield 11, 3) := by decide +kernel
theorem d_B_agent_50 : decode m_B_agent.2.1 50 = .ok (.aload_n 0, 1) := by decide +kernel
theorem d_B_agent_51 : decode m_B_agent.2.1 51 = .ok (.getfield 42, 3) := by decide +kernel
theorem d_B_agent_54 : decode m_B_agent.2.1 54 = .ok (.new 9, 3) := by decide +kernel
theorem d_B_agent_57 : decode m_B_agent.2.1 57 = .ok (.dup, 1) := by decide +kernel
theorem d_B_agent_58 : decode m_B_agent.2.1 58 = .ok (.aload_n 0, 1) := by decide +kernel
theorem d_B_agent_59 : decode m_B_agent.2.1 59 = .ok (.getfield 42, 3) := by decide +kernel
theorem d_B_agent_62 : decode m_B_agent.2.1 62 = .ok (.iload_n 1, 1) := by decide +kernel
theorem d_B_agent_63 : decode m_B_agent.2.1 63 = .ok (.invokespecial 51, 3) := by decide +kernel
theorem d_B_agent_66 : decode m_B_agent.2.1 66 = .ok (.aastore, 1) := by decide +kernel
theorem d_B_agent_67 : decode m_B_agent.2.1 67 = .ok (.aload_n 0, 1) := by decide +kernel
theorem d_B_agent_68 : decode m_B_agent.2.1 68 = .ok (.dup, 1) := by decide +kernel
theorem d_B_agent_69 : decode m_B_agent.2.1 69 = .ok (.getfield 42, 3) := by decide +kernel
theorem d_B_agent_72 : decode m_B_agent.2.1 72 = .ok (.iconst 1, 1) := by decide +kernel
theorem d_B_agent_73 : decode m_B_agent.2.1 73 = .ok (.iadd, 1) := by decide +kernel
theorem d_B_agent_74 : decode m_B_agent.2.1 74 = .ok (.putfield 42, 3) := by decide +kernel
theorem d_B_agent_77 : decode m_B_agent.2.1 77 = .ok (.aload_n 0, 1) := by decide +kernel
theorem d_B_agent_78 : decode m_B_agent.2.1 78 = .ok (.getfield 42, 3) := by decide +kernel
theorem d_B_agent_81 : decode m_B_agent.2.1 81 = .ok (.iconst 1, 1) := by decide +kernel
theorem d_B_agent_82 : decode m_B_agent.2.1 82 = .ok (.isub, 1) := by decide +kernel
theorem d_B_agent_83 : decode m_B_agent.2.1 83 = .ok (.ireturn, 1) := by decide +kernel
theorem d_A_init_0 : decode m_A_init.2.1 0 = .ok (.aload_n 0, 1) := by decide +kernel
theorem d_A_init_1 : decode m_A_init.2.1 1 = .ok (.invokespecial 3, 3) := by decide +kernel
theorem d_A_init_4 : decode m_A_init.2.1 4 = .ok (.aload_n 0, 1) := by decide +kernel
theorem d_A_init_5 : decode m_A_init.2.1 5 = .ok (.iconst 4, 1) := by decide +kernel
theorem d_A_init_6 : decode m_A_init.2.1 6 = .ok (.newarray .int, 2) := by decide +kernel
theorem d_A_init_8 : decode m_A_init.2.1 8 = .ok (.putfield 9, 3) := by decide +kernel
theorem d_A_init_11 : decode m_A_init.2.1 11 = .ok (.aload_n 0, 1) := by decide +kernel
theorem d_A_init_12 : decode m_A_init.2.1 12 = .ok (.bipush 7, 2) := by decide +kernel
theorem d_A_init_14 : decode m_A_init.2.1 14 = .ok (.anewarray 15, 3) := by decide +kernel
theorem d_A_init_17 : decode m_A_init.2.1 17 = .ok (.putfield 17, 3) := by decide +kernel
theorem d_A_init_20 : decode m_A_init.2.1 20 = .ok (.aload_n 0, 1) := by decide +kernel
theorem d_A_init_21 : decode m_A_init.2.1 21 = .ok (.getstatic 21, 3) := by decide +kernel
theorem d_A_init_24 : decode m_A_init.2.1 24 = .ok (.putfield 27, 3) := by decide +kernel
theorem d_A_init_27 : decode m_A_init.2.1 27 = .ok (.aload_n 0, 1) := by decide +kernel
theorem d_A_init_28 : decode m_A_init.2.1 28 = .ok (.iconst (-1), 1) := by decide +kernel
theorem d_A_init_29 : decode m_A_init.2.1 29 = .ok (.putfield 30, 3) := by decide +kernel
theorem d_A_init_32 : decode m_A_init.2.1 32 = .ok (.aload_n 0, 1) := by decide +kernel
theorem d_A_init_33 : decode m_A_init.2.1 33 = .ok (.iconst (-1), 1) := by decide +kernel
theorem d_A_init_34 : decode m_A_init.2.1 34 = .ok (.putfield 34, 3) := by decide +kernel
theorem d_A_init_37 : decode m_A_init.2.1 37 = .ok (.aload_n 0, 1) := by decide +kernel
theorem d_A_init_38 : decode m_A_init.2.1 38 = .ok (.iload_n 1, 1) := by decide +kernel
theorem d_A_init_39 : decode m_A_init.2.1 39 = .ok (.putfield 37, 3) := by decide +kernel
theorem d_A_init_42 : decode m_A_init.2.1 42 = .ok (.aload_n 0, 1) := by decide +kernel
theorem d_A_init_43 : decode m_A_init.2.1 43 = .ok (.iload_n 2, 1) := by decide +kernel
theorem d_A_init_44 : decode m_A_init.2.1 44 = .ok (.putfield 40, 3) := by decide +kernel
theorem d_A_init_47 : decode m_A_init.2.1 47 = .ok (.return_, 1) := by decide +kernel
end
section
/-! DECODED: written by wip/whole/gen/dec.py -/
theorem d_B_own_0 : decode m_B_own.2.1 0 = .ok (.aload_n 0, 1) := by decide +kernel
theorem d_B_own_1 : decode m_B_own.2.1 1 = .ok (.iload_n 1, 1) := by decide +kernel
theorem d_B_own_2 : decode m_B_own.2.1 2 = .ok (.iload_n 2, 1) := by decide +kernel
theorem d_B_own_3 : decode m_B_own.2.1 3 = .ok (.invokevirtual 54, 3) := by decide +kernel
theorem d_B_own_6 : decode m_B_own.2.1 6 = .ok (.ifCond .eq 10, 3) := by decide +kernel
theorem d_B_own_9 : decode m_B_own.2.1 9 = .ok (.iload_n 3, 1) := by decide +kernel
theorem d_B_own_10 : decode m_B_own.2.1 10 = .ok (.invokestatic 58, 3) := by decide +kernel
theorem d_B_own_13 : decode m_B_own.2.1 13 = .ok (.ifCond .ne 13, 3) := by decide +kernel
theorem d_B_own_16 : decode m_B_own.2.1 16 = .ok (.new 35, 3) := by decide +kernel
theorem d_B_own_19 : decode m_B_own.2.1 19 = .ok (.dup, 1) := by decide +kernel
theorem d_B_own_20 : decode m_B_own.2.1 20 = .ok (.ldc 62, 2) := by decide +kernel
theorem d_B_own_22 : decode m_B_own.2.1 22 = .ok (.invokespecial 39, 3) := by decide +kernel
theorem d_B_own_25 : decode m_B_own.2.1 25 = .ok (.athrow, 1) := by decide +kernel
theorem d_B_own_26 : decode m_B_own.2.1 26 = .ok (.aload_n 0, 1) := by decide +kernel
theorem d_B_own_27 : decode m_B_own.2.1 27 = .ok (.getfield 31, 3) := by decide +kernel
theorem d_B_own_30 : decode m_B_own.2.1 30 = .ok (.ifCond .ne 13, 3) := by decide +kernel
theorem d_B_own_33 : decode m_B_own.2.1 33 = .ok (.new 46, 3) := by decide +kernel
theorem d_B_own_36 : decode m_B_own.2.1 36 = .ok (.dup, 1) := by decide +kernel
theorem d_B_own_37 : decode m_B_own.2.1 37 = .ok (.ldc 64, 2) := by decide +kernel
theorem d_B_own_39 : decode m_B_own.2.1 39 = .ok (.invokespecial 50, 3) := by decide +kernel
theorem d_B_own_42 : decode m_B_own.2.1 42 = .ok (.athrow, 1) := by decide +kernel
theorem d_B_own_43 : decode m_B_own.2.1 43 = .ok (.aload_n 0, 1) := by decide +kernel
theorem d_B_own_44 : decode m_B_own.2.1 44 = .ok (.getfield 11, 3) := by decide +kernel
theorem d_B_own_47 : decode m_B_own.2.1 47 = .ok (.iload_n 1, 1) := by decide +kernel
theorem d_B_own_48 : decode m_B_own.2.1 48 = .ok (.aaload, 1) := by decide +kernel
theorem d_B_own_49 : decode m_B_own.2.1 49 = .ok (.getfield 66, 3) := by decide +kernel
theorem d_B_own_52 : decode m_B_own.2.1 52 = .ok (.iload_n 2, 1) := by decide +kernel
theorem d_B_own_53 : decode m_B_own.2.1 53 = .ok (.iload_n 3, 1) := by decide +kernel
theorem d_B_own_54 : decode m_B_own.2.1 54 = .ok (.iastore, 1) := by decide +kernel
theorem d_B_own_55 : decode m_B_own.2.1 55 = .ok (.return_, 1) := by decide +kernel
theorem d_B_isValue_0 : decode m_B_isValue.2.1 0 = .ok (.aload_n 0, 1) := by decide +kernel
theorem d_B_isValue_1 : decode m_B_isValue.2.1 1 = .ok (.iload_n 1, 1) := by decide +kernel
theorem d_B_isValue_2 : decode m_B_isValue.2.1 2 = .ok (.invokevirtual 69, 3) := by decide +kernel
theorem d_B_isValue_5 : decode m_B_isValue.2.1 5 = .ok (.ifCond .eq 24, 3) := by decide +kernel
theorem d_B_isValue_8 : decode m_B_isValue.2.1 8 = .ok (.iload_n 2, 1) := by decide +kernel
theorem d_B_isValue_9 : decode m_B_isValue.2.1 9 = .ok (.ifCond .lt 20, 3) := by decide +kernel
theorem d_B_isValue_12 : decode m_B_isValue.2.1 12 = .ok (.iload_n 2, 1) := by decide +kernel
theorem d_B_isValue_13 : decode m_B_isValue.2.1 13 = .ok (.aload_n 0, 1) := by decide +kernel
theorem d_B_isValue_14 : decode m_B_isValue.2.1 14 = .ok (.getfield 11, 3) := by decide +kernel
theorem d_B_isValue_17 : decode m_B_isValue.2.1 17 = .ok (.iload_n 1, 1) := by decide +kernel
theorem d_B_isValue_18 : decode m_B_isValue.2.1 18 = .ok (.aaload, 1) := by decide +kernel
theorem d_B_isValue_19 : decode m_B_isValue.2.1 19 = .ok (.getfield 245, 3) := by decide +kernel
theorem d_B_isValue_22 : decode m_B_isValue.2.1 22 = .ok (.if_icmp .ge 7, 3) := by decide +kernel
theorem d_B_isValue_25 : decode m_B_isValue.2.1 25 = .ok (.iconst 1, 1) := by decide +kernel
theorem d_B_isValue_26 : decode m_B_isValue.2.1 26 = .ok (.goto 4, 3) := by decide +kernel
theorem d_B_isValue_29 : decode m_B_isValue.2.1 29 = .ok (.iconst 0, 1) := by decide +kernel
theorem d_B_isValue_30 : decode m_B_isValue.2.1 30 = .ok (.ireturn, 1) := by decide +kernel
theorem d_B_isCost_0 : decode m_B_isCost.2.1 0 = .ok (.iload_n 0, 1) := by decide +kernel
theorem d_B_isCost_1 : decode m_B_isCost.2.1 1 = .ok (.bipush (-2), 2) := by decide +kernel
theorem d_B_isCost_3 : decode m_B_isCost.2.1 3 = .ok (.if_icmp .eq 14, 3) := by decide +kernel
theorem d_B_isCost_6 : decode m_B_isCost.2.1 6 = .ok (.iload_n 0, 1) := by decide +kernel
theorem d_B_isCost_7 : decode m_B_isCost.2.1 7 = .ok (.ifCond .lt 14, 3) := by decide +kernel
theorem d_B_isCost_10 : decode m_B_isCost.2.1 10 = .ok (.iload_n 0, 1) := by decide +kernel
theorem d_B_isCost_11 : decode m_B_isCost.2.1 11 = .ok (.sipush 999, 3) := by decide +kernel
theorem d_B_isCost_14 : decode m_B_isCost.2.1 14 = .ok (.if_icmp .gt 7, 3) := by decide +kernel
theorem d_B_isCost_17 : decode m_B_isCost.2.1 17 = .ok (.iconst 1, 1) := by decide +kernel
theorem d_B_isCost_18 : decode m_B_isCost.2.1 18 = .ok (.goto 4, 3) := by decide +kernel
theorem d_B_isCost_21 : decode m_B_isCost.2.1 21 = .ok (.iconst 0, 1) := by decide +kernel
theorem d_B_isCost_22 : decode m_B_isCost.2.1 22 = .ok (.ireturn, 1) := by decide +kernel
theorem d_B_pair_0 : decode m_B_pair.2.1 0 = .ok (.aload_n 0, 1) := by decide +kernel
theorem d_B_pair_1 : decode m_B_pair.2.1 1 = .ok (.iload_n 1, 1) := by decide +kernel
theorem d_B_pair_2 : decode m_B_pair.2.1 2 = .ok (.invokevirtual 69, 3) := by decide +kernel
theorem d_B_pair_5 : decode m_B_pair.2.1 5 = .ok (.ifCond .eq 16, 3) := by decide +kernel
theorem d_B_pair_8 : decode m_B_pair.2.1 8 = .ok (.aload_n 0, 1) := by decide +kernel
theorem d_B_pair_9 : decode m_B_pair.2.1 9 = .ok (.iload_n 2, 1) := by decide +kernel
theorem d_B_pair_10 : decode m_B_pair.2.1 10 = .ok (.invokevirtual 69, 3) := by decide +kernel
theorem d_B_pair_13 : decode m_B_pair.2.1 13 = .ok (.ifCond .eq 8, 3) := by decide +kernel
theorem d_B_pair_16 : decode m_B_pair.2.1 16 = .ok (.iload_n 1, 1) := by decide +kernel
theorem d_B_pair_17 : decode m_B_pair.2.1 17 = .ok (.iload_n 2, 1) := by decide +kernel
theorem d_B_pair_18 : decode m_B_pair.2.1 18 = .ok (.if_icmp .ne 13, 3) := by decide +kernel
theorem d_B_pair_21 : decode m_B_pair.2.1 21 = .ok (.new 35, 3) := by decide +kernel
theorem d_B_pair_24 : decode m_B_pair.2.1 24 = .ok (.dup, 1) := by decide +kernel
theorem d_B_pair_25 : decode m_B_pair.2.1 25 = .ok (.ldc 72, 2) := by decide +kernel
theorem d_B_pair_27 : decode m_B_pair.2.1 27 = .ok (.invokespecial 39, 3) := by decide +kernel
theorem d_B_pair_30 : decode m_B_pair.2.1 30 = .ok (.athrow, 1) := by decide +kernel
theorem d_B_pair_31 : decode m_B_pair.2.1 31 = .ok (.aload_n 0, 1) := by decide +kernel
theorem d_B_pair_32 : decode m_B_pair.2.1 32 = .ok (.getfield 31, 3) := by decide +kernel
theorem d_B_pair_35 : decode m_B_pair.2.1 35 = .ok (.ifCond .eq 21, 3) := by decide +kernel
theorem d_B_pair_38 : decode m_B_pair.2.1 38 = .ok (.aload_n 0, 1) := by decide +kernel
theorem d_B_pair_39 : decode m_B_pair.2.1 39 = .ok (.getfield 74, 3) := by decide +kernel
theorem d_B_pair_42 : decode m_B_pair.2.1 42 = .ok (.bipush 12, 2) := by decide +kernel
theorem d_B_pair_44 : decode m_B_pair.2.1 44 = .ok (.if_icmp .eq 12, 3) := by decide +kernel
theorem d_B_pair_47 : decode m_B_pair.2.1 47 = .ok (.aload_n 0, 1) := by decide +kernel
theorem d_B_pair_48 : decode m_B_pair.2.1 48 = .ok (.iload_n 1, 1) := by decide +kernel
theorem d_B_pair_49 : decode m_B_pair.2.1 49 = .ok (.iload_n 2, 1) := by decide +kernel
theorem d_B_pair_50 : decode m_B_pair.2.1 50 = .ok (.invokevirtual 77, 3) := by decide +kernel
theorem d_B_pair_53 : decode m_B_pair.2.1 53 = .ok (.ifnull 13, 3) := by decide +kernel
theorem d_B_pair_56 : decode m_B_pair.2.1 56 = .ok (.new 46, 3) := by decide +kernel
theorem d_B_pair_59 : decode m_B_pair.2.1 59 = .ok (.dup, 1) := by decide +kernel
theorem d_B_pair_60 : decode m_B_pair.2.1 60 = .ok (.ldc 81, 2) := by decide +kernel
theorem d_B_pair_62 : decode m_B_pair.2.1 62 = .ok (.invokespecial 50, 3) := by decide +kernel
theorem d_B_pair_65 : decode m_B_pair.2.1 65 = .ok (.athrow, 1) := by decide +kernel
theorem d_B_pair_66 : decode m_B_pair.2.1 66 = .ok (.aload_n 0, 1) := by decide +kernel
theorem d_B_pair_67 : decode m_B_pair.2.1 67 = .ok (.getfield 17, 3) := by decide +kernel
theorem d_B_pair_70 : decode m_B_pair.2.1 70 = .ok (.aload_n 0, 1) := by decide +kernel
theorem d_B_pair_71 : decode m_B_pair.2.1 71 = .ok (.getfield 74, 3) := by decide +kernel
theorem d_B_pair_74 : decode m_B_pair.2.1 74 = .ok (.new 15, 3) := by decide +kernel
theorem d_B_pair_77 : decode m_B_pair.2.1 77 = .ok (.dup, 1) := by decide +kernel
theorem d_B_pair_78 : decode m_B_pair.2.1 78 = .ok (.iload_n 1, 1) := by decide +kernel
theorem d_B_pair_79 : decode m_B_pair.2.1 79 = .ok (.iload_n 2, 1) := by decide +kernel
theorem d_B_pair_80 : decode m_B_pair.2.1 80 = .ok (.invokestatic 83, 3) := by decide +kernel
theorem d_B_pair_83 : decode m_B_pair.2.1 83 = .ok (.iload_n 1, 1) := by decide +kernel
theorem d_B_pair_84 : decode m_B_pair.2.1 84 = .ok (.iload_n 2, 1) := by decide +kernel
theorem d_B_pair_85 : decode m_B_pair.2.1 85 = .ok (.invokestatic 89, 3) := by decide +kernel
theorem d_B_pair_88 : decode m_B_pair.2.1 88 = .ok (.invokespecial 92, 3) := by decide +kernel
theorem d_B_pair_91 : decode m_B_pair.2.1 91 = .ok (.aastore, 1) := by decide +kernel
theorem d_B_pair_92 : decode m_B_pair.2.1 92 = .ok (.aload_n 0, 1) := by decide +kernel
theorem d_B_pair_93 : decode m_B_pair.2.1 93 = .ok (.dup, 1) := by decide +kernel
theorem d_B_pair_94 : decode m_B_pair.2.1 94 = .ok (.getfield 74, 3) := by decide +kernel
theorem d_B_pair_97 : decode m_B_pair.2.1 97 = .ok (.iconst 1, 1) := by decide +kernel
theorem d_B_pair_98 : decode m_B_pair.2.1 98 = .ok (.iadd, 1) := by decide +kernel
theorem d_B_pair_99 : decode m_B_pair.2.1 99 = .ok (.putfield 74, 3) := by decide +kernel
theorem d_B_pair_102 : decode m_B_pair.2.1 102 = .ok (.aload_n 0, 1) := by decide +kernel
theorem d_B_pair_103 : decode m_B_pair.2.1 103 = .ok (.getfield 11, 3) := by decide +kernel
theorem d_B_pair_106 : decode m_B_pair.2.1 106 = .ok (.iload_n 1, 1) := by decide +kernel
theorem d_B_pair_107 : decode m_B_pair.2.1 107 = .ok (.aaload, 1) := by decide +kernel
theorem d_B_pair_108 : decode m_B_pair.2.1 108 = .ok (.dup, 1) := by decide +kernel
theorem d_B_pair_109 : decode m_B_pair.2.1 109 = .ok (.getfield 93, 3) := by decide +kernel
theorem d_B_pair_112 : decode m_B_pair.2.1 112 = .ok (.iconst 1, 1) := by decide +kernel
theorem d_B_pair_113 : decode m_B_pair.2.1 113 = .ok (.iload_n 2, 1) := by decide +kernel
theorem d_B_pair_114 : decode m_B_pair.2.1 114 = .ok (.ishl, 1) := by decide +kernel
theorem d_B_pair_115 : decode m_B_pair.2.1 115 = .ok (.ior, 1) := by decide +kernel
theorem d_B_pair_116 : decode m_B_pair.2.1 116 = .ok (.putfield 93, 3) := by decide +kernel
theorem d_B_pair_119 : decode m_B_pair.2.1 119 = .ok (.aload_n 0, 1) := by decide +kernel
theorem d_B_pair_120 : decode m_B_pair.2.1 120 = .ok (.getfield 11, 3) := by decide +kernel
theorem d_B_pair_123 : decode m_B_pair.2.1 123 = .ok (.iload_n 2, 1) := by decide +kernel
theorem d_B_pair_124 : decode m_B_pair.2.1 124 = .ok (.aaload, 1) := by decide +kernel
theorem d_B_pair_125 : decode m_B_pair.2.1 125 = .ok (.dup, 1) := by decide +kernel
theorem d_B_pair_126 : decode m_B_pair.2.1 126 = .ok (.getfield 93, 3) := by decide +kernel
theorem d_B_pair_129 : decode m_B_pair.2.1 129 = .ok (.iconst 1, 1) := by decide +kernel
theorem d_B_pair_130 : decode m_B_pair.2.1 130 = .ok (.iload_n 1, 1) := by decide +kernel
theorem d_B_pair_131 : decode m_B_pair.2.1 131 = .ok (.ishl, 1) := by decide +kernel
theorem d_B_pair_132 : decode m_B_pair.2.1 132 = .ok (.ior, 1) := by decide +kernel
theorem d_B_pair_133 : decode m_B_pair.2.1 133 = .ok (.putfield 93, 3) := by decide +kernel
theorem d_B_pair_136 : decode m_B_pair.2.1 136 = .ok (.aload_n 0, 1) := by decide +kernel
theorem d_B_pair_137 : decode m_B_pair.2.1 137 = .ok (.getfield 74, 3) := by decide +kernel
theorem d_B_pair_140 : decode m_B_pair.2.1 140 = .ok (.ireturn, 1) := by decide +kernel
theorem d_B_pairOf_0 : decode m_B_pairOf.2.1 0 = .ok (.iconst 0, 1) := by decide +kernel
theorem d_B_pairOf_1 : decode m_B_pairOf.2.1 1 = .ok (.istore_n 3, 1) := by decide +kernel
theorem d_B_pairOf_2 : decode m_B_pairOf.2.1 2 = .ok (.iload_n 3, 1) := by decide +kernel
theorem d_B_pairOf_3 : decode m_B_pairOf.2.1 3 = .ok (.aload_n 0, 1) := by decide +kernel
theorem d_B_pairOf_4 : decode m_B_pairOf.2.1 4 = .ok (.getfield 74, 3) := by decide +kernel
theorem d_B_pairOf_7 : decode m_B_pairOf.2.1 7 = .ok (.if_icmp .ge 50, 3) := by decide +kernel
theorem d_B_pairOf_10 : decode m_B_pairOf.2.1 10 = .ok (.aload_n 0, 1) := by decide +kernel
theorem d_B_pairOf_11 : decode m_B_pairOf.2.1 11 = .ok (.getfield 17, 3) := by decide +kernel
theorem d_B_pairOf_14 : decode m_B_pairOf.2.1 14 = .ok (.iload_n 3, 1) := by decide +kernel
theorem d_B_pairOf_15 : decode m_B_pairOf.2.1 15 = .ok (.aaload, 1) := by decide +kernel
theorem d_B_pairOf_16 : decode m_B_pairOf.2.1 16 = .ok (.getfield 248, 3) := by decide +kernel
theorem d_B_pairOf_19 : decode m_B_pairOf.2.1 19 = .ok (.iload_n 1, 1) := by decide +kernel
theorem d_B_pairOf_20 : decode m_B_pairOf.2.1 20 = .ok (.iload_n 2, 1) := by decide +kernel
theorem d_B_pairOf_21 : decode m_B_pairOf.2.1 21 = .ok (.invokestatic 83, 3) := by decide +kernel
theorem d_B_pairOf_24 : decode m_B_pairOf.2.1 24 = .ok (.if_icmp .ne 27, 3) := by decide +kernel
theorem d_B_pairOf_27 : decode m_B_pairOf.2.1 27 = .ok (.aload_n 0, 1) := by decide +kernel
theorem d_B_pairOf_28 : decode m_B_pairOf.2.1 28 = .ok (.getfield 17, 3) := by decide +kernel
theorem d_B_pairOf_31 : decode m_B_pairOf.2.1 31 = .ok (.iload_n 3, 1) := by decide +kernel
theorem d_B_pairOf_32 : decode m_B_pairOf.2.1 32 = .ok (.aaload, 1) := by decide +kernel
theorem d_B_pairOf_33 : decode m_B_pairOf.2.1 33 = .ok (.getfield 251, 3) := by decide +kernel
theorem d_B_pairOf_36 : decode m_B_pairOf.2.1 36 = .ok (.iload_n 1, 1) := by decide +kernel
theorem d_B_pairOf_37 : decode m_B_pairOf.2.1 37 = .ok (.iload_n 2, 1) := by decide +kernel
theorem d_B_pairOf_38 : decode m_B_pairOf.2.1 38 = .ok (.invokestatic 89, 3) := by decide +kernel
theorem d_B_pairOf_41 : decode m_B_pairOf.2.1 41 = .ok (.if_icmp .ne 10, 3) := by decide +kernel
theorem d_B_pairOf_44 : decode m_B_pairOf.2.1 44 = .ok (.aload_n 0, 1) := by decide +kernel
theorem d_B_pairOf_45 : decode m_B_pairOf.2.1 45 = .ok (.getfield 17, 3) := by decide +kernel
theorem d_B_pairOf_48 : decode m_B_pairOf.2.1 48 = .ok (.iload_n 3, 1) := by decide +kernel
theorem d_B_pairOf_49 : decode m_B_pairOf.2.1 49 = .ok (.aaload, 1) := by decide +kernel
theorem d_B_pairOf_50 : decode m_B_pairOf.2.1 50 = .ok (.areturn, 1) := by decide +kernel
theorem d_B_pairOf_51 : decode m_B_pairOf.2.1 51 = .ok (.iinc 3 1, 3) := by decide +kernel
theorem d_B_pairOf_54 : decode m_B_pairOf.2.1 54 = .ok (.goto (-52), 3) := by decide +kernel
theorem d_B_pairOf_57 : decode m_B_pairOf.2.1 57 = .ok (.aconst_null, 1) := by decide +kernel
theorem d_B_pairOf_58 : decode m_B_pairOf.2.1 58 = .ok (.areturn, 1) := by decide +kernel
theorem d_J_min_0 : decode m_J_min.2.1 0 = .ok (.iload_n 0, 1) := by decide +kernel
theorem d_J_min_1 : decode m_J_min.2.1 1 = .ok (.iload_n 1, 1) := by decide +kernel
theorem d_J_min_2 : decode m_J_min.2.1 2 = .ok (.if_icmp .gt 7, 3) := by decide +kernel
theorem d_J_min_5 : decode m_J_min.2.1 5 = .ok (.iload_n 0, 1) := by decide +kernel
theorem d_J_min_6 : decode m_J_min.2.1 6 = .ok (.goto 4, 3) := by decide +kernel
theorem d_J_min_9 : decode m_J_min.2.1 9 = .ok (.iload_n 1, 1) := by decide +kernel
theorem d_J_min_10 : decode m_J_min.2.1 10 = .ok (.ireturn, 1) := by decide +kernel
theorem d_J_max_0 : decode m_J_max.2.1 0 = .ok (.iload_n 0, 1) := by decide +kernel
theorem d_J_max_1 : decode m_J_max.2.1 1 = .ok (.iload_n 1, 1) := by decide +kernel
theorem d_J_max_2 : decode m_J_max.2.1 2 = .ok (.if_icmp .lt 7, 3) := by decide +kernel
theorem d_J_max_5 : decode m_J_max.2.1 5 = .ok (.iload_n 0, 1) := by decide +kernel
theorem d_J_max_6 : decode m_J_max.2.1 6 = .ok (.goto 4, 3) := by decide +kernel
theorem d_J_max_9 : decode m_J_max.2.1 9 = .ok (.iload_n 1, 1) := by decide +kernel
theorem d_J_max_10 : decode m_J_max.2.1 10 = .ok (.ireturn, 1) := by decide +kernel
theorem d_Q_init_0 : decode m_Q_init.2.1 0 = .ok (.aload_n 0, 1) := by decide +kernel
theorem d_Q_init_1 : decode m_Q_init.2.1 1 = .ok (.invokespecial 3, 3) := by decide +kernel
theorem d_Q_init_4 : decode m_Q_init.2.1 4 = .ok (.aload_n 0, 1) := by decide +kernel
theorem d_Q_init_5 : decode m_Q_init.2.1 5 = .ok (.bipush 16, 2) := by decide +kernel
theorem d_Q_init_7 : decode m_Q_init.2.1 7 = .ok (.newarray .int, 2) := by decide +kernel
theorem d_Q_init_9 : decode m_Q_init.2.1 9 = .ok (.putfield 9, 3) := by decide +kernel
theorem d_Q_init_12 : decode m_Q_init.2.1 12 = .ok (.aload_n 0, 1) := by decide +kernel
theorem d_Q_init_13 : decode m_Q_init.2.1 13 = .ok (.iload_n 1, 1) := by decide +kernel
theorem d_Q_init_14 : decode m_Q_init.2.1 14 = .ok (.putfield 15, 3) := by decide +kernel
theorem d_Q_init_17 : decode m_Q_init.2.1 17 = .ok (.aload_n 0, 1) := by decide +kernel
theorem d_Q_init_18 : decode m_Q_init.2.1 18 = .ok (.iload_n 2, 1) := by decide +kernel
theorem d_Q_init_19 : decode m_Q_init.2.1 19 = .ok (.putfield 19, 3) := by decide +kernel
theorem d_Q_init_22 : decode m_Q_init.2.1 22 = .ok (.return_, 1) := by decide +kernel
theorem d_B_cost_0 : decode m_B_cost.2.1 0 = .ok (.aload_n 0, 1) := by decide +kernel
theorem d_B_cost_1 : decode m_B_cost.2.1 1 = .ok (.iload_n 1, 1) := by decide +kernel
theorem d_B_cost_2 : decode m_B_cost.2.1 2 = .ok (.iload_n 2, 1) := by decide +kernel
theorem d_B_cost_3 : decode m_B_cost.2.1 3 = .ok (.iload_n 3, 1) := by decide +kernel
theorem d_B_cost_4 : decode m_B_cost.2.1 4 = .ok (.iload 4, 2) := by decide +kernel
theorem d_B_cost_6 : decode m_B_cost.2.1 6 = .ok (.invokevirtual 96, 3) := by decide +kernel
theorem d_B_cost_9 : decode m_B_cost.2.1 9 = .ok (.astore 6, 2) := by decide +kernel
theorem d_B_cost_11 : decode m_B_cost.2.1 11 = .ok (.aload 6, 2) := by decide +kernel
theorem d_B_cost_13 : decode m_B_cost.2.1 13 = .ok (.ifnull 11, 3) := by decide +kernel
theorem d_B_cost_16 : decode m_B_cost.2.1 16 = .ok (.iload 5, 2) := by decide +kernel
theorem d_B_cost_18 : decode m_B_cost.2.1 18 = .ok (.invokestatic 58, 3) := by decide +kernel
theorem d_B_cost_21 : decode m_B_cost.2.1 21 = .ok (.ifCond .ne 13, 3) := by decide +kernel
theorem d_B_cost_24 : decode m_B_cost.2.1 24 = .ok (.new 35, 3) := by decide +kernel
theorem d_B_cost_27 : decode m_B_cost.2.1 27 = .ok (.dup, 1) := by decide +kernel
theorem d_B_cost_28 : decode m_B_cost.2.1 28 = .ok (.ldc 100, 2) := by decide +kernel
theorem d_B_cost_30 : decode m_B_cost.2.1 30 = .ok (.invokespecial 39, 3) := by decide +kernel
theorem d_B_cost_33 : decode m_B_cost.2.1 33 = .ok (.athrow, 1) := by decide +kernel
theorem d_B_cost_34 : decode m_B_cost.2.1 34 = .ok (.aload_n 0, 1) := by decide +kernel
theorem d_B_cost_35 : decode m_B_cost.2.1 35 = .ok (.getfield 31, 3) := by decide +kernel
theorem d_B_cost_38 : decode m_B_cost.2.1 38 = .ok (.ifCond .ne 13, 3) := by decide +kernel
theorem d_B_cost_41 : decode m_B_cost.2.1 41 = .ok (.new 46, 3) := by decide +kernel
theorem d_B_cost_44 : decode m_B_cost.2.1 44 = .ok (.dup, 1) := by decide +kernel
theorem d_B_cost_45 : decode m_B_cost.2.1 45 = .ok (.ldc 64, 2) := by decide +kernel
theorem d_B_cost_47 : decode m_B_cost.2.1 47 = .ok (.invokespecial 50, 3) := by decide +kernel
theorem d_B_cost_50 : decode m_B_cost.2.1 50 = .ok (.athrow, 1) := by decide +kernel
theorem d_B_cost_51 : decode m_B_cost.2.1 51 = .ok (.aload 6, 2) := by decide +kernel
theorem d_B_cost_53 : decode m_B_cost.2.1 53 = .ok (.getfield 102, 3) := by decide +kernel
theorem d_B_cost_56 : decode m_B_cost.2.1 56 = .ok (.aload 6, 2) := by decide +kernel
theorem d_B_cost_58 : decode m_B_cost.2.1 58 = .ok (.iload_n 1, 1) := by decide +kernel
theorem d_B_cost_59 : decode m_B_cost.2.1 59 = .ok (.iload_n 3, 1) := by decide +kernel
theorem d_B_cost_60 : decode m_B_cost.2.1 60 = .ok (.iload 4, 2) := by decide +kernel
theorem d_B_cost_62 : decode m_B_cost.2.1 62 = .ok (.invokevirtual 105, 3) := by decide +kernel
theorem d_B_cost_65 : decode m_B_cost.2.1 65 = .ok (.iload 5, 2) := by decide +kernel
theorem d_B_cost_67 : decode m_B_cost.2.1 67 = .ok (.iastore, 1) := by decide +kernel
theorem d_B_cost_68 : decode m_B_cost.2.1 68 = .ok (.return_, 1) := by decide +kernel
theorem d_B_pairWith_0 : decode m_B_pairWith.2.1 0 = .ok (.aload_n 0, 1) := by decide +kernel
theorem d_B_pairWith_1 : decode m_B_pairWith.2.1 1 = .ok (.iload_n 1, 1) := by decide +kernel
theorem d_B_pairWith_2 : decode m_B_pairWith.2.1 2 = .ok (.iload_n 3, 1) := by decide +kernel
theorem d_B_pairWith_3 : decode m_B_pairWith.2.1 3 = .ok (.invokevirtual 54, 3) := by decide +kernel
theorem d_B_pairWith_6 : decode m_B_pairWith.2.1 6 = .ok (.ifCond .eq 22, 3) := by decide +kernel
theorem d_B_pairWith_9 : decode m_B_pairWith.2.1 9 = .ok (.aload_n 0, 1) := by decide +kernel
theorem d_B_pairWith_10 : decode m_B_pairWith.2.1 10 = .ok (.iload_n 2, 1) := by decide +kernel
theorem d_B_pairWith_11 : decode m_B_pairWith.2.1 11 = .ok (.iload 4, 2) := by decide +kernel
theorem d_B_pairWith_13 : decode m_B_pairWith.2.1 13 = .ok (.invokevirtual 54, 3) := by decide +kernel
theorem d_B_pairWith_16 : decode m_B_pairWith.2.1 16 = .ok (.ifCond .eq 12, 3) := by decide +kernel
theorem d_B_pairWith_19 : decode m_B_pairWith.2.1 19 = .ok (.aload_n 0, 1) := by decide +kernel
theorem d_B_pairWith_20 : decode m_B_pairWith.2.1 20 = .ok (.iload_n 1, 1) := by decide +kernel
theorem d_B_pairWith_21 : decode m_B_pairWith.2.1 21 = .ok (.iload_n 2, 1) := by decide +kernel
theorem d_B_pairWith_22 : decode m_B_pairWith.2.1 22 = .ok (.invokevirtual 77, 3) := by decide +kernel
theorem d_B_pairWith_25 : decode m_B_pairWith.2.1 25 = .ok (.goto 4, 3) := by decide +kernel
theorem d_B_pairWith_28 : decode m_B_pairWith.2.1 28 = .ok (.aconst_null, 1) := by decide +kernel
theorem d_B_pairWith_29 : decode m_B_pairWith.2.1 29 = .ok (.areturn, 1) := by decide +kernel
theorem d_Q_place_0 : decode m_Q_place.2.1 0 = .ok (.iload_n 1, 1) := by decide +kernel
theorem d_Q_place_1 : decode m_Q_place.2.1 1 = .ok (.aload_n 0, 1) := by decide +kernel
theorem d_Q_place_2 : decode m_Q_place.2.1 2 = .ok (.getfield 15, 3) := by decide +kernel
theorem d_Q_place_5 : decode m_Q_place.2.1 5 = .ok (.if_icmp .ne 11, 3) := by decide +kernel
theorem d_Q_place_8 : decode m_Q_place.2.1 8 = .ok (.iload_n 2, 1) := by decide +kernel
theorem d_Q_place_9 : decode m_Q_place.2.1 9 = .ok (.iconst 4, 1) := by decide +kernel
theorem d_Q_place_10 : decode m_Q_place.2.1 10 = .ok (.imul, 1) := by decide +kernel
theorem d_Q_place_11 : decode m_Q_place.2.1 11 = .ok (.iload_n 3, 1) := by decide +kernel
theorem d_Q_place_12 : decode m_Q_place.2.1 12 = .ok (.iadd, 1) := by decide +kernel
theorem d_Q_place_13 : decode m_Q_place.2.1 13 = .ok (.goto 8, 3) := by decide +kernel
theorem d_Q_place_16 : decode m_Q_place.2.1 16 = .ok (.iload_n 3, 1) := by decide +kernel
theorem d_Q_place_17 : decode m_Q_place.2.1 17 = .ok (.iconst 4, 1) := by decide +kernel
theorem d_Q_place_18 : decode m_Q_place.2.1 18 = .ok (.imul, 1) := by decide +kernel
theorem d_Q_place_19 : decode m_Q_place.2.1 19 = .ok (.iload_n 2, 1) := by decide +kernel
theorem d_Q_place_20 : decode m_Q_place.2.1 20 = .ok (.iadd, 1) := by decide +kernel
theorem d_Q_place_21 : decode m_Q_place.2.1 21 = .ok (.ireturn, 1) := by decide +kernel
theorem d_B_start_0 : decode m_B_start.2.1 0 = .ok (.aload_n 0, 1) := by decide +kernel
theorem d_B_start_1 : decode m_B_start.2.1 1 = .ok (.getfield 31, 3) := by decide +kernel
theorem d_B_start_4 : decode m_B_start.2.1 4 = .ok (.ifCond .eq 10, 3) := by decide +kernel
theorem d_B_start_7 : decode m_B_start.2.1 7 = .ok (.aload_n 0, 1) := by decide +kernel
theorem d_B_start_8 : decode m_B_start.2.1 8 = .ok (.getfield 42, 3) := by decide +kernel
theorem d_B_start_11 : decode m_B_start.2.1 11 = .ok (.ifCond .ne 13, 3) := by decide +kernel
theorem d_B_start_14 : decode m_B_start.2.1 14 = .ok (.new 46, 3) := by decide +kernel
theorem d_B_start_17 : decode m_B_start.2.1 17 = .ok (.dup, 1) := by decide +kernel
theorem d_B_start_18 : decode m_B_start.2.1 18 = .ok (.ldc 109, 2) := by decide +kernel
theorem d_B_start_20 : decode m_B_start.2.1 20 = .ok (.invokespecial 50, 3) := by decide +kernel
theorem d_B_start_23 : decode m_B_start.2.1 23 = .ok (.athrow, 1) := by decide +kernel
theorem d_B_start_24 : decode m_B_start.2.1 24 = .ok (.aload_n 0, 1) := by decide +kernel
theorem d_B_start_25 : decode m_B_start.2.1 25 = .ok (.iconst 0, 1) := by decide +kernel
theorem d_B_start_26 : decode m_B_start.2.1 26 = .ok (.putfield 31, 3) := by decide +kernel
theorem d_B_start_29 : decode m_B_start.2.1 29 = .ok (.aload_n 0, 1) := by decide +kernel
theorem d_B_start_30 : decode m_B_start.2.1 30 = .ok (.invokevirtual 111, 3) := by decide +kernel
theorem d_B_start_33 : decode m_B_start.2.1 33 = .ok (.iconst 0, 1) := by decide +kernel
theorem d_B_start_34 : decode m_B_start.2.1 34 = .ok (.istore_n 1, 1) := by decide +kernel
theorem d_B_start_35 : decode m_B_start.2.1 35 = .ok (.iconst 0, 1) := by decide +kernel
theorem d_B_start_36 : decode m_B_start.2.1 36 = .ok (.istore_n 2, 1) := by decide +kernel
theorem d_B_start_37 : decode m_B_start.2.1 37 = .ok (.iload_n 2, 1) := by decide +kernel
theorem d_B_start_38 : decode m_B_start.2.1 38 = .ok (.aload_n 0, 1) := by decide +kernel
theorem d_B_start_39 : decode m_B_start.2.1 39 = .ok (.getfield 42, 3) := by decide +kernel
theorem d_B_start_42 : decode m_B_start.2.1 42 = .ok (.if_icmp .ge 60, 3) := by decide +kernel
theorem d_B_start_45 : decode m_B_start.2.1 45 = .ok (.aload_n 0, 1) := by decide +kernel
theorem d_B_start_46 : decode m_B_start.2.1 46 = .ok (.getfield 11, 3) := by decide +kernel
theorem d_B_start_49 : decode m_B_start.2.1 49 = .ok (.iload_n 2, 1) := by decide +kernel
theorem d_B_start_50 : decode m_B_start.2.1 50 = .ok (.aaload, 1) := by decide +kernel
theorem d_B_start_51 : decode m_B_start.2.1 51 = .ok (.invokevirtual 114, 3) := by decide +kernel
theorem d_B_start_54 : decode m_B_start.2.1 54 = .ok (.ifCond .eq 42, 3) := by decide +kernel
theorem d_B_start_57 : decode m_B_start.2.1 57 = .ok (.iinc 1 1, 3) := by decide +kernel
theorem d_B_start_60 : decode m_B_start.2.1 60 = .ok (.aload_n 0, 1) := by decide +kernel
theorem d_B_start_61 : decode m_B_start.2.1 61 = .ok (.getfield 11, 3) := by decide +kernel
theorem d_B_start_64 : decode m_B_start.2.1 64 = .ok (.iload_n 2, 1) := by decide +kernel
theorem d_B_start_65 : decode m_B_start.2.1 65 = .ok (.aaload, 1) := by decide +kernel
theorem d_B_start_66 : decode m_B_start.2.1 66 = .ok (.iconst 1, 1) := by decide +kernel
theorem d_B_start_67 : decode m_B_start.2.1 67 = .ok (.iload_n 2, 1) := by decide +kernel
theorem d_B_start_68 : decode m_B_start.2.1 68 = .ok (.ishl, 1) := by decide +kernel
theorem d_B_start_69 : decode m_B_start.2.1 69 = .ok (.putfield 118, 3) := by decide +kernel
theorem d_B_start_72 : decode m_B_start.2.1 72 = .ok (.aload_n 0, 1) := by decide +kernel
theorem d_B_start_73 : decode m_B_start.2.1 73 = .ok (.aload_n 0, 1) := by decide +kernel
theorem d_B_start_74 : decode m_B_start.2.1 74 = .ok (.getfield 11, 3) := by decide +kernel
theorem d_B_start_77 : decode m_B_start.2.1 77 = .ok (.iload_n 2, 1) := by decide +kernel
theorem d_B_start_78 : decode m_B_start.2.1 78 = .ok (.aaload, 1) := by decide +kernel
theorem d_B_start_79 : decode m_B_start.2.1 79 = .ok (.invokevirtual 121, 3) := by decide +kernel
theorem d_B_start_82 : decode m_B_start.2.1 82 = .ok (.ifCond .eq 14, 3) := by decide +kernel
theorem d_B_start_85 : decode m_B_start.2.1 85 = .ok (.aload_n 0, 1) := by decide +kernel
theorem d_B_start_86 : decode m_B_start.2.1 86 = .ok (.aload_n 0, 1) := by decide +kernel
theorem d_B_start_87 : decode m_B_start.2.1 87 = .ok (.getfield 11, 3) := by decide +kernel
theorem d_B_start_90 : decode m_B_start.2.1 90 = .ok (.iload_n 2, 1) := by decide +kernel
theorem d_B_start_91 : decode m_B_start.2.1 91 = .ok (.aaload, 1) := by decide +kernel
theorem d_B_start_92 : decode m_B_start.2.1 92 = .ok (.iconst 1, 1) := by decide +kernel
theorem d_B_start_93 : decode m_B_start.2.1 93 = .ok (.invokevirtual 125, 3) := by decide +kernel
theorem d_B_start_96 : decode m_B_start.2.1 96 = .ok (.iinc 2 1, 3) := by decide +kernel
theorem d_B_start_99 : decode m_B_start.2.1 99 = .ok (.goto (-62), 3) := by decide +kernel
theorem d_B_start_102 : decode m_B_start.2.1 102 = .ok (.iload_n 1, 1) := by decide +kernel
theorem d_B_start_103 : decode m_B_start.2.1 103 = .ok (.ireturn, 1) := by decide +kernel
theorem d_B_findParts_0 : decode m_B_findParts.2.1 0 = .ok (.iconst 0, 1) := by decide +kernel
theorem d_B_findParts_1 : decode m_B_findParts.2.1 1 = .ok (.istore_n 1, 1) := by decide +kernel
theorem d_B_findParts_2 : decode m_B_findParts.2.1 2 = .ok (.iload_n 1, 1) := by decide +kernel
theorem d_B_findParts_3 : decode m_B_findParts.2.1 3 = .ok (.aload_n 0, 1) := by decide +kernel
theorem d_B_findParts_4 : decode m_B_findParts.2.1 4 = .ok (.getfield 42, 3) := by decide +kernel
theorem d_B_findParts_7 : decode m_B_findParts.2.1 7 = .ok (.if_icmp .ge 49, 3) := by decide +kernel
theorem d_B_findParts_10 : decode m_B_findParts.2.1 10 = .ok (.aload_n 0, 1) := by decide +kernel
theorem d_B_findParts_11 : decode m_B_findParts.2.1 11 = .ok (.getfield 11, 3) := by decide +kernel
theorem d_B_findParts_14 : decode m_B_findParts.2.1 14 = .ok (.iload_n 1, 1) := by decide +kernel
theorem d_B_findParts_15 : decode m_B_findParts.2.1 15 = .ok (.aaload, 1) := by decide +kernel
theorem d_B_findParts_16 : decode m_B_findParts.2.1 16 = .ok (.getfield 212, 3) := by decide +kernel
theorem d_B_findParts_19 : decode m_B_findParts.2.1 19 = .ok (.ifnonnull 31, 3) := by decide +kernel
theorem d_B_findParts_22 : decode m_B_findParts.2.1 22 = .ok (.aload_n 0, 1) := by decide +kernel
theorem d_B_findParts_23 : decode m_B_findParts.2.1 23 = .ok (.iload_n 1, 1) := by decide +kernel
theorem d_B_findParts_24 : decode m_B_findParts.2.1 24 = .ok (.invokevirtual 254, 3) := by decide +kernel
theorem d_B_findParts_27 : decode m_B_findParts.2.1 27 = .ok (.istore_n 2, 1) := by decide +kernel
theorem d_B_findParts_28 : decode m_B_findParts.2.1 28 = .ok (.aload_n 0, 1) := by decide +kernel
theorem d_B_findParts_29 : decode m_B_findParts.2.1 29 = .ok (.iload_n 2, 1) := by decide +kernel
theorem d_B_findParts_30 : decode m_B_findParts.2.1 30 = .ok (.new 217, 3) := by decide +kernel
theorem d_B_findParts_33 : decode m_B_findParts.2.1 33 = .ok (.dup, 1) := by decide +kernel
theorem d_B_findParts_34 : decode m_B_findParts.2.1 34 = .ok (.aload_n 0, 1) := by decide +kernel
theorem d_B_findParts_35 : decode m_B_findParts.2.1 35 = .ok (.getfield 11, 3) := by decide +kernel
theorem d_B_findParts_38 : decode m_B_findParts.2.1 38 = .ok (.aload_n 0, 1) := by decide +kernel
theorem d_B_findParts_39 : decode m_B_findParts.2.1 39 = .ok (.iload_n 2, 1) := by decide +kernel
theorem d_B_findParts_40 : decode m_B_findParts.2.1 40 = .ok (.invokevirtual 257, 3) := by decide +kernel
theorem d_B_findParts_43 : decode m_B_findParts.2.1 43 = .ok (.aaload, 1) := by decide +kernel
theorem d_B_findParts_44 : decode m_B_findParts.2.1 44 = .ok (.invokespecial 260, 3) := by decide +kernel
theorem d_B_findParts_47 : decode m_B_findParts.2.1 47 = .ok (.invokevirtual 262, 3) := by decide +kernel
theorem d_B_findParts_50 : decode m_B_findParts.2.1 50 = .ok (.iinc 1 1, 3) := by decide +kernel
theorem d_B_findParts_53 : decode m_B_findParts.2.1 53 = .ok (.goto (-51), 3) := by decide +kernel
theorem d_B_findParts_56 : decode m_B_findParts.2.1 56 = .ok (.return_, 1) := by decide +kernel
theorem d_B_partOf_0 : decode m_B_partOf.2.1 0 = .ok (.iconst 1, 1) := by decide +kernel
theorem d_B_partOf_1 : decode m_B_partOf.2.1 1 = .ok (.iload_n 1, 1) := by decide +kernel
theorem d_B_partOf_2 : decode m_B_partOf.2.1 2 = .ok (.ishl, 1) := by decide +kernel
theorem d_B_partOf_3 : decode m_B_partOf.2.1 3 = .ok (.istore_n 2, 1) := by decide +kernel
theorem d_B_partOf_4 : decode m_B_partOf.2.1 4 = .ok (.iconst 0, 1) := by decide +kernel
theorem d_B_partOf_5 : decode m_B_partOf.2.1 5 = .ok (.istore_n 3, 1) := by decide +kernel
theorem d_B_partOf_6 : decode m_B_partOf.2.1 6 = .ok (.iload_n 3, 1) := by decide +kernel
theorem d_B_partOf_7 : decode m_B_partOf.2.1 7 = .ok (.aload_n 0, 1) := by decide +kernel
theorem d_B_partOf_8 : decode m_B_partOf.2.1 8 = .ok (.getfield 42, 3) := by decide +kernel
theorem d_B_partOf_11 : decode m_B_partOf.2.1 11 = .ok (.if_icmp .ge 49, 3) := by decide +kernel
theorem d_B_partOf_14 : decode m_B_partOf.2.1 14 = .ok (.iconst 0, 1) := by decide +kernel
theorem d_B_partOf_15 : decode m_B_partOf.2.1 15 = .ok (.istore 4, 2) := by decide +kernel
theorem d_B_partOf_17 : decode m_B_partOf.2.1 17 = .ok (.iload 4, 2) := by decide +kernel
theorem d_B_partOf_19 : decode m_B_partOf.2.1 19 = .ok (.aload_n 0, 1) := by decide +kernel
theorem d_B_partOf_20 : decode m_B_partOf.2.1 20 = .ok (.getfield 42, 3) := by decide +kernel
theorem d_B_partOf_23 : decode m_B_partOf.2.1 23 = .ok (.if_icmp .ge 31, 3) := by decide +kernel
theorem d_B_partOf_26 : decode m_B_partOf.2.1 26 = .ok (.iload_n 2, 1) := by decide +kernel
theorem d_B_partOf_27 : decode m_B_partOf.2.1 27 = .ok (.iload 4, 2) := by decide +kernel
theorem d_B_partOf_29 : decode m_B_partOf.2.1 29 = .ok (.invokestatic 227, 3) := by decide +kernel
theorem d_B_partOf_32 : decode m_B_partOf.2.1 32 = .ok (.ifCond .eq 16, 3) := by decide +kernel
theorem d_B_partOf_35 : decode m_B_partOf.2.1 35 = .ok (.iload_n 2, 1) := by decide +kernel
theorem d_B_partOf_36 : decode m_B_partOf.2.1 36 = .ok (.aload_n 0, 1) := by decide +kernel
theorem d_B_partOf_37 : decode m_B_partOf.2.1 37 = .ok (.getfield 11, 3) := by decide +kernel
theorem d_B_partOf_40 : decode m_B_partOf.2.1 40 = .ok (.iload 4, 2) := by decide +kernel
theorem d_B_partOf_42 : decode m_B_partOf.2.1 42 = .ok (.aaload, 1) := by decide +kernel
theorem d_B_partOf_43 : decode m_B_partOf.2.1 43 = .ok (.getfield 93, 3) := by decide +kernel
theorem d_B_partOf_46 : decode m_B_partOf.2.1 46 = .ok (.ior, 1) := by decide +kernel
theorem d_B_partOf_47 : decode m_B_partOf.2.1 47 = .ok (.istore_n 2, 1) := by decide +kernel
theorem d_B_partOf_48 : decode m_B_partOf.2.1 48 = .ok (.iinc 4 1, 3) := by decide +kernel
theorem d_B_partOf_51 : decode m_B_partOf.2.1 51 = .ok (.goto (-34), 3) := by decide +kernel
theorem d_B_partOf_54 : decode m_B_partOf.2.1 54 = .ok (.iinc 3 1, 3) := by decide +kernel
theorem d_B_partOf_57 : decode m_B_partOf.2.1 57 = .ok (.goto (-51), 3) := by decide +kernel
theorem d_B_partOf_60 : decode m_B_partOf.2.1 60 = .ok (.iload_n 2, 1) := by decide +kernel
theorem d_B_partOf_61 : decode m_B_partOf.2.1 61 = .ok (.ireturn, 1) := by decide +kernel
theorem d_B_contains_0 : decode m_B_contains.2.1 0 = .ok (.iload_n 0, 1) := by decide +kernel
theorem d_B_contains_1 : decode m_B_contains.2.1 1 = .ok (.iload_n 1, 1) := by decide +kernel
theorem d_B_contains_2 : decode m_B_contains.2.1 2 = .ok (.ishr, 1) := by decide +kernel
theorem d_B_contains_3 : decode m_B_contains.2.1 3 = .ok (.iconst 1, 1) := by decide +kernel
theorem d_B_contains_4 : decode m_B_contains.2.1 4 = .ok (.iand, 1) := by decide +kernel
theorem d_B_contains_5 : decode m_B_contains.2.1 5 = .ok (.iconst 1, 1) := by decide +kernel
theorem d_B_contains_6 : decode m_B_contains.2.1 6 = .ok (.if_icmp .ne 7, 3) := by decide +kernel
theorem d_B_contains_9 : decode m_B_contains.2.1 9 = .ok (.iconst 1, 1) := by decide +kernel
theorem d_B_contains_10 : decode m_B_contains.2.1 10 = .ok (.goto 4, 3) := by decide +kernel
theorem d_B_contains_13 : decode m_B_contains.2.1 13 = .ok (.iconst 0, 1) := by decide +kernel
theorem d_B_contains_14 : decode m_B_contains.2.1 14 = .ok (.ireturn, 1) := by decide +kernel
end
section
/-! DECODED: written by wip/whole/gen/dec.py -/
theorem d_B_mostJoined_0 : decode m_B_mostJoined.2.1 0 = .ok (.iconst (-1), 1) := by decide +kernel
theorem d_B_mostJoined_1 : decode m_B_mostJoined.2.1 1 = .ok (.istore_n 2, 1) := by decide +kernel
theorem d_B_mostJoined_2 : decode m_B_mostJoined.2.1 2 = .ok (.iconst (-1), 1) := by decide +kernel
theorem d_B_mostJoined_3 : decode m_B_mostJoined.2.1 3 = .ok (.istore_n 3, 1) := by decide +kernel
theorem d_B_mostJoined_4 : decode m_B_mostJoined.2.1 4 = .ok (.iconst 0, 1) := by decide +kernel
theorem d_B_mostJoined_5 : decode m_B_mostJoined.2.1 5 = .ok (.istore 4, 2) := by decide +kernel
theorem d_B_mostJoined_7 : decode m_B_mostJoined.2.1 7 = .ok (.iload 4, 2) := by decide +kernel
theorem d_B_mostJoined_9 : decode m_B_mostJoined.2.1 9 = .ok (.aload_n 0, 1) := by decide +kernel
theorem d_B_mostJoined_10 : decode m_B_mostJoined.2.1 10 = .ok (.getfield 42, 3) := by decide +kernel
theorem d_B_mostJoined_13 : decode m_B_mostJoined.2.1 13 = .ok (.if_icmp .ge 45, 3) := by decide +kernel
theorem d_B_mostJoined_16 : decode m_B_mostJoined.2.1 16 = .ok (.aload_n 0, 1) := by decide +kernel
theorem d_B_mostJoined_17 : decode m_B_mostJoined.2.1 17 = .ok (.getfield 11, 3) := by decide +kernel
theorem d_B_mostJoined_20 : decode m_B_mostJoined.2.1 20 = .ok (.iload 4, 2) := by decide +kernel
theorem d_B_mostJoined_22 : decode m_B_mostJoined.2.1 22 = .ok (.aaload, 1) := by decide +kernel
theorem d_B_mostJoined_23 : decode m_B_mostJoined.2.1 23 = .ok (.getfield 93, 3) := by decide +kernel
theorem d_B_mostJoined_26 : decode m_B_mostJoined.2.1 26 = .ok (.invokestatic 266, 3) := by decide +kernel
theorem d_B_mostJoined_29 : decode m_B_mostJoined.2.1 29 = .ok (.istore 5, 2) := by decide +kernel
theorem d_B_mostJoined_31 : decode m_B_mostJoined.2.1 31 = .ok (.iload_n 1, 1) := by decide +kernel
theorem d_B_mostJoined_32 : decode m_B_mostJoined.2.1 32 = .ok (.iload 4, 2) := by decide +kernel
theorem d_B_mostJoined_34 : decode m_B_mostJoined.2.1 34 = .ok (.invokestatic 227, 3) := by decide +kernel
theorem d_B_mostJoined_37 : decode m_B_mostJoined.2.1 37 = .ok (.ifCond .eq 15, 3) := by decide +kernel
theorem d_B_mostJoined_40 : decode m_B_mostJoined.2.1 40 = .ok (.iload 5, 2) := by decide +kernel
theorem d_B_mostJoined_42 : decode m_B_mostJoined.2.1 42 = .ok (.iload_n 3, 1) := by decide +kernel
theorem d_B_mostJoined_43 : decode m_B_mostJoined.2.1 43 = .ok (.if_icmp .le 9, 3) := by decide +kernel
theorem d_B_mostJoined_46 : decode m_B_mostJoined.2.1 46 = .ok (.iload 4, 2) := by decide +kernel
theorem d_B_mostJoined_48 : decode m_B_mostJoined.2.1 48 = .ok (.istore_n 2, 1) := by decide +kernel
theorem d_B_mostJoined_49 : decode m_B_mostJoined.2.1 49 = .ok (.iload 5, 2) := by decide +kernel
theorem d_B_mostJoined_51 : decode m_B_mostJoined.2.1 51 = .ok (.istore_n 3, 1) := by decide +kernel
theorem d_B_mostJoined_52 : decode m_B_mostJoined.2.1 52 = .ok (.iinc 4 1, 3) := by decide +kernel
theorem d_B_mostJoined_55 : decode m_B_mostJoined.2.1 55 = .ok (.goto (-48), 3) := by decide +kernel
theorem d_B_mostJoined_58 : decode m_B_mostJoined.2.1 58 = .ok (.iload_n 2, 1) := by decide +kernel
theorem d_B_mostJoined_59 : decode m_B_mostJoined.2.1 59 = .ok (.ireturn, 1) := by decide +kernel
theorem d_J_bitCount_0 : decode m_J_bitCount.2.1 0 = .ok (.iload_n 0, 1) := by decide +kernel
theorem d_J_bitCount_1 : decode m_J_bitCount.2.1 1 = .ok (.iload_n 0, 1) := by decide +kernel
theorem d_J_bitCount_2 : decode m_J_bitCount.2.1 2 = .ok (.iconst 1, 1) := by decide +kernel
theorem d_J_bitCount_3 : decode m_J_bitCount.2.1 3 = .ok (.iushr, 1) := by decide +kernel
theorem d_J_bitCount_4 : decode m_J_bitCount.2.1 4 = .ok (.ldc_w 265, 3) := by decide +kernel
theorem d_J_bitCount_7 : decode m_J_bitCount.2.1 7 = .ok (.iand, 1) := by decide +kernel
theorem d_J_bitCount_8 : decode m_J_bitCount.2.1 8 = .ok (.isub, 1) := by decide +kernel
theorem d_J_bitCount_9 : decode m_J_bitCount.2.1 9 = .ok (.istore_n 0, 1) := by decide +kernel
theorem d_J_bitCount_10 : decode m_J_bitCount.2.1 10 = .ok (.iload_n 0, 1) := by decide +kernel
theorem d_J_bitCount_11 : decode m_J_bitCount.2.1 11 = .ok (.ldc_w 266, 3) := by decide +kernel
theorem d_J_bitCount_14 : decode m_J_bitCount.2.1 14 = .ok (.iand, 1) := by decide +kernel
theorem d_J_bitCount_15 : decode m_J_bitCount.2.1 15 = .ok (.iload_n 0, 1) := by decide +kernel
theorem d_J_bitCount_16 : decode m_J_bitCount.2.1 16 = .ok (.iconst 2, 1) := by decide +kernel
theorem d_J_bitCount_17 : decode m_J_bitCount.2.1 17 = .ok (.iushr, 1) := by decide +kernel
theorem d_J_bitCount_18 : decode m_J_bitCount.2.1 18 = .ok (.ldc_w 266, 3) := by decide +kernel
theorem d_J_bitCount_21 : decode m_J_bitCount.2.1 21 = .ok (.iand, 1) := by decide +kernel
theorem d_J_bitCount_22 : decode m_J_bitCount.2.1 22 = .ok (.iadd, 1) := by decide +kernel
theorem d_J_bitCount_23 : decode m_J_bitCount.2.1 23 = .ok (.istore_n 0, 1) := by decide +kernel
theorem d_J_bitCount_24 : decode m_J_bitCount.2.1 24 = .ok (.iload_n 0, 1) := by decide +kernel
theorem d_J_bitCount_25 : decode m_J_bitCount.2.1 25 = .ok (.iload_n 0, 1) := by decide +kernel
theorem d_J_bitCount_26 : decode m_J_bitCount.2.1 26 = .ok (.iconst 4, 1) := by decide +kernel
theorem d_J_bitCount_27 : decode m_J_bitCount.2.1 27 = .ok (.iushr, 1) := by decide +kernel
theorem d_J_bitCount_28 : decode m_J_bitCount.2.1 28 = .ok (.iadd, 1) := by decide +kernel
theorem d_J_bitCount_29 : decode m_J_bitCount.2.1 29 = .ok (.ldc_w 267, 3) := by decide +kernel
theorem d_J_bitCount_32 : decode m_J_bitCount.2.1 32 = .ok (.iand, 1) := by decide +kernel
theorem d_J_bitCount_33 : decode m_J_bitCount.2.1 33 = .ok (.istore_n 0, 1) := by decide +kernel
theorem d_J_bitCount_34 : decode m_J_bitCount.2.1 34 = .ok (.iload_n 0, 1) := by decide +kernel
theorem d_J_bitCount_35 : decode m_J_bitCount.2.1 35 = .ok (.iload_n 0, 1) := by decide +kernel
theorem d_J_bitCount_36 : decode m_J_bitCount.2.1 36 = .ok (.bipush 8, 2) := by decide +kernel
theorem d_J_bitCount_38 : decode m_J_bitCount.2.1 38 = .ok (.iushr, 1) := by decide +kernel
theorem d_J_bitCount_39 : decode m_J_bitCount.2.1 39 = .ok (.iadd, 1) := by decide +kernel
theorem d_J_bitCount_40 : decode m_J_bitCount.2.1 40 = .ok (.istore_n 0, 1) := by decide +kernel
theorem d_J_bitCount_41 : decode m_J_bitCount.2.1 41 = .ok (.iload_n 0, 1) := by decide +kernel
theorem d_J_bitCount_42 : decode m_J_bitCount.2.1 42 = .ok (.iload_n 0, 1) := by decide +kernel
theorem d_J_bitCount_43 : decode m_J_bitCount.2.1 43 = .ok (.bipush 16, 2) := by decide +kernel
theorem d_J_bitCount_45 : decode m_J_bitCount.2.1 45 = .ok (.iushr, 1) := by decide +kernel
theorem d_J_bitCount_46 : decode m_J_bitCount.2.1 46 = .ok (.iadd, 1) := by decide +kernel
theorem d_J_bitCount_47 : decode m_J_bitCount.2.1 47 = .ok (.istore_n 0, 1) := by decide +kernel
theorem d_J_bitCount_48 : decode m_J_bitCount.2.1 48 = .ok (.iload_n 0, 1) := by decide +kernel
theorem d_J_bitCount_49 : decode m_J_bitCount.2.1 49 = .ok (.bipush 63, 2) := by decide +kernel
theorem d_J_bitCount_51 : decode m_J_bitCount.2.1 51 = .ok (.iand, 1) := by decide +kernel
theorem d_J_bitCount_52 : decode m_J_bitCount.2.1 52 = .ok (.ireturn, 1) := by decide +kernel
theorem d_P_init_0 : decode m_P_init.2.1 0 = .ok (.aload_n 0, 1) := by decide +kernel
theorem d_P_init_1 : decode m_P_init.2.1 1 = .ok (.invokespecial 3, 3) := by decide +kernel
theorem d_P_init_4 : decode m_P_init.2.1 4 = .ok (.aload_n 0, 1) := by decide +kernel
theorem d_P_init_5 : decode m_P_init.2.1 5 = .ok (.iconst 1, 1) := by decide +kernel
theorem d_P_init_6 : decode m_P_init.2.1 6 = .ok (.putfield 9, 3) := by decide +kernel
theorem d_P_init_9 : decode m_P_init.2.1 9 = .ok (.aload_n 0, 1) := by decide +kernel
theorem d_P_init_10 : decode m_P_init.2.1 10 = .ok (.aload_n 1, 1) := by decide +kernel
theorem d_P_init_11 : decode m_P_init.2.1 11 = .ok (.putfield 15, 3) := by decide +kernel
theorem d_P_init_14 : decode m_P_init.2.1 14 = .ok (.return_, 1) := by decide +kernel
theorem d_B_join_0 : decode m_B_join.2.1 0 = .ok (.iconst 0, 1) := by decide +kernel
theorem d_B_join_1 : decode m_B_join.2.1 1 = .ok (.istore_n 3, 1) := by decide +kernel
theorem d_B_join_2 : decode m_B_join.2.1 2 = .ok (.iload_n 3, 1) := by decide +kernel
theorem d_B_join_3 : decode m_B_join.2.1 3 = .ok (.aload_n 0, 1) := by decide +kernel
theorem d_B_join_4 : decode m_B_join.2.1 4 = .ok (.getfield 42, 3) := by decide +kernel
theorem d_B_join_7 : decode m_B_join.2.1 7 = .ok (.if_icmp .ge 27, 3) := by decide +kernel
theorem d_B_join_10 : decode m_B_join.2.1 10 = .ok (.iload_n 1, 1) := by decide +kernel
theorem d_B_join_11 : decode m_B_join.2.1 11 = .ok (.iload_n 3, 1) := by decide +kernel
theorem d_B_join_12 : decode m_B_join.2.1 12 = .ok (.invokestatic 227, 3) := by decide +kernel
theorem d_B_join_15 : decode m_B_join.2.1 15 = .ok (.ifCond .eq 13, 3) := by decide +kernel
theorem d_B_join_18 : decode m_B_join.2.1 18 = .ok (.aload_n 0, 1) := by decide +kernel
theorem d_B_join_19 : decode m_B_join.2.1 19 = .ok (.getfield 11, 3) := by decide +kernel
theorem d_B_join_22 : decode m_B_join.2.1 22 = .ok (.iload_n 3, 1) := by decide +kernel
theorem d_B_join_23 : decode m_B_join.2.1 23 = .ok (.aaload, 1) := by decide +kernel
theorem d_B_join_24 : decode m_B_join.2.1 24 = .ok (.aload_n 2, 1) := by decide +kernel
theorem d_B_join_25 : decode m_B_join.2.1 25 = .ok (.putfield 212, 3) := by decide +kernel
theorem d_B_join_28 : decode m_B_join.2.1 28 = .ok (.iinc 3 1, 3) := by decide +kernel
theorem d_B_join_31 : decode m_B_join.2.1 31 = .ok (.goto (-29), 3) := by decide +kernel
theorem d_B_join_34 : decode m_B_join.2.1 34 = .ok (.return_, 1) := by decide +kernel
theorem d_B_hold_0 : decode m_B_hold.2.1 0 = .ok (.aload_n 0, 1) := by decide +kernel
theorem d_B_hold_1 : decode m_B_hold.2.1 1 = .ok (.aload_n 1, 1) := by decide +kernel
theorem d_B_hold_2 : decode m_B_hold.2.1 2 = .ok (.getfield 93, 3) := by decide +kernel
theorem d_B_hold_5 : decode m_B_hold.2.1 5 = .ok (.aload_n 1, 1) := by decide +kernel
theorem d_B_hold_6 : decode m_B_hold.2.1 6 = .ok (.getfield 118, 3) := by decide +kernel
theorem d_B_hold_9 : decode m_B_hold.2.1 9 = .ok (.iconst (-1), 1) := by decide +kernel
theorem d_B_hold_10 : decode m_B_hold.2.1 10 = .ok (.ixor, 1) := by decide +kernel
theorem d_B_hold_11 : decode m_B_hold.2.1 11 = .ok (.iand, 1) := by decide +kernel
theorem d_B_hold_12 : decode m_B_hold.2.1 12 = .ok (.invokevirtual 257, 3) := by decide +kernel
theorem d_B_hold_15 : decode m_B_hold.2.1 15 = .ok (.istore_n 2, 1) := by decide +kernel
theorem d_B_hold_16 : decode m_B_hold.2.1 16 = .ok (.iload_n 2, 1) := by decide +kernel
theorem d_B_hold_17 : decode m_B_hold.2.1 17 = .ok (.iconst (-1), 1) := by decide +kernel
theorem d_B_hold_18 : decode m_B_hold.2.1 18 = .ok (.if_icmp .eq 32, 3) := by decide +kernel
theorem d_B_hold_21 : decode m_B_hold.2.1 21 = .ok (.aload_n 1, 1) := by decide +kernel
theorem d_B_hold_22 : decode m_B_hold.2.1 22 = .ok (.aload_n 0, 1) := by decide +kernel
theorem d_B_hold_23 : decode m_B_hold.2.1 23 = .ok (.getfield 11, 3) := by decide +kernel
theorem d_B_hold_26 : decode m_B_hold.2.1 26 = .ok (.iload_n 2, 1) := by decide +kernel
theorem d_B_hold_27 : decode m_B_hold.2.1 27 = .ok (.aaload, 1) := by decide +kernel
theorem d_B_hold_28 : decode m_B_hold.2.1 28 = .ok (.invokevirtual 311, 3) := by decide +kernel
theorem d_B_hold_31 : decode m_B_hold.2.1 31 = .ok (.aload_n 1, 1) := by decide +kernel
theorem d_B_hold_32 : decode m_B_hold.2.1 32 = .ok (.iload_n 2, 1) := by decide +kernel
theorem d_B_hold_33 : decode m_B_hold.2.1 33 = .ok (.putfield 297, 3) := by decide +kernel
theorem d_B_hold_36 : decode m_B_hold.2.1 36 = .ok (.aload_n 1, 1) := by decide +kernel
theorem d_B_hold_37 : decode m_B_hold.2.1 37 = .ok (.getstatic 180, 3) := by decide +kernel
theorem d_B_hold_40 : decode m_B_hold.2.1 40 = .ok (.putfield 176, 3) := by decide +kernel
theorem d_B_hold_43 : decode m_B_hold.2.1 43 = .ok (.aload_n 0, 1) := by decide +kernel
theorem d_B_hold_44 : decode m_B_hold.2.1 44 = .ok (.aload_n 1, 1) := by decide +kernel
theorem d_B_hold_45 : decode m_B_hold.2.1 45 = .ok (.invokevirtual 185, 3) := by decide +kernel
theorem d_B_hold_48 : decode m_B_hold.2.1 48 = .ok (.iconst 0, 1) := by decide +kernel
theorem d_B_hold_49 : decode m_B_hold.2.1 49 = .ok (.ireturn, 1) := by decide +kernel
theorem d_B_hold_50 : decode m_B_hold.2.1 50 = .ok (.aload_n 1, 1) := by decide +kernel
theorem d_B_hold_51 : decode m_B_hold.2.1 51 = .ok (.getstatic 189, 3) := by decide +kernel
theorem d_B_hold_54 : decode m_B_hold.2.1 54 = .ok (.putfield 176, 3) := by decide +kernel
theorem d_B_hold_57 : decode m_B_hold.2.1 57 = .ok (.aload_n 1, 1) := by decide +kernel
theorem d_B_hold_58 : decode m_B_hold.2.1 58 = .ok (.invokevirtual 314, 3) := by decide +kernel
theorem d_B_hold_61 : decode m_B_hold.2.1 61 = .ok (.aload_n 0, 1) := by decide +kernel
theorem d_B_hold_62 : decode m_B_hold.2.1 62 = .ok (.aload_n 1, 1) := by decide +kernel
theorem d_B_hold_63 : decode m_B_hold.2.1 63 = .ok (.invokevirtual 192, 3) := by decide +kernel
theorem d_B_hold_66 : decode m_B_hold.2.1 66 = .ok (.aload_n 1, 1) := by decide +kernel
theorem d_B_hold_67 : decode m_B_hold.2.1 67 = .ok (.invokevirtual 308, 3) := by decide +kernel
theorem d_B_hold_70 : decode m_B_hold.2.1 70 = .ok (.ireturn, 1) := by decide +kernel
theorem d_A_addChild_0 : decode m_A_addChild.2.1 0 = .ok (.aload_n 0, 1) := by decide +kernel
theorem d_A_addChild_1 : decode m_A_addChild.2.1 1 = .ok (.getfield 62, 3) := by decide +kernel
theorem d_A_addChild_4 : decode m_A_addChild.2.1 4 = .ok (.aload_n 0, 1) := by decide +kernel
theorem d_A_addChild_5 : decode m_A_addChild.2.1 5 = .ok (.getfield 17, 3) := by decide +kernel
theorem d_A_addChild_8 : decode m_A_addChild.2.1 8 = .ok (.arraylength, 1) := by decide +kernel
theorem d_A_addChild_9 : decode m_A_addChild.2.1 9 = .ok (.if_icmp .ge 30, 3) := by decide +kernel
theorem d_A_addChild_12 : decode m_A_addChild.2.1 12 = .ok (.aload_n 0, 1) := by decide +kernel
theorem d_A_addChild_13 : decode m_A_addChild.2.1 13 = .ok (.getfield 17, 3) := by decide +kernel
theorem d_A_addChild_16 : decode m_A_addChild.2.1 16 = .ok (.aload_n 0, 1) := by decide +kernel
theorem d_A_addChild_17 : decode m_A_addChild.2.1 17 = .ok (.getfield 62, 3) := by decide +kernel
theorem d_A_addChild_20 : decode m_A_addChild.2.1 20 = .ok (.new 15, 3) := by decide +kernel
theorem d_A_addChild_23 : decode m_A_addChild.2.1 23 = .ok (.dup, 1) := by decide +kernel
theorem d_A_addChild_24 : decode m_A_addChild.2.1 24 = .ok (.aload_n 1, 1) := by decide +kernel
theorem d_A_addChild_25 : decode m_A_addChild.2.1 25 = .ok (.invokespecial 65, 3) := by decide +kernel
theorem d_A_addChild_28 : decode m_A_addChild.2.1 28 = .ok (.aastore, 1) := by decide +kernel
theorem d_A_addChild_29 : decode m_A_addChild.2.1 29 = .ok (.aload_n 0, 1) := by decide +kernel
theorem d_A_addChild_30 : decode m_A_addChild.2.1 30 = .ok (.dup, 1) := by decide +kernel
theorem d_A_addChild_31 : decode m_A_addChild.2.1 31 = .ok (.getfield 62, 3) := by decide +kernel
theorem d_A_addChild_34 : decode m_A_addChild.2.1 34 = .ok (.iconst 1, 1) := by decide +kernel
theorem d_A_addChild_35 : decode m_A_addChild.2.1 35 = .ok (.iadd, 1) := by decide +kernel
theorem d_A_addChild_36 : decode m_A_addChild.2.1 36 = .ok (.putfield 62, 3) := by decide +kernel
theorem d_A_addChild_39 : decode m_A_addChild.2.1 39 = .ok (.return_, 1) := by decide +kernel
theorem d_C_init_0 : decode m_C_init.2.1 0 = .ok (.aload_n 0, 1) := by decide +kernel
theorem d_C_init_1 : decode m_C_init.2.1 1 = .ok (.invokespecial 1, 3) := by decide +kernel
theorem d_C_init_4 : decode m_C_init.2.1 4 = .ok (.aload_n 0, 1) := by decide +kernel
theorem d_C_init_5 : decode m_C_init.2.1 5 = .ok (.aload_n 1, 1) := by decide +kernel
theorem d_C_init_6 : decode m_C_init.2.1 6 = .ok (.putfield 7, 3) := by decide +kernel
theorem d_C_init_9 : decode m_C_init.2.1 9 = .ok (.return_, 1) := by decide +kernel
theorem d_B_sendToken_0 : decode m_B_sendToken.2.1 0 = .ok (.aload_n 0, 1) := by decide +kernel
theorem d_B_sendToken_1 : decode m_B_sendToken.2.1 1 = .ok (.new 21, 3) := by decide +kernel
theorem d_B_sendToken_4 : decode m_B_sendToken.2.1 4 = .ok (.dup, 1) := by decide +kernel
theorem d_B_sendToken_5 : decode m_B_sendToken.2.1 5 = .ok (.iconst 0, 1) := by decide +kernel
theorem d_B_sendToken_6 : decode m_B_sendToken.2.1 6 = .ok (.aload_n 1, 1) := by decide +kernel
theorem d_B_sendToken_7 : decode m_B_sendToken.2.1 7 = .ok (.getfield 294, 3) := by decide +kernel
theorem d_B_sendToken_10 : decode m_B_sendToken.2.1 10 = .ok (.aload_n 1, 1) := by decide +kernel
theorem d_B_sendToken_11 : decode m_B_sendToken.2.1 11 = .ok (.getfield 297, 3) := by decide +kernel
theorem d_B_sendToken_14 : decode m_B_sendToken.2.1 14 = .ok (.aload_n 1, 1) := by decide +kernel
theorem d_B_sendToken_15 : decode m_B_sendToken.2.1 15 = .ok (.getfield 118, 3) := by decide +kernel
theorem d_B_sendToken_18 : decode m_B_sendToken.2.1 18 = .ok (.aconst_null, 1) := by decide +kernel
theorem d_B_sendToken_19 : decode m_B_sendToken.2.1 19 = .ok (.invokespecial 376, 3) := by decide +kernel
theorem d_B_sendToken_22 : decode m_B_sendToken.2.1 22 = .ok (.invokevirtual 379, 3) := by decide +kernel
theorem d_B_sendToken_25 : decode m_B_sendToken.2.1 25 = .ok (.return_, 1) := by decide +kernel
theorem d_L_init_0 : decode m_L_init.2.1 0 = .ok (.aload_n 0, 1) := by decide +kernel
theorem d_L_init_1 : decode m_L_init.2.1 1 = .ok (.invokespecial 3, 3) := by decide +kernel
theorem d_L_init_4 : decode m_L_init.2.1 4 = .ok (.aload_n 0, 1) := by decide +kernel
theorem d_L_init_5 : decode m_L_init.2.1 5 = .ok (.iload_n 1, 1) := by decide +kernel
theorem d_L_init_6 : decode m_L_init.2.1 6 = .ok (.putfield 9, 3) := by decide +kernel
theorem d_L_init_9 : decode m_L_init.2.1 9 = .ok (.aload_n 0, 1) := by decide +kernel
theorem d_L_init_10 : decode m_L_init.2.1 10 = .ok (.iload_n 2, 1) := by decide +kernel
theorem d_L_init_11 : decode m_L_init.2.1 11 = .ok (.putfield 15, 3) := by decide +kernel
theorem d_L_init_14 : decode m_L_init.2.1 14 = .ok (.aload_n 0, 1) := by decide +kernel
theorem d_L_init_15 : decode m_L_init.2.1 15 = .ok (.iload_n 3, 1) := by decide +kernel
theorem d_L_init_16 : decode m_L_init.2.1 16 = .ok (.putfield 18, 3) := by decide +kernel
theorem d_L_init_19 : decode m_L_init.2.1 19 = .ok (.aload_n 0, 1) := by decide +kernel
theorem d_L_init_20 : decode m_L_init.2.1 20 = .ok (.iload 4, 2) := by decide +kernel
theorem d_L_init_22 : decode m_L_init.2.1 22 = .ok (.putfield 21, 3) := by decide +kernel
theorem d_L_init_25 : decode m_L_init.2.1 25 = .ok (.aload_n 0, 1) := by decide +kernel
theorem d_L_init_26 : decode m_L_init.2.1 26 = .ok (.aload 5, 2) := by decide +kernel
theorem d_L_init_28 : decode m_L_init.2.1 28 = .ok (.putfield 24, 3) := by decide +kernel
theorem d_L_init_31 : decode m_L_init.2.1 31 = .ok (.return_, 1) := by decide +kernel
theorem d_B_send_0 : decode m_B_send.2.1 0 = .ok (.aload_n 0, 1) := by decide +kernel
theorem d_B_send_1 : decode m_B_send.2.1 1 = .ok (.getfield 139, 3) := by decide +kernel
theorem d_B_send_4 : decode m_B_send.2.1 4 = .ok (.bipush 20, 2) := by decide +kernel
theorem d_B_send_6 : decode m_B_send.2.1 6 = .ok (.if_icmp .ge 23, 3) := by decide +kernel
theorem d_B_send_9 : decode m_B_send.2.1 9 = .ok (.aload_n 0, 1) := by decide +kernel
theorem d_B_send_10 : decode m_B_send.2.1 10 = .ok (.getfield 23, 3) := by decide +kernel
theorem d_B_send_13 : decode m_B_send.2.1 13 = .ok (.aload_n 0, 1) := by decide +kernel
theorem d_B_send_14 : decode m_B_send.2.1 14 = .ok (.getfield 139, 3) := by decide +kernel
theorem d_B_send_17 : decode m_B_send.2.1 17 = .ok (.aload_n 1, 1) := by decide +kernel
theorem d_B_send_18 : decode m_B_send.2.1 18 = .ok (.aastore, 1) := by decide +kernel
theorem d_B_send_19 : decode m_B_send.2.1 19 = .ok (.aload_n 0, 1) := by decide +kernel
theorem d_B_send_20 : decode m_B_send.2.1 20 = .ok (.dup, 1) := by decide +kernel
theorem d_B_send_21 : decode m_B_send.2.1 21 = .ok (.getfield 139, 3) := by decide +kernel
theorem d_B_send_24 : decode m_B_send.2.1 24 = .ok (.iconst 1, 1) := by decide +kernel
theorem d_B_send_25 : decode m_B_send.2.1 25 = .ok (.iadd, 1) := by decide +kernel
theorem d_B_send_26 : decode m_B_send.2.1 26 = .ok (.putfield 139, 3) := by decide +kernel
theorem d_B_send_29 : decode m_B_send.2.1 29 = .ok (.return_, 1) := by decide +kernel
theorem d_A_findSeparator_0 : decode m_A_findSeparator.2.1 0 = .ok (.aload_n 0, 1) := by decide +kernel
theorem d_A_findSeparator_1 : decode m_A_findSeparator.2.1 1 = .ok (.aload_n 0, 1) := by decide +kernel
theorem d_A_findSeparator_2 : decode m_A_findSeparator.2.1 2 = .ok (.getfield 74, 3) := by decide +kernel
theorem d_A_findSeparator_5 : decode m_A_findSeparator.2.1 5 = .ok (.putfield 77, 3) := by decide +kernel
theorem d_A_findSeparator_8 : decode m_A_findSeparator.2.1 8 = .ok (.iconst 0, 1) := by decide +kernel
theorem d_A_findSeparator_9 : decode m_A_findSeparator.2.1 9 = .ok (.istore_n 1, 1) := by decide +kernel
theorem d_A_findSeparator_10 : decode m_A_findSeparator.2.1 10 = .ok (.iload_n 1, 1) := by decide +kernel
theorem d_A_findSeparator_11 : decode m_A_findSeparator.2.1 11 = .ok (.aload_n 0, 1) := by decide +kernel
theorem d_A_findSeparator_12 : decode m_A_findSeparator.2.1 12 = .ok (.getfield 62, 3) := by decide +kernel
theorem d_A_findSeparator_15 : decode m_A_findSeparator.2.1 15 = .ok (.if_icmp .ge 30, 3) := by decide +kernel
theorem d_A_findSeparator_18 : decode m_A_findSeparator.2.1 18 = .ok (.aload_n 0, 1) := by decide +kernel
theorem d_A_findSeparator_19 : decode m_A_findSeparator.2.1 19 = .ok (.dup, 1) := by decide +kernel
theorem d_A_findSeparator_20 : decode m_A_findSeparator.2.1 20 = .ok (.getfield 77, 3) := by decide +kernel
theorem d_A_findSeparator_23 : decode m_A_findSeparator.2.1 23 = .ok (.aload_n 0, 1) := by decide +kernel
theorem d_A_findSeparator_24 : decode m_A_findSeparator.2.1 24 = .ok (.getfield 17, 3) := by decide +kernel
theorem d_A_findSeparator_27 : decode m_A_findSeparator.2.1 27 = .ok (.iload_n 1, 1) := by decide +kernel
theorem d_A_findSeparator_28 : decode m_A_findSeparator.2.1 28 = .ok (.aaload, 1) := by decide +kernel
theorem d_A_findSeparator_29 : decode m_A_findSeparator.2.1 29 = .ok (.getfield 68, 3) := by decide +kernel
theorem d_A_findSeparator_32 : decode m_A_findSeparator.2.1 32 = .ok (.getfield 77, 3) := by decide +kernel
theorem d_A_findSeparator_35 : decode m_A_findSeparator.2.1 35 = .ok (.ior, 1) := by decide +kernel
theorem d_A_findSeparator_36 : decode m_A_findSeparator.2.1 36 = .ok (.putfield 77, 3) := by decide +kernel
theorem d_A_findSeparator_39 : decode m_A_findSeparator.2.1 39 = .ok (.iinc 1 1, 3) := by decide +kernel
theorem d_A_findSeparator_42 : decode m_A_findSeparator.2.1 42 = .ok (.goto (-32), 3) := by decide +kernel
theorem d_A_findSeparator_45 : decode m_A_findSeparator.2.1 45 = .ok (.aload_n 0, 1) := by decide +kernel
theorem d_A_findSeparator_46 : decode m_A_findSeparator.2.1 46 = .ok (.dup, 1) := by decide +kernel
theorem d_A_findSeparator_47 : decode m_A_findSeparator.2.1 47 = .ok (.getfield 77, 3) := by decide +kernel
theorem d_A_findSeparator_50 : decode m_A_findSeparator.2.1 50 = .ok (.iconst 1, 1) := by decide +kernel
theorem d_A_findSeparator_51 : decode m_A_findSeparator.2.1 51 = .ok (.aload_n 0, 1) := by decide +kernel
theorem d_A_findSeparator_52 : decode m_A_findSeparator.2.1 52 = .ok (.getfield 37, 3) := by decide +kernel
theorem d_A_findSeparator_55 : decode m_A_findSeparator.2.1 55 = .ok (.ishl, 1) := by decide +kernel
theorem d_A_findSeparator_56 : decode m_A_findSeparator.2.1 56 = .ok (.iconst (-1), 1) := by decide +kernel
theorem d_A_findSeparator_57 : decode m_A_findSeparator.2.1 57 = .ok (.ixor, 1) := by decide +kernel
theorem d_A_findSeparator_58 : decode m_A_findSeparator.2.1 58 = .ok (.iand, 1) := by decide +kernel
theorem d_A_findSeparator_59 : decode m_A_findSeparator.2.1 59 = .ok (.putfield 77, 3) := by decide +kernel
theorem d_A_findSeparator_62 : decode m_A_findSeparator.2.1 62 = .ok (.return_, 1) := by decide +kernel
theorem d_B_sendBack_0 : decode m_B_sendBack.2.1 0 = .ok (.aload_n 1, 1) := by decide +kernel
theorem d_B_sendBack_1 : decode m_B_sendBack.2.1 1 = .ok (.getfield 239, 3) := by decide +kernel
theorem d_B_sendBack_4 : decode m_B_sendBack.2.1 4 = .ok (.iconst (-1), 1) := by decide +kernel
theorem d_B_sendBack_5 : decode m_B_sendBack.2.1 5 = .ok (.if_icmp .eq 28, 3) := by decide +kernel
theorem d_B_sendBack_8 : decode m_B_sendBack.2.1 8 = .ok (.aload_n 0, 1) := by decide +kernel
theorem d_B_sendBack_9 : decode m_B_sendBack.2.1 9 = .ok (.new 21, 3) := by decide +kernel
theorem d_B_sendBack_12 : decode m_B_sendBack.2.1 12 = .ok (.dup, 1) := by decide +kernel
theorem d_B_sendBack_13 : decode m_B_sendBack.2.1 13 = .ok (.iconst 1, 1) := by decide +kernel
theorem d_B_sendBack_14 : decode m_B_sendBack.2.1 14 = .ok (.aload_n 1, 1) := by decide +kernel
theorem d_B_sendBack_15 : decode m_B_sendBack.2.1 15 = .ok (.getfield 294, 3) := by decide +kernel
theorem d_B_sendBack_18 : decode m_B_sendBack.2.1 18 = .ok (.aload_n 1, 1) := by decide +kernel
theorem d_B_sendBack_19 : decode m_B_sendBack.2.1 19 = .ok (.getfield 239, 3) := by decide +kernel
theorem d_B_sendBack_22 : decode m_B_sendBack.2.1 22 = .ok (.aload_n 1, 1) := by decide +kernel
theorem d_B_sendBack_23 : decode m_B_sendBack.2.1 23 = .ok (.getfield 118, 3) := by decide +kernel
theorem d_B_sendBack_26 : decode m_B_sendBack.2.1 26 = .ok (.aconst_null, 1) := by decide +kernel
theorem d_B_sendBack_27 : decode m_B_sendBack.2.1 27 = .ok (.invokespecial 376, 3) := by decide +kernel
theorem d_B_sendBack_30 : decode m_B_sendBack.2.1 30 = .ok (.invokevirtual 379, 3) := by decide +kernel
theorem d_B_sendBack_33 : decode m_B_sendBack.2.1 33 = .ok (.return_, 1) := by decide +kernel
theorem d_A_hasAllTables_0 : decode m_A_hasAllTables.2.1 0 = .ok (.iconst 0, 1) := by decide +kernel
theorem d_A_hasAllTables_1 : decode m_A_hasAllTables.2.1 1 = .ok (.istore_n 1, 1) := by decide +kernel
theorem d_A_hasAllTables_2 : decode m_A_hasAllTables.2.1 2 = .ok (.iload_n 1, 1) := by decide +kernel
theorem d_A_hasAllTables_3 : decode m_A_hasAllTables.2.1 3 = .ok (.aload_n 0, 1) := by decide +kernel
theorem d_A_hasAllTables_4 : decode m_A_hasAllTables.2.1 4 = .ok (.getfield 62, 3) := by decide +kernel
theorem d_A_hasAllTables_7 : decode m_A_hasAllTables.2.1 7 = .ok (.if_icmp .ge 23, 3) := by decide +kernel
theorem d_A_hasAllTables_10 : decode m_A_hasAllTables.2.1 10 = .ok (.aload_n 0, 1) := by decide +kernel
theorem d_A_hasAllTables_11 : decode m_A_hasAllTables.2.1 11 = .ok (.getfield 17, 3) := by decide +kernel
theorem d_A_hasAllTables_14 : decode m_A_hasAllTables.2.1 14 = .ok (.iload_n 1, 1) := by decide +kernel
theorem d_A_hasAllTables_15 : decode m_A_hasAllTables.2.1 15 = .ok (.aaload, 1) := by decide +kernel
theorem d_A_hasAllTables_16 : decode m_A_hasAllTables.2.1 16 = .ok (.getfield 71, 3) := by decide +kernel
theorem d_A_hasAllTables_19 : decode m_A_hasAllTables.2.1 19 = .ok (.ifnonnull 5, 3) := by decide +kernel
theorem d_A_hasAllTables_22 : decode m_A_hasAllTables.2.1 22 = .ok (.iconst 0, 1) := by decide +kernel
theorem d_A_hasAllTables_23 : decode m_A_hasAllTables.2.1 23 = .ok (.ireturn, 1) := by decide +kernel
theorem d_A_hasAllTables_24 : decode m_A_hasAllTables.2.1 24 = .ok (.iinc 1 1, 3) := by decide +kernel
theorem d_A_hasAllTables_27 : decode m_A_hasAllTables.2.1 27 = .ok (.goto (-25), 3) := by decide +kernel
theorem d_A_hasAllTables_30 : decode m_A_hasAllTables.2.1 30 = .ok (.iconst 1, 1) := by decide +kernel
theorem d_A_hasAllTables_31 : decode m_A_hasAllTables.2.1 31 = .ok (.ireturn, 1) := by decide +kernel
theorem d_B_makeTable_0 : decode m_B_makeTable.2.1 0 = .ok (.aload_n 0, 1) := by decide +kernel
theorem d_B_makeTable_1 : decode m_B_makeTable.2.1 1 = .ok (.aload_n 1, 1) := by decide +kernel
theorem d_B_makeTable_2 : decode m_B_makeTable.2.1 2 = .ok (.getfield 242, 3) := by decide +kernel
theorem d_B_makeTable_5 : decode m_B_makeTable.2.1 5 = .ok (.invokevirtual 317, 3) := by decide +kernel
theorem d_B_makeTable_8 : decode m_B_makeTable.2.1 8 = .ok (.istore_n 3, 1) := by decide +kernel
theorem d_B_makeTable_9 : decode m_B_makeTable.2.1 9 = .ok (.iload_n 3, 1) := by decide +kernel
theorem d_B_makeTable_10 : decode m_B_makeTable.2.1 10 = .ok (.sipush 256, 3) := by decide +kernel
theorem d_B_makeTable_13 : decode m_B_makeTable.2.1 13 = .ok (.if_icmp .le 9, 3) := by decide +kernel
theorem d_B_makeTable_16 : decode m_B_makeTable.2.1 16 = .ok (.aload_n 1, 1) := by decide +kernel
theorem d_B_makeTable_17 : decode m_B_makeTable.2.1 17 = .ok (.iconst 1, 1) := by decide +kernel
theorem d_B_makeTable_18 : decode m_B_makeTable.2.1 18 = .ok (.putfield 230, 3) := by decide +kernel
theorem d_B_makeTable_21 : decode m_B_makeTable.2.1 21 = .ok (.return_, 1) := by decide +kernel
theorem d_B_makeTable_22 : decode m_B_makeTable.2.1 22 = .ok (.iload_n 3, 1) := by decide +kernel
theorem d_B_makeTable_23 : decode m_B_makeTable.2.1 23 = .ok (.newarray .int, 2) := by decide +kernel
theorem d_B_makeTable_25 : decode m_B_makeTable.2.1 25 = .ok (.astore 4, 2) := by decide +kernel
theorem d_B_makeTable_27 : decode m_B_makeTable.2.1 27 = .ok (.iconst 0, 1) := by decide +kernel
theorem d_B_makeTable_28 : decode m_B_makeTable.2.1 28 = .ok (.istore 5, 2) := by decide +kernel
theorem d_B_makeTable_30 : decode m_B_makeTable.2.1 30 = .ok (.iload 5, 2) := by decide +kernel
theorem d_B_makeTable_32 : decode m_B_makeTable.2.1 32 = .ok (.iload_n 3, 1) := by decide +kernel
theorem d_B_makeTable_33 : decode m_B_makeTable.2.1 33 = .ok (.if_icmp .ge 29, 3) := by decide +kernel
theorem d_B_makeTable_36 : decode m_B_makeTable.2.1 36 = .ok (.aload_n 0, 1) := by decide +kernel
theorem d_B_makeTable_37 : decode m_B_makeTable.2.1 37 = .ok (.aload_n 1, 1) := by decide +kernel
theorem d_B_makeTable_38 : decode m_B_makeTable.2.1 38 = .ok (.getfield 242, 3) := by decide +kernel
theorem d_B_makeTable_41 : decode m_B_makeTable.2.1 41 = .ok (.iload 5, 2) := by decide +kernel
theorem d_B_makeTable_43 : decode m_B_makeTable.2.1 43 = .ok (.invokevirtual 320, 3) := by decide +kernel
theorem d_B_makeTable_46 : decode m_B_makeTable.2.1 46 = .ok (.aload 4, 2) := by decide +kernel
theorem d_B_makeTable_48 : decode m_B_makeTable.2.1 48 = .ok (.iload 5, 2) := by decide +kernel
theorem d_B_makeTable_50 : decode m_B_makeTable.2.1 50 = .ok (.aload_n 0, 1) := by decide +kernel
theorem d_B_makeTable_51 : decode m_B_makeTable.2.1 51 = .ok (.aload_n 1, 1) := by decide +kernel
theorem d_B_makeTable_52 : decode m_B_makeTable.2.1 52 = .ok (.invokevirtual 323, 3) := by decide +kernel
theorem d_B_makeTable_55 : decode m_B_makeTable.2.1 55 = .ok (.iastore, 1) := by decide +kernel
theorem d_B_makeTable_56 : decode m_B_makeTable.2.1 56 = .ok (.iinc 5 1, 3) := by decide +kernel
theorem d_B_makeTable_59 : decode m_B_makeTable.2.1 59 = .ok (.goto (-29), 3) := by decide +kernel
theorem d_B_makeTable_62 : decode m_B_makeTable.2.1 62 = .ok (.aload_n 1, 1) := by decide +kernel
theorem d_B_makeTable_63 : decode m_B_makeTable.2.1 63 = .ok (.aload 4, 2) := by decide +kernel
theorem d_B_makeTable_65 : decode m_B_makeTable.2.1 65 = .ok (.putfield 195, 3) := by decide +kernel
theorem d_B_makeTable_68 : decode m_B_makeTable.2.1 68 = .ok (.aload_n 1, 1) := by decide +kernel
theorem d_B_makeTable_69 : decode m_B_makeTable.2.1 69 = .ok (.iload_n 2, 1) := by decide +kernel
theorem d_B_makeTable_70 : decode m_B_makeTable.2.1 70 = .ok (.putfield 327, 3) := by decide +kernel
theorem d_B_makeTable_73 : decode m_B_makeTable.2.1 73 = .ok (.aload_n 0, 1) := by decide +kernel
theorem d_B_makeTable_74 : decode m_B_makeTable.2.1 74 = .ok (.dup, 1) := by decide +kernel
theorem d_B_makeTable_75 : decode m_B_makeTable.2.1 75 = .ok (.getfield 221, 3) := by decide +kernel
theorem d_B_makeTable_78 : decode m_B_makeTable.2.1 78 = .ok (.iconst 1, 1) := by decide +kernel
theorem d_B_makeTable_79 : decode m_B_makeTable.2.1 79 = .ok (.iadd, 1) := by decide +kernel
theorem d_B_makeTable_80 : decode m_B_makeTable.2.1 80 = .ok (.putfield 221, 3) := by decide +kernel
theorem d_B_makeTable_83 : decode m_B_makeTable.2.1 83 = .ok (.aload_n 1, 1) := by decide +kernel
theorem d_B_makeTable_84 : decode m_B_makeTable.2.1 84 = .ok (.invokevirtual 114, 3) := by decide +kernel
theorem d_B_makeTable_87 : decode m_B_makeTable.2.1 87 = .ok (.ifCond .eq 15, 3) := by decide +kernel
theorem d_B_makeTable_90 : decode m_B_makeTable.2.1 90 = .ok (.aload_n 0, 1) := by decide +kernel
theorem d_B_makeTable_91 : decode m_B_makeTable.2.1 91 = .ok (.aload_n 1, 1) := by decide +kernel
theorem d_B_makeTable_92 : decode m_B_makeTable.2.1 92 = .ok (.iload_n 2, 1) := by decide +kernel
theorem d_B_makeTable_93 : decode m_B_makeTable.2.1 93 = .ok (.invokestatic 330, 3) := by decide +kernel
theorem d_B_makeTable_96 : decode m_B_makeTable.2.1 96 = .ok (.invokevirtual 287, 3) := by decide +kernel
theorem d_B_makeTable_99 : decode m_B_makeTable.2.1 99 = .ok (.goto 8, 3) := by decide +kernel
theorem d_B_makeTable_102 : decode m_B_makeTable.2.1 102 = .ok (.aload_n 0, 1) := by decide +kernel
theorem d_B_makeTable_103 : decode m_B_makeTable.2.1 103 = .ok (.aload_n 1, 1) := by decide +kernel
theorem d_B_makeTable_104 : decode m_B_makeTable.2.1 104 = .ok (.invokevirtual 198, 3) := by decide +kernel
theorem d_B_makeTable_107 : decode m_B_makeTable.2.1 107 = .ok (.return_, 1) := by decide +kernel
theorem d_B_tableSize_0 : decode m_B_tableSize.2.1 0 = .ok (.iconst 1, 1) := by decide +kernel
theorem d_B_tableSize_1 : decode m_B_tableSize.2.1 1 = .ok (.istore_n 2, 1) := by decide +kernel
theorem d_B_tableSize_2 : decode m_B_tableSize.2.1 2 = .ok (.iconst 0, 1) := by decide +kernel
theorem d_B_tableSize_3 : decode m_B_tableSize.2.1 3 = .ok (.istore_n 3, 1) := by decide +kernel
theorem d_B_tableSize_4 : decode m_B_tableSize.2.1 4 = .ok (.iload_n 3, 1) := by decide +kernel
theorem d_B_tableSize_5 : decode m_B_tableSize.2.1 5 = .ok (.aload_n 0, 1) := by decide +kernel
theorem d_B_tableSize_6 : decode m_B_tableSize.2.1 6 = .ok (.getfield 42, 3) := by decide +kernel
theorem d_B_tableSize_9 : decode m_B_tableSize.2.1 9 = .ok (.if_icmp .ge 29, 3) := by decide +kernel
theorem d_B_tableSize_12 : decode m_B_tableSize.2.1 12 = .ok (.iload_n 1, 1) := by decide +kernel
theorem d_B_tableSize_13 : decode m_B_tableSize.2.1 13 = .ok (.iload_n 3, 1) := by decide +kernel
theorem d_B_tableSize_14 : decode m_B_tableSize.2.1 14 = .ok (.invokestatic 227, 3) := by decide +kernel
theorem d_B_tableSize_17 : decode m_B_tableSize.2.1 17 = .ok (.ifCond .eq 15, 3) := by decide +kernel
theorem d_B_tableSize_20 : decode m_B_tableSize.2.1 20 = .ok (.iload_n 2, 1) := by decide +kernel
theorem d_B_tableSize_21 : decode m_B_tableSize.2.1 21 = .ok (.aload_n 0, 1) := by decide +kernel
theorem d_B_tableSize_22 : decode m_B_tableSize.2.1 22 = .ok (.getfield 11, 3) := by decide +kernel
theorem d_B_tableSize_25 : decode m_B_tableSize.2.1 25 = .ok (.iload_n 3, 1) := by decide +kernel
theorem d_B_tableSize_26 : decode m_B_tableSize.2.1 26 = .ok (.aaload, 1) := by decide +kernel
theorem d_B_tableSize_27 : decode m_B_tableSize.2.1 27 = .ok (.getfield 245, 3) := by decide +kernel
theorem d_B_tableSize_30 : decode m_B_tableSize.2.1 30 = .ok (.imul, 1) := by decide +kernel
theorem d_B_tableSize_31 : decode m_B_tableSize.2.1 31 = .ok (.istore_n 2, 1) := by decide +kernel
theorem d_B_tableSize_32 : decode m_B_tableSize.2.1 32 = .ok (.iinc 3 1, 3) := by decide +kernel
theorem d_B_tableSize_35 : decode m_B_tableSize.2.1 35 = .ok (.goto (-31), 3) := by decide +kernel
theorem d_B_tableSize_38 : decode m_B_tableSize.2.1 38 = .ok (.iload_n 2, 1) := by decide +kernel
theorem d_B_tableSize_39 : decode m_B_tableSize.2.1 39 = .ok (.ireturn, 1) := by decide +kernel
theorem d_B_tryEntry_0 : decode m_B_tryEntry.2.1 0 = .ok (.iload_n 2, 1) := by decide +kernel
theorem d_B_tryEntry_1 : decode m_B_tryEntry.2.1 1 = .ok (.istore_n 3, 1) := by decide +kernel
theorem d_B_tryEntry_2 : decode m_B_tryEntry.2.1 2 = .ok (.iconst 0, 1) := by decide +kernel
theorem d_B_tryEntry_3 : decode m_B_tryEntry.2.1 3 = .ok (.istore 4, 2) := by decide +kernel
theorem d_B_tryEntry_5 : decode m_B_tryEntry.2.1 5 = .ok (.iload 4, 2) := by decide +kernel
theorem d_B_tryEntry_7 : decode m_B_tryEntry.2.1 7 = .ok (.aload_n 0, 1) := by decide +kernel
theorem d_B_tryEntry_8 : decode m_B_tryEntry.2.1 8 = .ok (.getfield 42, 3) := by decide +kernel
theorem d_B_tryEntry_11 : decode m_B_tryEntry.2.1 11 = .ok (.if_icmp .ge 50, 3) := by decide +kernel
theorem d_B_tryEntry_14 : decode m_B_tryEntry.2.1 14 = .ok (.iload_n 1, 1) := by decide +kernel
theorem d_B_tryEntry_15 : decode m_B_tryEntry.2.1 15 = .ok (.iload 4, 2) := by decide +kernel
theorem d_B_tryEntry_17 : decode m_B_tryEntry.2.1 17 = .ok (.invokestatic 227, 3) := by decide +kernel
theorem d_B_tryEntry_20 : decode m_B_tryEntry.2.1 20 = .ok (.ifCond .eq 35, 3) := by decide +kernel
theorem d_B_tryEntry_23 : decode m_B_tryEntry.2.1 23 = .ok (.aload_n 0, 1) := by decide +kernel
theorem d_B_tryEntry_24 : decode m_B_tryEntry.2.1 24 = .ok (.getfield 27, 3) := by decide +kernel
theorem d_B_tryEntry_27 : decode m_B_tryEntry.2.1 27 = .ok (.iload 4, 2) := by decide +kernel
theorem d_B_tryEntry_29 : decode m_B_tryEntry.2.1 29 = .ok (.iload_n 3, 1) := by decide +kernel
theorem d_B_tryEntry_30 : decode m_B_tryEntry.2.1 30 = .ok (.aload_n 0, 1) := by decide +kernel
theorem d_B_tryEntry_31 : decode m_B_tryEntry.2.1 31 = .ok (.getfield 11, 3) := by decide +kernel
theorem d_B_tryEntry_34 : decode m_B_tryEntry.2.1 34 = .ok (.iload 4, 2) := by decide +kernel
theorem d_B_tryEntry_36 : decode m_B_tryEntry.2.1 36 = .ok (.aaload, 1) := by decide +kernel
theorem d_B_tryEntry_37 : decode m_B_tryEntry.2.1 37 = .ok (.getfield 245, 3) := by decide +kernel
theorem d_B_tryEntry_40 : decode m_B_tryEntry.2.1 40 = .ok (.irem, 1) := by decide +kernel
theorem d_B_tryEntry_41 : decode m_B_tryEntry.2.1 41 = .ok (.iastore, 1) := by decide +kernel
theorem d_B_tryEntry_42 : decode m_B_tryEntry.2.1 42 = .ok (.iload_n 3, 1) := by decide +kernel
theorem d_B_tryEntry_43 : decode m_B_tryEntry.2.1 43 = .ok (.aload_n 0, 1) := by decide +kernel
theorem d_B_tryEntry_44 : decode m_B_tryEntry.2.1 44 = .ok (.getfield 11, 3) := by decide +kernel
theorem d_B_tryEntry_47 : decode m_B_tryEntry.2.1 47 = .ok (.iload 4, 2) := by decide +kernel
theorem d_B_tryEntry_49 : decode m_B_tryEntry.2.1 49 = .ok (.aaload, 1) := by decide +kernel
theorem d_B_tryEntry_50 : decode m_B_tryEntry.2.1 50 = .ok (.getfield 245, 3) := by decide +kernel
theorem d_B_tryEntry_53 : decode m_B_tryEntry.2.1 53 = .ok (.idiv, 1) := by decide +kernel
theorem d_B_tryEntry_54 : decode m_B_tryEntry.2.1 54 = .ok (.istore_n 3, 1) := by decide +kernel
theorem d_B_tryEntry_55 : decode m_B_tryEntry.2.1 55 = .ok (.iinc 4 1, 3) := by decide +kernel
theorem d_B_tryEntry_58 : decode m_B_tryEntry.2.1 58 = .ok (.goto (-53), 3) := by decide +kernel
theorem d_B_tryEntry_61 : decode m_B_tryEntry.2.1 61 = .ok (.return_, 1) := by decide +kernel
end
section
/-! DECODED: written by wip/whole/gen/dec.py -/
theorem d_B_leastCost_0 : decode m_B_leastCost.2.1 0 = .ok (.bipush (-2), 2) := by decide +kernel
theorem d_B_leastCost_2 : decode m_B_leastCost.2.1 2 = .ok (.istore_n 2, 1) := by decide +kernel
theorem d_B_leastCost_3 : decode m_B_leastCost.2.1 3 = .ok (.iconst 0, 1) := by decide +kernel
theorem d_B_leastCost_4 : decode m_B_leastCost.2.1 4 = .ok (.istore_n 3, 1) := by decide +kernel
theorem d_B_leastCost_5 : decode m_B_leastCost.2.1 5 = .ok (.iload_n 3, 1) := by decide +kernel
theorem d_B_leastCost_6 : decode m_B_leastCost.2.1 6 = .ok (.aload_n 1, 1) := by decide +kernel
theorem d_B_leastCost_7 : decode m_B_leastCost.2.1 7 = .ok (.getfield 245, 3) := by decide +kernel
theorem d_B_leastCost_10 : decode m_B_leastCost.2.1 10 = .ok (.if_icmp .ge 33, 3) := by decide +kernel
theorem d_B_leastCost_13 : decode m_B_leastCost.2.1 13 = .ok (.aload_n 0, 1) := by decide +kernel
theorem d_B_leastCost_14 : decode m_B_leastCost.2.1 14 = .ok (.getfield 27, 3) := by decide +kernel
theorem d_B_leastCost_17 : decode m_B_leastCost.2.1 17 = .ok (.aload_n 1, 1) := by decide +kernel
theorem d_B_leastCost_18 : decode m_B_leastCost.2.1 18 = .ok (.getfield 294, 3) := by decide +kernel
theorem d_B_leastCost_21 : decode m_B_leastCost.2.1 21 = .ok (.iload_n 3, 1) := by decide +kernel
theorem d_B_leastCost_22 : decode m_B_leastCost.2.1 22 = .ok (.iastore, 1) := by decide +kernel
theorem d_B_leastCost_23 : decode m_B_leastCost.2.1 23 = .ok (.iload_n 2, 1) := by decide +kernel
theorem d_B_leastCost_24 : decode m_B_leastCost.2.1 24 = .ok (.aload_n 0, 1) := by decide +kernel
theorem d_B_leastCost_25 : decode m_B_leastCost.2.1 25 = .ok (.aload_n 1, 1) := by decide +kernel
theorem d_B_leastCost_26 : decode m_B_leastCost.2.1 26 = .ok (.aload_n 0, 1) := by decide +kernel
theorem d_B_leastCost_27 : decode m_B_leastCost.2.1 27 = .ok (.getfield 27, 3) := by decide +kernel
theorem d_B_leastCost_30 : decode m_B_leastCost.2.1 30 = .ok (.invokevirtual 334, 3) := by decide +kernel
theorem d_B_leastCost_33 : decode m_B_leastCost.2.1 33 = .ok (.invokestatic 338, 3) := by decide +kernel
theorem d_B_leastCost_36 : decode m_B_leastCost.2.1 36 = .ok (.istore_n 2, 1) := by decide +kernel
theorem d_B_leastCost_37 : decode m_B_leastCost.2.1 37 = .ok (.iinc 3 1, 3) := by decide +kernel
theorem d_B_leastCost_40 : decode m_B_leastCost.2.1 40 = .ok (.goto (-35), 3) := by decide +kernel
theorem d_B_leastCost_43 : decode m_B_leastCost.2.1 43 = .ok (.iload_n 2, 1) := by decide +kernel
theorem d_B_leastCost_44 : decode m_B_leastCost.2.1 44 = .ok (.ireturn, 1) := by decide +kernel
theorem d_B_costWith_0 : decode m_B_costWith.2.1 0 = .ok (.aload_n 1, 1) := by decide +kernel
theorem d_B_costWith_1 : decode m_B_costWith.2.1 1 = .ok (.getfield 66, 3) := by decide +kernel
theorem d_B_costWith_4 : decode m_B_costWith.2.1 4 = .ok (.aload_n 2, 1) := by decide +kernel
theorem d_B_costWith_5 : decode m_B_costWith.2.1 5 = .ok (.aload_n 1, 1) := by decide +kernel
theorem d_B_costWith_6 : decode m_B_costWith.2.1 6 = .ok (.getfield 294, 3) := by decide +kernel
theorem d_B_costWith_9 : decode m_B_costWith.2.1 9 = .ok (.iaload, 1) := by decide +kernel
theorem d_B_costWith_10 : decode m_B_costWith.2.1 10 = .ok (.iaload, 1) := by decide +kernel
theorem d_B_costWith_11 : decode m_B_costWith.2.1 11 = .ok (.istore_n 3, 1) := by decide +kernel
theorem d_B_costWith_12 : decode m_B_costWith.2.1 12 = .ok (.iconst 0, 1) := by decide +kernel
theorem d_B_costWith_13 : decode m_B_costWith.2.1 13 = .ok (.istore 4, 2) := by decide +kernel
theorem d_B_costWith_15 : decode m_B_costWith.2.1 15 = .ok (.iload 4, 2) := by decide +kernel
theorem d_B_costWith_17 : decode m_B_costWith.2.1 17 = .ok (.aload_n 0, 1) := by decide +kernel
theorem d_B_costWith_18 : decode m_B_costWith.2.1 18 = .ok (.getfield 74, 3) := by decide +kernel
theorem d_B_costWith_21 : decode m_B_costWith.2.1 21 = .ok (.if_icmp .ge 62, 3) := by decide +kernel
theorem d_B_costWith_24 : decode m_B_costWith.2.1 24 = .ok (.aload_n 0, 1) := by decide +kernel
theorem d_B_costWith_25 : decode m_B_costWith.2.1 25 = .ok (.getfield 17, 3) := by decide +kernel
theorem d_B_costWith_28 : decode m_B_costWith.2.1 28 = .ok (.iload 4, 2) := by decide +kernel
theorem d_B_costWith_30 : decode m_B_costWith.2.1 30 = .ok (.aaload, 1) := by decide +kernel
theorem d_B_costWith_31 : decode m_B_costWith.2.1 31 = .ok (.astore 5, 2) := by decide +kernel
theorem d_B_costWith_33 : decode m_B_costWith.2.1 33 = .ok (.aload 5, 2) := by decide +kernel
theorem d_B_costWith_35 : decode m_B_costWith.2.1 35 = .ok (.aload_n 1, 1) := by decide +kernel
theorem d_B_costWith_36 : decode m_B_costWith.2.1 36 = .ok (.invokevirtual 341, 3) := by decide +kernel
theorem d_B_costWith_39 : decode m_B_costWith.2.1 39 = .ok (.ifCond .eq 38, 3) := by decide +kernel
theorem d_B_costWith_42 : decode m_B_costWith.2.1 42 = .ok (.iload_n 3, 1) := by decide +kernel
theorem d_B_costWith_43 : decode m_B_costWith.2.1 43 = .ok (.aload 5, 2) := by decide +kernel
theorem d_B_costWith_45 : decode m_B_costWith.2.1 45 = .ok (.getfield 102, 3) := by decide +kernel
theorem d_B_costWith_48 : decode m_B_costWith.2.1 48 = .ok (.aload 5, 2) := by decide +kernel
theorem d_B_costWith_50 : decode m_B_costWith.2.1 50 = .ok (.aload 5, 2) := by decide +kernel
theorem d_B_costWith_52 : decode m_B_costWith.2.1 52 = .ok (.getfield 248, 3) := by decide +kernel
theorem d_B_costWith_55 : decode m_B_costWith.2.1 55 = .ok (.aload_n 2, 1) := by decide +kernel
theorem d_B_costWith_56 : decode m_B_costWith.2.1 56 = .ok (.aload 5, 2) := by decide +kernel
theorem d_B_costWith_58 : decode m_B_costWith.2.1 58 = .ok (.getfield 248, 3) := by decide +kernel
theorem d_B_costWith_61 : decode m_B_costWith.2.1 61 = .ok (.iaload, 1) := by decide +kernel
theorem d_B_costWith_62 : decode m_B_costWith.2.1 62 = .ok (.aload_n 2, 1) := by decide +kernel
theorem d_B_costWith_63 : decode m_B_costWith.2.1 63 = .ok (.aload 5, 2) := by decide +kernel
theorem d_B_costWith_65 : decode m_B_costWith.2.1 65 = .ok (.getfield 251, 3) := by decide +kernel
theorem d_B_costWith_68 : decode m_B_costWith.2.1 68 = .ok (.iaload, 1) := by decide +kernel
theorem d_B_costWith_69 : decode m_B_costWith.2.1 69 = .ok (.invokevirtual 105, 3) := by decide +kernel
theorem d_B_costWith_72 : decode m_B_costWith.2.1 72 = .ok (.iaload, 1) := by decide +kernel
theorem d_B_costWith_73 : decode m_B_costWith.2.1 73 = .ok (.invokestatic 344, 3) := by decide +kernel
theorem d_B_costWith_76 : decode m_B_costWith.2.1 76 = .ok (.istore_n 3, 1) := by decide +kernel
theorem d_B_costWith_77 : decode m_B_costWith.2.1 77 = .ok (.iinc 4 1, 3) := by decide +kernel
theorem d_B_costWith_80 : decode m_B_costWith.2.1 80 = .ok (.goto (-65), 3) := by decide +kernel
theorem d_B_costWith_83 : decode m_B_costWith.2.1 83 = .ok (.iconst 0, 1) := by decide +kernel
theorem d_B_costWith_84 : decode m_B_costWith.2.1 84 = .ok (.istore 4, 2) := by decide +kernel
theorem d_B_costWith_86 : decode m_B_costWith.2.1 86 = .ok (.iload 4, 2) := by decide +kernel
theorem d_B_costWith_88 : decode m_B_costWith.2.1 88 = .ok (.aload_n 1, 1) := by decide +kernel
theorem d_B_costWith_89 : decode m_B_costWith.2.1 89 = .ok (.getfield 347, 3) := by decide +kernel
theorem d_B_costWith_92 : decode m_B_costWith.2.1 92 = .ok (.if_icmp .ge 41, 3) := by decide +kernel
theorem d_B_costWith_95 : decode m_B_costWith.2.1 95 = .ok (.aload_n 1, 1) := by decide +kernel
theorem d_B_costWith_96 : decode m_B_costWith.2.1 96 = .ok (.getfield 350, 3) := by decide +kernel
theorem d_B_costWith_99 : decode m_B_costWith.2.1 99 = .ok (.iload 4, 2) := by decide +kernel
theorem d_B_costWith_101 : decode m_B_costWith.2.1 101 = .ok (.aaload, 1) := by decide +kernel
theorem d_B_costWith_102 : decode m_B_costWith.2.1 102 = .ok (.astore 5, 2) := by decide +kernel
theorem d_B_costWith_104 : decode m_B_costWith.2.1 104 = .ok (.iload_n 3, 1) := by decide +kernel
theorem d_B_costWith_105 : decode m_B_costWith.2.1 105 = .ok (.aload_n 0, 1) := by decide +kernel
theorem d_B_costWith_106 : decode m_B_costWith.2.1 106 = .ok (.aload 5, 2) := by decide +kernel
theorem d_B_costWith_108 : decode m_B_costWith.2.1 108 = .ok (.getfield 307, 3) := by decide +kernel
theorem d_B_costWith_111 : decode m_B_costWith.2.1 111 = .ok (.aload 5, 2) := by decide +kernel
theorem d_B_costWith_113 : decode m_B_costWith.2.1 113 = .ok (.getfield 354, 3) := by decide +kernel
theorem d_B_costWith_116 : decode m_B_costWith.2.1 116 = .ok (.getfield 242, 3) := by decide +kernel
theorem d_B_costWith_119 : decode m_B_costWith.2.1 119 = .ok (.aload_n 2, 1) := by decide +kernel
theorem d_B_costWith_120 : decode m_B_costWith.2.1 120 = .ok (.invokevirtual 358, 3) := by decide +kernel
theorem d_B_costWith_123 : decode m_B_costWith.2.1 123 = .ok (.invokestatic 344, 3) := by decide +kernel
theorem d_B_costWith_126 : decode m_B_costWith.2.1 126 = .ok (.istore_n 3, 1) := by decide +kernel
theorem d_B_costWith_127 : decode m_B_costWith.2.1 127 = .ok (.iinc 4 1, 3) := by decide +kernel
theorem d_B_costWith_130 : decode m_B_costWith.2.1 130 = .ok (.goto (-44), 3) := by decide +kernel
theorem d_B_costWith_133 : decode m_B_costWith.2.1 133 = .ok (.iload_n 3, 1) := by decide +kernel
theorem d_B_costWith_134 : decode m_B_costWith.2.1 134 = .ok (.ireturn, 1) := by decide +kernel
theorem d_Q_joinsUpwards_0 : decode m_Q_joinsUpwards.2.1 0 = .ok (.aload_n 0, 1) := by decide +kernel
theorem d_Q_joinsUpwards_1 : decode m_Q_joinsUpwards.2.1 1 = .ok (.getfield 15, 3) := by decide +kernel
theorem d_Q_joinsUpwards_4 : decode m_Q_joinsUpwards.2.1 4 = .ok (.aload_n 1, 1) := by decide +kernel
theorem d_Q_joinsUpwards_5 : decode m_Q_joinsUpwards.2.1 5 = .ok (.getfield 22, 3) := by decide +kernel
theorem d_Q_joinsUpwards_8 : decode m_Q_joinsUpwards.2.1 8 = .ok (.if_icmp .ne 17, 3) := by decide +kernel
theorem d_Q_joinsUpwards_11 : decode m_Q_joinsUpwards.2.1 11 = .ok (.aload_n 1, 1) := by decide +kernel
theorem d_Q_joinsUpwards_12 : decode m_Q_joinsUpwards.2.1 12 = .ok (.getfield 27, 3) := by decide +kernel
theorem d_Q_joinsUpwards_15 : decode m_Q_joinsUpwards.2.1 15 = .ok (.aload_n 0, 1) := by decide +kernel
theorem d_Q_joinsUpwards_16 : decode m_Q_joinsUpwards.2.1 16 = .ok (.getfield 19, 3) := by decide +kernel
theorem d_Q_joinsUpwards_19 : decode m_Q_joinsUpwards.2.1 19 = .ok (.invokestatic 30, 3) := by decide +kernel
theorem d_Q_joinsUpwards_22 : decode m_Q_joinsUpwards.2.1 22 = .ok (.ifCond .ne 28, 3) := by decide +kernel
theorem d_Q_joinsUpwards_25 : decode m_Q_joinsUpwards.2.1 25 = .ok (.aload_n 0, 1) := by decide +kernel
theorem d_Q_joinsUpwards_26 : decode m_Q_joinsUpwards.2.1 26 = .ok (.getfield 19, 3) := by decide +kernel
theorem d_Q_joinsUpwards_29 : decode m_Q_joinsUpwards.2.1 29 = .ok (.aload_n 1, 1) := by decide +kernel
theorem d_Q_joinsUpwards_30 : decode m_Q_joinsUpwards.2.1 30 = .ok (.getfield 22, 3) := by decide +kernel
theorem d_Q_joinsUpwards_33 : decode m_Q_joinsUpwards.2.1 33 = .ok (.if_icmp .ne 21, 3) := by decide +kernel
theorem d_Q_joinsUpwards_36 : decode m_Q_joinsUpwards.2.1 36 = .ok (.aload_n 1, 1) := by decide +kernel
theorem d_Q_joinsUpwards_37 : decode m_Q_joinsUpwards.2.1 37 = .ok (.getfield 27, 3) := by decide +kernel
theorem d_Q_joinsUpwards_40 : decode m_Q_joinsUpwards.2.1 40 = .ok (.aload_n 0, 1) := by decide +kernel
theorem d_Q_joinsUpwards_41 : decode m_Q_joinsUpwards.2.1 41 = .ok (.getfield 15, 3) := by decide +kernel
theorem d_Q_joinsUpwards_44 : decode m_Q_joinsUpwards.2.1 44 = .ok (.invokestatic 30, 3) := by decide +kernel
theorem d_Q_joinsUpwards_47 : decode m_Q_joinsUpwards.2.1 47 = .ok (.ifCond .eq 7, 3) := by decide +kernel
theorem d_Q_joinsUpwards_50 : decode m_Q_joinsUpwards.2.1 50 = .ok (.iconst 1, 1) := by decide +kernel
theorem d_Q_joinsUpwards_51 : decode m_Q_joinsUpwards.2.1 51 = .ok (.goto 4, 3) := by decide +kernel
theorem d_Q_joinsUpwards_54 : decode m_Q_joinsUpwards.2.1 54 = .ok (.iconst 0, 1) := by decide +kernel
theorem d_Q_joinsUpwards_55 : decode m_Q_joinsUpwards.2.1 55 = .ok (.ireturn, 1) := by decide +kernel
theorem d_B_plus_0 : decode m_B_plus.2.1 0 = .ok (.iload_n 0, 1) := by decide +kernel
theorem d_B_plus_1 : decode m_B_plus.2.1 1 = .ok (.bipush (-2), 2) := by decide +kernel
theorem d_B_plus_3 : decode m_B_plus.2.1 3 = .ok (.if_icmp .eq 9, 3) := by decide +kernel
theorem d_B_plus_6 : decode m_B_plus.2.1 6 = .ok (.iload_n 1, 1) := by decide +kernel
theorem d_B_plus_7 : decode m_B_plus.2.1 7 = .ok (.bipush (-2), 2) := by decide +kernel
theorem d_B_plus_9 : decode m_B_plus.2.1 9 = .ok (.if_icmp .ne 8, 3) := by decide +kernel
theorem d_B_plus_12 : decode m_B_plus.2.1 12 = .ok (.bipush (-2), 2) := by decide +kernel
theorem d_B_plus_14 : decode m_B_plus.2.1 14 = .ok (.goto 6, 3) := by decide +kernel
theorem d_B_plus_17 : decode m_B_plus.2.1 17 = .ok (.iload_n 0, 1) := by decide +kernel
theorem d_B_plus_18 : decode m_B_plus.2.1 18 = .ok (.iload_n 1, 1) := by decide +kernel
theorem d_B_plus_19 : decode m_B_plus.2.1 19 = .ok (.iadd, 1) := by decide +kernel
theorem d_B_plus_20 : decode m_B_plus.2.1 20 = .ok (.ireturn, 1) := by decide +kernel
theorem d_B_entryAt_0 : decode m_B_entryAt.2.1 0 = .ok (.iconst 0, 1) := by decide +kernel
theorem d_B_entryAt_1 : decode m_B_entryAt.2.1 1 = .ok (.istore 4, 2) := by decide +kernel
theorem d_B_entryAt_3 : decode m_B_entryAt.2.1 3 = .ok (.iconst 1, 1) := by decide +kernel
theorem d_B_entryAt_4 : decode m_B_entryAt.2.1 4 = .ok (.istore 5, 2) := by decide +kernel
theorem d_B_entryAt_6 : decode m_B_entryAt.2.1 6 = .ok (.iconst 0, 1) := by decide +kernel
theorem d_B_entryAt_7 : decode m_B_entryAt.2.1 7 = .ok (.istore 6, 2) := by decide +kernel
theorem d_B_entryAt_9 : decode m_B_entryAt.2.1 9 = .ok (.iload 6, 2) := by decide +kernel
theorem d_B_entryAt_11 : decode m_B_entryAt.2.1 11 = .ok (.aload_n 0, 1) := by decide +kernel
theorem d_B_entryAt_12 : decode m_B_entryAt.2.1 12 = .ok (.getfield 42, 3) := by decide +kernel
theorem d_B_entryAt_15 : decode m_B_entryAt.2.1 15 = .ok (.if_icmp .ge 45, 3) := by decide +kernel
theorem d_B_entryAt_18 : decode m_B_entryAt.2.1 18 = .ok (.iload_n 2, 1) := by decide +kernel
theorem d_B_entryAt_19 : decode m_B_entryAt.2.1 19 = .ok (.iload 6, 2) := by decide +kernel
theorem d_B_entryAt_21 : decode m_B_entryAt.2.1 21 = .ok (.invokestatic 227, 3) := by decide +kernel
theorem d_B_entryAt_24 : decode m_B_entryAt.2.1 24 = .ok (.ifCond .eq 30, 3) := by decide +kernel
theorem d_B_entryAt_27 : decode m_B_entryAt.2.1 27 = .ok (.iload 4, 2) := by decide +kernel
theorem d_B_entryAt_29 : decode m_B_entryAt.2.1 29 = .ok (.aload_n 3, 1) := by decide +kernel
theorem d_B_entryAt_30 : decode m_B_entryAt.2.1 30 = .ok (.iload 6, 2) := by decide +kernel
theorem d_B_entryAt_32 : decode m_B_entryAt.2.1 32 = .ok (.iaload, 1) := by decide +kernel
theorem d_B_entryAt_33 : decode m_B_entryAt.2.1 33 = .ok (.iload 5, 2) := by decide +kernel
theorem d_B_entryAt_35 : decode m_B_entryAt.2.1 35 = .ok (.imul, 1) := by decide +kernel
theorem d_B_entryAt_36 : decode m_B_entryAt.2.1 36 = .ok (.iadd, 1) := by decide +kernel
theorem d_B_entryAt_37 : decode m_B_entryAt.2.1 37 = .ok (.istore 4, 2) := by decide +kernel
theorem d_B_entryAt_39 : decode m_B_entryAt.2.1 39 = .ok (.iload 5, 2) := by decide +kernel
theorem d_B_entryAt_41 : decode m_B_entryAt.2.1 41 = .ok (.aload_n 0, 1) := by decide +kernel
theorem d_B_entryAt_42 : decode m_B_entryAt.2.1 42 = .ok (.getfield 11, 3) := by decide +kernel
theorem d_B_entryAt_45 : decode m_B_entryAt.2.1 45 = .ok (.iload 6, 2) := by decide +kernel
theorem d_B_entryAt_47 : decode m_B_entryAt.2.1 47 = .ok (.aaload, 1) := by decide +kernel
theorem d_B_entryAt_48 : decode m_B_entryAt.2.1 48 = .ok (.getfield 245, 3) := by decide +kernel
theorem d_B_entryAt_51 : decode m_B_entryAt.2.1 51 = .ok (.imul, 1) := by decide +kernel
theorem d_B_entryAt_52 : decode m_B_entryAt.2.1 52 = .ok (.istore 5, 2) := by decide +kernel
theorem d_B_entryAt_54 : decode m_B_entryAt.2.1 54 = .ok (.iinc 6 1, 3) := by decide +kernel
theorem d_B_entryAt_57 : decode m_B_entryAt.2.1 57 = .ok (.goto (-48), 3) := by decide +kernel
theorem d_B_entryAt_60 : decode m_B_entryAt.2.1 60 = .ok (.aload_n 1, 1) := by decide +kernel
theorem d_B_entryAt_61 : decode m_B_entryAt.2.1 61 = .ok (.ifnull 22, 3) := by decide +kernel
theorem d_B_entryAt_64 : decode m_B_entryAt.2.1 64 = .ok (.iload 4, 2) := by decide +kernel
theorem d_B_entryAt_66 : decode m_B_entryAt.2.1 66 = .ok (.ifCond .lt 17, 3) := by decide +kernel
theorem d_B_entryAt_69 : decode m_B_entryAt.2.1 69 = .ok (.iload 4, 2) := by decide +kernel
theorem d_B_entryAt_71 : decode m_B_entryAt.2.1 71 = .ok (.aload_n 1, 1) := by decide +kernel
theorem d_B_entryAt_72 : decode m_B_entryAt.2.1 72 = .ok (.arraylength, 1) := by decide +kernel
theorem d_B_entryAt_73 : decode m_B_entryAt.2.1 73 = .ok (.if_icmp .ge 10, 3) := by decide +kernel
theorem d_B_entryAt_76 : decode m_B_entryAt.2.1 76 = .ok (.aload_n 1, 1) := by decide +kernel
theorem d_B_entryAt_77 : decode m_B_entryAt.2.1 77 = .ok (.iload 4, 2) := by decide +kernel
theorem d_B_entryAt_79 : decode m_B_entryAt.2.1 79 = .ok (.iaload, 1) := by decide +kernel
theorem d_B_entryAt_80 : decode m_B_entryAt.2.1 80 = .ok (.goto 5, 3) := by decide +kernel
theorem d_B_entryAt_83 : decode m_B_entryAt.2.1 83 = .ok (.bipush (-2), 2) := by decide +kernel
theorem d_B_entryAt_85 : decode m_B_entryAt.2.1 85 = .ok (.ireturn, 1) := by decide +kernel
theorem d_B_lesser_0 : decode m_B_lesser.2.1 0 = .ok (.iload_n 0, 1) := by decide +kernel
theorem d_B_lesser_1 : decode m_B_lesser.2.1 1 = .ok (.bipush (-2), 2) := by decide +kernel
theorem d_B_lesser_3 : decode m_B_lesser.2.1 3 = .ok (.if_icmp .ne 5, 3) := by decide +kernel
theorem d_B_lesser_6 : decode m_B_lesser.2.1 6 = .ok (.iload_n 1, 1) := by decide +kernel
theorem d_B_lesser_7 : decode m_B_lesser.2.1 7 = .ok (.ireturn, 1) := by decide +kernel
theorem d_B_lesser_8 : decode m_B_lesser.2.1 8 = .ok (.iload_n 1, 1) := by decide +kernel
theorem d_B_lesser_9 : decode m_B_lesser.2.1 9 = .ok (.bipush (-2), 2) := by decide +kernel
theorem d_B_lesser_11 : decode m_B_lesser.2.1 11 = .ok (.if_icmp .ne 7, 3) := by decide +kernel
theorem d_B_lesser_14 : decode m_B_lesser.2.1 14 = .ok (.iload_n 0, 1) := by decide +kernel
theorem d_B_lesser_15 : decode m_B_lesser.2.1 15 = .ok (.goto 8, 3) := by decide +kernel
theorem d_B_lesser_18 : decode m_B_lesser.2.1 18 = .ok (.iload_n 0, 1) := by decide +kernel
theorem d_B_lesser_19 : decode m_B_lesser.2.1 19 = .ok (.iload_n 1, 1) := by decide +kernel
theorem d_B_lesser_20 : decode m_B_lesser.2.1 20 = .ok (.invokestatic 83, 3) := by decide +kernel
theorem d_B_lesser_23 : decode m_B_lesser.2.1 23 = .ok (.ireturn, 1) := by decide +kernel
theorem d_B_nothingTold_0 : decode m_B_nothingTold.2.1 0 = .ok (.bipush 8, 2) := by decide +kernel
theorem d_B_nothingTold_2 : decode m_B_nothingTold.2.1 2 = .ok (.newarray .int, 2) := by decide +kernel
theorem d_B_nothingTold_4 : decode m_B_nothingTold.2.1 4 = .ok (.astore_n 0, 1) := by decide +kernel
theorem d_B_nothingTold_5 : decode m_B_nothingTold.2.1 5 = .ok (.aload_n 0, 1) := by decide +kernel
theorem d_B_nothingTold_6 : decode m_B_nothingTold.2.1 6 = .ok (.iconst (-1), 1) := by decide +kernel
theorem d_B_nothingTold_7 : decode m_B_nothingTold.2.1 7 = .ok (.invokestatic 362, 3) := by decide +kernel
theorem d_B_nothingTold_10 : decode m_B_nothingTold.2.1 10 = .ok (.aload_n 0, 1) := by decide +kernel
theorem d_B_nothingTold_11 : decode m_B_nothingTold.2.1 11 = .ok (.areturn, 1) := by decide +kernel
theorem d_J_fill_0 : decode m_J_fill.2.1 0 = .ok (.iconst 0, 1) := by decide +kernel
theorem d_J_fill_1 : decode m_J_fill.2.1 1 = .ok (.istore_n 2, 1) := by decide +kernel
theorem d_J_fill_2 : decode m_J_fill.2.1 2 = .ok (.aload_n 0, 1) := by decide +kernel
theorem d_J_fill_3 : decode m_J_fill.2.1 3 = .ok (.arraylength, 1) := by decide +kernel
theorem d_J_fill_4 : decode m_J_fill.2.1 4 = .ok (.istore_n 3, 1) := by decide +kernel
theorem d_J_fill_5 : decode m_J_fill.2.1 5 = .ok (.iload_n 2, 1) := by decide +kernel
theorem d_J_fill_6 : decode m_J_fill.2.1 6 = .ok (.iload_n 3, 1) := by decide +kernel
theorem d_J_fill_7 : decode m_J_fill.2.1 7 = .ok (.if_icmp .ge 13, 3) := by decide +kernel
theorem d_J_fill_10 : decode m_J_fill.2.1 10 = .ok (.aload_n 0, 1) := by decide +kernel
theorem d_J_fill_11 : decode m_J_fill.2.1 11 = .ok (.iload_n 2, 1) := by decide +kernel
theorem d_J_fill_12 : decode m_J_fill.2.1 12 = .ok (.iload_n 1, 1) := by decide +kernel
theorem d_J_fill_13 : decode m_J_fill.2.1 13 = .ok (.iastore, 1) := by decide +kernel
theorem d_J_fill_14 : decode m_J_fill.2.1 14 = .ok (.iinc 2 1, 3) := by decide +kernel
theorem d_J_fill_17 : decode m_J_fill.2.1 17 = .ok (.goto (-12), 3) := by decide +kernel
theorem d_J_fill_20 : decode m_J_fill.2.1 20 = .ok (.return_, 1) := by decide +kernel
theorem d_B_choose_0 : decode m_B_choose.2.1 0 = .ok (.aload_n 0, 1) := by decide +kernel
theorem d_B_choose_1 : decode m_B_choose.2.1 1 = .ok (.aload_n 1, 1) := by decide +kernel
theorem d_B_choose_2 : decode m_B_choose.2.1 2 = .ok (.getfield 195, 3) := by decide +kernel
theorem d_B_choose_5 : decode m_B_choose.2.1 5 = .ok (.aload_n 1, 1) := by decide +kernel
theorem d_B_choose_6 : decode m_B_choose.2.1 6 = .ok (.getfield 242, 3) := by decide +kernel
theorem d_B_choose_9 : decode m_B_choose.2.1 9 = .ok (.aload_n 3, 1) := by decide +kernel
theorem d_B_choose_10 : decode m_B_choose.2.1 10 = .ok (.invokevirtual 358, 3) := by decide +kernel
theorem d_B_choose_13 : decode m_B_choose.2.1 13 = .ok (.istore 4, 2) := by decide +kernel
theorem d_B_choose_15 : decode m_B_choose.2.1 15 = .ok (.iload 4, 2) := by decide +kernel
theorem d_B_choose_17 : decode m_B_choose.2.1 17 = .ok (.bipush (-2), 2) := by decide +kernel
theorem d_B_choose_19 : decode m_B_choose.2.1 19 = .ok (.if_icmp .ne 12, 3) := by decide +kernel
theorem d_B_choose_22 : decode m_B_choose.2.1 22 = .ok (.aload_n 1, 1) := by decide +kernel
theorem d_B_choose_23 : decode m_B_choose.2.1 23 = .ok (.getfield 212, 3) := by decide +kernel
theorem d_B_choose_26 : decode m_B_choose.2.1 26 = .ok (.iload_n 2, 1) := by decide +kernel
theorem d_B_choose_27 : decode m_B_choose.2.1 27 = .ok (.putfield 368, 3) := by decide +kernel
theorem d_B_choose_30 : decode m_B_choose.2.1 30 = .ok (.return_, 1) := by decide +kernel
theorem d_B_choose_31 : decode m_B_choose.2.1 31 = .ok (.aload_n 3, 1) := by decide +kernel
theorem d_B_choose_32 : decode m_B_choose.2.1 32 = .ok (.invokevirtual 371, 3) := by decide +kernel
theorem d_B_choose_35 : decode m_B_choose.2.1 35 = .ok (.checkcast 372, 3) := by decide +kernel
theorem d_B_choose_38 : decode m_B_choose.2.1 38 = .ok (.astore 5, 2) := by decide +kernel
theorem d_B_choose_40 : decode m_B_choose.2.1 40 = .ok (.aload 5, 2) := by decide +kernel
theorem d_B_choose_42 : decode m_B_choose.2.1 42 = .ok (.aload_n 1, 1) := by decide +kernel
theorem d_B_choose_43 : decode m_B_choose.2.1 43 = .ok (.getfield 294, 3) := by decide +kernel
theorem d_B_choose_46 : decode m_B_choose.2.1 46 = .ok (.iconst 0, 1) := by decide +kernel
theorem d_B_choose_47 : decode m_B_choose.2.1 47 = .ok (.iastore, 1) := by decide +kernel
theorem d_B_choose_48 : decode m_B_choose.2.1 48 = .ok (.iconst 1, 1) := by decide +kernel
theorem d_B_choose_49 : decode m_B_choose.2.1 49 = .ok (.istore 6, 2) := by decide +kernel
theorem d_B_choose_51 : decode m_B_choose.2.1 51 = .ok (.iload 6, 2) := by decide +kernel
theorem d_B_choose_53 : decode m_B_choose.2.1 53 = .ok (.aload_n 1, 1) := by decide +kernel
theorem d_B_choose_54 : decode m_B_choose.2.1 54 = .ok (.getfield 245, 3) := by decide +kernel
theorem d_B_choose_57 : decode m_B_choose.2.1 57 = .ok (.if_icmp .ge 30, 3) := by decide +kernel
theorem d_B_choose_60 : decode m_B_choose.2.1 60 = .ok (.aload_n 0, 1) := by decide +kernel
theorem d_B_choose_61 : decode m_B_choose.2.1 61 = .ok (.aload_n 1, 1) := by decide +kernel
theorem d_B_choose_62 : decode m_B_choose.2.1 62 = .ok (.aload 5, 2) := by decide +kernel
theorem d_B_choose_64 : decode m_B_choose.2.1 64 = .ok (.invokevirtual 334, 3) := by decide +kernel
theorem d_B_choose_67 : decode m_B_choose.2.1 67 = .ok (.iload 4, 2) := by decide +kernel
theorem d_B_choose_69 : decode m_B_choose.2.1 69 = .ok (.if_icmp .eq 18, 3) := by decide +kernel
theorem d_B_choose_72 : decode m_B_choose.2.1 72 = .ok (.aload 5, 2) := by decide +kernel
theorem d_B_choose_74 : decode m_B_choose.2.1 74 = .ok (.aload_n 1, 1) := by decide +kernel
theorem d_B_choose_75 : decode m_B_choose.2.1 75 = .ok (.getfield 294, 3) := by decide +kernel
theorem d_B_choose_78 : decode m_B_choose.2.1 78 = .ok (.iload 6, 2) := by decide +kernel
theorem d_B_choose_80 : decode m_B_choose.2.1 80 = .ok (.iastore, 1) := by decide +kernel
theorem d_B_choose_81 : decode m_B_choose.2.1 81 = .ok (.iinc 6 1, 3) := by decide +kernel
theorem d_B_choose_84 : decode m_B_choose.2.1 84 = .ok (.goto (-33), 3) := by decide +kernel
theorem d_B_choose_87 : decode m_B_choose.2.1 87 = .ok (.aload_n 1, 1) := by decide +kernel
theorem d_B_choose_88 : decode m_B_choose.2.1 88 = .ok (.aload 5, 2) := by decide +kernel
theorem d_B_choose_90 : decode m_B_choose.2.1 90 = .ok (.putfield 201, 3) := by decide +kernel
theorem d_B_choose_93 : decode m_B_choose.2.1 93 = .ok (.aload_n 1, 1) := by decide +kernel
theorem d_B_choose_94 : decode m_B_choose.2.1 94 = .ok (.iload_n 2, 1) := by decide +kernel
theorem d_B_choose_95 : decode m_B_choose.2.1 95 = .ok (.putfield 281, 3) := by decide +kernel
theorem d_B_choose_98 : decode m_B_choose.2.1 98 = .ok (.aload_n 0, 1) := by decide +kernel
theorem d_B_choose_99 : decode m_B_choose.2.1 99 = .ok (.aload_n 1, 1) := by decide +kernel
theorem d_B_choose_100 : decode m_B_choose.2.1 100 = .ok (.invokevirtual 204, 3) := by decide +kernel
theorem d_B_choose_103 : decode m_B_choose.2.1 103 = .ok (.return_, 1) := by decide +kernel
theorem d_B_sendChoices_0 : decode m_B_sendChoices.2.1 0 = .ok (.iconst 0, 1) := by decide +kernel
theorem d_B_sendChoices_1 : decode m_B_sendChoices.2.1 1 = .ok (.istore_n 2, 1) := by decide +kernel
theorem d_B_sendChoices_2 : decode m_B_sendChoices.2.1 2 = .ok (.iload_n 2, 1) := by decide +kernel
theorem d_B_sendChoices_3 : decode m_B_sendChoices.2.1 3 = .ok (.aload_n 1, 1) := by decide +kernel
theorem d_B_sendChoices_4 : decode m_B_sendChoices.2.1 4 = .ok (.getfield 347, 3) := by decide +kernel
theorem d_B_sendChoices_7 : decode m_B_sendChoices.2.1 7 = .ok (.if_icmp .ge 45, 3) := by decide +kernel
theorem d_B_sendChoices_10 : decode m_B_sendChoices.2.1 10 = .ok (.aload_n 0, 1) := by decide +kernel
theorem d_B_sendChoices_11 : decode m_B_sendChoices.2.1 11 = .ok (.new 21, 3) := by decide +kernel
theorem d_B_sendChoices_14 : decode m_B_sendChoices.2.1 14 = .ok (.dup, 1) := by decide +kernel
theorem d_B_sendChoices_15 : decode m_B_sendChoices.2.1 15 = .ok (.iconst 3, 1) := by decide +kernel
theorem d_B_sendChoices_16 : decode m_B_sendChoices.2.1 16 = .ok (.aload_n 1, 1) := by decide +kernel
theorem d_B_sendChoices_17 : decode m_B_sendChoices.2.1 17 = .ok (.getfield 294, 3) := by decide +kernel
theorem d_B_sendChoices_20 : decode m_B_sendChoices.2.1 20 = .ok (.aload_n 1, 1) := by decide +kernel
theorem d_B_sendChoices_21 : decode m_B_sendChoices.2.1 21 = .ok (.getfield 350, 3) := by decide +kernel
theorem d_B_sendChoices_24 : decode m_B_sendChoices.2.1 24 = .ok (.iload_n 2, 1) := by decide +kernel
theorem d_B_sendChoices_25 : decode m_B_sendChoices.2.1 25 = .ok (.aaload, 1) := by decide +kernel
theorem d_B_sendChoices_26 : decode m_B_sendChoices.2.1 26 = .ok (.getfield 354, 3) := by decide +kernel
theorem d_B_sendChoices_29 : decode m_B_sendChoices.2.1 29 = .ok (.getfield 294, 3) := by decide +kernel
theorem d_B_sendChoices_32 : decode m_B_sendChoices.2.1 32 = .ok (.aload_n 1, 1) := by decide +kernel
theorem d_B_sendChoices_33 : decode m_B_sendChoices.2.1 33 = .ok (.getfield 281, 3) := by decide +kernel
theorem d_B_sendChoices_36 : decode m_B_sendChoices.2.1 36 = .ok (.aload_n 1, 1) := by decide +kernel
theorem d_B_sendChoices_37 : decode m_B_sendChoices.2.1 37 = .ok (.getfield 201, 3) := by decide +kernel
theorem d_B_sendChoices_40 : decode m_B_sendChoices.2.1 40 = .ok (.invokespecial 376, 3) := by decide +kernel
theorem d_B_sendChoices_43 : decode m_B_sendChoices.2.1 43 = .ok (.invokevirtual 379, 3) := by decide +kernel
theorem d_B_sendChoices_46 : decode m_B_sendChoices.2.1 46 = .ok (.iinc 2 1, 3) := by decide +kernel
theorem d_B_sendChoices_49 : decode m_B_sendChoices.2.1 49 = .ok (.goto (-47), 3) := by decide +kernel
theorem d_B_sendChoices_52 : decode m_B_sendChoices.2.1 52 = .ok (.return_, 1) := by decide +kernel
theorem d_B_sendTable_0 : decode m_B_sendTable.2.1 0 = .ok (.aload_n 1, 1) := by decide +kernel
theorem d_B_sendTable_1 : decode m_B_sendTable.2.1 1 = .ok (.getfield 239, 3) := by decide +kernel
theorem d_B_sendTable_4 : decode m_B_sendTable.2.1 4 = .ok (.iconst (-1), 1) := by decide +kernel
theorem d_B_sendTable_5 : decode m_B_sendTable.2.1 5 = .ok (.if_icmp .eq 31, 3) := by decide +kernel
theorem d_B_sendTable_8 : decode m_B_sendTable.2.1 8 = .ok (.aload_n 0, 1) := by decide +kernel
theorem d_B_sendTable_9 : decode m_B_sendTable.2.1 9 = .ok (.new 21, 3) := by decide +kernel
theorem d_B_sendTable_12 : decode m_B_sendTable.2.1 12 = .ok (.dup, 1) := by decide +kernel
theorem d_B_sendTable_13 : decode m_B_sendTable.2.1 13 = .ok (.iconst 2, 1) := by decide +kernel
theorem d_B_sendTable_14 : decode m_B_sendTable.2.1 14 = .ok (.aload_n 1, 1) := by decide +kernel
theorem d_B_sendTable_15 : decode m_B_sendTable.2.1 15 = .ok (.getfield 294, 3) := by decide +kernel
theorem d_B_sendTable_18 : decode m_B_sendTable.2.1 18 = .ok (.aload_n 1, 1) := by decide +kernel
theorem d_B_sendTable_19 : decode m_B_sendTable.2.1 19 = .ok (.getfield 239, 3) := by decide +kernel
theorem d_B_sendTable_22 : decode m_B_sendTable.2.1 22 = .ok (.aload_n 1, 1) := by decide +kernel
theorem d_B_sendTable_23 : decode m_B_sendTable.2.1 23 = .ok (.getfield 327, 3) := by decide +kernel
theorem d_B_sendTable_26 : decode m_B_sendTable.2.1 26 = .ok (.aload_n 1, 1) := by decide +kernel
theorem d_B_sendTable_27 : decode m_B_sendTable.2.1 27 = .ok (.getfield 195, 3) := by decide +kernel
theorem d_B_sendTable_30 : decode m_B_sendTable.2.1 30 = .ok (.invokespecial 376, 3) := by decide +kernel
theorem d_B_sendTable_33 : decode m_B_sendTable.2.1 33 = .ok (.invokevirtual 379, 3) := by decide +kernel
theorem d_B_sendTable_36 : decode m_B_sendTable.2.1 36 = .ok (.return_, 1) := by decide +kernel
theorem d_B_letter_0 : decode m_B_letter.2.1 0 = .ok (.iload_n 2, 1) := by decide +kernel
theorem d_B_letter_1 : decode m_B_letter.2.1 1 = .ok (.ifCond .lt 8, 3) := by decide +kernel
theorem d_B_letter_4 : decode m_B_letter.2.1 4 = .ok (.iload_n 2, 1) := by decide +kernel
theorem d_B_letter_5 : decode m_B_letter.2.1 5 = .ok (.iconst 2, 1) := by decide +kernel
theorem d_B_letter_6 : decode m_B_letter.2.1 6 = .ok (.if_icmp .le 13, 3) := by decide +kernel
theorem d_B_letter_9 : decode m_B_letter.2.1 9 = .ok (.new 35, 3) := by decide +kernel
theorem d_B_letter_12 : decode m_B_letter.2.1 12 = .ok (.dup, 1) := by decide +kernel
theorem d_B_letter_13 : decode m_B_letter.2.1 13 = .ok (.ldc 129, 2) := by decide +kernel
theorem d_B_letter_15 : decode m_B_letter.2.1 15 = .ok (.invokespecial 39, 3) := by decide +kernel
theorem d_B_letter_18 : decode m_B_letter.2.1 18 = .ok (.athrow, 1) := by decide +kernel
theorem d_B_letter_19 : decode m_B_letter.2.1 19 = .ok (.aload_n 0, 1) := by decide +kernel
theorem d_B_letter_20 : decode m_B_letter.2.1 20 = .ok (.iload_n 1, 1) := by decide +kernel
theorem d_B_letter_21 : decode m_B_letter.2.1 21 = .ok (.invokevirtual 131, 3) := by decide +kernel
theorem d_B_letter_24 : decode m_B_letter.2.1 24 = .ok (.ifCond .ne 13, 3) := by decide +kernel
theorem d_B_letter_27 : decode m_B_letter.2.1 27 = .ok (.new 134, 3) := by decide +kernel
theorem d_B_letter_30 : decode m_B_letter.2.1 30 = .ok (.dup, 1) := by decide +kernel
theorem d_B_letter_31 : decode m_B_letter.2.1 31 = .ok (.ldc 136, 2) := by decide +kernel
theorem d_B_letter_33 : decode m_B_letter.2.1 33 = .ok (.invokespecial 138, 3) := by decide +kernel
theorem d_B_letter_36 : decode m_B_letter.2.1 36 = .ok (.athrow, 1) := by decide +kernel
theorem d_B_letter_37 : decode m_B_letter.2.1 37 = .ok (.iload_n 2, 1) := by decide +kernel
theorem d_B_letter_38 : decode m_B_letter.2.1 38 = .ok (.iconst 2, 1) := by decide +kernel
theorem d_B_letter_39 : decode m_B_letter.2.1 39 = .ok (.if_icmp .ne 22, 3) := by decide +kernel
theorem d_B_letter_42 : decode m_B_letter.2.1 42 = .ok (.aload_n 0, 1) := by decide +kernel
theorem d_B_letter_43 : decode m_B_letter.2.1 43 = .ok (.getfield 139, 3) := by decide +kernel
theorem d_B_letter_46 : decode m_B_letter.2.1 46 = .ok (.bipush 20, 2) := by decide +kernel
theorem d_B_letter_48 : decode m_B_letter.2.1 48 = .ok (.if_icmp .ne 13, 3) := by decide +kernel
theorem d_B_letter_51 : decode m_B_letter.2.1 51 = .ok (.new 46, 3) := by decide +kernel
theorem d_B_letter_54 : decode m_B_letter.2.1 54 = .ok (.dup, 1) := by decide +kernel
theorem d_B_letter_55 : decode m_B_letter.2.1 55 = .ok (.ldc 142, 2) := by decide +kernel
theorem d_B_letter_57 : decode m_B_letter.2.1 57 = .ok (.invokespecial 50, 3) := by decide +kernel
theorem d_B_letter_60 : decode m_B_letter.2.1 60 = .ok (.athrow, 1) := by decide +kernel
theorem d_B_letter_61 : decode m_B_letter.2.1 61 = .ok (.aload_n 0, 1) := by decide +kernel
theorem d_B_letter_62 : decode m_B_letter.2.1 62 = .ok (.getfield 23, 3) := by decide +kernel
theorem d_B_letter_65 : decode m_B_letter.2.1 65 = .ok (.iload_n 1, 1) := by decide +kernel
theorem d_B_letter_66 : decode m_B_letter.2.1 66 = .ok (.aaload, 1) := by decide +kernel
theorem d_B_letter_67 : decode m_B_letter.2.1 67 = .ok (.astore_n 3, 1) := by decide +kernel
theorem d_B_letter_68 : decode m_B_letter.2.1 68 = .ok (.iload_n 2, 1) := by decide +kernel
theorem d_B_letter_69 : decode m_B_letter.2.1 69 = .ok (.iconst 2, 1) := by decide +kernel
theorem d_B_letter_70 : decode m_B_letter.2.1 70 = .ok (.if_icmp .ne 28, 3) := by decide +kernel
theorem d_B_letter_73 : decode m_B_letter.2.1 73 = .ok (.aload_n 0, 1) := by decide +kernel
theorem d_B_letter_74 : decode m_B_letter.2.1 74 = .ok (.getfield 23, 3) := by decide +kernel
theorem d_B_letter_77 : decode m_B_letter.2.1 77 = .ok (.aload_n 0, 1) := by decide +kernel
theorem d_B_letter_78 : decode m_B_letter.2.1 78 = .ok (.getfield 139, 3) := by decide +kernel
theorem d_B_letter_81 : decode m_B_letter.2.1 81 = .ok (.aload_n 3, 1) := by decide +kernel
theorem d_B_letter_82 : decode m_B_letter.2.1 82 = .ok (.aastore, 1) := by decide +kernel
theorem d_B_letter_83 : decode m_B_letter.2.1 83 = .ok (.aload_n 0, 1) := by decide +kernel
theorem d_B_letter_84 : decode m_B_letter.2.1 84 = .ok (.dup, 1) := by decide +kernel
theorem d_B_letter_85 : decode m_B_letter.2.1 85 = .ok (.getfield 139, 3) := by decide +kernel
theorem d_B_letter_88 : decode m_B_letter.2.1 88 = .ok (.iconst 1, 1) := by decide +kernel
theorem d_B_letter_89 : decode m_B_letter.2.1 89 = .ok (.iadd, 1) := by decide +kernel
theorem d_B_letter_90 : decode m_B_letter.2.1 90 = .ok (.putfield 139, 3) := by decide +kernel
theorem d_B_letter_93 : decode m_B_letter.2.1 93 = .ok (.aload_n 0, 1) := by decide +kernel
theorem d_B_letter_94 : decode m_B_letter.2.1 94 = .ok (.getfield 139, 3) := by decide +kernel
theorem d_B_letter_97 : decode m_B_letter.2.1 97 = .ok (.ireturn, 1) := by decide +kernel
theorem d_B_letter_98 : decode m_B_letter.2.1 98 = .ok (.aload_n 0, 1) := by decide +kernel
theorem d_B_letter_99 : decode m_B_letter.2.1 99 = .ok (.iload_n 1, 1) := by decide +kernel
theorem d_B_letter_100 : decode m_B_letter.2.1 100 = .ok (.invokevirtual 144, 3) := by decide +kernel
theorem d_B_letter_103 : decode m_B_letter.2.1 103 = .ok (.iload_n 2, 1) := by decide +kernel
theorem d_B_letter_104 : decode m_B_letter.2.1 104 = .ok (.iconst 1, 1) := by decide +kernel
theorem d_B_letter_105 : decode m_B_letter.2.1 105 = .ok (.if_icmp .eq 8, 3) := by decide +kernel
theorem d_B_letter_108 : decode m_B_letter.2.1 108 = .ok (.aload_n 0, 1) := by decide +kernel
theorem d_B_letter_109 : decode m_B_letter.2.1 109 = .ok (.aload_n 3, 1) := by decide +kernel
theorem d_B_letter_110 : decode m_B_letter.2.1 110 = .ok (.invokevirtual 148, 3) := by decide +kernel
theorem d_B_letter_113 : decode m_B_letter.2.1 113 = .ok (.aload_n 0, 1) := by decide +kernel
theorem d_B_letter_114 : decode m_B_letter.2.1 114 = .ok (.getfield 139, 3) := by decide +kernel
theorem d_B_letter_117 : decode m_B_letter.2.1 117 = .ok (.ireturn, 1) := by decide +kernel
theorem d_B_takeOut_0 : decode m_B_takeOut.2.1 0 = .ok (.aload_n 0, 1) := by decide +kernel
theorem d_B_takeOut_1 : decode m_B_takeOut.2.1 1 = .ok (.dup, 1) := by decide +kernel
theorem d_B_takeOut_2 : decode m_B_takeOut.2.1 2 = .ok (.getfield 139, 3) := by decide +kernel
theorem d_B_takeOut_5 : decode m_B_takeOut.2.1 5 = .ok (.iconst 1, 1) := by decide +kernel
theorem d_B_takeOut_6 : decode m_B_takeOut.2.1 6 = .ok (.isub, 1) := by decide +kernel
theorem d_B_takeOut_7 : decode m_B_takeOut.2.1 7 = .ok (.putfield 139, 3) := by decide +kernel
theorem d_B_takeOut_10 : decode m_B_takeOut.2.1 10 = .ok (.iload_n 1, 1) := by decide +kernel
theorem d_B_takeOut_11 : decode m_B_takeOut.2.1 11 = .ok (.istore_n 2, 1) := by decide +kernel
theorem d_B_takeOut_12 : decode m_B_takeOut.2.1 12 = .ok (.iload_n 2, 1) := by decide +kernel
theorem d_B_takeOut_13 : decode m_B_takeOut.2.1 13 = .ok (.aload_n 0, 1) := by decide +kernel
theorem d_B_takeOut_14 : decode m_B_takeOut.2.1 14 = .ok (.getfield 139, 3) := by decide +kernel
theorem d_B_takeOut_17 : decode m_B_takeOut.2.1 17 = .ok (.if_icmp .ge 23, 3) := by decide +kernel
theorem d_B_takeOut_20 : decode m_B_takeOut.2.1 20 = .ok (.aload_n 0, 1) := by decide +kernel
theorem d_B_takeOut_21 : decode m_B_takeOut.2.1 21 = .ok (.getfield 23, 3) := by decide +kernel
theorem d_B_takeOut_24 : decode m_B_takeOut.2.1 24 = .ok (.iload_n 2, 1) := by decide +kernel
theorem d_B_takeOut_25 : decode m_B_takeOut.2.1 25 = .ok (.aload_n 0, 1) := by decide +kernel
theorem d_B_takeOut_26 : decode m_B_takeOut.2.1 26 = .ok (.getfield 23, 3) := by decide +kernel
theorem d_B_takeOut_29 : decode m_B_takeOut.2.1 29 = .ok (.iload_n 2, 1) := by decide +kernel
theorem d_B_takeOut_30 : decode m_B_takeOut.2.1 30 = .ok (.iconst 1, 1) := by decide +kernel
theorem d_B_takeOut_31 : decode m_B_takeOut.2.1 31 = .ok (.iadd, 1) := by decide +kernel
theorem d_B_takeOut_32 : decode m_B_takeOut.2.1 32 = .ok (.aaload, 1) := by decide +kernel
theorem d_B_takeOut_33 : decode m_B_takeOut.2.1 33 = .ok (.aastore, 1) := by decide +kernel
theorem d_B_takeOut_34 : decode m_B_takeOut.2.1 34 = .ok (.iinc 2 1, 3) := by decide +kernel
theorem d_B_takeOut_37 : decode m_B_takeOut.2.1 37 = .ok (.goto (-25), 3) := by decide +kernel
theorem d_B_takeOut_40 : decode m_B_takeOut.2.1 40 = .ok (.aload_n 0, 1) := by decide +kernel
theorem d_B_takeOut_41 : decode m_B_takeOut.2.1 41 = .ok (.getfield 23, 3) := by decide +kernel
theorem d_B_takeOut_44 : decode m_B_takeOut.2.1 44 = .ok (.aload_n 0, 1) := by decide +kernel
theorem d_B_takeOut_45 : decode m_B_takeOut.2.1 45 = .ok (.getfield 139, 3) := by decide +kernel
theorem d_B_takeOut_48 : decode m_B_takeOut.2.1 48 = .ok (.aconst_null, 1) := by decide +kernel
theorem d_B_takeOut_49 : decode m_B_takeOut.2.1 49 = .ok (.aastore, 1) := by decide +kernel
theorem d_B_takeOut_50 : decode m_B_takeOut.2.1 50 = .ok (.return_, 1) := by decide +kernel
end
section
/-! DECODED: written by wip/whole/gen/dec.py -/
theorem d_B_deliver_0 : decode m_B_deliver.2.1 0 = .ok (.aload_n 0, 1) := by decide +kernel
theorem d_B_deliver_1 : decode m_B_deliver.2.1 1 = .ok (.getfield 11, 3) := by decide +kernel
theorem d_B_deliver_4 : decode m_B_deliver.2.1 4 = .ok (.aload_n 1, 1) := by decide +kernel
theorem d_B_deliver_5 : decode m_B_deliver.2.1 5 = .ok (.getfield 158, 3) := by decide +kernel
theorem d_B_deliver_8 : decode m_B_deliver.2.1 8 = .ok (.aaload, 1) := by decide +kernel
theorem d_B_deliver_9 : decode m_B_deliver.2.1 9 = .ok (.astore_n 2, 1) := by decide +kernel
theorem d_B_deliver_10 : decode m_B_deliver.2.1 10 = .ok (.aload_n 1, 1) := by decide +kernel
theorem d_B_deliver_11 : decode m_B_deliver.2.1 11 = .ok (.getfield 152, 3) := by decide +kernel
theorem d_B_deliver_14 : decode m_B_deliver.2.1 14 = .ok (.tableswitch 99 0 2 #[26, 52, 78], 26) := by decide +kernel
theorem d_B_deliver_40 : decode m_B_deliver.2.1 40 = .ok (.aload_n 0, 1) := by decide +kernel
theorem d_B_deliver_41 : decode m_B_deliver.2.1 41 = .ok (.aload_n 2, 1) := by decide +kernel
theorem d_B_deliver_42 : decode m_B_deliver.2.1 42 = .ok (.aload_n 1, 1) := by decide +kernel
theorem d_B_deliver_43 : decode m_B_deliver.2.1 43 = .ok (.invokevirtual 271, 3) := by decide +kernel
theorem d_B_deliver_46 : decode m_B_deliver.2.1 46 = .ok (.ifCond .eq 91, 3) := by decide +kernel
theorem d_B_deliver_49 : decode m_B_deliver.2.1 49 = .ok (.aload_n 0, 1) := by decide +kernel
theorem d_B_deliver_50 : decode m_B_deliver.2.1 50 = .ok (.aload_n 2, 1) := by decide +kernel
theorem d_B_deliver_51 : decode m_B_deliver.2.1 51 = .ok (.invokevirtual 121, 3) := by decide +kernel
theorem d_B_deliver_54 : decode m_B_deliver.2.1 54 = .ok (.ifCond .eq 83, 3) := by decide +kernel
theorem d_B_deliver_57 : decode m_B_deliver.2.1 57 = .ok (.aload_n 0, 1) := by decide +kernel
theorem d_B_deliver_58 : decode m_B_deliver.2.1 58 = .ok (.aload_n 2, 1) := by decide +kernel
theorem d_B_deliver_59 : decode m_B_deliver.2.1 59 = .ok (.iconst 1, 1) := by decide +kernel
theorem d_B_deliver_60 : decode m_B_deliver.2.1 60 = .ok (.invokevirtual 125, 3) := by decide +kernel
theorem d_B_deliver_63 : decode m_B_deliver.2.1 63 = .ok (.goto 74, 3) := by decide +kernel
theorem d_B_deliver_66 : decode m_B_deliver.2.1 66 = .ok (.aload_n 0, 1) := by decide +kernel
theorem d_B_deliver_67 : decode m_B_deliver.2.1 67 = .ok (.aload_n 2, 1) := by decide +kernel
theorem d_B_deliver_68 : decode m_B_deliver.2.1 68 = .ok (.aload_n 1, 1) := by decide +kernel
theorem d_B_deliver_69 : decode m_B_deliver.2.1 69 = .ok (.invokevirtual 275, 3) := by decide +kernel
theorem d_B_deliver_72 : decode m_B_deliver.2.1 72 = .ok (.ifCond .eq 65, 3) := by decide +kernel
theorem d_B_deliver_75 : decode m_B_deliver.2.1 75 = .ok (.aload_n 0, 1) := by decide +kernel
theorem d_B_deliver_76 : decode m_B_deliver.2.1 76 = .ok (.aload_n 2, 1) := by decide +kernel
theorem d_B_deliver_77 : decode m_B_deliver.2.1 77 = .ok (.invokevirtual 121, 3) := by decide +kernel
theorem d_B_deliver_80 : decode m_B_deliver.2.1 80 = .ok (.ifCond .eq 57, 3) := by decide +kernel
theorem d_B_deliver_83 : decode m_B_deliver.2.1 83 = .ok (.aload_n 0, 1) := by decide +kernel
theorem d_B_deliver_84 : decode m_B_deliver.2.1 84 = .ok (.aload_n 2, 1) := by decide +kernel
theorem d_B_deliver_85 : decode m_B_deliver.2.1 85 = .ok (.iconst 1, 1) := by decide +kernel
theorem d_B_deliver_86 : decode m_B_deliver.2.1 86 = .ok (.invokevirtual 125, 3) := by decide +kernel
theorem d_B_deliver_89 : decode m_B_deliver.2.1 89 = .ok (.goto 48, 3) := by decide +kernel
theorem d_B_deliver_92 : decode m_B_deliver.2.1 92 = .ok (.aload_n 0, 1) := by decide +kernel
theorem d_B_deliver_93 : decode m_B_deliver.2.1 93 = .ok (.aload_n 2, 1) := by decide +kernel
theorem d_B_deliver_94 : decode m_B_deliver.2.1 94 = .ok (.aload_n 1, 1) := by decide +kernel
theorem d_B_deliver_95 : decode m_B_deliver.2.1 95 = .ok (.invokevirtual 278, 3) := by decide +kernel
theorem d_B_deliver_98 : decode m_B_deliver.2.1 98 = .ok (.ifCond .eq 39, 3) := by decide +kernel
theorem d_B_deliver_101 : decode m_B_deliver.2.1 101 = .ok (.aload_n 0, 1) := by decide +kernel
theorem d_B_deliver_102 : decode m_B_deliver.2.1 102 = .ok (.aload_n 2, 1) := by decide +kernel
theorem d_B_deliver_103 : decode m_B_deliver.2.1 103 = .ok (.aload_n 1, 1) := by decide +kernel
theorem d_B_deliver_104 : decode m_B_deliver.2.1 104 = .ok (.getfield 161, 3) := by decide +kernel
theorem d_B_deliver_107 : decode m_B_deliver.2.1 107 = .ok (.invokevirtual 125, 3) := by decide +kernel
theorem d_B_deliver_110 : decode m_B_deliver.2.1 110 = .ok (.goto 27, 3) := by decide +kernel
theorem d_B_deliver_113 : decode m_B_deliver.2.1 113 = .ok (.aload_n 1, 1) := by decide +kernel
theorem d_B_deliver_114 : decode m_B_deliver.2.1 114 = .ok (.getfield 161, 3) := by decide +kernel
theorem d_B_deliver_117 : decode m_B_deliver.2.1 117 = .ok (.aload_n 2, 1) := by decide +kernel
theorem d_B_deliver_118 : decode m_B_deliver.2.1 118 = .ok (.getfield 281, 3) := by decide +kernel
theorem d_B_deliver_121 : decode m_B_deliver.2.1 121 = .ok (.if_icmp .le 16, 3) := by decide +kernel
theorem d_B_deliver_124 : decode m_B_deliver.2.1 124 = .ok (.aload_n 0, 1) := by decide +kernel
theorem d_B_deliver_125 : decode m_B_deliver.2.1 125 = .ok (.aload_n 2, 1) := by decide +kernel
theorem d_B_deliver_126 : decode m_B_deliver.2.1 126 = .ok (.aload_n 1, 1) := by decide +kernel
theorem d_B_deliver_127 : decode m_B_deliver.2.1 127 = .ok (.getfield 161, 3) := by decide +kernel
theorem d_B_deliver_130 : decode m_B_deliver.2.1 130 = .ok (.aload_n 1, 1) := by decide +kernel
theorem d_B_deliver_131 : decode m_B_deliver.2.1 131 = .ok (.getfield 284, 3) := by decide +kernel
theorem d_B_deliver_134 : decode m_B_deliver.2.1 134 = .ok (.invokevirtual 287, 3) := by decide +kernel
theorem d_B_deliver_137 : decode m_B_deliver.2.1 137 = .ok (.return_, 1) := by decide +kernel
theorem d_B_takesToken_0 : decode m_B_takesToken.2.1 0 = .ok (.aload_n 1, 1) := by decide +kernel
theorem d_B_takesToken_1 : decode m_B_takesToken.2.1 1 = .ok (.getfield 176, 3) := by decide +kernel
theorem d_B_takesToken_4 : decode m_B_takesToken.2.1 4 = .ok (.getstatic 291, 3) := by decide +kernel
theorem d_B_takesToken_7 : decode m_B_takesToken.2.1 7 = .ok (.if_acmp .ne 41, 3) := by decide +kernel
theorem d_B_takesToken_10 : decode m_B_takesToken.2.1 10 = .ok (.aload_n 1, 1) := by decide +kernel
theorem d_B_takesToken_11 : decode m_B_takesToken.2.1 11 = .ok (.aload_n 2, 1) := by decide +kernel
theorem d_B_takesToken_12 : decode m_B_takesToken.2.1 12 = .ok (.getfield 155, 3) := by decide +kernel
theorem d_B_takesToken_15 : decode m_B_takesToken.2.1 15 = .ok (.putfield 239, 3) := by decide +kernel
theorem d_B_takesToken_18 : decode m_B_takesToken.2.1 18 = .ok (.aload_n 1, 1) := by decide +kernel
theorem d_B_takesToken_19 : decode m_B_takesToken.2.1 19 = .ok (.aload_n 1, 1) := by decide +kernel
theorem d_B_takesToken_20 : decode m_B_takesToken.2.1 20 = .ok (.getfield 93, 3) := by decide +kernel
theorem d_B_takesToken_23 : decode m_B_takesToken.2.1 23 = .ok (.aload_n 2, 1) := by decide +kernel
theorem d_B_takesToken_24 : decode m_B_takesToken.2.1 24 = .ok (.getfield 161, 3) := by decide +kernel
theorem d_B_takesToken_27 : decode m_B_takesToken.2.1 27 = .ok (.iand, 1) := by decide +kernel
theorem d_B_takesToken_28 : decode m_B_takesToken.2.1 28 = .ok (.putfield 224, 3) := by decide +kernel
theorem d_B_takesToken_31 : decode m_B_takesToken.2.1 31 = .ok (.aload_n 1, 1) := by decide +kernel
theorem d_B_takesToken_32 : decode m_B_takesToken.2.1 32 = .ok (.aload_n 2, 1) := by decide +kernel
theorem d_B_takesToken_33 : decode m_B_takesToken.2.1 33 = .ok (.getfield 161, 3) := by decide +kernel
theorem d_B_takesToken_36 : decode m_B_takesToken.2.1 36 = .ok (.iconst 1, 1) := by decide +kernel
theorem d_B_takesToken_37 : decode m_B_takesToken.2.1 37 = .ok (.aload_n 1, 1) := by decide +kernel
theorem d_B_takesToken_38 : decode m_B_takesToken.2.1 38 = .ok (.getfield 294, 3) := by decide +kernel
theorem d_B_takesToken_41 : decode m_B_takesToken.2.1 41 = .ok (.ishl, 1) := by decide +kernel
theorem d_B_takesToken_42 : decode m_B_takesToken.2.1 42 = .ok (.ior, 1) := by decide +kernel
theorem d_B_takesToken_43 : decode m_B_takesToken.2.1 43 = .ok (.putfield 118, 3) := by decide +kernel
theorem d_B_takesToken_46 : decode m_B_takesToken.2.1 46 = .ok (.iconst 1, 1) := by decide +kernel
theorem d_B_takesToken_47 : decode m_B_takesToken.2.1 47 = .ok (.ireturn, 1) := by decide +kernel
theorem d_B_takesToken_48 : decode m_B_takesToken.2.1 48 = .ok (.aload_n 1, 1) := by decide +kernel
theorem d_B_takesToken_49 : decode m_B_takesToken.2.1 49 = .ok (.getfield 176, 3) := by decide +kernel
theorem d_B_takesToken_52 : decode m_B_takesToken.2.1 52 = .ok (.getstatic 189, 3) := by decide +kernel
theorem d_B_takesToken_55 : decode m_B_takesToken.2.1 55 = .ok (.if_acmp .ne 19, 3) := by decide +kernel
theorem d_B_takesToken_58 : decode m_B_takesToken.2.1 58 = .ok (.aload_n 1, 1) := by decide +kernel
theorem d_B_takesToken_59 : decode m_B_takesToken.2.1 59 = .ok (.getfield 239, 3) := by decide +kernel
theorem d_B_takesToken_62 : decode m_B_takesToken.2.1 62 = .ok (.aload_n 2, 1) := by decide +kernel
theorem d_B_takesToken_63 : decode m_B_takesToken.2.1 63 = .ok (.getfield 155, 3) := by decide +kernel
theorem d_B_takesToken_66 : decode m_B_takesToken.2.1 66 = .ok (.if_icmp .ne 8, 3) := by decide +kernel
theorem d_B_takesToken_69 : decode m_B_takesToken.2.1 69 = .ok (.aload_n 0, 1) := by decide +kernel
theorem d_B_takesToken_70 : decode m_B_takesToken.2.1 70 = .ok (.aload_n 1, 1) := by decide +kernel
theorem d_B_takesToken_71 : decode m_B_takesToken.2.1 71 = .ok (.invokevirtual 192, 3) := by decide +kernel
theorem d_B_takesToken_74 : decode m_B_takesToken.2.1 74 = .ok (.iconst 0, 1) := by decide +kernel
theorem d_B_takesToken_75 : decode m_B_takesToken.2.1 75 = .ok (.ireturn, 1) := by decide +kernel
theorem d_B_takesBack_0 : decode m_B_takesBack.2.1 0 = .ok (.aload_n 1, 1) := by decide +kernel
theorem d_B_takesBack_1 : decode m_B_takesBack.2.1 1 = .ok (.getfield 176, 3) := by decide +kernel
theorem d_B_takesBack_4 : decode m_B_takesBack.2.1 4 = .ok (.getstatic 180, 3) := by decide +kernel
theorem d_B_takesBack_7 : decode m_B_takesBack.2.1 7 = .ok (.if_acmp .ne 14, 3) := by decide +kernel
theorem d_B_takesBack_10 : decode m_B_takesBack.2.1 10 = .ok (.aload_n 1, 1) := by decide +kernel
theorem d_B_takesBack_11 : decode m_B_takesBack.2.1 11 = .ok (.getfield 297, 3) := by decide +kernel
theorem d_B_takesBack_14 : decode m_B_takesBack.2.1 14 = .ok (.aload_n 2, 1) := by decide +kernel
theorem d_B_takesBack_15 : decode m_B_takesBack.2.1 15 = .ok (.getfield 155, 3) := by decide +kernel
theorem d_B_takesBack_18 : decode m_B_takesBack.2.1 18 = .ok (.if_icmp .eq 5, 3) := by decide +kernel
theorem d_B_takesBack_21 : decode m_B_takesBack.2.1 21 = .ok (.iconst 0, 1) := by decide +kernel
theorem d_B_takesBack_22 : decode m_B_takesBack.2.1 22 = .ok (.ireturn, 1) := by decide +kernel
theorem d_B_takesBack_23 : decode m_B_takesBack.2.1 23 = .ok (.aload_n 1, 1) := by decide +kernel
theorem d_B_takesBack_24 : decode m_B_takesBack.2.1 24 = .ok (.aload_n 2, 1) := by decide +kernel
theorem d_B_takesBack_25 : decode m_B_takesBack.2.1 25 = .ok (.getfield 161, 3) := by decide +kernel
theorem d_B_takesBack_28 : decode m_B_takesBack.2.1 28 = .ok (.putfield 118, 3) := by decide +kernel
theorem d_B_takesBack_31 : decode m_B_takesBack.2.1 31 = .ok (.iconst 1, 1) := by decide +kernel
theorem d_B_takesBack_32 : decode m_B_takesBack.2.1 32 = .ok (.ireturn, 1) := by decide +kernel
theorem d_B_takesTable_0 : decode m_B_takesTable.2.1 0 = .ok (.aload_n 1, 1) := by decide +kernel
theorem d_B_takesTable_1 : decode m_B_takesTable.2.1 1 = .ok (.aload_n 2, 1) := by decide +kernel
theorem d_B_takesTable_2 : decode m_B_takesTable.2.1 2 = .ok (.getfield 155, 3) := by decide +kernel
theorem d_B_takesTable_5 : decode m_B_takesTable.2.1 5 = .ok (.invokevirtual 300, 3) := by decide +kernel
theorem d_B_takesTable_8 : decode m_B_takesTable.2.1 8 = .ok (.astore_n 3, 1) := by decide +kernel
theorem d_B_takesTable_9 : decode m_B_takesTable.2.1 9 = .ok (.aload_n 3, 1) := by decide +kernel
theorem d_B_takesTable_10 : decode m_B_takesTable.2.1 10 = .ok (.ifnull 14, 3) := by decide +kernel
theorem d_B_takesTable_13 : decode m_B_takesTable.2.1 13 = .ok (.aload_n 2, 1) := by decide +kernel
theorem d_B_takesTable_14 : decode m_B_takesTable.2.1 14 = .ok (.getfield 161, 3) := by decide +kernel
theorem d_B_takesTable_17 : decode m_B_takesTable.2.1 17 = .ok (.aload_n 3, 1) := by decide +kernel
theorem d_B_takesTable_18 : decode m_B_takesTable.2.1 18 = .ok (.getfield 304, 3) := by decide +kernel
theorem d_B_takesTable_21 : decode m_B_takesTable.2.1 21 = .ok (.if_icmp .gt 5, 3) := by decide +kernel
theorem d_B_takesTable_24 : decode m_B_takesTable.2.1 24 = .ok (.iconst 0, 1) := by decide +kernel
theorem d_B_takesTable_25 : decode m_B_takesTable.2.1 25 = .ok (.ireturn, 1) := by decide +kernel
theorem d_B_takesTable_26 : decode m_B_takesTable.2.1 26 = .ok (.aload_n 3, 1) := by decide +kernel
theorem d_B_takesTable_27 : decode m_B_takesTable.2.1 27 = .ok (.aload_n 2, 1) := by decide +kernel
theorem d_B_takesTable_28 : decode m_B_takesTable.2.1 28 = .ok (.getfield 161, 3) := by decide +kernel
theorem d_B_takesTable_31 : decode m_B_takesTable.2.1 31 = .ok (.putfield 304, 3) := by decide +kernel
theorem d_B_takesTable_34 : decode m_B_takesTable.2.1 34 = .ok (.aload_n 3, 1) := by decide +kernel
theorem d_B_takesTable_35 : decode m_B_takesTable.2.1 35 = .ok (.aload_n 2, 1) := by decide +kernel
theorem d_B_takesTable_36 : decode m_B_takesTable.2.1 36 = .ok (.getfield 284, 3) := by decide +kernel
theorem d_B_takesTable_39 : decode m_B_takesTable.2.1 39 = .ok (.putfield 307, 3) := by decide +kernel
theorem d_B_takesTable_42 : decode m_B_takesTable.2.1 42 = .ok (.aload_n 1, 1) := by decide +kernel
theorem d_B_takesTable_43 : decode m_B_takesTable.2.1 43 = .ok (.getfield 176, 3) := by decide +kernel
theorem d_B_takesTable_46 : decode m_B_takesTable.2.1 46 = .ok (.getstatic 189, 3) := by decide +kernel
theorem d_B_takesTable_49 : decode m_B_takesTable.2.1 49 = .ok (.if_acmp .ne 14, 3) := by decide +kernel
theorem d_B_takesTable_52 : decode m_B_takesTable.2.1 52 = .ok (.aload_n 1, 1) := by decide +kernel
theorem d_B_takesTable_53 : decode m_B_takesTable.2.1 53 = .ok (.invokevirtual 308, 3) := by decide +kernel
theorem d_B_takesTable_56 : decode m_B_takesTable.2.1 56 = .ok (.ifCond .eq 7, 3) := by decide +kernel
theorem d_B_takesTable_59 : decode m_B_takesTable.2.1 59 = .ok (.iconst 1, 1) := by decide +kernel
theorem d_B_takesTable_60 : decode m_B_takesTable.2.1 60 = .ok (.goto 4, 3) := by decide +kernel
theorem d_B_takesTable_63 : decode m_B_takesTable.2.1 63 = .ok (.iconst 0, 1) := by decide +kernel
theorem d_B_takesTable_64 : decode m_B_takesTable.2.1 64 = .ok (.ireturn, 1) := by decide +kernel
theorem d_A_childWith_0 : decode m_A_childWith.2.1 0 = .ok (.iconst 0, 1) := by decide +kernel
theorem d_A_childWith_1 : decode m_A_childWith.2.1 1 = .ok (.istore_n 2, 1) := by decide +kernel
theorem d_A_childWith_2 : decode m_A_childWith.2.1 2 = .ok (.iload_n 2, 1) := by decide +kernel
theorem d_A_childWith_3 : decode m_A_childWith.2.1 3 = .ok (.aload_n 0, 1) := by decide +kernel
theorem d_A_childWith_4 : decode m_A_childWith.2.1 4 = .ok (.getfield 62, 3) := by decide +kernel
theorem d_A_childWith_7 : decode m_A_childWith.2.1 7 = .ok (.if_icmp .ge 32, 3) := by decide +kernel
theorem d_A_childWith_10 : decode m_A_childWith.2.1 10 = .ok (.aload_n 0, 1) := by decide +kernel
theorem d_A_childWith_11 : decode m_A_childWith.2.1 11 = .ok (.getfield 17, 3) := by decide +kernel
theorem d_A_childWith_14 : decode m_A_childWith.2.1 14 = .ok (.iload_n 2, 1) := by decide +kernel
theorem d_A_childWith_15 : decode m_A_childWith.2.1 15 = .ok (.aaload, 1) := by decide +kernel
theorem d_A_childWith_16 : decode m_A_childWith.2.1 16 = .ok (.getfield 68, 3) := by decide +kernel
theorem d_A_childWith_19 : decode m_A_childWith.2.1 19 = .ok (.getfield 37, 3) := by decide +kernel
theorem d_A_childWith_22 : decode m_A_childWith.2.1 22 = .ok (.iload_n 1, 1) := by decide +kernel
theorem d_A_childWith_23 : decode m_A_childWith.2.1 23 = .ok (.if_icmp .ne 10, 3) := by decide +kernel
theorem d_A_childWith_26 : decode m_A_childWith.2.1 26 = .ok (.aload_n 0, 1) := by decide +kernel
theorem d_A_childWith_27 : decode m_A_childWith.2.1 27 = .ok (.getfield 17, 3) := by decide +kernel
theorem d_A_childWith_30 : decode m_A_childWith.2.1 30 = .ok (.iload_n 2, 1) := by decide +kernel
theorem d_A_childWith_31 : decode m_A_childWith.2.1 31 = .ok (.aaload, 1) := by decide +kernel
theorem d_A_childWith_32 : decode m_A_childWith.2.1 32 = .ok (.areturn, 1) := by decide +kernel
theorem d_A_childWith_33 : decode m_A_childWith.2.1 33 = .ok (.iinc 2 1, 3) := by decide +kernel
theorem d_A_childWith_36 : decode m_A_childWith.2.1 36 = .ok (.goto (-34), 3) := by decide +kernel
theorem d_A_childWith_39 : decode m_A_childWith.2.1 39 = .ok (.aconst_null, 1) := by decide +kernel
theorem d_A_childWith_40 : decode m_A_childWith.2.1 40 = .ok (.areturn, 1) := by decide +kernel
theorem d_B_again_0 : decode m_B_again.2.1 0 = .ok (.aload_n 0, 1) := by decide +kernel
theorem d_B_again_1 : decode m_B_again.2.1 1 = .ok (.iload_n 1, 1) := by decide +kernel
theorem d_B_again_2 : decode m_B_again.2.1 2 = .ok (.invokevirtual 69, 3) := by decide +kernel
theorem d_B_again_5 : decode m_B_again.2.1 5 = .ok (.ifCond .ne 13, 3) := by decide +kernel
theorem d_B_again_8 : decode m_B_again.2.1 8 = .ok (.new 35, 3) := by decide +kernel
theorem d_B_again_11 : decode m_B_again.2.1 11 = .ok (.dup, 1) := by decide +kernel
theorem d_B_again_12 : decode m_B_again.2.1 12 = .ok (.ldc 172, 2) := by decide +kernel
theorem d_B_again_14 : decode m_B_again.2.1 14 = .ok (.invokespecial 39, 3) := by decide +kernel
theorem d_B_again_17 : decode m_B_again.2.1 17 = .ok (.athrow, 1) := by decide +kernel
theorem d_B_again_18 : decode m_B_again.2.1 18 = .ok (.aload_n 0, 1) := by decide +kernel
theorem d_B_again_19 : decode m_B_again.2.1 19 = .ok (.getfield 31, 3) := by decide +kernel
theorem d_B_again_22 : decode m_B_again.2.1 22 = .ok (.ifCond .eq 13, 3) := by decide +kernel
theorem d_B_again_25 : decode m_B_again.2.1 25 = .ok (.new 46, 3) := by decide +kernel
theorem d_B_again_28 : decode m_B_again.2.1 28 = .ok (.dup, 1) := by decide +kernel
theorem d_B_again_29 : decode m_B_again.2.1 29 = .ok (.ldc 174, 2) := by decide +kernel
theorem d_B_again_31 : decode m_B_again.2.1 31 = .ok (.invokespecial 50, 3) := by decide +kernel
theorem d_B_again_34 : decode m_B_again.2.1 34 = .ok (.athrow, 1) := by decide +kernel
theorem d_B_again_35 : decode m_B_again.2.1 35 = .ok (.aload_n 0, 1) := by decide +kernel
theorem d_B_again_36 : decode m_B_again.2.1 36 = .ok (.getfield 11, 3) := by decide +kernel
theorem d_B_again_39 : decode m_B_again.2.1 39 = .ok (.iload_n 1, 1) := by decide +kernel
theorem d_B_again_40 : decode m_B_again.2.1 40 = .ok (.aaload, 1) := by decide +kernel
theorem d_B_again_41 : decode m_B_again.2.1 41 = .ok (.astore_n 2, 1) := by decide +kernel
theorem d_B_again_42 : decode m_B_again.2.1 42 = .ok (.aload_n 2, 1) := by decide +kernel
theorem d_B_again_43 : decode m_B_again.2.1 43 = .ok (.getfield 176, 3) := by decide +kernel
theorem d_B_again_46 : decode m_B_again.2.1 46 = .ok (.getstatic 180, 3) := by decide +kernel
theorem d_B_again_49 : decode m_B_again.2.1 49 = .ok (.if_acmp .ne 8, 3) := by decide +kernel
theorem d_B_again_52 : decode m_B_again.2.1 52 = .ok (.aload_n 0, 1) := by decide +kernel
theorem d_B_again_53 : decode m_B_again.2.1 53 = .ok (.aload_n 2, 1) := by decide +kernel
theorem d_B_again_54 : decode m_B_again.2.1 54 = .ok (.invokevirtual 185, 3) := by decide +kernel
theorem d_B_again_57 : decode m_B_again.2.1 57 = .ok (.aload_n 2, 1) := by decide +kernel
theorem d_B_again_58 : decode m_B_again.2.1 58 = .ok (.getfield 176, 3) := by decide +kernel
theorem d_B_again_61 : decode m_B_again.2.1 61 = .ok (.getstatic 189, 3) := by decide +kernel
theorem d_B_again_64 : decode m_B_again.2.1 64 = .ok (.if_acmp .ne 8, 3) := by decide +kernel
theorem d_B_again_67 : decode m_B_again.2.1 67 = .ok (.aload_n 0, 1) := by decide +kernel
theorem d_B_again_68 : decode m_B_again.2.1 68 = .ok (.aload_n 2, 1) := by decide +kernel
theorem d_B_again_69 : decode m_B_again.2.1 69 = .ok (.invokevirtual 192, 3) := by decide +kernel
theorem d_B_again_72 : decode m_B_again.2.1 72 = .ok (.aload_n 2, 1) := by decide +kernel
theorem d_B_again_73 : decode m_B_again.2.1 73 = .ok (.getfield 195, 3) := by decide +kernel
theorem d_B_again_76 : decode m_B_again.2.1 76 = .ok (.ifnull 8, 3) := by decide +kernel
theorem d_B_again_79 : decode m_B_again.2.1 79 = .ok (.aload_n 0, 1) := by decide +kernel
theorem d_B_again_80 : decode m_B_again.2.1 80 = .ok (.aload_n 2, 1) := by decide +kernel
theorem d_B_again_81 : decode m_B_again.2.1 81 = .ok (.invokevirtual 198, 3) := by decide +kernel
theorem d_B_again_84 : decode m_B_again.2.1 84 = .ok (.aload_n 2, 1) := by decide +kernel
theorem d_B_again_85 : decode m_B_again.2.1 85 = .ok (.getfield 201, 3) := by decide +kernel
theorem d_B_again_88 : decode m_B_again.2.1 88 = .ok (.ifnull 8, 3) := by decide +kernel
theorem d_B_again_91 : decode m_B_again.2.1 91 = .ok (.aload_n 0, 1) := by decide +kernel
theorem d_B_again_92 : decode m_B_again.2.1 92 = .ok (.aload_n 2, 1) := by decide +kernel
theorem d_B_again_93 : decode m_B_again.2.1 93 = .ok (.invokevirtual 204, 3) := by decide +kernel
theorem d_B_again_96 : decode m_B_again.2.1 96 = .ok (.aload_n 0, 1) := by decide +kernel
theorem d_B_again_97 : decode m_B_again.2.1 97 = .ok (.getfield 139, 3) := by decide +kernel
theorem d_B_again_100 : decode m_B_again.2.1 100 = .ok (.ireturn, 1) := by decide +kernel
theorem d_B_change_0 : decode m_B_change.2.1 0 = .ok (.aload_n 0, 1) := by decide +kernel
theorem d_B_change_1 : decode m_B_change.2.1 1 = .ok (.iload_n 1, 1) := by decide +kernel
theorem d_B_change_2 : decode m_B_change.2.1 2 = .ok (.iload_n 2, 1) := by decide +kernel
theorem d_B_change_3 : decode m_B_change.2.1 3 = .ok (.iload_n 3, 1) := by decide +kernel
theorem d_B_change_4 : decode m_B_change.2.1 4 = .ok (.iload 4, 2) := by decide +kernel
theorem d_B_change_6 : decode m_B_change.2.1 6 = .ok (.invokevirtual 96, 3) := by decide +kernel
theorem d_B_change_9 : decode m_B_change.2.1 9 = .ok (.astore 6, 2) := by decide +kernel
theorem d_B_change_11 : decode m_B_change.2.1 11 = .ok (.aload 6, 2) := by decide +kernel
theorem d_B_change_13 : decode m_B_change.2.1 13 = .ok (.ifnull 11, 3) := by decide +kernel
theorem d_B_change_16 : decode m_B_change.2.1 16 = .ok (.iload 5, 2) := by decide +kernel
theorem d_B_change_18 : decode m_B_change.2.1 18 = .ok (.invokestatic 58, 3) := by decide +kernel
theorem d_B_change_21 : decode m_B_change.2.1 21 = .ok (.ifCond .ne 13, 3) := by decide +kernel
theorem d_B_change_24 : decode m_B_change.2.1 24 = .ok (.new 35, 3) := by decide +kernel
theorem d_B_change_27 : decode m_B_change.2.1 27 = .ok (.dup, 1) := by decide +kernel
theorem d_B_change_28 : decode m_B_change.2.1 28 = .ok (.ldc 100, 2) := by decide +kernel
theorem d_B_change_30 : decode m_B_change.2.1 30 = .ok (.invokespecial 39, 3) := by decide +kernel
theorem d_B_change_33 : decode m_B_change.2.1 33 = .ok (.athrow, 1) := by decide +kernel
theorem d_B_change_34 : decode m_B_change.2.1 34 = .ok (.aload_n 0, 1) := by decide +kernel
theorem d_B_change_35 : decode m_B_change.2.1 35 = .ok (.invokevirtual 207, 3) := by decide +kernel
theorem d_B_change_38 : decode m_B_change.2.1 38 = .ok (.istore 7, 2) := by decide +kernel
theorem d_B_change_40 : decode m_B_change.2.1 40 = .ok (.iload 7, 2) := by decide +kernel
theorem d_B_change_42 : decode m_B_change.2.1 42 = .ok (.iconst 1, 1) := by decide +kernel
theorem d_B_change_43 : decode m_B_change.2.1 43 = .ok (.if_icmp .eq 19, 3) := by decide +kernel
theorem d_B_change_46 : decode m_B_change.2.1 46 = .ok (.iload 7, 2) := by decide +kernel
theorem d_B_change_48 : decode m_B_change.2.1 48 = .ok (.iconst 2, 1) := by decide +kernel
theorem d_B_change_49 : decode m_B_change.2.1 49 = .ok (.if_icmp .eq 13, 3) := by decide +kernel
theorem d_B_change_52 : decode m_B_change.2.1 52 = .ok (.new 46, 3) := by decide +kernel
theorem d_B_change_55 : decode m_B_change.2.1 55 = .ok (.dup, 1) := by decide +kernel
theorem d_B_change_56 : decode m_B_change.2.1 56 = .ok (.ldc 210, 2) := by decide +kernel
theorem d_B_change_58 : decode m_B_change.2.1 58 = .ok (.invokespecial 50, 3) := by decide +kernel
theorem d_B_change_61 : decode m_B_change.2.1 61 = .ok (.athrow, 1) := by decide +kernel
theorem d_B_change_62 : decode m_B_change.2.1 62 = .ok (.aload 6, 2) := by decide +kernel
theorem d_B_change_64 : decode m_B_change.2.1 64 = .ok (.getfield 102, 3) := by decide +kernel
theorem d_B_change_67 : decode m_B_change.2.1 67 = .ok (.aload 6, 2) := by decide +kernel
theorem d_B_change_69 : decode m_B_change.2.1 69 = .ok (.iload_n 1, 1) := by decide +kernel
theorem d_B_change_70 : decode m_B_change.2.1 70 = .ok (.iload_n 3, 1) := by decide +kernel
theorem d_B_change_71 : decode m_B_change.2.1 71 = .ok (.iload 4, 2) := by decide +kernel
theorem d_B_change_73 : decode m_B_change.2.1 73 = .ok (.invokevirtual 105, 3) := by decide +kernel
theorem d_B_change_76 : decode m_B_change.2.1 76 = .ok (.iload 5, 2) := by decide +kernel
theorem d_B_change_78 : decode m_B_change.2.1 78 = .ok (.iastore, 1) := by decide +kernel
theorem d_B_change_79 : decode m_B_change.2.1 79 = .ok (.aload_n 0, 1) := by decide +kernel
theorem d_B_change_80 : decode m_B_change.2.1 80 = .ok (.getfield 11, 3) := by decide +kernel
theorem d_B_change_83 : decode m_B_change.2.1 83 = .ok (.iload_n 1, 1) := by decide +kernel
theorem d_B_change_84 : decode m_B_change.2.1 84 = .ok (.aaload, 1) := by decide +kernel
theorem d_B_change_85 : decode m_B_change.2.1 85 = .ok (.getfield 212, 3) := by decide +kernel
theorem d_B_change_88 : decode m_B_change.2.1 88 = .ok (.astore 8, 2) := by decide +kernel
theorem d_B_change_90 : decode m_B_change.2.1 90 = .ok (.aload 8, 2) := by decide +kernel
theorem d_B_change_92 : decode m_B_change.2.1 92 = .ok (.dup, 1) := by decide +kernel
theorem d_B_change_93 : decode m_B_change.2.1 93 = .ok (.getfield 216, 3) := by decide +kernel
theorem d_B_change_96 : decode m_B_change.2.1 96 = .ok (.iconst 1, 1) := by decide +kernel
theorem d_B_change_97 : decode m_B_change.2.1 97 = .ok (.iadd, 1) := by decide +kernel
theorem d_B_change_98 : decode m_B_change.2.1 98 = .ok (.putfield 216, 3) := by decide +kernel
theorem d_B_change_101 : decode m_B_change.2.1 101 = .ok (.aload_n 0, 1) := by decide +kernel
theorem d_B_change_102 : decode m_B_change.2.1 102 = .ok (.iconst 0, 1) := by decide +kernel
theorem d_B_change_103 : decode m_B_change.2.1 103 = .ok (.putfield 221, 3) := by decide +kernel
theorem d_B_change_106 : decode m_B_change.2.1 106 = .ok (.aload_n 0, 1) := by decide +kernel
theorem d_B_change_107 : decode m_B_change.2.1 107 = .ok (.aload_n 0, 1) := by decide +kernel
theorem d_B_change_108 : decode m_B_change.2.1 108 = .ok (.getfield 11, 3) := by decide +kernel
theorem d_B_change_111 : decode m_B_change.2.1 111 = .ok (.iload_n 1, 1) := by decide +kernel
theorem d_B_change_112 : decode m_B_change.2.1 112 = .ok (.aaload, 1) := by decide +kernel
theorem d_B_change_113 : decode m_B_change.2.1 113 = .ok (.getfield 224, 3) := by decide +kernel
theorem d_B_change_116 : decode m_B_change.2.1 116 = .ok (.iload_n 2, 1) := by decide +kernel
theorem d_B_change_117 : decode m_B_change.2.1 117 = .ok (.invokestatic 227, 3) := by decide +kernel
theorem d_B_change_120 : decode m_B_change.2.1 120 = .ok (.ifCond .eq 12, 3) := by decide +kernel
theorem d_B_change_123 : decode m_B_change.2.1 123 = .ok (.aload_n 0, 1) := by decide +kernel
theorem d_B_change_124 : decode m_B_change.2.1 124 = .ok (.getfield 11, 3) := by decide +kernel
theorem d_B_change_127 : decode m_B_change.2.1 127 = .ok (.iload_n 1, 1) := by decide +kernel
theorem d_B_change_128 : decode m_B_change.2.1 128 = .ok (.aaload, 1) := by decide +kernel
theorem d_B_change_129 : decode m_B_change.2.1 129 = .ok (.goto 9, 3) := by decide +kernel
theorem d_B_change_132 : decode m_B_change.2.1 132 = .ok (.aload_n 0, 1) := by decide +kernel
theorem d_B_change_133 : decode m_B_change.2.1 133 = .ok (.getfield 11, 3) := by decide +kernel
theorem d_B_change_136 : decode m_B_change.2.1 136 = .ok (.iload_n 2, 1) := by decide +kernel
theorem d_B_change_137 : decode m_B_change.2.1 137 = .ok (.aaload, 1) := by decide +kernel
theorem d_B_change_138 : decode m_B_change.2.1 138 = .ok (.aload 8, 2) := by decide +kernel
theorem d_B_change_140 : decode m_B_change.2.1 140 = .ok (.getfield 216, 3) := by decide +kernel
theorem d_B_change_143 : decode m_B_change.2.1 143 = .ok (.invokevirtual 125, 3) := by decide +kernel
theorem d_B_change_146 : decode m_B_change.2.1 146 = .ok (.aload_n 0, 1) := by decide +kernel
theorem d_B_change_147 : decode m_B_change.2.1 147 = .ok (.getfield 139, 3) := by decide +kernel
theorem d_B_change_150 : decode m_B_change.2.1 150 = .ok (.ireturn, 1) := by decide +kernel
theorem d_W_agent_0 : decode m_W_agent.2.1 0 = .ok (.aload_n 2, 1) := by decide +kernel
theorem d_W_agent_1 : decode m_W_agent.2.1 1 = .ok (.iconst 0, 1) := by decide +kernel
theorem d_W_agent_2 : decode m_W_agent.2.1 2 = .ok (.aload_n 0, 1) := by decide +kernel
theorem d_W_agent_3 : decode m_W_agent.2.1 3 = .ok (.iload_n 1, 1) := by decide +kernel
theorem d_W_agent_4 : decode m_W_agent.2.1 4 = .ok (.invokevirtual 7, 3) := by decide +kernel
theorem d_W_agent_7 : decode m_W_agent.2.1 7 = .ok (.i2l, 1) := by decide +kernel
theorem d_W_agent_8 : decode m_W_agent.2.1 8 = .ok (.lastore, 1) := by decide +kernel
theorem d_W_agent_9 : decode m_W_agent.2.1 9 = .ok (.goto 9, 3) := by decide +kernel
theorem d_W_agent_12 : decode m_W_agent.2.1 12 = .ok (.astore_n 3, 1) := by decide +kernel
theorem d_W_agent_13 : decode m_W_agent.2.1 13 = .ok (.iconst 1, 1) := by decide +kernel
theorem d_W_agent_14 : decode m_W_agent.2.1 14 = .ok (.ireturn, 1) := by decide +kernel
theorem d_W_agent_15 : decode m_W_agent.2.1 15 = .ok (.astore_n 3, 1) := by decide +kernel
theorem d_W_agent_16 : decode m_W_agent.2.1 16 = .ok (.iconst 2, 1) := by decide +kernel
theorem d_W_agent_17 : decode m_W_agent.2.1 17 = .ok (.ireturn, 1) := by decide +kernel
theorem d_W_agent_18 : decode m_W_agent.2.1 18 = .ok (.iconst 0, 1) := by decide +kernel
theorem d_W_agent_19 : decode m_W_agent.2.1 19 = .ok (.ireturn, 1) := by decide +kernel
theorem d_W_own_0 : decode m_W_own.2.1 0 = .ok (.aload_n 0, 1) := by decide +kernel
theorem d_W_own_1 : decode m_W_own.2.1 1 = .ok (.iload_n 1, 1) := by decide +kernel
theorem d_W_own_2 : decode m_W_own.2.1 2 = .ok (.iload_n 2, 1) := by decide +kernel
theorem d_W_own_3 : decode m_W_own.2.1 3 = .ok (.iload_n 3, 1) := by decide +kernel
theorem d_W_own_4 : decode m_W_own.2.1 4 = .ok (.invokevirtual 17, 3) := by decide +kernel
theorem d_W_own_7 : decode m_W_own.2.1 7 = .ok (.goto 11, 3) := by decide +kernel
theorem d_W_own_10 : decode m_W_own.2.1 10 = .ok (.astore 4, 2) := by decide +kernel
theorem d_W_own_12 : decode m_W_own.2.1 12 = .ok (.iconst 1, 1) := by decide +kernel
theorem d_W_own_13 : decode m_W_own.2.1 13 = .ok (.ireturn, 1) := by decide +kernel
theorem d_W_own_14 : decode m_W_own.2.1 14 = .ok (.astore 4, 2) := by decide +kernel
theorem d_W_own_16 : decode m_W_own.2.1 16 = .ok (.iconst 2, 1) := by decide +kernel
theorem d_W_own_17 : decode m_W_own.2.1 17 = .ok (.ireturn, 1) := by decide +kernel
theorem d_W_own_18 : decode m_W_own.2.1 18 = .ok (.iconst 0, 1) := by decide +kernel
theorem d_W_own_19 : decode m_W_own.2.1 19 = .ok (.ireturn, 1) := by decide +kernel
theorem d_W_pair_0 : decode m_W_pair.2.1 0 = .ok (.aload_n 3, 1) := by decide +kernel
theorem d_W_pair_1 : decode m_W_pair.2.1 1 = .ok (.iconst 0, 1) := by decide +kernel
theorem d_W_pair_2 : decode m_W_pair.2.1 2 = .ok (.aload_n 0, 1) := by decide +kernel
theorem d_W_pair_3 : decode m_W_pair.2.1 3 = .ok (.iload_n 1, 1) := by decide +kernel
theorem d_W_pair_4 : decode m_W_pair.2.1 4 = .ok (.iload_n 2, 1) := by decide +kernel
theorem d_W_pair_5 : decode m_W_pair.2.1 5 = .ok (.invokevirtual 21, 3) := by decide +kernel
theorem d_W_pair_8 : decode m_W_pair.2.1 8 = .ok (.i2l, 1) := by decide +kernel
theorem d_W_pair_9 : decode m_W_pair.2.1 9 = .ok (.lastore, 1) := by decide +kernel
theorem d_W_pair_10 : decode m_W_pair.2.1 10 = .ok (.goto 11, 3) := by decide +kernel
theorem d_W_pair_13 : decode m_W_pair.2.1 13 = .ok (.astore 4, 2) := by decide +kernel
theorem d_W_pair_15 : decode m_W_pair.2.1 15 = .ok (.iconst 1, 1) := by decide +kernel
theorem d_W_pair_16 : decode m_W_pair.2.1 16 = .ok (.ireturn, 1) := by decide +kernel
theorem d_W_pair_17 : decode m_W_pair.2.1 17 = .ok (.astore 4, 2) := by decide +kernel
theorem d_W_pair_19 : decode m_W_pair.2.1 19 = .ok (.iconst 2, 1) := by decide +kernel
theorem d_W_pair_20 : decode m_W_pair.2.1 20 = .ok (.ireturn, 1) := by decide +kernel
theorem d_W_pair_21 : decode m_W_pair.2.1 21 = .ok (.iconst 0, 1) := by decide +kernel
theorem d_W_pair_22 : decode m_W_pair.2.1 22 = .ok (.ireturn, 1) := by decide +kernel
theorem d_W_cost_0 : decode m_W_cost.2.1 0 = .ok (.aload_n 0, 1) := by decide +kernel
theorem d_W_cost_1 : decode m_W_cost.2.1 1 = .ok (.iload_n 1, 1) := by decide +kernel
theorem d_W_cost_2 : decode m_W_cost.2.1 2 = .ok (.iload_n 2, 1) := by decide +kernel
theorem d_W_cost_3 : decode m_W_cost.2.1 3 = .ok (.iload_n 3, 1) := by decide +kernel
theorem d_W_cost_4 : decode m_W_cost.2.1 4 = .ok (.iload 4, 2) := by decide +kernel
theorem d_W_cost_6 : decode m_W_cost.2.1 6 = .ok (.iload 5, 2) := by decide +kernel
theorem d_W_cost_8 : decode m_W_cost.2.1 8 = .ok (.invokevirtual 25, 3) := by decide +kernel
theorem d_W_cost_11 : decode m_W_cost.2.1 11 = .ok (.goto 11, 3) := by decide +kernel
theorem d_W_cost_14 : decode m_W_cost.2.1 14 = .ok (.astore 6, 2) := by decide +kernel
theorem d_W_cost_16 : decode m_W_cost.2.1 16 = .ok (.iconst 1, 1) := by decide +kernel
theorem d_W_cost_17 : decode m_W_cost.2.1 17 = .ok (.ireturn, 1) := by decide +kernel
theorem d_W_cost_18 : decode m_W_cost.2.1 18 = .ok (.astore 6, 2) := by decide +kernel
theorem d_W_cost_20 : decode m_W_cost.2.1 20 = .ok (.iconst 2, 1) := by decide +kernel
theorem d_W_cost_21 : decode m_W_cost.2.1 21 = .ok (.ireturn, 1) := by decide +kernel
theorem d_W_cost_22 : decode m_W_cost.2.1 22 = .ok (.iconst 0, 1) := by decide +kernel
theorem d_W_cost_23 : decode m_W_cost.2.1 23 = .ok (.ireturn, 1) := by decide +kernel
theorem d_W_start_0 : decode m_W_start.2.1 0 = .ok (.aload_n 1, 1) := by decide +kernel
theorem d_W_start_1 : decode m_W_start.2.1 1 = .ok (.iconst 0, 1) := by decide +kernel
theorem d_W_start_2 : decode m_W_start.2.1 2 = .ok (.aload_n 0, 1) := by decide +kernel
theorem d_W_start_3 : decode m_W_start.2.1 3 = .ok (.invokevirtual 29, 3) := by decide +kernel
theorem d_W_start_6 : decode m_W_start.2.1 6 = .ok (.i2l, 1) := by decide +kernel
theorem d_W_start_7 : decode m_W_start.2.1 7 = .ok (.lastore, 1) := by decide +kernel
theorem d_W_start_8 : decode m_W_start.2.1 8 = .ok (.goto 6, 3) := by decide +kernel
theorem d_W_start_11 : decode m_W_start.2.1 11 = .ok (.astore_n 2, 1) := by decide +kernel
theorem d_W_start_12 : decode m_W_start.2.1 12 = .ok (.iconst 1, 1) := by decide +kernel
theorem d_W_start_13 : decode m_W_start.2.1 13 = .ok (.ireturn, 1) := by decide +kernel
theorem d_W_start_14 : decode m_W_start.2.1 14 = .ok (.iconst 0, 1) := by decide +kernel
theorem d_W_start_15 : decode m_W_start.2.1 15 = .ok (.ireturn, 1) := by decide +kernel
theorem d_W_letter_0 : decode m_W_letter.2.1 0 = .ok (.aload_n 3, 1) := by decide +kernel
theorem d_W_letter_1 : decode m_W_letter.2.1 1 = .ok (.iconst 0, 1) := by decide +kernel
theorem d_W_letter_2 : decode m_W_letter.2.1 2 = .ok (.aload_n 0, 1) := by decide +kernel
theorem d_W_letter_3 : decode m_W_letter.2.1 3 = .ok (.iload_n 1, 1) := by decide +kernel
theorem d_W_letter_4 : decode m_W_letter.2.1 4 = .ok (.iload_n 2, 1) := by decide +kernel
theorem d_W_letter_5 : decode m_W_letter.2.1 5 = .ok (.invokevirtual 33, 3) := by decide +kernel
theorem d_W_letter_8 : decode m_W_letter.2.1 8 = .ok (.i2l, 1) := by decide +kernel
theorem d_W_letter_9 : decode m_W_letter.2.1 9 = .ok (.lastore, 1) := by decide +kernel
theorem d_W_letter_10 : decode m_W_letter.2.1 10 = .ok (.goto 15, 3) := by decide +kernel
theorem d_W_letter_13 : decode m_W_letter.2.1 13 = .ok (.astore 4, 2) := by decide +kernel
theorem d_W_letter_15 : decode m_W_letter.2.1 15 = .ok (.iconst 1, 1) := by decide +kernel
theorem d_W_letter_16 : decode m_W_letter.2.1 16 = .ok (.ireturn, 1) := by decide +kernel
theorem d_W_letter_17 : decode m_W_letter.2.1 17 = .ok (.astore 4, 2) := by decide +kernel
theorem d_W_letter_19 : decode m_W_letter.2.1 19 = .ok (.iconst 2, 1) := by decide +kernel
theorem d_W_letter_20 : decode m_W_letter.2.1 20 = .ok (.ireturn, 1) := by decide +kernel
theorem d_W_letter_21 : decode m_W_letter.2.1 21 = .ok (.astore 4, 2) := by decide +kernel
theorem d_W_letter_23 : decode m_W_letter.2.1 23 = .ok (.iconst 3, 1) := by decide +kernel
theorem d_W_letter_24 : decode m_W_letter.2.1 24 = .ok (.ireturn, 1) := by decide +kernel
theorem d_W_letter_25 : decode m_W_letter.2.1 25 = .ok (.iconst 0, 1) := by decide +kernel
theorem d_W_letter_26 : decode m_W_letter.2.1 26 = .ok (.ireturn, 1) := by decide +kernel
theorem d_W_again_0 : decode m_W_again.2.1 0 = .ok (.aload_n 2, 1) := by decide +kernel
theorem d_W_again_1 : decode m_W_again.2.1 1 = .ok (.iconst 0, 1) := by decide +kernel
theorem d_W_again_2 : decode m_W_again.2.1 2 = .ok (.aload_n 0, 1) := by decide +kernel
theorem d_W_again_3 : decode m_W_again.2.1 3 = .ok (.iload_n 1, 1) := by decide +kernel
theorem d_W_again_4 : decode m_W_again.2.1 4 = .ok (.invokevirtual 38, 3) := by decide +kernel
theorem d_W_again_7 : decode m_W_again.2.1 7 = .ok (.i2l, 1) := by decide +kernel
theorem d_W_again_8 : decode m_W_again.2.1 8 = .ok (.lastore, 1) := by decide +kernel
theorem d_W_again_9 : decode m_W_again.2.1 9 = .ok (.goto 9, 3) := by decide +kernel
theorem d_W_again_12 : decode m_W_again.2.1 12 = .ok (.astore_n 3, 1) := by decide +kernel
theorem d_W_again_13 : decode m_W_again.2.1 13 = .ok (.iconst 1, 1) := by decide +kernel
theorem d_W_again_14 : decode m_W_again.2.1 14 = .ok (.ireturn, 1) := by decide +kernel
theorem d_W_again_15 : decode m_W_again.2.1 15 = .ok (.astore_n 3, 1) := by decide +kernel
theorem d_W_again_16 : decode m_W_again.2.1 16 = .ok (.iconst 2, 1) := by decide +kernel
theorem d_W_again_17 : decode m_W_again.2.1 17 = .ok (.ireturn, 1) := by decide +kernel
theorem d_W_again_18 : decode m_W_again.2.1 18 = .ok (.iconst 0, 1) := by decide +kernel
theorem d_W_again_19 : decode m_W_again.2.1 19 = .ok (.ireturn, 1) := by decide +kernel
end
section
/-! DECODED: written by wip/whole/gen/dec.py -/
theorem d_W_change_0 : decode m_W_change.2.1 0 = .ok (.aload 6, 2) := by decide +kernel
theorem d_W_change_2 : decode m_W_change.2.1 2 = .ok (.iconst 0, 1) := by decide +kernel
theorem d_W_change_3 : decode m_W_change.2.1 3 = .ok (.aload_n 0, 1) := by decide +kernel
theorem d_W_change_4 : decode m_W_change.2.1 4 = .ok (.iload_n 1, 1) := by decide +kernel
theorem d_W_change_5 : decode m_W_change.2.1 5 = .ok (.iload_n 2, 1) := by decide +kernel
theorem d_W_change_6 : decode m_W_change.2.1 6 = .ok (.iload_n 3, 1) := by decide +kernel
theorem d_W_change_7 : decode m_W_change.2.1 7 = .ok (.iload 4, 2) := by decide +kernel
theorem d_W_change_9 : decode m_W_change.2.1 9 = .ok (.iload 5, 2) := by decide +kernel
theorem d_W_change_11 : decode m_W_change.2.1 11 = .ok (.invokevirtual 41, 3) := by decide +kernel
theorem d_W_change_14 : decode m_W_change.2.1 14 = .ok (.i2l, 1) := by decide +kernel
theorem d_W_change_15 : decode m_W_change.2.1 15 = .ok (.lastore, 1) := by decide +kernel
theorem d_W_change_16 : decode m_W_change.2.1 16 = .ok (.goto 11, 3) := by decide +kernel
theorem d_W_change_19 : decode m_W_change.2.1 19 = .ok (.astore 7, 2) := by decide +kernel
theorem d_W_change_21 : decode m_W_change.2.1 21 = .ok (.iconst 1, 1) := by decide +kernel
theorem d_W_change_22 : decode m_W_change.2.1 22 = .ok (.ireturn, 1) := by decide +kernel
theorem d_W_change_23 : decode m_W_change.2.1 23 = .ok (.astore 7, 2) := by decide +kernel
theorem d_W_change_25 : decode m_W_change.2.1 25 = .ok (.iconst 2, 1) := by decide +kernel
theorem d_W_change_26 : decode m_W_change.2.1 26 = .ok (.ireturn, 1) := by decide +kernel
theorem d_W_change_27 : decode m_W_change.2.1 27 = .ok (.iconst 0, 1) := by decide +kernel
theorem d_W_change_28 : decode m_W_change.2.1 28 = .ok (.ireturn, 1) := by decide +kernel
end
section
/-! DECODED: written by wip/whole/gen/dec.py -/
theorem d_W_law_0 : decode m_W_law.2.1 0 = .ok (.new 8, 3) := by decide +kernel
theorem d_W_law_3 : decode m_W_law.2.1 3 = .ok (.dup, 1) := by decide +kernel
theorem d_W_law_4 : decode m_W_law.2.1 4 = .ok (.invokespecial 45, 3) := by decide +kernel
theorem d_W_law_7 : decode m_W_law.2.1 7 = .ok (.astore_n 1, 1) := by decide +kernel
theorem d_W_law_8 : decode m_W_law.2.1 8 = .ok (.new 46, 3) := by decide +kernel
theorem d_W_law_11 : decode m_W_law.2.1 11 = .ok (.dup, 1) := by decide +kernel
theorem d_W_law_12 : decode m_W_law.2.1 12 = .ok (.invokespecial 48, 3) := by decide +kernel
theorem d_W_law_15 : decode m_W_law.2.1 15 = .ok (.astore_n 2, 1) := by decide +kernel
theorem d_W_law_16 : decode m_W_law.2.1 16 = .ok (.iconst 1, 1) := by decide +kernel
theorem d_W_law_17 : decode m_W_law.2.1 17 = .ok (.newarray .long, 2) := by decide +kernel
theorem d_W_law_19 : decode m_W_law.2.1 19 = .ok (.astore_n 3, 1) := by decide +kernel
theorem d_W_law_20 : decode m_W_law.2.1 20 = .ok (.iconst 0, 1) := by decide +kernel
theorem d_W_law_21 : decode m_W_law.2.1 21 = .ok (.istore 4, 2) := by decide +kernel
theorem d_W_law_23 : decode m_W_law.2.1 23 = .ok (.iload 4, 2) := by decide +kernel
theorem d_W_law_25 : decode m_W_law.2.1 25 = .ok (.aload_n 0, 1) := by decide +kernel
theorem d_W_law_26 : decode m_W_law.2.1 26 = .ok (.arraylength, 1) := by decide +kernel
theorem d_W_law_27 : decode m_W_law.2.1 27 = .ok (.bipush 6, 2) := by decide +kernel
theorem d_W_law_29 : decode m_W_law.2.1 29 = .ok (.isub, 1) := by decide +kernel
theorem d_W_law_30 : decode m_W_law.2.1 30 = .ok (.if_icmp .gt 812, 3) := by decide +kernel
theorem d_W_law_33 : decode m_W_law.2.1 33 = .ok (.aload_n 0, 1) := by decide +kernel
theorem d_W_law_34 : decode m_W_law.2.1 34 = .ok (.iload 4, 2) := by decide +kernel
theorem d_W_law_36 : decode m_W_law.2.1 36 = .ok (.iaload, 1) := by decide +kernel
theorem d_W_law_37 : decode m_W_law.2.1 37 = .ok (.bipush 15, 2) := by decide +kernel
theorem d_W_law_39 : decode m_W_law.2.1 39 = .ok (.iand, 1) := by decide +kernel
theorem d_W_law_40 : decode m_W_law.2.1 40 = .ok (.tableswitch 796 0 15 #[80, 136, 196, 264, 348, 392, 460, 497, 553, 657, 670, 695, 708, 733, 758, 783], 80) := by decide +kernel
theorem d_W_law_120 : decode m_W_law.2.1 120 = .ok (.aload_n 1, 1) := by decide +kernel
theorem d_W_law_121 : decode m_W_law.2.1 121 = .ok (.aload_n 0, 1) := by decide +kernel
theorem d_W_law_122 : decode m_W_law.2.1 122 = .ok (.iload 4, 2) := by decide +kernel
theorem d_W_law_124 : decode m_W_law.2.1 124 = .ok (.iconst 1, 1) := by decide +kernel
theorem d_W_law_125 : decode m_W_law.2.1 125 = .ok (.iadd, 1) := by decide +kernel
theorem d_W_law_126 : decode m_W_law.2.1 126 = .ok (.iaload, 1) := by decide +kernel
theorem d_W_law_127 : decode m_W_law.2.1 127 = .ok (.aload_n 3, 1) := by decide +kernel
theorem d_W_law_128 : decode m_W_law.2.1 128 = .ok (.invokestatic 49, 3) := by decide +kernel
theorem d_W_law_131 : decode m_W_law.2.1 131 = .ok (.istore 5, 2) := by decide +kernel
theorem d_W_law_133 : decode m_W_law.2.1 133 = .ok (.aload_n 2, 1) := by decide +kernel
theorem d_W_law_134 : decode m_W_law.2.1 134 = .ok (.aload_n 0, 1) := by decide +kernel
theorem d_W_law_135 : decode m_W_law.2.1 135 = .ok (.iload 4, 2) := by decide +kernel
theorem d_W_law_137 : decode m_W_law.2.1 137 = .ok (.iconst 1, 1) := by decide +kernel
theorem d_W_law_138 : decode m_W_law.2.1 138 = .ok (.iadd, 1) := by decide +kernel
theorem d_W_law_139 : decode m_W_law.2.1 139 = .ok (.iaload, 1) := by decide +kernel
theorem d_W_law_140 : decode m_W_law.2.1 140 = .ok (.invokevirtual 54, 3) := by decide +kernel
theorem d_W_law_143 : decode m_W_law.2.1 143 = .ok (.istore 6, 2) := by decide +kernel
theorem d_W_law_145 : decode m_W_law.2.1 145 = .ok (.aload_n 2, 1) := by decide +kernel
theorem d_W_law_146 : decode m_W_law.2.1 146 = .ok (.invokevirtual 55, 3) := by decide +kernel
theorem d_W_law_149 : decode m_W_law.2.1 149 = .ok (.iload 5, 2) := by decide +kernel
theorem d_W_law_151 : decode m_W_law.2.1 151 = .ok (.if_icmp .eq 5, 3) := by decide +kernel
theorem d_W_law_154 : decode m_W_law.2.1 154 = .ok (.iconst 0, 1) := by decide +kernel
theorem d_W_law_155 : decode m_W_law.2.1 155 = .ok (.ireturn, 1) := by decide +kernel
theorem d_W_law_156 : decode m_W_law.2.1 156 = .ok (.iload 5, 2) := by decide +kernel
theorem d_W_law_158 : decode m_W_law.2.1 158 = .ok (.ifCond .ne 15, 3) := by decide +kernel
theorem d_W_law_161 : decode m_W_law.2.1 161 = .ok (.aload_n 3, 1) := by decide +kernel
theorem d_W_law_162 : decode m_W_law.2.1 162 = .ok (.iconst 0, 1) := by decide +kernel
theorem d_W_law_163 : decode m_W_law.2.1 163 = .ok (.laload, 1) := by decide +kernel
theorem d_W_law_164 : decode m_W_law.2.1 164 = .ok (.iload 6, 2) := by decide +kernel
theorem d_W_law_166 : decode m_W_law.2.1 166 = .ok (.i2l, 1) := by decide +kernel
theorem d_W_law_167 : decode m_W_law.2.1 167 = .ok (.lcmp, 1) := by decide +kernel
theorem d_W_law_168 : decode m_W_law.2.1 168 = .ok (.ifCond .eq 5, 3) := by decide +kernel
theorem d_W_law_171 : decode m_W_law.2.1 171 = .ok (.iconst 0, 1) := by decide +kernel
theorem d_W_law_172 : decode m_W_law.2.1 172 = .ok (.ireturn, 1) := by decide +kernel
theorem d_W_law_173 : decode m_W_law.2.1 173 = .ok (.goto 663, 3) := by decide +kernel
theorem d_W_law_176 : decode m_W_law.2.1 176 = .ok (.aload_n 1, 1) := by decide +kernel
theorem d_W_law_177 : decode m_W_law.2.1 177 = .ok (.aload_n 0, 1) := by decide +kernel
theorem d_W_law_178 : decode m_W_law.2.1 178 = .ok (.iload 4, 2) := by decide +kernel
theorem d_W_law_180 : decode m_W_law.2.1 180 = .ok (.iconst 1, 1) := by decide +kernel
theorem d_W_law_181 : decode m_W_law.2.1 181 = .ok (.iadd, 1) := by decide +kernel
theorem d_W_law_182 : decode m_W_law.2.1 182 = .ok (.iaload, 1) := by decide +kernel
theorem d_W_law_183 : decode m_W_law.2.1 183 = .ok (.aload_n 0, 1) := by decide +kernel
theorem d_W_law_184 : decode m_W_law.2.1 184 = .ok (.iload 4, 2) := by decide +kernel
theorem d_W_law_186 : decode m_W_law.2.1 186 = .ok (.iconst 2, 1) := by decide +kernel
theorem d_W_law_187 : decode m_W_law.2.1 187 = .ok (.iadd, 1) := by decide +kernel
theorem d_W_law_188 : decode m_W_law.2.1 188 = .ok (.iaload, 1) := by decide +kernel
theorem d_W_law_189 : decode m_W_law.2.1 189 = .ok (.aload_n 0, 1) := by decide +kernel
theorem d_W_law_190 : decode m_W_law.2.1 190 = .ok (.iload 4, 2) := by decide +kernel
theorem d_W_law_192 : decode m_W_law.2.1 192 = .ok (.iconst 3, 1) := by decide +kernel
theorem d_W_law_193 : decode m_W_law.2.1 193 = .ok (.iadd, 1) := by decide +kernel
theorem d_W_law_194 : decode m_W_law.2.1 194 = .ok (.iaload, 1) := by decide +kernel
theorem d_W_law_195 : decode m_W_law.2.1 195 = .ok (.invokestatic 58, 3) := by decide +kernel
theorem d_W_law_198 : decode m_W_law.2.1 198 = .ok (.istore 5, 2) := by decide +kernel
theorem d_W_law_200 : decode m_W_law.2.1 200 = .ok (.aload_n 2, 1) := by decide +kernel
theorem d_W_law_201 : decode m_W_law.2.1 201 = .ok (.aload_n 0, 1) := by decide +kernel
theorem d_W_law_202 : decode m_W_law.2.1 202 = .ok (.iload 4, 2) := by decide +kernel
theorem d_W_law_204 : decode m_W_law.2.1 204 = .ok (.iconst 1, 1) := by decide +kernel
theorem d_W_law_205 : decode m_W_law.2.1 205 = .ok (.iadd, 1) := by decide +kernel
theorem d_W_law_206 : decode m_W_law.2.1 206 = .ok (.iaload, 1) := by decide +kernel
theorem d_W_law_207 : decode m_W_law.2.1 207 = .ok (.aload_n 0, 1) := by decide +kernel
theorem d_W_law_208 : decode m_W_law.2.1 208 = .ok (.iload 4, 2) := by decide +kernel
theorem d_W_law_210 : decode m_W_law.2.1 210 = .ok (.iconst 2, 1) := by decide +kernel
theorem d_W_law_211 : decode m_W_law.2.1 211 = .ok (.iadd, 1) := by decide +kernel
theorem d_W_law_212 : decode m_W_law.2.1 212 = .ok (.iaload, 1) := by decide +kernel
theorem d_W_law_213 : decode m_W_law.2.1 213 = .ok (.aload_n 0, 1) := by decide +kernel
theorem d_W_law_214 : decode m_W_law.2.1 214 = .ok (.iload 4, 2) := by decide +kernel
theorem d_W_law_216 : decode m_W_law.2.1 216 = .ok (.iconst 3, 1) := by decide +kernel
theorem d_W_law_217 : decode m_W_law.2.1 217 = .ok (.iadd, 1) := by decide +kernel
theorem d_W_law_218 : decode m_W_law.2.1 218 = .ok (.iaload, 1) := by decide +kernel
theorem d_W_law_219 : decode m_W_law.2.1 219 = .ok (.invokevirtual 61, 3) := by decide +kernel
theorem d_W_law_222 : decode m_W_law.2.1 222 = .ok (.aload_n 2, 1) := by decide +kernel
theorem d_W_law_223 : decode m_W_law.2.1 223 = .ok (.invokevirtual 55, 3) := by decide +kernel
theorem d_W_law_226 : decode m_W_law.2.1 226 = .ok (.iload 5, 2) := by decide +kernel
theorem d_W_law_228 : decode m_W_law.2.1 228 = .ok (.if_icmp .eq 5, 3) := by decide +kernel
theorem d_W_law_231 : decode m_W_law.2.1 231 = .ok (.iconst 0, 1) := by decide +kernel
theorem d_W_law_232 : decode m_W_law.2.1 232 = .ok (.ireturn, 1) := by decide +kernel
theorem d_W_law_233 : decode m_W_law.2.1 233 = .ok (.goto 603, 3) := by decide +kernel
theorem d_W_law_236 : decode m_W_law.2.1 236 = .ok (.aload_n 1, 1) := by decide +kernel
theorem d_W_law_237 : decode m_W_law.2.1 237 = .ok (.aload_n 0, 1) := by decide +kernel
theorem d_W_law_238 : decode m_W_law.2.1 238 = .ok (.iload 4, 2) := by decide +kernel
theorem d_W_law_240 : decode m_W_law.2.1 240 = .ok (.iconst 1, 1) := by decide +kernel
theorem d_W_law_241 : decode m_W_law.2.1 241 = .ok (.iadd, 1) := by decide +kernel
theorem d_W_law_242 : decode m_W_law.2.1 242 = .ok (.iaload, 1) := by decide +kernel
theorem d_W_law_243 : decode m_W_law.2.1 243 = .ok (.aload_n 0, 1) := by decide +kernel
theorem d_W_law_244 : decode m_W_law.2.1 244 = .ok (.iload 4, 2) := by decide +kernel
theorem d_W_law_246 : decode m_W_law.2.1 246 = .ok (.iconst 2, 1) := by decide +kernel
theorem d_W_law_247 : decode m_W_law.2.1 247 = .ok (.iadd, 1) := by decide +kernel
theorem d_W_law_248 : decode m_W_law.2.1 248 = .ok (.iaload, 1) := by decide +kernel
theorem d_W_law_249 : decode m_W_law.2.1 249 = .ok (.aload_n 3, 1) := by decide +kernel
theorem d_W_law_250 : decode m_W_law.2.1 250 = .ok (.invokestatic 62, 3) := by decide +kernel
theorem d_W_law_253 : decode m_W_law.2.1 253 = .ok (.istore 5, 2) := by decide +kernel
theorem d_W_law_255 : decode m_W_law.2.1 255 = .ok (.aload_n 2, 1) := by decide +kernel
theorem d_W_law_256 : decode m_W_law.2.1 256 = .ok (.aload_n 0, 1) := by decide +kernel
theorem d_W_law_257 : decode m_W_law.2.1 257 = .ok (.iload 4, 2) := by decide +kernel
theorem d_W_law_259 : decode m_W_law.2.1 259 = .ok (.iconst 1, 1) := by decide +kernel
theorem d_W_law_260 : decode m_W_law.2.1 260 = .ok (.iadd, 1) := by decide +kernel
theorem d_W_law_261 : decode m_W_law.2.1 261 = .ok (.iaload, 1) := by decide +kernel
theorem d_W_law_262 : decode m_W_law.2.1 262 = .ok (.aload_n 0, 1) := by decide +kernel
theorem d_W_law_263 : decode m_W_law.2.1 263 = .ok (.iload 4, 2) := by decide +kernel
theorem d_W_law_265 : decode m_W_law.2.1 265 = .ok (.iconst 2, 1) := by decide +kernel
theorem d_W_law_266 : decode m_W_law.2.1 266 = .ok (.iadd, 1) := by decide +kernel
theorem d_W_law_267 : decode m_W_law.2.1 267 = .ok (.iaload, 1) := by decide +kernel
theorem d_W_law_268 : decode m_W_law.2.1 268 = .ok (.invokevirtual 65, 3) := by decide +kernel
theorem d_W_law_271 : decode m_W_law.2.1 271 = .ok (.istore 6, 2) := by decide +kernel
theorem d_W_law_273 : decode m_W_law.2.1 273 = .ok (.aload_n 2, 1) := by decide +kernel
theorem d_W_law_274 : decode m_W_law.2.1 274 = .ok (.invokevirtual 55, 3) := by decide +kernel
theorem d_W_law_277 : decode m_W_law.2.1 277 = .ok (.iload 5, 2) := by decide +kernel
theorem d_W_law_279 : decode m_W_law.2.1 279 = .ok (.if_icmp .eq 5, 3) := by decide +kernel
theorem d_W_law_282 : decode m_W_law.2.1 282 = .ok (.iconst 0, 1) := by decide +kernel
theorem d_W_law_283 : decode m_W_law.2.1 283 = .ok (.ireturn, 1) := by decide +kernel
theorem d_W_law_284 : decode m_W_law.2.1 284 = .ok (.iload 5, 2) := by decide +kernel
theorem d_W_law_286 : decode m_W_law.2.1 286 = .ok (.ifCond .ne 15, 3) := by decide +kernel
theorem d_W_law_289 : decode m_W_law.2.1 289 = .ok (.aload_n 3, 1) := by decide +kernel
theorem d_W_law_290 : decode m_W_law.2.1 290 = .ok (.iconst 0, 1) := by decide +kernel
theorem d_W_law_291 : decode m_W_law.2.1 291 = .ok (.laload, 1) := by decide +kernel
theorem d_W_law_292 : decode m_W_law.2.1 292 = .ok (.iload 6, 2) := by decide +kernel
theorem d_W_law_294 : decode m_W_law.2.1 294 = .ok (.i2l, 1) := by decide +kernel
theorem d_W_law_295 : decode m_W_law.2.1 295 = .ok (.lcmp, 1) := by decide +kernel
theorem d_W_law_296 : decode m_W_law.2.1 296 = .ok (.ifCond .eq 5, 3) := by decide +kernel
theorem d_W_law_299 : decode m_W_law.2.1 299 = .ok (.iconst 0, 1) := by decide +kernel
theorem d_W_law_300 : decode m_W_law.2.1 300 = .ok (.ireturn, 1) := by decide +kernel
theorem d_W_law_301 : decode m_W_law.2.1 301 = .ok (.goto 535, 3) := by decide +kernel
theorem d_W_law_304 : decode m_W_law.2.1 304 = .ok (.aload_n 1, 1) := by decide +kernel
theorem d_W_law_305 : decode m_W_law.2.1 305 = .ok (.aload_n 0, 1) := by decide +kernel
theorem d_W_law_306 : decode m_W_law.2.1 306 = .ok (.iload 4, 2) := by decide +kernel
theorem d_W_law_308 : decode m_W_law.2.1 308 = .ok (.iconst 1, 1) := by decide +kernel
theorem d_W_law_309 : decode m_W_law.2.1 309 = .ok (.iadd, 1) := by decide +kernel
theorem d_W_law_310 : decode m_W_law.2.1 310 = .ok (.iaload, 1) := by decide +kernel
theorem d_W_law_311 : decode m_W_law.2.1 311 = .ok (.aload_n 0, 1) := by decide +kernel
theorem d_W_law_312 : decode m_W_law.2.1 312 = .ok (.iload 4, 2) := by decide +kernel
theorem d_W_law_314 : decode m_W_law.2.1 314 = .ok (.iconst 2, 1) := by decide +kernel
theorem d_W_law_315 : decode m_W_law.2.1 315 = .ok (.iadd, 1) := by decide +kernel
theorem d_W_law_316 : decode m_W_law.2.1 316 = .ok (.iaload, 1) := by decide +kernel
theorem d_W_law_317 : decode m_W_law.2.1 317 = .ok (.aload_n 0, 1) := by decide +kernel
theorem d_W_law_318 : decode m_W_law.2.1 318 = .ok (.iload 4, 2) := by decide +kernel
theorem d_W_law_320 : decode m_W_law.2.1 320 = .ok (.iconst 3, 1) := by decide +kernel
theorem d_W_law_321 : decode m_W_law.2.1 321 = .ok (.iadd, 1) := by decide +kernel
theorem d_W_law_322 : decode m_W_law.2.1 322 = .ok (.iaload, 1) := by decide +kernel
theorem d_W_law_323 : decode m_W_law.2.1 323 = .ok (.aload_n 0, 1) := by decide +kernel
theorem d_W_law_324 : decode m_W_law.2.1 324 = .ok (.iload 4, 2) := by decide +kernel
theorem d_W_law_326 : decode m_W_law.2.1 326 = .ok (.iconst 4, 1) := by decide +kernel
theorem d_W_law_327 : decode m_W_law.2.1 327 = .ok (.iadd, 1) := by decide +kernel
theorem d_W_law_328 : decode m_W_law.2.1 328 = .ok (.iaload, 1) := by decide +kernel
theorem d_W_law_329 : decode m_W_law.2.1 329 = .ok (.aload_n 0, 1) := by decide +kernel
theorem d_W_law_330 : decode m_W_law.2.1 330 = .ok (.iload 4, 2) := by decide +kernel
theorem d_W_law_332 : decode m_W_law.2.1 332 = .ok (.iconst 5, 1) := by decide +kernel
theorem d_W_law_333 : decode m_W_law.2.1 333 = .ok (.iadd, 1) := by decide +kernel
theorem d_W_law_334 : decode m_W_law.2.1 334 = .ok (.iaload, 1) := by decide +kernel
theorem d_W_law_335 : decode m_W_law.2.1 335 = .ok (.invokestatic 66, 3) := by decide +kernel
theorem d_W_law_338 : decode m_W_law.2.1 338 = .ok (.istore 5, 2) := by decide +kernel
theorem d_W_law_340 : decode m_W_law.2.1 340 = .ok (.aload_n 2, 1) := by decide +kernel
theorem d_W_law_341 : decode m_W_law.2.1 341 = .ok (.aload_n 0, 1) := by decide +kernel
theorem d_W_law_342 : decode m_W_law.2.1 342 = .ok (.iload 4, 2) := by decide +kernel
theorem d_W_law_344 : decode m_W_law.2.1 344 = .ok (.iconst 1, 1) := by decide +kernel
theorem d_W_law_345 : decode m_W_law.2.1 345 = .ok (.iadd, 1) := by decide +kernel
theorem d_W_law_346 : decode m_W_law.2.1 346 = .ok (.iaload, 1) := by decide +kernel
theorem d_W_law_347 : decode m_W_law.2.1 347 = .ok (.aload_n 0, 1) := by decide +kernel
theorem d_W_law_348 : decode m_W_law.2.1 348 = .ok (.iload 4, 2) := by decide +kernel
theorem d_W_law_350 : decode m_W_law.2.1 350 = .ok (.iconst 2, 1) := by decide +kernel
theorem d_W_law_351 : decode m_W_law.2.1 351 = .ok (.iadd, 1) := by decide +kernel
theorem d_W_law_352 : decode m_W_law.2.1 352 = .ok (.iaload, 1) := by decide +kernel
theorem d_W_law_353 : decode m_W_law.2.1 353 = .ok (.aload_n 0, 1) := by decide +kernel
theorem d_W_law_354 : decode m_W_law.2.1 354 = .ok (.iload 4, 2) := by decide +kernel
theorem d_W_law_356 : decode m_W_law.2.1 356 = .ok (.iconst 3, 1) := by decide +kernel
theorem d_W_law_357 : decode m_W_law.2.1 357 = .ok (.iadd, 1) := by decide +kernel
theorem d_W_law_358 : decode m_W_law.2.1 358 = .ok (.iaload, 1) := by decide +kernel
theorem d_W_law_359 : decode m_W_law.2.1 359 = .ok (.aload_n 0, 1) := by decide +kernel
theorem d_W_law_360 : decode m_W_law.2.1 360 = .ok (.iload 4, 2) := by decide +kernel
theorem d_W_law_362 : decode m_W_law.2.1 362 = .ok (.iconst 4, 1) := by decide +kernel
theorem d_W_law_363 : decode m_W_law.2.1 363 = .ok (.iadd, 1) := by decide +kernel
theorem d_W_law_364 : decode m_W_law.2.1 364 = .ok (.iaload, 1) := by decide +kernel
theorem d_W_law_365 : decode m_W_law.2.1 365 = .ok (.aload_n 0, 1) := by decide +kernel
theorem d_W_law_366 : decode m_W_law.2.1 366 = .ok (.iload 4, 2) := by decide +kernel
theorem d_W_law_368 : decode m_W_law.2.1 368 = .ok (.iconst 5, 1) := by decide +kernel
theorem d_W_law_369 : decode m_W_law.2.1 369 = .ok (.iadd, 1) := by decide +kernel
theorem d_W_law_370 : decode m_W_law.2.1 370 = .ok (.iaload, 1) := by decide +kernel
theorem d_W_law_371 : decode m_W_law.2.1 371 = .ok (.invokevirtual 69, 3) := by decide +kernel
theorem d_W_law_374 : decode m_W_law.2.1 374 = .ok (.aload_n 2, 1) := by decide +kernel
theorem d_W_law_375 : decode m_W_law.2.1 375 = .ok (.invokevirtual 55, 3) := by decide +kernel
theorem d_W_law_378 : decode m_W_law.2.1 378 = .ok (.iload 5, 2) := by decide +kernel
theorem d_W_law_380 : decode m_W_law.2.1 380 = .ok (.if_icmp .eq 5, 3) := by decide +kernel
theorem d_W_law_383 : decode m_W_law.2.1 383 = .ok (.iconst 0, 1) := by decide +kernel
theorem d_W_law_384 : decode m_W_law.2.1 384 = .ok (.ireturn, 1) := by decide +kernel
theorem d_W_law_385 : decode m_W_law.2.1 385 = .ok (.goto 451, 3) := by decide +kernel
theorem d_W_law_388 : decode m_W_law.2.1 388 = .ok (.aload_n 1, 1) := by decide +kernel
theorem d_W_law_389 : decode m_W_law.2.1 389 = .ok (.aload_n 3, 1) := by decide +kernel
theorem d_W_law_390 : decode m_W_law.2.1 390 = .ok (.invokestatic 70, 3) := by decide +kernel
theorem d_W_law_393 : decode m_W_law.2.1 393 = .ok (.istore 5, 2) := by decide +kernel
theorem d_W_law_395 : decode m_W_law.2.1 395 = .ok (.aload_n 2, 1) := by decide +kernel
theorem d_W_law_396 : decode m_W_law.2.1 396 = .ok (.invokevirtual 73, 3) := by decide +kernel
theorem d_W_law_399 : decode m_W_law.2.1 399 = .ok (.istore 6, 2) := by decide +kernel
theorem d_W_law_401 : decode m_W_law.2.1 401 = .ok (.aload_n 2, 1) := by decide +kernel
theorem d_W_law_402 : decode m_W_law.2.1 402 = .ok (.invokevirtual 55, 3) := by decide +kernel
theorem d_W_law_405 : decode m_W_law.2.1 405 = .ok (.iload 5, 2) := by decide +kernel
theorem d_W_law_407 : decode m_W_law.2.1 407 = .ok (.if_icmp .eq 5, 3) := by decide +kernel
theorem d_W_law_410 : decode m_W_law.2.1 410 = .ok (.iconst 0, 1) := by decide +kernel
theorem d_W_law_411 : decode m_W_law.2.1 411 = .ok (.ireturn, 1) := by decide +kernel
theorem d_W_law_412 : decode m_W_law.2.1 412 = .ok (.iload 5, 2) := by decide +kernel
theorem d_W_law_414 : decode m_W_law.2.1 414 = .ok (.ifCond .ne 15, 3) := by decide +kernel
theorem d_W_law_417 : decode m_W_law.2.1 417 = .ok (.aload_n 3, 1) := by decide +kernel
theorem d_W_law_418 : decode m_W_law.2.1 418 = .ok (.iconst 0, 1) := by decide +kernel
theorem d_W_law_419 : decode m_W_law.2.1 419 = .ok (.laload, 1) := by decide +kernel
theorem d_W_law_420 : decode m_W_law.2.1 420 = .ok (.iload 6, 2) := by decide +kernel
theorem d_W_law_422 : decode m_W_law.2.1 422 = .ok (.i2l, 1) := by decide +kernel
theorem d_W_law_423 : decode m_W_law.2.1 423 = .ok (.lcmp, 1) := by decide +kernel
theorem d_W_law_424 : decode m_W_law.2.1 424 = .ok (.ifCond .eq 5, 3) := by decide +kernel
theorem d_W_law_427 : decode m_W_law.2.1 427 = .ok (.iconst 0, 1) := by decide +kernel
theorem d_W_law_428 : decode m_W_law.2.1 428 = .ok (.ireturn, 1) := by decide +kernel
theorem d_W_law_429 : decode m_W_law.2.1 429 = .ok (.goto 407, 3) := by decide +kernel
theorem d_W_law_432 : decode m_W_law.2.1 432 = .ok (.aload_n 1, 1) := by decide +kernel
theorem d_W_law_433 : decode m_W_law.2.1 433 = .ok (.aload_n 0, 1) := by decide +kernel
theorem d_W_law_434 : decode m_W_law.2.1 434 = .ok (.iload 4, 2) := by decide +kernel
theorem d_W_law_436 : decode m_W_law.2.1 436 = .ok (.iconst 1, 1) := by decide +kernel
theorem d_W_law_437 : decode m_W_law.2.1 437 = .ok (.iadd, 1) := by decide +kernel
theorem d_W_law_438 : decode m_W_law.2.1 438 = .ok (.iaload, 1) := by decide +kernel
theorem d_W_law_439 : decode m_W_law.2.1 439 = .ok (.aload_n 0, 1) := by decide +kernel
theorem d_W_law_440 : decode m_W_law.2.1 440 = .ok (.iload 4, 2) := by decide +kernel
theorem d_W_law_442 : decode m_W_law.2.1 442 = .ok (.iconst 2, 1) := by decide +kernel
theorem d_W_law_443 : decode m_W_law.2.1 443 = .ok (.iadd, 1) := by decide +kernel
theorem d_W_law_444 : decode m_W_law.2.1 444 = .ok (.iaload, 1) := by decide +kernel
theorem d_W_law_445 : decode m_W_law.2.1 445 = .ok (.aload_n 3, 1) := by decide +kernel
theorem d_W_law_446 : decode m_W_law.2.1 446 = .ok (.invokestatic 74, 3) := by decide +kernel
theorem d_W_law_449 : decode m_W_law.2.1 449 = .ok (.istore 5, 2) := by decide +kernel
theorem d_W_law_451 : decode m_W_law.2.1 451 = .ok (.aload_n 2, 1) := by decide +kernel
theorem d_W_law_452 : decode m_W_law.2.1 452 = .ok (.aload_n 0, 1) := by decide +kernel
theorem d_W_law_453 : decode m_W_law.2.1 453 = .ok (.iload 4, 2) := by decide +kernel
theorem d_W_law_455 : decode m_W_law.2.1 455 = .ok (.iconst 1, 1) := by decide +kernel
theorem d_W_law_456 : decode m_W_law.2.1 456 = .ok (.iadd, 1) := by decide +kernel
theorem d_W_law_457 : decode m_W_law.2.1 457 = .ok (.iaload, 1) := by decide +kernel
theorem d_W_law_458 : decode m_W_law.2.1 458 = .ok (.aload_n 0, 1) := by decide +kernel
theorem d_W_law_459 : decode m_W_law.2.1 459 = .ok (.iload 4, 2) := by decide +kernel
theorem d_W_law_461 : decode m_W_law.2.1 461 = .ok (.iconst 2, 1) := by decide +kernel
theorem d_W_law_462 : decode m_W_law.2.1 462 = .ok (.iadd, 1) := by decide +kernel
theorem d_W_law_463 : decode m_W_law.2.1 463 = .ok (.iaload, 1) := by decide +kernel
theorem d_W_law_464 : decode m_W_law.2.1 464 = .ok (.invokevirtual 76, 3) := by decide +kernel
theorem d_W_law_467 : decode m_W_law.2.1 467 = .ok (.istore 6, 2) := by decide +kernel
theorem d_W_law_469 : decode m_W_law.2.1 469 = .ok (.aload_n 2, 1) := by decide +kernel
theorem d_W_law_470 : decode m_W_law.2.1 470 = .ok (.invokevirtual 55, 3) := by decide +kernel
theorem d_W_law_473 : decode m_W_law.2.1 473 = .ok (.iload 5, 2) := by decide +kernel
theorem d_W_law_475 : decode m_W_law.2.1 475 = .ok (.if_icmp .eq 5, 3) := by decide +kernel
theorem d_W_law_478 : decode m_W_law.2.1 478 = .ok (.iconst 0, 1) := by decide +kernel
theorem d_W_law_479 : decode m_W_law.2.1 479 = .ok (.ireturn, 1) := by decide +kernel
theorem d_W_law_480 : decode m_W_law.2.1 480 = .ok (.iload 5, 2) := by decide +kernel
theorem d_W_law_482 : decode m_W_law.2.1 482 = .ok (.ifCond .ne 15, 3) := by decide +kernel
theorem d_W_law_485 : decode m_W_law.2.1 485 = .ok (.aload_n 3, 1) := by decide +kernel
theorem d_W_law_486 : decode m_W_law.2.1 486 = .ok (.iconst 0, 1) := by decide +kernel
theorem d_W_law_487 : decode m_W_law.2.1 487 = .ok (.laload, 1) := by decide +kernel
theorem d_W_law_488 : decode m_W_law.2.1 488 = .ok (.iload 6, 2) := by decide +kernel
theorem d_W_law_490 : decode m_W_law.2.1 490 = .ok (.i2l, 1) := by decide +kernel
theorem d_W_law_491 : decode m_W_law.2.1 491 = .ok (.lcmp, 1) := by decide +kernel
theorem d_W_law_492 : decode m_W_law.2.1 492 = .ok (.ifCond .eq 5, 3) := by decide +kernel
theorem d_W_law_495 : decode m_W_law.2.1 495 = .ok (.iconst 0, 1) := by decide +kernel
theorem d_W_law_496 : decode m_W_law.2.1 496 = .ok (.ireturn, 1) := by decide +kernel
theorem d_W_law_497 : decode m_W_law.2.1 497 = .ok (.goto 339, 3) := by decide +kernel
theorem d_W_law_500 : decode m_W_law.2.1 500 = .ok (.aload_n 1, 1) := by decide +kernel
theorem d_W_law_501 : decode m_W_law.2.1 501 = .ok (.aload_n 0, 1) := by decide +kernel
theorem d_W_law_502 : decode m_W_law.2.1 502 = .ok (.iload 4, 2) := by decide +kernel
theorem d_W_law_504 : decode m_W_law.2.1 504 = .ok (.iconst 1, 1) := by decide +kernel
theorem d_W_law_505 : decode m_W_law.2.1 505 = .ok (.iadd, 1) := by decide +kernel
theorem d_W_law_506 : decode m_W_law.2.1 506 = .ok (.iaload, 1) := by decide +kernel
theorem d_W_law_507 : decode m_W_law.2.1 507 = .ok (.aload_n 0, 1) := by decide +kernel
theorem d_W_law_508 : decode m_W_law.2.1 508 = .ok (.iload 4, 2) := by decide +kernel
theorem d_W_law_510 : decode m_W_law.2.1 510 = .ok (.iconst 2, 1) := by decide +kernel
theorem d_W_law_511 : decode m_W_law.2.1 511 = .ok (.iadd, 1) := by decide +kernel
theorem d_W_law_512 : decode m_W_law.2.1 512 = .ok (.iaload, 1) := by decide +kernel
theorem d_W_law_513 : decode m_W_law.2.1 513 = .ok (.invokevirtual 77, 3) := by decide +kernel
theorem d_W_law_516 : decode m_W_law.2.1 516 = .ok (.aload_n 2, 1) := by decide +kernel
theorem d_W_law_517 : decode m_W_law.2.1 517 = .ok (.aload_n 0, 1) := by decide +kernel
theorem d_W_law_518 : decode m_W_law.2.1 518 = .ok (.iload 4, 2) := by decide +kernel
theorem d_W_law_520 : decode m_W_law.2.1 520 = .ok (.iconst 1, 1) := by decide +kernel
theorem d_W_law_521 : decode m_W_law.2.1 521 = .ok (.iadd, 1) := by decide +kernel
theorem d_W_law_522 : decode m_W_law.2.1 522 = .ok (.iaload, 1) := by decide +kernel
theorem d_W_law_523 : decode m_W_law.2.1 523 = .ok (.aload_n 0, 1) := by decide +kernel
theorem d_W_law_524 : decode m_W_law.2.1 524 = .ok (.iload 4, 2) := by decide +kernel
theorem d_W_law_526 : decode m_W_law.2.1 526 = .ok (.iconst 2, 1) := by decide +kernel
theorem d_W_law_527 : decode m_W_law.2.1 527 = .ok (.iadd, 1) := by decide +kernel
theorem d_W_law_528 : decode m_W_law.2.1 528 = .ok (.iaload, 1) := by decide +kernel
theorem d_W_law_529 : decode m_W_law.2.1 529 = .ok (.invokevirtual 80, 3) := by decide +kernel
theorem d_W_law_532 : decode m_W_law.2.1 532 = .ok (.if_icmp .eq 304, 3) := by decide +kernel
theorem d_W_law_535 : decode m_W_law.2.1 535 = .ok (.iconst 0, 1) := by decide +kernel
theorem d_W_law_536 : decode m_W_law.2.1 536 = .ok (.ireturn, 1) := by decide +kernel
theorem d_W_law_537 : decode m_W_law.2.1 537 = .ok (.aload_n 1, 1) := by decide +kernel
theorem d_W_law_538 : decode m_W_law.2.1 538 = .ok (.aload_n 0, 1) := by decide +kernel
theorem d_W_law_539 : decode m_W_law.2.1 539 = .ok (.iload 4, 2) := by decide +kernel
theorem d_W_law_541 : decode m_W_law.2.1 541 = .ok (.iconst 1, 1) := by decide +kernel
theorem d_W_law_542 : decode m_W_law.2.1 542 = .ok (.iadd, 1) := by decide +kernel
theorem d_W_law_543 : decode m_W_law.2.1 543 = .ok (.iaload, 1) := by decide +kernel
theorem d_W_law_544 : decode m_W_law.2.1 544 = .ok (.aload_n 3, 1) := by decide +kernel
theorem d_W_law_545 : decode m_W_law.2.1 545 = .ok (.invokestatic 81, 3) := by decide +kernel
theorem d_W_law_548 : decode m_W_law.2.1 548 = .ok (.istore 5, 2) := by decide +kernel
theorem d_W_law_550 : decode m_W_law.2.1 550 = .ok (.aload_n 2, 1) := by decide +kernel
theorem d_W_law_551 : decode m_W_law.2.1 551 = .ok (.aload_n 0, 1) := by decide +kernel
theorem d_W_law_552 : decode m_W_law.2.1 552 = .ok (.iload 4, 2) := by decide +kernel
theorem d_W_law_554 : decode m_W_law.2.1 554 = .ok (.iconst 1, 1) := by decide +kernel
theorem d_W_law_555 : decode m_W_law.2.1 555 = .ok (.iadd, 1) := by decide +kernel
theorem d_W_law_556 : decode m_W_law.2.1 556 = .ok (.iaload, 1) := by decide +kernel
theorem d_W_law_557 : decode m_W_law.2.1 557 = .ok (.invokevirtual 83, 3) := by decide +kernel
theorem d_W_law_560 : decode m_W_law.2.1 560 = .ok (.istore 6, 2) := by decide +kernel
theorem d_W_law_562 : decode m_W_law.2.1 562 = .ok (.aload_n 2, 1) := by decide +kernel
theorem d_W_law_563 : decode m_W_law.2.1 563 = .ok (.invokevirtual 55, 3) := by decide +kernel
theorem d_W_law_566 : decode m_W_law.2.1 566 = .ok (.iload 5, 2) := by decide +kernel
theorem d_W_law_568 : decode m_W_law.2.1 568 = .ok (.if_icmp .eq 5, 3) := by decide +kernel
theorem d_W_law_571 : decode m_W_law.2.1 571 = .ok (.iconst 0, 1) := by decide +kernel
theorem d_W_law_572 : decode m_W_law.2.1 572 = .ok (.ireturn, 1) := by decide +kernel
theorem d_W_law_573 : decode m_W_law.2.1 573 = .ok (.iload 5, 2) := by decide +kernel
theorem d_W_law_575 : decode m_W_law.2.1 575 = .ok (.ifCond .ne 15, 3) := by decide +kernel
theorem d_W_law_578 : decode m_W_law.2.1 578 = .ok (.aload_n 3, 1) := by decide +kernel
theorem d_W_law_579 : decode m_W_law.2.1 579 = .ok (.iconst 0, 1) := by decide +kernel
theorem d_W_law_580 : decode m_W_law.2.1 580 = .ok (.laload, 1) := by decide +kernel
theorem d_W_law_581 : decode m_W_law.2.1 581 = .ok (.iload 6, 2) := by decide +kernel
theorem d_W_law_583 : decode m_W_law.2.1 583 = .ok (.i2l, 1) := by decide +kernel
theorem d_W_law_584 : decode m_W_law.2.1 584 = .ok (.lcmp, 1) := by decide +kernel
theorem d_W_law_585 : decode m_W_law.2.1 585 = .ok (.ifCond .eq 5, 3) := by decide +kernel
theorem d_W_law_588 : decode m_W_law.2.1 588 = .ok (.iconst 0, 1) := by decide +kernel
theorem d_W_law_589 : decode m_W_law.2.1 589 = .ok (.ireturn, 1) := by decide +kernel
theorem d_W_law_590 : decode m_W_law.2.1 590 = .ok (.goto 246, 3) := by decide +kernel
theorem d_W_law_593 : decode m_W_law.2.1 593 = .ok (.aload_n 1, 1) := by decide +kernel
theorem d_W_law_594 : decode m_W_law.2.1 594 = .ok (.aload_n 0, 1) := by decide +kernel
theorem d_W_law_595 : decode m_W_law.2.1 595 = .ok (.iload 4, 2) := by decide +kernel
theorem d_W_law_597 : decode m_W_law.2.1 597 = .ok (.iconst 1, 1) := by decide +kernel
theorem d_W_law_598 : decode m_W_law.2.1 598 = .ok (.iadd, 1) := by decide +kernel
theorem d_W_law_599 : decode m_W_law.2.1 599 = .ok (.iaload, 1) := by decide +kernel
theorem d_W_law_600 : decode m_W_law.2.1 600 = .ok (.aload_n 0, 1) := by decide +kernel
theorem d_W_law_601 : decode m_W_law.2.1 601 = .ok (.iload 4, 2) := by decide +kernel
theorem d_W_law_603 : decode m_W_law.2.1 603 = .ok (.iconst 2, 1) := by decide +kernel
theorem d_W_law_604 : decode m_W_law.2.1 604 = .ok (.iadd, 1) := by decide +kernel
theorem d_W_law_605 : decode m_W_law.2.1 605 = .ok (.iaload, 1) := by decide +kernel
theorem d_W_law_606 : decode m_W_law.2.1 606 = .ok (.aload_n 0, 1) := by decide +kernel
theorem d_W_law_607 : decode m_W_law.2.1 607 = .ok (.iload 4, 2) := by decide +kernel
theorem d_W_law_609 : decode m_W_law.2.1 609 = .ok (.iconst 3, 1) := by decide +kernel
theorem d_W_law_610 : decode m_W_law.2.1 610 = .ok (.iadd, 1) := by decide +kernel
theorem d_W_law_611 : decode m_W_law.2.1 611 = .ok (.iaload, 1) := by decide +kernel
theorem d_W_law_612 : decode m_W_law.2.1 612 = .ok (.aload_n 0, 1) := by decide +kernel
theorem d_W_law_613 : decode m_W_law.2.1 613 = .ok (.iload 4, 2) := by decide +kernel
theorem d_W_law_615 : decode m_W_law.2.1 615 = .ok (.iconst 4, 1) := by decide +kernel
theorem d_W_law_616 : decode m_W_law.2.1 616 = .ok (.iadd, 1) := by decide +kernel
theorem d_W_law_617 : decode m_W_law.2.1 617 = .ok (.iaload, 1) := by decide +kernel
theorem d_W_law_618 : decode m_W_law.2.1 618 = .ok (.aload_n 0, 1) := by decide +kernel
theorem d_W_law_619 : decode m_W_law.2.1 619 = .ok (.iload 4, 2) := by decide +kernel
theorem d_W_law_621 : decode m_W_law.2.1 621 = .ok (.iconst 5, 1) := by decide +kernel
theorem d_W_law_622 : decode m_W_law.2.1 622 = .ok (.iadd, 1) := by decide +kernel
theorem d_W_law_623 : decode m_W_law.2.1 623 = .ok (.iaload, 1) := by decide +kernel
theorem d_W_law_624 : decode m_W_law.2.1 624 = .ok (.aload_n 3, 1) := by decide +kernel
theorem d_W_law_625 : decode m_W_law.2.1 625 = .ok (.invokestatic 84, 3) := by decide +kernel
theorem d_W_law_628 : decode m_W_law.2.1 628 = .ok (.istore 5, 2) := by decide +kernel
theorem d_W_law_630 : decode m_W_law.2.1 630 = .ok (.aload_n 2, 1) := by decide +kernel
theorem d_W_law_631 : decode m_W_law.2.1 631 = .ok (.aload_n 0, 1) := by decide +kernel
theorem d_W_law_632 : decode m_W_law.2.1 632 = .ok (.iload 4, 2) := by decide +kernel
theorem d_W_law_634 : decode m_W_law.2.1 634 = .ok (.iconst 1, 1) := by decide +kernel
theorem d_W_law_635 : decode m_W_law.2.1 635 = .ok (.iadd, 1) := by decide +kernel
theorem d_W_law_636 : decode m_W_law.2.1 636 = .ok (.iaload, 1) := by decide +kernel
theorem d_W_law_637 : decode m_W_law.2.1 637 = .ok (.aload_n 0, 1) := by decide +kernel
theorem d_W_law_638 : decode m_W_law.2.1 638 = .ok (.iload 4, 2) := by decide +kernel
theorem d_W_law_640 : decode m_W_law.2.1 640 = .ok (.iconst 2, 1) := by decide +kernel
theorem d_W_law_641 : decode m_W_law.2.1 641 = .ok (.iadd, 1) := by decide +kernel
theorem d_W_law_642 : decode m_W_law.2.1 642 = .ok (.iaload, 1) := by decide +kernel
theorem d_W_law_643 : decode m_W_law.2.1 643 = .ok (.aload_n 0, 1) := by decide +kernel
theorem d_W_law_644 : decode m_W_law.2.1 644 = .ok (.iload 4, 2) := by decide +kernel
theorem d_W_law_646 : decode m_W_law.2.1 646 = .ok (.iconst 3, 1) := by decide +kernel
theorem d_W_law_647 : decode m_W_law.2.1 647 = .ok (.iadd, 1) := by decide +kernel
theorem d_W_law_648 : decode m_W_law.2.1 648 = .ok (.iaload, 1) := by decide +kernel
theorem d_W_law_649 : decode m_W_law.2.1 649 = .ok (.aload_n 0, 1) := by decide +kernel
theorem d_W_law_650 : decode m_W_law.2.1 650 = .ok (.iload 4, 2) := by decide +kernel
theorem d_W_law_652 : decode m_W_law.2.1 652 = .ok (.iconst 4, 1) := by decide +kernel
theorem d_W_law_653 : decode m_W_law.2.1 653 = .ok (.iadd, 1) := by decide +kernel
theorem d_W_law_654 : decode m_W_law.2.1 654 = .ok (.iaload, 1) := by decide +kernel
theorem d_W_law_655 : decode m_W_law.2.1 655 = .ok (.aload_n 0, 1) := by decide +kernel
theorem d_W_law_656 : decode m_W_law.2.1 656 = .ok (.iload 4, 2) := by decide +kernel
theorem d_W_law_658 : decode m_W_law.2.1 658 = .ok (.iconst 5, 1) := by decide +kernel
theorem d_W_law_659 : decode m_W_law.2.1 659 = .ok (.iadd, 1) := by decide +kernel
theorem d_W_law_660 : decode m_W_law.2.1 660 = .ok (.iaload, 1) := by decide +kernel
theorem d_W_law_661 : decode m_W_law.2.1 661 = .ok (.invokevirtual 87, 3) := by decide +kernel
theorem d_W_law_664 : decode m_W_law.2.1 664 = .ok (.istore 6, 2) := by decide +kernel
theorem d_W_law_666 : decode m_W_law.2.1 666 = .ok (.aload_n 2, 1) := by decide +kernel
theorem d_W_law_667 : decode m_W_law.2.1 667 = .ok (.invokevirtual 55, 3) := by decide +kernel
theorem d_W_law_670 : decode m_W_law.2.1 670 = .ok (.iload 5, 2) := by decide +kernel
theorem d_W_law_672 : decode m_W_law.2.1 672 = .ok (.if_icmp .eq 5, 3) := by decide +kernel
theorem d_W_law_675 : decode m_W_law.2.1 675 = .ok (.iconst 0, 1) := by decide +kernel
theorem d_W_law_676 : decode m_W_law.2.1 676 = .ok (.ireturn, 1) := by decide +kernel
theorem d_W_law_677 : decode m_W_law.2.1 677 = .ok (.iload 5, 2) := by decide +kernel
theorem d_W_law_679 : decode m_W_law.2.1 679 = .ok (.ifCond .ne 15, 3) := by decide +kernel
theorem d_W_law_682 : decode m_W_law.2.1 682 = .ok (.aload_n 3, 1) := by decide +kernel
theorem d_W_law_683 : decode m_W_law.2.1 683 = .ok (.iconst 0, 1) := by decide +kernel
theorem d_W_law_684 : decode m_W_law.2.1 684 = .ok (.laload, 1) := by decide +kernel
theorem d_W_law_685 : decode m_W_law.2.1 685 = .ok (.iload 6, 2) := by decide +kernel
theorem d_W_law_687 : decode m_W_law.2.1 687 = .ok (.i2l, 1) := by decide +kernel
theorem d_W_law_688 : decode m_W_law.2.1 688 = .ok (.lcmp, 1) := by decide +kernel
theorem d_W_law_689 : decode m_W_law.2.1 689 = .ok (.ifCond .eq 5, 3) := by decide +kernel
theorem d_W_law_692 : decode m_W_law.2.1 692 = .ok (.iconst 0, 1) := by decide +kernel
theorem d_W_law_693 : decode m_W_law.2.1 693 = .ok (.ireturn, 1) := by decide +kernel
theorem d_W_law_694 : decode m_W_law.2.1 694 = .ok (.goto 142, 3) := by decide +kernel
theorem d_W_law_697 : decode m_W_law.2.1 697 = .ok (.aload_n 1, 1) := by decide +kernel
theorem d_W_law_698 : decode m_W_law.2.1 698 = .ok (.invokevirtual 88, 3) := by decide +kernel
theorem d_W_law_701 : decode m_W_law.2.1 701 = .ok (.aload_n 2, 1) := by decide +kernel
theorem d_W_law_702 : decode m_W_law.2.1 702 = .ok (.invokevirtual 91, 3) := by decide +kernel
theorem d_W_law_705 : decode m_W_law.2.1 705 = .ok (.if_icmp .eq 131, 3) := by decide +kernel
theorem d_W_law_708 : decode m_W_law.2.1 708 = .ok (.iconst 0, 1) := by decide +kernel
theorem d_W_law_709 : decode m_W_law.2.1 709 = .ok (.ireturn, 1) := by decide +kernel
theorem d_W_law_710 : decode m_W_law.2.1 710 = .ok (.aload_n 1, 1) := by decide +kernel
theorem d_W_law_711 : decode m_W_law.2.1 711 = .ok (.aload_n 0, 1) := by decide +kernel
theorem d_W_law_712 : decode m_W_law.2.1 712 = .ok (.iload 4, 2) := by decide +kernel
theorem d_W_law_714 : decode m_W_law.2.1 714 = .ok (.iconst 1, 1) := by decide +kernel
theorem d_W_law_715 : decode m_W_law.2.1 715 = .ok (.iadd, 1) := by decide +kernel
theorem d_W_law_716 : decode m_W_law.2.1 716 = .ok (.iaload, 1) := by decide +kernel
theorem d_W_law_717 : decode m_W_law.2.1 717 = .ok (.invokevirtual 92, 3) := by decide +kernel
theorem d_W_law_720 : decode m_W_law.2.1 720 = .ok (.aload_n 2, 1) := by decide +kernel
theorem d_W_law_721 : decode m_W_law.2.1 721 = .ok (.aload_n 0, 1) := by decide +kernel
theorem d_W_law_722 : decode m_W_law.2.1 722 = .ok (.iload 4, 2) := by decide +kernel
theorem d_W_law_724 : decode m_W_law.2.1 724 = .ok (.iconst 1, 1) := by decide +kernel
theorem d_W_law_725 : decode m_W_law.2.1 725 = .ok (.iadd, 1) := by decide +kernel
theorem d_W_law_726 : decode m_W_law.2.1 726 = .ok (.iaload, 1) := by decide +kernel
theorem d_W_law_727 : decode m_W_law.2.1 727 = .ok (.invokevirtual 95, 3) := by decide +kernel
theorem d_W_law_730 : decode m_W_law.2.1 730 = .ok (.if_icmp .eq 106, 3) := by decide +kernel
theorem d_W_law_733 : decode m_W_law.2.1 733 = .ok (.iconst 0, 1) := by decide +kernel
theorem d_W_law_734 : decode m_W_law.2.1 734 = .ok (.ireturn, 1) := by decide +kernel
theorem d_W_law_735 : decode m_W_law.2.1 735 = .ok (.aload_n 1, 1) := by decide +kernel
theorem d_W_law_736 : decode m_W_law.2.1 736 = .ok (.invokevirtual 96, 3) := by decide +kernel
theorem d_W_law_739 : decode m_W_law.2.1 739 = .ok (.aload_n 2, 1) := by decide +kernel
theorem d_W_law_740 : decode m_W_law.2.1 740 = .ok (.invokevirtual 99, 3) := by decide +kernel
theorem d_W_law_743 : decode m_W_law.2.1 743 = .ok (.if_icmp .eq 93, 3) := by decide +kernel
theorem d_W_law_746 : decode m_W_law.2.1 746 = .ok (.iconst 0, 1) := by decide +kernel
theorem d_W_law_747 : decode m_W_law.2.1 747 = .ok (.ireturn, 1) := by decide +kernel
theorem d_W_law_748 : decode m_W_law.2.1 748 = .ok (.aload_n 1, 1) := by decide +kernel
theorem d_W_law_749 : decode m_W_law.2.1 749 = .ok (.aload_n 0, 1) := by decide +kernel
theorem d_W_law_750 : decode m_W_law.2.1 750 = .ok (.iload 4, 2) := by decide +kernel
theorem d_W_law_752 : decode m_W_law.2.1 752 = .ok (.iconst 1, 1) := by decide +kernel
theorem d_W_law_753 : decode m_W_law.2.1 753 = .ok (.iadd, 1) := by decide +kernel
theorem d_W_law_754 : decode m_W_law.2.1 754 = .ok (.iaload, 1) := by decide +kernel
theorem d_W_law_755 : decode m_W_law.2.1 755 = .ok (.invokevirtual 100, 3) := by decide +kernel
theorem d_W_law_758 : decode m_W_law.2.1 758 = .ok (.aload_n 2, 1) := by decide +kernel
theorem d_W_law_759 : decode m_W_law.2.1 759 = .ok (.aload_n 0, 1) := by decide +kernel
theorem d_W_law_760 : decode m_W_law.2.1 760 = .ok (.iload 4, 2) := by decide +kernel
theorem d_W_law_762 : decode m_W_law.2.1 762 = .ok (.iconst 1, 1) := by decide +kernel
theorem d_W_law_763 : decode m_W_law.2.1 763 = .ok (.iadd, 1) := by decide +kernel
theorem d_W_law_764 : decode m_W_law.2.1 764 = .ok (.iaload, 1) := by decide +kernel
theorem d_W_law_765 : decode m_W_law.2.1 765 = .ok (.invokevirtual 103, 3) := by decide +kernel
theorem d_W_law_768 : decode m_W_law.2.1 768 = .ok (.if_icmp .eq 68, 3) := by decide +kernel
theorem d_W_law_771 : decode m_W_law.2.1 771 = .ok (.iconst 0, 1) := by decide +kernel
theorem d_W_law_772 : decode m_W_law.2.1 772 = .ok (.ireturn, 1) := by decide +kernel
theorem d_W_law_773 : decode m_W_law.2.1 773 = .ok (.aload_n 1, 1) := by decide +kernel
theorem d_W_law_774 : decode m_W_law.2.1 774 = .ok (.aload_n 0, 1) := by decide +kernel
theorem d_W_law_775 : decode m_W_law.2.1 775 = .ok (.iload 4, 2) := by decide +kernel
theorem d_W_law_777 : decode m_W_law.2.1 777 = .ok (.iconst 1, 1) := by decide +kernel
theorem d_W_law_778 : decode m_W_law.2.1 778 = .ok (.iadd, 1) := by decide +kernel
theorem d_W_law_779 : decode m_W_law.2.1 779 = .ok (.iaload, 1) := by decide +kernel
theorem d_W_law_780 : decode m_W_law.2.1 780 = .ok (.invokevirtual 104, 3) := by decide +kernel
theorem d_W_law_783 : decode m_W_law.2.1 783 = .ok (.aload_n 2, 1) := by decide +kernel
theorem d_W_law_784 : decode m_W_law.2.1 784 = .ok (.aload_n 0, 1) := by decide +kernel
theorem d_W_law_785 : decode m_W_law.2.1 785 = .ok (.iload 4, 2) := by decide +kernel
theorem d_W_law_787 : decode m_W_law.2.1 787 = .ok (.iconst 1, 1) := by decide +kernel
theorem d_W_law_788 : decode m_W_law.2.1 788 = .ok (.iadd, 1) := by decide +kernel
theorem d_W_law_789 : decode m_W_law.2.1 789 = .ok (.iaload, 1) := by decide +kernel
theorem d_W_law_790 : decode m_W_law.2.1 790 = .ok (.invokevirtual 107, 3) := by decide +kernel
theorem d_W_law_793 : decode m_W_law.2.1 793 = .ok (.if_icmp .eq 43, 3) := by decide +kernel
theorem d_W_law_796 : decode m_W_law.2.1 796 = .ok (.iconst 0, 1) := by decide +kernel
theorem d_W_law_797 : decode m_W_law.2.1 797 = .ok (.ireturn, 1) := by decide +kernel
theorem d_W_law_798 : decode m_W_law.2.1 798 = .ok (.aload_n 1, 1) := by decide +kernel
theorem d_W_law_799 : decode m_W_law.2.1 799 = .ok (.aload_n 0, 1) := by decide +kernel
theorem d_W_law_800 : decode m_W_law.2.1 800 = .ok (.iload 4, 2) := by decide +kernel
theorem d_W_law_802 : decode m_W_law.2.1 802 = .ok (.iconst 1, 1) := by decide +kernel
theorem d_W_law_803 : decode m_W_law.2.1 803 = .ok (.iadd, 1) := by decide +kernel
theorem d_W_law_804 : decode m_W_law.2.1 804 = .ok (.iaload, 1) := by decide +kernel
theorem d_W_law_805 : decode m_W_law.2.1 805 = .ok (.invokevirtual 108, 3) := by decide +kernel
theorem d_W_law_808 : decode m_W_law.2.1 808 = .ok (.aload_n 2, 1) := by decide +kernel
theorem d_W_law_809 : decode m_W_law.2.1 809 = .ok (.aload_n 0, 1) := by decide +kernel
theorem d_W_law_810 : decode m_W_law.2.1 810 = .ok (.iload 4, 2) := by decide +kernel
theorem d_W_law_812 : decode m_W_law.2.1 812 = .ok (.iconst 1, 1) := by decide +kernel
theorem d_W_law_813 : decode m_W_law.2.1 813 = .ok (.iadd, 1) := by decide +kernel
theorem d_W_law_814 : decode m_W_law.2.1 814 = .ok (.iaload, 1) := by decide +kernel
theorem d_W_law_815 : decode m_W_law.2.1 815 = .ok (.invokevirtual 111, 3) := by decide +kernel
theorem d_W_law_818 : decode m_W_law.2.1 818 = .ok (.if_icmp .eq 18, 3) := by decide +kernel
theorem d_W_law_821 : decode m_W_law.2.1 821 = .ok (.iconst 0, 1) := by decide +kernel
theorem d_W_law_822 : decode m_W_law.2.1 822 = .ok (.ireturn, 1) := by decide +kernel
theorem d_W_law_823 : decode m_W_law.2.1 823 = .ok (.aload_n 1, 1) := by decide +kernel
theorem d_W_law_824 : decode m_W_law.2.1 824 = .ok (.invokevirtual 112, 3) := by decide +kernel
theorem d_W_law_827 : decode m_W_law.2.1 827 = .ok (.aload_n 2, 1) := by decide +kernel
theorem d_W_law_828 : decode m_W_law.2.1 828 = .ok (.invokevirtual 115, 3) := by decide +kernel
theorem d_W_law_831 : decode m_W_law.2.1 831 = .ok (.if_icmp .eq 5, 3) := by decide +kernel
theorem d_W_law_834 : decode m_W_law.2.1 834 = .ok (.iconst 0, 1) := by decide +kernel
theorem d_W_law_835 : decode m_W_law.2.1 835 = .ok (.ireturn, 1) := by decide +kernel
theorem d_W_law_836 : decode m_W_law.2.1 836 = .ok (.iinc 4 6, 3) := by decide +kernel
theorem d_W_law_839 : decode m_W_law.2.1 839 = .ok (.goto (-816), 3) := by decide +kernel
theorem d_W_law_842 : decode m_W_law.2.1 842 = .ok (.iconst 1, 1) := by decide +kernel
theorem d_W_law_843 : decode m_W_law.2.1 843 = .ok (.ireturn, 1) := by decide +kernel
end
section
/-! DECODED: written by wip/whole/gen/dec.py -/
theorem d_M_init_0 : decode m_M_init.2.1 0 = .ok (.aload_n 0, 1) := by decide +kernel
theorem d_M_init_1 : decode m_M_init.2.1 1 = .ok (.invokespecial 1, 3) := by decide +kernel
theorem d_M_init_4 : decode m_M_init.2.1 4 = .ok (.aload_n 0, 1) := by decide +kernel
theorem d_M_init_5 : decode m_M_init.2.1 5 = .ok (.bipush 8, 2) := by decide +kernel
theorem d_M_init_7 : decode m_M_init.2.1 7 = .ok (.newarray .int, 2) := by decide +kernel
theorem d_M_init_9 : decode m_M_init.2.1 9 = .ok (.putfield 7, 3) := by decide +kernel
theorem d_M_init_12 : decode m_M_init.2.1 12 = .ok (.aload_n 0, 1) := by decide +kernel
theorem d_M_init_13 : decode m_M_init.2.1 13 = .ok (.bipush 32, 2) := by decide +kernel
theorem d_M_init_15 : decode m_M_init.2.1 15 = .ok (.newarray .int, 2) := by decide +kernel
theorem d_M_init_17 : decode m_M_init.2.1 17 = .ok (.putfield 13, 3) := by decide +kernel
theorem d_M_init_20 : decode m_M_init.2.1 20 = .ok (.aload_n 0, 1) := by decide +kernel
theorem d_M_init_21 : decode m_M_init.2.1 21 = .ok (.bipush 12, 2) := by decide +kernel
theorem d_M_init_23 : decode m_M_init.2.1 23 = .ok (.newarray .int, 2) := by decide +kernel
theorem d_M_init_25 : decode m_M_init.2.1 25 = .ok (.putfield 16, 3) := by decide +kernel
theorem d_M_init_28 : decode m_M_init.2.1 28 = .ok (.aload_n 0, 1) := by decide +kernel
theorem d_M_init_29 : decode m_M_init.2.1 29 = .ok (.bipush 12, 2) := by decide +kernel
theorem d_M_init_31 : decode m_M_init.2.1 31 = .ok (.newarray .int, 2) := by decide +kernel
theorem d_M_init_33 : decode m_M_init.2.1 33 = .ok (.putfield 19, 3) := by decide +kernel
theorem d_M_init_36 : decode m_M_init.2.1 36 = .ok (.aload_n 0, 1) := by decide +kernel
theorem d_M_init_37 : decode m_M_init.2.1 37 = .ok (.sipush 192, 3) := by decide +kernel
theorem d_M_init_40 : decode m_M_init.2.1 40 = .ok (.newarray .int, 2) := by decide +kernel
theorem d_M_init_42 : decode m_M_init.2.1 42 = .ok (.putfield 22, 3) := by decide +kernel
theorem d_M_init_45 : decode m_M_init.2.1 45 = .ok (.aload_n 0, 1) := by decide +kernel
theorem d_M_init_46 : decode m_M_init.2.1 46 = .ok (.bipush 8, 2) := by decide +kernel
theorem d_M_init_48 : decode m_M_init.2.1 48 = .ok (.newarray .int, 2) := by decide +kernel
theorem d_M_init_50 : decode m_M_init.2.1 50 = .ok (.putfield 25, 3) := by decide +kernel
theorem d_M_init_53 : decode m_M_init.2.1 53 = .ok (.aload_n 0, 1) := by decide +kernel
theorem d_M_init_54 : decode m_M_init.2.1 54 = .ok (.bipush 8, 2) := by decide +kernel
theorem d_M_init_56 : decode m_M_init.2.1 56 = .ok (.newarray .int, 2) := by decide +kernel
theorem d_M_init_58 : decode m_M_init.2.1 58 = .ok (.putfield 28, 3) := by decide +kernel
theorem d_M_init_61 : decode m_M_init.2.1 61 = .ok (.aload_n 0, 1) := by decide +kernel
theorem d_M_init_62 : decode m_M_init.2.1 62 = .ok (.bipush 8, 2) := by decide +kernel
theorem d_M_init_64 : decode m_M_init.2.1 64 = .ok (.newarray .int, 2) := by decide +kernel
theorem d_M_init_66 : decode m_M_init.2.1 66 = .ok (.putfield 31, 3) := by decide +kernel
theorem d_M_init_69 : decode m_M_init.2.1 69 = .ok (.aload_n 0, 1) := by decide +kernel
theorem d_M_init_70 : decode m_M_init.2.1 70 = .ok (.bipush 8, 2) := by decide +kernel
theorem d_M_init_72 : decode m_M_init.2.1 72 = .ok (.newarray .int, 2) := by decide +kernel
theorem d_M_init_74 : decode m_M_init.2.1 74 = .ok (.putfield 34, 3) := by decide +kernel
theorem d_M_init_77 : decode m_M_init.2.1 77 = .ok (.aload_n 0, 1) := by decide +kernel
theorem d_M_init_78 : decode m_M_init.2.1 78 = .ok (.bipush 8, 2) := by decide +kernel
theorem d_M_init_80 : decode m_M_init.2.1 80 = .ok (.newarray .boolean, 2) := by decide +kernel
theorem d_M_init_82 : decode m_M_init.2.1 82 = .ok (.putfield 37, 3) := by decide +kernel
theorem d_M_init_85 : decode m_M_init.2.1 85 = .ok (.aload_n 0, 1) := by decide +kernel
theorem d_M_init_86 : decode m_M_init.2.1 86 = .ok (.bipush 8, 2) := by decide +kernel
theorem d_M_init_88 : decode m_M_init.2.1 88 = .ok (.newarray .boolean, 2) := by decide +kernel
theorem d_M_init_90 : decode m_M_init.2.1 90 = .ok (.putfield 41, 3) := by decide +kernel
theorem d_M_init_93 : decode m_M_init.2.1 93 = .ok (.aload_n 0, 1) := by decide +kernel
theorem d_M_init_94 : decode m_M_init.2.1 94 = .ok (.bipush 8, 2) := by decide +kernel
theorem d_M_init_96 : decode m_M_init.2.1 96 = .ok (.newarray .boolean, 2) := by decide +kernel
theorem d_M_init_98 : decode m_M_init.2.1 98 = .ok (.putfield 44, 3) := by decide +kernel
theorem d_M_init_101 : decode m_M_init.2.1 101 = .ok (.aload_n 0, 1) := by decide +kernel
theorem d_M_init_102 : decode m_M_init.2.1 102 = .ok (.bipush 8, 2) := by decide +kernel
theorem d_M_init_104 : decode m_M_init.2.1 104 = .ok (.newarray .int, 2) := by decide +kernel
theorem d_M_init_106 : decode m_M_init.2.1 106 = .ok (.putfield 47, 3) := by decide +kernel
theorem d_M_init_109 : decode m_M_init.2.1 109 = .ok (.aload_n 0, 1) := by decide +kernel
theorem d_M_init_110 : decode m_M_init.2.1 110 = .ok (.bipush 8, 2) := by decide +kernel
theorem d_M_init_112 : decode m_M_init.2.1 112 = .ok (.newarray .int, 2) := by decide +kernel
theorem d_M_init_114 : decode m_M_init.2.1 114 = .ok (.putfield 50, 3) := by decide +kernel
theorem d_M_init_117 : decode m_M_init.2.1 117 = .ok (.aload_n 0, 1) := by decide +kernel
theorem d_M_init_118 : decode m_M_init.2.1 118 = .ok (.bipush 8, 2) := by decide +kernel
theorem d_M_init_120 : decode m_M_init.2.1 120 = .ok (.newarray .int, 2) := by decide +kernel
theorem d_M_init_122 : decode m_M_init.2.1 122 = .ok (.putfield 53, 3) := by decide +kernel
theorem d_M_init_125 : decode m_M_init.2.1 125 = .ok (.aload_n 0, 1) := by decide +kernel
theorem d_M_init_126 : decode m_M_init.2.1 126 = .ok (.bipush 8, 2) := by decide +kernel
theorem d_M_init_128 : decode m_M_init.2.1 128 = .ok (.newarray .int, 2) := by decide +kernel
theorem d_M_init_130 : decode m_M_init.2.1 130 = .ok (.putfield 56, 3) := by decide +kernel
theorem d_M_init_133 : decode m_M_init.2.1 133 = .ok (.aload_n 0, 1) := by decide +kernel
theorem d_M_init_134 : decode m_M_init.2.1 134 = .ok (.bipush 64, 2) := by decide +kernel
theorem d_M_init_136 : decode m_M_init.2.1 136 = .ok (.newarray .int, 2) := by decide +kernel
theorem d_M_init_138 : decode m_M_init.2.1 138 = .ok (.putfield 59, 3) := by decide +kernel
theorem d_M_init_141 : decode m_M_init.2.1 141 = .ok (.aload_n 0, 1) := by decide +kernel
theorem d_M_init_142 : decode m_M_init.2.1 142 = .ok (.bipush 8, 2) := by decide +kernel
theorem d_M_init_144 : decode m_M_init.2.1 144 = .ok (.newarray .int, 2) := by decide +kernel
theorem d_M_init_146 : decode m_M_init.2.1 146 = .ok (.putfield 62, 3) := by decide +kernel
theorem d_M_init_149 : decode m_M_init.2.1 149 = .ok (.aload_n 0, 1) := by decide +kernel
theorem d_M_init_150 : decode m_M_init.2.1 150 = .ok (.bipush 8, 2) := by decide +kernel
theorem d_M_init_152 : decode m_M_init.2.1 152 = .ok (.newarray .int, 2) := by decide +kernel
theorem d_M_init_154 : decode m_M_init.2.1 154 = .ok (.putfield 65, 3) := by decide +kernel
theorem d_M_init_157 : decode m_M_init.2.1 157 = .ok (.aload_n 0, 1) := by decide +kernel
theorem d_M_init_158 : decode m_M_init.2.1 158 = .ok (.bipush 16, 2) := by decide +kernel
theorem d_M_init_160 : decode m_M_init.2.1 160 = .ok (.newarray .int, 2) := by decide +kernel
theorem d_M_init_162 : decode m_M_init.2.1 162 = .ok (.putfield 68, 3) := by decide +kernel
theorem d_M_init_165 : decode m_M_init.2.1 165 = .ok (.aload_n 0, 1) := by decide +kernel
theorem d_M_init_166 : decode m_M_init.2.1 166 = .ok (.bipush 16, 2) := by decide +kernel
theorem d_M_init_168 : decode m_M_init.2.1 168 = .ok (.newarray .int, 2) := by decide +kernel
theorem d_M_init_170 : decode m_M_init.2.1 170 = .ok (.putfield 71, 3) := by decide +kernel
theorem d_M_init_173 : decode m_M_init.2.1 173 = .ok (.aload_n 0, 1) := by decide +kernel
theorem d_M_init_174 : decode m_M_init.2.1 174 = .ok (.bipush 16, 2) := by decide +kernel
theorem d_M_init_176 : decode m_M_init.2.1 176 = .ok (.newarray .int, 2) := by decide +kernel
theorem d_M_init_178 : decode m_M_init.2.1 178 = .ok (.putfield 74, 3) := by decide +kernel
theorem d_M_init_181 : decode m_M_init.2.1 181 = .ok (.aload_n 0, 1) := by decide +kernel
theorem d_M_init_182 : decode m_M_init.2.1 182 = .ok (.sipush 4096, 3) := by decide +kernel
theorem d_M_init_185 : decode m_M_init.2.1 185 = .ok (.newarray .int, 2) := by decide +kernel
theorem d_M_init_187 : decode m_M_init.2.1 187 = .ok (.putfield 77, 3) := by decide +kernel
theorem d_M_init_190 : decode m_M_init.2.1 190 = .ok (.aload_n 0, 1) := by decide +kernel
theorem d_M_init_191 : decode m_M_init.2.1 191 = .ok (.bipush 8, 2) := by decide +kernel
theorem d_M_init_193 : decode m_M_init.2.1 193 = .ok (.newarray .int, 2) := by decide +kernel
theorem d_M_init_195 : decode m_M_init.2.1 195 = .ok (.putfield 80, 3) := by decide +kernel
theorem d_M_init_198 : decode m_M_init.2.1 198 = .ok (.aload_n 0, 1) := by decide +kernel
theorem d_M_init_199 : decode m_M_init.2.1 199 = .ok (.bipush 8, 2) := by decide +kernel
theorem d_M_init_201 : decode m_M_init.2.1 201 = .ok (.newarray .int, 2) := by decide +kernel
theorem d_M_init_203 : decode m_M_init.2.1 203 = .ok (.putfield 83, 3) := by decide +kernel
theorem d_M_init_206 : decode m_M_init.2.1 206 = .ok (.aload_n 0, 1) := by decide +kernel
theorem d_M_init_207 : decode m_M_init.2.1 207 = .ok (.bipush 8, 2) := by decide +kernel
theorem d_M_init_209 : decode m_M_init.2.1 209 = .ok (.newarray .int, 2) := by decide +kernel
theorem d_M_init_211 : decode m_M_init.2.1 211 = .ok (.putfield 86, 3) := by decide +kernel
theorem d_M_init_214 : decode m_M_init.2.1 214 = .ok (.aload_n 0, 1) := by decide +kernel
theorem d_M_init_215 : decode m_M_init.2.1 215 = .ok (.bipush 64, 2) := by decide +kernel
theorem d_M_init_217 : decode m_M_init.2.1 217 = .ok (.newarray .int, 2) := by decide +kernel
theorem d_M_init_219 : decode m_M_init.2.1 219 = .ok (.putfield 89, 3) := by decide +kernel
theorem d_M_init_222 : decode m_M_init.2.1 222 = .ok (.aload_n 0, 1) := by decide +kernel
theorem d_M_init_223 : decode m_M_init.2.1 223 = .ok (.bipush 8, 2) := by decide +kernel
theorem d_M_init_225 : decode m_M_init.2.1 225 = .ok (.newarray .int, 2) := by decide +kernel
theorem d_M_init_227 : decode m_M_init.2.1 227 = .ok (.putfield 92, 3) := by decide +kernel
theorem d_M_init_230 : decode m_M_init.2.1 230 = .ok (.aload_n 0, 1) := by decide +kernel
theorem d_M_init_231 : decode m_M_init.2.1 231 = .ok (.bipush 21, 2) := by decide +kernel
theorem d_M_init_233 : decode m_M_init.2.1 233 = .ok (.newarray .int, 2) := by decide +kernel
theorem d_M_init_235 : decode m_M_init.2.1 235 = .ok (.putfield 95, 3) := by decide +kernel
theorem d_M_init_238 : decode m_M_init.2.1 238 = .ok (.aload_n 0, 1) := by decide +kernel
theorem d_M_init_239 : decode m_M_init.2.1 239 = .ok (.bipush 21, 2) := by decide +kernel
theorem d_M_init_241 : decode m_M_init.2.1 241 = .ok (.newarray .int, 2) := by decide +kernel
theorem d_M_init_243 : decode m_M_init.2.1 243 = .ok (.putfield 98, 3) := by decide +kernel
theorem d_M_init_246 : decode m_M_init.2.1 246 = .ok (.aload_n 0, 1) := by decide +kernel
theorem d_M_init_247 : decode m_M_init.2.1 247 = .ok (.bipush 21, 2) := by decide +kernel
theorem d_M_init_249 : decode m_M_init.2.1 249 = .ok (.newarray .int, 2) := by decide +kernel
theorem d_M_init_251 : decode m_M_init.2.1 251 = .ok (.putfield 101, 3) := by decide +kernel
theorem d_M_init_254 : decode m_M_init.2.1 254 = .ok (.aload_n 0, 1) := by decide +kernel
theorem d_M_init_255 : decode m_M_init.2.1 255 = .ok (.bipush 21, 2) := by decide +kernel
theorem d_M_init_257 : decode m_M_init.2.1 257 = .ok (.newarray .int, 2) := by decide +kernel
theorem d_M_init_259 : decode m_M_init.2.1 259 = .ok (.putfield 104, 3) := by decide +kernel
theorem d_M_init_262 : decode m_M_init.2.1 262 = .ok (.aload_n 0, 1) := by decide +kernel
theorem d_M_init_263 : decode m_M_init.2.1 263 = .ok (.bipush 21, 2) := by decide +kernel
theorem d_M_init_265 : decode m_M_init.2.1 265 = .ok (.newarray .int, 2) := by decide +kernel
theorem d_M_init_267 : decode m_M_init.2.1 267 = .ok (.putfield 107, 3) := by decide +kernel
theorem d_M_init_270 : decode m_M_init.2.1 270 = .ok (.aload_n 0, 1) := by decide +kernel
theorem d_M_init_271 : decode m_M_init.2.1 271 = .ok (.bipush 21, 2) := by decide +kernel
theorem d_M_init_273 : decode m_M_init.2.1 273 = .ok (.newarray .int, 2) := by decide +kernel
theorem d_M_init_275 : decode m_M_init.2.1 275 = .ok (.putfield 110, 3) := by decide +kernel
theorem d_M_init_278 : decode m_M_init.2.1 278 = .ok (.aload_n 0, 1) := by decide +kernel
theorem d_M_init_279 : decode m_M_init.2.1 279 = .ok (.sipush 5376, 3) := by decide +kernel
theorem d_M_init_282 : decode m_M_init.2.1 282 = .ok (.newarray .int, 2) := by decide +kernel
theorem d_M_init_284 : decode m_M_init.2.1 284 = .ok (.putfield 113, 3) := by decide +kernel
theorem d_M_init_287 : decode m_M_init.2.1 287 = .ok (.iconst 0, 1) := by decide +kernel
theorem d_M_init_288 : decode m_M_init.2.1 288 = .ok (.istore_n 1, 1) := by decide +kernel
theorem d_M_init_289 : decode m_M_init.2.1 289 = .ok (.iload_n 1, 1) := by decide +kernel
theorem d_M_init_290 : decode m_M_init.2.1 290 = .ok (.bipush 8, 2) := by decide +kernel
theorem d_M_init_292 : decode m_M_init.2.1 292 = .ok (.if_icmp .ge 30, 3) := by decide +kernel
theorem d_M_init_295 : decode m_M_init.2.1 295 = .ok (.aload_n 0, 1) := by decide +kernel
theorem d_M_init_296 : decode m_M_init.2.1 296 = .ok (.getfield 47, 3) := by decide +kernel
theorem d_M_init_299 : decode m_M_init.2.1 299 = .ok (.iload_n 1, 1) := by decide +kernel
theorem d_M_init_300 : decode m_M_init.2.1 300 = .ok (.iconst (-1), 1) := by decide +kernel
theorem d_M_init_301 : decode m_M_init.2.1 301 = .ok (.iastore, 1) := by decide +kernel
theorem d_M_init_302 : decode m_M_init.2.1 302 = .ok (.aload_n 0, 1) := by decide +kernel
theorem d_M_init_303 : decode m_M_init.2.1 303 = .ok (.getfield 56, 3) := by decide +kernel
theorem d_M_init_306 : decode m_M_init.2.1 306 = .ok (.iload_n 1, 1) := by decide +kernel
theorem d_M_init_307 : decode m_M_init.2.1 307 = .ok (.iconst (-1), 1) := by decide +kernel
theorem d_M_init_308 : decode m_M_init.2.1 308 = .ok (.iastore, 1) := by decide +kernel
theorem d_M_init_309 : decode m_M_init.2.1 309 = .ok (.aload_n 0, 1) := by decide +kernel
theorem d_M_init_310 : decode m_M_init.2.1 310 = .ok (.getfield 28, 3) := by decide +kernel
theorem d_M_init_313 : decode m_M_init.2.1 313 = .ok (.iload_n 1, 1) := by decide +kernel
theorem d_M_init_314 : decode m_M_init.2.1 314 = .ok (.iconst (-1), 1) := by decide +kernel
theorem d_M_init_315 : decode m_M_init.2.1 315 = .ok (.iastore, 1) := by decide +kernel
theorem d_M_init_316 : decode m_M_init.2.1 316 = .ok (.iinc 1 1, 3) := by decide +kernel
theorem d_M_init_319 : decode m_M_init.2.1 319 = .ok (.goto (-30), 3) := by decide +kernel
theorem d_M_init_322 : decode m_M_init.2.1 322 = .ok (.iconst 0, 1) := by decide +kernel
theorem d_M_init_323 : decode m_M_init.2.1 323 = .ok (.istore_n 1, 1) := by decide +kernel
theorem d_M_init_324 : decode m_M_init.2.1 324 = .ok (.iload_n 1, 1) := by decide +kernel
theorem d_M_init_325 : decode m_M_init.2.1 325 = .ok (.bipush 64, 2) := by decide +kernel
theorem d_M_init_327 : decode m_M_init.2.1 327 = .ok (.if_icmp .ge 16, 3) := by decide +kernel
theorem d_M_init_330 : decode m_M_init.2.1 330 = .ok (.aload_n 0, 1) := by decide +kernel
theorem d_M_init_331 : decode m_M_init.2.1 331 = .ok (.getfield 89, 3) := by decide +kernel
theorem d_M_init_334 : decode m_M_init.2.1 334 = .ok (.iload_n 1, 1) := by decide +kernel
theorem d_M_init_335 : decode m_M_init.2.1 335 = .ok (.iconst (-1), 1) := by decide +kernel
theorem d_M_init_336 : decode m_M_init.2.1 336 = .ok (.iastore, 1) := by decide +kernel
theorem d_M_init_337 : decode m_M_init.2.1 337 = .ok (.iinc 1 1, 3) := by decide +kernel
theorem d_M_init_340 : decode m_M_init.2.1 340 = .ok (.goto (-16), 3) := by decide +kernel
theorem d_M_init_343 : decode m_M_init.2.1 343 = .ok (.return_, 1) := by decide +kernel
theorem d_M_thrown_0 : decode m_M_thrown.2.1 0 = .ok (.aload_n 0, 1) := by decide +kernel
theorem d_M_thrown_1 : decode m_M_thrown.2.1 1 = .ok (.getfield 116, 3) := by decide +kernel
theorem d_M_thrown_4 : decode m_M_thrown.2.1 4 = .ok (.ireturn, 1) := by decide +kernel
theorem d_M_agent_0 : decode m_M_agent.2.1 0 = .ok (.aload_n 0, 1) := by decide +kernel
theorem d_M_agent_1 : decode m_M_agent.2.1 1 = .ok (.iload_n 1, 1) := by decide +kernel
theorem d_M_agent_2 : decode m_M_agent.2.1 2 = .ok (.iconst 2, 1) := by decide +kernel
theorem d_M_agent_3 : decode m_M_agent.2.1 3 = .ok (.iconst 4, 1) := by decide +kernel
theorem d_M_agent_4 : decode m_M_agent.2.1 4 = .ok (.invokestatic 127, 3) := by decide +kernel
theorem d_M_agent_7 : decode m_M_agent.2.1 7 = .ok (.ifCond .ne 7, 3) := by decide +kernel
theorem d_M_agent_10 : decode m_M_agent.2.1 10 = .ok (.iconst 1, 1) := by decide +kernel
theorem d_M_agent_11 : decode m_M_agent.2.1 11 = .ok (.goto 24, 3) := by decide +kernel
theorem d_M_agent_14 : decode m_M_agent.2.1 14 = .ok (.aload_n 0, 1) := by decide +kernel
theorem d_M_agent_15 : decode m_M_agent.2.1 15 = .ok (.getfield 135, 3) := by decide +kernel
theorem d_M_agent_18 : decode m_M_agent.2.1 18 = .ok (.ifCond .ne 12, 3) := by decide +kernel
theorem d_M_agent_21 : decode m_M_agent.2.1 21 = .ok (.aload_n 0, 1) := by decide +kernel
theorem d_M_agent_22 : decode m_M_agent.2.1 22 = .ok (.getfield 124, 3) := by decide +kernel
theorem d_M_agent_25 : decode m_M_agent.2.1 25 = .ok (.bipush 8, 2) := by decide +kernel
theorem d_M_agent_27 : decode m_M_agent.2.1 27 = .ok (.if_icmp .ne 7, 3) := by decide +kernel
theorem d_M_agent_30 : decode m_M_agent.2.1 30 = .ok (.iconst 2, 1) := by decide +kernel
theorem d_M_agent_31 : decode m_M_agent.2.1 31 = .ok (.goto 4, 3) := by decide +kernel
theorem d_M_agent_34 : decode m_M_agent.2.1 34 = .ok (.iconst 0, 1) := by decide +kernel
theorem d_M_agent_35 : decode m_M_agent.2.1 35 = .ok (.putfield 116, 3) := by decide +kernel
theorem d_M_agent_38 : decode m_M_agent.2.1 38 = .ok (.aload_n 0, 1) := by decide +kernel
theorem d_M_agent_39 : decode m_M_agent.2.1 39 = .ok (.getfield 116, 3) := by decide +kernel
theorem d_M_agent_42 : decode m_M_agent.2.1 42 = .ok (.ifCond .le 5, 3) := by decide +kernel
theorem d_M_agent_45 : decode m_M_agent.2.1 45 = .ok (.iconst 0, 1) := by decide +kernel
theorem d_M_agent_46 : decode m_M_agent.2.1 46 = .ok (.ireturn, 1) := by decide +kernel
theorem d_M_agent_47 : decode m_M_agent.2.1 47 = .ok (.aload_n 0, 1) := by decide +kernel
theorem d_M_agent_48 : decode m_M_agent.2.1 48 = .ok (.getfield 7, 3) := by decide +kernel
theorem d_M_agent_51 : decode m_M_agent.2.1 51 = .ok (.aload_n 0, 1) := by decide +kernel
theorem d_M_agent_52 : decode m_M_agent.2.1 52 = .ok (.getfield 124, 3) := by decide +kernel
theorem d_M_agent_55 : decode m_M_agent.2.1 55 = .ok (.iload_n 1, 1) := by decide +kernel
theorem d_M_agent_56 : decode m_M_agent.2.1 56 = .ok (.iastore, 1) := by decide +kernel
theorem d_M_agent_57 : decode m_M_agent.2.1 57 = .ok (.aload_n 0, 1) := by decide +kernel
theorem d_M_agent_58 : decode m_M_agent.2.1 58 = .ok (.dup, 1) := by decide +kernel
theorem d_M_agent_59 : decode m_M_agent.2.1 59 = .ok (.getfield 124, 3) := by decide +kernel
theorem d_M_agent_62 : decode m_M_agent.2.1 62 = .ok (.iconst 1, 1) := by decide +kernel
theorem d_M_agent_63 : decode m_M_agent.2.1 63 = .ok (.iadd, 1) := by decide +kernel
theorem d_M_agent_64 : decode m_M_agent.2.1 64 = .ok (.putfield 124, 3) := by decide +kernel
theorem d_M_agent_67 : decode m_M_agent.2.1 67 = .ok (.aload_n 0, 1) := by decide +kernel
theorem d_M_agent_68 : decode m_M_agent.2.1 68 = .ok (.getfield 124, 3) := by decide +kernel
theorem d_M_agent_71 : decode m_M_agent.2.1 71 = .ok (.iconst 1, 1) := by decide +kernel
theorem d_M_agent_72 : decode m_M_agent.2.1 72 = .ok (.isub, 1) := by decide +kernel
theorem d_M_agent_73 : decode m_M_agent.2.1 73 = .ok (.ireturn, 1) := by decide +kernel
theorem d_M_within_0 : decode m_M_within.2.1 0 = .ok (.iload_n 0, 1) := by decide +kernel
theorem d_M_within_1 : decode m_M_within.2.1 1 = .ok (.iload_n 1, 1) := by decide +kernel
theorem d_M_within_2 : decode m_M_within.2.1 2 = .ok (.if_icmp .lt 12, 3) := by decide +kernel
theorem d_M_within_5 : decode m_M_within.2.1 5 = .ok (.iload_n 0, 1) := by decide +kernel
theorem d_M_within_6 : decode m_M_within.2.1 6 = .ok (.iload_n 2, 1) := by decide +kernel
theorem d_M_within_7 : decode m_M_within.2.1 7 = .ok (.if_icmp .gt 7, 3) := by decide +kernel
theorem d_M_within_10 : decode m_M_within.2.1 10 = .ok (.iconst 1, 1) := by decide +kernel
theorem d_M_within_11 : decode m_M_within.2.1 11 = .ok (.goto 4, 3) := by decide +kernel
theorem d_M_within_14 : decode m_M_within.2.1 14 = .ok (.iconst 0, 1) := by decide +kernel
theorem d_M_within_15 : decode m_M_within.2.1 15 = .ok (.ireturn, 1) := by decide +kernel
theorem d_M_own_0 : decode m_M_own.2.1 0 = .ok (.aload_n 0, 1) := by decide +kernel
theorem d_M_own_1 : decode m_M_own.2.1 1 = .ok (.aload_n 0, 1) := by decide +kernel
theorem d_M_own_2 : decode m_M_own.2.1 2 = .ok (.iload_n 1, 1) := by decide +kernel
theorem d_M_own_3 : decode m_M_own.2.1 3 = .ok (.iload_n 2, 1) := by decide +kernel
theorem d_M_own_4 : decode m_M_own.2.1 4 = .ok (.invokevirtual 139, 3) := by decide +kernel
theorem d_M_own_7 : decode m_M_own.2.1 7 = .ok (.ifCond .eq 10, 3) := by decide +kernel
theorem d_M_own_10 : decode m_M_own.2.1 10 = .ok (.iload_n 3, 1) := by decide +kernel
theorem d_M_own_11 : decode m_M_own.2.1 11 = .ok (.invokestatic 142, 3) := by decide +kernel
theorem d_M_own_14 : decode m_M_own.2.1 14 = .ok (.ifCond .ne 7, 3) := by decide +kernel
theorem d_M_own_17 : decode m_M_own.2.1 17 = .ok (.iconst 1, 1) := by decide +kernel
theorem d_M_own_18 : decode m_M_own.2.1 18 = .ok (.goto 15, 3) := by decide +kernel
theorem d_M_own_21 : decode m_M_own.2.1 21 = .ok (.aload_n 0, 1) := by decide +kernel
theorem d_M_own_22 : decode m_M_own.2.1 22 = .ok (.getfield 135, 3) := by decide +kernel
theorem d_M_own_25 : decode m_M_own.2.1 25 = .ok (.ifCond .eq 7, 3) := by decide +kernel
theorem d_M_own_28 : decode m_M_own.2.1 28 = .ok (.iconst 2, 1) := by decide +kernel
theorem d_M_own_29 : decode m_M_own.2.1 29 = .ok (.goto 4, 3) := by decide +kernel
theorem d_M_own_32 : decode m_M_own.2.1 32 = .ok (.iconst 0, 1) := by decide +kernel
theorem d_M_own_33 : decode m_M_own.2.1 33 = .ok (.putfield 116, 3) := by decide +kernel
theorem d_M_own_36 : decode m_M_own.2.1 36 = .ok (.aload_n 0, 1) := by decide +kernel
theorem d_M_own_37 : decode m_M_own.2.1 37 = .ok (.getfield 116, 3) := by decide +kernel
theorem d_M_own_40 : decode m_M_own.2.1 40 = .ok (.ifCond .ne 25, 3) := by decide +kernel
theorem d_M_own_43 : decode m_M_own.2.1 43 = .ok (.aload_n 0, 1) := by decide +kernel
theorem d_M_own_44 : decode m_M_own.2.1 44 = .ok (.getfield 13, 3) := by decide +kernel
theorem d_M_own_47 : decode m_M_own.2.1 47 = .ok (.iconst 4, 1) := by decide +kernel
theorem d_M_own_48 : decode m_M_own.2.1 48 = .ok (.iload_n 1, 1) := by decide +kernel
theorem d_M_own_49 : decode m_M_own.2.1 49 = .ok (.imul, 1) := by decide +kernel
theorem d_M_own_50 : decode m_M_own.2.1 50 = .ok (.iload_n 2, 1) := by decide +kernel
theorem d_M_own_51 : decode m_M_own.2.1 51 = .ok (.iadd, 1) := by decide +kernel
theorem d_M_own_52 : decode m_M_own.2.1 52 = .ok (.iload_n 3, 1) := by decide +kernel
theorem d_M_own_53 : decode m_M_own.2.1 53 = .ok (.bipush (-2), 2) := by decide +kernel
theorem d_M_own_55 : decode m_M_own.2.1 55 = .ok (.if_icmp .ne 8, 3) := by decide +kernel
theorem d_M_own_58 : decode m_M_own.2.1 58 = .ok (.ldc 145, 2) := by decide +kernel
theorem d_M_own_60 : decode m_M_own.2.1 60 = .ok (.goto 4, 3) := by decide +kernel
theorem d_M_own_63 : decode m_M_own.2.1 63 = .ok (.iload_n 3, 1) := by decide +kernel
theorem d_M_own_64 : decode m_M_own.2.1 64 = .ok (.iastore, 1) := by decide +kernel
theorem d_M_own_65 : decode m_M_own.2.1 65 = .ok (.return_, 1) := by decide +kernel
theorem d_M_isValue_0 : decode m_M_isValue.2.1 0 = .ok (.aload_n 0, 1) := by decide +kernel
theorem d_M_isValue_1 : decode m_M_isValue.2.1 1 = .ok (.iload_n 1, 1) := by decide +kernel
theorem d_M_isValue_2 : decode m_M_isValue.2.1 2 = .ok (.invokevirtual 131, 3) := by decide +kernel
theorem d_M_isValue_5 : decode m_M_isValue.2.1 5 = .ok (.ifCond .eq 23, 3) := by decide +kernel
theorem d_M_isValue_8 : decode m_M_isValue.2.1 8 = .ok (.iload_n 2, 1) := by decide +kernel
theorem d_M_isValue_9 : decode m_M_isValue.2.1 9 = .ok (.iconst 0, 1) := by decide +kernel
theorem d_M_isValue_10 : decode m_M_isValue.2.1 10 = .ok (.aload_n 0, 1) := by decide +kernel
theorem d_M_isValue_11 : decode m_M_isValue.2.1 11 = .ok (.getfield 7, 3) := by decide +kernel
theorem d_M_isValue_14 : decode m_M_isValue.2.1 14 = .ok (.iload_n 1, 1) := by decide +kernel
theorem d_M_isValue_15 : decode m_M_isValue.2.1 15 = .ok (.iaload, 1) := by decide +kernel
theorem d_M_isValue_16 : decode m_M_isValue.2.1 16 = .ok (.iconst 1, 1) := by decide +kernel
theorem d_M_isValue_17 : decode m_M_isValue.2.1 17 = .ok (.isub, 1) := by decide +kernel
theorem d_M_isValue_18 : decode m_M_isValue.2.1 18 = .ok (.invokestatic 127, 3) := by decide +kernel
theorem d_M_isValue_21 : decode m_M_isValue.2.1 21 = .ok (.ifCond .eq 7, 3) := by decide +kernel
theorem d_M_isValue_24 : decode m_M_isValue.2.1 24 = .ok (.iconst 1, 1) := by decide +kernel
theorem d_M_isValue_25 : decode m_M_isValue.2.1 25 = .ok (.goto 4, 3) := by decide +kernel
theorem d_M_isValue_28 : decode m_M_isValue.2.1 28 = .ok (.iconst 0, 1) := by decide +kernel
theorem d_M_isValue_29 : decode m_M_isValue.2.1 29 = .ok (.ireturn, 1) := by decide +kernel
theorem d_M_isAgent_0 : decode m_M_isAgent.2.1 0 = .ok (.iload_n 1, 1) := by decide +kernel
theorem d_M_isAgent_1 : decode m_M_isAgent.2.1 1 = .ok (.iconst 0, 1) := by decide +kernel
theorem d_M_isAgent_2 : decode m_M_isAgent.2.1 2 = .ok (.aload_n 0, 1) := by decide +kernel
theorem d_M_isAgent_3 : decode m_M_isAgent.2.1 3 = .ok (.getfield 124, 3) := by decide +kernel
theorem d_M_isAgent_6 : decode m_M_isAgent.2.1 6 = .ok (.iconst 1, 1) := by decide +kernel
theorem d_M_isAgent_7 : decode m_M_isAgent.2.1 7 = .ok (.isub, 1) := by decide +kernel
theorem d_M_isAgent_8 : decode m_M_isAgent.2.1 8 = .ok (.invokestatic 127, 3) := by decide +kernel
theorem d_M_isAgent_11 : decode m_M_isAgent.2.1 11 = .ok (.ireturn, 1) := by decide +kernel
theorem d_M_isCost_0 : decode m_M_isCost.2.1 0 = .ok (.iload_n 0, 1) := by decide +kernel
theorem d_M_isCost_1 : decode m_M_isCost.2.1 1 = .ok (.iconst 0, 1) := by decide +kernel
theorem d_M_isCost_2 : decode m_M_isCost.2.1 2 = .ok (.sipush 999, 3) := by decide +kernel
theorem d_M_isCost_5 : decode m_M_isCost.2.1 5 = .ok (.invokestatic 127, 3) := by decide +kernel
theorem d_M_isCost_8 : decode m_M_isCost.2.1 8 = .ok (.ifCond .ne 9, 3) := by decide +kernel
theorem d_M_isCost_11 : decode m_M_isCost.2.1 11 = .ok (.iload_n 0, 1) := by decide +kernel
theorem d_M_isCost_12 : decode m_M_isCost.2.1 12 = .ok (.bipush (-2), 2) := by decide +kernel
theorem d_M_isCost_14 : decode m_M_isCost.2.1 14 = .ok (.if_icmp .ne 7, 3) := by decide +kernel
theorem d_M_isCost_17 : decode m_M_isCost.2.1 17 = .ok (.iconst 1, 1) := by decide +kernel
theorem d_M_isCost_18 : decode m_M_isCost.2.1 18 = .ok (.goto 4, 3) := by decide +kernel
theorem d_M_isCost_21 : decode m_M_isCost.2.1 21 = .ok (.iconst 0, 1) := by decide +kernel
theorem d_M_isCost_22 : decode m_M_isCost.2.1 22 = .ok (.ireturn, 1) := by decide +kernel
theorem d_M_pair_0 : decode m_M_pair.2.1 0 = .ok (.aload_n 0, 1) := by decide +kernel
theorem d_M_pair_1 : decode m_M_pair.2.1 1 = .ok (.aload_n 0, 1) := by decide +kernel
theorem d_M_pair_2 : decode m_M_pair.2.1 2 = .ok (.iload_n 1, 1) := by decide +kernel
theorem d_M_pair_3 : decode m_M_pair.2.1 3 = .ok (.invokevirtual 131, 3) := by decide +kernel
theorem d_M_pair_6 : decode m_M_pair.2.1 6 = .ok (.ifCond .eq 16, 3) := by decide +kernel
theorem d_M_pair_9 : decode m_M_pair.2.1 9 = .ok (.aload_n 0, 1) := by decide +kernel
theorem d_M_pair_10 : decode m_M_pair.2.1 10 = .ok (.iload_n 2, 1) := by decide +kernel
theorem d_M_pair_11 : decode m_M_pair.2.1 11 = .ok (.invokevirtual 131, 3) := by decide +kernel
theorem d_M_pair_14 : decode m_M_pair.2.1 14 = .ok (.ifCond .eq 8, 3) := by decide +kernel
theorem d_M_pair_17 : decode m_M_pair.2.1 17 = .ok (.iload_n 1, 1) := by decide +kernel
theorem d_M_pair_18 : decode m_M_pair.2.1 18 = .ok (.iload_n 2, 1) := by decide +kernel
theorem d_M_pair_19 : decode m_M_pair.2.1 19 = .ok (.if_icmp .ne 7, 3) := by decide +kernel
theorem d_M_pair_22 : decode m_M_pair.2.1 22 = .ok (.iconst 1, 1) := by decide +kernel
theorem d_M_pair_23 : decode m_M_pair.2.1 23 = .ok (.goto 33, 3) := by decide +kernel
theorem d_M_pair_26 : decode m_M_pair.2.1 26 = .ok (.aload_n 0, 1) := by decide +kernel
theorem d_M_pair_27 : decode m_M_pair.2.1 27 = .ok (.getfield 135, 3) := by decide +kernel
theorem d_M_pair_30 : decode m_M_pair.2.1 30 = .ok (.ifCond .ne 21, 3) := by decide +kernel
theorem d_M_pair_33 : decode m_M_pair.2.1 33 = .ok (.aload_n 0, 1) := by decide +kernel
theorem d_M_pair_34 : decode m_M_pair.2.1 34 = .ok (.iload_n 1, 1) := by decide +kernel
theorem d_M_pair_35 : decode m_M_pair.2.1 35 = .ok (.iload_n 2, 1) := by decide +kernel
theorem d_M_pair_36 : decode m_M_pair.2.1 36 = .ok (.invokevirtual 149, 3) := by decide +kernel
theorem d_M_pair_39 : decode m_M_pair.2.1 39 = .ok (.ifCond .ge 12, 3) := by decide +kernel
theorem d_M_pair_42 : decode m_M_pair.2.1 42 = .ok (.aload_n 0, 1) := by decide +kernel
theorem d_M_pair_43 : decode m_M_pair.2.1 43 = .ok (.getfield 146, 3) := by decide +kernel
theorem d_M_pair_46 : decode m_M_pair.2.1 46 = .ok (.bipush 12, 2) := by decide +kernel
theorem d_M_pair_48 : decode m_M_pair.2.1 48 = .ok (.if_icmp .ne 7, 3) := by decide +kernel
theorem d_M_pair_51 : decode m_M_pair.2.1 51 = .ok (.iconst 2, 1) := by decide +kernel
theorem d_M_pair_52 : decode m_M_pair.2.1 52 = .ok (.goto 4, 3) := by decide +kernel
theorem d_M_pair_55 : decode m_M_pair.2.1 55 = .ok (.iconst 0, 1) := by decide +kernel
theorem d_M_pair_56 : decode m_M_pair.2.1 56 = .ok (.putfield 116, 3) := by decide +kernel
theorem d_M_pair_59 : decode m_M_pair.2.1 59 = .ok (.aload_n 0, 1) := by decide +kernel
theorem d_M_pair_60 : decode m_M_pair.2.1 60 = .ok (.getfield 116, 3) := by decide +kernel
theorem d_M_pair_63 : decode m_M_pair.2.1 63 = .ok (.ifCond .le 5, 3) := by decide +kernel
theorem d_M_pair_66 : decode m_M_pair.2.1 66 = .ok (.iconst 0, 1) := by decide +kernel
theorem d_M_pair_67 : decode m_M_pair.2.1 67 = .ok (.ireturn, 1) := by decide +kernel
theorem d_M_pair_68 : decode m_M_pair.2.1 68 = .ok (.aload_n 0, 1) := by decide +kernel
theorem d_M_pair_69 : decode m_M_pair.2.1 69 = .ok (.getfield 16, 3) := by decide +kernel
theorem d_M_pair_72 : decode m_M_pair.2.1 72 = .ok (.aload_n 0, 1) := by decide +kernel
theorem d_M_pair_73 : decode m_M_pair.2.1 73 = .ok (.getfield 146, 3) := by decide +kernel
theorem d_M_pair_76 : decode m_M_pair.2.1 76 = .ok (.iload_n 1, 1) := by decide +kernel
theorem d_M_pair_77 : decode m_M_pair.2.1 77 = .ok (.iastore, 1) := by decide +kernel
theorem d_M_pair_78 : decode m_M_pair.2.1 78 = .ok (.aload_n 0, 1) := by decide +kernel
theorem d_M_pair_79 : decode m_M_pair.2.1 79 = .ok (.getfield 19, 3) := by decide +kernel
theorem d_M_pair_82 : decode m_M_pair.2.1 82 = .ok (.aload_n 0, 1) := by decide +kernel
theorem d_M_pair_83 : decode m_M_pair.2.1 83 = .ok (.getfield 146, 3) := by decide +kernel
theorem d_M_pair_86 : decode m_M_pair.2.1 86 = .ok (.iload_n 2, 1) := by decide +kernel
theorem d_M_pair_87 : decode m_M_pair.2.1 87 = .ok (.iastore, 1) := by decide +kernel
theorem d_M_pair_88 : decode m_M_pair.2.1 88 = .ok (.aload_n 0, 1) := by decide +kernel
theorem d_M_pair_89 : decode m_M_pair.2.1 89 = .ok (.dup, 1) := by decide +kernel
theorem d_M_pair_90 : decode m_M_pair.2.1 90 = .ok (.getfield 146, 3) := by decide +kernel
theorem d_M_pair_93 : decode m_M_pair.2.1 93 = .ok (.iconst 1, 1) := by decide +kernel
theorem d_M_pair_94 : decode m_M_pair.2.1 94 = .ok (.iadd, 1) := by decide +kernel
theorem d_M_pair_95 : decode m_M_pair.2.1 95 = .ok (.putfield 146, 3) := by decide +kernel
theorem d_M_pair_98 : decode m_M_pair.2.1 98 = .ok (.aload_n 0, 1) := by decide +kernel
theorem d_M_pair_99 : decode m_M_pair.2.1 99 = .ok (.getfield 25, 3) := by decide +kernel
theorem d_M_pair_102 : decode m_M_pair.2.1 102 = .ok (.iload_n 1, 1) := by decide +kernel
theorem d_M_pair_103 : decode m_M_pair.2.1 103 = .ok (.aload_n 0, 1) := by decide +kernel
theorem d_M_pair_104 : decode m_M_pair.2.1 104 = .ok (.getfield 25, 3) := by decide +kernel
theorem d_M_pair_107 : decode m_M_pair.2.1 107 = .ok (.iload_n 1, 1) := by decide +kernel
theorem d_M_pair_108 : decode m_M_pair.2.1 108 = .ok (.iaload, 1) := by decide +kernel
theorem d_M_pair_109 : decode m_M_pair.2.1 109 = .ok (.iconst 1, 1) := by decide +kernel
theorem d_M_pair_110 : decode m_M_pair.2.1 110 = .ok (.iload_n 2, 1) := by decide +kernel
theorem d_M_pair_111 : decode m_M_pair.2.1 111 = .ok (.ishl, 1) := by decide +kernel
theorem d_M_pair_112 : decode m_M_pair.2.1 112 = .ok (.ior, 1) := by decide +kernel
theorem d_M_pair_113 : decode m_M_pair.2.1 113 = .ok (.iastore, 1) := by decide +kernel
theorem d_M_pair_114 : decode m_M_pair.2.1 114 = .ok (.aload_n 0, 1) := by decide +kernel
theorem d_M_pair_115 : decode m_M_pair.2.1 115 = .ok (.getfield 25, 3) := by decide +kernel
theorem d_M_pair_118 : decode m_M_pair.2.1 118 = .ok (.iload_n 2, 1) := by decide +kernel
theorem d_M_pair_119 : decode m_M_pair.2.1 119 = .ok (.aload_n 0, 1) := by decide +kernel
theorem d_M_pair_120 : decode m_M_pair.2.1 120 = .ok (.getfield 25, 3) := by decide +kernel
theorem d_M_pair_123 : decode m_M_pair.2.1 123 = .ok (.iload_n 2, 1) := by decide +kernel
theorem d_M_pair_124 : decode m_M_pair.2.1 124 = .ok (.iaload, 1) := by decide +kernel
theorem d_M_pair_125 : decode m_M_pair.2.1 125 = .ok (.iconst 1, 1) := by decide +kernel
theorem d_M_pair_126 : decode m_M_pair.2.1 126 = .ok (.iload_n 1, 1) := by decide +kernel
theorem d_M_pair_127 : decode m_M_pair.2.1 127 = .ok (.ishl, 1) := by decide +kernel
theorem d_M_pair_128 : decode m_M_pair.2.1 128 = .ok (.ior, 1) := by decide +kernel
theorem d_M_pair_129 : decode m_M_pair.2.1 129 = .ok (.iastore, 1) := by decide +kernel
theorem d_M_pair_130 : decode m_M_pair.2.1 130 = .ok (.aload_n 0, 1) := by decide +kernel
theorem d_M_pair_131 : decode m_M_pair.2.1 131 = .ok (.getfield 146, 3) := by decide +kernel
theorem d_M_pair_134 : decode m_M_pair.2.1 134 = .ok (.ireturn, 1) := by decide +kernel
end
section
/-! DECODED: written by wip/whole/gen/dec.py -/
theorem d_M_pairOf_0 : decode m_M_pairOf.2.1 0 = .ok (.iconst 0, 1) := by decide +kernel
theorem d_M_pairOf_1 : decode m_M_pairOf.2.1 1 = .ok (.istore_n 3, 1) := by decide +kernel
theorem d_M_pairOf_2 : decode m_M_pairOf.2.1 2 = .ok (.iload_n 3, 1) := by decide +kernel
theorem d_M_pairOf_3 : decode m_M_pairOf.2.1 3 = .ok (.aload_n 0, 1) := by decide +kernel
theorem d_M_pairOf_4 : decode m_M_pairOf.2.1 4 = .ok (.getfield 146, 3) := by decide +kernel
theorem d_M_pairOf_7 : decode m_M_pairOf.2.1 7 = .ok (.if_icmp .ge 51, 3) := by decide +kernel
theorem d_M_pairOf_10 : decode m_M_pairOf.2.1 10 = .ok (.aload_n 0, 1) := by decide +kernel
theorem d_M_pairOf_11 : decode m_M_pairOf.2.1 11 = .ok (.getfield 16, 3) := by decide +kernel
theorem d_M_pairOf_14 : decode m_M_pairOf.2.1 14 = .ok (.iload_n 3, 1) := by decide +kernel
theorem d_M_pairOf_15 : decode m_M_pairOf.2.1 15 = .ok (.iaload, 1) := by decide +kernel
theorem d_M_pairOf_16 : decode m_M_pairOf.2.1 16 = .ok (.iload_n 1, 1) := by decide +kernel
theorem d_M_pairOf_17 : decode m_M_pairOf.2.1 17 = .ok (.if_icmp .ne 13, 3) := by decide +kernel
theorem d_M_pairOf_20 : decode m_M_pairOf.2.1 20 = .ok (.aload_n 0, 1) := by decide +kernel
theorem d_M_pairOf_21 : decode m_M_pairOf.2.1 21 = .ok (.getfield 19, 3) := by decide +kernel
theorem d_M_pairOf_24 : decode m_M_pairOf.2.1 24 = .ok (.iload_n 3, 1) := by decide +kernel
theorem d_M_pairOf_25 : decode m_M_pairOf.2.1 25 = .ok (.iaload, 1) := by decide +kernel
theorem d_M_pairOf_26 : decode m_M_pairOf.2.1 26 = .ok (.iload_n 2, 1) := by decide +kernel
theorem d_M_pairOf_27 : decode m_M_pairOf.2.1 27 = .ok (.if_icmp .eq 23, 3) := by decide +kernel
theorem d_M_pairOf_30 : decode m_M_pairOf.2.1 30 = .ok (.aload_n 0, 1) := by decide +kernel
theorem d_M_pairOf_31 : decode m_M_pairOf.2.1 31 = .ok (.getfield 16, 3) := by decide +kernel
theorem d_M_pairOf_34 : decode m_M_pairOf.2.1 34 = .ok (.iload_n 3, 1) := by decide +kernel
theorem d_M_pairOf_35 : decode m_M_pairOf.2.1 35 = .ok (.iaload, 1) := by decide +kernel
theorem d_M_pairOf_36 : decode m_M_pairOf.2.1 36 = .ok (.iload_n 2, 1) := by decide +kernel
theorem d_M_pairOf_37 : decode m_M_pairOf.2.1 37 = .ok (.if_icmp .ne 15, 3) := by decide +kernel
theorem d_M_pairOf_40 : decode m_M_pairOf.2.1 40 = .ok (.aload_n 0, 1) := by decide +kernel
theorem d_M_pairOf_41 : decode m_M_pairOf.2.1 41 = .ok (.getfield 19, 3) := by decide +kernel
theorem d_M_pairOf_44 : decode m_M_pairOf.2.1 44 = .ok (.iload_n 3, 1) := by decide +kernel
theorem d_M_pairOf_45 : decode m_M_pairOf.2.1 45 = .ok (.iaload, 1) := by decide +kernel
theorem d_M_pairOf_46 : decode m_M_pairOf.2.1 46 = .ok (.iload_n 1, 1) := by decide +kernel
theorem d_M_pairOf_47 : decode m_M_pairOf.2.1 47 = .ok (.if_icmp .ne 5, 3) := by decide +kernel
theorem d_M_pairOf_50 : decode m_M_pairOf.2.1 50 = .ok (.iload_n 3, 1) := by decide +kernel
theorem d_M_pairOf_51 : decode m_M_pairOf.2.1 51 = .ok (.ireturn, 1) := by decide +kernel
theorem d_M_pairOf_52 : decode m_M_pairOf.2.1 52 = .ok (.iinc 3 1, 3) := by decide +kernel
theorem d_M_pairOf_55 : decode m_M_pairOf.2.1 55 = .ok (.goto (-53), 3) := by decide +kernel
theorem d_M_pairOf_58 : decode m_M_pairOf.2.1 58 = .ok (.iconst (-1), 1) := by decide +kernel
theorem d_M_pairOf_59 : decode m_M_pairOf.2.1 59 = .ok (.ireturn, 1) := by decide +kernel
theorem d_M_cost_0 : decode m_M_cost.2.1 0 = .ok (.aload_n 0, 1) := by decide +kernel
theorem d_M_cost_1 : decode m_M_cost.2.1 1 = .ok (.aload_n 0, 1) := by decide +kernel
theorem d_M_cost_2 : decode m_M_cost.2.1 2 = .ok (.iload_n 1, 1) := by decide +kernel
theorem d_M_cost_3 : decode m_M_cost.2.1 3 = .ok (.iload_n 2, 1) := by decide +kernel
theorem d_M_cost_4 : decode m_M_cost.2.1 4 = .ok (.iload_n 3, 1) := by decide +kernel
theorem d_M_cost_5 : decode m_M_cost.2.1 5 = .ok (.iload 4, 2) := by decide +kernel
theorem d_M_cost_7 : decode m_M_cost.2.1 7 = .ok (.iload 5, 2) := by decide +kernel
theorem d_M_cost_9 : decode m_M_cost.2.1 9 = .ok (.invokevirtual 153, 3) := by decide +kernel
theorem d_M_cost_12 : decode m_M_cost.2.1 12 = .ok (.ifCond .ne 7, 3) := by decide +kernel
theorem d_M_cost_15 : decode m_M_cost.2.1 15 = .ok (.iconst 1, 1) := by decide +kernel
theorem d_M_cost_16 : decode m_M_cost.2.1 16 = .ok (.goto 15, 3) := by decide +kernel
theorem d_M_cost_19 : decode m_M_cost.2.1 19 = .ok (.aload_n 0, 1) := by decide +kernel
theorem d_M_cost_20 : decode m_M_cost.2.1 20 = .ok (.getfield 135, 3) := by decide +kernel
theorem d_M_cost_23 : decode m_M_cost.2.1 23 = .ok (.ifCond .eq 7, 3) := by decide +kernel
theorem d_M_cost_26 : decode m_M_cost.2.1 26 = .ok (.iconst 2, 1) := by decide +kernel
theorem d_M_cost_27 : decode m_M_cost.2.1 27 = .ok (.goto 4, 3) := by decide +kernel
theorem d_M_cost_30 : decode m_M_cost.2.1 30 = .ok (.iconst 0, 1) := by decide +kernel
theorem d_M_cost_31 : decode m_M_cost.2.1 31 = .ok (.putfield 116, 3) := by decide +kernel
theorem d_M_cost_34 : decode m_M_cost.2.1 34 = .ok (.aload_n 0, 1) := by decide +kernel
theorem d_M_cost_35 : decode m_M_cost.2.1 35 = .ok (.getfield 116, 3) := by decide +kernel
theorem d_M_cost_38 : decode m_M_cost.2.1 38 = .ok (.ifCond .ne 14, 3) := by decide +kernel
theorem d_M_cost_41 : decode m_M_cost.2.1 41 = .ok (.aload_n 0, 1) := by decide +kernel
theorem d_M_cost_42 : decode m_M_cost.2.1 42 = .ok (.iload_n 1, 1) := by decide +kernel
theorem d_M_cost_43 : decode m_M_cost.2.1 43 = .ok (.iload_n 2, 1) := by decide +kernel
theorem d_M_cost_44 : decode m_M_cost.2.1 44 = .ok (.iload_n 3, 1) := by decide +kernel
theorem d_M_cost_45 : decode m_M_cost.2.1 45 = .ok (.iload 4, 2) := by decide +kernel
theorem d_M_cost_47 : decode m_M_cost.2.1 47 = .ok (.iload 5, 2) := by decide +kernel
theorem d_M_cost_49 : decode m_M_cost.2.1 49 = .ok (.invokevirtual 157, 3) := by decide +kernel
theorem d_M_cost_52 : decode m_M_cost.2.1 52 = .ok (.return_, 1) := by decide +kernel
theorem d_M_isPairCost_0 : decode m_M_isPairCost.2.1 0 = .ok (.aload_n 0, 1) := by decide +kernel
theorem d_M_isPairCost_1 : decode m_M_isPairCost.2.1 1 = .ok (.iload_n 1, 1) := by decide +kernel
theorem d_M_isPairCost_2 : decode m_M_isPairCost.2.1 2 = .ok (.iload_n 2, 1) := by decide +kernel
theorem d_M_isPairCost_3 : decode m_M_isPairCost.2.1 3 = .ok (.invokevirtual 149, 3) := by decide +kernel
theorem d_M_isPairCost_6 : decode m_M_isPairCost.2.1 6 = .ok (.ifCond .lt 34, 3) := by decide +kernel
theorem d_M_isPairCost_9 : decode m_M_isPairCost.2.1 9 = .ok (.aload_n 0, 1) := by decide +kernel
theorem d_M_isPairCost_10 : decode m_M_isPairCost.2.1 10 = .ok (.iload_n 1, 1) := by decide +kernel
theorem d_M_isPairCost_11 : decode m_M_isPairCost.2.1 11 = .ok (.iload_n 3, 1) := by decide +kernel
theorem d_M_isPairCost_12 : decode m_M_isPairCost.2.1 12 = .ok (.invokevirtual 139, 3) := by decide +kernel
theorem d_M_isPairCost_15 : decode m_M_isPairCost.2.1 15 = .ok (.ifCond .eq 25, 3) := by decide +kernel
theorem d_M_isPairCost_18 : decode m_M_isPairCost.2.1 18 = .ok (.aload_n 0, 1) := by decide +kernel
theorem d_M_isPairCost_19 : decode m_M_isPairCost.2.1 19 = .ok (.iload_n 2, 1) := by decide +kernel
theorem d_M_isPairCost_20 : decode m_M_isPairCost.2.1 20 = .ok (.iload 4, 2) := by decide +kernel
theorem d_M_isPairCost_22 : decode m_M_isPairCost.2.1 22 = .ok (.invokevirtual 139, 3) := by decide +kernel
theorem d_M_isPairCost_25 : decode m_M_isPairCost.2.1 25 = .ok (.ifCond .eq 15, 3) := by decide +kernel
theorem d_M_isPairCost_28 : decode m_M_isPairCost.2.1 28 = .ok (.iload 5, 2) := by decide +kernel
theorem d_M_isPairCost_30 : decode m_M_isPairCost.2.1 30 = .ok (.invokestatic 142, 3) := by decide +kernel
theorem d_M_isPairCost_33 : decode m_M_isPairCost.2.1 33 = .ok (.ifCond .eq 7, 3) := by decide +kernel
theorem d_M_isPairCost_36 : decode m_M_isPairCost.2.1 36 = .ok (.iconst 1, 1) := by decide +kernel
theorem d_M_isPairCost_37 : decode m_M_isPairCost.2.1 37 = .ok (.goto 4, 3) := by decide +kernel
theorem d_M_isPairCost_40 : decode m_M_isPairCost.2.1 40 = .ok (.iconst 0, 1) := by decide +kernel
theorem d_M_isPairCost_41 : decode m_M_isPairCost.2.1 41 = .ok (.ireturn, 1) := by decide +kernel
theorem d_M_setCost_0 : decode m_M_setCost.2.1 0 = .ok (.aload_n 0, 1) := by decide +kernel
theorem d_M_setCost_1 : decode m_M_setCost.2.1 1 = .ok (.iload_n 1, 1) := by decide +kernel
theorem d_M_setCost_2 : decode m_M_setCost.2.1 2 = .ok (.iload_n 2, 1) := by decide +kernel
theorem d_M_setCost_3 : decode m_M_setCost.2.1 3 = .ok (.invokevirtual 149, 3) := by decide +kernel
theorem d_M_setCost_6 : decode m_M_setCost.2.1 6 = .ok (.istore 6, 2) := by decide +kernel
theorem d_M_setCost_8 : decode m_M_setCost.2.1 8 = .ok (.aload_n 0, 1) := by decide +kernel
theorem d_M_setCost_9 : decode m_M_setCost.2.1 9 = .ok (.getfield 16, 3) := by decide +kernel
theorem d_M_setCost_12 : decode m_M_setCost.2.1 12 = .ok (.iload 6, 2) := by decide +kernel
theorem d_M_setCost_14 : decode m_M_setCost.2.1 14 = .ok (.iaload, 1) := by decide +kernel
theorem d_M_setCost_15 : decode m_M_setCost.2.1 15 = .ok (.iload_n 1, 1) := by decide +kernel
theorem d_M_setCost_16 : decode m_M_setCost.2.1 16 = .ok (.if_icmp .ne 12, 3) := by decide +kernel
theorem d_M_setCost_19 : decode m_M_setCost.2.1 19 = .ok (.iconst 4, 1) := by decide +kernel
theorem d_M_setCost_20 : decode m_M_setCost.2.1 20 = .ok (.iload_n 3, 1) := by decide +kernel
theorem d_M_setCost_21 : decode m_M_setCost.2.1 21 = .ok (.imul, 1) := by decide +kernel
theorem d_M_setCost_22 : decode m_M_setCost.2.1 22 = .ok (.iload 4, 2) := by decide +kernel
theorem d_M_setCost_24 : decode m_M_setCost.2.1 24 = .ok (.iadd, 1) := by decide +kernel
theorem d_M_setCost_25 : decode m_M_setCost.2.1 25 = .ok (.goto 9, 3) := by decide +kernel
theorem d_M_setCost_28 : decode m_M_setCost.2.1 28 = .ok (.iconst 4, 1) := by decide +kernel
theorem d_M_setCost_29 : decode m_M_setCost.2.1 29 = .ok (.iload 4, 2) := by decide +kernel
theorem d_M_setCost_31 : decode m_M_setCost.2.1 31 = .ok (.imul, 1) := by decide +kernel
theorem d_M_setCost_32 : decode m_M_setCost.2.1 32 = .ok (.iload_n 3, 1) := by decide +kernel
theorem d_M_setCost_33 : decode m_M_setCost.2.1 33 = .ok (.iadd, 1) := by decide +kernel
theorem d_M_setCost_34 : decode m_M_setCost.2.1 34 = .ok (.istore 7, 2) := by decide +kernel
theorem d_M_setCost_36 : decode m_M_setCost.2.1 36 = .ok (.aload_n 0, 1) := by decide +kernel
theorem d_M_setCost_37 : decode m_M_setCost.2.1 37 = .ok (.getfield 22, 3) := by decide +kernel
theorem d_M_setCost_40 : decode m_M_setCost.2.1 40 = .ok (.bipush 16, 2) := by decide +kernel
theorem d_M_setCost_42 : decode m_M_setCost.2.1 42 = .ok (.iload 6, 2) := by decide +kernel
theorem d_M_setCost_44 : decode m_M_setCost.2.1 44 = .ok (.imul, 1) := by decide +kernel
theorem d_M_setCost_45 : decode m_M_setCost.2.1 45 = .ok (.iload 7, 2) := by decide +kernel
theorem d_M_setCost_47 : decode m_M_setCost.2.1 47 = .ok (.iadd, 1) := by decide +kernel
theorem d_M_setCost_48 : decode m_M_setCost.2.1 48 = .ok (.iload 5, 2) := by decide +kernel
theorem d_M_setCost_50 : decode m_M_setCost.2.1 50 = .ok (.bipush (-2), 2) := by decide +kernel
theorem d_M_setCost_52 : decode m_M_setCost.2.1 52 = .ok (.if_icmp .ne 8, 3) := by decide +kernel
theorem d_M_setCost_55 : decode m_M_setCost.2.1 55 = .ok (.ldc 145, 2) := by decide +kernel
theorem d_M_setCost_57 : decode m_M_setCost.2.1 57 = .ok (.goto 5, 3) := by decide +kernel
theorem d_M_setCost_60 : decode m_M_setCost.2.1 60 = .ok (.iload 5, 2) := by decide +kernel
theorem d_M_setCost_62 : decode m_M_setCost.2.1 62 = .ok (.iastore, 1) := by decide +kernel
theorem d_M_setCost_63 : decode m_M_setCost.2.1 63 = .ok (.return_, 1) := by decide +kernel
theorem d_M_start_0 : decode m_M_start.2.1 0 = .ok (.aload_n 0, 1) := by decide +kernel
theorem d_M_start_1 : decode m_M_start.2.1 1 = .ok (.aload_n 0, 1) := by decide +kernel
theorem d_M_start_2 : decode m_M_start.2.1 2 = .ok (.getfield 135, 3) := by decide +kernel
theorem d_M_start_5 : decode m_M_start.2.1 5 = .ok (.ifCond .ne 10, 3) := by decide +kernel
theorem d_M_start_8 : decode m_M_start.2.1 8 = .ok (.aload_n 0, 1) := by decide +kernel
theorem d_M_start_9 : decode m_M_start.2.1 9 = .ok (.getfield 124, 3) := by decide +kernel
theorem d_M_start_12 : decode m_M_start.2.1 12 = .ok (.ifCond .ne 7, 3) := by decide +kernel
theorem d_M_start_15 : decode m_M_start.2.1 15 = .ok (.iconst 1, 1) := by decide +kernel
theorem d_M_start_16 : decode m_M_start.2.1 16 = .ok (.goto 4, 3) := by decide +kernel
theorem d_M_start_19 : decode m_M_start.2.1 19 = .ok (.iconst 0, 1) := by decide +kernel
theorem d_M_start_20 : decode m_M_start.2.1 20 = .ok (.putfield 116, 3) := by decide +kernel
theorem d_M_start_23 : decode m_M_start.2.1 23 = .ok (.aload_n 0, 1) := by decide +kernel
theorem d_M_start_24 : decode m_M_start.2.1 24 = .ok (.getfield 116, 3) := by decide +kernel
theorem d_M_start_27 : decode m_M_start.2.1 27 = .ok (.ifCond .le 5, 3) := by decide +kernel
theorem d_M_start_30 : decode m_M_start.2.1 30 = .ok (.iconst 0, 1) := by decide +kernel
theorem d_M_start_31 : decode m_M_start.2.1 31 = .ok (.ireturn, 1) := by decide +kernel
theorem d_M_start_32 : decode m_M_start.2.1 32 = .ok (.aload_n 0, 1) := by decide +kernel
theorem d_M_start_33 : decode m_M_start.2.1 33 = .ok (.iconst 1, 1) := by decide +kernel
theorem d_M_start_34 : decode m_M_start.2.1 34 = .ok (.putfield 135, 3) := by decide +kernel
theorem d_M_start_37 : decode m_M_start.2.1 37 = .ok (.iconst 0, 1) := by decide +kernel
theorem d_M_start_38 : decode m_M_start.2.1 38 = .ok (.istore_n 1, 1) := by decide +kernel
theorem d_M_start_39 : decode m_M_start.2.1 39 = .ok (.iconst 0, 1) := by decide +kernel
theorem d_M_start_40 : decode m_M_start.2.1 40 = .ok (.istore_n 2, 1) := by decide +kernel
theorem d_M_start_41 : decode m_M_start.2.1 41 = .ok (.iload_n 2, 1) := by decide +kernel
theorem d_M_start_42 : decode m_M_start.2.1 42 = .ok (.aload_n 0, 1) := by decide +kernel
theorem d_M_start_43 : decode m_M_start.2.1 43 = .ok (.getfield 124, 3) := by decide +kernel
theorem d_M_start_46 : decode m_M_start.2.1 46 = .ok (.if_icmp .ge 26, 3) := by decide +kernel
theorem d_M_start_49 : decode m_M_start.2.1 49 = .ok (.aload_n 0, 1) := by decide +kernel
theorem d_M_start_50 : decode m_M_start.2.1 50 = .ok (.getfield 28, 3) := by decide +kernel
theorem d_M_start_53 : decode m_M_start.2.1 53 = .ok (.iload_n 2, 1) := by decide +kernel
theorem d_M_start_54 : decode m_M_start.2.1 54 = .ok (.iaload, 1) := by decide +kernel
theorem d_M_start_55 : decode m_M_start.2.1 55 = .ok (.ifCond .ge 11, 3) := by decide +kernel
theorem d_M_start_58 : decode m_M_start.2.1 58 = .ok (.aload_n 0, 1) := by decide +kernel
theorem d_M_start_59 : decode m_M_start.2.1 59 = .ok (.iload_n 2, 1) := by decide +kernel
theorem d_M_start_60 : decode m_M_start.2.1 60 = .ok (.invokevirtual 168, 3) := by decide +kernel
theorem d_M_start_63 : decode m_M_start.2.1 63 = .ok (.iinc 1 1, 3) := by decide +kernel
theorem d_M_start_66 : decode m_M_start.2.1 66 = .ok (.iinc 2 1, 3) := by decide +kernel
theorem d_M_start_69 : decode m_M_start.2.1 69 = .ok (.goto (-28), 3) := by decide +kernel
theorem d_M_start_72 : decode m_M_start.2.1 72 = .ok (.iconst 0, 1) := by decide +kernel
theorem d_M_start_73 : decode m_M_start.2.1 73 = .ok (.istore_n 2, 1) := by decide +kernel
theorem d_M_start_74 : decode m_M_start.2.1 74 = .ok (.iload_n 2, 1) := by decide +kernel
theorem d_M_start_75 : decode m_M_start.2.1 75 = .ok (.aload_n 0, 1) := by decide +kernel
theorem d_M_start_76 : decode m_M_start.2.1 76 = .ok (.getfield 124, 3) := by decide +kernel
theorem d_M_start_79 : decode m_M_start.2.1 79 = .ok (.if_icmp .ge 31, 3) := by decide +kernel
theorem d_M_start_82 : decode m_M_start.2.1 82 = .ok (.aload_n 0, 1) := by decide +kernel
theorem d_M_start_83 : decode m_M_start.2.1 83 = .ok (.getfield 31, 3) := by decide +kernel
theorem d_M_start_86 : decode m_M_start.2.1 86 = .ok (.aload_n 0, 1) := by decide +kernel
theorem d_M_start_87 : decode m_M_start.2.1 87 = .ok (.getfield 28, 3) := by decide +kernel
theorem d_M_start_90 : decode m_M_start.2.1 90 = .ok (.iload_n 2, 1) := by decide +kernel
theorem d_M_start_91 : decode m_M_start.2.1 91 = .ok (.iaload, 1) := by decide +kernel
theorem d_M_start_92 : decode m_M_start.2.1 92 = .ok (.iaload, 1) := by decide +kernel
theorem d_M_start_93 : decode m_M_start.2.1 93 = .ok (.iload_n 2, 1) := by decide +kernel
theorem d_M_start_94 : decode m_M_start.2.1 94 = .ok (.if_icmp .ne 10, 3) := by decide +kernel
theorem d_M_start_97 : decode m_M_start.2.1 97 = .ok (.aload_n 0, 1) := by decide +kernel
theorem d_M_start_98 : decode m_M_start.2.1 98 = .ok (.iload_n 2, 1) := by decide +kernel
theorem d_M_start_99 : decode m_M_start.2.1 99 = .ok (.iconst (-1), 1) := by decide +kernel
theorem d_M_start_100 : decode m_M_start.2.1 100 = .ok (.iconst 0, 1) := by decide +kernel
theorem d_M_start_101 : decode m_M_start.2.1 101 = .ok (.invokevirtual 172, 3) := by decide +kernel
theorem d_M_start_104 : decode m_M_start.2.1 104 = .ok (.iinc 2 1, 3) := by decide +kernel
theorem d_M_start_107 : decode m_M_start.2.1 107 = .ok (.goto (-33), 3) := by decide +kernel
theorem d_M_start_110 : decode m_M_start.2.1 110 = .ok (.iload_n 1, 1) := by decide +kernel
theorem d_M_start_111 : decode m_M_start.2.1 111 = .ok (.ireturn, 1) := by decide +kernel
theorem d_M_findPart_0 : decode m_M_findPart.2.1 0 = .ok (.iconst 1, 1) := by decide +kernel
theorem d_M_findPart_1 : decode m_M_findPart.2.1 1 = .ok (.iload_n 1, 1) := by decide +kernel
theorem d_M_findPart_2 : decode m_M_findPart.2.1 2 = .ok (.ishl, 1) := by decide +kernel
theorem d_M_findPart_3 : decode m_M_findPart.2.1 3 = .ok (.istore_n 2, 1) := by decide +kernel
theorem d_M_findPart_4 : decode m_M_findPart.2.1 4 = .ok (.iconst 0, 1) := by decide +kernel
theorem d_M_findPart_5 : decode m_M_findPart.2.1 5 = .ok (.istore_n 3, 1) := by decide +kernel
theorem d_M_findPart_6 : decode m_M_findPart.2.1 6 = .ok (.iload_n 3, 1) := by decide +kernel
theorem d_M_findPart_7 : decode m_M_findPart.2.1 7 = .ok (.iload_n 2, 1) := by decide +kernel
theorem d_M_findPart_8 : decode m_M_findPart.2.1 8 = .ok (.if_icmp .eq 49, 3) := by decide +kernel
theorem d_M_findPart_11 : decode m_M_findPart.2.1 11 = .ok (.iload_n 2, 1) := by decide +kernel
theorem d_M_findPart_12 : decode m_M_findPart.2.1 12 = .ok (.istore_n 3, 1) := by decide +kernel
theorem d_M_findPart_13 : decode m_M_findPart.2.1 13 = .ok (.iconst 0, 1) := by decide +kernel
theorem d_M_findPart_14 : decode m_M_findPart.2.1 14 = .ok (.istore 4, 2) := by decide +kernel
theorem d_M_findPart_16 : decode m_M_findPart.2.1 16 = .ok (.iload 4, 2) := by decide +kernel
theorem d_M_findPart_18 : decode m_M_findPart.2.1 18 = .ok (.aload_n 0, 1) := by decide +kernel
theorem d_M_findPart_19 : decode m_M_findPart.2.1 19 = .ok (.getfield 124, 3) := by decide +kernel
theorem d_M_findPart_22 : decode m_M_findPart.2.1 22 = .ok (.if_icmp .ge 32, 3) := by decide +kernel
theorem d_M_findPart_25 : decode m_M_findPart.2.1 25 = .ok (.iload_n 2, 1) := by decide +kernel
theorem d_M_findPart_26 : decode m_M_findPart.2.1 26 = .ok (.iload 4, 2) := by decide +kernel
theorem d_M_findPart_28 : decode m_M_findPart.2.1 28 = .ok (.invokestatic 120, 3) := by decide +kernel
theorem d_M_findPart_31 : decode m_M_findPart.2.1 31 = .ok (.ifCond .eq 15, 3) := by decide +kernel
theorem d_M_findPart_34 : decode m_M_findPart.2.1 34 = .ok (.iload_n 2, 1) := by decide +kernel
theorem d_M_findPart_35 : decode m_M_findPart.2.1 35 = .ok (.aload_n 0, 1) := by decide +kernel
theorem d_M_findPart_36 : decode m_M_findPart.2.1 36 = .ok (.getfield 25, 3) := by decide +kernel
theorem d_M_findPart_39 : decode m_M_findPart.2.1 39 = .ok (.iload 4, 2) := by decide +kernel
theorem d_M_findPart_41 : decode m_M_findPart.2.1 41 = .ok (.iaload, 1) := by decide +kernel
theorem d_M_findPart_42 : decode m_M_findPart.2.1 42 = .ok (.ior, 1) := by decide +kernel
theorem d_M_findPart_43 : decode m_M_findPart.2.1 43 = .ok (.goto 4, 3) := by decide +kernel
theorem d_M_findPart_46 : decode m_M_findPart.2.1 46 = .ok (.iload_n 2, 1) := by decide +kernel
theorem d_M_findPart_47 : decode m_M_findPart.2.1 47 = .ok (.istore_n 2, 1) := by decide +kernel
theorem d_M_findPart_48 : decode m_M_findPart.2.1 48 = .ok (.iinc 4 1, 3) := by decide +kernel
theorem d_M_findPart_51 : decode m_M_findPart.2.1 51 = .ok (.goto (-35), 3) := by decide +kernel
theorem d_M_findPart_54 : decode m_M_findPart.2.1 54 = .ok (.goto (-48), 3) := by decide +kernel
theorem d_M_findPart_57 : decode m_M_findPart.2.1 57 = .ok (.aload_n 0, 1) := by decide +kernel
theorem d_M_findPart_58 : decode m_M_findPart.2.1 58 = .ok (.getfield 31, 3) := by decide +kernel
theorem d_M_findPart_61 : decode m_M_findPart.2.1 61 = .ok (.iload_n 1, 1) := by decide +kernel
theorem d_M_findPart_62 : decode m_M_findPart.2.1 62 = .ok (.iconst (-1), 1) := by decide +kernel
theorem d_M_findPart_63 : decode m_M_findPart.2.1 63 = .ok (.iastore, 1) := by decide +kernel
theorem d_M_findPart_64 : decode m_M_findPart.2.1 64 = .ok (.aload_n 0, 1) := by decide +kernel
theorem d_M_findPart_65 : decode m_M_findPart.2.1 65 = .ok (.getfield 34, 3) := by decide +kernel
theorem d_M_findPart_68 : decode m_M_findPart.2.1 68 = .ok (.iload_n 1, 1) := by decide +kernel
theorem d_M_findPart_69 : decode m_M_findPart.2.1 69 = .ok (.iconst 1, 1) := by decide +kernel
theorem d_M_findPart_70 : decode m_M_findPart.2.1 70 = .ok (.iastore, 1) := by decide +kernel
theorem d_M_findPart_71 : decode m_M_findPart.2.1 71 = .ok (.iconst 0, 1) := by decide +kernel
theorem d_M_findPart_72 : decode m_M_findPart.2.1 72 = .ok (.istore 4, 2) := by decide +kernel
theorem d_M_findPart_74 : decode m_M_findPart.2.1 74 = .ok (.iload 4, 2) := by decide +kernel
theorem d_M_findPart_76 : decode m_M_findPart.2.1 76 = .ok (.aload_n 0, 1) := by decide +kernel
theorem d_M_findPart_77 : decode m_M_findPart.2.1 77 = .ok (.getfield 124, 3) := by decide +kernel
theorem d_M_findPart_80 : decode m_M_findPart.2.1 80 = .ok (.if_icmp .ge 58, 3) := by decide +kernel
theorem d_M_findPart_83 : decode m_M_findPart.2.1 83 = .ok (.iload_n 2, 1) := by decide +kernel
theorem d_M_findPart_84 : decode m_M_findPart.2.1 84 = .ok (.iload 4, 2) := by decide +kernel
theorem d_M_findPart_86 : decode m_M_findPart.2.1 86 = .ok (.invokestatic 120, 3) := by decide +kernel
theorem d_M_findPart_89 : decode m_M_findPart.2.1 89 = .ok (.ifCond .eq 43, 3) := by decide +kernel
theorem d_M_findPart_92 : decode m_M_findPart.2.1 92 = .ok (.aload_n 0, 1) := by decide +kernel
theorem d_M_findPart_93 : decode m_M_findPart.2.1 93 = .ok (.getfield 28, 3) := by decide +kernel
theorem d_M_findPart_96 : decode m_M_findPart.2.1 96 = .ok (.iload 4, 2) := by decide +kernel
theorem d_M_findPart_98 : decode m_M_findPart.2.1 98 = .ok (.iload_n 1, 1) := by decide +kernel
theorem d_M_findPart_99 : decode m_M_findPart.2.1 99 = .ok (.iastore, 1) := by decide +kernel
theorem d_M_findPart_100 : decode m_M_findPart.2.1 100 = .ok (.aload_n 0, 1) := by decide +kernel
theorem d_M_findPart_101 : decode m_M_findPart.2.1 101 = .ok (.getfield 31, 3) := by decide +kernel
theorem d_M_findPart_104 : decode m_M_findPart.2.1 104 = .ok (.iload_n 1, 1) := by decide +kernel
theorem d_M_findPart_105 : decode m_M_findPart.2.1 105 = .ok (.aload_n 0, 1) := by decide +kernel
theorem d_M_findPart_106 : decode m_M_findPart.2.1 106 = .ok (.iload 4, 2) := by decide +kernel
theorem d_M_findPart_108 : decode m_M_findPart.2.1 108 = .ok (.aload_n 0, 1) := by decide +kernel
theorem d_M_findPart_109 : decode m_M_findPart.2.1 109 = .ok (.getfield 31, 3) := by decide +kernel
theorem d_M_findPart_112 : decode m_M_findPart.2.1 112 = .ok (.iload_n 1, 1) := by decide +kernel
theorem d_M_findPart_113 : decode m_M_findPart.2.1 113 = .ok (.iaload, 1) := by decide +kernel
theorem d_M_findPart_114 : decode m_M_findPart.2.1 114 = .ok (.invokevirtual 165, 3) := by decide +kernel
theorem d_M_findPart_117 : decode m_M_findPart.2.1 117 = .ok (.ifCond .eq 8, 3) := by decide +kernel
theorem d_M_findPart_120 : decode m_M_findPart.2.1 120 = .ok (.iload 4, 2) := by decide +kernel
theorem d_M_findPart_122 : decode m_M_findPart.2.1 122 = .ok (.goto 9, 3) := by decide +kernel
theorem d_M_findPart_125 : decode m_M_findPart.2.1 125 = .ok (.aload_n 0, 1) := by decide +kernel
theorem d_M_findPart_126 : decode m_M_findPart.2.1 126 = .ok (.getfield 31, 3) := by decide +kernel
theorem d_M_findPart_129 : decode m_M_findPart.2.1 129 = .ok (.iload_n 1, 1) := by decide +kernel
theorem d_M_findPart_130 : decode m_M_findPart.2.1 130 = .ok (.iaload, 1) := by decide +kernel
theorem d_M_findPart_131 : decode m_M_findPart.2.1 131 = .ok (.iastore, 1) := by decide +kernel
theorem d_M_findPart_132 : decode m_M_findPart.2.1 132 = .ok (.iinc 4 1, 3) := by decide +kernel
theorem d_M_findPart_135 : decode m_M_findPart.2.1 135 = .ok (.goto (-61), 3) := by decide +kernel
theorem d_M_findPart_138 : decode m_M_findPart.2.1 138 = .ok (.return_, 1) := by decide +kernel
theorem d_M_has_0 : decode m_M_has.2.1 0 = .ok (.iload_n 0, 1) := by decide +kernel
theorem d_M_has_1 : decode m_M_has.2.1 1 = .ok (.iload_n 1, 1) := by decide +kernel
theorem d_M_has_2 : decode m_M_has.2.1 2 = .ok (.ishr, 1) := by decide +kernel
theorem d_M_has_3 : decode m_M_has.2.1 3 = .ok (.iconst 1, 1) := by decide +kernel
theorem d_M_has_4 : decode m_M_has.2.1 4 = .ok (.iand, 1) := by decide +kernel
theorem d_M_has_5 : decode m_M_has.2.1 5 = .ok (.iconst 1, 1) := by decide +kernel
theorem d_M_has_6 : decode m_M_has.2.1 6 = .ok (.if_icmp .ne 7, 3) := by decide +kernel
theorem d_M_has_9 : decode m_M_has.2.1 9 = .ok (.iconst 1, 1) := by decide +kernel
theorem d_M_has_10 : decode m_M_has.2.1 10 = .ok (.goto 4, 3) := by decide +kernel
theorem d_M_has_13 : decode m_M_has.2.1 13 = .ok (.iconst 0, 1) := by decide +kernel
theorem d_M_has_14 : decode m_M_has.2.1 14 = .ok (.ireturn, 1) := by decide +kernel
theorem d_M_goesBefore_0 : decode m_M_goesBefore.2.1 0 = .ok (.iload_n 2, 1) := by decide +kernel
theorem d_M_goesBefore_1 : decode m_M_goesBefore.2.1 1 = .ok (.ifCond .ge 5, 3) := by decide +kernel
theorem d_M_goesBefore_4 : decode m_M_goesBefore.2.1 4 = .ok (.iconst 1, 1) := by decide +kernel
theorem d_M_goesBefore_5 : decode m_M_goesBefore.2.1 5 = .ok (.ireturn, 1) := by decide +kernel
theorem d_M_goesBefore_6 : decode m_M_goesBefore.2.1 6 = .ok (.aload_n 0, 1) := by decide +kernel
theorem d_M_goesBefore_7 : decode m_M_goesBefore.2.1 7 = .ok (.getfield 25, 3) := by decide +kernel
theorem d_M_goesBefore_10 : decode m_M_goesBefore.2.1 10 = .ok (.iload_n 1, 1) := by decide +kernel
theorem d_M_goesBefore_11 : decode m_M_goesBefore.2.1 11 = .ok (.iaload, 1) := by decide +kernel
theorem d_M_goesBefore_12 : decode m_M_goesBefore.2.1 12 = .ok (.invokestatic 161, 3) := by decide +kernel
theorem d_M_goesBefore_15 : decode m_M_goesBefore.2.1 15 = .ok (.istore_n 3, 1) := by decide +kernel
theorem d_M_goesBefore_16 : decode m_M_goesBefore.2.1 16 = .ok (.aload_n 0, 1) := by decide +kernel
theorem d_M_goesBefore_17 : decode m_M_goesBefore.2.1 17 = .ok (.getfield 25, 3) := by decide +kernel
theorem d_M_goesBefore_20 : decode m_M_goesBefore.2.1 20 = .ok (.iload_n 2, 1) := by decide +kernel
theorem d_M_goesBefore_21 : decode m_M_goesBefore.2.1 21 = .ok (.iaload, 1) := by decide +kernel
theorem d_M_goesBefore_22 : decode m_M_goesBefore.2.1 22 = .ok (.invokestatic 161, 3) := by decide +kernel
theorem d_M_goesBefore_25 : decode m_M_goesBefore.2.1 25 = .ok (.istore 4, 2) := by decide +kernel
theorem d_M_goesBefore_27 : decode m_M_goesBefore.2.1 27 = .ok (.iload_n 3, 1) := by decide +kernel
theorem d_M_goesBefore_28 : decode m_M_goesBefore.2.1 28 = .ok (.iload 4, 2) := by decide +kernel
theorem d_M_goesBefore_30 : decode m_M_goesBefore.2.1 30 = .ok (.if_icmp .gt 14, 3) := by decide +kernel
theorem d_M_goesBefore_33 : decode m_M_goesBefore.2.1 33 = .ok (.iload_n 3, 1) := by decide +kernel
theorem d_M_goesBefore_34 : decode m_M_goesBefore.2.1 34 = .ok (.iload 4, 2) := by decide +kernel
theorem d_M_goesBefore_36 : decode m_M_goesBefore.2.1 36 = .ok (.if_icmp .ne 12, 3) := by decide +kernel
theorem d_M_goesBefore_39 : decode m_M_goesBefore.2.1 39 = .ok (.iload_n 1, 1) := by decide +kernel
theorem d_M_goesBefore_40 : decode m_M_goesBefore.2.1 40 = .ok (.iload_n 2, 1) := by decide +kernel
theorem d_M_goesBefore_41 : decode m_M_goesBefore.2.1 41 = .ok (.if_icmp .ge 7, 3) := by decide +kernel
theorem d_M_goesBefore_44 : decode m_M_goesBefore.2.1 44 = .ok (.iconst 1, 1) := by decide +kernel
theorem d_M_goesBefore_45 : decode m_M_goesBefore.2.1 45 = .ok (.goto 4, 3) := by decide +kernel
theorem d_M_goesBefore_48 : decode m_M_goesBefore.2.1 48 = .ok (.iconst 0, 1) := by decide +kernel
theorem d_M_goesBefore_49 : decode m_M_goesBefore.2.1 49 = .ok (.ireturn, 1) := by decide +kernel
theorem d_M_bits_0 : decode m_M_bits.2.1 0 = .ok (.iconst 0, 1) := by decide +kernel
theorem d_M_bits_1 : decode m_M_bits.2.1 1 = .ok (.istore_n 1, 1) := by decide +kernel
theorem d_M_bits_2 : decode m_M_bits.2.1 2 = .ok (.iconst 0, 1) := by decide +kernel
theorem d_M_bits_3 : decode m_M_bits.2.1 3 = .ok (.istore_n 2, 1) := by decide +kernel
theorem d_M_bits_4 : decode m_M_bits.2.1 4 = .ok (.iload_n 2, 1) := by decide +kernel
theorem d_M_bits_5 : decode m_M_bits.2.1 5 = .ok (.bipush 8, 2) := by decide +kernel
theorem d_M_bits_7 : decode m_M_bits.2.1 7 = .ok (.if_icmp .ge 25, 3) := by decide +kernel
theorem d_M_bits_10 : decode m_M_bits.2.1 10 = .ok (.iload_n 0, 1) := by decide +kernel
theorem d_M_bits_11 : decode m_M_bits.2.1 11 = .ok (.iload_n 2, 1) := by decide +kernel
theorem d_M_bits_12 : decode m_M_bits.2.1 12 = .ok (.invokestatic 120, 3) := by decide +kernel
theorem d_M_bits_15 : decode m_M_bits.2.1 15 = .ok (.ifCond .eq 9, 3) := by decide +kernel
theorem d_M_bits_18 : decode m_M_bits.2.1 18 = .ok (.iload_n 1, 1) := by decide +kernel
theorem d_M_bits_19 : decode m_M_bits.2.1 19 = .ok (.iconst 1, 1) := by decide +kernel
theorem d_M_bits_20 : decode m_M_bits.2.1 20 = .ok (.iadd, 1) := by decide +kernel
theorem d_M_bits_21 : decode m_M_bits.2.1 21 = .ok (.goto 4, 3) := by decide +kernel
theorem d_M_bits_24 : decode m_M_bits.2.1 24 = .ok (.iload_n 1, 1) := by decide +kernel
theorem d_M_bits_25 : decode m_M_bits.2.1 25 = .ok (.istore_n 1, 1) := by decide +kernel
theorem d_M_bits_26 : decode m_M_bits.2.1 26 = .ok (.iinc 2 1, 3) := by decide +kernel
theorem d_M_bits_29 : decode m_M_bits.2.1 29 = .ok (.goto (-25), 3) := by decide +kernel
theorem d_M_bits_32 : decode m_M_bits.2.1 32 = .ok (.iload_n 1, 1) := by decide +kernel
theorem d_M_bits_33 : decode m_M_bits.2.1 33 = .ok (.ireturn, 1) := by decide +kernel
theorem d_M_receiveToken_0 : decode m_M_receiveToken.2.1 0 = .ok (.aload_n 0, 1) := by decide +kernel
theorem d_M_receiveToken_1 : decode m_M_receiveToken.2.1 1 = .ok (.getfield 37, 3) := by decide +kernel
theorem d_M_receiveToken_4 : decode m_M_receiveToken.2.1 4 = .ok (.iload_n 1, 1) := by decide +kernel
theorem d_M_receiveToken_5 : decode m_M_receiveToken.2.1 5 = .ok (.iconst 1, 1) := by decide +kernel
theorem d_M_receiveToken_6 : decode m_M_receiveToken.2.1 6 = .ok (.bastore, 1) := by decide +kernel
theorem d_M_receiveToken_7 : decode m_M_receiveToken.2.1 7 = .ok (.aload_n 0, 1) := by decide +kernel
theorem d_M_receiveToken_8 : decode m_M_receiveToken.2.1 8 = .ok (.getfield 47, 3) := by decide +kernel
theorem d_M_receiveToken_11 : decode m_M_receiveToken.2.1 11 = .ok (.iload_n 1, 1) := by decide +kernel
theorem d_M_receiveToken_12 : decode m_M_receiveToken.2.1 12 = .ok (.iload_n 2, 1) := by decide +kernel
theorem d_M_receiveToken_13 : decode m_M_receiveToken.2.1 13 = .ok (.iastore, 1) := by decide +kernel
theorem d_M_receiveToken_14 : decode m_M_receiveToken.2.1 14 = .ok (.aload_n 0, 1) := by decide +kernel
theorem d_M_receiveToken_15 : decode m_M_receiveToken.2.1 15 = .ok (.getfield 50, 3) := by decide +kernel
theorem d_M_receiveToken_18 : decode m_M_receiveToken.2.1 18 = .ok (.iload_n 1, 1) := by decide +kernel
theorem d_M_receiveToken_19 : decode m_M_receiveToken.2.1 19 = .ok (.aload_n 0, 1) := by decide +kernel
theorem d_M_receiveToken_20 : decode m_M_receiveToken.2.1 20 = .ok (.getfield 25, 3) := by decide +kernel
theorem d_M_receiveToken_23 : decode m_M_receiveToken.2.1 23 = .ok (.iload_n 1, 1) := by decide +kernel
theorem d_M_receiveToken_24 : decode m_M_receiveToken.2.1 24 = .ok (.iaload, 1) := by decide +kernel
theorem d_M_receiveToken_25 : decode m_M_receiveToken.2.1 25 = .ok (.iload_n 3, 1) := by decide +kernel
theorem d_M_receiveToken_26 : decode m_M_receiveToken.2.1 26 = .ok (.iand, 1) := by decide +kernel
theorem d_M_receiveToken_27 : decode m_M_receiveToken.2.1 27 = .ok (.iastore, 1) := by decide +kernel
theorem d_M_receiveToken_28 : decode m_M_receiveToken.2.1 28 = .ok (.aload_n 0, 1) := by decide +kernel
theorem d_M_receiveToken_29 : decode m_M_receiveToken.2.1 29 = .ok (.getfield 53, 3) := by decide +kernel
theorem d_M_receiveToken_32 : decode m_M_receiveToken.2.1 32 = .ok (.iload_n 1, 1) := by decide +kernel
theorem d_M_receiveToken_33 : decode m_M_receiveToken.2.1 33 = .ok (.iload_n 3, 1) := by decide +kernel
theorem d_M_receiveToken_34 : decode m_M_receiveToken.2.1 34 = .ok (.iconst 1, 1) := by decide +kernel
theorem d_M_receiveToken_35 : decode m_M_receiveToken.2.1 35 = .ok (.iload_n 1, 1) := by decide +kernel
theorem d_M_receiveToken_36 : decode m_M_receiveToken.2.1 36 = .ok (.ishl, 1) := by decide +kernel
theorem d_M_receiveToken_37 : decode m_M_receiveToken.2.1 37 = .ok (.ior, 1) := by decide +kernel
theorem d_M_receiveToken_38 : decode m_M_receiveToken.2.1 38 = .ok (.iastore, 1) := by decide +kernel
theorem d_M_receiveToken_39 : decode m_M_receiveToken.2.1 39 = .ok (.aload_n 0, 1) := by decide +kernel
theorem d_M_receiveToken_40 : decode m_M_receiveToken.2.1 40 = .ok (.iload_n 1, 1) := by decide +kernel
theorem d_M_receiveToken_41 : decode m_M_receiveToken.2.1 41 = .ok (.invokevirtual 183, 3) := by decide +kernel
theorem d_M_receiveToken_44 : decode m_M_receiveToken.2.1 44 = .ok (.return_, 1) := by decide +kernel
end
section
/-! DECODED: written by wip/whole/gen/dec.py -/
theorem d_M_hold_0 : decode m_M_hold.2.1 0 = .ok (.iconst (-1), 1) := by decide +kernel
theorem d_M_hold_1 : decode m_M_hold.2.1 1 = .ok (.istore_n 2, 1) := by decide +kernel
theorem d_M_hold_2 : decode m_M_hold.2.1 2 = .ok (.iconst 0, 1) := by decide +kernel
theorem d_M_hold_3 : decode m_M_hold.2.1 3 = .ok (.istore_n 3, 1) := by decide +kernel
theorem d_M_hold_4 : decode m_M_hold.2.1 4 = .ok (.iload_n 3, 1) := by decide +kernel
theorem d_M_hold_5 : decode m_M_hold.2.1 5 = .ok (.aload_n 0, 1) := by decide +kernel
theorem d_M_hold_6 : decode m_M_hold.2.1 6 = .ok (.getfield 124, 3) := by decide +kernel
theorem d_M_hold_9 : decode m_M_hold.2.1 9 = .ok (.if_icmp .ge 62, 3) := by decide +kernel
theorem d_M_hold_12 : decode m_M_hold.2.1 12 = .ok (.aload_n 0, 1) := by decide +kernel
theorem d_M_hold_13 : decode m_M_hold.2.1 13 = .ok (.getfield 25, 3) := by decide +kernel
theorem d_M_hold_16 : decode m_M_hold.2.1 16 = .ok (.iload_n 1, 1) := by decide +kernel
theorem d_M_hold_17 : decode m_M_hold.2.1 17 = .ok (.iaload, 1) := by decide +kernel
theorem d_M_hold_18 : decode m_M_hold.2.1 18 = .ok (.iload_n 3, 1) := by decide +kernel
theorem d_M_hold_19 : decode m_M_hold.2.1 19 = .ok (.invokestatic 120, 3) := by decide +kernel
theorem d_M_hold_22 : decode m_M_hold.2.1 22 = .ok (.ifCond .eq 20, 3) := by decide +kernel
theorem d_M_hold_25 : decode m_M_hold.2.1 25 = .ok (.aload_n 0, 1) := by decide +kernel
theorem d_M_hold_26 : decode m_M_hold.2.1 26 = .ok (.getfield 53, 3) := by decide +kernel
theorem d_M_hold_29 : decode m_M_hold.2.1 29 = .ok (.iload_n 1, 1) := by decide +kernel
theorem d_M_hold_30 : decode m_M_hold.2.1 30 = .ok (.iaload, 1) := by decide +kernel
theorem d_M_hold_31 : decode m_M_hold.2.1 31 = .ok (.iload_n 3, 1) := by decide +kernel
theorem d_M_hold_32 : decode m_M_hold.2.1 32 = .ok (.invokestatic 120, 3) := by decide +kernel
theorem d_M_hold_35 : decode m_M_hold.2.1 35 = .ok (.ifCond .ne 7, 3) := by decide +kernel
theorem d_M_hold_38 : decode m_M_hold.2.1 38 = .ok (.iconst 1, 1) := by decide +kernel
theorem d_M_hold_39 : decode m_M_hold.2.1 39 = .ok (.goto 4, 3) := by decide +kernel
theorem d_M_hold_42 : decode m_M_hold.2.1 42 = .ok (.iconst 0, 1) := by decide +kernel
theorem d_M_hold_43 : decode m_M_hold.2.1 43 = .ok (.istore 4, 2) := by decide +kernel
theorem d_M_hold_45 : decode m_M_hold.2.1 45 = .ok (.iload 4, 2) := by decide +kernel
theorem d_M_hold_47 : decode m_M_hold.2.1 47 = .ok (.ifCond .eq 16, 3) := by decide +kernel
theorem d_M_hold_50 : decode m_M_hold.2.1 50 = .ok (.aload_n 0, 1) := by decide +kernel
theorem d_M_hold_51 : decode m_M_hold.2.1 51 = .ok (.iload_n 3, 1) := by decide +kernel
theorem d_M_hold_52 : decode m_M_hold.2.1 52 = .ok (.iload_n 2, 1) := by decide +kernel
theorem d_M_hold_53 : decode m_M_hold.2.1 53 = .ok (.invokevirtual 165, 3) := by decide +kernel
theorem d_M_hold_56 : decode m_M_hold.2.1 56 = .ok (.ifCond .eq 7, 3) := by decide +kernel
theorem d_M_hold_59 : decode m_M_hold.2.1 59 = .ok (.iload_n 3, 1) := by decide +kernel
theorem d_M_hold_60 : decode m_M_hold.2.1 60 = .ok (.goto 4, 3) := by decide +kernel
theorem d_M_hold_63 : decode m_M_hold.2.1 63 = .ok (.iload_n 2, 1) := by decide +kernel
theorem d_M_hold_64 : decode m_M_hold.2.1 64 = .ok (.istore_n 2, 1) := by decide +kernel
theorem d_M_hold_65 : decode m_M_hold.2.1 65 = .ok (.iinc 3 1, 3) := by decide +kernel
theorem d_M_hold_68 : decode m_M_hold.2.1 68 = .ok (.goto (-64), 3) := by decide +kernel
theorem d_M_hold_71 : decode m_M_hold.2.1 71 = .ok (.aload_n 0, 1) := by decide +kernel
theorem d_M_hold_72 : decode m_M_hold.2.1 72 = .ok (.getfield 56, 3) := by decide +kernel
theorem d_M_hold_75 : decode m_M_hold.2.1 75 = .ok (.iload_n 1, 1) := by decide +kernel
theorem d_M_hold_76 : decode m_M_hold.2.1 76 = .ok (.iload_n 2, 1) := by decide +kernel
theorem d_M_hold_77 : decode m_M_hold.2.1 77 = .ok (.iastore, 1) := by decide +kernel
theorem d_M_hold_78 : decode m_M_hold.2.1 78 = .ok (.iload_n 2, 1) := by decide +kernel
theorem d_M_hold_79 : decode m_M_hold.2.1 79 = .ok (.ifCond .lt 18, 3) := by decide +kernel
theorem d_M_hold_82 : decode m_M_hold.2.1 82 = .ok (.aload_n 0, 1) := by decide +kernel
theorem d_M_hold_83 : decode m_M_hold.2.1 83 = .ok (.iconst 0, 1) := by decide +kernel
theorem d_M_hold_84 : decode m_M_hold.2.1 84 = .ok (.iload_n 1, 1) := by decide +kernel
theorem d_M_hold_85 : decode m_M_hold.2.1 85 = .ok (.iload_n 2, 1) := by decide +kernel
theorem d_M_hold_86 : decode m_M_hold.2.1 86 = .ok (.aload_n 0, 1) := by decide +kernel
theorem d_M_hold_87 : decode m_M_hold.2.1 87 = .ok (.getfield 53, 3) := by decide +kernel
theorem d_M_hold_90 : decode m_M_hold.2.1 90 = .ok (.iload_n 1, 1) := by decide +kernel
theorem d_M_hold_91 : decode m_M_hold.2.1 91 = .ok (.iaload, 1) := by decide +kernel
theorem d_M_hold_92 : decode m_M_hold.2.1 92 = .ok (.invokevirtual 179, 3) := by decide +kernel
theorem d_M_hold_95 : decode m_M_hold.2.1 95 = .ok (.istore_n 3, 1) := by decide +kernel
theorem d_M_hold_96 : decode m_M_hold.2.1 96 = .ok (.return_, 1) := by decide +kernel
theorem d_M_hold_97 : decode m_M_hold.2.1 97 = .ok (.aload_n 0, 1) := by decide +kernel
theorem d_M_hold_98 : decode m_M_hold.2.1 98 = .ok (.getfield 41, 3) := by decide +kernel
theorem d_M_hold_101 : decode m_M_hold.2.1 101 = .ok (.iload_n 1, 1) := by decide +kernel
theorem d_M_hold_102 : decode m_M_hold.2.1 102 = .ok (.iconst 1, 1) := by decide +kernel
theorem d_M_hold_103 : decode m_M_hold.2.1 103 = .ok (.bastore, 1) := by decide +kernel
theorem d_M_hold_104 : decode m_M_hold.2.1 104 = .ok (.aload_n 0, 1) := by decide +kernel
theorem d_M_hold_105 : decode m_M_hold.2.1 105 = .ok (.getfield 50, 3) := by decide +kernel
theorem d_M_hold_108 : decode m_M_hold.2.1 108 = .ok (.iload_n 1, 1) := by decide +kernel
theorem d_M_hold_109 : decode m_M_hold.2.1 109 = .ok (.iaload, 1) := by decide +kernel
theorem d_M_hold_110 : decode m_M_hold.2.1 110 = .ok (.istore_n 3, 1) := by decide +kernel
theorem d_M_hold_111 : decode m_M_hold.2.1 111 = .ok (.iconst 0, 1) := by decide +kernel
theorem d_M_hold_112 : decode m_M_hold.2.1 112 = .ok (.istore 4, 2) := by decide +kernel
theorem d_M_hold_114 : decode m_M_hold.2.1 114 = .ok (.iload 4, 2) := by decide +kernel
theorem d_M_hold_116 : decode m_M_hold.2.1 116 = .ok (.aload_n 0, 1) := by decide +kernel
theorem d_M_hold_117 : decode m_M_hold.2.1 117 = .ok (.getfield 62, 3) := by decide +kernel
theorem d_M_hold_120 : decode m_M_hold.2.1 120 = .ok (.iload_n 1, 1) := by decide +kernel
theorem d_M_hold_121 : decode m_M_hold.2.1 121 = .ok (.iaload, 1) := by decide +kernel
theorem d_M_hold_122 : decode m_M_hold.2.1 122 = .ok (.if_icmp .ge 29, 3) := by decide +kernel
theorem d_M_hold_125 : decode m_M_hold.2.1 125 = .ok (.iload_n 3, 1) := by decide +kernel
theorem d_M_hold_126 : decode m_M_hold.2.1 126 = .ok (.aload_n 0, 1) := by decide +kernel
theorem d_M_hold_127 : decode m_M_hold.2.1 127 = .ok (.getfield 65, 3) := by decide +kernel
theorem d_M_hold_130 : decode m_M_hold.2.1 130 = .ok (.aload_n 0, 1) := by decide +kernel
theorem d_M_hold_131 : decode m_M_hold.2.1 131 = .ok (.getfield 59, 3) := by decide +kernel
theorem d_M_hold_134 : decode m_M_hold.2.1 134 = .ok (.bipush 8, 2) := by decide +kernel
theorem d_M_hold_136 : decode m_M_hold.2.1 136 = .ok (.iload_n 1, 1) := by decide +kernel
theorem d_M_hold_137 : decode m_M_hold.2.1 137 = .ok (.imul, 1) := by decide +kernel
theorem d_M_hold_138 : decode m_M_hold.2.1 138 = .ok (.iload 4, 2) := by decide +kernel
theorem d_M_hold_140 : decode m_M_hold.2.1 140 = .ok (.iadd, 1) := by decide +kernel
theorem d_M_hold_141 : decode m_M_hold.2.1 141 = .ok (.iaload, 1) := by decide +kernel
theorem d_M_hold_142 : decode m_M_hold.2.1 142 = .ok (.iaload, 1) := by decide +kernel
theorem d_M_hold_143 : decode m_M_hold.2.1 143 = .ok (.ior, 1) := by decide +kernel
theorem d_M_hold_144 : decode m_M_hold.2.1 144 = .ok (.istore_n 3, 1) := by decide +kernel
theorem d_M_hold_145 : decode m_M_hold.2.1 145 = .ok (.iinc 4 1, 3) := by decide +kernel
theorem d_M_hold_148 : decode m_M_hold.2.1 148 = .ok (.goto (-34), 3) := by decide +kernel
theorem d_M_hold_151 : decode m_M_hold.2.1 151 = .ok (.aload_n 0, 1) := by decide +kernel
theorem d_M_hold_152 : decode m_M_hold.2.1 152 = .ok (.getfield 65, 3) := by decide +kernel
theorem d_M_hold_155 : decode m_M_hold.2.1 155 = .ok (.iload_n 1, 1) := by decide +kernel
theorem d_M_hold_156 : decode m_M_hold.2.1 156 = .ok (.iload_n 3, 1) := by decide +kernel
theorem d_M_hold_157 : decode m_M_hold.2.1 157 = .ok (.iconst 1, 1) := by decide +kernel
theorem d_M_hold_158 : decode m_M_hold.2.1 158 = .ok (.iload_n 1, 1) := by decide +kernel
theorem d_M_hold_159 : decode m_M_hold.2.1 159 = .ok (.ishl, 1) := by decide +kernel
theorem d_M_hold_160 : decode m_M_hold.2.1 160 = .ok (.iconst (-1), 1) := by decide +kernel
theorem d_M_hold_161 : decode m_M_hold.2.1 161 = .ok (.ixor, 1) := by decide +kernel
theorem d_M_hold_162 : decode m_M_hold.2.1 162 = .ok (.iand, 1) := by decide +kernel
theorem d_M_hold_163 : decode m_M_hold.2.1 163 = .ok (.iastore, 1) := by decide +kernel
theorem d_M_hold_164 : decode m_M_hold.2.1 164 = .ok (.aload_n 0, 1) := by decide +kernel
theorem d_M_hold_165 : decode m_M_hold.2.1 165 = .ok (.getfield 47, 3) := by decide +kernel
theorem d_M_hold_168 : decode m_M_hold.2.1 168 = .ok (.iload_n 1, 1) := by decide +kernel
theorem d_M_hold_169 : decode m_M_hold.2.1 169 = .ok (.iaload, 1) := by decide +kernel
theorem d_M_hold_170 : decode m_M_hold.2.1 170 = .ok (.ifCond .lt 23, 3) := by decide +kernel
theorem d_M_hold_173 : decode m_M_hold.2.1 173 = .ok (.aload_n 0, 1) := by decide +kernel
theorem d_M_hold_174 : decode m_M_hold.2.1 174 = .ok (.iconst 1, 1) := by decide +kernel
theorem d_M_hold_175 : decode m_M_hold.2.1 175 = .ok (.iload_n 1, 1) := by decide +kernel
theorem d_M_hold_176 : decode m_M_hold.2.1 176 = .ok (.aload_n 0, 1) := by decide +kernel
theorem d_M_hold_177 : decode m_M_hold.2.1 177 = .ok (.getfield 47, 3) := by decide +kernel
theorem d_M_hold_180 : decode m_M_hold.2.1 180 = .ok (.iload_n 1, 1) := by decide +kernel
theorem d_M_hold_181 : decode m_M_hold.2.1 181 = .ok (.iaload, 1) := by decide +kernel
theorem d_M_hold_182 : decode m_M_hold.2.1 182 = .ok (.aload_n 0, 1) := by decide +kernel
theorem d_M_hold_183 : decode m_M_hold.2.1 183 = .ok (.getfield 53, 3) := by decide +kernel
theorem d_M_hold_186 : decode m_M_hold.2.1 186 = .ok (.iload_n 1, 1) := by decide +kernel
theorem d_M_hold_187 : decode m_M_hold.2.1 187 = .ok (.iaload, 1) := by decide +kernel
theorem d_M_hold_188 : decode m_M_hold.2.1 188 = .ok (.invokevirtual 179, 3) := by decide +kernel
theorem d_M_hold_191 : decode m_M_hold.2.1 191 = .ok (.istore 4, 2) := by decide +kernel
theorem d_M_hold_193 : decode m_M_hold.2.1 193 = .ok (.aload_n 0, 1) := by decide +kernel
theorem d_M_hold_194 : decode m_M_hold.2.1 194 = .ok (.iload_n 1, 1) := by decide +kernel
theorem d_M_hold_195 : decode m_M_hold.2.1 195 = .ok (.iconst 1, 1) := by decide +kernel
theorem d_M_hold_196 : decode m_M_hold.2.1 196 = .ok (.invokevirtual 186, 3) := by decide +kernel
theorem d_M_hold_199 : decode m_M_hold.2.1 199 = .ok (.return_, 1) := by decide +kernel
theorem d_M_post_0 : decode m_M_post.2.1 0 = .ok (.aload_n 0, 1) := by decide +kernel
theorem d_M_post_1 : decode m_M_post.2.1 1 = .ok (.getfield 176, 3) := by decide +kernel
theorem d_M_post_4 : decode m_M_post.2.1 4 = .ok (.bipush 20, 2) := by decide +kernel
theorem d_M_post_6 : decode m_M_post.2.1 6 = .ok (.if_icmp .ne 5, 3) := by decide +kernel
theorem d_M_post_9 : decode m_M_post.2.1 9 = .ok (.iconst (-1), 1) := by decide +kernel
theorem d_M_post_10 : decode m_M_post.2.1 10 = .ok (.ireturn, 1) := by decide +kernel
theorem d_M_post_11 : decode m_M_post.2.1 11 = .ok (.aload_n 0, 1) := by decide +kernel
theorem d_M_post_12 : decode m_M_post.2.1 12 = .ok (.getfield 95, 3) := by decide +kernel
theorem d_M_post_15 : decode m_M_post.2.1 15 = .ok (.aload_n 0, 1) := by decide +kernel
theorem d_M_post_16 : decode m_M_post.2.1 16 = .ok (.getfield 176, 3) := by decide +kernel
theorem d_M_post_19 : decode m_M_post.2.1 19 = .ok (.iload_n 1, 1) := by decide +kernel
theorem d_M_post_20 : decode m_M_post.2.1 20 = .ok (.iastore, 1) := by decide +kernel
theorem d_M_post_21 : decode m_M_post.2.1 21 = .ok (.aload_n 0, 1) := by decide +kernel
theorem d_M_post_22 : decode m_M_post.2.1 22 = .ok (.getfield 98, 3) := by decide +kernel
theorem d_M_post_25 : decode m_M_post.2.1 25 = .ok (.aload_n 0, 1) := by decide +kernel
theorem d_M_post_26 : decode m_M_post.2.1 26 = .ok (.getfield 176, 3) := by decide +kernel
theorem d_M_post_29 : decode m_M_post.2.1 29 = .ok (.iload_n 2, 1) := by decide +kernel
theorem d_M_post_30 : decode m_M_post.2.1 30 = .ok (.iastore, 1) := by decide +kernel
theorem d_M_post_31 : decode m_M_post.2.1 31 = .ok (.aload_n 0, 1) := by decide +kernel
theorem d_M_post_32 : decode m_M_post.2.1 32 = .ok (.getfield 101, 3) := by decide +kernel
theorem d_M_post_35 : decode m_M_post.2.1 35 = .ok (.aload_n 0, 1) := by decide +kernel
theorem d_M_post_36 : decode m_M_post.2.1 36 = .ok (.getfield 176, 3) := by decide +kernel
theorem d_M_post_39 : decode m_M_post.2.1 39 = .ok (.iload_n 3, 1) := by decide +kernel
theorem d_M_post_40 : decode m_M_post.2.1 40 = .ok (.iastore, 1) := by decide +kernel
theorem d_M_post_41 : decode m_M_post.2.1 41 = .ok (.aload_n 0, 1) := by decide +kernel
theorem d_M_post_42 : decode m_M_post.2.1 42 = .ok (.getfield 104, 3) := by decide +kernel
theorem d_M_post_45 : decode m_M_post.2.1 45 = .ok (.aload_n 0, 1) := by decide +kernel
theorem d_M_post_46 : decode m_M_post.2.1 46 = .ok (.getfield 176, 3) := by decide +kernel
theorem d_M_post_49 : decode m_M_post.2.1 49 = .ok (.iload 4, 2) := by decide +kernel
theorem d_M_post_51 : decode m_M_post.2.1 51 = .ok (.iastore, 1) := by decide +kernel
theorem d_M_post_52 : decode m_M_post.2.1 52 = .ok (.aload_n 0, 1) := by decide +kernel
theorem d_M_post_53 : decode m_M_post.2.1 53 = .ok (.getfield 107, 3) := by decide +kernel
theorem d_M_post_56 : decode m_M_post.2.1 56 = .ok (.aload_n 0, 1) := by decide +kernel
theorem d_M_post_57 : decode m_M_post.2.1 57 = .ok (.getfield 176, 3) := by decide +kernel
theorem d_M_post_60 : decode m_M_post.2.1 60 = .ok (.iconst 0, 1) := by decide +kernel
theorem d_M_post_61 : decode m_M_post.2.1 61 = .ok (.iastore, 1) := by decide +kernel
theorem d_M_post_62 : decode m_M_post.2.1 62 = .ok (.aload_n 0, 1) := by decide +kernel
theorem d_M_post_63 : decode m_M_post.2.1 63 = .ok (.getfield 110, 3) := by decide +kernel
theorem d_M_post_66 : decode m_M_post.2.1 66 = .ok (.aload_n 0, 1) := by decide +kernel
theorem d_M_post_67 : decode m_M_post.2.1 67 = .ok (.getfield 176, 3) := by decide +kernel
theorem d_M_post_70 : decode m_M_post.2.1 70 = .ok (.iconst 0, 1) := by decide +kernel
theorem d_M_post_71 : decode m_M_post.2.1 71 = .ok (.iastore, 1) := by decide +kernel
theorem d_M_post_72 : decode m_M_post.2.1 72 = .ok (.aload_n 0, 1) := by decide +kernel
theorem d_M_post_73 : decode m_M_post.2.1 73 = .ok (.dup, 1) := by decide +kernel
theorem d_M_post_74 : decode m_M_post.2.1 74 = .ok (.getfield 176, 3) := by decide +kernel
theorem d_M_post_77 : decode m_M_post.2.1 77 = .ok (.iconst 1, 1) := by decide +kernel
theorem d_M_post_78 : decode m_M_post.2.1 78 = .ok (.iadd, 1) := by decide +kernel
theorem d_M_post_79 : decode m_M_post.2.1 79 = .ok (.putfield 176, 3) := by decide +kernel
theorem d_M_post_82 : decode m_M_post.2.1 82 = .ok (.aload_n 0, 1) := by decide +kernel
theorem d_M_post_83 : decode m_M_post.2.1 83 = .ok (.getfield 176, 3) := by decide +kernel
theorem d_M_post_86 : decode m_M_post.2.1 86 = .ok (.iconst 1, 1) := by decide +kernel
theorem d_M_post_87 : decode m_M_post.2.1 87 = .ok (.isub, 1) := by decide +kernel
theorem d_M_post_88 : decode m_M_post.2.1 88 = .ok (.ireturn, 1) := by decide +kernel
theorem d_M_work_0 : decode m_M_work.2.1 0 = .ok (.aload_n 0, 1) := by decide +kernel
theorem d_M_work_1 : decode m_M_work.2.1 1 = .ok (.iload_n 1, 1) := by decide +kernel
theorem d_M_work_2 : decode m_M_work.2.1 2 = .ok (.invokevirtual 208, 3) := by decide +kernel
theorem d_M_work_5 : decode m_M_work.2.1 5 = .ok (.ifCond .ne 4, 3) := by decide +kernel
theorem d_M_work_8 : decode m_M_work.2.1 8 = .ok (.return_, 1) := by decide +kernel
theorem d_M_work_9 : decode m_M_work.2.1 9 = .ok (.aload_n 0, 1) := by decide +kernel
theorem d_M_work_10 : decode m_M_work.2.1 10 = .ok (.iload_n 1, 1) := by decide +kernel
theorem d_M_work_11 : decode m_M_work.2.1 11 = .ok (.invokevirtual 199, 3) := by decide +kernel
theorem d_M_work_14 : decode m_M_work.2.1 14 = .ok (.sipush 256, 3) := by decide +kernel
theorem d_M_work_17 : decode m_M_work.2.1 17 = .ok (.if_icmp .le 11, 3) := by decide +kernel
theorem d_M_work_20 : decode m_M_work.2.1 20 = .ok (.aload_n 0, 1) := by decide +kernel
theorem d_M_work_21 : decode m_M_work.2.1 21 = .ok (.getfield 44, 3) := by decide +kernel
theorem d_M_work_24 : decode m_M_work.2.1 24 = .ok (.iload_n 1, 1) := by decide +kernel
theorem d_M_work_25 : decode m_M_work.2.1 25 = .ok (.iconst 1, 1) := by decide +kernel
theorem d_M_work_26 : decode m_M_work.2.1 26 = .ok (.bastore, 1) := by decide +kernel
theorem d_M_work_27 : decode m_M_work.2.1 27 = .ok (.return_, 1) := by decide +kernel
theorem d_M_work_28 : decode m_M_work.2.1 28 = .ok (.aload_n 0, 1) := by decide +kernel
theorem d_M_work_29 : decode m_M_work.2.1 29 = .ok (.iload_n 1, 1) := by decide +kernel
theorem d_M_work_30 : decode m_M_work.2.1 30 = .ok (.iload_n 2, 1) := by decide +kernel
theorem d_M_work_31 : decode m_M_work.2.1 31 = .ok (.invokevirtual 211, 3) := by decide +kernel
theorem d_M_work_34 : decode m_M_work.2.1 34 = .ok (.aload_n 0, 1) := by decide +kernel
theorem d_M_work_35 : decode m_M_work.2.1 35 = .ok (.getfield 47, 3) := by decide +kernel
theorem d_M_work_38 : decode m_M_work.2.1 38 = .ok (.iload_n 1, 1) := by decide +kernel
theorem d_M_work_39 : decode m_M_work.2.1 39 = .ok (.iaload, 1) := by decide +kernel
theorem d_M_work_40 : decode m_M_work.2.1 40 = .ok (.ifCond .lt 11, 3) := by decide +kernel
theorem d_M_work_43 : decode m_M_work.2.1 43 = .ok (.aload_n 0, 1) := by decide +kernel
theorem d_M_work_44 : decode m_M_work.2.1 44 = .ok (.iload_n 1, 1) := by decide +kernel
theorem d_M_work_45 : decode m_M_work.2.1 45 = .ok (.invokevirtual 214, 3) := by decide +kernel
theorem d_M_work_48 : decode m_M_work.2.1 48 = .ok (.goto 34, 3) := by decide +kernel
theorem d_M_work_51 : decode m_M_work.2.1 51 = .ok (.aload_n 0, 1) := by decide +kernel
theorem d_M_work_52 : decode m_M_work.2.1 52 = .ok (.getfield 77, 3) := by decide +kernel
theorem d_M_work_55 : decode m_M_work.2.1 55 = .ok (.sipush 256, 3) := by decide +kernel
theorem d_M_work_58 : decode m_M_work.2.1 58 = .ok (.iload_n 1, 1) := by decide +kernel
theorem d_M_work_59 : decode m_M_work.2.1 59 = .ok (.imul, 1) := by decide +kernel
theorem d_M_work_60 : decode m_M_work.2.1 60 = .ok (.iaload, 1) := by decide +kernel
theorem d_M_work_61 : decode m_M_work.2.1 61 = .ok (.ldc 145, 2) := by decide +kernel
theorem d_M_work_63 : decode m_M_work.2.1 63 = .ok (.if_icmp .ne 13, 3) := by decide +kernel
theorem d_M_work_66 : decode m_M_work.2.1 66 = .ok (.aload_n 0, 1) := by decide +kernel
theorem d_M_work_67 : decode m_M_work.2.1 67 = .ok (.getfield 83, 3) := by decide +kernel
theorem d_M_work_70 : decode m_M_work.2.1 70 = .ok (.iload_n 1, 1) := by decide +kernel
theorem d_M_work_71 : decode m_M_work.2.1 71 = .ok (.iload_n 2, 1) := by decide +kernel
theorem d_M_work_72 : decode m_M_work.2.1 72 = .ok (.iastore, 1) := by decide +kernel
theorem d_M_work_73 : decode m_M_work.2.1 73 = .ok (.goto 9, 3) := by decide +kernel
theorem d_M_work_76 : decode m_M_work.2.1 76 = .ok (.aload_n 0, 1) := by decide +kernel
theorem d_M_work_77 : decode m_M_work.2.1 77 = .ok (.iload_n 1, 1) := by decide +kernel
theorem d_M_work_78 : decode m_M_work.2.1 78 = .ok (.iload_n 2, 1) := by decide +kernel
theorem d_M_work_79 : decode m_M_work.2.1 79 = .ok (.invokevirtual 217, 3) := by decide +kernel
theorem d_M_work_82 : decode m_M_work.2.1 82 = .ok (.return_, 1) := by decide +kernel
theorem d_M_hasAll_0 : decode m_M_hasAll.2.1 0 = .ok (.aload_n 0, 1) := by decide +kernel
theorem d_M_hasAll_1 : decode m_M_hasAll.2.1 1 = .ok (.getfield 41, 3) := by decide +kernel
theorem d_M_hasAll_4 : decode m_M_hasAll.2.1 4 = .ok (.iload_n 1, 1) := by decide +kernel
theorem d_M_hasAll_5 : decode m_M_hasAll.2.1 5 = .ok (.baload, 1) := by decide +kernel
theorem d_M_hasAll_6 : decode m_M_hasAll.2.1 6 = .ok (.istore_n 2, 1) := by decide +kernel
theorem d_M_hasAll_7 : decode m_M_hasAll.2.1 7 = .ok (.iconst 0, 1) := by decide +kernel
theorem d_M_hasAll_8 : decode m_M_hasAll.2.1 8 = .ok (.istore_n 3, 1) := by decide +kernel
theorem d_M_hasAll_9 : decode m_M_hasAll.2.1 9 = .ok (.iload_n 3, 1) := by decide +kernel
theorem d_M_hasAll_10 : decode m_M_hasAll.2.1 10 = .ok (.aload_n 0, 1) := by decide +kernel
theorem d_M_hasAll_11 : decode m_M_hasAll.2.1 11 = .ok (.getfield 62, 3) := by decide +kernel
theorem d_M_hasAll_14 : decode m_M_hasAll.2.1 14 = .ok (.iload_n 1, 1) := by decide +kernel
theorem d_M_hasAll_15 : decode m_M_hasAll.2.1 15 = .ok (.iaload, 1) := by decide +kernel
theorem d_M_hasAll_16 : decode m_M_hasAll.2.1 16 = .ok (.if_icmp .ge 41, 3) := by decide +kernel
theorem d_M_hasAll_19 : decode m_M_hasAll.2.1 19 = .ok (.iload_n 2, 1) := by decide +kernel
theorem d_M_hasAll_20 : decode m_M_hasAll.2.1 20 = .ok (.ifCond .eq 29, 3) := by decide +kernel
theorem d_M_hasAll_23 : decode m_M_hasAll.2.1 23 = .ok (.aload_n 0, 1) := by decide +kernel
theorem d_M_hasAll_24 : decode m_M_hasAll.2.1 24 = .ok (.getfield 68, 3) := by decide +kernel
theorem d_M_hasAll_27 : decode m_M_hasAll.2.1 27 = .ok (.bipush 8, 2) := by decide +kernel
theorem d_M_hasAll_29 : decode m_M_hasAll.2.1 29 = .ok (.aload_n 0, 1) := by decide +kernel
theorem d_M_hasAll_30 : decode m_M_hasAll.2.1 30 = .ok (.getfield 59, 3) := by decide +kernel
theorem d_M_hasAll_33 : decode m_M_hasAll.2.1 33 = .ok (.bipush 8, 2) := by decide +kernel
theorem d_M_hasAll_35 : decode m_M_hasAll.2.1 35 = .ok (.iload_n 1, 1) := by decide +kernel
theorem d_M_hasAll_36 : decode m_M_hasAll.2.1 36 = .ok (.imul, 1) := by decide +kernel
theorem d_M_hasAll_37 : decode m_M_hasAll.2.1 37 = .ok (.iload_n 3, 1) := by decide +kernel
theorem d_M_hasAll_38 : decode m_M_hasAll.2.1 38 = .ok (.iadd, 1) := by decide +kernel
theorem d_M_hasAll_39 : decode m_M_hasAll.2.1 39 = .ok (.iaload, 1) := by decide +kernel
theorem d_M_hasAll_40 : decode m_M_hasAll.2.1 40 = .ok (.iadd, 1) := by decide +kernel
theorem d_M_hasAll_41 : decode m_M_hasAll.2.1 41 = .ok (.iaload, 1) := by decide +kernel
theorem d_M_hasAll_42 : decode m_M_hasAll.2.1 42 = .ok (.ifCond .le 7, 3) := by decide +kernel
theorem d_M_hasAll_45 : decode m_M_hasAll.2.1 45 = .ok (.iconst 1, 1) := by decide +kernel
theorem d_M_hasAll_46 : decode m_M_hasAll.2.1 46 = .ok (.goto 4, 3) := by decide +kernel
theorem d_M_hasAll_49 : decode m_M_hasAll.2.1 49 = .ok (.iconst 0, 1) := by decide +kernel
theorem d_M_hasAll_50 : decode m_M_hasAll.2.1 50 = .ok (.istore_n 2, 1) := by decide +kernel
theorem d_M_hasAll_51 : decode m_M_hasAll.2.1 51 = .ok (.iinc 3 1, 3) := by decide +kernel
theorem d_M_hasAll_54 : decode m_M_hasAll.2.1 54 = .ok (.goto (-45), 3) := by decide +kernel
theorem d_M_hasAll_57 : decode m_M_hasAll.2.1 57 = .ok (.iload_n 2, 1) := by decide +kernel
theorem d_M_hasAll_58 : decode m_M_hasAll.2.1 58 = .ok (.ireturn, 1) := by decide +kernel
theorem d_M_width_0 : decode m_M_width.2.1 0 = .ok (.iconst 1, 1) := by decide +kernel
theorem d_M_width_1 : decode m_M_width.2.1 1 = .ok (.istore_n 2, 1) := by decide +kernel
theorem d_M_width_2 : decode m_M_width.2.1 2 = .ok (.iconst 0, 1) := by decide +kernel
theorem d_M_width_3 : decode m_M_width.2.1 3 = .ok (.istore_n 3, 1) := by decide +kernel
theorem d_M_width_4 : decode m_M_width.2.1 4 = .ok (.iload_n 3, 1) := by decide +kernel
theorem d_M_width_5 : decode m_M_width.2.1 5 = .ok (.bipush 8, 2) := by decide +kernel
theorem d_M_width_7 : decode m_M_width.2.1 7 = .ok (.if_icmp .ge 35, 3) := by decide +kernel
theorem d_M_width_10 : decode m_M_width.2.1 10 = .ok (.aload_n 0, 1) := by decide +kernel
theorem d_M_width_11 : decode m_M_width.2.1 11 = .ok (.getfield 65, 3) := by decide +kernel
theorem d_M_width_14 : decode m_M_width.2.1 14 = .ok (.iload_n 1, 1) := by decide +kernel
theorem d_M_width_15 : decode m_M_width.2.1 15 = .ok (.iaload, 1) := by decide +kernel
theorem d_M_width_16 : decode m_M_width.2.1 16 = .ok (.iload_n 3, 1) := by decide +kernel
theorem d_M_width_17 : decode m_M_width.2.1 17 = .ok (.invokestatic 120, 3) := by decide +kernel
theorem d_M_width_20 : decode m_M_width.2.1 20 = .ok (.ifCond .eq 14, 3) := by decide +kernel
theorem d_M_width_23 : decode m_M_width.2.1 23 = .ok (.iload_n 2, 1) := by decide +kernel
theorem d_M_width_24 : decode m_M_width.2.1 24 = .ok (.aload_n 0, 1) := by decide +kernel
theorem d_M_width_25 : decode m_M_width.2.1 25 = .ok (.getfield 7, 3) := by decide +kernel
theorem d_M_width_28 : decode m_M_width.2.1 28 = .ok (.iload_n 3, 1) := by decide +kernel
theorem d_M_width_29 : decode m_M_width.2.1 29 = .ok (.iaload, 1) := by decide +kernel
theorem d_M_width_30 : decode m_M_width.2.1 30 = .ok (.imul, 1) := by decide +kernel
theorem d_M_width_31 : decode m_M_width.2.1 31 = .ok (.goto 4, 3) := by decide +kernel
theorem d_M_width_34 : decode m_M_width.2.1 34 = .ok (.iload_n 2, 1) := by decide +kernel
theorem d_M_width_35 : decode m_M_width.2.1 35 = .ok (.istore_n 2, 1) := by decide +kernel
theorem d_M_width_36 : decode m_M_width.2.1 36 = .ok (.iinc 3 1, 3) := by decide +kernel
theorem d_M_width_39 : decode m_M_width.2.1 39 = .ok (.goto (-35), 3) := by decide +kernel
theorem d_M_width_42 : decode m_M_width.2.1 42 = .ok (.iload_n 2, 1) := by decide +kernel
theorem d_M_width_43 : decode m_M_width.2.1 43 = .ok (.ireturn, 1) := by decide +kernel
theorem d_M_make_0 : decode m_M_make.2.1 0 = .ok (.aload_n 0, 1) := by decide +kernel
theorem d_M_make_1 : decode m_M_make.2.1 1 = .ok (.getfield 68, 3) := by decide +kernel
theorem d_M_make_4 : decode m_M_make.2.1 4 = .ok (.iload_n 1, 1) := by decide +kernel
theorem d_M_make_5 : decode m_M_make.2.1 5 = .ok (.iload_n 2, 1) := by decide +kernel
theorem d_M_make_6 : decode m_M_make.2.1 6 = .ok (.iastore, 1) := by decide +kernel
theorem d_M_make_7 : decode m_M_make.2.1 7 = .ok (.aload_n 0, 1) := by decide +kernel
theorem d_M_make_8 : decode m_M_make.2.1 8 = .ok (.getfield 71, 3) := by decide +kernel
theorem d_M_make_11 : decode m_M_make.2.1 11 = .ok (.iload_n 1, 1) := by decide +kernel
theorem d_M_make_12 : decode m_M_make.2.1 12 = .ok (.aload_n 0, 1) := by decide +kernel
theorem d_M_make_13 : decode m_M_make.2.1 13 = .ok (.getfield 65, 3) := by decide +kernel
theorem d_M_make_16 : decode m_M_make.2.1 16 = .ok (.iload_n 1, 1) := by decide +kernel
theorem d_M_make_17 : decode m_M_make.2.1 17 = .ok (.iaload, 1) := by decide +kernel
theorem d_M_make_18 : decode m_M_make.2.1 18 = .ok (.iastore, 1) := by decide +kernel
theorem d_M_make_19 : decode m_M_make.2.1 19 = .ok (.aload_n 0, 1) := by decide +kernel
theorem d_M_make_20 : decode m_M_make.2.1 20 = .ok (.getfield 74, 3) := by decide +kernel
theorem d_M_make_23 : decode m_M_make.2.1 23 = .ok (.iload_n 1, 1) := by decide +kernel
theorem d_M_make_24 : decode m_M_make.2.1 24 = .ok (.aload_n 0, 1) := by decide +kernel
theorem d_M_make_25 : decode m_M_make.2.1 25 = .ok (.iload_n 1, 1) := by decide +kernel
theorem d_M_make_26 : decode m_M_make.2.1 26 = .ok (.invokevirtual 199, 3) := by decide +kernel
theorem d_M_make_29 : decode m_M_make.2.1 29 = .ok (.iastore, 1) := by decide +kernel
theorem d_M_make_30 : decode m_M_make.2.1 30 = .ok (.iconst 0, 1) := by decide +kernel
theorem d_M_make_31 : decode m_M_make.2.1 31 = .ok (.istore_n 3, 1) := by decide +kernel
theorem d_M_make_32 : decode m_M_make.2.1 32 = .ok (.iload_n 3, 1) := by decide +kernel
theorem d_M_make_33 : decode m_M_make.2.1 33 = .ok (.bipush 8, 2) := by decide +kernel
theorem d_M_make_35 : decode m_M_make.2.1 35 = .ok (.if_icmp .ge 16, 3) := by decide +kernel
theorem d_M_make_38 : decode m_M_make.2.1 38 = .ok (.aload_n 0, 1) := by decide +kernel
theorem d_M_make_39 : decode m_M_make.2.1 39 = .ok (.getfield 92, 3) := by decide +kernel
theorem d_M_make_42 : decode m_M_make.2.1 42 = .ok (.iload_n 3, 1) := by decide +kernel
theorem d_M_make_43 : decode m_M_make.2.1 43 = .ok (.iconst 0, 1) := by decide +kernel
theorem d_M_make_44 : decode m_M_make.2.1 44 = .ok (.iastore, 1) := by decide +kernel
theorem d_M_make_45 : decode m_M_make.2.1 45 = .ok (.iinc 3 1, 3) := by decide +kernel
theorem d_M_make_48 : decode m_M_make.2.1 48 = .ok (.goto (-16), 3) := by decide +kernel
theorem d_M_make_51 : decode m_M_make.2.1 51 = .ok (.iconst 0, 1) := by decide +kernel
theorem d_M_make_52 : decode m_M_make.2.1 52 = .ok (.istore_n 3, 1) := by decide +kernel
theorem d_M_make_53 : decode m_M_make.2.1 53 = .ok (.iload_n 3, 1) := by decide +kernel
theorem d_M_make_54 : decode m_M_make.2.1 54 = .ok (.aload_n 0, 1) := by decide +kernel
theorem d_M_make_55 : decode m_M_make.2.1 55 = .ok (.getfield 74, 3) := by decide +kernel
theorem d_M_make_58 : decode m_M_make.2.1 58 = .ok (.iload_n 1, 1) := by decide +kernel
theorem d_M_make_59 : decode m_M_make.2.1 59 = .ok (.iaload, 1) := by decide +kernel
theorem d_M_make_60 : decode m_M_make.2.1 60 = .ok (.if_icmp .ge 136, 3) := by decide +kernel
theorem d_M_make_63 : decode m_M_make.2.1 63 = .ok (.aload_n 0, 1) := by decide +kernel
theorem d_M_make_64 : decode m_M_make.2.1 64 = .ok (.iload_n 1, 1) := by decide +kernel
theorem d_M_make_65 : decode m_M_make.2.1 65 = .ok (.invokevirtual 202, 3) := by decide +kernel
theorem d_M_make_68 : decode m_M_make.2.1 68 = .ok (.istore 4, 2) := by decide +kernel
theorem d_M_make_70 : decode m_M_make.2.1 70 = .ok (.aload_n 0, 1) := by decide +kernel
theorem d_M_make_71 : decode m_M_make.2.1 71 = .ok (.getfield 77, 3) := by decide +kernel
theorem d_M_make_74 : decode m_M_make.2.1 74 = .ok (.sipush 256, 3) := by decide +kernel
theorem d_M_make_77 : decode m_M_make.2.1 77 = .ok (.iload_n 1, 1) := by decide +kernel
theorem d_M_make_78 : decode m_M_make.2.1 78 = .ok (.imul, 1) := by decide +kernel
theorem d_M_make_79 : decode m_M_make.2.1 79 = .ok (.iload_n 3, 1) := by decide +kernel
theorem d_M_make_80 : decode m_M_make.2.1 80 = .ok (.iadd, 1) := by decide +kernel
theorem d_M_make_81 : decode m_M_make.2.1 81 = .ok (.iload 4, 2) := by decide +kernel
theorem d_M_make_83 : decode m_M_make.2.1 83 = .ok (.ifCond .ge 8, 3) := by decide +kernel
theorem d_M_make_86 : decode m_M_make.2.1 86 = .ok (.ldc 145, 2) := by decide +kernel
theorem d_M_make_88 : decode m_M_make.2.1 88 = .ok (.goto 7, 3) := by decide +kernel
theorem d_M_make_91 : decode m_M_make.2.1 91 = .ok (.aload_n 0, 1) := by decide +kernel
theorem d_M_make_92 : decode m_M_make.2.1 92 = .ok (.getfield 193, 3) := by decide +kernel
theorem d_M_make_95 : decode m_M_make.2.1 95 = .ok (.iastore, 1) := by decide +kernel
theorem d_M_make_96 : decode m_M_make.2.1 96 = .ok (.iconst 1, 1) := by decide +kernel
theorem d_M_make_97 : decode m_M_make.2.1 97 = .ok (.istore 5, 2) := by decide +kernel
theorem d_M_make_99 : decode m_M_make.2.1 99 = .ok (.iconst 0, 1) := by decide +kernel
theorem d_M_make_100 : decode m_M_make.2.1 100 = .ok (.istore 6, 2) := by decide +kernel
theorem d_M_make_102 : decode m_M_make.2.1 102 = .ok (.iload 6, 2) := by decide +kernel
theorem d_M_make_104 : decode m_M_make.2.1 104 = .ok (.bipush 8, 2) := by decide +kernel
theorem d_M_make_106 : decode m_M_make.2.1 106 = .ok (.if_icmp .ge 84, 3) := by decide +kernel
theorem d_M_make_109 : decode m_M_make.2.1 109 = .ok (.iload 5, 2) := by decide +kernel
theorem d_M_make_111 : decode m_M_make.2.1 111 = .ok (.ifCond .eq 73, 3) := by decide +kernel
theorem d_M_make_114 : decode m_M_make.2.1 114 = .ok (.aload_n 0, 1) := by decide +kernel
theorem d_M_make_115 : decode m_M_make.2.1 115 = .ok (.getfield 65, 3) := by decide +kernel
theorem d_M_make_118 : decode m_M_make.2.1 118 = .ok (.iload_n 1, 1) := by decide +kernel
theorem d_M_make_119 : decode m_M_make.2.1 119 = .ok (.iaload, 1) := by decide +kernel
theorem d_M_make_120 : decode m_M_make.2.1 120 = .ok (.iload 6, 2) := by decide +kernel
theorem d_M_make_122 : decode m_M_make.2.1 122 = .ok (.invokestatic 120, 3) := by decide +kernel
theorem d_M_make_125 : decode m_M_make.2.1 125 = .ok (.ifCond .eq 59, 3) := by decide +kernel
theorem d_M_make_128 : decode m_M_make.2.1 128 = .ok (.aload_n 0, 1) := by decide +kernel
theorem d_M_make_129 : decode m_M_make.2.1 129 = .ok (.getfield 92, 3) := by decide +kernel
theorem d_M_make_132 : decode m_M_make.2.1 132 = .ok (.iload 6, 2) := by decide +kernel
theorem d_M_make_134 : decode m_M_make.2.1 134 = .ok (.aload_n 0, 1) := by decide +kernel
theorem d_M_make_135 : decode m_M_make.2.1 135 = .ok (.getfield 92, 3) := by decide +kernel
theorem d_M_make_138 : decode m_M_make.2.1 138 = .ok (.iload 6, 2) := by decide +kernel
theorem d_M_make_140 : decode m_M_make.2.1 140 = .ok (.iaload, 1) := by decide +kernel
theorem d_M_make_141 : decode m_M_make.2.1 141 = .ok (.iconst 1, 1) := by decide +kernel
theorem d_M_make_142 : decode m_M_make.2.1 142 = .ok (.iadd, 1) := by decide +kernel
theorem d_M_make_143 : decode m_M_make.2.1 143 = .ok (.aload_n 0, 1) := by decide +kernel
theorem d_M_make_144 : decode m_M_make.2.1 144 = .ok (.getfield 7, 3) := by decide +kernel
theorem d_M_make_147 : decode m_M_make.2.1 147 = .ok (.iload 6, 2) := by decide +kernel
theorem d_M_make_149 : decode m_M_make.2.1 149 = .ok (.iaload, 1) := by decide +kernel
theorem d_M_make_150 : decode m_M_make.2.1 150 = .ok (.if_icmp .ne 7, 3) := by decide +kernel
theorem d_M_make_153 : decode m_M_make.2.1 153 = .ok (.iconst 0, 1) := by decide +kernel
theorem d_M_make_154 : decode m_M_make.2.1 154 = .ok (.goto 12, 3) := by decide +kernel
theorem d_M_make_157 : decode m_M_make.2.1 157 = .ok (.aload_n 0, 1) := by decide +kernel
theorem d_M_make_158 : decode m_M_make.2.1 158 = .ok (.getfield 92, 3) := by decide +kernel
theorem d_M_make_161 : decode m_M_make.2.1 161 = .ok (.iload 6, 2) := by decide +kernel
theorem d_M_make_163 : decode m_M_make.2.1 163 = .ok (.iaload, 1) := by decide +kernel
theorem d_M_make_164 : decode m_M_make.2.1 164 = .ok (.iconst 1, 1) := by decide +kernel
theorem d_M_make_165 : decode m_M_make.2.1 165 = .ok (.iadd, 1) := by decide +kernel
theorem d_M_make_166 : decode m_M_make.2.1 166 = .ok (.iastore, 1) := by decide +kernel
theorem d_M_make_167 : decode m_M_make.2.1 167 = .ok (.aload_n 0, 1) := by decide +kernel
theorem d_M_make_168 : decode m_M_make.2.1 168 = .ok (.getfield 92, 3) := by decide +kernel
theorem d_M_make_171 : decode m_M_make.2.1 171 = .ok (.iload 6, 2) := by decide +kernel
theorem d_M_make_173 : decode m_M_make.2.1 173 = .ok (.iaload, 1) := by decide +kernel
theorem d_M_make_174 : decode m_M_make.2.1 174 = .ok (.ifCond .ne 7, 3) := by decide +kernel
theorem d_M_make_177 : decode m_M_make.2.1 177 = .ok (.iconst 1, 1) := by decide +kernel
theorem d_M_make_178 : decode m_M_make.2.1 178 = .ok (.goto 4, 3) := by decide +kernel
theorem d_M_make_181 : decode m_M_make.2.1 181 = .ok (.iconst 0, 1) := by decide +kernel
theorem d_M_make_182 : decode m_M_make.2.1 182 = .ok (.istore 5, 2) := by decide +kernel
theorem d_M_make_184 : decode m_M_make.2.1 184 = .ok (.iinc 6 1, 3) := by decide +kernel
theorem d_M_make_187 : decode m_M_make.2.1 187 = .ok (.goto (-85), 3) := by decide +kernel
theorem d_M_make_190 : decode m_M_make.2.1 190 = .ok (.iinc 3 1, 3) := by decide +kernel
theorem d_M_make_193 : decode m_M_make.2.1 193 = .ok (.goto (-140), 3) := by decide +kernel
theorem d_M_make_196 : decode m_M_make.2.1 196 = .ok (.aload_n 0, 1) := by decide +kernel
theorem d_M_make_197 : decode m_M_make.2.1 197 = .ok (.dup, 1) := by decide +kernel
theorem d_M_make_198 : decode m_M_make.2.1 198 = .ok (.getfield 205, 3) := by decide +kernel
theorem d_M_make_201 : decode m_M_make.2.1 201 = .ok (.iconst 1, 1) := by decide +kernel
theorem d_M_make_202 : decode m_M_make.2.1 202 = .ok (.iadd, 1) := by decide +kernel
theorem d_M_make_203 : decode m_M_make.2.1 203 = .ok (.putfield 205, 3) := by decide +kernel
theorem d_M_make_206 : decode m_M_make.2.1 206 = .ok (.return_, 1) := by decide +kernel
end
section
/-! DECODED: written by wip/whole/gen/dec.py -/
theorem d_M_best_0 : decode m_M_best.2.1 0 = .ok (.aload_n 0, 1) := by decide +kernel
theorem d_M_best_1 : decode m_M_best.2.1 1 = .ok (.ldc 145, 2) := by decide +kernel
theorem d_M_best_3 : decode m_M_best.2.1 3 = .ok (.putfield 193, 3) := by decide +kernel
theorem d_M_best_6 : decode m_M_best.2.1 6 = .ok (.iconst (-1), 1) := by decide +kernel
theorem d_M_best_7 : decode m_M_best.2.1 7 = .ok (.istore_n 2, 1) := by decide +kernel
theorem d_M_best_8 : decode m_M_best.2.1 8 = .ok (.iconst 0, 1) := by decide +kernel
theorem d_M_best_9 : decode m_M_best.2.1 9 = .ok (.istore_n 3, 1) := by decide +kernel
theorem d_M_best_10 : decode m_M_best.2.1 10 = .ok (.iload_n 3, 1) := by decide +kernel
theorem d_M_best_11 : decode m_M_best.2.1 11 = .ok (.aload_n 0, 1) := by decide +kernel
theorem d_M_best_12 : decode m_M_best.2.1 12 = .ok (.getfield 7, 3) := by decide +kernel
theorem d_M_best_15 : decode m_M_best.2.1 15 = .ok (.iload_n 1, 1) := by decide +kernel
theorem d_M_best_16 : decode m_M_best.2.1 16 = .ok (.iaload, 1) := by decide +kernel
theorem d_M_best_17 : decode m_M_best.2.1 17 = .ok (.if_icmp .ge 60, 3) := by decide +kernel
theorem d_M_best_20 : decode m_M_best.2.1 20 = .ok (.aload_n 0, 1) := by decide +kernel
theorem d_M_best_21 : decode m_M_best.2.1 21 = .ok (.getfield 92, 3) := by decide +kernel
theorem d_M_best_24 : decode m_M_best.2.1 24 = .ok (.iload_n 1, 1) := by decide +kernel
theorem d_M_best_25 : decode m_M_best.2.1 25 = .ok (.iload_n 3, 1) := by decide +kernel
theorem d_M_best_26 : decode m_M_best.2.1 26 = .ok (.iastore, 1) := by decide +kernel
theorem d_M_best_27 : decode m_M_best.2.1 27 = .ok (.aload_n 0, 1) := by decide +kernel
theorem d_M_best_28 : decode m_M_best.2.1 28 = .ok (.iload_n 1, 1) := by decide +kernel
theorem d_M_best_29 : decode m_M_best.2.1 29 = .ok (.invokevirtual 196, 3) := by decide +kernel
theorem d_M_best_32 : decode m_M_best.2.1 32 = .ok (.istore 4, 2) := by decide +kernel
theorem d_M_best_34 : decode m_M_best.2.1 34 = .ok (.iload 4, 2) := by decide +kernel
theorem d_M_best_36 : decode m_M_best.2.1 36 = .ok (.aload_n 0, 1) := by decide +kernel
theorem d_M_best_37 : decode m_M_best.2.1 37 = .ok (.getfield 193, 3) := by decide +kernel
theorem d_M_best_40 : decode m_M_best.2.1 40 = .ok (.if_icmp .ge 7, 3) := by decide +kernel
theorem d_M_best_43 : decode m_M_best.2.1 43 = .ok (.iload_n 3, 1) := by decide +kernel
theorem d_M_best_44 : decode m_M_best.2.1 44 = .ok (.goto 4, 3) := by decide +kernel
theorem d_M_best_47 : decode m_M_best.2.1 47 = .ok (.iload_n 2, 1) := by decide +kernel
theorem d_M_best_48 : decode m_M_best.2.1 48 = .ok (.istore_n 2, 1) := by decide +kernel
theorem d_M_best_49 : decode m_M_best.2.1 49 = .ok (.aload_n 0, 1) := by decide +kernel
theorem d_M_best_50 : decode m_M_best.2.1 50 = .ok (.iload 4, 2) := by decide +kernel
theorem d_M_best_52 : decode m_M_best.2.1 52 = .ok (.aload_n 0, 1) := by decide +kernel
theorem d_M_best_53 : decode m_M_best.2.1 53 = .ok (.getfield 193, 3) := by decide +kernel
theorem d_M_best_56 : decode m_M_best.2.1 56 = .ok (.if_icmp .ge 8, 3) := by decide +kernel
theorem d_M_best_59 : decode m_M_best.2.1 59 = .ok (.iload 4, 2) := by decide +kernel
theorem d_M_best_61 : decode m_M_best.2.1 61 = .ok (.goto 7, 3) := by decide +kernel
theorem d_M_best_64 : decode m_M_best.2.1 64 = .ok (.aload_n 0, 1) := by decide +kernel
theorem d_M_best_65 : decode m_M_best.2.1 65 = .ok (.getfield 193, 3) := by decide +kernel
theorem d_M_best_68 : decode m_M_best.2.1 68 = .ok (.putfield 193, 3) := by decide +kernel
theorem d_M_best_71 : decode m_M_best.2.1 71 = .ok (.iinc 3 1, 3) := by decide +kernel
theorem d_M_best_74 : decode m_M_best.2.1 74 = .ok (.goto (-64), 3) := by decide +kernel
theorem d_M_best_77 : decode m_M_best.2.1 77 = .ok (.iload_n 2, 1) := by decide +kernel
theorem d_M_best_78 : decode m_M_best.2.1 78 = .ok (.ireturn, 1) := by decide +kernel
theorem d_M_costNow_0 : decode m_M_costNow.2.1 0 = .ok (.aload_n 0, 1) := by decide +kernel
theorem d_M_costNow_1 : decode m_M_costNow.2.1 1 = .ok (.getfield 13, 3) := by decide +kernel
theorem d_M_costNow_4 : decode m_M_costNow.2.1 4 = .ok (.iconst 4, 1) := by decide +kernel
theorem d_M_costNow_5 : decode m_M_costNow.2.1 5 = .ok (.iload_n 1, 1) := by decide +kernel
theorem d_M_costNow_6 : decode m_M_costNow.2.1 6 = .ok (.imul, 1) := by decide +kernel
theorem d_M_costNow_7 : decode m_M_costNow.2.1 7 = .ok (.aload_n 0, 1) := by decide +kernel
theorem d_M_costNow_8 : decode m_M_costNow.2.1 8 = .ok (.getfield 92, 3) := by decide +kernel
theorem d_M_costNow_11 : decode m_M_costNow.2.1 11 = .ok (.iload_n 1, 1) := by decide +kernel
theorem d_M_costNow_12 : decode m_M_costNow.2.1 12 = .ok (.iaload, 1) := by decide +kernel
theorem d_M_costNow_13 : decode m_M_costNow.2.1 13 = .ok (.iadd, 1) := by decide +kernel
theorem d_M_costNow_14 : decode m_M_costNow.2.1 14 = .ok (.iaload, 1) := by decide +kernel
theorem d_M_costNow_15 : decode m_M_costNow.2.1 15 = .ok (.istore_n 2, 1) := by decide +kernel
theorem d_M_costNow_16 : decode m_M_costNow.2.1 16 = .ok (.iconst 0, 1) := by decide +kernel
theorem d_M_costNow_17 : decode m_M_costNow.2.1 17 = .ok (.istore_n 3, 1) := by decide +kernel
theorem d_M_costNow_18 : decode m_M_costNow.2.1 18 = .ok (.iload_n 3, 1) := by decide +kernel
theorem d_M_costNow_19 : decode m_M_costNow.2.1 19 = .ok (.aload_n 0, 1) := by decide +kernel
theorem d_M_costNow_20 : decode m_M_costNow.2.1 20 = .ok (.getfield 146, 3) := by decide +kernel
theorem d_M_costNow_23 : decode m_M_costNow.2.1 23 = .ok (.if_icmp .ge 119, 3) := by decide +kernel
theorem d_M_costNow_26 : decode m_M_costNow.2.1 26 = .ok (.aload_n 0, 1) := by decide +kernel
theorem d_M_costNow_27 : decode m_M_costNow.2.1 27 = .ok (.getfield 16, 3) := by decide +kernel
theorem d_M_costNow_30 : decode m_M_costNow.2.1 30 = .ok (.iload_n 3, 1) := by decide +kernel
theorem d_M_costNow_31 : decode m_M_costNow.2.1 31 = .ok (.iaload, 1) := by decide +kernel
theorem d_M_costNow_32 : decode m_M_costNow.2.1 32 = .ok (.iload_n 1, 1) := by decide +kernel
theorem d_M_costNow_33 : decode m_M_costNow.2.1 33 = .ok (.if_icmp .ne 21, 3) := by decide +kernel
theorem d_M_costNow_36 : decode m_M_costNow.2.1 36 = .ok (.aload_n 0, 1) := by decide +kernel
theorem d_M_costNow_37 : decode m_M_costNow.2.1 37 = .ok (.getfield 50, 3) := by decide +kernel
theorem d_M_costNow_40 : decode m_M_costNow.2.1 40 = .ok (.iload_n 1, 1) := by decide +kernel
theorem d_M_costNow_41 : decode m_M_costNow.2.1 41 = .ok (.iaload, 1) := by decide +kernel
theorem d_M_costNow_42 : decode m_M_costNow.2.1 42 = .ok (.aload_n 0, 1) := by decide +kernel
theorem d_M_costNow_43 : decode m_M_costNow.2.1 43 = .ok (.getfield 19, 3) := by decide +kernel
theorem d_M_costNow_46 : decode m_M_costNow.2.1 46 = .ok (.iload_n 3, 1) := by decide +kernel
theorem d_M_costNow_47 : decode m_M_costNow.2.1 47 = .ok (.iaload, 1) := by decide +kernel
theorem d_M_costNow_48 : decode m_M_costNow.2.1 48 = .ok (.invokestatic 120, 3) := by decide +kernel
theorem d_M_costNow_51 : decode m_M_costNow.2.1 51 = .ok (.ifCond .ne 31, 3) := by decide +kernel
theorem d_M_costNow_54 : decode m_M_costNow.2.1 54 = .ok (.aload_n 0, 1) := by decide +kernel
theorem d_M_costNow_55 : decode m_M_costNow.2.1 55 = .ok (.getfield 19, 3) := by decide +kernel
theorem d_M_costNow_58 : decode m_M_costNow.2.1 58 = .ok (.iload_n 3, 1) := by decide +kernel
theorem d_M_costNow_59 : decode m_M_costNow.2.1 59 = .ok (.iaload, 1) := by decide +kernel
theorem d_M_costNow_60 : decode m_M_costNow.2.1 60 = .ok (.iload_n 1, 1) := by decide +kernel
theorem d_M_costNow_61 : decode m_M_costNow.2.1 61 = .ok (.if_icmp .ne 25, 3) := by decide +kernel
theorem d_M_costNow_64 : decode m_M_costNow.2.1 64 = .ok (.aload_n 0, 1) := by decide +kernel
theorem d_M_costNow_65 : decode m_M_costNow.2.1 65 = .ok (.getfield 50, 3) := by decide +kernel
theorem d_M_costNow_68 : decode m_M_costNow.2.1 68 = .ok (.iload_n 1, 1) := by decide +kernel
theorem d_M_costNow_69 : decode m_M_costNow.2.1 69 = .ok (.iaload, 1) := by decide +kernel
theorem d_M_costNow_70 : decode m_M_costNow.2.1 70 = .ok (.aload_n 0, 1) := by decide +kernel
theorem d_M_costNow_71 : decode m_M_costNow.2.1 71 = .ok (.getfield 16, 3) := by decide +kernel
theorem d_M_costNow_74 : decode m_M_costNow.2.1 74 = .ok (.iload_n 3, 1) := by decide +kernel
theorem d_M_costNow_75 : decode m_M_costNow.2.1 75 = .ok (.iaload, 1) := by decide +kernel
theorem d_M_costNow_76 : decode m_M_costNow.2.1 76 = .ok (.invokestatic 120, 3) := by decide +kernel
theorem d_M_costNow_79 : decode m_M_costNow.2.1 79 = .ok (.ifCond .eq 7, 3) := by decide +kernel
theorem d_M_costNow_82 : decode m_M_costNow.2.1 82 = .ok (.iconst 1, 1) := by decide +kernel
theorem d_M_costNow_83 : decode m_M_costNow.2.1 83 = .ok (.goto 4, 3) := by decide +kernel
theorem d_M_costNow_86 : decode m_M_costNow.2.1 86 = .ok (.iconst 0, 1) := by decide +kernel
theorem d_M_costNow_87 : decode m_M_costNow.2.1 87 = .ok (.istore 4, 2) := by decide +kernel
theorem d_M_costNow_89 : decode m_M_costNow.2.1 89 = .ok (.iload 4, 2) := by decide +kernel
theorem d_M_costNow_91 : decode m_M_costNow.2.1 91 = .ok (.ifCond .eq 43, 3) := by decide +kernel
theorem d_M_costNow_94 : decode m_M_costNow.2.1 94 = .ok (.iload_n 2, 1) := by decide +kernel
theorem d_M_costNow_95 : decode m_M_costNow.2.1 95 = .ok (.aload_n 0, 1) := by decide +kernel
theorem d_M_costNow_96 : decode m_M_costNow.2.1 96 = .ok (.getfield 22, 3) := by decide +kernel
theorem d_M_costNow_99 : decode m_M_costNow.2.1 99 = .ok (.bipush 16, 2) := by decide +kernel
theorem d_M_costNow_101 : decode m_M_costNow.2.1 101 = .ok (.iload_n 3, 1) := by decide +kernel
theorem d_M_costNow_102 : decode m_M_costNow.2.1 102 = .ok (.imul, 1) := by decide +kernel
theorem d_M_costNow_103 : decode m_M_costNow.2.1 103 = .ok (.iconst 4, 1) := by decide +kernel
theorem d_M_costNow_104 : decode m_M_costNow.2.1 104 = .ok (.aload_n 0, 1) := by decide +kernel
theorem d_M_costNow_105 : decode m_M_costNow.2.1 105 = .ok (.getfield 92, 3) := by decide +kernel
theorem d_M_costNow_108 : decode m_M_costNow.2.1 108 = .ok (.aload_n 0, 1) := by decide +kernel
theorem d_M_costNow_109 : decode m_M_costNow.2.1 109 = .ok (.getfield 16, 3) := by decide +kernel
theorem d_M_costNow_112 : decode m_M_costNow.2.1 112 = .ok (.iload_n 3, 1) := by decide +kernel
theorem d_M_costNow_113 : decode m_M_costNow.2.1 113 = .ok (.iaload, 1) := by decide +kernel
theorem d_M_costNow_114 : decode m_M_costNow.2.1 114 = .ok (.iaload, 1) := by decide +kernel
theorem d_M_costNow_115 : decode m_M_costNow.2.1 115 = .ok (.imul, 1) := by decide +kernel
theorem d_M_costNow_116 : decode m_M_costNow.2.1 116 = .ok (.iadd, 1) := by decide +kernel
theorem d_M_costNow_117 : decode m_M_costNow.2.1 117 = .ok (.aload_n 0, 1) := by decide +kernel
theorem d_M_costNow_118 : decode m_M_costNow.2.1 118 = .ok (.getfield 92, 3) := by decide +kernel
theorem d_M_costNow_121 : decode m_M_costNow.2.1 121 = .ok (.aload_n 0, 1) := by decide +kernel
theorem d_M_costNow_122 : decode m_M_costNow.2.1 122 = .ok (.getfield 19, 3) := by decide +kernel
theorem d_M_costNow_125 : decode m_M_costNow.2.1 125 = .ok (.iload_n 3, 1) := by decide +kernel
theorem d_M_costNow_126 : decode m_M_costNow.2.1 126 = .ok (.iaload, 1) := by decide +kernel
theorem d_M_costNow_127 : decode m_M_costNow.2.1 127 = .ok (.iaload, 1) := by decide +kernel
theorem d_M_costNow_128 : decode m_M_costNow.2.1 128 = .ok (.iadd, 1) := by decide +kernel
theorem d_M_costNow_129 : decode m_M_costNow.2.1 129 = .ok (.iaload, 1) := by decide +kernel
theorem d_M_costNow_130 : decode m_M_costNow.2.1 130 = .ok (.iadd, 1) := by decide +kernel
theorem d_M_costNow_131 : decode m_M_costNow.2.1 131 = .ok (.goto 4, 3) := by decide +kernel
theorem d_M_costNow_134 : decode m_M_costNow.2.1 134 = .ok (.iload_n 2, 1) := by decide +kernel
theorem d_M_costNow_135 : decode m_M_costNow.2.1 135 = .ok (.istore_n 2, 1) := by decide +kernel
theorem d_M_costNow_136 : decode m_M_costNow.2.1 136 = .ok (.iinc 3 1, 3) := by decide +kernel
theorem d_M_costNow_139 : decode m_M_costNow.2.1 139 = .ok (.goto (-121), 3) := by decide +kernel
theorem d_M_costNow_142 : decode m_M_costNow.2.1 142 = .ok (.iconst 0, 1) := by decide +kernel
theorem d_M_costNow_143 : decode m_M_costNow.2.1 143 = .ok (.istore_n 3, 1) := by decide +kernel
theorem d_M_costNow_144 : decode m_M_costNow.2.1 144 = .ok (.iload_n 3, 1) := by decide +kernel
theorem d_M_costNow_145 : decode m_M_costNow.2.1 145 = .ok (.aload_n 0, 1) := by decide +kernel
theorem d_M_costNow_146 : decode m_M_costNow.2.1 146 = .ok (.getfield 62, 3) := by decide +kernel
theorem d_M_costNow_149 : decode m_M_costNow.2.1 149 = .ok (.iload_n 1, 1) := by decide +kernel
theorem d_M_costNow_150 : decode m_M_costNow.2.1 150 = .ok (.iaload, 1) := by decide +kernel
theorem d_M_costNow_151 : decode m_M_costNow.2.1 151 = .ok (.if_icmp .ge 46, 3) := by decide +kernel
theorem d_M_costNow_154 : decode m_M_costNow.2.1 154 = .ok (.bipush 8, 2) := by decide +kernel
theorem d_M_costNow_156 : decode m_M_costNow.2.1 156 = .ok (.aload_n 0, 1) := by decide +kernel
theorem d_M_costNow_157 : decode m_M_costNow.2.1 157 = .ok (.getfield 59, 3) := by decide +kernel
theorem d_M_costNow_160 : decode m_M_costNow.2.1 160 = .ok (.bipush 8, 2) := by decide +kernel
theorem d_M_costNow_162 : decode m_M_costNow.2.1 162 = .ok (.iload_n 1, 1) := by decide +kernel
theorem d_M_costNow_163 : decode m_M_costNow.2.1 163 = .ok (.imul, 1) := by decide +kernel
theorem d_M_costNow_164 : decode m_M_costNow.2.1 164 = .ok (.iload_n 3, 1) := by decide +kernel
theorem d_M_costNow_165 : decode m_M_costNow.2.1 165 = .ok (.iadd, 1) := by decide +kernel
theorem d_M_costNow_166 : decode m_M_costNow.2.1 166 = .ok (.iaload, 1) := by decide +kernel
theorem d_M_costNow_167 : decode m_M_costNow.2.1 167 = .ok (.iadd, 1) := by decide +kernel
theorem d_M_costNow_168 : decode m_M_costNow.2.1 168 = .ok (.istore 4, 2) := by decide +kernel
theorem d_M_costNow_170 : decode m_M_costNow.2.1 170 = .ok (.iload_n 2, 1) := by decide +kernel
theorem d_M_costNow_171 : decode m_M_costNow.2.1 171 = .ok (.aload_n 0, 1) := by decide +kernel
theorem d_M_costNow_172 : decode m_M_costNow.2.1 172 = .ok (.getfield 77, 3) := by decide +kernel
theorem d_M_costNow_175 : decode m_M_costNow.2.1 175 = .ok (.sipush 256, 3) := by decide +kernel
theorem d_M_costNow_178 : decode m_M_costNow.2.1 178 = .ok (.iload 4, 2) := by decide +kernel
theorem d_M_costNow_180 : decode m_M_costNow.2.1 180 = .ok (.imul, 1) := by decide +kernel
theorem d_M_costNow_181 : decode m_M_costNow.2.1 181 = .ok (.aload_n 0, 1) := by decide +kernel
theorem d_M_costNow_182 : decode m_M_costNow.2.1 182 = .ok (.iload 4, 2) := by decide +kernel
theorem d_M_costNow_184 : decode m_M_costNow.2.1 184 = .ok (.invokevirtual 190, 3) := by decide +kernel
theorem d_M_costNow_187 : decode m_M_costNow.2.1 187 = .ok (.iadd, 1) := by decide +kernel
theorem d_M_costNow_188 : decode m_M_costNow.2.1 188 = .ok (.iaload, 1) := by decide +kernel
theorem d_M_costNow_189 : decode m_M_costNow.2.1 189 = .ok (.iadd, 1) := by decide +kernel
theorem d_M_costNow_190 : decode m_M_costNow.2.1 190 = .ok (.istore_n 2, 1) := by decide +kernel
theorem d_M_costNow_191 : decode m_M_costNow.2.1 191 = .ok (.iinc 3 1, 3) := by decide +kernel
theorem d_M_costNow_194 : decode m_M_costNow.2.1 194 = .ok (.goto (-50), 3) := by decide +kernel
theorem d_M_costNow_197 : decode m_M_costNow.2.1 197 = .ok (.iload_n 2, 1) := by decide +kernel
theorem d_M_costNow_198 : decode m_M_costNow.2.1 198 = .ok (.ldc 145, 2) := by decide +kernel
theorem d_M_costNow_200 : decode m_M_costNow.2.1 200 = .ok (.if_icmp .le 8, 3) := by decide +kernel
theorem d_M_costNow_203 : decode m_M_costNow.2.1 203 = .ok (.ldc 145, 2) := by decide +kernel
theorem d_M_costNow_205 : decode m_M_costNow.2.1 205 = .ok (.goto 4, 3) := by decide +kernel
theorem d_M_costNow_208 : decode m_M_costNow.2.1 208 = .ok (.iload_n 2, 1) := by decide +kernel
theorem d_M_costNow_209 : decode m_M_costNow.2.1 209 = .ok (.ireturn, 1) := by decide +kernel
theorem d_M_placeIn_0 : decode m_M_placeIn.2.1 0 = .ok (.iconst 0, 1) := by decide +kernel
theorem d_M_placeIn_1 : decode m_M_placeIn.2.1 1 = .ok (.istore_n 2, 1) := by decide +kernel
theorem d_M_placeIn_2 : decode m_M_placeIn.2.1 2 = .ok (.iconst 1, 1) := by decide +kernel
theorem d_M_placeIn_3 : decode m_M_placeIn.2.1 3 = .ok (.istore_n 3, 1) := by decide +kernel
theorem d_M_placeIn_4 : decode m_M_placeIn.2.1 4 = .ok (.iconst 0, 1) := by decide +kernel
theorem d_M_placeIn_5 : decode m_M_placeIn.2.1 5 = .ok (.istore 4, 2) := by decide +kernel
theorem d_M_placeIn_7 : decode m_M_placeIn.2.1 7 = .ok (.iload 4, 2) := by decide +kernel
theorem d_M_placeIn_9 : decode m_M_placeIn.2.1 9 = .ok (.bipush 8, 2) := by decide +kernel
theorem d_M_placeIn_11 : decode m_M_placeIn.2.1 11 = .ok (.if_icmp .ge 45, 3) := by decide +kernel
theorem d_M_placeIn_14 : decode m_M_placeIn.2.1 14 = .ok (.aload_n 0, 1) := by decide +kernel
theorem d_M_placeIn_15 : decode m_M_placeIn.2.1 15 = .ok (.getfield 71, 3) := by decide +kernel
theorem d_M_placeIn_18 : decode m_M_placeIn.2.1 18 = .ok (.iload_n 1, 1) := by decide +kernel
theorem d_M_placeIn_19 : decode m_M_placeIn.2.1 19 = .ok (.iaload, 1) := by decide +kernel
theorem d_M_placeIn_20 : decode m_M_placeIn.2.1 20 = .ok (.iload 4, 2) := by decide +kernel
theorem d_M_placeIn_22 : decode m_M_placeIn.2.1 22 = .ok (.invokestatic 120, 3) := by decide +kernel
theorem d_M_placeIn_25 : decode m_M_placeIn.2.1 25 = .ok (.ifCond .eq 25, 3) := by decide +kernel
theorem d_M_placeIn_28 : decode m_M_placeIn.2.1 28 = .ok (.iload_n 2, 1) := by decide +kernel
theorem d_M_placeIn_29 : decode m_M_placeIn.2.1 29 = .ok (.iload_n 3, 1) := by decide +kernel
theorem d_M_placeIn_30 : decode m_M_placeIn.2.1 30 = .ok (.aload_n 0, 1) := by decide +kernel
theorem d_M_placeIn_31 : decode m_M_placeIn.2.1 31 = .ok (.getfield 92, 3) := by decide +kernel
theorem d_M_placeIn_34 : decode m_M_placeIn.2.1 34 = .ok (.iload 4, 2) := by decide +kernel
theorem d_M_placeIn_36 : decode m_M_placeIn.2.1 36 = .ok (.iaload, 1) := by decide +kernel
theorem d_M_placeIn_37 : decode m_M_placeIn.2.1 37 = .ok (.imul, 1) := by decide +kernel
theorem d_M_placeIn_38 : decode m_M_placeIn.2.1 38 = .ok (.iadd, 1) := by decide +kernel
theorem d_M_placeIn_39 : decode m_M_placeIn.2.1 39 = .ok (.istore_n 2, 1) := by decide +kernel
theorem d_M_placeIn_40 : decode m_M_placeIn.2.1 40 = .ok (.iload_n 3, 1) := by decide +kernel
theorem d_M_placeIn_41 : decode m_M_placeIn.2.1 41 = .ok (.aload_n 0, 1) := by decide +kernel
theorem d_M_placeIn_42 : decode m_M_placeIn.2.1 42 = .ok (.getfield 7, 3) := by decide +kernel
theorem d_M_placeIn_45 : decode m_M_placeIn.2.1 45 = .ok (.iload 4, 2) := by decide +kernel
theorem d_M_placeIn_47 : decode m_M_placeIn.2.1 47 = .ok (.iaload, 1) := by decide +kernel
theorem d_M_placeIn_48 : decode m_M_placeIn.2.1 48 = .ok (.imul, 1) := by decide +kernel
theorem d_M_placeIn_49 : decode m_M_placeIn.2.1 49 = .ok (.istore_n 3, 1) := by decide +kernel
theorem d_M_placeIn_50 : decode m_M_placeIn.2.1 50 = .ok (.iinc 4 1, 3) := by decide +kernel
theorem d_M_placeIn_53 : decode m_M_placeIn.2.1 53 = .ok (.goto (-46), 3) := by decide +kernel
theorem d_M_placeIn_56 : decode m_M_placeIn.2.1 56 = .ok (.iload_n 2, 1) := by decide +kernel
theorem d_M_placeIn_57 : decode m_M_placeIn.2.1 57 = .ok (.ireturn, 1) := by decide +kernel
theorem d_M_postTable_0 : decode m_M_postTable.2.1 0 = .ok (.aload_n 0, 1) := by decide +kernel
theorem d_M_postTable_1 : decode m_M_postTable.2.1 1 = .ok (.iconst 2, 1) := by decide +kernel
theorem d_M_postTable_2 : decode m_M_postTable.2.1 2 = .ok (.iload_n 1, 1) := by decide +kernel
theorem d_M_postTable_3 : decode m_M_postTable.2.1 3 = .ok (.aload_n 0, 1) := by decide +kernel
theorem d_M_postTable_4 : decode m_M_postTable.2.1 4 = .ok (.getfield 47, 3) := by decide +kernel
theorem d_M_postTable_7 : decode m_M_postTable.2.1 7 = .ok (.iload_n 1, 1) := by decide +kernel
theorem d_M_postTable_8 : decode m_M_postTable.2.1 8 = .ok (.iaload, 1) := by decide +kernel
theorem d_M_postTable_9 : decode m_M_postTable.2.1 9 = .ok (.aload_n 0, 1) := by decide +kernel
theorem d_M_postTable_10 : decode m_M_postTable.2.1 10 = .ok (.getfield 68, 3) := by decide +kernel
theorem d_M_postTable_13 : decode m_M_postTable.2.1 13 = .ok (.iload_n 1, 1) := by decide +kernel
theorem d_M_postTable_14 : decode m_M_postTable.2.1 14 = .ok (.iaload, 1) := by decide +kernel
theorem d_M_postTable_15 : decode m_M_postTable.2.1 15 = .ok (.invokevirtual 179, 3) := by decide +kernel
theorem d_M_postTable_18 : decode m_M_postTable.2.1 18 = .ok (.istore_n 2, 1) := by decide +kernel
theorem d_M_postTable_19 : decode m_M_postTable.2.1 19 = .ok (.iload_n 2, 1) := by decide +kernel
theorem d_M_postTable_20 : decode m_M_postTable.2.1 20 = .ok (.ifCond .lt 69, 3) := by decide +kernel
theorem d_M_postTable_23 : decode m_M_postTable.2.1 23 = .ok (.aload_n 0, 1) := by decide +kernel
theorem d_M_postTable_24 : decode m_M_postTable.2.1 24 = .ok (.getfield 110, 3) := by decide +kernel
theorem d_M_postTable_27 : decode m_M_postTable.2.1 27 = .ok (.iload_n 2, 1) := by decide +kernel
theorem d_M_postTable_28 : decode m_M_postTable.2.1 28 = .ok (.aload_n 0, 1) := by decide +kernel
theorem d_M_postTable_29 : decode m_M_postTable.2.1 29 = .ok (.getfield 71, 3) := by decide +kernel
theorem d_M_postTable_32 : decode m_M_postTable.2.1 32 = .ok (.iload_n 1, 1) := by decide +kernel
theorem d_M_postTable_33 : decode m_M_postTable.2.1 33 = .ok (.iaload, 1) := by decide +kernel
theorem d_M_postTable_34 : decode m_M_postTable.2.1 34 = .ok (.iastore, 1) := by decide +kernel
theorem d_M_postTable_35 : decode m_M_postTable.2.1 35 = .ok (.aload_n 0, 1) := by decide +kernel
theorem d_M_postTable_36 : decode m_M_postTable.2.1 36 = .ok (.getfield 107, 3) := by decide +kernel
theorem d_M_postTable_39 : decode m_M_postTable.2.1 39 = .ok (.iload_n 2, 1) := by decide +kernel
theorem d_M_postTable_40 : decode m_M_postTable.2.1 40 = .ok (.aload_n 0, 1) := by decide +kernel
theorem d_M_postTable_41 : decode m_M_postTable.2.1 41 = .ok (.getfield 74, 3) := by decide +kernel
theorem d_M_postTable_44 : decode m_M_postTable.2.1 44 = .ok (.iload_n 1, 1) := by decide +kernel
theorem d_M_postTable_45 : decode m_M_postTable.2.1 45 = .ok (.iaload, 1) := by decide +kernel
theorem d_M_postTable_46 : decode m_M_postTable.2.1 46 = .ok (.iastore, 1) := by decide +kernel
theorem d_M_postTable_47 : decode m_M_postTable.2.1 47 = .ok (.iconst 0, 1) := by decide +kernel
theorem d_M_postTable_48 : decode m_M_postTable.2.1 48 = .ok (.istore_n 3, 1) := by decide +kernel
theorem d_M_postTable_49 : decode m_M_postTable.2.1 49 = .ok (.iload_n 3, 1) := by decide +kernel
theorem d_M_postTable_50 : decode m_M_postTable.2.1 50 = .ok (.aload_n 0, 1) := by decide +kernel
theorem d_M_postTable_51 : decode m_M_postTable.2.1 51 = .ok (.getfield 107, 3) := by decide +kernel
theorem d_M_postTable_54 : decode m_M_postTable.2.1 54 = .ok (.iload_n 2, 1) := by decide +kernel
theorem d_M_postTable_55 : decode m_M_postTable.2.1 55 = .ok (.iaload, 1) := by decide +kernel
theorem d_M_postTable_56 : decode m_M_postTable.2.1 56 = .ok (.if_icmp .ge 33, 3) := by decide +kernel
theorem d_M_postTable_59 : decode m_M_postTable.2.1 59 = .ok (.aload_n 0, 1) := by decide +kernel
theorem d_M_postTable_60 : decode m_M_postTable.2.1 60 = .ok (.getfield 113, 3) := by decide +kernel
theorem d_M_postTable_63 : decode m_M_postTable.2.1 63 = .ok (.sipush 256, 3) := by decide +kernel
theorem d_M_postTable_66 : decode m_M_postTable.2.1 66 = .ok (.iload_n 2, 1) := by decide +kernel
theorem d_M_postTable_67 : decode m_M_postTable.2.1 67 = .ok (.imul, 1) := by decide +kernel
theorem d_M_postTable_68 : decode m_M_postTable.2.1 68 = .ok (.iload_n 3, 1) := by decide +kernel
theorem d_M_postTable_69 : decode m_M_postTable.2.1 69 = .ok (.iadd, 1) := by decide +kernel
theorem d_M_postTable_70 : decode m_M_postTable.2.1 70 = .ok (.aload_n 0, 1) := by decide +kernel
theorem d_M_postTable_71 : decode m_M_postTable.2.1 71 = .ok (.getfield 77, 3) := by decide +kernel
theorem d_M_postTable_74 : decode m_M_postTable.2.1 74 = .ok (.sipush 256, 3) := by decide +kernel
theorem d_M_postTable_77 : decode m_M_postTable.2.1 77 = .ok (.iload_n 1, 1) := by decide +kernel
theorem d_M_postTable_78 : decode m_M_postTable.2.1 78 = .ok (.imul, 1) := by decide +kernel
theorem d_M_postTable_79 : decode m_M_postTable.2.1 79 = .ok (.iload_n 3, 1) := by decide +kernel
theorem d_M_postTable_80 : decode m_M_postTable.2.1 80 = .ok (.iadd, 1) := by decide +kernel
theorem d_M_postTable_81 : decode m_M_postTable.2.1 81 = .ok (.iaload, 1) := by decide +kernel
theorem d_M_postTable_82 : decode m_M_postTable.2.1 82 = .ok (.iastore, 1) := by decide +kernel
theorem d_M_postTable_83 : decode m_M_postTable.2.1 83 = .ok (.iinc 3 1, 3) := by decide +kernel
theorem d_M_postTable_86 : decode m_M_postTable.2.1 86 = .ok (.goto (-37), 3) := by decide +kernel
theorem d_M_postTable_89 : decode m_M_postTable.2.1 89 = .ok (.return_, 1) := by decide +kernel
theorem d_M_choose_0 : decode m_M_choose.2.1 0 = .ok (.iconst 0, 1) := by decide +kernel
theorem d_M_choose_1 : decode m_M_choose.2.1 1 = .ok (.istore_n 3, 1) := by decide +kernel
theorem d_M_choose_2 : decode m_M_choose.2.1 2 = .ok (.iload_n 3, 1) := by decide +kernel
theorem d_M_choose_3 : decode m_M_choose.2.1 3 = .ok (.bipush 8, 2) := by decide +kernel
theorem d_M_choose_5 : decode m_M_choose.2.1 5 = .ok (.if_icmp .ge 44, 3) := by decide +kernel
theorem d_M_choose_8 : decode m_M_choose.2.1 8 = .ok (.aload_n 0, 1) := by decide +kernel
theorem d_M_choose_9 : decode m_M_choose.2.1 9 = .ok (.getfield 92, 3) := by decide +kernel
theorem d_M_choose_12 : decode m_M_choose.2.1 12 = .ok (.iload_n 3, 1) := by decide +kernel
theorem d_M_choose_13 : decode m_M_choose.2.1 13 = .ok (.aload_n 0, 1) := by decide +kernel
theorem d_M_choose_14 : decode m_M_choose.2.1 14 = .ok (.getfield 89, 3) := by decide +kernel
theorem d_M_choose_17 : decode m_M_choose.2.1 17 = .ok (.bipush 8, 2) := by decide +kernel
theorem d_M_choose_19 : decode m_M_choose.2.1 19 = .ok (.iload_n 1, 1) := by decide +kernel
theorem d_M_choose_20 : decode m_M_choose.2.1 20 = .ok (.imul, 1) := by decide +kernel
theorem d_M_choose_21 : decode m_M_choose.2.1 21 = .ok (.iload_n 3, 1) := by decide +kernel
theorem d_M_choose_22 : decode m_M_choose.2.1 22 = .ok (.iadd, 1) := by decide +kernel
theorem d_M_choose_23 : decode m_M_choose.2.1 23 = .ok (.iaload, 1) := by decide +kernel
theorem d_M_choose_24 : decode m_M_choose.2.1 24 = .ok (.ifCond .ge 7, 3) := by decide +kernel
theorem d_M_choose_27 : decode m_M_choose.2.1 27 = .ok (.iconst 0, 1) := by decide +kernel
theorem d_M_choose_28 : decode m_M_choose.2.1 28 = .ok (.goto 14, 3) := by decide +kernel
theorem d_M_choose_31 : decode m_M_choose.2.1 31 = .ok (.aload_n 0, 1) := by decide +kernel
theorem d_M_choose_32 : decode m_M_choose.2.1 32 = .ok (.getfield 89, 3) := by decide +kernel
theorem d_M_choose_35 : decode m_M_choose.2.1 35 = .ok (.bipush 8, 2) := by decide +kernel
theorem d_M_choose_37 : decode m_M_choose.2.1 37 = .ok (.iload_n 1, 1) := by decide +kernel
theorem d_M_choose_38 : decode m_M_choose.2.1 38 = .ok (.imul, 1) := by decide +kernel
theorem d_M_choose_39 : decode m_M_choose.2.1 39 = .ok (.iload_n 3, 1) := by decide +kernel
theorem d_M_choose_40 : decode m_M_choose.2.1 40 = .ok (.iadd, 1) := by decide +kernel
theorem d_M_choose_41 : decode m_M_choose.2.1 41 = .ok (.iaload, 1) := by decide +kernel
theorem d_M_choose_42 : decode m_M_choose.2.1 42 = .ok (.iastore, 1) := by decide +kernel
theorem d_M_choose_43 : decode m_M_choose.2.1 43 = .ok (.iinc 3 1, 3) := by decide +kernel
theorem d_M_choose_46 : decode m_M_choose.2.1 46 = .ok (.goto (-44), 3) := by decide +kernel
theorem d_M_choose_49 : decode m_M_choose.2.1 49 = .ok (.aload_n 0, 1) := by decide +kernel
theorem d_M_choose_50 : decode m_M_choose.2.1 50 = .ok (.getfield 86, 3) := by decide +kernel
theorem d_M_choose_53 : decode m_M_choose.2.1 53 = .ok (.iload_n 1, 1) := by decide +kernel
theorem d_M_choose_54 : decode m_M_choose.2.1 54 = .ok (.aload_n 0, 1) := by decide +kernel
theorem d_M_choose_55 : decode m_M_choose.2.1 55 = .ok (.iload_n 1, 1) := by decide +kernel
theorem d_M_choose_56 : decode m_M_choose.2.1 56 = .ok (.invokevirtual 202, 3) := by decide +kernel
theorem d_M_choose_59 : decode m_M_choose.2.1 59 = .ok (.iastore, 1) := by decide +kernel
theorem d_M_choose_60 : decode m_M_choose.2.1 60 = .ok (.aload_n 0, 1) := by decide +kernel
theorem d_M_choose_61 : decode m_M_choose.2.1 61 = .ok (.getfield 89, 3) := by decide +kernel
theorem d_M_choose_64 : decode m_M_choose.2.1 64 = .ok (.bipush 8, 2) := by decide +kernel
theorem d_M_choose_66 : decode m_M_choose.2.1 66 = .ok (.iload_n 1, 1) := by decide +kernel
theorem d_M_choose_67 : decode m_M_choose.2.1 67 = .ok (.imul, 1) := by decide +kernel
theorem d_M_choose_68 : decode m_M_choose.2.1 68 = .ok (.iload_n 1, 1) := by decide +kernel
theorem d_M_choose_69 : decode m_M_choose.2.1 69 = .ok (.iadd, 1) := by decide +kernel
theorem d_M_choose_70 : decode m_M_choose.2.1 70 = .ok (.aload_n 0, 1) := by decide +kernel
theorem d_M_choose_71 : decode m_M_choose.2.1 71 = .ok (.getfield 86, 3) := by decide +kernel
theorem d_M_choose_74 : decode m_M_choose.2.1 74 = .ok (.iload_n 1, 1) := by decide +kernel
theorem d_M_choose_75 : decode m_M_choose.2.1 75 = .ok (.iaload, 1) := by decide +kernel
theorem d_M_choose_76 : decode m_M_choose.2.1 76 = .ok (.iastore, 1) := by decide +kernel
theorem d_M_choose_77 : decode m_M_choose.2.1 77 = .ok (.aload_n 0, 1) := by decide +kernel
theorem d_M_choose_78 : decode m_M_choose.2.1 78 = .ok (.getfield 80, 3) := by decide +kernel
theorem d_M_choose_81 : decode m_M_choose.2.1 81 = .ok (.iload_n 1, 1) := by decide +kernel
theorem d_M_choose_82 : decode m_M_choose.2.1 82 = .ok (.iload_n 2, 1) := by decide +kernel
theorem d_M_choose_83 : decode m_M_choose.2.1 83 = .ok (.iastore, 1) := by decide +kernel
theorem d_M_choose_84 : decode m_M_choose.2.1 84 = .ok (.aload_n 0, 1) := by decide +kernel
theorem d_M_choose_85 : decode m_M_choose.2.1 85 = .ok (.iload_n 1, 1) := by decide +kernel
theorem d_M_choose_86 : decode m_M_choose.2.1 86 = .ok (.invokevirtual 220, 3) := by decide +kernel
theorem d_M_choose_89 : decode m_M_choose.2.1 89 = .ok (.return_, 1) := by decide +kernel
theorem d_M_postChoices_0 : decode m_M_postChoices.2.1 0 = .ok (.iconst 0, 1) := by decide +kernel
theorem d_M_postChoices_1 : decode m_M_postChoices.2.1 1 = .ok (.istore_n 2, 1) := by decide +kernel
theorem d_M_postChoices_2 : decode m_M_postChoices.2.1 2 = .ok (.iload_n 2, 1) := by decide +kernel
theorem d_M_postChoices_3 : decode m_M_postChoices.2.1 3 = .ok (.aload_n 0, 1) := by decide +kernel
theorem d_M_postChoices_4 : decode m_M_postChoices.2.1 4 = .ok (.getfield 62, 3) := by decide +kernel
theorem d_M_postChoices_7 : decode m_M_postChoices.2.1 7 = .ok (.iload_n 1, 1) := by decide +kernel
theorem d_M_postChoices_8 : decode m_M_postChoices.2.1 8 = .ok (.iaload, 1) := by decide +kernel
theorem d_M_postChoices_9 : decode m_M_postChoices.2.1 9 = .ok (.if_icmp .ge 116, 3) := by decide +kernel
theorem d_M_postChoices_12 : decode m_M_postChoices.2.1 12 = .ok (.aload_n 0, 1) := by decide +kernel
theorem d_M_postChoices_13 : decode m_M_postChoices.2.1 13 = .ok (.iconst 3, 1) := by decide +kernel
theorem d_M_postChoices_14 : decode m_M_postChoices.2.1 14 = .ok (.iload_n 1, 1) := by decide +kernel
theorem d_M_postChoices_15 : decode m_M_postChoices.2.1 15 = .ok (.aload_n 0, 1) := by decide +kernel
theorem d_M_postChoices_16 : decode m_M_postChoices.2.1 16 = .ok (.getfield 59, 3) := by decide +kernel
theorem d_M_postChoices_19 : decode m_M_postChoices.2.1 19 = .ok (.bipush 8, 2) := by decide +kernel
theorem d_M_postChoices_21 : decode m_M_postChoices.2.1 21 = .ok (.iload_n 1, 1) := by decide +kernel
theorem d_M_postChoices_22 : decode m_M_postChoices.2.1 22 = .ok (.imul, 1) := by decide +kernel
theorem d_M_postChoices_23 : decode m_M_postChoices.2.1 23 = .ok (.iload_n 2, 1) := by decide +kernel
theorem d_M_postChoices_24 : decode m_M_postChoices.2.1 24 = .ok (.iadd, 1) := by decide +kernel
theorem d_M_postChoices_25 : decode m_M_postChoices.2.1 25 = .ok (.iaload, 1) := by decide +kernel
theorem d_M_postChoices_26 : decode m_M_postChoices.2.1 26 = .ok (.aload_n 0, 1) := by decide +kernel
theorem d_M_postChoices_27 : decode m_M_postChoices.2.1 27 = .ok (.getfield 80, 3) := by decide +kernel
theorem d_M_postChoices_30 : decode m_M_postChoices.2.1 30 = .ok (.iload_n 1, 1) := by decide +kernel
theorem d_M_postChoices_31 : decode m_M_postChoices.2.1 31 = .ok (.iaload, 1) := by decide +kernel
theorem d_M_postChoices_32 : decode m_M_postChoices.2.1 32 = .ok (.invokevirtual 179, 3) := by decide +kernel
theorem d_M_postChoices_35 : decode m_M_postChoices.2.1 35 = .ok (.istore_n 3, 1) := by decide +kernel
theorem d_M_postChoices_36 : decode m_M_postChoices.2.1 36 = .ok (.iconst 0, 1) := by decide +kernel
theorem d_M_postChoices_37 : decode m_M_postChoices.2.1 37 = .ok (.istore 4, 2) := by decide +kernel
theorem d_M_postChoices_39 : decode m_M_postChoices.2.1 39 = .ok (.iload 4, 2) := by decide +kernel
theorem d_M_postChoices_41 : decode m_M_postChoices.2.1 41 = .ok (.bipush 8, 2) := by decide +kernel
theorem d_M_postChoices_43 : decode m_M_postChoices.2.1 43 = .ok (.if_icmp .ge 76, 3) := by decide +kernel
theorem d_M_postChoices_46 : decode m_M_postChoices.2.1 46 = .ok (.iload_n 3, 1) := by decide +kernel
theorem d_M_postChoices_47 : decode m_M_postChoices.2.1 47 = .ok (.ifCond .lt 72, 3) := by decide +kernel
theorem d_M_postChoices_50 : decode m_M_postChoices.2.1 50 = .ok (.aload_n 0, 1) := by decide +kernel
theorem d_M_postChoices_51 : decode m_M_postChoices.2.1 51 = .ok (.getfield 113, 3) := by decide +kernel
theorem d_M_postChoices_54 : decode m_M_postChoices.2.1 54 = .ok (.sipush 256, 3) := by decide +kernel
theorem d_M_postChoices_57 : decode m_M_postChoices.2.1 57 = .ok (.iload_n 3, 1) := by decide +kernel
theorem d_M_postChoices_58 : decode m_M_postChoices.2.1 58 = .ok (.imul, 1) := by decide +kernel
theorem d_M_postChoices_59 : decode m_M_postChoices.2.1 59 = .ok (.iload 4, 2) := by decide +kernel
theorem d_M_postChoices_61 : decode m_M_postChoices.2.1 61 = .ok (.iadd, 1) := by decide +kernel
theorem d_M_postChoices_62 : decode m_M_postChoices.2.1 62 = .ok (.aload_n 0, 1) := by decide +kernel
theorem d_M_postChoices_63 : decode m_M_postChoices.2.1 63 = .ok (.getfield 89, 3) := by decide +kernel
theorem d_M_postChoices_66 : decode m_M_postChoices.2.1 66 = .ok (.bipush 8, 2) := by decide +kernel
theorem d_M_postChoices_68 : decode m_M_postChoices.2.1 68 = .ok (.iload_n 1, 1) := by decide +kernel
theorem d_M_postChoices_69 : decode m_M_postChoices.2.1 69 = .ok (.imul, 1) := by decide +kernel
theorem d_M_postChoices_70 : decode m_M_postChoices.2.1 70 = .ok (.iload 4, 2) := by decide +kernel
theorem d_M_postChoices_72 : decode m_M_postChoices.2.1 72 = .ok (.iadd, 1) := by decide +kernel
theorem d_M_postChoices_73 : decode m_M_postChoices.2.1 73 = .ok (.iaload, 1) := by decide +kernel
theorem d_M_postChoices_74 : decode m_M_postChoices.2.1 74 = .ok (.iastore, 1) := by decide +kernel
theorem d_M_postChoices_75 : decode m_M_postChoices.2.1 75 = .ok (.aload_n 0, 1) := by decide +kernel
theorem d_M_postChoices_76 : decode m_M_postChoices.2.1 76 = .ok (.getfield 107, 3) := by decide +kernel
theorem d_M_postChoices_79 : decode m_M_postChoices.2.1 79 = .ok (.iload_n 3, 1) := by decide +kernel
theorem d_M_postChoices_80 : decode m_M_postChoices.2.1 80 = .ok (.aload_n 0, 1) := by decide +kernel
theorem d_M_postChoices_81 : decode m_M_postChoices.2.1 81 = .ok (.getfield 89, 3) := by decide +kernel
theorem d_M_postChoices_84 : decode m_M_postChoices.2.1 84 = .ok (.bipush 8, 2) := by decide +kernel
theorem d_M_postChoices_86 : decode m_M_postChoices.2.1 86 = .ok (.iload_n 1, 1) := by decide +kernel
theorem d_M_postChoices_87 : decode m_M_postChoices.2.1 87 = .ok (.imul, 1) := by decide +kernel
theorem d_M_postChoices_88 : decode m_M_postChoices.2.1 88 = .ok (.iload 4, 2) := by decide +kernel
theorem d_M_postChoices_90 : decode m_M_postChoices.2.1 90 = .ok (.iadd, 1) := by decide +kernel
theorem d_M_postChoices_91 : decode m_M_postChoices.2.1 91 = .ok (.iaload, 1) := by decide +kernel
theorem d_M_postChoices_92 : decode m_M_postChoices.2.1 92 = .ok (.ifCond .ge 12, 3) := by decide +kernel
theorem d_M_postChoices_95 : decode m_M_postChoices.2.1 95 = .ok (.aload_n 0, 1) := by decide +kernel
theorem d_M_postChoices_96 : decode m_M_postChoices.2.1 96 = .ok (.getfield 107, 3) := by decide +kernel
theorem d_M_postChoices_99 : decode m_M_postChoices.2.1 99 = .ok (.iload_n 3, 1) := by decide +kernel
theorem d_M_postChoices_100 : decode m_M_postChoices.2.1 100 = .ok (.iaload, 1) := by decide +kernel
theorem d_M_postChoices_101 : decode m_M_postChoices.2.1 101 = .ok (.goto 11, 3) := by decide +kernel
theorem d_M_postChoices_104 : decode m_M_postChoices.2.1 104 = .ok (.aload_n 0, 1) := by decide +kernel
theorem d_M_postChoices_105 : decode m_M_postChoices.2.1 105 = .ok (.getfield 107, 3) := by decide +kernel
theorem d_M_postChoices_108 : decode m_M_postChoices.2.1 108 = .ok (.iload_n 3, 1) := by decide +kernel
theorem d_M_postChoices_109 : decode m_M_postChoices.2.1 109 = .ok (.iaload, 1) := by decide +kernel
theorem d_M_postChoices_110 : decode m_M_postChoices.2.1 110 = .ok (.iconst 1, 1) := by decide +kernel
theorem d_M_postChoices_111 : decode m_M_postChoices.2.1 111 = .ok (.iadd, 1) := by decide +kernel
theorem d_M_postChoices_112 : decode m_M_postChoices.2.1 112 = .ok (.iastore, 1) := by decide +kernel
theorem d_M_postChoices_113 : decode m_M_postChoices.2.1 113 = .ok (.iinc 4 1, 3) := by decide +kernel
theorem d_M_postChoices_116 : decode m_M_postChoices.2.1 116 = .ok (.goto (-77), 3) := by decide +kernel
theorem d_M_postChoices_119 : decode m_M_postChoices.2.1 119 = .ok (.iinc 2 1, 3) := by decide +kernel
theorem d_M_postChoices_122 : decode m_M_postChoices.2.1 122 = .ok (.goto (-120), 3) := by decide +kernel
theorem d_M_postChoices_125 : decode m_M_postChoices.2.1 125 = .ok (.return_, 1) := by decide +kernel
end
section
/-! DECODED: written by wip/whole/gen/dec.py -/
theorem d_M_letter_0 : decode m_M_letter.2.1 0 = .ok (.aload_n 0, 1) := by decide +kernel
theorem d_M_letter_1 : decode m_M_letter.2.1 1 = .ok (.iload_n 2, 1) := by decide +kernel
theorem d_M_letter_2 : decode m_M_letter.2.1 2 = .ok (.iconst 0, 1) := by decide +kernel
theorem d_M_letter_3 : decode m_M_letter.2.1 3 = .ok (.iconst 2, 1) := by decide +kernel
theorem d_M_letter_4 : decode m_M_letter.2.1 4 = .ok (.invokestatic 127, 3) := by decide +kernel
theorem d_M_letter_7 : decode m_M_letter.2.1 7 = .ok (.ifCond .ne 7, 3) := by decide +kernel
theorem d_M_letter_10 : decode m_M_letter.2.1 10 = .ok (.iconst 1, 1) := by decide +kernel
theorem d_M_letter_11 : decode m_M_letter.2.1 11 = .ok (.goto 40, 3) := by decide +kernel
theorem d_M_letter_14 : decode m_M_letter.2.1 14 = .ok (.iload_n 1, 1) := by decide +kernel
theorem d_M_letter_15 : decode m_M_letter.2.1 15 = .ok (.iconst 0, 1) := by decide +kernel
theorem d_M_letter_16 : decode m_M_letter.2.1 16 = .ok (.aload_n 0, 1) := by decide +kernel
theorem d_M_letter_17 : decode m_M_letter.2.1 17 = .ok (.getfield 176, 3) := by decide +kernel
theorem d_M_letter_20 : decode m_M_letter.2.1 20 = .ok (.iconst 1, 1) := by decide +kernel
theorem d_M_letter_21 : decode m_M_letter.2.1 21 = .ok (.isub, 1) := by decide +kernel
theorem d_M_letter_22 : decode m_M_letter.2.1 22 = .ok (.invokestatic 127, 3) := by decide +kernel
theorem d_M_letter_25 : decode m_M_letter.2.1 25 = .ok (.ifCond .ne 7, 3) := by decide +kernel
theorem d_M_letter_28 : decode m_M_letter.2.1 28 = .ok (.iconst 2, 1) := by decide +kernel
theorem d_M_letter_29 : decode m_M_letter.2.1 29 = .ok (.goto 22, 3) := by decide +kernel
theorem d_M_letter_32 : decode m_M_letter.2.1 32 = .ok (.iload_n 2, 1) := by decide +kernel
theorem d_M_letter_33 : decode m_M_letter.2.1 33 = .ok (.iconst 2, 1) := by decide +kernel
theorem d_M_letter_34 : decode m_M_letter.2.1 34 = .ok (.if_icmp .ne 16, 3) := by decide +kernel
theorem d_M_letter_37 : decode m_M_letter.2.1 37 = .ok (.aload_n 0, 1) := by decide +kernel
theorem d_M_letter_38 : decode m_M_letter.2.1 38 = .ok (.getfield 176, 3) := by decide +kernel
theorem d_M_letter_41 : decode m_M_letter.2.1 41 = .ok (.bipush 20, 2) := by decide +kernel
theorem d_M_letter_43 : decode m_M_letter.2.1 43 = .ok (.if_icmp .ne 7, 3) := by decide +kernel
theorem d_M_letter_46 : decode m_M_letter.2.1 46 = .ok (.iconst 3, 1) := by decide +kernel
theorem d_M_letter_47 : decode m_M_letter.2.1 47 = .ok (.goto 4, 3) := by decide +kernel
theorem d_M_letter_50 : decode m_M_letter.2.1 50 = .ok (.iconst 0, 1) := by decide +kernel
theorem d_M_letter_51 : decode m_M_letter.2.1 51 = .ok (.putfield 116, 3) := by decide +kernel
theorem d_M_letter_54 : decode m_M_letter.2.1 54 = .ok (.aload_n 0, 1) := by decide +kernel
theorem d_M_letter_55 : decode m_M_letter.2.1 55 = .ok (.getfield 116, 3) := by decide +kernel
theorem d_M_letter_58 : decode m_M_letter.2.1 58 = .ok (.ifCond .le 5, 3) := by decide +kernel
theorem d_M_letter_61 : decode m_M_letter.2.1 61 = .ok (.iconst 0, 1) := by decide +kernel
theorem d_M_letter_62 : decode m_M_letter.2.1 62 = .ok (.ireturn, 1) := by decide +kernel
theorem d_M_letter_63 : decode m_M_letter.2.1 63 = .ok (.iload_n 2, 1) := by decide +kernel
theorem d_M_letter_64 : decode m_M_letter.2.1 64 = .ok (.iconst 2, 1) := by decide +kernel
theorem d_M_letter_65 : decode m_M_letter.2.1 65 = .ok (.if_icmp .ne 27, 3) := by decide +kernel
theorem d_M_letter_68 : decode m_M_letter.2.1 68 = .ok (.aload_n 0, 1) := by decide +kernel
theorem d_M_letter_69 : decode m_M_letter.2.1 69 = .ok (.iload_n 1, 1) := by decide +kernel
theorem d_M_letter_70 : decode m_M_letter.2.1 70 = .ok (.aload_n 0, 1) := by decide +kernel
theorem d_M_letter_71 : decode m_M_letter.2.1 71 = .ok (.getfield 176, 3) := by decide +kernel
theorem d_M_letter_74 : decode m_M_letter.2.1 74 = .ok (.invokevirtual 223, 3) := by decide +kernel
theorem d_M_letter_77 : decode m_M_letter.2.1 77 = .ok (.aload_n 0, 1) := by decide +kernel
theorem d_M_letter_78 : decode m_M_letter.2.1 78 = .ok (.dup, 1) := by decide +kernel
theorem d_M_letter_79 : decode m_M_letter.2.1 79 = .ok (.getfield 176, 3) := by decide +kernel
theorem d_M_letter_82 : decode m_M_letter.2.1 82 = .ok (.iconst 1, 1) := by decide +kernel
theorem d_M_letter_83 : decode m_M_letter.2.1 83 = .ok (.iadd, 1) := by decide +kernel
theorem d_M_letter_84 : decode m_M_letter.2.1 84 = .ok (.putfield 176, 3) := by decide +kernel
theorem d_M_letter_87 : decode m_M_letter.2.1 87 = .ok (.aload_n 0, 1) := by decide +kernel
theorem d_M_letter_88 : decode m_M_letter.2.1 88 = .ok (.getfield 176, 3) := by decide +kernel
theorem d_M_letter_91 : decode m_M_letter.2.1 91 = .ok (.ireturn, 1) := by decide +kernel
theorem d_M_letter_92 : decode m_M_letter.2.1 92 = .ok (.aload_n 0, 1) := by decide +kernel
theorem d_M_letter_93 : decode m_M_letter.2.1 93 = .ok (.iload_n 1, 1) := by decide +kernel
theorem d_M_letter_94 : decode m_M_letter.2.1 94 = .ok (.bipush 20, 2) := by decide +kernel
theorem d_M_letter_96 : decode m_M_letter.2.1 96 = .ok (.invokevirtual 223, 3) := by decide +kernel
theorem d_M_letter_99 : decode m_M_letter.2.1 99 = .ok (.iload_n 1, 1) := by decide +kernel
theorem d_M_letter_100 : decode m_M_letter.2.1 100 = .ok (.iconst 1, 1) := by decide +kernel
theorem d_M_letter_101 : decode m_M_letter.2.1 101 = .ok (.iadd, 1) := by decide +kernel
theorem d_M_letter_102 : decode m_M_letter.2.1 102 = .ok (.istore_n 3, 1) := by decide +kernel
theorem d_M_letter_103 : decode m_M_letter.2.1 103 = .ok (.iload_n 3, 1) := by decide +kernel
theorem d_M_letter_104 : decode m_M_letter.2.1 104 = .ok (.aload_n 0, 1) := by decide +kernel
theorem d_M_letter_105 : decode m_M_letter.2.1 105 = .ok (.getfield 176, 3) := by decide +kernel
theorem d_M_letter_108 : decode m_M_letter.2.1 108 = .ok (.if_icmp .ge 17, 3) := by decide +kernel
theorem d_M_letter_111 : decode m_M_letter.2.1 111 = .ok (.aload_n 0, 1) := by decide +kernel
theorem d_M_letter_112 : decode m_M_letter.2.1 112 = .ok (.iload_n 3, 1) := by decide +kernel
theorem d_M_letter_113 : decode m_M_letter.2.1 113 = .ok (.iload_n 3, 1) := by decide +kernel
theorem d_M_letter_114 : decode m_M_letter.2.1 114 = .ok (.iconst 1, 1) := by decide +kernel
theorem d_M_letter_115 : decode m_M_letter.2.1 115 = .ok (.isub, 1) := by decide +kernel
theorem d_M_letter_116 : decode m_M_letter.2.1 116 = .ok (.invokevirtual 223, 3) := by decide +kernel
theorem d_M_letter_119 : decode m_M_letter.2.1 119 = .ok (.iinc 3 1, 3) := by decide +kernel
theorem d_M_letter_122 : decode m_M_letter.2.1 122 = .ok (.goto (-19), 3) := by decide +kernel
theorem d_M_letter_125 : decode m_M_letter.2.1 125 = .ok (.aload_n 0, 1) := by decide +kernel
theorem d_M_letter_126 : decode m_M_letter.2.1 126 = .ok (.dup, 1) := by decide +kernel
theorem d_M_letter_127 : decode m_M_letter.2.1 127 = .ok (.getfield 176, 3) := by decide +kernel
theorem d_M_letter_130 : decode m_M_letter.2.1 130 = .ok (.iconst 1, 1) := by decide +kernel
theorem d_M_letter_131 : decode m_M_letter.2.1 131 = .ok (.isub, 1) := by decide +kernel
theorem d_M_letter_132 : decode m_M_letter.2.1 132 = .ok (.putfield 176, 3) := by decide +kernel
theorem d_M_letter_135 : decode m_M_letter.2.1 135 = .ok (.iload_n 2, 1) := by decide +kernel
theorem d_M_letter_136 : decode m_M_letter.2.1 136 = .ok (.ifCond .ne 7, 3) := by decide +kernel
theorem d_M_letter_139 : decode m_M_letter.2.1 139 = .ok (.aload_n 0, 1) := by decide +kernel
theorem d_M_letter_140 : decode m_M_letter.2.1 140 = .ok (.invokevirtual 226, 3) := by decide +kernel
theorem d_M_letter_143 : decode m_M_letter.2.1 143 = .ok (.aload_n 0, 1) := by decide +kernel
theorem d_M_letter_144 : decode m_M_letter.2.1 144 = .ok (.getfield 176, 3) := by decide +kernel
theorem d_M_letter_147 : decode m_M_letter.2.1 147 = .ok (.ireturn, 1) := by decide +kernel
theorem d_M_copyLetter_0 : decode m_M_copyLetter.2.1 0 = .ok (.aload_n 0, 1) := by decide +kernel
theorem d_M_copyLetter_1 : decode m_M_copyLetter.2.1 1 = .ok (.getfield 95, 3) := by decide +kernel
theorem d_M_copyLetter_4 : decode m_M_copyLetter.2.1 4 = .ok (.iload_n 2, 1) := by decide +kernel
theorem d_M_copyLetter_5 : decode m_M_copyLetter.2.1 5 = .ok (.aload_n 0, 1) := by decide +kernel
theorem d_M_copyLetter_6 : decode m_M_copyLetter.2.1 6 = .ok (.getfield 95, 3) := by decide +kernel
theorem d_M_copyLetter_9 : decode m_M_copyLetter.2.1 9 = .ok (.iload_n 1, 1) := by decide +kernel
theorem d_M_copyLetter_10 : decode m_M_copyLetter.2.1 10 = .ok (.iaload, 1) := by decide +kernel
theorem d_M_copyLetter_11 : decode m_M_copyLetter.2.1 11 = .ok (.iastore, 1) := by decide +kernel
theorem d_M_copyLetter_12 : decode m_M_copyLetter.2.1 12 = .ok (.aload_n 0, 1) := by decide +kernel
theorem d_M_copyLetter_13 : decode m_M_copyLetter.2.1 13 = .ok (.getfield 98, 3) := by decide +kernel
theorem d_M_copyLetter_16 : decode m_M_copyLetter.2.1 16 = .ok (.iload_n 2, 1) := by decide +kernel
theorem d_M_copyLetter_17 : decode m_M_copyLetter.2.1 17 = .ok (.aload_n 0, 1) := by decide +kernel
theorem d_M_copyLetter_18 : decode m_M_copyLetter.2.1 18 = .ok (.getfield 98, 3) := by decide +kernel
theorem d_M_copyLetter_21 : decode m_M_copyLetter.2.1 21 = .ok (.iload_n 1, 1) := by decide +kernel
theorem d_M_copyLetter_22 : decode m_M_copyLetter.2.1 22 = .ok (.iaload, 1) := by decide +kernel
theorem d_M_copyLetter_23 : decode m_M_copyLetter.2.1 23 = .ok (.iastore, 1) := by decide +kernel
theorem d_M_copyLetter_24 : decode m_M_copyLetter.2.1 24 = .ok (.aload_n 0, 1) := by decide +kernel
theorem d_M_copyLetter_25 : decode m_M_copyLetter.2.1 25 = .ok (.getfield 101, 3) := by decide +kernel
theorem d_M_copyLetter_28 : decode m_M_copyLetter.2.1 28 = .ok (.iload_n 2, 1) := by decide +kernel
theorem d_M_copyLetter_29 : decode m_M_copyLetter.2.1 29 = .ok (.aload_n 0, 1) := by decide +kernel
theorem d_M_copyLetter_30 : decode m_M_copyLetter.2.1 30 = .ok (.getfield 101, 3) := by decide +kernel
theorem d_M_copyLetter_33 : decode m_M_copyLetter.2.1 33 = .ok (.iload_n 1, 1) := by decide +kernel
theorem d_M_copyLetter_34 : decode m_M_copyLetter.2.1 34 = .ok (.iaload, 1) := by decide +kernel
theorem d_M_copyLetter_35 : decode m_M_copyLetter.2.1 35 = .ok (.iastore, 1) := by decide +kernel
theorem d_M_copyLetter_36 : decode m_M_copyLetter.2.1 36 = .ok (.aload_n 0, 1) := by decide +kernel
theorem d_M_copyLetter_37 : decode m_M_copyLetter.2.1 37 = .ok (.getfield 104, 3) := by decide +kernel
theorem d_M_copyLetter_40 : decode m_M_copyLetter.2.1 40 = .ok (.iload_n 2, 1) := by decide +kernel
theorem d_M_copyLetter_41 : decode m_M_copyLetter.2.1 41 = .ok (.aload_n 0, 1) := by decide +kernel
theorem d_M_copyLetter_42 : decode m_M_copyLetter.2.1 42 = .ok (.getfield 104, 3) := by decide +kernel
theorem d_M_copyLetter_45 : decode m_M_copyLetter.2.1 45 = .ok (.iload_n 1, 1) := by decide +kernel
theorem d_M_copyLetter_46 : decode m_M_copyLetter.2.1 46 = .ok (.iaload, 1) := by decide +kernel
theorem d_M_copyLetter_47 : decode m_M_copyLetter.2.1 47 = .ok (.iastore, 1) := by decide +kernel
theorem d_M_copyLetter_48 : decode m_M_copyLetter.2.1 48 = .ok (.aload_n 0, 1) := by decide +kernel
theorem d_M_copyLetter_49 : decode m_M_copyLetter.2.1 49 = .ok (.getfield 107, 3) := by decide +kernel
theorem d_M_copyLetter_52 : decode m_M_copyLetter.2.1 52 = .ok (.iload_n 2, 1) := by decide +kernel
theorem d_M_copyLetter_53 : decode m_M_copyLetter.2.1 53 = .ok (.aload_n 0, 1) := by decide +kernel
theorem d_M_copyLetter_54 : decode m_M_copyLetter.2.1 54 = .ok (.getfield 107, 3) := by decide +kernel
theorem d_M_copyLetter_57 : decode m_M_copyLetter.2.1 57 = .ok (.iload_n 1, 1) := by decide +kernel
theorem d_M_copyLetter_58 : decode m_M_copyLetter.2.1 58 = .ok (.iaload, 1) := by decide +kernel
theorem d_M_copyLetter_59 : decode m_M_copyLetter.2.1 59 = .ok (.iastore, 1) := by decide +kernel
theorem d_M_copyLetter_60 : decode m_M_copyLetter.2.1 60 = .ok (.aload_n 0, 1) := by decide +kernel
theorem d_M_copyLetter_61 : decode m_M_copyLetter.2.1 61 = .ok (.getfield 110, 3) := by decide +kernel
theorem d_M_copyLetter_64 : decode m_M_copyLetter.2.1 64 = .ok (.iload_n 2, 1) := by decide +kernel
theorem d_M_copyLetter_65 : decode m_M_copyLetter.2.1 65 = .ok (.aload_n 0, 1) := by decide +kernel
theorem d_M_copyLetter_66 : decode m_M_copyLetter.2.1 66 = .ok (.getfield 110, 3) := by decide +kernel
theorem d_M_copyLetter_69 : decode m_M_copyLetter.2.1 69 = .ok (.iload_n 1, 1) := by decide +kernel
theorem d_M_copyLetter_70 : decode m_M_copyLetter.2.1 70 = .ok (.iaload, 1) := by decide +kernel
theorem d_M_copyLetter_71 : decode m_M_copyLetter.2.1 71 = .ok (.iastore, 1) := by decide +kernel
theorem d_M_copyLetter_72 : decode m_M_copyLetter.2.1 72 = .ok (.iconst 0, 1) := by decide +kernel
theorem d_M_copyLetter_73 : decode m_M_copyLetter.2.1 73 = .ok (.istore_n 3, 1) := by decide +kernel
theorem d_M_copyLetter_74 : decode m_M_copyLetter.2.1 74 = .ok (.iload_n 3, 1) := by decide +kernel
theorem d_M_copyLetter_75 : decode m_M_copyLetter.2.1 75 = .ok (.sipush 256, 3) := by decide +kernel
theorem d_M_copyLetter_78 : decode m_M_copyLetter.2.1 78 = .ok (.if_icmp .ge 33, 3) := by decide +kernel
theorem d_M_copyLetter_81 : decode m_M_copyLetter.2.1 81 = .ok (.aload_n 0, 1) := by decide +kernel
theorem d_M_copyLetter_82 : decode m_M_copyLetter.2.1 82 = .ok (.getfield 113, 3) := by decide +kernel
theorem d_M_copyLetter_85 : decode m_M_copyLetter.2.1 85 = .ok (.sipush 256, 3) := by decide +kernel
theorem d_M_copyLetter_88 : decode m_M_copyLetter.2.1 88 = .ok (.iload_n 2, 1) := by decide +kernel
theorem d_M_copyLetter_89 : decode m_M_copyLetter.2.1 89 = .ok (.imul, 1) := by decide +kernel
theorem d_M_copyLetter_90 : decode m_M_copyLetter.2.1 90 = .ok (.iload_n 3, 1) := by decide +kernel
theorem d_M_copyLetter_91 : decode m_M_copyLetter.2.1 91 = .ok (.iadd, 1) := by decide +kernel
theorem d_M_copyLetter_92 : decode m_M_copyLetter.2.1 92 = .ok (.aload_n 0, 1) := by decide +kernel
theorem d_M_copyLetter_93 : decode m_M_copyLetter.2.1 93 = .ok (.getfield 113, 3) := by decide +kernel
theorem d_M_copyLetter_96 : decode m_M_copyLetter.2.1 96 = .ok (.sipush 256, 3) := by decide +kernel
theorem d_M_copyLetter_99 : decode m_M_copyLetter.2.1 99 = .ok (.iload_n 1, 1) := by decide +kernel
theorem d_M_copyLetter_100 : decode m_M_copyLetter.2.1 100 = .ok (.imul, 1) := by decide +kernel
theorem d_M_copyLetter_101 : decode m_M_copyLetter.2.1 101 = .ok (.iload_n 3, 1) := by decide +kernel
theorem d_M_copyLetter_102 : decode m_M_copyLetter.2.1 102 = .ok (.iadd, 1) := by decide +kernel
theorem d_M_copyLetter_103 : decode m_M_copyLetter.2.1 103 = .ok (.iaload, 1) := by decide +kernel
theorem d_M_copyLetter_104 : decode m_M_copyLetter.2.1 104 = .ok (.iastore, 1) := by decide +kernel
theorem d_M_copyLetter_105 : decode m_M_copyLetter.2.1 105 = .ok (.iinc 3 1, 3) := by decide +kernel
theorem d_M_copyLetter_108 : decode m_M_copyLetter.2.1 108 = .ok (.goto (-34), 3) := by decide +kernel
theorem d_M_copyLetter_111 : decode m_M_copyLetter.2.1 111 = .ok (.return_, 1) := by decide +kernel
theorem d_M_deliver_0 : decode m_M_deliver.2.1 0 = .ok (.aload_n 0, 1) := by decide +kernel
theorem d_M_deliver_1 : decode m_M_deliver.2.1 1 = .ok (.getfield 101, 3) := by decide +kernel
theorem d_M_deliver_4 : decode m_M_deliver.2.1 4 = .ok (.bipush 20, 2) := by decide +kernel
theorem d_M_deliver_6 : decode m_M_deliver.2.1 6 = .ok (.iaload, 1) := by decide +kernel
theorem d_M_deliver_7 : decode m_M_deliver.2.1 7 = .ok (.istore_n 1, 1) := by decide +kernel
theorem d_M_deliver_8 : decode m_M_deliver.2.1 8 = .ok (.aload_n 0, 1) := by decide +kernel
theorem d_M_deliver_9 : decode m_M_deliver.2.1 9 = .ok (.getfield 98, 3) := by decide +kernel
theorem d_M_deliver_12 : decode m_M_deliver.2.1 12 = .ok (.bipush 20, 2) := by decide +kernel
theorem d_M_deliver_14 : decode m_M_deliver.2.1 14 = .ok (.iaload, 1) := by decide +kernel
theorem d_M_deliver_15 : decode m_M_deliver.2.1 15 = .ok (.istore_n 2, 1) := by decide +kernel
theorem d_M_deliver_16 : decode m_M_deliver.2.1 16 = .ok (.aload_n 0, 1) := by decide +kernel
theorem d_M_deliver_17 : decode m_M_deliver.2.1 17 = .ok (.getfield 95, 3) := by decide +kernel
theorem d_M_deliver_20 : decode m_M_deliver.2.1 20 = .ok (.bipush 20, 2) := by decide +kernel
theorem d_M_deliver_22 : decode m_M_deliver.2.1 22 = .ok (.iaload, 1) := by decide +kernel
theorem d_M_deliver_23 : decode m_M_deliver.2.1 23 = .ok (.ifCond .ne 64, 3) := by decide +kernel
theorem d_M_deliver_26 : decode m_M_deliver.2.1 26 = .ok (.aload_n 0, 1) := by decide +kernel
theorem d_M_deliver_27 : decode m_M_deliver.2.1 27 = .ok (.getfield 37, 3) := by decide +kernel
theorem d_M_deliver_30 : decode m_M_deliver.2.1 30 = .ok (.iload_n 1, 1) := by decide +kernel
theorem d_M_deliver_31 : decode m_M_deliver.2.1 31 = .ok (.baload, 1) := by decide +kernel
theorem d_M_deliver_32 : decode m_M_deliver.2.1 32 = .ok (.ifCond .ne 19, 3) := by decide +kernel
theorem d_M_deliver_35 : decode m_M_deliver.2.1 35 = .ok (.aload_n 0, 1) := by decide +kernel
theorem d_M_deliver_36 : decode m_M_deliver.2.1 36 = .ok (.iload_n 1, 1) := by decide +kernel
theorem d_M_deliver_37 : decode m_M_deliver.2.1 37 = .ok (.iload_n 2, 1) := by decide +kernel
theorem d_M_deliver_38 : decode m_M_deliver.2.1 38 = .ok (.aload_n 0, 1) := by decide +kernel
theorem d_M_deliver_39 : decode m_M_deliver.2.1 39 = .ok (.getfield 104, 3) := by decide +kernel
theorem d_M_deliver_42 : decode m_M_deliver.2.1 42 = .ok (.bipush 20, 2) := by decide +kernel
theorem d_M_deliver_44 : decode m_M_deliver.2.1 44 = .ok (.iaload, 1) := by decide +kernel
theorem d_M_deliver_45 : decode m_M_deliver.2.1 45 = .ok (.invokevirtual 172, 3) := by decide +kernel
theorem d_M_deliver_48 : decode m_M_deliver.2.1 48 = .ok (.goto 309, 3) := by decide +kernel
theorem d_M_deliver_51 : decode m_M_deliver.2.1 51 = .ok (.aload_n 0, 1) := by decide +kernel
theorem d_M_deliver_52 : decode m_M_deliver.2.1 52 = .ok (.getfield 41, 3) := by decide +kernel
theorem d_M_deliver_55 : decode m_M_deliver.2.1 55 = .ok (.iload_n 1, 1) := by decide +kernel
theorem d_M_deliver_56 : decode m_M_deliver.2.1 56 = .ok (.baload, 1) := by decide +kernel
theorem d_M_deliver_57 : decode m_M_deliver.2.1 57 = .ok (.ifCond .eq 300, 3) := by decide +kernel
theorem d_M_deliver_60 : decode m_M_deliver.2.1 60 = .ok (.aload_n 0, 1) := by decide +kernel
theorem d_M_deliver_61 : decode m_M_deliver.2.1 61 = .ok (.getfield 47, 3) := by decide +kernel
theorem d_M_deliver_64 : decode m_M_deliver.2.1 64 = .ok (.iload_n 1, 1) := by decide +kernel
theorem d_M_deliver_65 : decode m_M_deliver.2.1 65 = .ok (.iaload, 1) := by decide +kernel
theorem d_M_deliver_66 : decode m_M_deliver.2.1 66 = .ok (.iload_n 2, 1) := by decide +kernel
theorem d_M_deliver_67 : decode m_M_deliver.2.1 67 = .ok (.if_icmp .ne 290, 3) := by decide +kernel
theorem d_M_deliver_70 : decode m_M_deliver.2.1 70 = .ok (.aload_n 0, 1) := by decide +kernel
theorem d_M_deliver_71 : decode m_M_deliver.2.1 71 = .ok (.iconst 1, 1) := by decide +kernel
theorem d_M_deliver_72 : decode m_M_deliver.2.1 72 = .ok (.iload_n 1, 1) := by decide +kernel
theorem d_M_deliver_73 : decode m_M_deliver.2.1 73 = .ok (.iload_n 2, 1) := by decide +kernel
theorem d_M_deliver_74 : decode m_M_deliver.2.1 74 = .ok (.aload_n 0, 1) := by decide +kernel
theorem d_M_deliver_75 : decode m_M_deliver.2.1 75 = .ok (.getfield 53, 3) := by decide +kernel
theorem d_M_deliver_78 : decode m_M_deliver.2.1 78 = .ok (.iload_n 1, 1) := by decide +kernel
theorem d_M_deliver_79 : decode m_M_deliver.2.1 79 = .ok (.iaload, 1) := by decide +kernel
theorem d_M_deliver_80 : decode m_M_deliver.2.1 80 = .ok (.invokevirtual 179, 3) := by decide +kernel
theorem d_M_deliver_83 : decode m_M_deliver.2.1 83 = .ok (.istore_n 3, 1) := by decide +kernel
theorem d_M_deliver_84 : decode m_M_deliver.2.1 84 = .ok (.goto 273, 3) := by decide +kernel
theorem d_M_deliver_87 : decode m_M_deliver.2.1 87 = .ok (.aload_n 0, 1) := by decide +kernel
theorem d_M_deliver_88 : decode m_M_deliver.2.1 88 = .ok (.getfield 95, 3) := by decide +kernel
theorem d_M_deliver_91 : decode m_M_deliver.2.1 91 = .ok (.bipush 20, 2) := by decide +kernel
theorem d_M_deliver_93 : decode m_M_deliver.2.1 93 = .ok (.iaload, 1) := by decide +kernel
theorem d_M_deliver_94 : decode m_M_deliver.2.1 94 = .ok (.iconst 1, 1) := by decide +kernel
theorem d_M_deliver_95 : decode m_M_deliver.2.1 95 = .ok (.if_icmp .ne 61, 3) := by decide +kernel
theorem d_M_deliver_98 : decode m_M_deliver.2.1 98 = .ok (.aload_n 0, 1) := by decide +kernel
theorem d_M_deliver_99 : decode m_M_deliver.2.1 99 = .ok (.getfield 56, 3) := by decide +kernel
theorem d_M_deliver_102 : decode m_M_deliver.2.1 102 = .ok (.iload_n 1, 1) := by decide +kernel
theorem d_M_deliver_103 : decode m_M_deliver.2.1 103 = .ok (.iaload, 1) := by decide +kernel
theorem d_M_deliver_104 : decode m_M_deliver.2.1 104 = .ok (.iload_n 2, 1) := by decide +kernel
theorem d_M_deliver_105 : decode m_M_deliver.2.1 105 = .ok (.if_icmp .ne 252, 3) := by decide +kernel
theorem d_M_deliver_108 : decode m_M_deliver.2.1 108 = .ok (.aload_n 0, 1) := by decide +kernel
theorem d_M_deliver_109 : decode m_M_deliver.2.1 109 = .ok (.getfield 53, 3) := by decide +kernel
theorem d_M_deliver_112 : decode m_M_deliver.2.1 112 = .ok (.iload_n 1, 1) := by decide +kernel
theorem d_M_deliver_113 : decode m_M_deliver.2.1 113 = .ok (.aload_n 0, 1) := by decide +kernel
theorem d_M_deliver_114 : decode m_M_deliver.2.1 114 = .ok (.getfield 104, 3) := by decide +kernel
theorem d_M_deliver_117 : decode m_M_deliver.2.1 117 = .ok (.bipush 20, 2) := by decide +kernel
theorem d_M_deliver_119 : decode m_M_deliver.2.1 119 = .ok (.iaload, 1) := by decide +kernel
theorem d_M_deliver_120 : decode m_M_deliver.2.1 120 = .ok (.iastore, 1) := by decide +kernel
theorem d_M_deliver_121 : decode m_M_deliver.2.1 121 = .ok (.aload_n 0, 1) := by decide +kernel
theorem d_M_deliver_122 : decode m_M_deliver.2.1 122 = .ok (.getfield 59, 3) := by decide +kernel
theorem d_M_deliver_125 : decode m_M_deliver.2.1 125 = .ok (.bipush 8, 2) := by decide +kernel
theorem d_M_deliver_127 : decode m_M_deliver.2.1 127 = .ok (.iload_n 1, 1) := by decide +kernel
theorem d_M_deliver_128 : decode m_M_deliver.2.1 128 = .ok (.imul, 1) := by decide +kernel
theorem d_M_deliver_129 : decode m_M_deliver.2.1 129 = .ok (.aload_n 0, 1) := by decide +kernel
theorem d_M_deliver_130 : decode m_M_deliver.2.1 130 = .ok (.getfield 62, 3) := by decide +kernel
theorem d_M_deliver_133 : decode m_M_deliver.2.1 133 = .ok (.iload_n 1, 1) := by decide +kernel
theorem d_M_deliver_134 : decode m_M_deliver.2.1 134 = .ok (.iaload, 1) := by decide +kernel
theorem d_M_deliver_135 : decode m_M_deliver.2.1 135 = .ok (.iadd, 1) := by decide +kernel
theorem d_M_deliver_136 : decode m_M_deliver.2.1 136 = .ok (.iload_n 2, 1) := by decide +kernel
theorem d_M_deliver_137 : decode m_M_deliver.2.1 137 = .ok (.iastore, 1) := by decide +kernel
theorem d_M_deliver_138 : decode m_M_deliver.2.1 138 = .ok (.aload_n 0, 1) := by decide +kernel
theorem d_M_deliver_139 : decode m_M_deliver.2.1 139 = .ok (.getfield 62, 3) := by decide +kernel
theorem d_M_deliver_142 : decode m_M_deliver.2.1 142 = .ok (.iload_n 1, 1) := by decide +kernel
theorem d_M_deliver_143 : decode m_M_deliver.2.1 143 = .ok (.dup2, 1) := by decide +kernel
theorem d_M_deliver_144 : decode m_M_deliver.2.1 144 = .ok (.iaload, 1) := by decide +kernel
theorem d_M_deliver_145 : decode m_M_deliver.2.1 145 = .ok (.iconst 1, 1) := by decide +kernel
theorem d_M_deliver_146 : decode m_M_deliver.2.1 146 = .ok (.iadd, 1) := by decide +kernel
theorem d_M_deliver_147 : decode m_M_deliver.2.1 147 = .ok (.iastore, 1) := by decide +kernel
theorem d_M_deliver_148 : decode m_M_deliver.2.1 148 = .ok (.aload_n 0, 1) := by decide +kernel
theorem d_M_deliver_149 : decode m_M_deliver.2.1 149 = .ok (.iload_n 1, 1) := by decide +kernel
theorem d_M_deliver_150 : decode m_M_deliver.2.1 150 = .ok (.invokevirtual 183, 3) := by decide +kernel
theorem d_M_deliver_153 : decode m_M_deliver.2.1 153 = .ok (.goto 204, 3) := by decide +kernel
theorem d_M_deliver_156 : decode m_M_deliver.2.1 156 = .ok (.aload_n 0, 1) := by decide +kernel
theorem d_M_deliver_157 : decode m_M_deliver.2.1 157 = .ok (.getfield 95, 3) := by decide +kernel
theorem d_M_deliver_160 : decode m_M_deliver.2.1 160 = .ok (.bipush 20, 2) := by decide +kernel
theorem d_M_deliver_162 : decode m_M_deliver.2.1 162 = .ok (.iaload, 1) := by decide +kernel
theorem d_M_deliver_163 : decode m_M_deliver.2.1 163 = .ok (.iconst 2, 1) := by decide +kernel
theorem d_M_deliver_164 : decode m_M_deliver.2.1 164 = .ok (.if_icmp .ne 130, 3) := by decide +kernel
theorem d_M_deliver_167 : decode m_M_deliver.2.1 167 = .ok (.aload_n 0, 1) := by decide +kernel
theorem d_M_deliver_168 : decode m_M_deliver.2.1 168 = .ok (.getfield 104, 3) := by decide +kernel
theorem d_M_deliver_171 : decode m_M_deliver.2.1 171 = .ok (.bipush 20, 2) := by decide +kernel
theorem d_M_deliver_173 : decode m_M_deliver.2.1 173 = .ok (.iaload, 1) := by decide +kernel
theorem d_M_deliver_174 : decode m_M_deliver.2.1 174 = .ok (.aload_n 0, 1) := by decide +kernel
theorem d_M_deliver_175 : decode m_M_deliver.2.1 175 = .ok (.getfield 68, 3) := by decide +kernel
theorem d_M_deliver_178 : decode m_M_deliver.2.1 178 = .ok (.bipush 8, 2) := by decide +kernel
theorem d_M_deliver_180 : decode m_M_deliver.2.1 180 = .ok (.iload_n 2, 1) := by decide +kernel
theorem d_M_deliver_181 : decode m_M_deliver.2.1 181 = .ok (.iadd, 1) := by decide +kernel
theorem d_M_deliver_182 : decode m_M_deliver.2.1 182 = .ok (.iaload, 1) := by decide +kernel
theorem d_M_deliver_183 : decode m_M_deliver.2.1 183 = .ok (.if_icmp .le 174, 3) := by decide +kernel
theorem d_M_deliver_186 : decode m_M_deliver.2.1 186 = .ok (.aload_n 0, 1) := by decide +kernel
theorem d_M_deliver_187 : decode m_M_deliver.2.1 187 = .ok (.getfield 68, 3) := by decide +kernel
theorem d_M_deliver_190 : decode m_M_deliver.2.1 190 = .ok (.bipush 8, 2) := by decide +kernel
theorem d_M_deliver_192 : decode m_M_deliver.2.1 192 = .ok (.iload_n 2, 1) := by decide +kernel
theorem d_M_deliver_193 : decode m_M_deliver.2.1 193 = .ok (.iadd, 1) := by decide +kernel
theorem d_M_deliver_194 : decode m_M_deliver.2.1 194 = .ok (.aload_n 0, 1) := by decide +kernel
theorem d_M_deliver_195 : decode m_M_deliver.2.1 195 = .ok (.getfield 104, 3) := by decide +kernel
theorem d_M_deliver_198 : decode m_M_deliver.2.1 198 = .ok (.bipush 20, 2) := by decide +kernel
theorem d_M_deliver_200 : decode m_M_deliver.2.1 200 = .ok (.iaload, 1) := by decide +kernel
theorem d_M_deliver_201 : decode m_M_deliver.2.1 201 = .ok (.iastore, 1) := by decide +kernel
theorem d_M_deliver_202 : decode m_M_deliver.2.1 202 = .ok (.aload_n 0, 1) := by decide +kernel
theorem d_M_deliver_203 : decode m_M_deliver.2.1 203 = .ok (.getfield 71, 3) := by decide +kernel
theorem d_M_deliver_206 : decode m_M_deliver.2.1 206 = .ok (.bipush 8, 2) := by decide +kernel
theorem d_M_deliver_208 : decode m_M_deliver.2.1 208 = .ok (.iload_n 2, 1) := by decide +kernel
theorem d_M_deliver_209 : decode m_M_deliver.2.1 209 = .ok (.iadd, 1) := by decide +kernel
theorem d_M_deliver_210 : decode m_M_deliver.2.1 210 = .ok (.aload_n 0, 1) := by decide +kernel
theorem d_M_deliver_211 : decode m_M_deliver.2.1 211 = .ok (.getfield 110, 3) := by decide +kernel
theorem d_M_deliver_214 : decode m_M_deliver.2.1 214 = .ok (.bipush 20, 2) := by decide +kernel
theorem d_M_deliver_216 : decode m_M_deliver.2.1 216 = .ok (.iaload, 1) := by decide +kernel
theorem d_M_deliver_217 : decode m_M_deliver.2.1 217 = .ok (.iastore, 1) := by decide +kernel
theorem d_M_deliver_218 : decode m_M_deliver.2.1 218 = .ok (.aload_n 0, 1) := by decide +kernel
theorem d_M_deliver_219 : decode m_M_deliver.2.1 219 = .ok (.getfield 74, 3) := by decide +kernel
theorem d_M_deliver_222 : decode m_M_deliver.2.1 222 = .ok (.bipush 8, 2) := by decide +kernel
theorem d_M_deliver_224 : decode m_M_deliver.2.1 224 = .ok (.iload_n 2, 1) := by decide +kernel
theorem d_M_deliver_225 : decode m_M_deliver.2.1 225 = .ok (.iadd, 1) := by decide +kernel
theorem d_M_deliver_226 : decode m_M_deliver.2.1 226 = .ok (.aload_n 0, 1) := by decide +kernel
theorem d_M_deliver_227 : decode m_M_deliver.2.1 227 = .ok (.getfield 107, 3) := by decide +kernel
theorem d_M_deliver_230 : decode m_M_deliver.2.1 230 = .ok (.bipush 20, 2) := by decide +kernel
theorem d_M_deliver_232 : decode m_M_deliver.2.1 232 = .ok (.iaload, 1) := by decide +kernel
theorem d_M_deliver_233 : decode m_M_deliver.2.1 233 = .ok (.iastore, 1) := by decide +kernel
theorem d_M_deliver_234 : decode m_M_deliver.2.1 234 = .ok (.iconst 0, 1) := by decide +kernel
theorem d_M_deliver_235 : decode m_M_deliver.2.1 235 = .ok (.istore_n 3, 1) := by decide +kernel
theorem d_M_deliver_236 : decode m_M_deliver.2.1 236 = .ok (.iload_n 3, 1) := by decide +kernel
theorem d_M_deliver_237 : decode m_M_deliver.2.1 237 = .ok (.aload_n 0, 1) := by decide +kernel
theorem d_M_deliver_238 : decode m_M_deliver.2.1 238 = .ok (.getfield 107, 3) := by decide +kernel
theorem d_M_deliver_241 : decode m_M_deliver.2.1 241 = .ok (.bipush 20, 2) := by decide +kernel
theorem d_M_deliver_243 : decode m_M_deliver.2.1 243 = .ok (.iaload, 1) := by decide +kernel
theorem d_M_deliver_244 : decode m_M_deliver.2.1 244 = .ok (.if_icmp .ge 35, 3) := by decide +kernel
theorem d_M_deliver_247 : decode m_M_deliver.2.1 247 = .ok (.aload_n 0, 1) := by decide +kernel
theorem d_M_deliver_248 : decode m_M_deliver.2.1 248 = .ok (.getfield 77, 3) := by decide +kernel
theorem d_M_deliver_251 : decode m_M_deliver.2.1 251 = .ok (.sipush 2048, 3) := by decide +kernel
theorem d_M_deliver_254 : decode m_M_deliver.2.1 254 = .ok (.sipush 256, 3) := by decide +kernel
theorem d_M_deliver_257 : decode m_M_deliver.2.1 257 = .ok (.iload_n 2, 1) := by decide +kernel
theorem d_M_deliver_258 : decode m_M_deliver.2.1 258 = .ok (.imul, 1) := by decide +kernel
theorem d_M_deliver_259 : decode m_M_deliver.2.1 259 = .ok (.iadd, 1) := by decide +kernel
theorem d_M_deliver_260 : decode m_M_deliver.2.1 260 = .ok (.iload_n 3, 1) := by decide +kernel
theorem d_M_deliver_261 : decode m_M_deliver.2.1 261 = .ok (.iadd, 1) := by decide +kernel
theorem d_M_deliver_262 : decode m_M_deliver.2.1 262 = .ok (.aload_n 0, 1) := by decide +kernel
theorem d_M_deliver_263 : decode m_M_deliver.2.1 263 = .ok (.getfield 113, 3) := by decide +kernel
theorem d_M_deliver_266 : decode m_M_deliver.2.1 266 = .ok (.sipush 5120, 3) := by decide +kernel
theorem d_M_deliver_269 : decode m_M_deliver.2.1 269 = .ok (.iload_n 3, 1) := by decide +kernel
theorem d_M_deliver_270 : decode m_M_deliver.2.1 270 = .ok (.iadd, 1) := by decide +kernel
theorem d_M_deliver_271 : decode m_M_deliver.2.1 271 = .ok (.iaload, 1) := by decide +kernel
theorem d_M_deliver_272 : decode m_M_deliver.2.1 272 = .ok (.iastore, 1) := by decide +kernel
theorem d_M_deliver_273 : decode m_M_deliver.2.1 273 = .ok (.iinc 3 1, 3) := by decide +kernel
theorem d_M_deliver_276 : decode m_M_deliver.2.1 276 = .ok (.goto (-40), 3) := by decide +kernel
theorem d_M_deliver_279 : decode m_M_deliver.2.1 279 = .ok (.aload_n 0, 1) := by decide +kernel
theorem d_M_deliver_280 : decode m_M_deliver.2.1 280 = .ok (.iload_n 1, 1) := by decide +kernel
theorem d_M_deliver_281 : decode m_M_deliver.2.1 281 = .ok (.aload_n 0, 1) := by decide +kernel
theorem d_M_deliver_282 : decode m_M_deliver.2.1 282 = .ok (.getfield 104, 3) := by decide +kernel
theorem d_M_deliver_285 : decode m_M_deliver.2.1 285 = .ok (.bipush 20, 2) := by decide +kernel
theorem d_M_deliver_287 : decode m_M_deliver.2.1 287 = .ok (.iaload, 1) := by decide +kernel
theorem d_M_deliver_288 : decode m_M_deliver.2.1 288 = .ok (.invokevirtual 186, 3) := by decide +kernel
theorem d_M_deliver_291 : decode m_M_deliver.2.1 291 = .ok (.goto 66, 3) := by decide +kernel
theorem d_M_deliver_294 : decode m_M_deliver.2.1 294 = .ok (.aload_n 0, 1) := by decide +kernel
theorem d_M_deliver_295 : decode m_M_deliver.2.1 295 = .ok (.getfield 104, 3) := by decide +kernel
theorem d_M_deliver_298 : decode m_M_deliver.2.1 298 = .ok (.bipush 20, 2) := by decide +kernel
theorem d_M_deliver_300 : decode m_M_deliver.2.1 300 = .ok (.iaload, 1) := by decide +kernel
theorem d_M_deliver_301 : decode m_M_deliver.2.1 301 = .ok (.aload_n 0, 1) := by decide +kernel
theorem d_M_deliver_302 : decode m_M_deliver.2.1 302 = .ok (.getfield 80, 3) := by decide +kernel
theorem d_M_deliver_305 : decode m_M_deliver.2.1 305 = .ok (.iload_n 1, 1) := by decide +kernel
theorem d_M_deliver_306 : decode m_M_deliver.2.1 306 = .ok (.iaload, 1) := by decide +kernel
theorem d_M_deliver_307 : decode m_M_deliver.2.1 307 = .ok (.if_icmp .le 50, 3) := by decide +kernel
theorem d_M_deliver_310 : decode m_M_deliver.2.1 310 = .ok (.iconst 0, 1) := by decide +kernel
theorem d_M_deliver_311 : decode m_M_deliver.2.1 311 = .ok (.istore_n 3, 1) := by decide +kernel
theorem d_M_deliver_312 : decode m_M_deliver.2.1 312 = .ok (.iload_n 3, 1) := by decide +kernel
theorem d_M_deliver_313 : decode m_M_deliver.2.1 313 = .ok (.bipush 8, 2) := by decide +kernel
theorem d_M_deliver_315 : decode m_M_deliver.2.1 315 = .ok (.if_icmp .ge 30, 3) := by decide +kernel
theorem d_M_deliver_318 : decode m_M_deliver.2.1 318 = .ok (.aload_n 0, 1) := by decide +kernel
theorem d_M_deliver_319 : decode m_M_deliver.2.1 319 = .ok (.getfield 89, 3) := by decide +kernel
theorem d_M_deliver_322 : decode m_M_deliver.2.1 322 = .ok (.bipush 8, 2) := by decide +kernel
theorem d_M_deliver_324 : decode m_M_deliver.2.1 324 = .ok (.iload_n 1, 1) := by decide +kernel
theorem d_M_deliver_325 : decode m_M_deliver.2.1 325 = .ok (.imul, 1) := by decide +kernel
theorem d_M_deliver_326 : decode m_M_deliver.2.1 326 = .ok (.iload_n 3, 1) := by decide +kernel
theorem d_M_deliver_327 : decode m_M_deliver.2.1 327 = .ok (.iadd, 1) := by decide +kernel
theorem d_M_deliver_328 : decode m_M_deliver.2.1 328 = .ok (.aload_n 0, 1) := by decide +kernel
theorem d_M_deliver_329 : decode m_M_deliver.2.1 329 = .ok (.getfield 113, 3) := by decide +kernel
theorem d_M_deliver_332 : decode m_M_deliver.2.1 332 = .ok (.sipush 5120, 3) := by decide +kernel
theorem d_M_deliver_335 : decode m_M_deliver.2.1 335 = .ok (.iload_n 3, 1) := by decide +kernel
theorem d_M_deliver_336 : decode m_M_deliver.2.1 336 = .ok (.iadd, 1) := by decide +kernel
theorem d_M_deliver_337 : decode m_M_deliver.2.1 337 = .ok (.iaload, 1) := by decide +kernel
theorem d_M_deliver_338 : decode m_M_deliver.2.1 338 = .ok (.iastore, 1) := by decide +kernel
theorem d_M_deliver_339 : decode m_M_deliver.2.1 339 = .ok (.iinc 3 1, 3) := by decide +kernel
theorem d_M_deliver_342 : decode m_M_deliver.2.1 342 = .ok (.goto (-30), 3) := by decide +kernel
theorem d_M_deliver_345 : decode m_M_deliver.2.1 345 = .ok (.aload_n 0, 1) := by decide +kernel
theorem d_M_deliver_346 : decode m_M_deliver.2.1 346 = .ok (.iload_n 1, 1) := by decide +kernel
theorem d_M_deliver_347 : decode m_M_deliver.2.1 347 = .ok (.aload_n 0, 1) := by decide +kernel
theorem d_M_deliver_348 : decode m_M_deliver.2.1 348 = .ok (.getfield 104, 3) := by decide +kernel
theorem d_M_deliver_351 : decode m_M_deliver.2.1 351 = .ok (.bipush 20, 2) := by decide +kernel
theorem d_M_deliver_353 : decode m_M_deliver.2.1 353 = .ok (.iaload, 1) := by decide +kernel
theorem d_M_deliver_354 : decode m_M_deliver.2.1 354 = .ok (.invokevirtual 217, 3) := by decide +kernel
theorem d_M_deliver_357 : decode m_M_deliver.2.1 357 = .ok (.return_, 1) := by decide +kernel
theorem d_M_told_0 : decode m_M_told.2.1 0 = .ok (.aload_n 0, 1) := by decide +kernel
theorem d_M_told_1 : decode m_M_told.2.1 1 = .ok (.iconst 0, 1) := by decide +kernel
theorem d_M_told_2 : decode m_M_told.2.1 2 = .ok (.putfield 116, 3) := by decide +kernel
theorem d_M_told_5 : decode m_M_told.2.1 5 = .ok (.iload_n 1, 1) := by decide +kernel
theorem d_M_told_6 : decode m_M_told.2.1 6 = .ok (.iconst 0, 1) := by decide +kernel
theorem d_M_told_7 : decode m_M_told.2.1 7 = .ok (.aload_n 0, 1) := by decide +kernel
theorem d_M_told_8 : decode m_M_told.2.1 8 = .ok (.getfield 176, 3) := by decide +kernel
theorem d_M_told_11 : decode m_M_told.2.1 11 = .ok (.iconst 1, 1) := by decide +kernel
theorem d_M_told_12 : decode m_M_told.2.1 12 = .ok (.isub, 1) := by decide +kernel
theorem d_M_told_13 : decode m_M_told.2.1 13 = .ok (.invokestatic 127, 3) := by decide +kernel
theorem d_M_told_16 : decode m_M_told.2.1 16 = .ok (.ifCond .ne 5, 3) := by decide +kernel
theorem d_M_told_19 : decode m_M_told.2.1 19 = .ok (.iconst (-1), 1) := by decide +kernel
theorem d_M_told_20 : decode m_M_told.2.1 20 = .ok (.ireturn, 1) := by decide +kernel
theorem d_M_told_21 : decode m_M_told.2.1 21 = .ok (.iload_n 2, 1) := by decide +kernel
theorem d_M_told_22 : decode m_M_told.2.1 22 = .ok (.tableswitch 69 0 4 #[34, 41, 48, 55, 62], 34) := by decide +kernel
theorem d_M_told_56 : decode m_M_told.2.1 56 = .ok (.aload_n 0, 1) := by decide +kernel
theorem d_M_told_57 : decode m_M_told.2.1 57 = .ok (.getfield 95, 3) := by decide +kernel
theorem d_M_told_60 : decode m_M_told.2.1 60 = .ok (.iload_n 1, 1) := by decide +kernel
theorem d_M_told_61 : decode m_M_told.2.1 61 = .ok (.iaload, 1) := by decide +kernel
theorem d_M_told_62 : decode m_M_told.2.1 62 = .ok (.ireturn, 1) := by decide +kernel
theorem d_M_told_63 : decode m_M_told.2.1 63 = .ok (.aload_n 0, 1) := by decide +kernel
theorem d_M_told_64 : decode m_M_told.2.1 64 = .ok (.getfield 98, 3) := by decide +kernel
theorem d_M_told_67 : decode m_M_told.2.1 67 = .ok (.iload_n 1, 1) := by decide +kernel
theorem d_M_told_68 : decode m_M_told.2.1 68 = .ok (.iaload, 1) := by decide +kernel
theorem d_M_told_69 : decode m_M_told.2.1 69 = .ok (.ireturn, 1) := by decide +kernel
theorem d_M_told_70 : decode m_M_told.2.1 70 = .ok (.aload_n 0, 1) := by decide +kernel
theorem d_M_told_71 : decode m_M_told.2.1 71 = .ok (.getfield 101, 3) := by decide +kernel
theorem d_M_told_74 : decode m_M_told.2.1 74 = .ok (.iload_n 1, 1) := by decide +kernel
theorem d_M_told_75 : decode m_M_told.2.1 75 = .ok (.iaload, 1) := by decide +kernel
theorem d_M_told_76 : decode m_M_told.2.1 76 = .ok (.ireturn, 1) := by decide +kernel
theorem d_M_told_77 : decode m_M_told.2.1 77 = .ok (.aload_n 0, 1) := by decide +kernel
theorem d_M_told_78 : decode m_M_told.2.1 78 = .ok (.getfield 104, 3) := by decide +kernel
theorem d_M_told_81 : decode m_M_told.2.1 81 = .ok (.iload_n 1, 1) := by decide +kernel
theorem d_M_told_82 : decode m_M_told.2.1 82 = .ok (.iaload, 1) := by decide +kernel
theorem d_M_told_83 : decode m_M_told.2.1 83 = .ok (.ireturn, 1) := by decide +kernel
theorem d_M_told_84 : decode m_M_told.2.1 84 = .ok (.aload_n 0, 1) := by decide +kernel
theorem d_M_told_85 : decode m_M_told.2.1 85 = .ok (.getfield 107, 3) := by decide +kernel
theorem d_M_told_88 : decode m_M_told.2.1 88 = .ok (.iload_n 1, 1) := by decide +kernel
theorem d_M_told_89 : decode m_M_told.2.1 89 = .ok (.iaload, 1) := by decide +kernel
theorem d_M_told_90 : decode m_M_told.2.1 90 = .ok (.ireturn, 1) := by decide +kernel
theorem d_M_told_91 : decode m_M_told.2.1 91 = .ok (.aload_n 0, 1) := by decide +kernel
theorem d_M_told_92 : decode m_M_told.2.1 92 = .ok (.iload_n 1, 1) := by decide +kernel
theorem d_M_told_93 : decode m_M_told.2.1 93 = .ok (.iload_n 2, 1) := by decide +kernel
theorem d_M_told_94 : decode m_M_told.2.1 94 = .ok (.invokevirtual 229, 3) := by decide +kernel
theorem d_M_told_97 : decode m_M_told.2.1 97 = .ok (.ireturn, 1) := by decide +kernel
end
section
/-! DECODED: written by wip/whole/gen/dec.py -/
theorem d_M_entryOf_0 : decode m_M_entryOf.2.1 0 = .ok (.iload_n 2, 1) := by decide +kernel
theorem d_M_entryOf_1 : decode m_M_entryOf.2.1 1 = .ok (.bipush 10, 2) := by decide +kernel
theorem d_M_entryOf_3 : decode m_M_entryOf.2.1 3 = .ok (.if_icmp .lt 13, 3) := by decide +kernel
theorem d_M_entryOf_6 : decode m_M_entryOf.2.1 6 = .ok (.aload_n 0, 1) := by decide +kernel
theorem d_M_entryOf_7 : decode m_M_entryOf.2.1 7 = .ok (.getfield 95, 3) := by decide +kernel
theorem d_M_entryOf_10 : decode m_M_entryOf.2.1 10 = .ok (.iload_n 1, 1) := by decide +kernel
theorem d_M_entryOf_11 : decode m_M_entryOf.2.1 11 = .ok (.iaload, 1) := by decide +kernel
theorem d_M_entryOf_12 : decode m_M_entryOf.2.1 12 = .ok (.iconst 2, 1) := by decide +kernel
theorem d_M_entryOf_13 : decode m_M_entryOf.2.1 13 = .ok (.if_icmp .ge 5, 3) := by decide +kernel
theorem d_M_entryOf_16 : decode m_M_entryOf.2.1 16 = .ok (.iconst (-1), 1) := by decide +kernel
theorem d_M_entryOf_17 : decode m_M_entryOf.2.1 17 = .ok (.ireturn, 1) := by decide +kernel
theorem d_M_entryOf_18 : decode m_M_entryOf.2.1 18 = .ok (.aload_n 0, 1) := by decide +kernel
theorem d_M_entryOf_19 : decode m_M_entryOf.2.1 19 = .ok (.getfield 95, 3) := by decide +kernel
theorem d_M_entryOf_22 : decode m_M_entryOf.2.1 22 = .ok (.iload_n 1, 1) := by decide +kernel
theorem d_M_entryOf_23 : decode m_M_entryOf.2.1 23 = .ok (.iaload, 1) := by decide +kernel
theorem d_M_entryOf_24 : decode m_M_entryOf.2.1 24 = .ok (.iconst 3, 1) := by decide +kernel
theorem d_M_entryOf_25 : decode m_M_entryOf.2.1 25 = .ok (.if_icmp .ne 29, 3) := by decide +kernel
theorem d_M_entryOf_28 : decode m_M_entryOf.2.1 28 = .ok (.iload_n 2, 1) := by decide +kernel
theorem d_M_entryOf_29 : decode m_M_entryOf.2.1 29 = .ok (.bipush 18, 2) := by decide +kernel
theorem d_M_entryOf_31 : decode m_M_entryOf.2.1 31 = .ok (.if_icmp .ge 21, 3) := by decide +kernel
theorem d_M_entryOf_34 : decode m_M_entryOf.2.1 34 = .ok (.aload_n 0, 1) := by decide +kernel
theorem d_M_entryOf_35 : decode m_M_entryOf.2.1 35 = .ok (.getfield 113, 3) := by decide +kernel
theorem d_M_entryOf_38 : decode m_M_entryOf.2.1 38 = .ok (.sipush 256, 3) := by decide +kernel
theorem d_M_entryOf_41 : decode m_M_entryOf.2.1 41 = .ok (.iload_n 1, 1) := by decide +kernel
theorem d_M_entryOf_42 : decode m_M_entryOf.2.1 42 = .ok (.imul, 1) := by decide +kernel
theorem d_M_entryOf_43 : decode m_M_entryOf.2.1 43 = .ok (.iload_n 2, 1) := by decide +kernel
theorem d_M_entryOf_44 : decode m_M_entryOf.2.1 44 = .ok (.iadd, 1) := by decide +kernel
theorem d_M_entryOf_45 : decode m_M_entryOf.2.1 45 = .ok (.bipush 10, 2) := by decide +kernel
theorem d_M_entryOf_47 : decode m_M_entryOf.2.1 47 = .ok (.isub, 1) := by decide +kernel
theorem d_M_entryOf_48 : decode m_M_entryOf.2.1 48 = .ok (.iaload, 1) := by decide +kernel
theorem d_M_entryOf_49 : decode m_M_entryOf.2.1 49 = .ok (.goto 4, 3) := by decide +kernel
theorem d_M_entryOf_52 : decode m_M_entryOf.2.1 52 = .ok (.iconst (-1), 1) := by decide +kernel
theorem d_M_entryOf_53 : decode m_M_entryOf.2.1 53 = .ok (.ireturn, 1) := by decide +kernel
theorem d_M_entryOf_54 : decode m_M_entryOf.2.1 54 = .ok (.iload_n 2, 1) := by decide +kernel
theorem d_M_entryOf_55 : decode m_M_entryOf.2.1 55 = .ok (.bipush 10, 2) := by decide +kernel
theorem d_M_entryOf_57 : decode m_M_entryOf.2.1 57 = .ok (.isub, 1) := by decide +kernel
theorem d_M_entryOf_58 : decode m_M_entryOf.2.1 58 = .ok (.aload_n 0, 1) := by decide +kernel
theorem d_M_entryOf_59 : decode m_M_entryOf.2.1 59 = .ok (.getfield 107, 3) := by decide +kernel
theorem d_M_entryOf_62 : decode m_M_entryOf.2.1 62 = .ok (.iload_n 1, 1) := by decide +kernel
theorem d_M_entryOf_63 : decode m_M_entryOf.2.1 63 = .ok (.iaload, 1) := by decide +kernel
theorem d_M_entryOf_64 : decode m_M_entryOf.2.1 64 = .ok (.if_icmp .lt 5, 3) := by decide +kernel
theorem d_M_entryOf_67 : decode m_M_entryOf.2.1 67 = .ok (.iconst (-1), 1) := by decide +kernel
theorem d_M_entryOf_68 : decode m_M_entryOf.2.1 68 = .ok (.ireturn, 1) := by decide +kernel
theorem d_M_entryOf_69 : decode m_M_entryOf.2.1 69 = .ok (.aload_n 0, 1) := by decide +kernel
theorem d_M_entryOf_70 : decode m_M_entryOf.2.1 70 = .ok (.getfield 113, 3) := by decide +kernel
theorem d_M_entryOf_73 : decode m_M_entryOf.2.1 73 = .ok (.sipush 256, 3) := by decide +kernel
theorem d_M_entryOf_76 : decode m_M_entryOf.2.1 76 = .ok (.iload_n 1, 1) := by decide +kernel
theorem d_M_entryOf_77 : decode m_M_entryOf.2.1 77 = .ok (.imul, 1) := by decide +kernel
theorem d_M_entryOf_78 : decode m_M_entryOf.2.1 78 = .ok (.iload_n 2, 1) := by decide +kernel
theorem d_M_entryOf_79 : decode m_M_entryOf.2.1 79 = .ok (.iadd, 1) := by decide +kernel
theorem d_M_entryOf_80 : decode m_M_entryOf.2.1 80 = .ok (.bipush 10, 2) := by decide +kernel
theorem d_M_entryOf_82 : decode m_M_entryOf.2.1 82 = .ok (.isub, 1) := by decide +kernel
theorem d_M_entryOf_83 : decode m_M_entryOf.2.1 83 = .ok (.iaload, 1) := by decide +kernel
theorem d_M_entryOf_84 : decode m_M_entryOf.2.1 84 = .ok (.istore_n 3, 1) := by decide +kernel
theorem d_M_entryOf_85 : decode m_M_entryOf.2.1 85 = .ok (.iload_n 3, 1) := by decide +kernel
theorem d_M_entryOf_86 : decode m_M_entryOf.2.1 86 = .ok (.ldc 145, 2) := by decide +kernel
theorem d_M_entryOf_88 : decode m_M_entryOf.2.1 88 = .ok (.if_icmp .ne 8, 3) := by decide +kernel
theorem d_M_entryOf_91 : decode m_M_entryOf.2.1 91 = .ok (.bipush (-2), 2) := by decide +kernel
theorem d_M_entryOf_93 : decode m_M_entryOf.2.1 93 = .ok (.goto 4, 3) := by decide +kernel
theorem d_M_entryOf_96 : decode m_M_entryOf.2.1 96 = .ok (.iload_n 3, 1) := by decide +kernel
theorem d_M_entryOf_97 : decode m_M_entryOf.2.1 97 = .ok (.ireturn, 1) := by decide +kernel
theorem d_M_again_0 : decode m_M_again.2.1 0 = .ok (.aload_n 0, 1) := by decide +kernel
theorem d_M_again_1 : decode m_M_again.2.1 1 = .ok (.aload_n 0, 1) := by decide +kernel
theorem d_M_again_2 : decode m_M_again.2.1 2 = .ok (.iload_n 1, 1) := by decide +kernel
theorem d_M_again_3 : decode m_M_again.2.1 3 = .ok (.invokevirtual 131, 3) := by decide +kernel
theorem d_M_again_6 : decode m_M_again.2.1 6 = .ok (.ifCond .ne 7, 3) := by decide +kernel
theorem d_M_again_9 : decode m_M_again.2.1 9 = .ok (.iconst 1, 1) := by decide +kernel
theorem d_M_again_10 : decode m_M_again.2.1 10 = .ok (.goto 15, 3) := by decide +kernel
theorem d_M_again_13 : decode m_M_again.2.1 13 = .ok (.aload_n 0, 1) := by decide +kernel
theorem d_M_again_14 : decode m_M_again.2.1 14 = .ok (.getfield 135, 3) := by decide +kernel
theorem d_M_again_17 : decode m_M_again.2.1 17 = .ok (.ifCond .ne 7, 3) := by decide +kernel
theorem d_M_again_20 : decode m_M_again.2.1 20 = .ok (.iconst 2, 1) := by decide +kernel
theorem d_M_again_21 : decode m_M_again.2.1 21 = .ok (.goto 4, 3) := by decide +kernel
theorem d_M_again_24 : decode m_M_again.2.1 24 = .ok (.iconst 0, 1) := by decide +kernel
theorem d_M_again_25 : decode m_M_again.2.1 25 = .ok (.putfield 116, 3) := by decide +kernel
theorem d_M_again_28 : decode m_M_again.2.1 28 = .ok (.aload_n 0, 1) := by decide +kernel
theorem d_M_again_29 : decode m_M_again.2.1 29 = .ok (.getfield 116, 3) := by decide +kernel
theorem d_M_again_32 : decode m_M_again.2.1 32 = .ok (.ifCond .le 5, 3) := by decide +kernel
theorem d_M_again_35 : decode m_M_again.2.1 35 = .ok (.iconst 0, 1) := by decide +kernel
theorem d_M_again_36 : decode m_M_again.2.1 36 = .ok (.ireturn, 1) := by decide +kernel
theorem d_M_again_37 : decode m_M_again.2.1 37 = .ok (.aload_n 0, 1) := by decide +kernel
theorem d_M_again_38 : decode m_M_again.2.1 38 = .ok (.getfield 56, 3) := by decide +kernel
theorem d_M_again_41 : decode m_M_again.2.1 41 = .ok (.iload_n 1, 1) := by decide +kernel
theorem d_M_again_42 : decode m_M_again.2.1 42 = .ok (.iaload, 1) := by decide +kernel
theorem d_M_again_43 : decode m_M_again.2.1 43 = .ok (.ifCond .lt 22, 3) := by decide +kernel
theorem d_M_again_46 : decode m_M_again.2.1 46 = .ok (.aload_n 0, 1) := by decide +kernel
theorem d_M_again_47 : decode m_M_again.2.1 47 = .ok (.iconst 0, 1) := by decide +kernel
theorem d_M_again_48 : decode m_M_again.2.1 48 = .ok (.iload_n 1, 1) := by decide +kernel
theorem d_M_again_49 : decode m_M_again.2.1 49 = .ok (.aload_n 0, 1) := by decide +kernel
theorem d_M_again_50 : decode m_M_again.2.1 50 = .ok (.getfield 56, 3) := by decide +kernel
theorem d_M_again_53 : decode m_M_again.2.1 53 = .ok (.iload_n 1, 1) := by decide +kernel
theorem d_M_again_54 : decode m_M_again.2.1 54 = .ok (.iaload, 1) := by decide +kernel
theorem d_M_again_55 : decode m_M_again.2.1 55 = .ok (.aload_n 0, 1) := by decide +kernel
theorem d_M_again_56 : decode m_M_again.2.1 56 = .ok (.getfield 53, 3) := by decide +kernel
theorem d_M_again_59 : decode m_M_again.2.1 59 = .ok (.iload_n 1, 1) := by decide +kernel
theorem d_M_again_60 : decode m_M_again.2.1 60 = .ok (.iaload, 1) := by decide +kernel
theorem d_M_again_61 : decode m_M_again.2.1 61 = .ok (.invokevirtual 179, 3) := by decide +kernel
theorem d_M_again_64 : decode m_M_again.2.1 64 = .ok (.istore_n 2, 1) := by decide +kernel
theorem d_M_again_65 : decode m_M_again.2.1 65 = .ok (.aload_n 0, 1) := by decide +kernel
theorem d_M_again_66 : decode m_M_again.2.1 66 = .ok (.getfield 41, 3) := by decide +kernel
theorem d_M_again_69 : decode m_M_again.2.1 69 = .ok (.iload_n 1, 1) := by decide +kernel
theorem d_M_again_70 : decode m_M_again.2.1 70 = .ok (.baload, 1) := by decide +kernel
theorem d_M_again_71 : decode m_M_again.2.1 71 = .ok (.ifCond .eq 31, 3) := by decide +kernel
theorem d_M_again_74 : decode m_M_again.2.1 74 = .ok (.aload_n 0, 1) := by decide +kernel
theorem d_M_again_75 : decode m_M_again.2.1 75 = .ok (.getfield 47, 3) := by decide +kernel
theorem d_M_again_78 : decode m_M_again.2.1 78 = .ok (.iload_n 1, 1) := by decide +kernel
theorem d_M_again_79 : decode m_M_again.2.1 79 = .ok (.iaload, 1) := by decide +kernel
theorem d_M_again_80 : decode m_M_again.2.1 80 = .ok (.ifCond .lt 22, 3) := by decide +kernel
theorem d_M_again_83 : decode m_M_again.2.1 83 = .ok (.aload_n 0, 1) := by decide +kernel
theorem d_M_again_84 : decode m_M_again.2.1 84 = .ok (.iconst 1, 1) := by decide +kernel
theorem d_M_again_85 : decode m_M_again.2.1 85 = .ok (.iload_n 1, 1) := by decide +kernel
theorem d_M_again_86 : decode m_M_again.2.1 86 = .ok (.aload_n 0, 1) := by decide +kernel
theorem d_M_again_87 : decode m_M_again.2.1 87 = .ok (.getfield 47, 3) := by decide +kernel
theorem d_M_again_90 : decode m_M_again.2.1 90 = .ok (.iload_n 1, 1) := by decide +kernel
theorem d_M_again_91 : decode m_M_again.2.1 91 = .ok (.iaload, 1) := by decide +kernel
theorem d_M_again_92 : decode m_M_again.2.1 92 = .ok (.aload_n 0, 1) := by decide +kernel
theorem d_M_again_93 : decode m_M_again.2.1 93 = .ok (.getfield 53, 3) := by decide +kernel
theorem d_M_again_96 : decode m_M_again.2.1 96 = .ok (.iload_n 1, 1) := by decide +kernel
theorem d_M_again_97 : decode m_M_again.2.1 97 = .ok (.iaload, 1) := by decide +kernel
theorem d_M_again_98 : decode m_M_again.2.1 98 = .ok (.invokevirtual 179, 3) := by decide +kernel
theorem d_M_again_101 : decode m_M_again.2.1 101 = .ok (.istore_n 2, 1) := by decide +kernel
theorem d_M_again_102 : decode m_M_again.2.1 102 = .ok (.aload_n 0, 1) := by decide +kernel
theorem d_M_again_103 : decode m_M_again.2.1 103 = .ok (.getfield 68, 3) := by decide +kernel
theorem d_M_again_106 : decode m_M_again.2.1 106 = .ok (.iload_n 1, 1) := by decide +kernel
theorem d_M_again_107 : decode m_M_again.2.1 107 = .ok (.iaload, 1) := by decide +kernel
theorem d_M_again_108 : decode m_M_again.2.1 108 = .ok (.ifCond .le 17, 3) := by decide +kernel
theorem d_M_again_111 : decode m_M_again.2.1 111 = .ok (.aload_n 0, 1) := by decide +kernel
theorem d_M_again_112 : decode m_M_again.2.1 112 = .ok (.getfield 47, 3) := by decide +kernel
theorem d_M_again_115 : decode m_M_again.2.1 115 = .ok (.iload_n 1, 1) := by decide +kernel
theorem d_M_again_116 : decode m_M_again.2.1 116 = .ok (.iaload, 1) := by decide +kernel
theorem d_M_again_117 : decode m_M_again.2.1 117 = .ok (.ifCond .lt 8, 3) := by decide +kernel
theorem d_M_again_120 : decode m_M_again.2.1 120 = .ok (.aload_n 0, 1) := by decide +kernel
theorem d_M_again_121 : decode m_M_again.2.1 121 = .ok (.iload_n 1, 1) := by decide +kernel
theorem d_M_again_122 : decode m_M_again.2.1 122 = .ok (.invokevirtual 214, 3) := by decide +kernel
theorem d_M_again_125 : decode m_M_again.2.1 125 = .ok (.aload_n 0, 1) := by decide +kernel
theorem d_M_again_126 : decode m_M_again.2.1 126 = .ok (.getfield 80, 3) := by decide +kernel
theorem d_M_again_129 : decode m_M_again.2.1 129 = .ok (.iload_n 1, 1) := by decide +kernel
theorem d_M_again_130 : decode m_M_again.2.1 130 = .ok (.iaload, 1) := by decide +kernel
theorem d_M_again_131 : decode m_M_again.2.1 131 = .ok (.ifCond .le 8, 3) := by decide +kernel
theorem d_M_again_134 : decode m_M_again.2.1 134 = .ok (.aload_n 0, 1) := by decide +kernel
theorem d_M_again_135 : decode m_M_again.2.1 135 = .ok (.iload_n 1, 1) := by decide +kernel
theorem d_M_again_136 : decode m_M_again.2.1 136 = .ok (.invokevirtual 220, 3) := by decide +kernel
theorem d_M_again_139 : decode m_M_again.2.1 139 = .ok (.aload_n 0, 1) := by decide +kernel
theorem d_M_again_140 : decode m_M_again.2.1 140 = .ok (.getfield 176, 3) := by decide +kernel
theorem d_M_again_143 : decode m_M_again.2.1 143 = .ok (.ireturn, 1) := by decide +kernel
theorem d_M_change_0 : decode m_M_change.2.1 0 = .ok (.aload_n 0, 1) := by decide +kernel
theorem d_M_change_1 : decode m_M_change.2.1 1 = .ok (.invokevirtual 238, 3) := by decide +kernel
theorem d_M_change_4 : decode m_M_change.2.1 4 = .ok (.istore 6, 2) := by decide +kernel
theorem d_M_change_6 : decode m_M_change.2.1 6 = .ok (.aload_n 0, 1) := by decide +kernel
theorem d_M_change_7 : decode m_M_change.2.1 7 = .ok (.aload_n 0, 1) := by decide +kernel
theorem d_M_change_8 : decode m_M_change.2.1 8 = .ok (.iload_n 1, 1) := by decide +kernel
theorem d_M_change_9 : decode m_M_change.2.1 9 = .ok (.iload_n 2, 1) := by decide +kernel
theorem d_M_change_10 : decode m_M_change.2.1 10 = .ok (.iload_n 3, 1) := by decide +kernel
theorem d_M_change_11 : decode m_M_change.2.1 11 = .ok (.iload 4, 2) := by decide +kernel
theorem d_M_change_13 : decode m_M_change.2.1 13 = .ok (.iload 5, 2) := by decide +kernel
theorem d_M_change_15 : decode m_M_change.2.1 15 = .ok (.invokevirtual 153, 3) := by decide +kernel
theorem d_M_change_18 : decode m_M_change.2.1 18 = .ok (.ifCond .ne 7, 3) := by decide +kernel
theorem d_M_change_21 : decode m_M_change.2.1 21 = .ok (.iconst 1, 1) := by decide +kernel
theorem d_M_change_22 : decode m_M_change.2.1 22 = .ok (.goto 20, 3) := by decide +kernel
theorem d_M_change_25 : decode m_M_change.2.1 25 = .ok (.iload 6, 2) := by decide +kernel
theorem d_M_change_27 : decode m_M_change.2.1 27 = .ok (.iconst 1, 1) := by decide +kernel
theorem d_M_change_28 : decode m_M_change.2.1 28 = .ok (.if_icmp .eq 13, 3) := by decide +kernel
theorem d_M_change_31 : decode m_M_change.2.1 31 = .ok (.iload 6, 2) := by decide +kernel
theorem d_M_change_33 : decode m_M_change.2.1 33 = .ok (.iconst 2, 1) := by decide +kernel
theorem d_M_change_34 : decode m_M_change.2.1 34 = .ok (.if_icmp .eq 7, 3) := by decide +kernel
theorem d_M_change_37 : decode m_M_change.2.1 37 = .ok (.iconst 2, 1) := by decide +kernel
theorem d_M_change_38 : decode m_M_change.2.1 38 = .ok (.goto 4, 3) := by decide +kernel
theorem d_M_change_41 : decode m_M_change.2.1 41 = .ok (.iconst 0, 1) := by decide +kernel
theorem d_M_change_42 : decode m_M_change.2.1 42 = .ok (.putfield 116, 3) := by decide +kernel
theorem d_M_change_45 : decode m_M_change.2.1 45 = .ok (.aload_n 0, 1) := by decide +kernel
theorem d_M_change_46 : decode m_M_change.2.1 46 = .ok (.getfield 116, 3) := by decide +kernel
theorem d_M_change_49 : decode m_M_change.2.1 49 = .ok (.ifCond .le 5, 3) := by decide +kernel
theorem d_M_change_52 : decode m_M_change.2.1 52 = .ok (.iconst 0, 1) := by decide +kernel
theorem d_M_change_53 : decode m_M_change.2.1 53 = .ok (.ireturn, 1) := by decide +kernel
theorem d_M_change_54 : decode m_M_change.2.1 54 = .ok (.aload_n 0, 1) := by decide +kernel
theorem d_M_change_55 : decode m_M_change.2.1 55 = .ok (.iload_n 1, 1) := by decide +kernel
theorem d_M_change_56 : decode m_M_change.2.1 56 = .ok (.iload_n 2, 1) := by decide +kernel
theorem d_M_change_57 : decode m_M_change.2.1 57 = .ok (.iload_n 3, 1) := by decide +kernel
theorem d_M_change_58 : decode m_M_change.2.1 58 = .ok (.iload 4, 2) := by decide +kernel
theorem d_M_change_60 : decode m_M_change.2.1 60 = .ok (.iload 5, 2) := by decide +kernel
theorem d_M_change_62 : decode m_M_change.2.1 62 = .ok (.invokevirtual 157, 3) := by decide +kernel
theorem d_M_change_65 : decode m_M_change.2.1 65 = .ok (.aload_n 0, 1) := by decide +kernel
theorem d_M_change_66 : decode m_M_change.2.1 66 = .ok (.getfield 28, 3) := by decide +kernel
theorem d_M_change_69 : decode m_M_change.2.1 69 = .ok (.iload_n 1, 1) := by decide +kernel
theorem d_M_change_70 : decode m_M_change.2.1 70 = .ok (.iaload, 1) := by decide +kernel
theorem d_M_change_71 : decode m_M_change.2.1 71 = .ok (.istore 7, 2) := by decide +kernel
theorem d_M_change_73 : decode m_M_change.2.1 73 = .ok (.aload_n 0, 1) := by decide +kernel
theorem d_M_change_74 : decode m_M_change.2.1 74 = .ok (.getfield 34, 3) := by decide +kernel
theorem d_M_change_77 : decode m_M_change.2.1 77 = .ok (.iload 7, 2) := by decide +kernel
theorem d_M_change_79 : decode m_M_change.2.1 79 = .ok (.dup2, 1) := by decide +kernel
theorem d_M_change_80 : decode m_M_change.2.1 80 = .ok (.iaload, 1) := by decide +kernel
theorem d_M_change_81 : decode m_M_change.2.1 81 = .ok (.iconst 1, 1) := by decide +kernel
theorem d_M_change_82 : decode m_M_change.2.1 82 = .ok (.iadd, 1) := by decide +kernel
theorem d_M_change_83 : decode m_M_change.2.1 83 = .ok (.iastore, 1) := by decide +kernel
theorem d_M_change_84 : decode m_M_change.2.1 84 = .ok (.aload_n 0, 1) := by decide +kernel
theorem d_M_change_85 : decode m_M_change.2.1 85 = .ok (.iconst 0, 1) := by decide +kernel
theorem d_M_change_86 : decode m_M_change.2.1 86 = .ok (.putfield 205, 3) := by decide +kernel
theorem d_M_change_89 : decode m_M_change.2.1 89 = .ok (.aload_n 0, 1) := by decide +kernel
theorem d_M_change_90 : decode m_M_change.2.1 90 = .ok (.aload_n 0, 1) := by decide +kernel
theorem d_M_change_91 : decode m_M_change.2.1 91 = .ok (.getfield 50, 3) := by decide +kernel
theorem d_M_change_94 : decode m_M_change.2.1 94 = .ok (.iload_n 1, 1) := by decide +kernel
theorem d_M_change_95 : decode m_M_change.2.1 95 = .ok (.iaload, 1) := by decide +kernel
theorem d_M_change_96 : decode m_M_change.2.1 96 = .ok (.iload_n 2, 1) := by decide +kernel
theorem d_M_change_97 : decode m_M_change.2.1 97 = .ok (.invokestatic 120, 3) := by decide +kernel
theorem d_M_change_100 : decode m_M_change.2.1 100 = .ok (.ifCond .eq 7, 3) := by decide +kernel
theorem d_M_change_103 : decode m_M_change.2.1 103 = .ok (.iload_n 1, 1) := by decide +kernel
theorem d_M_change_104 : decode m_M_change.2.1 104 = .ok (.goto 4, 3) := by decide +kernel
theorem d_M_change_107 : decode m_M_change.2.1 107 = .ok (.iload_n 2, 1) := by decide +kernel
theorem d_M_change_108 : decode m_M_change.2.1 108 = .ok (.aload_n 0, 1) := by decide +kernel
theorem d_M_change_109 : decode m_M_change.2.1 109 = .ok (.getfield 34, 3) := by decide +kernel
theorem d_M_change_112 : decode m_M_change.2.1 112 = .ok (.iload 7, 2) := by decide +kernel
theorem d_M_change_114 : decode m_M_change.2.1 114 = .ok (.iaload, 1) := by decide +kernel
theorem d_M_change_115 : decode m_M_change.2.1 115 = .ok (.invokevirtual 186, 3) := by decide +kernel
theorem d_M_change_118 : decode m_M_change.2.1 118 = .ok (.aload_n 0, 1) := by decide +kernel
theorem d_M_change_119 : decode m_M_change.2.1 119 = .ok (.getfield 176, 3) := by decide +kernel
theorem d_M_change_122 : decode m_M_change.2.1 122 = .ok (.ireturn, 1) := by decide +kernel
theorem d_M_state_0 : decode m_M_state.2.1 0 = .ok (.aload_n 0, 1) := by decide +kernel
theorem d_M_state_1 : decode m_M_state.2.1 1 = .ok (.getfield 135, 3) := by decide +kernel
theorem d_M_state_4 : decode m_M_state.2.1 4 = .ok (.ifCond .ne 5, 3) := by decide +kernel
theorem d_M_state_7 : decode m_M_state.2.1 7 = .ok (.iconst 0, 1) := by decide +kernel
theorem d_M_state_8 : decode m_M_state.2.1 8 = .ok (.ireturn, 1) := by decide +kernel
theorem d_M_state_9 : decode m_M_state.2.1 9 = .ok (.iconst 0, 1) := by decide +kernel
theorem d_M_state_10 : decode m_M_state.2.1 10 = .ok (.istore_n 1, 1) := by decide +kernel
theorem d_M_state_11 : decode m_M_state.2.1 11 = .ok (.iconst 0, 1) := by decide +kernel
theorem d_M_state_12 : decode m_M_state.2.1 12 = .ok (.istore_n 2, 1) := by decide +kernel
theorem d_M_state_13 : decode m_M_state.2.1 13 = .ok (.iconst 0, 1) := by decide +kernel
theorem d_M_state_14 : decode m_M_state.2.1 14 = .ok (.istore_n 3, 1) := by decide +kernel
theorem d_M_state_15 : decode m_M_state.2.1 15 = .ok (.iconst 0, 1) := by decide +kernel
theorem d_M_state_16 : decode m_M_state.2.1 16 = .ok (.istore 4, 2) := by decide +kernel
theorem d_M_state_18 : decode m_M_state.2.1 18 = .ok (.iload 4, 2) := by decide +kernel
theorem d_M_state_20 : decode m_M_state.2.1 20 = .ok (.aload_n 0, 1) := by decide +kernel
theorem d_M_state_21 : decode m_M_state.2.1 21 = .ok (.getfield 124, 3) := by decide +kernel
theorem d_M_state_24 : decode m_M_state.2.1 24 = .ok (.if_icmp .ge 76, 3) := by decide +kernel
theorem d_M_state_27 : decode m_M_state.2.1 27 = .ok (.iload_n 1, 1) := by decide +kernel
theorem d_M_state_28 : decode m_M_state.2.1 28 = .ok (.ifCond .ne 13, 3) := by decide +kernel
theorem d_M_state_31 : decode m_M_state.2.1 31 = .ok (.aload_n 0, 1) := by decide +kernel
theorem d_M_state_32 : decode m_M_state.2.1 32 = .ok (.getfield 44, 3) := by decide +kernel
theorem d_M_state_35 : decode m_M_state.2.1 35 = .ok (.iload 4, 2) := by decide +kernel
theorem d_M_state_37 : decode m_M_state.2.1 37 = .ok (.baload, 1) := by decide +kernel
theorem d_M_state_38 : decode m_M_state.2.1 38 = .ok (.ifCond .eq 7, 3) := by decide +kernel
theorem d_M_state_41 : decode m_M_state.2.1 41 = .ok (.iconst 1, 1) := by decide +kernel
theorem d_M_state_42 : decode m_M_state.2.1 42 = .ok (.goto 4, 3) := by decide +kernel
theorem d_M_state_45 : decode m_M_state.2.1 45 = .ok (.iconst 0, 1) := by decide +kernel
theorem d_M_state_46 : decode m_M_state.2.1 46 = .ok (.istore_n 1, 1) := by decide +kernel
theorem d_M_state_47 : decode m_M_state.2.1 47 = .ok (.iload_n 2, 1) := by decide +kernel
theorem d_M_state_48 : decode m_M_state.2.1 48 = .ok (.ifCond .ne 12, 3) := by decide +kernel
theorem d_M_state_51 : decode m_M_state.2.1 51 = .ok (.aload_n 0, 1) := by decide +kernel
theorem d_M_state_52 : decode m_M_state.2.1 52 = .ok (.iload 4, 2) := by decide +kernel
theorem d_M_state_54 : decode m_M_state.2.1 54 = .ok (.invokevirtual 232, 3) := by decide +kernel
theorem d_M_state_57 : decode m_M_state.2.1 57 = .ok (.ifCond .eq 7, 3) := by decide +kernel
theorem d_M_state_60 : decode m_M_state.2.1 60 = .ok (.iconst 1, 1) := by decide +kernel
theorem d_M_state_61 : decode m_M_state.2.1 61 = .ok (.goto 4, 3) := by decide +kernel
theorem d_M_state_64 : decode m_M_state.2.1 64 = .ok (.iconst 0, 1) := by decide +kernel
theorem d_M_state_65 : decode m_M_state.2.1 65 = .ok (.istore_n 2, 1) := by decide +kernel
theorem d_M_state_66 : decode m_M_state.2.1 66 = .ok (.iload_n 3, 1) := by decide +kernel
theorem d_M_state_67 : decode m_M_state.2.1 67 = .ok (.ifCond .ne 21, 3) := by decide +kernel
theorem d_M_state_70 : decode m_M_state.2.1 70 = .ok (.aload_n 0, 1) := by decide +kernel
theorem d_M_state_71 : decode m_M_state.2.1 71 = .ok (.iload 4, 2) := by decide +kernel
theorem d_M_state_73 : decode m_M_state.2.1 73 = .ok (.invokevirtual 235, 3) := by decide +kernel
theorem d_M_state_76 : decode m_M_state.2.1 76 = .ok (.ifCond .ne 16, 3) := by decide +kernel
theorem d_M_state_79 : decode m_M_state.2.1 79 = .ok (.aload_n 0, 1) := by decide +kernel
theorem d_M_state_80 : decode m_M_state.2.1 80 = .ok (.iload 4, 2) := by decide +kernel
theorem d_M_state_82 : decode m_M_state.2.1 82 = .ok (.invokevirtual 232, 3) := by decide +kernel
theorem d_M_state_85 : decode m_M_state.2.1 85 = .ok (.ifCond .ne 7, 3) := by decide +kernel
theorem d_M_state_88 : decode m_M_state.2.1 88 = .ok (.iconst 1, 1) := by decide +kernel
theorem d_M_state_89 : decode m_M_state.2.1 89 = .ok (.goto 4, 3) := by decide +kernel
theorem d_M_state_92 : decode m_M_state.2.1 92 = .ok (.iconst 0, 1) := by decide +kernel
theorem d_M_state_93 : decode m_M_state.2.1 93 = .ok (.istore_n 3, 1) := by decide +kernel
theorem d_M_state_94 : decode m_M_state.2.1 94 = .ok (.iinc 4 1, 3) := by decide +kernel
theorem d_M_state_97 : decode m_M_state.2.1 97 = .ok (.goto (-79), 3) := by decide +kernel
theorem d_M_state_100 : decode m_M_state.2.1 100 = .ok (.iload_n 1, 1) := by decide +kernel
theorem d_M_state_101 : decode m_M_state.2.1 101 = .ok (.ifCond .eq 7, 3) := by decide +kernel
theorem d_M_state_104 : decode m_M_state.2.1 104 = .ok (.iconst 3, 1) := by decide +kernel
theorem d_M_state_105 : decode m_M_state.2.1 105 = .ok (.goto 20, 3) := by decide +kernel
theorem d_M_state_108 : decode m_M_state.2.1 108 = .ok (.iload_n 3, 1) := by decide +kernel
theorem d_M_state_109 : decode m_M_state.2.1 109 = .ok (.ifCond .eq 7, 3) := by decide +kernel
theorem d_M_state_112 : decode m_M_state.2.1 112 = .ok (.iconst 0, 1) := by decide +kernel
theorem d_M_state_113 : decode m_M_state.2.1 113 = .ok (.goto 12, 3) := by decide +kernel
theorem d_M_state_116 : decode m_M_state.2.1 116 = .ok (.iload_n 2, 1) := by decide +kernel
theorem d_M_state_117 : decode m_M_state.2.1 117 = .ok (.ifCond .eq 7, 3) := by decide +kernel
theorem d_M_state_120 : decode m_M_state.2.1 120 = .ok (.iconst 2, 1) := by decide +kernel
theorem d_M_state_121 : decode m_M_state.2.1 121 = .ok (.goto 4, 3) := by decide +kernel
theorem d_M_state_124 : decode m_M_state.2.1 124 = .ok (.iconst 1, 1) := by decide +kernel
theorem d_M_state_125 : decode m_M_state.2.1 125 = .ok (.ireturn, 1) := by decide +kernel
theorem d_M_isLost_0 : decode m_M_isLost.2.1 0 = .ok (.aload_n 0, 1) := by decide +kernel
theorem d_M_isLost_1 : decode m_M_isLost.2.1 1 = .ok (.getfield 83, 3) := by decide +kernel
theorem d_M_isLost_4 : decode m_M_isLost.2.1 4 = .ok (.aload_n 0, 1) := by decide +kernel
theorem d_M_isLost_5 : decode m_M_isLost.2.1 5 = .ok (.getfield 31, 3) := by decide +kernel
theorem d_M_isLost_8 : decode m_M_isLost.2.1 8 = .ok (.aload_n 0, 1) := by decide +kernel
theorem d_M_isLost_9 : decode m_M_isLost.2.1 9 = .ok (.getfield 28, 3) := by decide +kernel
theorem d_M_isLost_12 : decode m_M_isLost.2.1 12 = .ok (.iload_n 1, 1) := by decide +kernel
theorem d_M_isLost_13 : decode m_M_isLost.2.1 13 = .ok (.iaload, 1) := by decide +kernel
theorem d_M_isLost_14 : decode m_M_isLost.2.1 14 = .ok (.iaload, 1) := by decide +kernel
theorem d_M_isLost_15 : decode m_M_isLost.2.1 15 = .ok (.iaload, 1) := by decide +kernel
theorem d_M_isLost_16 : decode m_M_isLost.2.1 16 = .ok (.aload_n 0, 1) := by decide +kernel
theorem d_M_isLost_17 : decode m_M_isLost.2.1 17 = .ok (.getfield 34, 3) := by decide +kernel
theorem d_M_isLost_20 : decode m_M_isLost.2.1 20 = .ok (.aload_n 0, 1) := by decide +kernel
theorem d_M_isLost_21 : decode m_M_isLost.2.1 21 = .ok (.getfield 28, 3) := by decide +kernel
theorem d_M_isLost_24 : decode m_M_isLost.2.1 24 = .ok (.iload_n 1, 1) := by decide +kernel
theorem d_M_isLost_25 : decode m_M_isLost.2.1 25 = .ok (.iaload, 1) := by decide +kernel
theorem d_M_isLost_26 : decode m_M_isLost.2.1 26 = .ok (.iaload, 1) := by decide +kernel
theorem d_M_isLost_27 : decode m_M_isLost.2.1 27 = .ok (.if_icmp .ne 7, 3) := by decide +kernel
theorem d_M_isLost_30 : decode m_M_isLost.2.1 30 = .ok (.iconst 1, 1) := by decide +kernel
theorem d_M_isLost_31 : decode m_M_isLost.2.1 31 = .ok (.goto 4, 3) := by decide +kernel
theorem d_M_isLost_34 : decode m_M_isLost.2.1 34 = .ok (.iconst 0, 1) := by decide +kernel
theorem d_M_isLost_35 : decode m_M_isLost.2.1 35 = .ok (.ireturn, 1) := by decide +kernel
theorem d_M_isSettled_0 : decode m_M_isSettled.2.1 0 = .ok (.aload_n 0, 1) := by decide +kernel
theorem d_M_isSettled_1 : decode m_M_isSettled.2.1 1 = .ok (.getfield 135, 3) := by decide +kernel
theorem d_M_isSettled_4 : decode m_M_isSettled.2.1 4 = .ok (.ifCond .eq 27, 3) := by decide +kernel
theorem d_M_isSettled_7 : decode m_M_isSettled.2.1 7 = .ok (.aload_n 0, 1) := by decide +kernel
theorem d_M_isSettled_8 : decode m_M_isSettled.2.1 8 = .ok (.getfield 80, 3) := by decide +kernel
theorem d_M_isSettled_11 : decode m_M_isSettled.2.1 11 = .ok (.iload_n 1, 1) := by decide +kernel
theorem d_M_isSettled_12 : decode m_M_isSettled.2.1 12 = .ok (.iaload, 1) := by decide +kernel
theorem d_M_isSettled_13 : decode m_M_isSettled.2.1 13 = .ok (.aload_n 0, 1) := by decide +kernel
theorem d_M_isSettled_14 : decode m_M_isSettled.2.1 14 = .ok (.getfield 34, 3) := by decide +kernel
theorem d_M_isSettled_17 : decode m_M_isSettled.2.1 17 = .ok (.aload_n 0, 1) := by decide +kernel
theorem d_M_isSettled_18 : decode m_M_isSettled.2.1 18 = .ok (.getfield 28, 3) := by decide +kernel
theorem d_M_isSettled_21 : decode m_M_isSettled.2.1 21 = .ok (.iload_n 1, 1) := by decide +kernel
theorem d_M_isSettled_22 : decode m_M_isSettled.2.1 22 = .ok (.iaload, 1) := by decide +kernel
theorem d_M_isSettled_23 : decode m_M_isSettled.2.1 23 = .ok (.iaload, 1) := by decide +kernel
theorem d_M_isSettled_24 : decode m_M_isSettled.2.1 24 = .ok (.if_icmp .ne 7, 3) := by decide +kernel
theorem d_M_isSettled_27 : decode m_M_isSettled.2.1 27 = .ok (.iconst 1, 1) := by decide +kernel
theorem d_M_isSettled_28 : decode m_M_isSettled.2.1 28 = .ok (.goto 4, 3) := by decide +kernel
theorem d_M_isSettled_31 : decode m_M_isSettled.2.1 31 = .ok (.iconst 0, 1) := by decide +kernel
theorem d_M_isSettled_32 : decode m_M_isSettled.2.1 32 = .ok (.ireturn, 1) := by decide +kernel
theorem d_M_done_0 : decode m_M_done.2.1 0 = .ok (.aload_n 0, 1) := by decide +kernel
theorem d_M_done_1 : decode m_M_done.2.1 1 = .ok (.iconst 0, 1) := by decide +kernel
theorem d_M_done_2 : decode m_M_done.2.1 2 = .ok (.putfield 116, 3) := by decide +kernel
theorem d_M_done_5 : decode m_M_done.2.1 5 = .ok (.aload_n 0, 1) := by decide +kernel
theorem d_M_done_6 : decode m_M_done.2.1 6 = .ok (.invokevirtual 238, 3) := by decide +kernel
theorem d_M_done_9 : decode m_M_done.2.1 9 = .ok (.ireturn, 1) := by decide +kernel
theorem d_M_value_0 : decode m_M_value.2.1 0 = .ok (.aload_n 0, 1) := by decide +kernel
theorem d_M_value_1 : decode m_M_value.2.1 1 = .ok (.iconst 0, 1) := by decide +kernel
theorem d_M_value_2 : decode m_M_value.2.1 2 = .ok (.putfield 116, 3) := by decide +kernel
theorem d_M_value_5 : decode m_M_value.2.1 5 = .ok (.aload_n 0, 1) := by decide +kernel
theorem d_M_value_6 : decode m_M_value.2.1 6 = .ok (.iload_n 1, 1) := by decide +kernel
theorem d_M_value_7 : decode m_M_value.2.1 7 = .ok (.invokevirtual 131, 3) := by decide +kernel
theorem d_M_value_10 : decode m_M_value.2.1 10 = .ok (.ifCond .eq 20, 3) := by decide +kernel
theorem d_M_value_13 : decode m_M_value.2.1 13 = .ok (.aload_n 0, 1) := by decide +kernel
theorem d_M_value_14 : decode m_M_value.2.1 14 = .ok (.iload_n 1, 1) := by decide +kernel
theorem d_M_value_15 : decode m_M_value.2.1 15 = .ok (.invokevirtual 235, 3) := by decide +kernel
theorem d_M_value_18 : decode m_M_value.2.1 18 = .ok (.ifCond .eq 12, 3) := by decide +kernel
theorem d_M_value_21 : decode m_M_value.2.1 21 = .ok (.aload_n 0, 1) := by decide +kernel
theorem d_M_value_22 : decode m_M_value.2.1 22 = .ok (.getfield 86, 3) := by decide +kernel
theorem d_M_value_25 : decode m_M_value.2.1 25 = .ok (.iload_n 1, 1) := by decide +kernel
theorem d_M_value_26 : decode m_M_value.2.1 26 = .ok (.iaload, 1) := by decide +kernel
theorem d_M_value_27 : decode m_M_value.2.1 27 = .ok (.goto 4, 3) := by decide +kernel
theorem d_M_value_30 : decode m_M_value.2.1 30 = .ok (.iconst (-1), 1) := by decide +kernel
theorem d_M_value_31 : decode m_M_value.2.1 31 = .ok (.ireturn, 1) := by decide +kernel
theorem d_M_total_0 : decode m_M_total.2.1 0 = .ok (.aload_n 0, 1) := by decide +kernel
theorem d_M_total_1 : decode m_M_total.2.1 1 = .ok (.iconst 0, 1) := by decide +kernel
theorem d_M_total_2 : decode m_M_total.2.1 2 = .ok (.putfield 116, 3) := by decide +kernel
theorem d_M_total_5 : decode m_M_total.2.1 5 = .ok (.aload_n 0, 1) := by decide +kernel
theorem d_M_total_6 : decode m_M_total.2.1 6 = .ok (.invokevirtual 238, 3) := by decide +kernel
theorem d_M_total_9 : decode m_M_total.2.1 9 = .ok (.iconst 1, 1) := by decide +kernel
theorem d_M_total_10 : decode m_M_total.2.1 10 = .ok (.if_icmp .eq 5, 3) := by decide +kernel
theorem d_M_total_13 : decode m_M_total.2.1 13 = .ok (.iconst (-1), 1) := by decide +kernel
theorem d_M_total_14 : decode m_M_total.2.1 14 = .ok (.ireturn, 1) := by decide +kernel
theorem d_M_total_15 : decode m_M_total.2.1 15 = .ok (.iconst 0, 1) := by decide +kernel
theorem d_M_total_16 : decode m_M_total.2.1 16 = .ok (.istore_n 1, 1) := by decide +kernel
theorem d_M_total_17 : decode m_M_total.2.1 17 = .ok (.iconst 0, 1) := by decide +kernel
theorem d_M_total_18 : decode m_M_total.2.1 18 = .ok (.istore_n 2, 1) := by decide +kernel
theorem d_M_total_19 : decode m_M_total.2.1 19 = .ok (.iload_n 2, 1) := by decide +kernel
theorem d_M_total_20 : decode m_M_total.2.1 20 = .ok (.aload_n 0, 1) := by decide +kernel
theorem d_M_total_21 : decode m_M_total.2.1 21 = .ok (.getfield 124, 3) := by decide +kernel
theorem d_M_total_24 : decode m_M_total.2.1 24 = .ok (.if_icmp .ge 41, 3) := by decide +kernel
theorem d_M_total_27 : decode m_M_total.2.1 27 = .ok (.aload_n 0, 1) := by decide +kernel
theorem d_M_total_28 : decode m_M_total.2.1 28 = .ok (.getfield 31, 3) := by decide +kernel
theorem d_M_total_31 : decode m_M_total.2.1 31 = .ok (.aload_n 0, 1) := by decide +kernel
theorem d_M_total_32 : decode m_M_total.2.1 32 = .ok (.getfield 28, 3) := by decide +kernel
theorem d_M_total_35 : decode m_M_total.2.1 35 = .ok (.iload_n 2, 1) := by decide +kernel
theorem d_M_total_36 : decode m_M_total.2.1 36 = .ok (.iaload, 1) := by decide +kernel
theorem d_M_total_37 : decode m_M_total.2.1 37 = .ok (.iaload, 1) := by decide +kernel
theorem d_M_total_38 : decode m_M_total.2.1 38 = .ok (.iload_n 2, 1) := by decide +kernel
theorem d_M_total_39 : decode m_M_total.2.1 39 = .ok (.if_icmp .ne 18, 3) := by decide +kernel
theorem d_M_total_42 : decode m_M_total.2.1 42 = .ok (.iload_n 1, 1) := by decide +kernel
theorem d_M_total_43 : decode m_M_total.2.1 43 = .ok (.aload_n 0, 1) := by decide +kernel
theorem d_M_total_44 : decode m_M_total.2.1 44 = .ok (.getfield 77, 3) := by decide +kernel
theorem d_M_total_47 : decode m_M_total.2.1 47 = .ok (.sipush 256, 3) := by decide +kernel
theorem d_M_total_50 : decode m_M_total.2.1 50 = .ok (.iload_n 2, 1) := by decide +kernel
theorem d_M_total_51 : decode m_M_total.2.1 51 = .ok (.imul, 1) := by decide +kernel
theorem d_M_total_52 : decode m_M_total.2.1 52 = .ok (.iaload, 1) := by decide +kernel
theorem d_M_total_53 : decode m_M_total.2.1 53 = .ok (.iadd, 1) := by decide +kernel
theorem d_M_total_54 : decode m_M_total.2.1 54 = .ok (.goto 4, 3) := by decide +kernel
theorem d_M_total_57 : decode m_M_total.2.1 57 = .ok (.iload_n 1, 1) := by decide +kernel
theorem d_M_total_58 : decode m_M_total.2.1 58 = .ok (.istore_n 1, 1) := by decide +kernel
theorem d_M_total_59 : decode m_M_total.2.1 59 = .ok (.iinc 2 1, 3) := by decide +kernel
theorem d_M_total_62 : decode m_M_total.2.1 62 = .ok (.goto (-43), 3) := by decide +kernel
theorem d_M_total_65 : decode m_M_total.2.1 65 = .ok (.iload_n 1, 1) := by decide +kernel
theorem d_M_total_66 : decode m_M_total.2.1 66 = .ok (.ireturn, 1) := by decide +kernel
theorem d_M_parent_0 : decode m_M_parent.2.1 0 = .ok (.aload_n 0, 1) := by decide +kernel
theorem d_M_parent_1 : decode m_M_parent.2.1 1 = .ok (.iconst 0, 1) := by decide +kernel
theorem d_M_parent_2 : decode m_M_parent.2.1 2 = .ok (.putfield 116, 3) := by decide +kernel
theorem d_M_parent_5 : decode m_M_parent.2.1 5 = .ok (.aload_n 0, 1) := by decide +kernel
theorem d_M_parent_6 : decode m_M_parent.2.1 6 = .ok (.iload_n 1, 1) := by decide +kernel
theorem d_M_parent_7 : decode m_M_parent.2.1 7 = .ok (.invokevirtual 131, 3) := by decide +kernel
theorem d_M_parent_10 : decode m_M_parent.2.1 10 = .ok (.ifCond .eq 12, 3) := by decide +kernel
theorem d_M_parent_13 : decode m_M_parent.2.1 13 = .ok (.aload_n 0, 1) := by decide +kernel
theorem d_M_parent_14 : decode m_M_parent.2.1 14 = .ok (.getfield 47, 3) := by decide +kernel
theorem d_M_parent_17 : decode m_M_parent.2.1 17 = .ok (.iload_n 1, 1) := by decide +kernel
theorem d_M_parent_18 : decode m_M_parent.2.1 18 = .ok (.iaload, 1) := by decide +kernel
theorem d_M_parent_19 : decode m_M_parent.2.1 19 = .ok (.goto 4, 3) := by decide +kernel
theorem d_M_parent_22 : decode m_M_parent.2.1 22 = .ok (.iconst (-1), 1) := by decide +kernel
theorem d_M_parent_23 : decode m_M_parent.2.1 23 = .ok (.ireturn, 1) := by decide +kernel
end
section
/-! DECODED: written by wip/whole/gen/dec.py -/
theorem d_M_separator_0 : decode m_M_separator.2.1 0 = .ok (.aload_n 0, 1) := by decide +kernel
theorem d_M_separator_1 : decode m_M_separator.2.1 1 = .ok (.iconst 0, 1) := by decide +kernel
theorem d_M_separator_2 : decode m_M_separator.2.1 2 = .ok (.putfield 116, 3) := by decide +kernel
theorem d_M_separator_5 : decode m_M_separator.2.1 5 = .ok (.aload_n 0, 1) := by decide +kernel
theorem d_M_separator_6 : decode m_M_separator.2.1 6 = .ok (.iload_n 1, 1) := by decide +kernel
theorem d_M_separator_7 : decode m_M_separator.2.1 7 = .ok (.invokevirtual 131, 3) := by decide +kernel
theorem d_M_separator_10 : decode m_M_separator.2.1 10 = .ok (.ifCond .eq 21, 3) := by decide +kernel
theorem d_M_separator_13 : decode m_M_separator.2.1 13 = .ok (.aload_n 0, 1) := by decide +kernel
theorem d_M_separator_14 : decode m_M_separator.2.1 14 = .ok (.getfield 41, 3) := by decide +kernel
theorem d_M_separator_17 : decode m_M_separator.2.1 17 = .ok (.iload_n 1, 1) := by decide +kernel
theorem d_M_separator_18 : decode m_M_separator.2.1 18 = .ok (.baload, 1) := by decide +kernel
theorem d_M_separator_19 : decode m_M_separator.2.1 19 = .ok (.ifCond .eq 12, 3) := by decide +kernel
theorem d_M_separator_22 : decode m_M_separator.2.1 22 = .ok (.aload_n 0, 1) := by decide +kernel
theorem d_M_separator_23 : decode m_M_separator.2.1 23 = .ok (.getfield 65, 3) := by decide +kernel
theorem d_M_separator_26 : decode m_M_separator.2.1 26 = .ok (.iload_n 1, 1) := by decide +kernel
theorem d_M_separator_27 : decode m_M_separator.2.1 27 = .ok (.iaload, 1) := by decide +kernel
theorem d_M_separator_28 : decode m_M_separator.2.1 28 = .ok (.goto 4, 3) := by decide +kernel
theorem d_M_separator_31 : decode m_M_separator.2.1 31 = .ok (.iconst (-1), 1) := by decide +kernel
theorem d_M_separator_32 : decode m_M_separator.2.1 32 = .ok (.ireturn, 1) := by decide +kernel
theorem d_M_entries_0 : decode m_M_entries.2.1 0 = .ok (.aload_n 0, 1) := by decide +kernel
theorem d_M_entries_1 : decode m_M_entries.2.1 1 = .ok (.iconst 0, 1) := by decide +kernel
theorem d_M_entries_2 : decode m_M_entries.2.1 2 = .ok (.putfield 116, 3) := by decide +kernel
theorem d_M_entries_5 : decode m_M_entries.2.1 5 = .ok (.aload_n 0, 1) := by decide +kernel
theorem d_M_entries_6 : decode m_M_entries.2.1 6 = .ok (.iload_n 1, 1) := by decide +kernel
theorem d_M_entries_7 : decode m_M_entries.2.1 7 = .ok (.invokevirtual 131, 3) := by decide +kernel
theorem d_M_entries_10 : decode m_M_entries.2.1 10 = .ok (.ifCond .eq 21, 3) := by decide +kernel
theorem d_M_entries_13 : decode m_M_entries.2.1 13 = .ok (.aload_n 0, 1) := by decide +kernel
theorem d_M_entries_14 : decode m_M_entries.2.1 14 = .ok (.getfield 68, 3) := by decide +kernel
theorem d_M_entries_17 : decode m_M_entries.2.1 17 = .ok (.iload_n 1, 1) := by decide +kernel
theorem d_M_entries_18 : decode m_M_entries.2.1 18 = .ok (.iaload, 1) := by decide +kernel
theorem d_M_entries_19 : decode m_M_entries.2.1 19 = .ok (.ifCond .le 12, 3) := by decide +kernel
theorem d_M_entries_22 : decode m_M_entries.2.1 22 = .ok (.aload_n 0, 1) := by decide +kernel
theorem d_M_entries_23 : decode m_M_entries.2.1 23 = .ok (.getfield 74, 3) := by decide +kernel
theorem d_M_entries_26 : decode m_M_entries.2.1 26 = .ok (.iload_n 1, 1) := by decide +kernel
theorem d_M_entries_27 : decode m_M_entries.2.1 27 = .ok (.iaload, 1) := by decide +kernel
theorem d_M_entries_28 : decode m_M_entries.2.1 28 = .ok (.goto 4, 3) := by decide +kernel
theorem d_M_entries_31 : decode m_M_entries.2.1 31 = .ok (.iconst (-1), 1) := by decide +kernel
theorem d_M_entries_32 : decode m_M_entries.2.1 32 = .ok (.ireturn, 1) := by decide +kernel
theorem d_M_tables_0 : decode m_M_tables.2.1 0 = .ok (.aload_n 0, 1) := by decide +kernel
theorem d_M_tables_1 : decode m_M_tables.2.1 1 = .ok (.iconst 0, 1) := by decide +kernel
theorem d_M_tables_2 : decode m_M_tables.2.1 2 = .ok (.putfield 116, 3) := by decide +kernel
theorem d_M_tables_5 : decode m_M_tables.2.1 5 = .ok (.aload_n 0, 1) := by decide +kernel
theorem d_M_tables_6 : decode m_M_tables.2.1 6 = .ok (.getfield 205, 3) := by decide +kernel
theorem d_M_tables_9 : decode m_M_tables.2.1 9 = .ok (.ireturn, 1) := by decide +kernel
end
section
/-! Numbers laid on the stack as literals; entry of methods of classes that have natives -/
section
variable {Γ : jm_G} {μ : jm_Mt} {d rc rs : Nat} {Q : jm_O → jm_H → Prop} {pc : Nat} {ls : List (Option Value)} {st : List Value} {h : jm_H}
theorem jm_iconstL {n : Int} {v : Int32} (hd : decode μ.2.1 pc = .ok (.iconst n, 1)) (hv : Int32.ofInt n = v) (k : jm_W Γ μ d rc rs Q (pc + 1) ls (.int v :: st) h) : jm_W Γ μ d rc rs Q pc ls st h := by
  subst hv
  exact jm_iconst hd k
theorem jm_bipushL {n : Int} {v : Int32} (hd : decode μ.2.1 pc = .ok (.bipush n, 2)) (hv : (Int8.ofInt n).toInt32 = v) (k : jm_W Γ μ d rc rs Q (pc + 2) ls (.int v :: st) h) : jm_W Γ μ d rc rs Q pc ls st h := by
  subst hv
  exact jm_bipush hd k
theorem jm_sipushL {n : Int} {v : Int32} (hd : decode μ.2.1 pc = .ok (.sipush n, 3)) (hv : (Int16.ofInt n).toInt32 = v) (k : jm_W Γ μ d rc rs Q (pc + 3) ls (.int v :: st) h) : jm_W Γ μ d rc rs Q pc ls st h := by
  subst hv
  exact jm_sipush hd k
theorem jm_iincL {i : Nat} {n : Int} {x v : Int32} (hd : decode μ.2.1 pc = .ok (.iinc i n, 3)) (hx : ls[i]? = some (some (.int x))) (hv : x + Int32.ofInt n = v) (k : jm_W Γ μ d rc rs Q (pc + 3) (ls.set i (some (.int v))) st h) : jm_W Γ μ d rc rs Q pc ls st h := by
  subst hv
  exact jm_iinc hd hx k
theorem jm_entryF {av : List Value} {mc ms : Nat} (hy : plainFor μ.1 = true) (hav : ∀ v ∈ av, v.category = 1) (hlen : av.length ≤ μ.2.2.1)
    (k : jm_W Γ μ d mc ms Q 0 (av.map some ++ List.replicate (μ.2.2.1 - av.length) none) [] h) : jm_M Γ μ d av h mc ms Q := by
  refine MetFree.of_bodySF (code := μ.2.1) (maxLocals := μ.2.2.1) (ret := μ.2.2.2.1) hy ?_ ?_
  · intro args s m hp hn
    obtain ⟨meth, c, h1, h2, h3, h4, h5, h6, -, -⟩ := jm_cw_spec hn (atoms_spec (ws := jm_cw μ :: jm_ws) hp _ List.mem_cons_self)
    exact ⟨meth, c, h1, h2, h3, h4, h5, h6⟩
  · intro p e s m args below meth c s₁ B hml hP _
    obtain ⟨rfl, hC, hR⟩ := hP
    have hts := atoms_spec (ws := jm_cw μ :: jm_ws) B.pre
    have hown : s.vm.findClass μ.1.cls = some m.cls := findClass_of_methodNamed B.named
    obtain ⟨meth', c', h1, h2, -, -, -, -, h7, -⟩ := jm_cw_spec B.named (hts _ List.mem_cons_self)
    cases B.method.symm.trans h1
    cases (Stand.of_body B).code.symm.trans h2
    have hE : jm_E Γ μ d p (jm_rm d mc ms) s m av.toArray meth c :=
      ⟨B.exec, B.bytes, B.returns, hml, hown, fun w hw => hts w (List.mem_cons_of_mem _ hw), hC, B.notSynchronized, (name_of_methodNamed B.named B.method).1, h7, Nat.le_refl _, Nat.le_refl _, hR.1, hR.2.1, hR.2.2.1⟩
    have hsl := jm_sl av hav
    have hlv := lv_entry av (n := μ.2.2.1) (by rw [hsl, List.length_map]; exact hlen)
    have hw := k p e (jm_rm d mc ms) s m av.toArray below meth c s.heap [] 0 0 ((lg_sl av ++ List.replicate (μ.2.2.1 - (lg_sl av).length) Slot.unset).toArray) hE hR (fun q hq => by cases hq) (by show 0 + mc ≤ mc; omega) (by show 0 + ms ≤ ms; omega)
      ⟨by rw [hlv.1]; simp; omega, hlv.2.1, fun i v hi => by
        have hi' : i < av.length := by
          by_cases g : i < av.length
          · exact g
          · rw [List.getElem?_append_right (by simp; omega)] at hi
            have := List.mem_of_getElem? hi
            rw [List.mem_replicate] at this
            cases this.2
        rw [List.getElem?_append_left (by simpa using hi'), List.getElem?_map, List.getElem?_eq_getElem hi'] at hi
        have hv : av[i] = v := by simpa using hi
        refine ⟨?_, hav v (hv ▸ List.getElem_mem hi')⟩
        rw [hsl]
        simp [List.getElem?_append_left, hi', hv]⟩ (by simp; omega)
    rw [← lg_entry_eq] at hw
    have hh0 : s₁.heap = s.heap := by rw [B.state]; rfl
    obtain ⟨t, a1, o, b1, b2, b3⟩ := hw s₁ hh0 (Stand.of_body B)
    exact ⟨t, o, a1, b1, b2, b3⟩
end
end
section
/-! A truth on the stack, asked -/
section
variable {Γ : jm_G} {μ : jm_Mt} {d rc rs : Nat} {Q : jm_O → jm_H → Prop} {pc : Nat} {ls : List (Option Value)} {st : List Value} {h : jm_H}
theorem jm_bz_eq {P : Prop} [Decidable P] {off : Int} (tgt : Nat) (hd : decode μ.2.1 pc = .ok (.ifCond .eq off, 3)) (ht : (pc : Int) + off = (tgt : Int)) (kt : ¬ P → jm_W Γ μ d rc rs Q tgt ls st h) (kf : P → jm_W Γ μ d rc rs Q (pc + 3) ls st h) : jm_W Γ μ d rc rs Q pc ls (.int (if P then 1 else 0) :: st) h :=
  jm_if_eq tgt hd ht (fun q => kt (fun p => by rw [if_pos p] at q; exact absurd q (by decide))) (fun q => kf (Decidable.byContradiction fun p => q (if_neg p)))
theorem jm_bz_ne {P : Prop} [Decidable P] {off : Int} (tgt : Nat) (hd : decode μ.2.1 pc = .ok (.ifCond .ne off, 3)) (ht : (pc : Int) + off = (tgt : Int)) (kt : P → jm_W Γ μ d rc rs Q tgt ls st h) (kf : ¬ P → jm_W Γ μ d rc rs Q (pc + 3) ls st h) : jm_W Γ μ d rc rs Q pc ls (.int (if P then 1 else 0) :: st) h :=
  jm_if_ne tgt hd ht (fun q => kt (Decidable.byContradiction fun p => q (if_neg p))) (fun q => kf (fun p => q (by rw [if_pos p]; decide)))
def thF (c1 c2 : Prop) [Decidable c1] [Decidable c2] : Int32 := if c1 then 1 else if c2 then 2 else 0
theorem thF_0 {c1 c2 : Prop} [Decidable c1] [Decidable c2] : thF c1 c2 = 0 ↔ ¬ c1 ∧ ¬ c2 := by
  unfold thF
  by_cases h1 : c1 <;> by_cases h2 : c2 <;> simp [h1, h2]
theorem thF_le {c1 c2 : Prop} [Decidable c1] [Decidable c2] : thF c1 c2 ≤ 0 ↔ thF c1 c2 = 0 := by
  unfold thF
  by_cases h1 : c1 <;> by_cases h2 : c2 <;> simp [h1, h2] <;> decide
theorem thF_1 {c1 c2 : Prop} [Decidable c1] [Decidable c2] (h : c1) : (1 : Int32) = thF c1 c2 := by unfold thF; rw [if_pos h]
theorem thF_2 {c1 c2 : Prop} [Decidable c1] [Decidable c2] (h : ¬ c1) (h2 : c2) : (2 : Int32) = thF c1 c2 := by unfold thF; rw [if_neg h, if_pos h2]
theorem thF_3 {c1 c2 : Prop} [Decidable c1] [Decidable c2] (h : ¬ c1) (h2 : ¬ c2) : (0 : Int32) = thF c1 c2 := by unfold thF; rw [if_neg h, if_neg h2]
end
end
section
/-! LEAVES: static methods of numbers. Written by wip/whole/gen/p20.py -/
section
variable {Γ : jm_G} {d : Nat} {h : jm_H}
theorem k_B_isCost (c : Int32) : jm_A Γ m_B_isCost d [.int c] h (some (.int (if c = -2 ∨ (0 ≤ c ∧ c ≤ 999) then 1 else 0))) := by
  refine jm_entry (by decide +kernel) (List.forall_mem_cons.mpr ⟨rfl, fun _ h => nomatch h⟩) (Nat.le_of_ble_eq_true rfl) ?_
  show jm_W _ _ _ _ _ _ 0 [some (.int c)] [] _
  refine jm_iload_n d_B_isCost_0 rfl ?_
  refine jm_bipushL (v := (-2)) d_B_isCost_1 (by decide) ?_
  refine jm_icmp_eq 17 d_B_isCost_3 (by decide) (fun hb3 => ?_) (fun hb3 => ?_)
  · refine jm_iconstL (v := 1) d_B_isCost_17 (by decide) ?_
    refine jm_goto 22 d_B_isCost_18 (by decide) ?_
    exact jm_zret d_B_isCost_22 rfl rfl ⟨rfl, by first | rfl | (simp_all; done) | (split <;> first | rfl | (exfalso; simp only [Int32.lt_iff_toInt_lt, Int32.le_iff_toInt_le, ← Int32.toInt_inj, Int32.reduceToInt] at *; omega))⟩
  · refine jm_iload_n d_B_isCost_6 rfl ?_
    refine jm_if_lt 21 d_B_isCost_7 (by decide) (fun hb7 => ?_) (fun hb7 => ?_)
    · refine jm_iconstL (v := 0) d_B_isCost_21 (by decide) ?_
      exact jm_zret d_B_isCost_22 rfl rfl ⟨rfl, by first | rfl | (simp_all; done) | (split <;> first | rfl | (exfalso; simp only [Int32.lt_iff_toInt_lt, Int32.le_iff_toInt_le, ← Int32.toInt_inj, Int32.reduceToInt] at *; omega))⟩
    · refine jm_iload_n d_B_isCost_10 rfl ?_
      refine jm_sipushL (v := 999) d_B_isCost_11 (by decide) ?_
      refine jm_icmp_gt 21 d_B_isCost_14 (by decide) (fun hb14 => ?_) (fun hb14 => ?_)
      · refine jm_iconstL (v := 0) d_B_isCost_21 (by decide) ?_
        exact jm_zret d_B_isCost_22 rfl rfl ⟨rfl, by first | rfl | (simp_all; done) | (split <;> first | rfl | (exfalso; simp only [Int32.lt_iff_toInt_lt, Int32.le_iff_toInt_le, ← Int32.toInt_inj, Int32.reduceToInt] at *; omega))⟩
      · refine jm_iconstL (v := 1) d_B_isCost_17 (by decide) ?_
        refine jm_goto 22 d_B_isCost_18 (by decide) ?_
        exact jm_zret d_B_isCost_22 rfl rfl ⟨rfl, by first | rfl | (simp_all; done) | (split <;> first | rfl | (exfalso; simp only [Int32.lt_iff_toInt_lt, Int32.le_iff_toInt_le, ← Int32.toInt_inj, Int32.reduceToInt] at *; omega))⟩
theorem k_B_plus (x y : Int32) : jm_A Γ m_B_plus d [.int x, .int y] h (some (.int (if x = -2 ∨ y = -2 then -2 else x + y))) := by
  refine jm_entry (by decide +kernel) (List.forall_mem_cons.mpr ⟨rfl, List.forall_mem_cons.mpr ⟨rfl, fun _ h => nomatch h⟩⟩) (Nat.le_of_ble_eq_true rfl) ?_
  show jm_W _ _ _ _ _ _ 0 [some (.int x), some (.int y)] [] _
  refine jm_iload_n d_B_plus_0 rfl ?_
  refine jm_bipushL (v := (-2)) d_B_plus_1 (by decide) ?_
  refine jm_icmp_eq 12 d_B_plus_3 (by decide) (fun hb3 => ?_) (fun hb3 => ?_)
  · refine jm_bipushL (v := (-2)) d_B_plus_12 (by decide) ?_
    refine jm_goto 20 d_B_plus_14 (by decide) ?_
    exact jm_iret d_B_plus_20 rfl ⟨rfl, by first | rfl | (simp_all; done) | (split <;> first | rfl | (exfalso; simp only [Int32.lt_iff_toInt_lt, Int32.le_iff_toInt_le, ← Int32.toInt_inj, Int32.reduceToInt] at *; omega))⟩
  · refine jm_iload_n d_B_plus_6 rfl ?_
    refine jm_bipushL (v := (-2)) d_B_plus_7 (by decide) ?_
    refine jm_icmp_ne 17 d_B_plus_9 (by decide) (fun hb9 => ?_) (fun hb9 => ?_)
    · refine jm_iload_n d_B_plus_17 rfl ?_
      refine jm_iload_n d_B_plus_18 rfl ?_
      refine jm_iadd d_B_plus_19 ?_
      exact jm_iret d_B_plus_20 rfl ⟨rfl, by first | rfl | (simp_all; done) | (split <;> first | rfl | (exfalso; simp only [Int32.lt_iff_toInt_lt, Int32.le_iff_toInt_le, ← Int32.toInt_inj, Int32.reduceToInt] at *; omega))⟩
    · refine jm_bipushL (v := (-2)) d_B_plus_12 (by decide) ?_
      refine jm_goto 20 d_B_plus_14 (by decide) ?_
      exact jm_iret d_B_plus_20 rfl ⟨rfl, by first | rfl | (simp_all; done) | (split <;> first | rfl | (exfalso; simp only [Int32.lt_iff_toInt_lt, Int32.le_iff_toInt_le, ← Int32.toInt_inj, Int32.reduceToInt] at *; omega))⟩
theorem k_J_min (x y : Int32) : jm_A Γ m_J_min d [.int x, .int y] h (some (.int (if x ≤ y then x else y))) := by
  refine jm_entryF (by decide +kernel) (List.forall_mem_cons.mpr ⟨rfl, List.forall_mem_cons.mpr ⟨rfl, fun _ h => nomatch h⟩⟩) (Nat.le_of_ble_eq_true rfl) ?_
  show jm_W _ _ _ _ _ _ 0 [some (.int x), some (.int y)] [] _
  refine jm_iload_n d_J_min_0 rfl ?_
  refine jm_iload_n d_J_min_1 rfl ?_
  refine jm_icmp_gt 9 d_J_min_2 (by decide) (fun hb2 => ?_) (fun hb2 => ?_)
  · refine jm_iload_n d_J_min_9 rfl ?_
    exact jm_iret d_J_min_10 rfl ⟨rfl, by first | rfl | (simp_all; done) | (split <;> first | rfl | (exfalso; simp only [Int32.lt_iff_toInt_lt, Int32.le_iff_toInt_le, ← Int32.toInt_inj, Int32.reduceToInt] at *; omega))⟩
  · refine jm_iload_n d_J_min_5 rfl ?_
    refine jm_goto 10 d_J_min_6 (by decide) ?_
    exact jm_iret d_J_min_10 rfl ⟨rfl, by first | rfl | (simp_all; done) | (split <;> first | rfl | (exfalso; simp only [Int32.lt_iff_toInt_lt, Int32.le_iff_toInt_le, ← Int32.toInt_inj, Int32.reduceToInt] at *; omega))⟩
theorem k_J_max (x y : Int32) : jm_A Γ m_J_max d [.int x, .int y] h (some (.int (if y ≤ x then x else y))) := by
  refine jm_entryF (by decide +kernel) (List.forall_mem_cons.mpr ⟨rfl, List.forall_mem_cons.mpr ⟨rfl, fun _ h => nomatch h⟩⟩) (Nat.le_of_ble_eq_true rfl) ?_
  show jm_W _ _ _ _ _ _ 0 [some (.int x), some (.int y)] [] _
  refine jm_iload_n d_J_max_0 rfl ?_
  refine jm_iload_n d_J_max_1 rfl ?_
  refine jm_icmp_lt 9 d_J_max_2 (by decide) (fun hb2 => ?_) (fun hb2 => ?_)
  · refine jm_iload_n d_J_max_9 rfl ?_
    exact jm_iret d_J_max_10 rfl ⟨rfl, by first | rfl | (simp_all; done) | (split <;> first | rfl | (exfalso; simp only [Int32.lt_iff_toInt_lt, Int32.le_iff_toInt_le, ← Int32.toInt_inj, Int32.reduceToInt] at *; omega))⟩
  · refine jm_iload_n d_J_max_5 rfl ?_
    refine jm_goto 10 d_J_max_6 (by decide) ?_
    exact jm_iret d_J_max_10 rfl ⟨rfl, by first | rfl | (simp_all; done) | (split <;> first | rfl | (exfalso; simp only [Int32.lt_iff_toInt_lt, Int32.le_iff_toInt_le, ← Int32.toInt_inj, Int32.reduceToInt] at *; omega))⟩
theorem k_M_within (v a b : Int32) : jm_A Γ m_M_within d [.int v, .int a, .int b] h (some (.int (if a ≤ v ∧ v ≤ b then 1 else 0))) := by
  refine jm_entry (by decide +kernel) (List.forall_mem_cons.mpr ⟨rfl, List.forall_mem_cons.mpr ⟨rfl, List.forall_mem_cons.mpr ⟨rfl, fun _ h => nomatch h⟩⟩⟩) (Nat.le_of_ble_eq_true rfl) ?_
  show jm_W _ _ _ _ _ _ 0 [some (.int v), some (.int a), some (.int b)] [] _
  refine jm_iload_n d_M_within_0 rfl ?_
  refine jm_iload_n d_M_within_1 rfl ?_
  refine jm_icmp_lt 14 d_M_within_2 (by decide) (fun hb2 => ?_) (fun hb2 => ?_)
  · refine jm_iconstL (v := 0) d_M_within_14 (by decide) ?_
    exact jm_zret d_M_within_15 rfl rfl ⟨rfl, by first | rfl | (simp_all; done) | (split <;> first | rfl | (exfalso; simp only [Int32.lt_iff_toInt_lt, Int32.le_iff_toInt_le, ← Int32.toInt_inj, Int32.reduceToInt] at *; omega))⟩
  · refine jm_iload_n d_M_within_5 rfl ?_
    refine jm_iload_n d_M_within_6 rfl ?_
    refine jm_icmp_gt 14 d_M_within_7 (by decide) (fun hb7 => ?_) (fun hb7 => ?_)
    · refine jm_iconstL (v := 0) d_M_within_14 (by decide) ?_
      exact jm_zret d_M_within_15 rfl rfl ⟨rfl, by first | rfl | (simp_all; done) | (split <;> first | rfl | (exfalso; simp only [Int32.lt_iff_toInt_lt, Int32.le_iff_toInt_le, ← Int32.toInt_inj, Int32.reduceToInt] at *; omega))⟩
    · refine jm_iconstL (v := 1) d_M_within_10 (by decide) ?_
      refine jm_goto 15 d_M_within_11 (by decide) ?_
      exact jm_zret d_M_within_15 rfl rfl ⟨rfl, by first | rfl | (simp_all; done) | (split <;> first | rfl | (exfalso; simp only [Int32.lt_iff_toInt_lt, Int32.le_iff_toInt_le, ← Int32.toInt_inj, Int32.reduceToInt] at *; omega))⟩
end
end
section
/-! THE REFERENCE as a state of numbers: S j i is the number in field j (i = 0), or in the array of field j at i. Written by wip/whole/gen/p21.py -/
section
abbrev mS : Type := Nat → Nat → Int32
def mo_len : Nat → Nat := fun j => match j with
  | 3 => 8
  | 4 => 32
  | 6 => 12
  | 7 => 12
  | 8 => 192
  | 9 => 8
  | 10 => 8
  | 11 => 8
  | 12 => 8
  | 13 => 8
  | 14 => 8
  | 15 => 8
  | 16 => 8
  | 17 => 8
  | 18 => 8
  | 19 => 8
  | 20 => 64
  | 21 => 8
  | 22 => 8
  | 23 => 16
  | 24 => 16
  | 25 => 16
  | 26 => 4096
  | 28 => 8
  | 29 => 8
  | 30 => 8
  | 31 => 64
  | 32 => 8
  | 35 => 21
  | 36 => 21
  | 37 => 21
  | 38 => 21
  | 39 => 21
  | 40 => 21
  | 41 => 5376
  | _ => 0
def mo_kd : Nat → Nat := fun j => match j with
  | 13 => 101
  | 14 => 101
  | 15 => 101
  | _ => 100
def mu (S : mS) (j i : Nat) (x : Int32) : mS := fun j' i' => if j' = j ∧ i' = i then x else S j' i'
/-- the object m of the reference, its arrays at ar, holds S -/
def mo (h : jm_H) (m : Nat) (ar : Nat → Nat) (S : mS) : Prop :=
  h.1 m = some (6, 0) ∧ (∀ j, j < 42 → mo_len j = 0 → h.2 6 j m = .int (S j 0)) ∧ (∀ j, j < 42 → 0 < mo_len j → h.2 6 j m = .ref (ar j) ∧ h.1 (ar j) = some (mo_kd j, mo_len j) ∧ ∀ i, i < mo_len j → h.2 100 i (ar j) = .int (S j i)) ∧ ∀ i j, i < 42 → j < 42 → 0 < mo_len i → 0 < mo_len j → ar i = ar j → i = j
/-- nothing else has changed -/
def mo_fr (m : Nat) (ar : Nat → Nat) (h h' : jm_H) : Prop := h'.1 = h.1 ∧ ∀ a, a ≠ m → (∀ j, j < 42 → 0 < mo_len j → a ≠ ar j) → ∀ t i, h'.2 t i a = h.2 t i a
theorem mo_fr.rf {m : Nat} {ar : Nat → Nat} {h : jm_H} : mo_fr m ar h h := ⟨rfl, fun _ _ _ _ _ => rfl⟩
theorem mo_fr.tr {m : Nat} {ar : Nat → Nat} {h h1 h2 : jm_H} (a : mo_fr m ar h h1) (b : mo_fr m ar h1 h2) : mo_fr m ar h h2 := ⟨b.1.trans a.1, fun q q1 q2 t i => (b.2 q q1 q2 t i).trans (a.2 q q1 q2 t i)⟩
theorem mo_ne {h : jm_H} {m : Nat} {ar : Nat → Nat} {S : mS} (hm : mo h m ar S) {j : Nat} (hj : j < 42) (hl : 0 < mo_len j) : ar j ≠ m := by
  intro q
  have h1 := (hm.2.2.1 j hj hl).2.1
  rw [q, hm.1] at h1
  have h2 : (6 : Nat) = mo_kd j := congrArg Prod.fst (Option.some.inj h1)
  unfold mo_kd at h2
  split at h2 <;> omega
theorem mo_put {h : jm_H} {m : Nat} {ar : Nat → Nat} {S : mS} {h0 : jm_H} (hm : mo h m ar S) (hf : mo_fr m ar h0 h) {j : Nat} (hj : j < 42) (hl : mo_len j = 0) (x : Int32) : mo (jm_set h 6 j m (.int x)) m ar (mu S j 0 x) ∧ mo_fr m ar h0 (jm_set h 6 j m (.int x)) := by
  refine ⟨⟨hm.1, fun j' hj' hl' => ?_, fun j' hj' hl' => ?_, hm.2.2.2⟩, hf.1, fun a ha hb t i => ?_⟩
  · show (if (6 : Nat) = 6 ∧ j' = j ∧ m = m then Value.int x else h.2 6 j' m) = .int (if j' = j ∧ 0 = 0 then x else S j' 0)
    by_cases hq : j' = j
    · simp [hq]
    · simp [hq, hm.2.1 j' hj' hl']
  · have hne := mo_ne hm hj' hl'
    obtain ⟨q1, q2, q3⟩ := hm.2.2.1 j' hj' hl'
    have hjj : j' ≠ j := fun q => by rw [q, hl] at hl'; omega
    refine ⟨?_, q2, fun i hi => ?_⟩
    · show (if (6 : Nat) = 6 ∧ j' = j ∧ m = m then Value.int x else h.2 6 j' m) = _
      simp [hjj, q1]
    · show (if (100 : Nat) = 6 ∧ i = j ∧ ar j' = m then Value.int x else h.2 100 i (ar j')) = .int (if j' = j ∧ i = 0 then x else S j' i)
      simp [hjj, q3 i hi]
  · show (if t = 6 ∧ i = j ∧ a = m then Value.int x else h.2 t i a) = _
    simp [ha, hf.2 a ha hb t i]
theorem mo_sta {h : jm_H} {m : Nat} {ar : Nat → Nat} {S : mS} {h0 : jm_H} (hm : mo h m ar S) (hf : mo_fr m ar h0 h) {j : Nat} (hj : j < 42) (hl : 0 < mo_len j) (i : Nat) (x : Int32) : mo (jm_set h 100 i (ar j) (.int x)) m ar (mu S j i x) ∧ mo_fr m ar h0 (jm_set h 100 i (ar j) (.int x)) := by
  refine ⟨⟨hm.1, fun j' hj' hl' => ?_, fun j' hj' hl' => ?_, hm.2.2.2⟩, hf.1, fun a ha hb t i' => ?_⟩
  · show (if (6 : Nat) = 100 ∧ j' = i ∧ m = ar j then Value.int x else h.2 6 j' m) = .int (if j' = j ∧ 0 = i then x else S j' 0)
    have hjj : j' ≠ j := fun q => by rw [q] at hl'; omega
    simp [hjj, hm.2.1 j' hj' hl']
  · obtain ⟨q1, q2, q3⟩ := hm.2.2.1 j' hj' hl'
    refine ⟨?_, q2, fun i' hi => ?_⟩
    · show (if (6 : Nat) = 100 ∧ j' = i ∧ m = ar j then Value.int x else h.2 6 j' m) = _
      simp [q1]
    · show (if (100 : Nat) = 100 ∧ i' = i ∧ ar j' = ar j then Value.int x else h.2 100 i' (ar j')) = .int (if j' = j ∧ i' = i then x else S j' i')
      by_cases hq : j' = j
      · subst hq
        by_cases hi2 : i' = i
        · simp [hi2]
        · simp [hi2, q3 i' hi]
      · have hn : ar j' ≠ ar j := fun q => hq (hm.2.2.2 j' j hj' hj hl' hl q)
        simp [hq, hn, q3 i' hi]
  · show (if t = 100 ∧ i' = i ∧ a = ar j then Value.int x else h.2 t i' a) = _
    have := hb j hj hl
    simp [this, hf.2 a ha hb t i']
end
section
variable {Γ : jm_G} {μ ν : jm_Mt} {d d' rc rs : Nat} {Q : jm_O → jm_H → Prop} {pc : Nat} {ls : List (Option Value)} {st As rest : List Value} {h h0 : jm_H} {m : Nat} {ar : Nat → Nat} {S : mS}
theorem mr_geti {idx j : Nat} {fin : Bool} {ty : FieldType} (hd : decode μ.2.1 pc = .ok (.getfield idx, 3)) (hf : jm_FL μ.1.cls idx 6 j fin ty) (hm : mo h m ar S) (hj : j < 42) (hl : mo_len j = 0) (k : jm_W Γ μ d rc rs Q (pc + 3) ls (.int (S j 0) :: st) h) : jm_W Γ μ d rc rs Q pc ls (.ref m :: st) h :=
  jm_getf hd hf hm.1 (by rw [hm.2.1 j hj hl]; exact k)
theorem mr_geta {idx j : Nat} {fin : Bool} {ty : FieldType} (hd : decode μ.2.1 pc = .ok (.getfield idx, 3)) (hf : jm_FL μ.1.cls idx 6 j fin ty) (hm : mo h m ar S) (hj : j < 42) (hl : 0 < mo_len j) (k : jm_W Γ μ d rc rs Q (pc + 3) ls (.ref (ar j) :: st) h) : jm_W Γ μ d rc rs Q pc ls (.ref m :: st) h :=
  jm_getf hd hf hm.1 (by rw [(hm.2.2.1 j hj hl).1]; exact k)
theorem mr_puti {idx j : Nat} {x : Int32} (hd : decode μ.2.1 pc = .ok (.putfield idx, 3)) (hf9 : jm_FL μ.1.cls idx 6 j false .int) (hm : mo h m ar S) (hf : mo_fr m ar h0 h) (hj : j < 42) (hl : mo_len j = 0) (k : ∀ h', mo h' m ar (mu S j 0 x) → mo_fr m ar h0 h' → jm_W Γ μ d rc rs Q (pc + 3) ls st h') : jm_W Γ μ d rc rs Q pc ls (.int x :: .ref m :: st) h :=
  jm_putf hd hf9 hm.1 rfl rfl (k _ (mo_put hm hf hj hl x).1 (mo_put hm hf hj hl x).2)
theorem mr_putz {idx j : Nat} {x : Int32} (hd : decode μ.2.1 pc = .ok (.putfield idx, 3)) (hf9 : jm_FL μ.1.cls idx 6 j false .boolean) (hm : mo h m ar S) (hf : mo_fr m ar h0 h) (hj : j < 42) (hl : mo_len j = 0) (hx : narrow .boolean (.int x) = .int x) (hx2 : fits .boolean (.int x) = true) (k : ∀ h', mo h' m ar (mu S j 0 x) → mo_fr m ar h0 h' → jm_W Γ μ d rc rs Q (pc + 3) ls st h') : jm_W Γ μ d rc rs Q pc ls (.int x :: .ref m :: st) h :=
  jm_putf hd hf9 hm.1 hx hx2 (k _ (mo_put hm hf hj hl x).1 (mo_put hm hf hj hl x).2)
theorem mr_ld (j : Nat) {i : Int32} (hd : decode μ.2.1 pc = .ok (.iaload, 1)) (hm : mo h m ar S) (hj : j < 42) (hl : 0 < mo_len j) (hk : mo_kd j = 100) (hi : vp_in i (mo_len j)) (k : jm_W Γ μ d rc rs Q (pc + 1) ls (.int (S j i.toNatClampNeg) :: st) h) : jm_W Γ μ d rc rs Q pc ls (.int i :: .ref (ar j) :: st) h := by
  obtain ⟨q1, q2, q3⟩ := hm.2.2.1 j hj hl
  rw [hk] at q2
  refine jm_iaload hd q2 hi ?_
  rw [q3 _ (Nat.not_le.mp fun q => hi (Or.inr q))]
  exact k
theorem mr_ldz (j : Nat) {i : Int32} (hd : decode μ.2.1 pc = .ok (.baload, 1)) (hm : mo h m ar S) (hj : j < 42) (hl : 0 < mo_len j) (hk : mo_kd j = 101) (hi : vp_in i (mo_len j)) (k : jm_W Γ μ d rc rs Q (pc + 1) ls (.int (S j i.toNatClampNeg) :: st) h) : jm_W Γ μ d rc rs Q pc ls (.int i :: .ref (ar j) :: st) h := by
  obtain ⟨q1, q2, q3⟩ := hm.2.2.1 j hj hl
  rw [hk] at q2
  refine jm_baload hd q2 hi ?_
  rw [q3 _ (Nat.not_le.mp fun q => hi (Or.inr q))]
  exact k
theorem mr_st (j : Nat) {i x : Int32} (hd : decode μ.2.1 pc = .ok (.iastore, 1)) (hm : mo h m ar S) (hf : mo_fr m ar h0 h) (hj : j < 42) (hl : 0 < mo_len j) (hk : mo_kd j = 100) (hi : vp_in i (mo_len j)) (k : ∀ h', mo h' m ar (mu S j i.toNatClampNeg x) → mo_fr m ar h0 h' → jm_W Γ μ d rc rs Q (pc + 1) ls st h') : jm_W Γ μ d rc rs Q pc ls (.int x :: .int i :: .ref (ar j) :: st) h := by
  obtain ⟨q1, q2, q3⟩ := hm.2.2.1 j hj hl
  rw [hk] at q2
  exact jm_iastore hd q2 hi (k _ (mo_sta hm hf hj hl _ x).1 (mo_sta hm hf hj hl _ x).2)
theorem mr_stz (j : Nat) {i x : Int32} (hd : decode μ.2.1 pc = .ok (.bastore, 1)) (hm : mo h m ar S) (hf : mo_fr m ar h0 h) (hj : j < 42) (hl : 0 < mo_len j) (hk : mo_kd j = 101) (hi : vp_in i (mo_len j)) (hx : narrow .boolean (.int x) = .int x) (k : ∀ h', mo h' m ar (mu S j i.toNatClampNeg x) → mo_fr m ar h0 h' → jm_W Γ μ d rc rs Q (pc + 1) ls st h') : jm_W Γ μ d rc rs Q pc ls (.int x :: .int i :: .ref (ar j) :: st) h := by
  obtain ⟨q1, q2, q3⟩ := hm.2.2.1 j hj hl
  rw [hk] at q2
  refine jm_bastore hd q2 hi ?_
  rw [hx]
  exact k _ (mo_sta hm hf hj hl _ x).1 (mo_sta hm hf hj hl _ x).2
/-- a method of the reference: from S, with the arguments av, it answers v with the state S', as Q says -/
def mM (Γ : jm_G) (μ : jm_Mt) (d m : Nat) (ar : Nat → Nat) (av : List Value) (S : mS) (Q : Option Value → mS → Prop) : Prop :=
  ∀ h, mo h m ar S → jm_M Γ μ d (.ref m :: av) h 0 0 (fun oc h' => ∃ v S', oc = .inl v ∧ Q v S' ∧ mo h' m ar S' ∧ mo_fr m ar h h')
/-- .. that only answers -/
def mA (Γ : jm_G) (μ : jm_Mt) (d m : Nat) (ar : Nat → Nat) (av : List Value) (S : mS) (v : Option Value) : Prop := ∀ h, mo h m ar S → jm_A Γ μ d (.ref m :: av) h v
theorem mr_call {idx : Nat} {Qm : Option Value → mS → Prop} (hd : decode μ.2.1 pc = .ok (.invokevirtual idx, 3)) (hl9 : Cond.methodLink μ.1.cls idx ν.1 ∈ jm_ws) (hi9 : Cond.instanceMethod ν.1 ∈ jm_ws) (hse9 : Cond.selects "BargainTreeModel" ν.1 ν.1 ∈ jm_ws) (hN : jm_NV ν As.length) (hst : st = As.reverse ++ .ref m :: rest) (hrest : rest.length ≤ 4)
    (hd' : d' + 1 ≤ d) (hM : mM Γ ν d' m ar As S Qm) (hm : mo h m ar S) (hf : mo_fr m ar h0 h)
    (k : ∀ v S' h', Qm v S' → mo h' m ar S' → mo_fr m ar h0 h' → jm_W Γ μ d rc rs Q (pc + 3) ls (v.toList ++ rest) h') : jm_W Γ μ d rc rs Q pc ls st h :=
  jm_callV (r := ("BargainTreeModel", jm_F6, 42)) hd hl9 hi9 hse9 rfl hN hst hm.1 hrest hd' (Nat.zero_le _) (Nat.zero_le _) (hM h hm) (fun v h' hq => by
    obtain ⟨v', S', hv, q1, q2, q3⟩ := hq
    cases hv
    exact k v S' h' q1 q2 (hf.tr q3)) (fun X h' hq => by
    obtain ⟨v', S', hv, -⟩ := hq
    cases hv)
theorem mr_callp {idx : Nat} {v : Option Value} (hd : decode μ.2.1 pc = .ok (.invokevirtual idx, 3)) (hl9 : Cond.methodLink μ.1.cls idx ν.1 ∈ jm_ws) (hi9 : Cond.instanceMethod ν.1 ∈ jm_ws) (hse9 : Cond.selects "BargainTreeModel" ν.1 ν.1 ∈ jm_ws) (hN : jm_NV ν As.length) (hst : st = As.reverse ++ .ref m :: rest) (hrest : rest.length ≤ 4)
    (hd' : d' + 1 ≤ d) (hM : mA Γ ν d' m ar As S v) (hm : mo h m ar S) (k : jm_W Γ μ d rc rs Q (pc + 3) ls (v.toList ++ rest) h) : jm_W Γ μ d rc rs Q pc ls st h :=
  jm_callVp (r := ("BargainTreeModel", jm_F6, 42)) hd hl9 hi9 hse9 rfl hN hst hm.1 hrest hd' (hM h hm) k
end
end
section
/-! THE REFERENCE: small methods. Written by wip/whole/gen/p22.py -/
section
variable {Γ : jm_G} {d m : Nat} {ar : Nat → Nat} {S : mS} {h : jm_H}
theorem k_M_has (x a : Int32) : jm_A Γ m_M_has d [.int x, .int a] h (some (.int (if (x >>> (a &&& 31)) &&& 1 = 1 then 1 else 0))) := by
  refine jm_entry (by decide +kernel) (List.forall_mem_cons.mpr ⟨rfl, List.forall_mem_cons.mpr ⟨rfl, fun _ h => nomatch h⟩⟩) (Nat.le_of_ble_eq_true rfl) ?_
  show jm_W _ _ _ _ _ _ 0 [some (.int x), some (.int a)] [] _
  refine jm_iload_n d_M_has_0 rfl ?_
  refine jm_iload_n d_M_has_1 rfl ?_
  refine jm_ishr d_M_has_2 ?_
  refine jm_iconstL (v := 1) d_M_has_3 (by decide) ?_
  refine jm_iand d_M_has_4 ?_
  refine jm_iconstL (v := 1) d_M_has_5 (by decide) ?_
  refine jm_icmp_ne 13 d_M_has_6 (by decide) (fun hb6 => ?_) (fun hb6 => ?_)
  · refine jm_iconstL (v := 0) d_M_has_13 (by decide) ?_
    exact jm_zret d_M_has_14 rfl (by first | rfl | (split <;> rfl)) ⟨rfl, by first | rfl | (simp_all; done) | (split <;> first | rfl | (exfalso; simp_all; done))⟩
  · refine jm_iconstL (v := 1) d_M_has_9 (by decide) ?_
    refine jm_goto 14 d_M_has_10 (by decide) ?_
    exact jm_zret d_M_has_14 rfl (by first | rfl | (split <;> rfl)) ⟨rfl, by first | rfl | (simp_all; done) | (split <;> first | rfl | (exfalso; simp_all; done))⟩
theorem k_B_contains (x a : Int32) : jm_A Γ m_B_contains d [.int x, .int a] h (some (.int (if (x >>> (a &&& 31)) &&& 1 = 1 then 1 else 0))) := by
  refine jm_entry (by decide +kernel) (List.forall_mem_cons.mpr ⟨rfl, List.forall_mem_cons.mpr ⟨rfl, fun _ h => nomatch h⟩⟩) (Nat.le_of_ble_eq_true rfl) ?_
  show jm_W _ _ _ _ _ _ 0 [some (.int x), some (.int a)] [] _
  refine jm_iload_n d_B_contains_0 rfl ?_
  refine jm_iload_n d_B_contains_1 rfl ?_
  refine jm_ishr d_B_contains_2 ?_
  refine jm_iconstL (v := 1) d_B_contains_3 (by decide) ?_
  refine jm_iand d_B_contains_4 ?_
  refine jm_iconstL (v := 1) d_B_contains_5 (by decide) ?_
  refine jm_icmp_ne 13 d_B_contains_6 (by decide) (fun hb6 => ?_) (fun hb6 => ?_)
  · refine jm_iconstL (v := 0) d_B_contains_13 (by decide) ?_
    exact jm_zret d_B_contains_14 rfl (by first | rfl | (split <;> rfl)) ⟨rfl, by first | rfl | (simp_all; done) | (split <;> first | rfl | (exfalso; simp_all; done))⟩
  · refine jm_iconstL (v := 1) d_B_contains_9 (by decide) ?_
    refine jm_goto 14 d_B_contains_10 (by decide) ?_
    exact jm_zret d_B_contains_14 rfl (by first | rfl | (split <;> rfl)) ⟨rfl, by first | rfl | (simp_all; done) | (split <;> first | rfl | (exfalso; simp_all; done))⟩
theorem k_M_thrown  : mA Γ m_M_thrown d m ar [] S (some (.int (S 0 0))) := by
  intro h hm
  refine jm_entry (by decide +kernel) (List.forall_mem_cons.mpr ⟨rfl, fun _ h => nomatch h⟩) (Nat.le_of_ble_eq_true rfl) ?_
  show jm_W _ _ _ _ _ _ 0 [some (.ref m)] [] _
  first | refine jm_aload_n d_M_thrown_0 rfl ?_ | refine jm_aload_nN d_M_thrown_0 rfl ?_
  refine mr_geti d_M_thrown_1 f_M_116 hm (by decide) rfl ?_
  exact jm_iret d_M_thrown_4 rfl ⟨rfl, rfl⟩
theorem k_M_isAgent (hd : 1 ≤ d) (a : Int32) : mA Γ m_M_isAgent d m ar [.int a] S (some (.int (if 0 ≤ a ∧ a ≤ S 1 0 - 1 then 1 else 0))) := by
  intro h hm
  refine jm_entry (by decide +kernel) (List.forall_mem_cons.mpr ⟨rfl, List.forall_mem_cons.mpr ⟨rfl, fun _ h => nomatch h⟩⟩) (Nat.le_of_ble_eq_true rfl) ?_
  show jm_W _ _ _ _ _ _ 0 [some (.ref m), some (.int a)] [] _
  refine jm_iload_n d_M_isAgent_0 rfl ?_
  refine jm_iconstL (v := 0) d_M_isAgent_1 (by decide) ?_
  first | refine jm_aload_n d_M_isAgent_2 rfl ?_ | refine jm_aload_nN d_M_isAgent_2 rfl ?_
  refine mr_geti d_M_isAgent_3 f_M_124 hm (by decide) rfl ?_
  refine jm_iconstL (v := 1) d_M_isAgent_6 (by decide) ?_
  refine jm_isub d_M_isAgent_7 ?_
  refine jm_callSp (As := [_, _, _]) d_M_isAgent_8 l_M_127 sw_M_within nv_M_within rfl (Nat.le_of_ble_eq_true rfl) (by omega : 0 + 1 ≤ _) (k_M_within _ _ _) ?_
  exact jm_zret d_M_isAgent_11 rfl (by first | rfl | (split <;> rfl)) ⟨rfl, rfl⟩
theorem k_M_isCost (hd : 1 ≤ d) (c : Int32) : jm_A Γ m_M_isCost d [.int c] h (some (.int (if c = -2 ∨ (0 ≤ c ∧ c ≤ 999) then 1 else 0))) := by
  refine jm_entry (by decide +kernel) (List.forall_mem_cons.mpr ⟨rfl, fun _ h => nomatch h⟩) (Nat.le_of_ble_eq_true rfl) ?_
  show jm_W _ _ _ _ _ _ 0 [some (.int c)] [] _
  refine jm_iload_n d_M_isCost_0 rfl ?_
  refine jm_iconstL (v := 0) d_M_isCost_1 (by decide) ?_
  refine jm_sipushL (v := 999) d_M_isCost_2 (by decide) ?_
  refine jm_callSp (As := [_, _, _]) d_M_isCost_5 l_M_127 sw_M_within nv_M_within rfl (Nat.le_of_ble_eq_true rfl) (by omega : 0 + 1 ≤ _) (k_M_within _ _ _) ?_
  refine jm_if_ne 17 d_M_isCost_8 (by decide) (fun hb8 => ?_) (fun hb8 => ?_)
  · refine jm_iconstL (v := 1) d_M_isCost_17 (by decide) ?_
    refine jm_goto 22 d_M_isCost_18 (by decide) ?_
    exact jm_zret d_M_isCost_22 rfl (by first | rfl | (split <;> rfl)) ⟨rfl, by simp_all⟩
  · refine jm_iload_n d_M_isCost_11 rfl ?_
    refine jm_bipushL (v := (-2)) d_M_isCost_12 (by decide) ?_
    refine jm_icmp_ne 21 d_M_isCost_14 (by decide) (fun hb14 => ?_) (fun hb14 => ?_)
    · refine jm_iconstL (v := 0) d_M_isCost_21 (by decide) ?_
      exact jm_zret d_M_isCost_22 rfl (by first | rfl | (split <;> rfl)) ⟨rfl, by simp_all⟩
    · refine jm_iconstL (v := 1) d_M_isCost_17 (by decide) ?_
      refine jm_goto 22 d_M_isCost_18 (by decide) ?_
      exact jm_zret d_M_isCost_22 rfl (by first | rfl | (split <;> rfl)) ⟨rfl, by simp_all⟩
/-- the first pair of a and b, from p on -/
def pairF (S : mS) (a b : Int32) : Nat → Nat → Int32
  | 0, _ => -1
  | k + 1, p => if (S 6 p = a ∧ S 7 p = b) ∨ (S 6 p = b ∧ S 7 p = a) then nI p else pairF S a b k (p + 1)
theorem lp_M_pairOf {rc rs np : Nat} (hnp : S 5 0 = nI np) (h12 : np ≤ 12) (hm : mo h m ar S) (a b : Int32) : ∀ k p, p + k = np → jm_W Γ m_M_pairOf d rc rs (fun oc h' => h' = h ∧ oc = .inl (some (.int (pairF S a b k p)))) 2 [some (.ref m), some (.int a), some (.int b), some (.int (nI p))] [] h := by
  intro k
  induction k with
  | zero =>
    intro p hp
    refine jm_iload_n d_M_pairOf_2 rfl ?_
    first | refine jm_aload_n d_M_pairOf_3 rfl ?_ | refine jm_aload_nN d_M_pairOf_3 rfl ?_
    refine mr_geti d_M_pairOf_4 f_M_146 hm (by decide) rfl ?_
    refine jm_icmp_ge 58 d_M_pairOf_7 (by decide) (fun hb7 => ?_) (fun hb7 => ?_)
    · refine jm_iconstL (v := (-1)) d_M_pairOf_58 (by decide) ?_
      exact jm_iret d_M_pairOf_59 rfl ⟨rfl, rfl⟩
    · exact absurd (by rw [hnp]; exact nI_le (by omega) (by omega)) hb7
  | succ k ih =>
    intro p hp
    refine jm_iload_n d_M_pairOf_2 rfl ?_
    first | refine jm_aload_n d_M_pairOf_3 rfl ?_ | refine jm_aload_nN d_M_pairOf_3 rfl ?_
    refine mr_geti d_M_pairOf_4 f_M_146 hm (by decide) rfl ?_
    refine jm_icmp_ge 58 d_M_pairOf_7 (by decide) (fun hb7 => ?_) (fun hb7 => ?_)
    · rw [hnp] at hb7; exact absurd hb7 (nI_ge (by omega) (by omega))
    · first | refine jm_aload_n d_M_pairOf_10 rfl ?_ | refine jm_aload_nN d_M_pairOf_10 rfl ?_
      refine mr_geta d_M_pairOf_11 f_M_16 hm (by decide) (by decide) ?_
      refine jm_iload_n d_M_pairOf_14 rfl ?_
      refine mr_ld _ d_M_pairOf_15 hm (by decide) (by decide) rfl (vp_in_nI (by show p < 12; omega) (by decide)) ?_
      refine jm_iload_n d_M_pairOf_16 rfl ?_
      refine jm_icmp_ne 30 d_M_pairOf_17 (by decide) (fun hb17 => ?_) (fun hb17 => ?_)
      · first | refine jm_aload_n d_M_pairOf_30 rfl ?_ | refine jm_aload_nN d_M_pairOf_30 rfl ?_
        refine mr_geta d_M_pairOf_31 f_M_16 hm (by decide) (by decide) ?_
        refine jm_iload_n d_M_pairOf_34 rfl ?_
        refine mr_ld _ d_M_pairOf_35 hm (by decide) (by decide) rfl (vp_in_nI (by show p < 12; omega) (by decide)) ?_
        refine jm_iload_n d_M_pairOf_36 rfl ?_
        refine jm_icmp_ne 52 d_M_pairOf_37 (by decide) (fun hb37 => ?_) (fun hb37 => ?_)
        · refine jm_iincL (v := nI (p + 1)) d_M_pairOf_52 rfl (by rw [nI_succ]; rfl) ?_
          refine jm_goto 2 d_M_pairOf_55 (by decide) ?_
          have e9 := ih (p + 1) (by omega)
          rw [show pairF S a b (k + 1) p = pairF S a b k (p + 1) from if_neg (by simp only [nI_clamp (show p < 2 ^ 31 by omega)] at *; intro q9; rcases q9 with ⟨q1, q2⟩ | ⟨q1, q2⟩ <;> simp_all)]
          exact e9
        · first | refine jm_aload_n d_M_pairOf_40 rfl ?_ | refine jm_aload_nN d_M_pairOf_40 rfl ?_
          refine mr_geta d_M_pairOf_41 f_M_19 hm (by decide) (by decide) ?_
          refine jm_iload_n d_M_pairOf_44 rfl ?_
          refine mr_ld _ d_M_pairOf_45 hm (by decide) (by decide) rfl (vp_in_nI (by show p < 12; omega) (by decide)) ?_
          refine jm_iload_n d_M_pairOf_46 rfl ?_
          refine jm_icmp_ne 52 d_M_pairOf_47 (by decide) (fun hb47 => ?_) (fun hb47 => ?_)
          · refine jm_iincL (v := nI (p + 1)) d_M_pairOf_52 rfl (by rw [nI_succ]; rfl) ?_
            refine jm_goto 2 d_M_pairOf_55 (by decide) ?_
            have e9 := ih (p + 1) (by omega)
            rw [show pairF S a b (k + 1) p = pairF S a b k (p + 1) from if_neg (by simp only [nI_clamp (show p < 2 ^ 31 by omega)] at *; intro q9; rcases q9 with ⟨q1, q2⟩ | ⟨q1, q2⟩ <;> simp_all)]
            exact e9
          · refine jm_iload_n d_M_pairOf_50 rfl ?_
            exact jm_iret d_M_pairOf_51 rfl ⟨rfl, by simp only [nI_clamp (show p < 2 ^ 31 by omega)] at *; simp_all [pairF]⟩
      · first | refine jm_aload_n d_M_pairOf_20 rfl ?_ | refine jm_aload_nN d_M_pairOf_20 rfl ?_
        refine mr_geta d_M_pairOf_21 f_M_19 hm (by decide) (by decide) ?_
        refine jm_iload_n d_M_pairOf_24 rfl ?_
        refine mr_ld _ d_M_pairOf_25 hm (by decide) (by decide) rfl (vp_in_nI (by show p < 12; omega) (by decide)) ?_
        refine jm_iload_n d_M_pairOf_26 rfl ?_
        refine jm_icmp_eq 50 d_M_pairOf_27 (by decide) (fun hb27 => ?_) (fun hb27 => ?_)
        · refine jm_iload_n d_M_pairOf_50 rfl ?_
          exact jm_iret d_M_pairOf_51 rfl ⟨rfl, by simp only [nI_clamp (show p < 2 ^ 31 by omega)] at *; simp_all [pairF]⟩
        · first | refine jm_aload_n d_M_pairOf_30 rfl ?_ | refine jm_aload_nN d_M_pairOf_30 rfl ?_
          refine mr_geta d_M_pairOf_31 f_M_16 hm (by decide) (by decide) ?_
          refine jm_iload_n d_M_pairOf_34 rfl ?_
          refine mr_ld _ d_M_pairOf_35 hm (by decide) (by decide) rfl (vp_in_nI (by show p < 12; omega) (by decide)) ?_
          refine jm_iload_n d_M_pairOf_36 rfl ?_
          refine jm_icmp_ne 52 d_M_pairOf_37 (by decide) (fun hb37 => ?_) (fun hb37 => ?_)
          · refine jm_iincL (v := nI (p + 1)) d_M_pairOf_52 rfl (by rw [nI_succ]; rfl) ?_
            refine jm_goto 2 d_M_pairOf_55 (by decide) ?_
            have e9 := ih (p + 1) (by omega)
            rw [show pairF S a b (k + 1) p = pairF S a b k (p + 1) from if_neg (by simp only [nI_clamp (show p < 2 ^ 31 by omega)] at *; intro q9; rcases q9 with ⟨q1, q2⟩ | ⟨q1, q2⟩ <;> simp_all)]
            exact e9
          · first | refine jm_aload_n d_M_pairOf_40 rfl ?_ | refine jm_aload_nN d_M_pairOf_40 rfl ?_
            refine mr_geta d_M_pairOf_41 f_M_19 hm (by decide) (by decide) ?_
            refine jm_iload_n d_M_pairOf_44 rfl ?_
            refine mr_ld _ d_M_pairOf_45 hm (by decide) (by decide) rfl (vp_in_nI (by show p < 12; omega) (by decide)) ?_
            refine jm_iload_n d_M_pairOf_46 rfl ?_
            refine jm_icmp_ne 52 d_M_pairOf_47 (by decide) (fun hb47 => ?_) (fun hb47 => ?_)
            · refine jm_iincL (v := nI (p + 1)) d_M_pairOf_52 rfl (by rw [nI_succ]; rfl) ?_
              refine jm_goto 2 d_M_pairOf_55 (by decide) ?_
              have e9 := ih (p + 1) (by omega)
              rw [show pairF S a b (k + 1) p = pairF S a b k (p + 1) from if_neg (by simp only [nI_clamp (show p < 2 ^ 31 by omega)] at *; intro q9; rcases q9 with ⟨q1, q2⟩ | ⟨q1, q2⟩ <;> simp_all)]
              exact e9
            · refine jm_iload_n d_M_pairOf_50 rfl ?_
              exact jm_iret d_M_pairOf_51 rfl ⟨rfl, by simp only [nI_clamp (show p < 2 ^ 31 by omega)] at *; simp_all [pairF]⟩
theorem k_M_pairOf {np : Nat} (hnp : S 5 0 = nI np) (h12 : np ≤ 12) (a b : Int32) : mA Γ m_M_pairOf d m ar [.int a, .int b] S (some (.int (pairF S a b np 0))) := by
  intro h hm
  refine jm_entry (by decide +kernel) (List.forall_mem_cons.mpr ⟨rfl, List.forall_mem_cons.mpr ⟨rfl, List.forall_mem_cons.mpr ⟨rfl, fun _ h => nomatch h⟩⟩⟩) (Nat.le_of_ble_eq_true rfl) ?_
  show jm_W _ _ _ _ _ _ 0 [some (.ref m), some (.int a), some (.int b), none] [] _
  refine jm_iconstL (v := 0) d_M_pairOf_0 (by decide) ?_
  refine jm_istore_n d_M_pairOf_1 (Nat.le_of_ble_eq_true rfl) ?_
  exact lp_M_pairOf hnp h12 hm a b np 0 (by omega)
end
end
section
/-! THE REFERENCE: agents, own costs, pairs. Written by wip/whole/gen/p23.py -/
section
variable {Γ : jm_G} {d m : Nat} {ar : Nat → Nat} {S : mS} {h : jm_H}
abbrev isAgentS (S : mS) (a : Int32) : Prop := 0 ≤ a ∧ a ≤ S 1 0 - 1
abbrev isValueS (S : mS) (a v : Int32) : Prop := isAgentS S a ∧ 0 ≤ v ∧ v ≤ S 3 a.toNatClampNeg - 1
abbrev isCostS (c : Int32) : Prop := c = -2 ∨ (0 ≤ c ∧ c ≤ 999)
def farS (c : Int32) : Int32 := if c = -2 then 1048576 else c
theorem ag_ix {n : Nat} (hn : S 1 0 = nI n) (h8 : n ≤ 8) {a : Int32} (ha : isAgentS S a) : ∃ k, k < n ∧ a = nI k := by
  obtain ⟨h1, h2⟩ := ha
  rw [hn] at h2
  rcases pk_ix a (n := n) (by omega) with q | q | q
  · simp only [Int32.lt_iff_toInt_lt, Int32.le_iff_toInt_le] at *
    omega
  · exfalso
    cases n with
    | zero => simp only [Int32.le_iff_toInt_le] at *; rw [show (nI 0 - 1).toInt = -1 by decide] at h2; rw [show (0 : Int32).toInt = 0 by decide] at h1; omega
    | succ n =>
      rw [nI_pred] at h2
      simp only [Int32.le_iff_toInt_le] at *
      rw [nI_toInt (by omega)] at h2 q
      omega
  · exact q
theorem ix_ag {n k : Nat} (hn : S 1 0 = nI n) (h8 : n ≤ 8) (hk : k < n) : isAgentS S (nI k) := by
  refine ⟨nI_pos' (by omega), ?_⟩
  rw [hn]
  cases n with
  | zero => omega
  | succ n => rw [nI_pred]; exact nI_le (by omega) (by omega)
theorem ag_vp {n : Nat} (hn : S 1 0 = nI n) (h8 : n ≤ 8) {a : Int32} (ha : isAgentS S a) : vp_in a 8 := by
  obtain ⟨k, hk, rfl⟩ := ag_ix hn h8 ha
  exact vp_in_nI (by omega) (by decide)
theorem k_M_isValue {n : Nat} (hd : 2 ≤ d) (hn : S 1 0 = nI n) (h8 : n ≤ 8) (a v : Int32) : mA Γ m_M_isValue d m ar [.int a, .int v] S (some (.int (if isValueS S a v then 1 else 0))) := by
  intro h hm
  refine jm_entry (by decide +kernel) (List.forall_mem_cons.mpr ⟨rfl, List.forall_mem_cons.mpr ⟨rfl, List.forall_mem_cons.mpr ⟨rfl, fun _ h => nomatch h⟩⟩⟩) (Nat.le_of_ble_eq_true rfl) ?_
  show jm_W _ _ _ _ _ _ 0 [some (.ref m), some (.int a), some (.int v)] [] _
  first | refine jm_aload_n d_M_isValue_0 rfl ?_ | refine jm_aload_nN d_M_isValue_0 rfl ?_
  refine jm_iload_n d_M_isValue_1 rfl ?_
  refine mr_callp (As := [_]) d_M_isValue_2 l_M_131 iw_M_isAgent ew_M_isAgent nv_M_isAgent rfl (Nat.le_of_ble_eq_true rfl) (by omega : 1 + 1 ≤ _) (k_M_isAgent (by omega) _) hm ?_
  first | refine jm_bz_eq 28 d_M_isValue_5 (by decide) (fun hb5 => ?_) (fun hb5 => ?_) | refine jm_if_eq 28 d_M_isValue_5 (by decide) (fun hb5 => ?_) (fun hb5 => ?_)
  · refine jm_iconstL (v := 0) d_M_isValue_28 (by decide) ?_
    exact jm_zret d_M_isValue_29 rfl rfl ⟨rfl, by rw [if_neg (fun q : isValueS S a v => hb5 q.1)]⟩
  · refine jm_iload_n d_M_isValue_8 rfl ?_
    refine jm_iconstL (v := 0) d_M_isValue_9 (by decide) ?_
    first | refine jm_aload_n d_M_isValue_10 rfl ?_ | refine jm_aload_nN d_M_isValue_10 rfl ?_
    refine mr_geta d_M_isValue_11 f_M_7 hm (by decide) (by decide) ?_
    refine jm_iload_n d_M_isValue_14 rfl ?_
    refine mr_ld _ d_M_isValue_15 hm (by decide) (by decide) rfl (ag_vp hn h8 hb5) ?_
    refine jm_iconstL (v := 1) d_M_isValue_16 (by decide) ?_
    refine jm_isub d_M_isValue_17 ?_
    refine jm_callSp (As := [_, _, _]) d_M_isValue_18 l_M_127 sw_M_within nv_M_within rfl (Nat.le_of_ble_eq_true rfl) (by omega : 0 + 1 ≤ _) (k_M_within _ _ _) ?_
    first | refine jm_bz_eq 28 d_M_isValue_21 (by decide) (fun hb21 => ?_) (fun hb21 => ?_) | refine jm_if_eq 28 d_M_isValue_21 (by decide) (fun hb21 => ?_) (fun hb21 => ?_)
    · refine jm_iconstL (v := 0) d_M_isValue_28 (by decide) ?_
      exact jm_zret d_M_isValue_29 rfl rfl ⟨rfl, by rw [if_neg (fun q : isValueS S a v => hb21 q.2)]⟩
    · refine jm_iconstL (v := 1) d_M_isValue_24 (by decide) ?_
      refine jm_goto 29 d_M_isValue_25 (by decide) ?_
      exact jm_zret d_M_isValue_29 rfl rfl ⟨rfl, by rw [if_pos (⟨hb5, hb21⟩ : isValueS S a v)]⟩
abbrev thAgent (S : mS) (x : Int32) : Int32 := thF (¬ (2 ≤ x ∧ x ≤ 4)) (S 2 0 ≠ 0 ∨ S 1 0 = 8)
theorem k_M_agent {n : Nat} (hd : 1 ≤ d) (hn : S 1 0 = nI n) (h8 : n ≤ 8) (x : Int32) : mM Γ m_M_agent d m ar [.int x] S (fun v S' => (thAgent S x ≠ 0 ∧ S' = mu S 0 0 (thAgent S x) ∧ v = some (.int 0)) ∨ (thAgent S x = 0 ∧ n < 8 ∧ S' = mu (mu (mu S 0 0 0) 3 n x) 1 0 (nI (n + 1)) ∧ v = some (.int (nI n)))) := by
  intro h hm
  have hf : mo_fr m ar h h := mo_fr.rf
  have J : ∀ t, t = thAgent S x → ∀ h1, mo h1 m ar S → mo_fr m ar h h1 → jm_W Γ m_M_agent d 0 0 (fun oc h' => ∃ v S', oc = .inl v ∧ ((thAgent S x ≠ 0 ∧ S' = mu S 0 0 (thAgent S x) ∧ v = some (.int 0)) ∨ (thAgent S x = 0 ∧ n < 8 ∧ S' = mu (mu (mu S 0 0 0) 3 n x) 1 0 (nI (n + 1)) ∧ v = some (.int (nI n)))) ∧ mo h' m ar S' ∧ mo_fr m ar h h') 35 [some (.ref m), some (.int x)] [.int t, .ref m] h1 := by
    intro t ht h1 hm1 hf1
    have hm := hm1
    have hf := hf1
    clear hm1 hf1
    have ht8 : t = 0 → n < 8 := by
      intro q
      rw [ht, thF_0] at q
      rcases Nat.lt_or_ge n 8 with z | z
      · exact z
      · exact absurd (Or.inr (by rw [hn, show n = 8 by omega]; rfl)) q.2
    refine mr_puti d_M_agent_35 f_M_116 hm hf (by decide) rfl (fun h hm hf => ?_)
    first | refine jm_aload_n d_M_agent_38 rfl ?_ | refine jm_aload_nN d_M_agent_38 rfl ?_
    refine mr_geti d_M_agent_39 f_M_116 hm (by decide) rfl ?_
    refine jm_if_le 47 d_M_agent_42 (by decide) (fun hb42 => ?_) (fun hb42 => ?_)
    · first | refine jm_aload_n d_M_agent_47 rfl ?_ | refine jm_aload_nN d_M_agent_47 rfl ?_
      refine mr_geta d_M_agent_48 f_M_7 hm (by decide) (by decide) ?_
      first | refine jm_aload_n d_M_agent_51 rfl ?_ | refine jm_aload_nN d_M_agent_51 rfl ?_
      refine mr_geti d_M_agent_52 f_M_124 hm (by decide) rfl ?_
      refine jm_iload_n d_M_agent_55 rfl ?_
      refine mr_st _ d_M_agent_56 hm hf (by decide) (by decide) rfl (by have q : t = 0 := (by have q : t ≤ 0 := hb42; rw [ht] at q ⊢; exact thF_le.mp q); rw [show mu S 0 0 t 1 0 = nI n from hn]; exact vp_in_nI (by show n < 8; exact ht8 q) (by decide)) (fun h hm hf => ?_)
      first | refine jm_aload_n d_M_agent_57 rfl ?_ | refine jm_aload_nN d_M_agent_57 rfl ?_
      refine jm_dup d_M_agent_58 rfl ?_
      refine mr_geti d_M_agent_59 f_M_124 hm (by decide) rfl ?_
      refine jm_iconstL (v := 1) d_M_agent_62 (by decide) ?_
      refine jm_iadd d_M_agent_63 ?_
      refine mr_puti d_M_agent_64 f_M_124 hm hf (by decide) rfl (fun h hm hf => ?_)
      first | refine jm_aload_n d_M_agent_67 rfl ?_ | refine jm_aload_nN d_M_agent_67 rfl ?_
      refine mr_geti d_M_agent_68 f_M_124 hm (by decide) rfl ?_
      refine jm_iconstL (v := 1) d_M_agent_71 (by decide) ?_
      refine jm_isub d_M_agent_72 ?_
      have hz : t = 0 := by have q : t ≤ 0 := hb42; rw [ht] at q ⊢; exact thF_le.mp q
      subst hz
      exact jm_iret d_M_agent_73 rfl ⟨_, _, rfl, Or.inr ⟨ht.symm, ht8 rfl, by simp [mu, hn, nI_clamp (show n < 2 ^ 31 by omega), nI_1], by simp [mu, hn, nI_1, nI_pred]⟩, hm, hf⟩
    · refine jm_iconstL (v := 0) d_M_agent_45 (by decide) ?_
      exact jm_iret d_M_agent_46 rfl ⟨_, _, rfl, Or.inl ⟨fun q => hb42 (by show t ≤ 0; rw [ht, q]; decide), by rw [← ht], rfl⟩, hm, hf⟩
  refine jm_entry (by decide +kernel) (List.forall_mem_cons.mpr ⟨rfl, List.forall_mem_cons.mpr ⟨rfl, fun _ h => nomatch h⟩⟩) (Nat.le_of_ble_eq_true rfl) ?_
  show jm_W _ _ _ _ _ _ 0 [some (.ref m), some (.int x)] [] _
  first | refine jm_aload_n d_M_agent_0 rfl ?_ | refine jm_aload_nN d_M_agent_0 rfl ?_
  refine jm_iload_n d_M_agent_1 rfl ?_
  refine jm_iconstL (v := 2) d_M_agent_2 (by decide) ?_
  refine jm_iconstL (v := 4) d_M_agent_3 (by decide) ?_
  refine jm_callSp (As := [_, _, _]) d_M_agent_4 l_M_127 sw_M_within nv_M_within rfl (Nat.le_of_ble_eq_true rfl) (by omega : 0 + 1 ≤ _) (k_M_within _ _ _) ?_
  first | refine jm_bz_ne 14 d_M_agent_7 (by decide) (fun hb7 => ?_) (fun hb7 => ?_) | refine jm_if_ne 14 d_M_agent_7 (by decide) (fun hb7 => ?_) (fun hb7 => ?_)
  · first | refine jm_aload_n d_M_agent_14 rfl ?_ | refine jm_aload_nN d_M_agent_14 rfl ?_
    refine mr_geti d_M_agent_15 f_M_135 hm (by decide) rfl ?_
    first | refine jm_bz_ne 30 d_M_agent_18 (by decide) (fun hb18 => ?_) (fun hb18 => ?_) | refine jm_if_ne 30 d_M_agent_18 (by decide) (fun hb18 => ?_) (fun hb18 => ?_)
    · refine jm_iconstL (v := 2) d_M_agent_30 (by decide) ?_
      refine jm_goto 35 d_M_agent_31 (by decide) ?_
      exact J _ (thF_2 (fun q => q hb7) (by first | exact Or.inl hb18 | exact Or.inr (Decidable.not_not.mp hb27))) h hm hf
    · first | refine jm_aload_n d_M_agent_21 rfl ?_ | refine jm_aload_nN d_M_agent_21 rfl ?_
      refine mr_geti d_M_agent_22 f_M_124 hm (by decide) rfl ?_
      refine jm_bipushL (v := 8) d_M_agent_25 (by decide) ?_
      refine jm_icmp_ne 34 d_M_agent_27 (by decide) (fun hb27 => ?_) (fun hb27 => ?_)
      · refine jm_iconstL (v := 0) d_M_agent_34 (by decide) ?_
        exact J _ (thF_3 (fun q => q hb7) (fun q => q.elim hb18 hb27)) h hm hf
      · refine jm_iconstL (v := 2) d_M_agent_30 (by decide) ?_
        refine jm_goto 35 d_M_agent_31 (by decide) ?_
        exact J _ (thF_2 (fun q => q hb7) (by first | exact Or.inl hb18 | exact Or.inr (Decidable.not_not.mp hb27))) h hm hf
  · refine jm_iconstL (v := 1) d_M_agent_10 (by decide) ?_
    refine jm_goto 35 d_M_agent_11 (by decide) ?_
    exact J _ (thF_1 hb7) h hm hf
abbrev szOK (S : mS) (n : Nat) : Prop := ∀ k, k < n → ∃ z, 2 ≤ z ∧ z ≤ 4 ∧ S 3 k = nI z
theorem val_ix {n : Nat} (hn : S 1 0 = nI n) (h8 : n ≤ 8) (hz : szOK S n) {a v : Int32} (ha : isValueS S a v) : ∃ k w z, k < n ∧ a = nI k ∧ z ≤ 4 ∧ S 3 k = nI z ∧ w < z ∧ v = nI w := by
  obtain ⟨h1, h2, h3⟩ := ha
  obtain ⟨k, hk, rfl⟩ := ag_ix hn h8 h1
  obtain ⟨z, z1, z2, z3⟩ := hz k hk
  rw [nI_clamp (by omega), z3] at h3
  obtain ⟨w, hw, rfl⟩ := nI_of2 (n := z - 1) (M := nI z - 1) (by
    obtain ⟨z', rfl⟩ : ∃ z', z = z' + 1 := ⟨z - 1, by omega⟩
    rw [nI_pred, nI_toInt (by omega)]
    simp) (by simp only [Int32.lt_iff_toInt_lt, Int32.le_iff_toInt_le] at *; omega) h3
  exact ⟨k, w, z, hk, rfl, z2, z3, by omega, rfl⟩
theorem ix_val {n k w z : Nat} (hn : S 1 0 = nI n) (h8 : n ≤ 8) (hk : k < n) (hz : z ≤ 4) (h3 : S 3 k = nI z) (hw : w < z) : isValueS S (nI k) (nI w) := by
  refine ⟨ix_ag hn h8 hk, nI_pos' (by omega), ?_⟩
  rw [nI_clamp (by omega), h3]
  obtain ⟨z', rfl⟩ : ∃ z', z = z' + 1 := ⟨z - 1, by omega⟩
  rw [nI_pred]
  exact nI_le (by omega) (by omega)
abbrev thOwn (S : mS) (a v c : Int32) : Int32 := thF (¬ isValueS S a v ∨ ¬ isCostS c) (S 2 0 ≠ 0)
theorem k_M_own {n : Nat} (hd : 3 ≤ d) (hn : S 1 0 = nI n) (h8 : n ≤ 8) (hz : szOK S n) (a v c : Int32) : mM Γ m_M_own d m ar [.int a, .int v, .int c] S (fun v9 S' => v9 = none ∧ ((thOwn S a v c ≠ 0 ∧ S' = mu S 0 0 (thOwn S a v c)) ∨ (thOwn S a v c = 0 ∧ ∃ k w, k < n ∧ w < 4 ∧ a = nI k ∧ v = nI w ∧ S' = mu (mu S 0 0 0) 4 (4 * k + w) (farS c)))) := by
  intro h hm
  have hf : mo_fr m ar h h := mo_fr.rf
  have J : ∀ t, t = thOwn S a v c → ∀ h1, mo h1 m ar S → mo_fr m ar h h1 → jm_W Γ m_M_own d 0 0 (fun oc h' => ∃ v9 S', oc = .inl v9 ∧ (v9 = none ∧ ((thOwn S a v c ≠ 0 ∧ S' = mu S 0 0 (thOwn S a v c)) ∨ (thOwn S a v c = 0 ∧ ∃ k w, k < n ∧ w < 4 ∧ a = nI k ∧ v = nI w ∧ S' = mu (mu S 0 0 0) 4 (4 * k + w) (farS c)))) ∧ mo h' m ar S' ∧ mo_fr m ar h h') 33 [some (.ref m), some (.int a), some (.int v), some (.int c)] [.int t, .ref m] h1 := by
    intro t ht h1 hm1 hf1
    have hm := hm1
    have hf := hf1
    clear hm1 hf1
    refine mr_puti d_M_own_33 f_M_116 hm hf (by decide) rfl (fun h hm hf => ?_)
    first | refine jm_aload_n d_M_own_36 rfl ?_ | refine jm_aload_nN d_M_own_36 rfl ?_
    refine mr_geti d_M_own_37 f_M_116 hm (by decide) rfl ?_
    first | refine jm_bz_ne 65 d_M_own_40 (by decide) (fun hb40 => ?_) (fun hb40 => ?_) | refine jm_if_ne 65 d_M_own_40 (by decide) (fun hb40 => ?_) (fun hb40 => ?_)
    · exact jm_vret d_M_own_65 rfl ⟨_, _, rfl, ⟨rfl, Or.inl ⟨fun q => hb40 (by show t = 0; rw [ht, q]), by rw [← ht]⟩⟩, hm, hf⟩
    · have hz0 : t = 0 := Decidable.not_not.mp hb40
      subst hz0
      have q0 := thF_0.mp ht.symm
      obtain ⟨k, w, z, hk, rfl, hz4, hz3, hw, rfl⟩ := val_ix hn h8 hz (Decidable.not_not.mp (fun q => q0.1 (Or.inl q)))
      first | refine jm_aload_n d_M_own_43 rfl ?_ | refine jm_aload_nN d_M_own_43 rfl ?_
      refine mr_geta d_M_own_44 f_M_13 hm (by decide) (by decide) ?_
      refine jm_iconstL (v := 4) d_M_own_47 (by decide) ?_
      refine jm_iload_n d_M_own_48 rfl ?_
      refine jm_imul d_M_own_49 ?_
      refine jm_iload_n d_M_own_50 rfl ?_
      refine jm_iadd d_M_own_51 ?_
      refine jm_iload_n d_M_own_52 rfl ?_
      refine jm_bipushL (v := (-2)) d_M_own_53 (by decide) ?_
      refine jm_icmp_ne 63 d_M_own_55 (by decide) (fun hb55 => ?_) (fun hb55 => ?_)
      · refine jm_iload_n d_M_own_63 rfl ?_
        refine mr_st _ d_M_own_64 hm hf (by decide) (by decide) rfl (by rw [show (4 : Int32) * nI k + nI w = nI (4 * k + w) by rw [show (4 : Int32) = nI 4 from rfl, pk_mul, nI_add]]; exact vp_in_nI (by show 4 * k + w < 32; omega) (by decide)) (fun h hm hf => ?_)
        exact jm_vret d_M_own_65 rfl ⟨_, _, rfl, ⟨rfl, Or.inr ⟨ht.symm, k, w, hk, by omega, rfl, rfl, by rw [show (4 : Int32) * nI k + nI w = nI (4 * k + w) by rw [show (4 : Int32) = nI 4 from rfl, pk_mul, nI_add], nI_clamp (by omega)]; first | rw [farS, if_pos (Decidable.not_not.mp hb55)] | rw [farS, if_neg hb55]⟩⟩, hm, hf⟩
      · refine jm_ldc d_M_own_58 k_M_145 ?_
        refine jm_goto 64 d_M_own_60 (by decide) ?_
        refine mr_st _ d_M_own_64 hm hf (by decide) (by decide) rfl (by rw [show (4 : Int32) * nI k + nI w = nI (4 * k + w) by rw [show (4 : Int32) = nI 4 from rfl, pk_mul, nI_add]]; exact vp_in_nI (by show 4 * k + w < 32; omega) (by decide)) (fun h hm hf => ?_)
        exact jm_vret d_M_own_65 rfl ⟨_, _, rfl, ⟨rfl, Or.inr ⟨ht.symm, k, w, hk, by omega, rfl, rfl, by rw [show (4 : Int32) * nI k + nI w = nI (4 * k + w) by rw [show (4 : Int32) = nI 4 from rfl, pk_mul, nI_add], nI_clamp (by omega)]; first | rw [farS, if_pos (Decidable.not_not.mp hb55)] | rw [farS, if_neg hb55]⟩⟩, hm, hf⟩
  refine jm_entry (by decide +kernel) (List.forall_mem_cons.mpr ⟨rfl, List.forall_mem_cons.mpr ⟨rfl, List.forall_mem_cons.mpr ⟨rfl, List.forall_mem_cons.mpr ⟨rfl, fun _ h => nomatch h⟩⟩⟩⟩) (Nat.le_of_ble_eq_true rfl) ?_
  show jm_W _ _ _ _ _ _ 0 [some (.ref m), some (.int a), some (.int v), some (.int c)] [] _
  first | refine jm_aload_n d_M_own_0 rfl ?_ | refine jm_aload_nN d_M_own_0 rfl ?_
  first | refine jm_aload_n d_M_own_1 rfl ?_ | refine jm_aload_nN d_M_own_1 rfl ?_
  refine jm_iload_n d_M_own_2 rfl ?_
  refine jm_iload_n d_M_own_3 rfl ?_
  refine mr_callp (As := [_, _]) d_M_own_4 l_M_139 iw_M_isValue ew_M_isValue nv_M_isValue rfl (Nat.le_of_ble_eq_true rfl) (by omega : 2 + 1 ≤ _) (k_M_isValue (by omega) hn h8 _ _) hm ?_
  first | refine jm_bz_eq 17 d_M_own_7 (by decide) (fun hb7 => ?_) (fun hb7 => ?_) | refine jm_if_eq 17 d_M_own_7 (by decide) (fun hb7 => ?_) (fun hb7 => ?_)
  · refine jm_iconstL (v := 1) d_M_own_17 (by decide) ?_
    refine jm_goto 33 d_M_own_18 (by decide) ?_
    exact J _ (thF_1 (by first | exact Or.inl hb7 | exact Or.inr hb14)) h hm hf
  · refine jm_iload_n d_M_own_10 rfl ?_
    refine jm_callSp (As := [_]) d_M_own_11 l_M_142 sw_M_isCost nv_M_isCost rfl (Nat.le_of_ble_eq_true rfl) (by omega : 1 + 1 ≤ _) (k_M_isCost (by omega) _) ?_
    first | refine jm_bz_ne 21 d_M_own_14 (by decide) (fun hb14 => ?_) (fun hb14 => ?_) | refine jm_if_ne 21 d_M_own_14 (by decide) (fun hb14 => ?_) (fun hb14 => ?_)
    · first | refine jm_aload_n d_M_own_21 rfl ?_ | refine jm_aload_nN d_M_own_21 rfl ?_
      refine mr_geti d_M_own_22 f_M_135 hm (by decide) rfl ?_
      first | refine jm_bz_eq 32 d_M_own_25 (by decide) (fun hb25 => ?_) (fun hb25 => ?_) | refine jm_if_eq 32 d_M_own_25 (by decide) (fun hb25 => ?_) (fun hb25 => ?_)
      · refine jm_iconstL (v := 0) d_M_own_32 (by decide) ?_
        exact J _ (thF_3 (fun q => q.elim (fun z => z hb7) (fun z => z hb14)) (fun q => q hb25)) h hm hf
      · refine jm_iconstL (v := 2) d_M_own_28 (by decide) ?_
        refine jm_goto 33 d_M_own_29 (by decide) ?_
        exact J _ (thF_2 (fun q => q.elim (fun z => z hb7) (fun z => z hb14)) hb25) h hm hf
    · refine jm_iconstL (v := 1) d_M_own_17 (by decide) ?_
      refine jm_goto 33 d_M_own_18 (by decide) ?_
      exact J _ (thF_1 (by first | exact Or.inl hb7 | exact Or.inr hb14)) h hm hf
end
end
section
/-! THE REFERENCE: pairs and their costs. Written by wip/whole/gen/p24.py -/
section
variable {Γ : jm_G} {d m : Nat} {ar : Nat → Nat} {S : mS} {h : jm_H}
theorem pairF_ix (a b : Int32) : ∀ k p, p + k ≤ 12 → (pairF S a b k p = -1 ∧ ∀ q, p ≤ q → q < p + k → ¬ ((S 6 q = a ∧ S 7 q = b) ∨ (S 6 q = b ∧ S 7 q = a))) ∨ ∃ q, p ≤ q ∧ q < p + k ∧ pairF S a b k p = nI q ∧ ((S 6 q = a ∧ S 7 q = b) ∨ (S 6 q = b ∧ S 7 q = a)) := by
  intro k
  induction k with
  | zero => intro p _; exact Or.inl ⟨rfl, fun q h1 h2 => by omega⟩
  | succ k ih =>
    intro p hp
    by_cases hq : (S 6 p = a ∧ S 7 p = b) ∨ (S 6 p = b ∧ S 7 p = a)
    · exact Or.inr ⟨p, by omega, by omega, if_pos hq, hq⟩
    · rw [show pairF S a b (k + 1) p = pairF S a b k (p + 1) from if_neg hq]
      rcases ih (p + 1) (by omega) with ⟨h1, h2⟩ | ⟨q, h1, h2, h3, h4⟩
      · refine Or.inl ⟨h1, fun q q1 q2 => ?_⟩
        by_cases e : q = p
        · rw [e]; exact hq
        · exact h2 q (by omega) (by omega)
      · exact Or.inr ⟨q, by omega, by omega, h3, h4⟩
theorem pairF_neg {a b : Int32} {np : Nat} (h12 : np ≤ 12) : pairF S a b np 0 < 0 ↔ pairF S a b np 0 = -1 := by
  rcases pairF_ix (S := S) a b np 0 (by omega) with ⟨h1, -⟩ | ⟨q, h1, h2, h3, -⟩
  · rw [h1]; decide
  · rw [h3]
    constructor
    · intro z; exact absurd z (nI_pos (by omega))
    · intro z; exact absurd (show nI q < 0 by rw [z]; decide) (nI_pos (by omega))
abbrev isPC (S : mS) (np : Nat) (a b v w c : Int32) : Prop := ¬ pairF S a b np 0 < 0 ∧ isValueS S a v ∧ isValueS S b w ∧ isCostS c
abbrev plS (S : mS) (p : Nat) (a : Int32) (v w : Nat) : Nat := 16 * p + (if S 6 p = a then 4 * v + w else 4 * w + v)
theorem k_M_isPairCost {n np : Nat} (hd : 3 ≤ d) (hn : S 1 0 = nI n) (h8 : n ≤ 8) (hp : S 5 0 = nI np) (h12 : np ≤ 12) (a b v w c : Int32) : mA Γ m_M_isPairCost d m ar [.int a, .int b, .int v, .int w, .int c] S (some (.int (if isPC S np a b v w c then 1 else 0))) := by
  intro h hm
  refine jm_entry (by decide +kernel) (List.forall_mem_cons.mpr ⟨rfl, List.forall_mem_cons.mpr ⟨rfl, List.forall_mem_cons.mpr ⟨rfl, List.forall_mem_cons.mpr ⟨rfl, List.forall_mem_cons.mpr ⟨rfl, List.forall_mem_cons.mpr ⟨rfl, fun _ h => nomatch h⟩⟩⟩⟩⟩⟩) (Nat.le_of_ble_eq_true rfl) ?_
  show jm_W _ _ _ _ _ _ 0 [some (.ref m), some (.int a), some (.int b), some (.int v), some (.int w), some (.int c)] [] _
  first | refine jm_aload_n d_M_isPairCost_0 rfl ?_ | refine jm_aload_nN d_M_isPairCost_0 rfl ?_
  refine jm_iload_n d_M_isPairCost_1 rfl ?_
  refine jm_iload_n d_M_isPairCost_2 rfl ?_
  refine mr_callp (As := [_, _]) d_M_isPairCost_3 l_M_149 iw_M_pairOf ew_M_pairOf nv_M_pairOf rfl (Nat.le_of_ble_eq_true rfl) (by omega : 0 + 1 ≤ _) (k_M_pairOf hp h12 _ _) hm ?_
  refine jm_if_lt 40 d_M_isPairCost_6 (by decide) (fun hb6 => ?_) (fun hb6 => ?_)
  · refine jm_iconstL (v := 0) d_M_isPairCost_40 (by decide) ?_
    exact jm_zret d_M_isPairCost_41 rfl rfl ⟨rfl, by rw [if_neg (fun q : isPC S np a b v w c => q.1 hb6)]⟩
  · first | refine jm_aload_n d_M_isPairCost_9 rfl ?_ | refine jm_aload_nN d_M_isPairCost_9 rfl ?_
    refine jm_iload_n d_M_isPairCost_10 rfl ?_
    refine jm_iload_n d_M_isPairCost_11 rfl ?_
    refine mr_callp (As := [_, _]) d_M_isPairCost_12 l_M_139 iw_M_isValue ew_M_isValue nv_M_isValue rfl (Nat.le_of_ble_eq_true rfl) (by omega : 2 + 1 ≤ _) (k_M_isValue (by omega) hn h8 _ _) hm ?_
    first | refine jm_bz_eq 40 d_M_isPairCost_15 (by decide) (fun hb15 => ?_) (fun hb15 => ?_) | refine jm_if_eq 40 d_M_isPairCost_15 (by decide) (fun hb15 => ?_) (fun hb15 => ?_)
    · refine jm_iconstL (v := 0) d_M_isPairCost_40 (by decide) ?_
      exact jm_zret d_M_isPairCost_41 rfl rfl ⟨rfl, by rw [if_neg (fun q : isPC S np a b v w c => hb15 q.2.1)]⟩
    · first | refine jm_aload_n d_M_isPairCost_18 rfl ?_ | refine jm_aload_nN d_M_isPairCost_18 rfl ?_
      refine jm_iload_n d_M_isPairCost_19 rfl ?_
      refine jm_iload d_M_isPairCost_20 rfl ?_
      refine mr_callp (As := [_, _]) d_M_isPairCost_22 l_M_139 iw_M_isValue ew_M_isValue nv_M_isValue rfl (Nat.le_of_ble_eq_true rfl) (by omega : 2 + 1 ≤ _) (k_M_isValue (by omega) hn h8 _ _) hm ?_
      first | refine jm_bz_eq 40 d_M_isPairCost_25 (by decide) (fun hb25 => ?_) (fun hb25 => ?_) | refine jm_if_eq 40 d_M_isPairCost_25 (by decide) (fun hb25 => ?_) (fun hb25 => ?_)
      · refine jm_iconstL (v := 0) d_M_isPairCost_40 (by decide) ?_
        exact jm_zret d_M_isPairCost_41 rfl rfl ⟨rfl, by rw [if_neg (fun q : isPC S np a b v w c => hb25 q.2.2.1)]⟩
      · refine jm_iload d_M_isPairCost_28 rfl ?_
        refine jm_callSp (As := [_]) d_M_isPairCost_30 l_M_142 sw_M_isCost nv_M_isCost rfl (Nat.le_of_ble_eq_true rfl) (by omega : 1 + 1 ≤ _) (k_M_isCost (by omega) _) ?_
        first | refine jm_bz_eq 40 d_M_isPairCost_33 (by decide) (fun hb33 => ?_) (fun hb33 => ?_) | refine jm_if_eq 40 d_M_isPairCost_33 (by decide) (fun hb33 => ?_) (fun hb33 => ?_)
        · refine jm_iconstL (v := 0) d_M_isPairCost_40 (by decide) ?_
          exact jm_zret d_M_isPairCost_41 rfl rfl ⟨rfl, by rw [if_neg (fun q : isPC S np a b v w c => hb33 q.2.2.2)]⟩
        · refine jm_iconstL (v := 1) d_M_isPairCost_36 (by decide) ?_
          refine jm_goto 41 d_M_isPairCost_37 (by decide) ?_
          exact jm_zret d_M_isPairCost_41 rfl rfl ⟨rfl, by rw [if_pos (⟨hb6, hb15, hb25, hb33⟩ : isPC S np a b v w c)]⟩
theorem k_M_setCost {np p v w : Nat} (hp : S 5 0 = nI np) (h12 : np ≤ 12) (a b c : Int32) (hd : 1 ≤ d) (hpp : pairF S a b np 0 = nI p) (hp2 : p < np) (hv : v < 4) (hw : w < 4) : mM Γ m_M_setCost d m ar [.int a, .int b, .int (nI v), .int (nI w), .int c] S (fun v9 S' => v9 = none ∧ S' = mu S 8 (plS S p a v w) (farS c)) := by
  intro h hm
  have hf : mo_fr m ar h h := mo_fr.rf
  refine jm_entry (by decide +kernel) (List.forall_mem_cons.mpr ⟨rfl, List.forall_mem_cons.mpr ⟨rfl, List.forall_mem_cons.mpr ⟨rfl, List.forall_mem_cons.mpr ⟨rfl, List.forall_mem_cons.mpr ⟨rfl, List.forall_mem_cons.mpr ⟨rfl, fun _ h => nomatch h⟩⟩⟩⟩⟩⟩) (Nat.le_of_ble_eq_true rfl) ?_
  show jm_W _ _ _ _ _ _ 0 [some (.ref m), some (.int a), some (.int b), some (.int (nI v)), some (.int (nI w)), some (.int c), none, none] [] _
  first | refine jm_aload_n d_M_setCost_0 rfl ?_ | refine jm_aload_nN d_M_setCost_0 rfl ?_
  refine jm_iload_n d_M_setCost_1 rfl ?_
  refine jm_iload_n d_M_setCost_2 rfl ?_
  refine mr_callp (As := [_, _]) d_M_setCost_3 l_M_149 iw_M_pairOf ew_M_pairOf nv_M_pairOf rfl (Nat.le_of_ble_eq_true rfl) (by omega : 0 + 1 ≤ _) (k_M_pairOf hp h12 _ _) hm ?_
  rw [hpp]
  refine jm_istore d_M_setCost_6 (Nat.le_of_ble_eq_true rfl) ?_
  first | refine jm_aload_n d_M_setCost_8 rfl ?_ | refine jm_aload_nN d_M_setCost_8 rfl ?_
  refine mr_geta d_M_setCost_9 f_M_16 hm (by decide) (by decide) ?_
  refine jm_iload d_M_setCost_12 rfl ?_
  refine mr_ld _ d_M_setCost_14 hm (by decide) (by decide) rfl (vp_in_nI (by show p < 12; omega) (by decide)) ?_
  refine jm_iload_n d_M_setCost_15 rfl ?_
  refine jm_icmp_ne 28 d_M_setCost_16 (by decide) (fun hb16 => ?_) (fun hb16 => ?_)
  · refine jm_iconstL (v := 4) d_M_setCost_28 (by decide) ?_
    refine jm_iload d_M_setCost_29 rfl ?_
    refine jm_imul d_M_setCost_31 ?_
    refine jm_iload_n d_M_setCost_32 rfl ?_
    refine jm_iadd d_M_setCost_33 ?_
    rw [nI_clamp (show p < 2 ^ 31 by omega)] at hb16
    first | rw [show (4 : Int32) * nI v + nI w = nI (4 * v + w) by rw [show (4 : Int32) = nI 4 from rfl, pk_mul, nI_add]] | rw [show (4 : Int32) * nI w + nI v = nI (4 * w + v) by rw [show (4 : Int32) = nI 4 from rfl, pk_mul, nI_add]]
    refine jm_istore d_M_setCost_34 (Nat.le_of_ble_eq_true rfl) ?_
    first | refine jm_aload_n d_M_setCost_36 rfl ?_ | refine jm_aload_nN d_M_setCost_36 rfl ?_
    refine mr_geta d_M_setCost_37 f_M_22 hm (by decide) (by decide) ?_
    refine jm_bipushL (v := 16) d_M_setCost_40 (by decide) ?_
    refine jm_iload d_M_setCost_42 rfl ?_
    refine jm_imul d_M_setCost_44 ?_
    refine jm_iload d_M_setCost_45 rfl ?_
    refine jm_iadd d_M_setCost_47 ?_
    first | rw [show (16 : Int32) * nI p + nI (4 * v + w) = nI (16 * p + (4 * v + w)) by rw [show (16 : Int32) = nI 16 from rfl, pk_mul, nI_add]] | rw [show (16 : Int32) * nI p + nI (4 * w + v) = nI (16 * p + (4 * w + v)) by rw [show (16 : Int32) = nI 16 from rfl, pk_mul, nI_add]]
    refine jm_iload d_M_setCost_48 rfl ?_
    refine jm_bipushL (v := (-2)) d_M_setCost_50 (by decide) ?_
    refine jm_icmp_ne 60 d_M_setCost_52 (by decide) (fun hb52 => ?_) (fun hb52 => ?_)
    · refine jm_iload d_M_setCost_60 rfl ?_
      refine mr_st _ d_M_setCost_62 hm hf (by decide) (by decide) rfl (vp_in_nI (by show _ < 192; omega) (by decide)) (fun h hm hf => ?_)
      exact jm_vret d_M_setCost_63 rfl ⟨_, _, rfl, ⟨rfl, by rw [nI_clamp (by omega)]; simp only [plS, farS]; (first | rw [if_neg hb16] | rw [if_pos (Decidable.not_not.mp hb16)]); (first | rw [if_neg hb52] | rw [if_pos (Decidable.not_not.mp hb52)])⟩, hm, hf⟩
    · refine jm_ldc d_M_setCost_55 k_M_145 ?_
      refine jm_goto 62 d_M_setCost_57 (by decide) ?_
      refine mr_st _ d_M_setCost_62 hm hf (by decide) (by decide) rfl (vp_in_nI (by show _ < 192; omega) (by decide)) (fun h hm hf => ?_)
      exact jm_vret d_M_setCost_63 rfl ⟨_, _, rfl, ⟨rfl, by rw [nI_clamp (by omega)]; simp only [plS, farS]; (first | rw [if_neg hb16] | rw [if_pos (Decidable.not_not.mp hb16)]); (first | rw [if_neg hb52] | rw [if_pos (Decidable.not_not.mp hb52)])⟩, hm, hf⟩
  · refine jm_iconstL (v := 4) d_M_setCost_19 (by decide) ?_
    refine jm_iload_n d_M_setCost_20 rfl ?_
    refine jm_imul d_M_setCost_21 ?_
    refine jm_iload d_M_setCost_22 rfl ?_
    refine jm_iadd d_M_setCost_24 ?_
    refine jm_goto 34 d_M_setCost_25 (by decide) ?_
    rw [nI_clamp (show p < 2 ^ 31 by omega)] at hb16
    first | rw [show (4 : Int32) * nI v + nI w = nI (4 * v + w) by rw [show (4 : Int32) = nI 4 from rfl, pk_mul, nI_add]] | rw [show (4 : Int32) * nI w + nI v = nI (4 * w + v) by rw [show (4 : Int32) = nI 4 from rfl, pk_mul, nI_add]]
    refine jm_istore d_M_setCost_34 (Nat.le_of_ble_eq_true rfl) ?_
    first | refine jm_aload_n d_M_setCost_36 rfl ?_ | refine jm_aload_nN d_M_setCost_36 rfl ?_
    refine mr_geta d_M_setCost_37 f_M_22 hm (by decide) (by decide) ?_
    refine jm_bipushL (v := 16) d_M_setCost_40 (by decide) ?_
    refine jm_iload d_M_setCost_42 rfl ?_
    refine jm_imul d_M_setCost_44 ?_
    refine jm_iload d_M_setCost_45 rfl ?_
    refine jm_iadd d_M_setCost_47 ?_
    first | rw [show (16 : Int32) * nI p + nI (4 * v + w) = nI (16 * p + (4 * v + w)) by rw [show (16 : Int32) = nI 16 from rfl, pk_mul, nI_add]] | rw [show (16 : Int32) * nI p + nI (4 * w + v) = nI (16 * p + (4 * w + v)) by rw [show (16 : Int32) = nI 16 from rfl, pk_mul, nI_add]]
    refine jm_iload d_M_setCost_48 rfl ?_
    refine jm_bipushL (v := (-2)) d_M_setCost_50 (by decide) ?_
    refine jm_icmp_ne 60 d_M_setCost_52 (by decide) (fun hb52 => ?_) (fun hb52 => ?_)
    · refine jm_iload d_M_setCost_60 rfl ?_
      refine mr_st _ d_M_setCost_62 hm hf (by decide) (by decide) rfl (vp_in_nI (by show _ < 192; omega) (by decide)) (fun h hm hf => ?_)
      exact jm_vret d_M_setCost_63 rfl ⟨_, _, rfl, ⟨rfl, by rw [nI_clamp (by omega)]; simp only [plS, farS]; (first | rw [if_neg hb16] | rw [if_pos (Decidable.not_not.mp hb16)]); (first | rw [if_neg hb52] | rw [if_pos (Decidable.not_not.mp hb52)])⟩, hm, hf⟩
    · refine jm_ldc d_M_setCost_55 k_M_145 ?_
      refine jm_goto 62 d_M_setCost_57 (by decide) ?_
      refine mr_st _ d_M_setCost_62 hm hf (by decide) (by decide) rfl (vp_in_nI (by show _ < 192; omega) (by decide)) (fun h hm hf => ?_)
      exact jm_vret d_M_setCost_63 rfl ⟨_, _, rfl, ⟨rfl, by rw [nI_clamp (by omega)]; simp only [plS, farS]; (first | rw [if_neg hb16] | rw [if_pos (Decidable.not_not.mp hb16)]); (first | rw [if_neg hb52] | rw [if_pos (Decidable.not_not.mp hb52)])⟩, hm, hf⟩
abbrev thCost (S : mS) (np : Nat) (a b v w c : Int32) : Int32 := thF (¬ isPC S np a b v w c) (S 2 0 ≠ 0)
theorem isPC_ix {n np : Nat} (hn : S 1 0 = nI n) (h8 : n ≤ 8) (h12 : np ≤ 12) (hz : szOK S n) {a b v w c : Int32} (h : isPC S np a b v w c) : ∃ p v' w', pairF S a b np 0 = nI p ∧ p < np ∧ v' < 4 ∧ w' < 4 ∧ v = nI v' ∧ w = nI w' := by
  obtain ⟨h1, h2, h3, h4⟩ := h
  obtain ⟨k, v', z, -, -, z1, -, z3, rfl⟩ := val_ix hn h8 hz h2
  obtain ⟨k2, w', z', -, -, y1, -, y3, rfl⟩ := val_ix hn h8 hz h3
  rcases pairF_ix (S := S) a b np 0 (by omega) with ⟨q, -⟩ | ⟨p, q1, q2, q3, -⟩
  · exact absurd ((pairF_neg h12).mpr q) h1
  · exact ⟨p, v', w', q3, by omega, by omega, by omega, rfl, rfl⟩
theorem pairF_mu {a b t : Int32} (k p : Nat) : pairF (mu S 0 0 t) a b k p = pairF S a b k p := by
  induction k generalizing p with
  | zero => rfl
  | succ k ih =>
    show (if (mu S 0 0 t 6 p = a ∧ mu S 0 0 t 7 p = b) ∨ (mu S 0 0 t 6 p = b ∧ mu S 0 0 t 7 p = a) then nI p else pairF (mu S 0 0 t) a b k (p + 1)) = if (S 6 p = a ∧ S 7 p = b) ∨ (S 6 p = b ∧ S 7 p = a) then nI p else pairF S a b k (p + 1)
    rw [ih (p + 1)]
    simp [mu]
theorem k_M_cost {n np : Nat} (hd : 4 ≤ d) (hn : S 1 0 = nI n) (h8 : n ≤ 8) (hz : szOK S n) (hp : S 5 0 = nI np) (h12 : np ≤ 12) (a b v w c : Int32) : mM Γ m_M_cost d m ar [.int a, .int b, .int v, .int w, .int c] S (fun v9 S' => v9 = none ∧ ((thCost S np a b v w c ≠ 0 ∧ S' = mu S 0 0 (thCost S np a b v w c)) ∨ (thCost S np a b v w c = 0 ∧ ∃ p v' w', pairF S a b np 0 = nI p ∧ p < np ∧ v' < 4 ∧ w' < 4 ∧ v = nI v' ∧ w = nI w' ∧ S' = mu (mu S 0 0 0) 8 (plS S p a v' w') (farS c)))) := by
  intro h hm
  have hf : mo_fr m ar h h := mo_fr.rf
  have J : ∀ t, t = thCost S np a b v w c → ∀ h1, mo h1 m ar S → mo_fr m ar h h1 → jm_W Γ m_M_cost d 0 0 (fun oc h' => ∃ v9 S', oc = .inl v9 ∧ (v9 = none ∧ ((thCost S np a b v w c ≠ 0 ∧ S' = mu S 0 0 (thCost S np a b v w c)) ∨ (thCost S np a b v w c = 0 ∧ ∃ p v' w', pairF S a b np 0 = nI p ∧ p < np ∧ v' < 4 ∧ w' < 4 ∧ v = nI v' ∧ w = nI w' ∧ S' = mu (mu S 0 0 0) 8 (plS S p a v' w') (farS c)))) ∧ mo h' m ar S' ∧ mo_fr m ar h h') 31 [some (.ref m), some (.int a), some (.int b), some (.int v), some (.int w), some (.int c)] [.int t, .ref m] h1 := by
    intro t ht h1 hm1 hf1
    have hm := hm1
    have hf := hf1
    clear hm1 hf1
    refine mr_puti d_M_cost_31 f_M_116 hm hf (by decide) rfl (fun h hm hf => ?_)
    first | refine jm_aload_n d_M_cost_34 rfl ?_ | refine jm_aload_nN d_M_cost_34 rfl ?_
    refine mr_geti d_M_cost_35 f_M_116 hm (by decide) rfl ?_
    first | refine jm_bz_ne 52 d_M_cost_38 (by decide) (fun hb38 => ?_) (fun hb38 => ?_) | refine jm_if_ne 52 d_M_cost_38 (by decide) (fun hb38 => ?_) (fun hb38 => ?_)
    · exact jm_vret d_M_cost_52 rfl ⟨_, _, rfl, ⟨rfl, Or.inl ⟨fun q => hb38 (by show t = 0; rw [ht, q]), by rw [← ht]⟩⟩, hm, hf⟩
    · have hz0 : t = 0 := Decidable.not_not.mp hb38
      subst hz0
      have q0 := thF_0.mp ht.symm
      obtain ⟨p, v', w', q3, q4, q5, q6, rfl, rfl⟩ := isPC_ix hn h8 h12 hz (Decidable.not_not.mp q0.1)
      first | refine jm_aload_n d_M_cost_41 rfl ?_ | refine jm_aload_nN d_M_cost_41 rfl ?_
      refine jm_iload_n d_M_cost_42 rfl ?_
      refine jm_iload_n d_M_cost_43 rfl ?_
      refine jm_iload_n d_M_cost_44 rfl ?_
      refine jm_iload d_M_cost_45 rfl ?_
      refine jm_iload d_M_cost_47 rfl ?_
      refine mr_call (As := [_, _, _, _, _]) d_M_cost_49 l_M_157 iw_M_setCost ew_M_setCost nv_M_setCost rfl (Nat.le_of_ble_eq_true rfl) (by omega : 1 + 1 ≤ _) (k_M_setCost (S := mu S 0 0 0) (np := np) (p := p) (v := v') (w := w') hp h12 a b c (by omega) (by rw [pairF_mu]; exact q3) q4 q5 q6) hm hf (fun v9 S9 h hq hm hf => ?_)
      obtain ⟨rfl, rfl⟩ := hq
      exact jm_vret d_M_cost_52 rfl ⟨_, _, rfl, ⟨rfl, Or.inr ⟨ht.symm, p, v', w', q3, q4, q5, q6, rfl, rfl, rfl⟩⟩, hm, hf⟩
  refine jm_entry (by decide +kernel) (List.forall_mem_cons.mpr ⟨rfl, List.forall_mem_cons.mpr ⟨rfl, List.forall_mem_cons.mpr ⟨rfl, List.forall_mem_cons.mpr ⟨rfl, List.forall_mem_cons.mpr ⟨rfl, List.forall_mem_cons.mpr ⟨rfl, fun _ h => nomatch h⟩⟩⟩⟩⟩⟩) (Nat.le_of_ble_eq_true rfl) ?_
  show jm_W _ _ _ _ _ _ 0 [some (.ref m), some (.int a), some (.int b), some (.int v), some (.int w), some (.int c)] [] _
  first | refine jm_aload_n d_M_cost_0 rfl ?_ | refine jm_aload_nN d_M_cost_0 rfl ?_
  first | refine jm_aload_n d_M_cost_1 rfl ?_ | refine jm_aload_nN d_M_cost_1 rfl ?_
  refine jm_iload_n d_M_cost_2 rfl ?_
  refine jm_iload_n d_M_cost_3 rfl ?_
  refine jm_iload_n d_M_cost_4 rfl ?_
  refine jm_iload d_M_cost_5 rfl ?_
  refine jm_iload d_M_cost_7 rfl ?_
  refine mr_callp (As := [_, _, _, _, _]) d_M_cost_9 l_M_153 iw_M_isPairCost ew_M_isPairCost nv_M_isPairCost rfl (Nat.le_of_ble_eq_true rfl) (by omega : 3 + 1 ≤ _) (k_M_isPairCost (by omega) hn h8 hp h12 _ _ _ _ _) hm ?_
  first | refine jm_bz_ne 19 d_M_cost_12 (by decide) (fun hb12 => ?_) (fun hb12 => ?_) | refine jm_if_ne 19 d_M_cost_12 (by decide) (fun hb12 => ?_) (fun hb12 => ?_)
  · first | refine jm_aload_n d_M_cost_19 rfl ?_ | refine jm_aload_nN d_M_cost_19 rfl ?_
    refine mr_geti d_M_cost_20 f_M_135 hm (by decide) rfl ?_
    first | refine jm_bz_eq 30 d_M_cost_23 (by decide) (fun hb23 => ?_) (fun hb23 => ?_) | refine jm_if_eq 30 d_M_cost_23 (by decide) (fun hb23 => ?_) (fun hb23 => ?_)
    · refine jm_iconstL (v := 0) d_M_cost_30 (by decide) ?_
      exact J _ (thF_3 (fun q => q hb12) (fun q => q hb23)) h hm hf
    · refine jm_iconstL (v := 2) d_M_cost_26 (by decide) ?_
      refine jm_goto 31 d_M_cost_27 (by decide) ?_
      exact J _ (thF_2 (fun q => q hb12) hb23) h hm hf
  · refine jm_iconstL (v := 1) d_M_cost_15 (by decide) ?_
    refine jm_goto 31 d_M_cost_16 (by decide) ?_
    exact J _ (thF_1 hb12) h hm hf
abbrev thPair (S : mS) (np : Nat) (a b : Int32) : Int32 := thF (¬ isAgentS S a ∨ ¬ isAgentS S b ∨ a = b) (S 2 0 ≠ 0 ∨ 0 ≤ pairF S a b np 0 ∨ S 5 0 = 12)
theorem k_M_pair {n np : Nat} (hd : 2 ≤ d) (hn : S 1 0 = nI n) (h8 : n ≤ 8) (hp : S 5 0 = nI np) (h12 : np ≤ 12) (a b : Int32) : mM Γ m_M_pair d m ar [.int a, .int b] S (fun v9 S' => (thPair S np a b ≠ 0 ∧ S' = mu S 0 0 (thPair S np a b) ∧ v9 = some (.int 0)) ∨ (thPair S np a b = 0 ∧ np < 12 ∧ ∃ k l, k < n ∧ l < n ∧ k ≠ l ∧ a = nI k ∧ b = nI l ∧ v9 = some (.int (nI (np + 1))) ∧ S' = mu (mu (mu (mu (mu (mu S 0 0 0) 6 np a) 7 np b) 5 0 (nI (np + 1))) 9 k (S 9 k ||| 1 <<< (b &&& 31))) 9 l (S 9 l ||| 1 <<< (a &&& 31)))) := by
  intro h hm
  have hf : mo_fr m ar h h := mo_fr.rf
  have J : ∀ t, t = thPair S np a b → ∀ h1, mo h1 m ar S → mo_fr m ar h h1 → jm_W Γ m_M_pair d 0 0 (fun oc h' => ∃ v9 S', oc = .inl v9 ∧ ((thPair S np a b ≠ 0 ∧ S' = mu S 0 0 (thPair S np a b) ∧ v9 = some (.int 0)) ∨ (thPair S np a b = 0 ∧ np < 12 ∧ ∃ k l, k < n ∧ l < n ∧ k ≠ l ∧ a = nI k ∧ b = nI l ∧ v9 = some (.int (nI (np + 1))) ∧ S' = mu (mu (mu (mu (mu (mu S 0 0 0) 6 np a) 7 np b) 5 0 (nI (np + 1))) 9 k (S 9 k ||| 1 <<< (b &&& 31))) 9 l (S 9 l ||| 1 <<< (a &&& 31)))) ∧ mo h' m ar S' ∧ mo_fr m ar h h') 56 [some (.ref m), some (.int a), some (.int b)] [.int t, .ref m] h1 := by
    intro t ht h1 hm1 hf1
    have hm := hm1
    have hf := hf1
    clear hm1 hf1
    refine mr_puti d_M_pair_56 f_M_116 hm hf (by decide) rfl (fun h hm hf => ?_)
    first | refine jm_aload_n d_M_pair_59 rfl ?_ | refine jm_aload_nN d_M_pair_59 rfl ?_
    refine mr_geti d_M_pair_60 f_M_116 hm (by decide) rfl ?_
    refine jm_if_le 68 d_M_pair_63 (by decide) (fun hb63 => ?_) (fun hb63 => ?_)
    · have hz0 : t = 0 := (by have q : t ≤ 0 := hb63; rw [ht] at q ⊢; exact thF_le.mp q)
      subst hz0
      have q0 := thF_0.mp ht.symm
      obtain ⟨k, hk, rfl⟩ := ag_ix hn h8 (Decidable.not_not.mp (fun q => q0.1 (Or.inl q)))
      obtain ⟨l, hl, rfl⟩ := ag_ix hn h8 (Decidable.not_not.mp (fun q => q0.1 (Or.inr (Or.inl q))))
      have hkl : k ≠ l := fun q => q0.1 (Or.inr (Or.inr (by rw [q])))
      have hnp : np < 12 := by
        rcases Nat.lt_or_ge np 12 with z | z
        · exact z
        · exact absurd (Or.inr (Or.inr (by rw [hp, show np = 12 by omega]; rfl))) q0.2
      first | refine jm_aload_n d_M_pair_68 rfl ?_ | refine jm_aload_nN d_M_pair_68 rfl ?_
      refine mr_geta d_M_pair_69 f_M_16 hm (by decide) (by decide) ?_
      first | refine jm_aload_n d_M_pair_72 rfl ?_ | refine jm_aload_nN d_M_pair_72 rfl ?_
      refine mr_geti d_M_pair_73 f_M_146 hm (by decide) rfl ?_
      refine jm_iload_n d_M_pair_76 rfl ?_
      refine mr_st _ d_M_pair_77 hm hf (by decide) (by decide) rfl (by show vp_in (mu S 0 0 0 5 0) 12; rw [show mu S 0 0 0 5 0 = nI np from hp]; exact vp_in_nI hnp (by decide)) (fun h hm hf => ?_)
      first | refine jm_aload_n d_M_pair_78 rfl ?_ | refine jm_aload_nN d_M_pair_78 rfl ?_
      refine mr_geta d_M_pair_79 f_M_19 hm (by decide) (by decide) ?_
      first | refine jm_aload_n d_M_pair_82 rfl ?_ | refine jm_aload_nN d_M_pair_82 rfl ?_
      refine mr_geti d_M_pair_83 f_M_146 hm (by decide) rfl ?_
      refine jm_iload_n d_M_pair_86 rfl ?_
      refine mr_st _ d_M_pair_87 hm hf (by decide) (by decide) rfl (by show vp_in (mu (mu S 0 0 0) 6 _ _ 5 0) 12; rw [show ∀ i x, mu (mu S 0 0 0) 6 i x 5 0 = nI np from fun _ _ => hp]; exact vp_in_nI hnp (by decide)) (fun h hm hf => ?_)
      first | refine jm_aload_n d_M_pair_88 rfl ?_ | refine jm_aload_nN d_M_pair_88 rfl ?_
      refine jm_dup d_M_pair_89 rfl ?_
      refine mr_geti d_M_pair_90 f_M_146 hm (by decide) rfl ?_
      refine jm_iconstL (v := 1) d_M_pair_93 (by decide) ?_
      refine jm_iadd d_M_pair_94 ?_
      refine mr_puti d_M_pair_95 f_M_146 hm hf (by decide) rfl (fun h hm hf => ?_)
      first | refine jm_aload_n d_M_pair_98 rfl ?_ | refine jm_aload_nN d_M_pair_98 rfl ?_
      refine mr_geta d_M_pair_99 f_M_25 hm (by decide) (by decide) ?_
      refine jm_iload_n d_M_pair_102 rfl ?_
      first | refine jm_aload_n d_M_pair_103 rfl ?_ | refine jm_aload_nN d_M_pair_103 rfl ?_
      refine mr_geta d_M_pair_104 f_M_25 hm (by decide) (by decide) ?_
      refine jm_iload_n d_M_pair_107 rfl ?_
      refine mr_ld _ d_M_pair_108 hm (by decide) (by decide) rfl (vp_in_nI (by show k < 8; omega) (by decide)) ?_
      refine jm_iconstL (v := 1) d_M_pair_109 (by decide) ?_
      refine jm_iload_n d_M_pair_110 rfl ?_
      refine jm_ishl d_M_pair_111 ?_
      refine jm_ior d_M_pair_112 ?_
      refine mr_st _ d_M_pair_113 hm hf (by decide) (by decide) rfl (vp_in_nI (by show k < 8; omega) (by decide)) (fun h hm hf => ?_)
      first | refine jm_aload_n d_M_pair_114 rfl ?_ | refine jm_aload_nN d_M_pair_114 rfl ?_
      refine mr_geta d_M_pair_115 f_M_25 hm (by decide) (by decide) ?_
      refine jm_iload_n d_M_pair_118 rfl ?_
      first | refine jm_aload_n d_M_pair_119 rfl ?_ | refine jm_aload_nN d_M_pair_119 rfl ?_
      refine mr_geta d_M_pair_120 f_M_25 hm (by decide) (by decide) ?_
      refine jm_iload_n d_M_pair_123 rfl ?_
      refine mr_ld _ d_M_pair_124 hm (by decide) (by decide) rfl (vp_in_nI (by show l < 8; omega) (by decide)) ?_
      refine jm_iconstL (v := 1) d_M_pair_125 (by decide) ?_
      refine jm_iload_n d_M_pair_126 rfl ?_
      refine jm_ishl d_M_pair_127 ?_
      refine jm_ior d_M_pair_128 ?_
      refine mr_st _ d_M_pair_129 hm hf (by decide) (by decide) rfl (vp_in_nI (by show l < 8; omega) (by decide)) (fun h hm hf => ?_)
      first | refine jm_aload_n d_M_pair_130 rfl ?_ | refine jm_aload_nN d_M_pair_130 rfl ?_
      refine mr_geti d_M_pair_131 f_M_146 hm (by decide) rfl ?_
      exact jm_iret d_M_pair_134 rfl ⟨_, _, rfl, Or.inr ⟨ht.symm, hnp, k, l, hk, hl, hkl, rfl, rfl, by simp [mu, hp, nI_1], by simp only [nI_clamp (show np < 2 ^ 31 by omega), nI_clamp (show k < 2 ^ 31 by omega), nI_clamp (show l < 2 ^ 31 by omega), show mu S 0 0 0 5 0 = nI np from hp, show ∀ x, mu (mu S 0 0 0) 6 np x 5 0 = nI np from fun _ => hp, show ∀ x y, mu (mu (mu S 0 0 0) 6 np x) 7 np y 5 0 = nI np from fun _ _ => hp, nI_1]; simp only [mu]; funext j i; simp; grind⟩, hm, hf⟩
    · refine jm_iconstL (v := 0) d_M_pair_66 (by decide) ?_
      exact jm_iret d_M_pair_67 rfl ⟨_, _, rfl, Or.inl ⟨fun q => hb63 (by show t ≤ 0; rw [ht, q]; decide), by rw [← ht], rfl⟩, hm, hf⟩
  refine jm_entry (by decide +kernel) (List.forall_mem_cons.mpr ⟨rfl, List.forall_mem_cons.mpr ⟨rfl, List.forall_mem_cons.mpr ⟨rfl, fun _ h => nomatch h⟩⟩⟩) (Nat.le_of_ble_eq_true rfl) ?_
  show jm_W _ _ _ _ _ _ 0 [some (.ref m), some (.int a), some (.int b)] [] _
  first | refine jm_aload_n d_M_pair_0 rfl ?_ | refine jm_aload_nN d_M_pair_0 rfl ?_
  first | refine jm_aload_n d_M_pair_1 rfl ?_ | refine jm_aload_nN d_M_pair_1 rfl ?_
  refine jm_iload_n d_M_pair_2 rfl ?_
  refine mr_callp (As := [_]) d_M_pair_3 l_M_131 iw_M_isAgent ew_M_isAgent nv_M_isAgent rfl (Nat.le_of_ble_eq_true rfl) (by omega : 1 + 1 ≤ _) (k_M_isAgent (by omega) _) hm ?_
  first | refine jm_bz_eq 22 d_M_pair_6 (by decide) (fun hb6 => ?_) (fun hb6 => ?_) | refine jm_if_eq 22 d_M_pair_6 (by decide) (fun hb6 => ?_) (fun hb6 => ?_)
  · refine jm_iconstL (v := 1) d_M_pair_22 (by decide) ?_
    refine jm_goto 56 d_M_pair_23 (by decide) ?_
    exact J _ (thF_1 (by first | exact Or.inl hb6 | exact Or.inr (Or.inl hb14) | exact Or.inr (Or.inr (Decidable.not_not.mp hb19)))) h hm hf
  · first | refine jm_aload_n d_M_pair_9 rfl ?_ | refine jm_aload_nN d_M_pair_9 rfl ?_
    refine jm_iload_n d_M_pair_10 rfl ?_
    refine mr_callp (As := [_]) d_M_pair_11 l_M_131 iw_M_isAgent ew_M_isAgent nv_M_isAgent rfl (Nat.le_of_ble_eq_true rfl) (by omega : 1 + 1 ≤ _) (k_M_isAgent (by omega) _) hm ?_
    first | refine jm_bz_eq 22 d_M_pair_14 (by decide) (fun hb14 => ?_) (fun hb14 => ?_) | refine jm_if_eq 22 d_M_pair_14 (by decide) (fun hb14 => ?_) (fun hb14 => ?_)
    · refine jm_iconstL (v := 1) d_M_pair_22 (by decide) ?_
      refine jm_goto 56 d_M_pair_23 (by decide) ?_
      exact J _ (thF_1 (by first | exact Or.inl hb6 | exact Or.inr (Or.inl hb14) | exact Or.inr (Or.inr (Decidable.not_not.mp hb19)))) h hm hf
    · refine jm_iload_n d_M_pair_17 rfl ?_
      refine jm_iload_n d_M_pair_18 rfl ?_
      refine jm_icmp_ne 26 d_M_pair_19 (by decide) (fun hb19 => ?_) (fun hb19 => ?_)
      · first | refine jm_aload_n d_M_pair_26 rfl ?_ | refine jm_aload_nN d_M_pair_26 rfl ?_
        refine mr_geti d_M_pair_27 f_M_135 hm (by decide) rfl ?_
        first | refine jm_bz_ne 51 d_M_pair_30 (by decide) (fun hb30 => ?_) (fun hb30 => ?_) | refine jm_if_ne 51 d_M_pair_30 (by decide) (fun hb30 => ?_) (fun hb30 => ?_)
        · refine jm_iconstL (v := 2) d_M_pair_51 (by decide) ?_
          refine jm_goto 56 d_M_pair_52 (by decide) ?_
          exact J _ (thF_2 (fun q => by rcases q with q | q | q; exact q hb6; exact q hb14; exact hb19 q) (by first | exact Or.inl hb30 | exact Or.inr (Or.inl hb39) | exact Or.inr (Or.inr (Decidable.not_not.mp hb48)))) h hm hf
        · first | refine jm_aload_n d_M_pair_33 rfl ?_ | refine jm_aload_nN d_M_pair_33 rfl ?_
          refine jm_iload_n d_M_pair_34 rfl ?_
          refine jm_iload_n d_M_pair_35 rfl ?_
          refine mr_callp (As := [_, _]) d_M_pair_36 l_M_149 iw_M_pairOf ew_M_pairOf nv_M_pairOf rfl (Nat.le_of_ble_eq_true rfl) (by omega : 0 + 1 ≤ _) (k_M_pairOf hp h12 _ _) hm ?_
          refine jm_if_ge 51 d_M_pair_39 (by decide) (fun hb39 => ?_) (fun hb39 => ?_)
          · refine jm_iconstL (v := 2) d_M_pair_51 (by decide) ?_
            refine jm_goto 56 d_M_pair_52 (by decide) ?_
            exact J _ (thF_2 (fun q => by rcases q with q | q | q; exact q hb6; exact q hb14; exact hb19 q) (by first | exact Or.inl hb30 | exact Or.inr (Or.inl hb39) | exact Or.inr (Or.inr (Decidable.not_not.mp hb48)))) h hm hf
          · first | refine jm_aload_n d_M_pair_42 rfl ?_ | refine jm_aload_nN d_M_pair_42 rfl ?_
            refine mr_geti d_M_pair_43 f_M_146 hm (by decide) rfl ?_
            refine jm_bipushL (v := 12) d_M_pair_46 (by decide) ?_
            refine jm_icmp_ne 55 d_M_pair_48 (by decide) (fun hb48 => ?_) (fun hb48 => ?_)
            · refine jm_iconstL (v := 0) d_M_pair_55 (by decide) ?_
              exact J _ (thF_3 (fun q => by rcases q with q | q | q; exact q hb6; exact q hb14; exact hb19 q) (fun q => by rcases q with q | q | q; exact hb30 q; exact hb39 q; exact hb48 q)) h hm hf
            · refine jm_iconstL (v := 2) d_M_pair_51 (by decide) ?_
              refine jm_goto 56 d_M_pair_52 (by decide) ?_
              exact J _ (thF_2 (fun q => by rcases q with q | q | q; exact q hb6; exact q hb14; exact hb19 q) (by first | exact Or.inl hb30 | exact Or.inr (Or.inl hb39) | exact Or.inr (Or.inr (Decidable.not_not.mp hb48)))) h hm hf
      · refine jm_iconstL (v := 1) d_M_pair_22 (by decide) ?_
        refine jm_goto 56 d_M_pair_23 (by decide) ?_
        exact J _ (thF_1 (by first | exact Or.inl hb6 | exact Or.inr (Or.inl hb14) | exact Or.inr (Or.inr (Decidable.not_not.mp hb19)))) h hm hf
end
end
section
/-! THE REFERENCE: what is asked of it. Written by wip/whole/gen/p25.py -/
section
variable {Γ : jm_G} {d m : Nat} {ar : Nat → Nat} {S : mS} {h : jm_H}
theorem k_M_tables  : mM Γ m_M_tables d m ar [] S (fun v9 S' => S' = mu S 0 0 0 ∧ v9 = some (.int (S 27 0))) := by
  intro h hm
  have hf : mo_fr m ar h h := mo_fr.rf
  refine jm_entry (by decide +kernel) (List.forall_mem_cons.mpr ⟨rfl, fun _ h => nomatch h⟩) (Nat.le_of_ble_eq_true rfl) ?_
  show jm_W _ _ _ _ _ _ 0 [some (.ref m)] [] _
  first | refine jm_aload_n d_M_tables_0 rfl ?_ | refine jm_aload_nN d_M_tables_0 rfl ?_
  refine jm_iconstL (v := 0) d_M_tables_1 (by decide) ?_
  refine mr_puti d_M_tables_2 f_M_116 hm hf (by decide) rfl (fun h hm hf => ?_)
  first | refine jm_aload_n d_M_tables_5 rfl ?_ | refine jm_aload_nN d_M_tables_5 rfl ?_
  refine mr_geti d_M_tables_6 f_M_205 hm (by decide) rfl ?_
  exact jm_iret d_M_tables_9 rfl ⟨_, _, rfl, ⟨rfl, rfl⟩, hm, hf⟩
theorem k_M_parent {n : Nat} (hd : 2 ≤ d) (hn : S 1 0 = nI n) (h8 : n ≤ 8) (a : Int32) : mM Γ m_M_parent d m ar [.int a] S (fun v9 S' => S' = mu S 0 0 0 ∧ v9 = some (.int (if isAgentS S a then S 16 a.toNatClampNeg else -1))) := by
  intro h hm
  have hf : mo_fr m ar h h := mo_fr.rf
  refine jm_entry (by decide +kernel) (List.forall_mem_cons.mpr ⟨rfl, List.forall_mem_cons.mpr ⟨rfl, fun _ h => nomatch h⟩⟩) (Nat.le_of_ble_eq_true rfl) ?_
  show jm_W _ _ _ _ _ _ 0 [some (.ref m), some (.int a)] [] _
  first | refine jm_aload_n d_M_parent_0 rfl ?_ | refine jm_aload_nN d_M_parent_0 rfl ?_
  refine jm_iconstL (v := 0) d_M_parent_1 (by decide) ?_
  refine mr_puti d_M_parent_2 f_M_116 hm hf (by decide) rfl (fun h hm hf => ?_)
  first | refine jm_aload_n d_M_parent_5 rfl ?_ | refine jm_aload_nN d_M_parent_5 rfl ?_
  refine jm_iload_n d_M_parent_6 rfl ?_
  refine mr_callp (As := [_]) d_M_parent_7 l_M_131 iw_M_isAgent ew_M_isAgent nv_M_isAgent rfl (Nat.le_of_ble_eq_true rfl) (by omega : 1 + 1 ≤ _) (k_M_isAgent (by omega) _) hm ?_
  first | refine jm_bz_eq 22 d_M_parent_10 (by decide) (fun hb10 => ?_) (fun hb10 => ?_) | refine jm_if_eq 22 d_M_parent_10 (by decide) (fun hb10 => ?_) (fun hb10 => ?_)
  · refine jm_iconstL (v := (-1)) d_M_parent_22 (by decide) ?_
    exact jm_iret d_M_parent_23 rfl ⟨_, _, rfl, ⟨rfl, by first | rw [if_pos (show isAgentS S a from hb10)]; rfl | rw [if_neg (show ¬ isAgentS S a from hb10)]⟩, hm, hf⟩
  · first | refine jm_aload_n d_M_parent_13 rfl ?_ | refine jm_aload_nN d_M_parent_13 rfl ?_
    refine mr_geta d_M_parent_14 f_M_47 hm (by decide) (by decide) ?_
    refine jm_iload_n d_M_parent_17 rfl ?_
    refine mr_ld _ d_M_parent_18 hm (by decide) (by decide) rfl (ag_vp (S := mu S 0 0 0) hn h8 hb10) ?_
    refine jm_goto 23 d_M_parent_19 (by decide) ?_
    exact jm_iret d_M_parent_23 rfl ⟨_, _, rfl, ⟨rfl, by first | rw [if_pos (show isAgentS S a from hb10)]; rfl | rw [if_neg (show ¬ isAgentS S a from hb10)]⟩, hm, hf⟩
theorem k_M_separator {n : Nat} (hd : 2 ≤ d) (hn : S 1 0 = nI n) (h8 : n ≤ 8) (a : Int32) : mM Γ m_M_separator d m ar [.int a] S (fun v9 S' => S' = mu S 0 0 0 ∧ v9 = some (.int (if isAgentS S a ∧ S 14 a.toNatClampNeg ≠ 0 then S 22 a.toNatClampNeg else -1))) := by
  intro h hm
  have hf : mo_fr m ar h h := mo_fr.rf
  refine jm_entry (by decide +kernel) (List.forall_mem_cons.mpr ⟨rfl, List.forall_mem_cons.mpr ⟨rfl, fun _ h => nomatch h⟩⟩) (Nat.le_of_ble_eq_true rfl) ?_
  show jm_W _ _ _ _ _ _ 0 [some (.ref m), some (.int a)] [] _
  first | refine jm_aload_n d_M_separator_0 rfl ?_ | refine jm_aload_nN d_M_separator_0 rfl ?_
  refine jm_iconstL (v := 0) d_M_separator_1 (by decide) ?_
  refine mr_puti d_M_separator_2 f_M_116 hm hf (by decide) rfl (fun h hm hf => ?_)
  first | refine jm_aload_n d_M_separator_5 rfl ?_ | refine jm_aload_nN d_M_separator_5 rfl ?_
  refine jm_iload_n d_M_separator_6 rfl ?_
  refine mr_callp (As := [_]) d_M_separator_7 l_M_131 iw_M_isAgent ew_M_isAgent nv_M_isAgent rfl (Nat.le_of_ble_eq_true rfl) (by omega : 1 + 1 ≤ _) (k_M_isAgent (by omega) _) hm ?_
  first | refine jm_bz_eq 31 d_M_separator_10 (by decide) (fun hb10 => ?_) (fun hb10 => ?_) | refine jm_if_eq 31 d_M_separator_10 (by decide) (fun hb10 => ?_) (fun hb10 => ?_)
  · refine jm_iconstL (v := (-1)) d_M_separator_31 (by decide) ?_
    exact jm_iret d_M_separator_32 rfl ⟨_, _, rfl, ⟨rfl, by first | rw [if_neg (fun q : isAgentS S a ∧ _ => hb10 q.1)] | rw [if_neg (fun q : isAgentS S a ∧ S 14 a.toNatClampNeg ≠ 0 => q.2 hb19)] | rw [if_pos (⟨hb10, hb19⟩ : isAgentS S a ∧ S 14 a.toNatClampNeg ≠ 0)]; rfl⟩, hm, hf⟩
  · first | refine jm_aload_n d_M_separator_13 rfl ?_ | refine jm_aload_nN d_M_separator_13 rfl ?_
    refine mr_geta d_M_separator_14 f_M_41 hm (by decide) (by decide) ?_
    refine jm_iload_n d_M_separator_17 rfl ?_
    refine mr_ldz _ d_M_separator_18 hm (by decide) (by decide) rfl (ag_vp (S := mu S 0 0 0) hn h8 hb10) ?_
    first | refine jm_bz_eq 31 d_M_separator_19 (by decide) (fun hb19 => ?_) (fun hb19 => ?_) | refine jm_if_eq 31 d_M_separator_19 (by decide) (fun hb19 => ?_) (fun hb19 => ?_)
    · refine jm_iconstL (v := (-1)) d_M_separator_31 (by decide) ?_
      exact jm_iret d_M_separator_32 rfl ⟨_, _, rfl, ⟨rfl, by first | rw [if_neg (fun q : isAgentS S a ∧ _ => hb10 q.1)] | rw [if_neg (fun q : isAgentS S a ∧ S 14 a.toNatClampNeg ≠ 0 => q.2 hb19)] | rw [if_pos (⟨hb10, hb19⟩ : isAgentS S a ∧ S 14 a.toNatClampNeg ≠ 0)]; rfl⟩, hm, hf⟩
    · first | refine jm_aload_n d_M_separator_22 rfl ?_ | refine jm_aload_nN d_M_separator_22 rfl ?_
      refine mr_geta d_M_separator_23 f_M_65 hm (by decide) (by decide) ?_
      refine jm_iload_n d_M_separator_26 rfl ?_
      refine mr_ld _ d_M_separator_27 hm (by decide) (by decide) rfl (ag_vp (S := mu S 0 0 0) hn h8 hb10) ?_
      refine jm_goto 32 d_M_separator_28 (by decide) ?_
      exact jm_iret d_M_separator_32 rfl ⟨_, _, rfl, ⟨rfl, by first | rw [if_neg (fun q : isAgentS S a ∧ _ => hb10 q.1)] | rw [if_neg (fun q : isAgentS S a ∧ S 14 a.toNatClampNeg ≠ 0 => q.2 hb19)] | rw [if_pos (⟨hb10, hb19⟩ : isAgentS S a ∧ S 14 a.toNatClampNeg ≠ 0)]; rfl⟩, hm, hf⟩
theorem k_M_entries {n : Nat} (hd : 2 ≤ d) (hn : S 1 0 = nI n) (h8 : n ≤ 8) (a : Int32) : mM Γ m_M_entries d m ar [.int a] S (fun v9 S' => S' = mu S 0 0 0 ∧ v9 = some (.int (if isAgentS S a ∧ ¬ S 23 a.toNatClampNeg ≤ 0 then S 25 a.toNatClampNeg else -1))) := by
  intro h hm
  have hf : mo_fr m ar h h := mo_fr.rf
  refine jm_entry (by decide +kernel) (List.forall_mem_cons.mpr ⟨rfl, List.forall_mem_cons.mpr ⟨rfl, fun _ h => nomatch h⟩⟩) (Nat.le_of_ble_eq_true rfl) ?_
  show jm_W _ _ _ _ _ _ 0 [some (.ref m), some (.int a)] [] _
  first | refine jm_aload_n d_M_entries_0 rfl ?_ | refine jm_aload_nN d_M_entries_0 rfl ?_
  refine jm_iconstL (v := 0) d_M_entries_1 (by decide) ?_
  refine mr_puti d_M_entries_2 f_M_116 hm hf (by decide) rfl (fun h hm hf => ?_)
  first | refine jm_aload_n d_M_entries_5 rfl ?_ | refine jm_aload_nN d_M_entries_5 rfl ?_
  refine jm_iload_n d_M_entries_6 rfl ?_
  refine mr_callp (As := [_]) d_M_entries_7 l_M_131 iw_M_isAgent ew_M_isAgent nv_M_isAgent rfl (Nat.le_of_ble_eq_true rfl) (by omega : 1 + 1 ≤ _) (k_M_isAgent (by omega) _) hm ?_
  first | refine jm_bz_eq 31 d_M_entries_10 (by decide) (fun hb10 => ?_) (fun hb10 => ?_) | refine jm_if_eq 31 d_M_entries_10 (by decide) (fun hb10 => ?_) (fun hb10 => ?_)
  · refine jm_iconstL (v := (-1)) d_M_entries_31 (by decide) ?_
    exact jm_iret d_M_entries_32 rfl ⟨_, _, rfl, ⟨rfl, by first | rw [if_neg (fun q : isAgentS S a ∧ _ => hb10 q.1)] | rw [if_neg (fun q : isAgentS S a ∧ ¬ S 23 a.toNatClampNeg ≤ 0 => q.2 hb19)] | rw [if_pos (⟨hb10, hb19⟩ : isAgentS S a ∧ ¬ S 23 a.toNatClampNeg ≤ 0)]; rfl⟩, hm, hf⟩
  · first | refine jm_aload_n d_M_entries_13 rfl ?_ | refine jm_aload_nN d_M_entries_13 rfl ?_
    refine mr_geta d_M_entries_14 f_M_68 hm (by decide) (by decide) ?_
    refine jm_iload_n d_M_entries_17 rfl ?_
    refine mr_ld _ d_M_entries_18 hm (by decide) (by decide) rfl (by have q := ag_vp (S := mu S 0 0 0) hn h8 hb10; exact fun z => q (z.imp_right (fun w => by have : (16 : Nat) ≤ _ := w; omega))) ?_
    refine jm_if_le 31 d_M_entries_19 (by decide) (fun hb19 => ?_) (fun hb19 => ?_)
    · refine jm_iconstL (v := (-1)) d_M_entries_31 (by decide) ?_
      exact jm_iret d_M_entries_32 rfl ⟨_, _, rfl, ⟨rfl, by first | rw [if_neg (fun q : isAgentS S a ∧ _ => hb10 q.1)] | rw [if_neg (fun q : isAgentS S a ∧ ¬ S 23 a.toNatClampNeg ≤ 0 => q.2 hb19)] | rw [if_pos (⟨hb10, hb19⟩ : isAgentS S a ∧ ¬ S 23 a.toNatClampNeg ≤ 0)]; rfl⟩, hm, hf⟩
    · first | refine jm_aload_n d_M_entries_22 rfl ?_ | refine jm_aload_nN d_M_entries_22 rfl ?_
      refine mr_geta d_M_entries_23 f_M_74 hm (by decide) (by decide) ?_
      refine jm_iload_n d_M_entries_26 rfl ?_
      refine mr_ld _ d_M_entries_27 hm (by decide) (by decide) rfl (by have q := ag_vp (S := mu S 0 0 0) hn h8 hb10; exact fun z => q (z.imp_right (fun w => by have : (16 : Nat) ≤ _ := w; omega))) ?_
      refine jm_goto 32 d_M_entries_28 (by decide) ?_
      exact jm_iret d_M_entries_32 rfl ⟨_, _, rfl, ⟨rfl, by first | rw [if_neg (fun q : isAgentS S a ∧ _ => hb10 q.1)] | rw [if_neg (fun q : isAgentS S a ∧ ¬ S 23 a.toNatClampNeg ≤ 0 => q.2 hb19)] | rw [if_pos (⟨hb10, hb19⟩ : isAgentS S a ∧ ¬ S 23 a.toNatClampNeg ≤ 0)]; rfl⟩, hm, hf⟩
/-- the part's run is its own: settled; and lost -/
abbrev setS (S : mS) (k : Nat) : Prop := S 2 0 ≠ 0 ∧ S 28 k = S 12 (S 10 k).toNatClampNeg
abbrev lostS (S : mS) (k : Nat) : Prop := S 29 (S 11 (S 10 k).toNatClampNeg).toNatClampNeg = S 12 (S 10 k).toNatClampNeg
/-- parts and their roots are told by numbers -/
abbrev ptOK (S : mS) (n : Nat) : Prop := S 2 0 ≠ 0 → ∀ k, k < n → ∃ q r, q < 8 ∧ r < 8 ∧ S 10 k = nI q ∧ S 11 q = nI r
theorem b8 {q : Nat} (h : q < 8) : vp_in (nI q) 8 := vp_in_nI h (by decide)
theorem k_M_isSettled {n k : Nat} (hk : k < n) (h8 : n ≤ 8) (hp : ptOK S n) : mA Γ m_M_isSettled d m ar [.int (nI k)] S (some (.int (if setS S k then 1 else 0))) := by
  intro h hm
  refine jm_entry (by decide +kernel) (List.forall_mem_cons.mpr ⟨rfl, List.forall_mem_cons.mpr ⟨rfl, fun _ h => nomatch h⟩⟩) (Nat.le_of_ble_eq_true rfl) ?_
  show jm_W _ _ _ _ _ _ 0 [some (.ref m), some (.int (nI k))] [] _
  first | refine jm_aload_n d_M_isSettled_0 rfl ?_ | refine jm_aload_nN d_M_isSettled_0 rfl ?_
  refine mr_geti d_M_isSettled_1 f_M_135 hm (by decide) rfl ?_
  first | refine jm_bz_eq 31 d_M_isSettled_4 (by decide) (fun hb4 => ?_) (fun hb4 => ?_) | refine jm_if_eq 31 d_M_isSettled_4 (by decide) (fun hb4 => ?_) (fun hb4 => ?_)
  · refine jm_iconstL (v := 0) d_M_isSettled_31 (by decide) ?_
    exact jm_zret d_M_isSettled_32 rfl (by first | rfl | (split <;> rfl)) ⟨rfl, by first | rw [if_neg (fun q : setS S k => q.1 hb4)] | (rw [nI_clamp (show k < 2 ^ 31 by omega)] at hb24; first | rw [if_neg (fun q : setS S k => hb24 q.2)] | rw [if_pos (⟨hb4, Decidable.not_not.mp hb24⟩ : setS S k)])⟩
  · first | refine jm_aload_n d_M_isSettled_7 rfl ?_ | refine jm_aload_nN d_M_isSettled_7 rfl ?_
    refine mr_geta d_M_isSettled_8 f_M_80 hm (by decide) (by decide) ?_
    refine jm_iload_n d_M_isSettled_11 rfl ?_
    refine mr_ld _ d_M_isSettled_12 hm (by decide) (by decide) rfl (b8 (by omega)) ?_
    first | refine jm_aload_n d_M_isSettled_13 rfl ?_ | refine jm_aload_nN d_M_isSettled_13 rfl ?_
    refine mr_geta d_M_isSettled_14 f_M_34 hm (by decide) (by decide) ?_
    first | refine jm_aload_n d_M_isSettled_17 rfl ?_ | refine jm_aload_nN d_M_isSettled_17 rfl ?_
    refine mr_geta d_M_isSettled_18 f_M_28 hm (by decide) (by decide) ?_
    refine jm_iload_n d_M_isSettled_21 rfl ?_
    refine mr_ld _ d_M_isSettled_22 hm (by decide) (by decide) rfl (b8 (by omega)) ?_
    refine mr_ld _ d_M_isSettled_23 hm (by decide) (by decide) rfl (by obtain ⟨q, r, q1, q2, q3, q4⟩ := hp hb4 k hk; rw [nI_clamp (show k < 2 ^ 31 by omega), q3]; exact b8 q1) ?_
    refine jm_icmp_ne 31 d_M_isSettled_24 (by decide) (fun hb24 => ?_) (fun hb24 => ?_)
    · refine jm_iconstL (v := 0) d_M_isSettled_31 (by decide) ?_
      exact jm_zret d_M_isSettled_32 rfl (by first | rfl | (split <;> rfl)) ⟨rfl, by first | rw [if_neg (fun q : setS S k => q.1 hb4)] | (rw [nI_clamp (show k < 2 ^ 31 by omega)] at hb24; first | rw [if_neg (fun q : setS S k => hb24 q.2)] | rw [if_pos (⟨hb4, Decidable.not_not.mp hb24⟩ : setS S k)])⟩
    · refine jm_iconstL (v := 1) d_M_isSettled_27 (by decide) ?_
      refine jm_goto 32 d_M_isSettled_28 (by decide) ?_
      exact jm_zret d_M_isSettled_32 rfl (by first | rfl | (split <;> rfl)) ⟨rfl, by first | rw [if_neg (fun q : setS S k => q.1 hb4)] | (rw [nI_clamp (show k < 2 ^ 31 by omega)] at hb24; first | rw [if_neg (fun q : setS S k => hb24 q.2)] | rw [if_pos (⟨hb4, Decidable.not_not.mp hb24⟩ : setS S k)])⟩
theorem k_M_isLost {n k : Nat} (hs : S 2 0 ≠ 0) (hk : k < n) (h8 : n ≤ 8) (hp : ptOK S n) : mA Γ m_M_isLost d m ar [.int (nI k)] S (some (.int (if lostS S k then 1 else 0))) := by
  intro h hm
  refine jm_entry (by decide +kernel) (List.forall_mem_cons.mpr ⟨rfl, List.forall_mem_cons.mpr ⟨rfl, fun _ h => nomatch h⟩⟩) (Nat.le_of_ble_eq_true rfl) ?_
  show jm_W _ _ _ _ _ _ 0 [some (.ref m), some (.int (nI k))] [] _
  first | refine jm_aload_n d_M_isLost_0 rfl ?_ | refine jm_aload_nN d_M_isLost_0 rfl ?_
  refine mr_geta d_M_isLost_1 f_M_83 hm (by decide) (by decide) ?_
  first | refine jm_aload_n d_M_isLost_4 rfl ?_ | refine jm_aload_nN d_M_isLost_4 rfl ?_
  refine mr_geta d_M_isLost_5 f_M_31 hm (by decide) (by decide) ?_
  first | refine jm_aload_n d_M_isLost_8 rfl ?_ | refine jm_aload_nN d_M_isLost_8 rfl ?_
  refine mr_geta d_M_isLost_9 f_M_28 hm (by decide) (by decide) ?_
  refine jm_iload_n d_M_isLost_12 rfl ?_
  refine mr_ld _ d_M_isLost_13 hm (by decide) (by decide) rfl (b8 (by omega)) ?_
  refine mr_ld _ d_M_isLost_14 hm (by decide) (by decide) rfl (by obtain ⟨q, r, q1, q2, q3, q4⟩ := hp hs k hk; rw [nI_clamp (show k < 2 ^ 31 by omega), q3]; exact b8 q1) ?_
  refine mr_ld _ d_M_isLost_15 hm (by decide) (by decide) rfl (by obtain ⟨q, r, q1, q2, q3, q4⟩ := hp hs k hk; rw [nI_clamp (show k < 2 ^ 31 by omega), q3, nI_clamp (show q < 2 ^ 31 by omega), q4]; exact b8 q2) ?_
  first | refine jm_aload_n d_M_isLost_16 rfl ?_ | refine jm_aload_nN d_M_isLost_16 rfl ?_
  refine mr_geta d_M_isLost_17 f_M_34 hm (by decide) (by decide) ?_
  first | refine jm_aload_n d_M_isLost_20 rfl ?_ | refine jm_aload_nN d_M_isLost_20 rfl ?_
  refine mr_geta d_M_isLost_21 f_M_28 hm (by decide) (by decide) ?_
  refine jm_iload_n d_M_isLost_24 rfl ?_
  refine mr_ld _ d_M_isLost_25 hm (by decide) (by decide) rfl (b8 (by omega)) ?_
  refine mr_ld _ d_M_isLost_26 hm (by decide) (by decide) rfl (by obtain ⟨q, r, q1, q2, q3, q4⟩ := hp hs k hk; rw [nI_clamp (show k < 2 ^ 31 by omega), q3]; exact b8 q1) ?_
  refine jm_icmp_ne 34 d_M_isLost_27 (by decide) (fun hb27 => ?_) (fun hb27 => ?_)
  · refine jm_iconstL (v := 0) d_M_isLost_34 (by decide) ?_
    exact jm_zret d_M_isLost_35 rfl (by first | rfl | (split <;> rfl)) ⟨rfl, by rw [nI_clamp (show k < 2 ^ 31 by omega)] at hb27; first | rw [if_neg hb27] | rw [if_pos (Decidable.not_not.mp hb27)]⟩
  · refine jm_iconstL (v := 1) d_M_isLost_30 (by decide) ?_
    refine jm_goto 35 d_M_isLost_31 (by decide) ?_
    exact jm_zret d_M_isLost_35 rfl (by first | rfl | (split <;> rfl)) ⟨rfl, by rw [nI_clamp (show k < 2 ^ 31 by omega)] at hb27; first | rw [if_neg hb27] | rw [if_pos (Decidable.not_not.mp hb27)]⟩
def anyB (f : Nat → Bool) : Nat → Bool
  | 0 => false
  | k + 1 => anyB f k || f k
abbrev wideB (S : mS) (k : Nat) : Bool := decide (S 15 k ≠ 0)
abbrev lostB (S : mS) (k : Nat) : Bool := decide (lostS S k)
abbrev openB (S : mS) (k : Nat) : Bool := decide (¬ setS S k ∧ ¬ lostS S k)
abbrev bz (b : Bool) : Int32 := if b = true then 1 else 0
theorem orA1 {f : Nat → Bool} {k : Nat} (h : anyB f k = true) : bz (anyB f (k + 1)) = 1 := by simp [anyB, h]
theorem orA2 {f : Nat → Bool} {k : Nat} (h : f k = true) : bz (anyB f (k + 1)) = 1 := by simp [anyB, h]
theorem orA0 {f : Nat → Bool} {k : Nat} (h : ¬ anyB f k = true) (h2 : ¬ f k = true) : bz (anyB f (k + 1)) = 0 := by simp [anyB, h, h2]
/-- what the state is -/
def stF (S : mS) (n : Nat) : Int32 := if S 2 0 = 0 then 0 else if anyB (wideB S) n = true then 3 else if anyB (openB S) n = true then 0 else if anyB (lostB S) n = true then 2 else 1
theorem lp_M_state {rc rs n : Nat} (hd : 1 ≤ d) (hn : S 1 0 = nI n) (h8 : n ≤ 8) (hs : S 2 0 ≠ 0) (hp : ptOK S n) (hm : mo h m ar S) : ∀ j k, k + j = n → jm_W Γ m_M_state d rc rs (fun oc h' => h' = h ∧ oc = .inl (some (.int (stF S n)))) 18 [some (.ref m), some (.int (bz (anyB (wideB S) k))), some (.int (bz (anyB (lostB S) k))), some (.int (bz (anyB (openB S) k))), some (.int (nI k))] [] h := by
  intro j
  induction j with
  | zero =>
    intro k hk
    have hk' : k = n := by omega
    subst hk'
    refine jm_iload d_M_state_18 rfl ?_
    first | refine jm_aload_n d_M_state_20 rfl ?_ | refine jm_aload_nN d_M_state_20 rfl ?_
    refine mr_geti d_M_state_21 f_M_124 hm (by decide) rfl ?_
    refine jm_icmp_ge 100 d_M_state_24 (by decide) (fun hb24 => ?_) (fun hb24 => ?_)
    · refine jm_iload_n d_M_state_100 rfl ?_
      first | refine jm_bz_eq 108 d_M_state_101 (by decide) (fun hb101 => ?_) (fun hb101 => ?_) | refine jm_if_eq 108 d_M_state_101 (by decide) (fun hb101 => ?_) (fun hb101 => ?_)
      · refine jm_iload_n d_M_state_108 rfl ?_
        first | refine jm_bz_eq 116 d_M_state_109 (by decide) (fun hb109 => ?_) (fun hb109 => ?_) | refine jm_if_eq 116 d_M_state_109 (by decide) (fun hb109 => ?_) (fun hb109 => ?_)
        · refine jm_iload_n d_M_state_116 rfl ?_
          first | refine jm_bz_eq 124 d_M_state_117 (by decide) (fun hb117 => ?_) (fun hb117 => ?_) | refine jm_if_eq 124 d_M_state_117 (by decide) (fun hb117 => ?_) (fun hb117 => ?_)
          · refine jm_iconstL (v := 1) d_M_state_124 (by decide) ?_
            exact jm_iret d_M_state_125 rfl ⟨rfl, by simp only [stF, if_neg hs]; simp_all⟩
          · refine jm_iconstL (v := 2) d_M_state_120 (by decide) ?_
            refine jm_goto 125 d_M_state_121 (by decide) ?_
            exact jm_iret d_M_state_125 rfl ⟨rfl, by simp only [stF, if_neg hs]; simp_all⟩
        · refine jm_iconstL (v := 0) d_M_state_112 (by decide) ?_
          refine jm_goto 125 d_M_state_113 (by decide) ?_
          exact jm_iret d_M_state_125 rfl ⟨rfl, by simp only [stF, if_neg hs]; simp_all⟩
      · refine jm_iconstL (v := 3) d_M_state_104 (by decide) ?_
        refine jm_goto 125 d_M_state_105 (by decide) ?_
        exact jm_iret d_M_state_125 rfl ⟨rfl, by simp only [stF, if_neg hs]; simp_all⟩
    · exact absurd (by rw [hn]; exact nI_le (by omega) (by omega)) hb24
  | succ j ih =>
    intro k hk
    have hkn : k < n := by omega
    have hc := nI_clamp (show k < 2 ^ 31 by omega)
    refine jm_iload d_M_state_18 rfl ?_
    first | refine jm_aload_n d_M_state_20 rfl ?_ | refine jm_aload_nN d_M_state_20 rfl ?_
    refine mr_geti d_M_state_21 f_M_124 hm (by decide) rfl ?_
    refine jm_icmp_ge 100 d_M_state_24 (by decide) (fun hb24 => ?_) (fun hb24 => ?_)
    · rw [hn] at hb24; exact absurd hb24 (nI_ge (by omega) (by omega))
    · refine jm_iload_n d_M_state_27 rfl ?_
      first | refine jm_bz_ne 41 d_M_state_28 (by decide) (fun hb28 => ?_) (fun hb28 => ?_) | refine jm_if_ne 41 d_M_state_28 (by decide) (fun hb28 => ?_) (fun hb28 => ?_)
      · refine jm_iconstL (v := 1) d_M_state_41 (by decide) ?_
        refine jm_goto 46 d_M_state_42 (by decide) ?_
        refine jm_istore_n d_M_state_46 (Nat.le_of_ble_eq_true rfl) ?_
        refine jm_iload_n d_M_state_47 rfl ?_
        first | refine jm_bz_ne 60 d_M_state_48 (by decide) (fun hb48 => ?_) (fun hb48 => ?_) | refine jm_if_ne 60 d_M_state_48 (by decide) (fun hb48 => ?_) (fun hb48 => ?_)
        · refine jm_iconstL (v := 1) d_M_state_60 (by decide) ?_
          refine jm_goto 65 d_M_state_61 (by decide) ?_
          refine jm_istore_n d_M_state_65 (Nat.le_of_ble_eq_true rfl) ?_
          refine jm_iload_n d_M_state_66 rfl ?_
          first | refine jm_bz_ne 88 d_M_state_67 (by decide) (fun hb67 => ?_) (fun hb67 => ?_) | refine jm_if_ne 88 d_M_state_67 (by decide) (fun hb67 => ?_) (fun hb67 => ?_)
          · refine jm_iconstL (v := 1) d_M_state_88 (by decide) ?_
            refine jm_goto 93 d_M_state_89 (by decide) ?_
            refine jm_istore_n d_M_state_93 (Nat.le_of_ble_eq_true rfl) ?_
            refine jm_iincL (v := nI (k + 1)) d_M_state_94 rfl (by rw [nI_succ]; rfl) ?_
            refine jm_goto 18 d_M_state_97 (by decide) ?_
            refine (?_ : jm_W _ _ _ _ _ _ 18 [some (.ref m), some (.int (bz (anyB (wideB S) (k + 1)))), some (.int (bz (anyB (lostB S) (k + 1)))), some (.int (bz (anyB (openB S) (k + 1)))), some (.int (nI (k + 1)))] [] h → _) (ih (k + 1) (by omega))
            clear ih
            rw [hc] at *
            (first | rw [show bz (anyB (wideB S) (k + 1)) = 1 from orA1 hb28] | rw [show bz (anyB (wideB S) (k + 1)) = 1 from orA2 (decide_eq_true hb38)] | rw [show bz (anyB (wideB S) (k + 1)) = 0 from orA0 hb28 (fun q => of_decide_eq_true q hb38)])
            (first | rw [show bz (anyB (lostB S) (k + 1)) = 1 from orA1 hb48] | rw [show bz (anyB (lostB S) (k + 1)) = 1 from orA2 (decide_eq_true hb57)] | rw [show bz (anyB (lostB S) (k + 1)) = 0 from orA0 hb48 (fun q => hb57 (of_decide_eq_true q))])
            (first | rw [show bz (anyB (openB S) (k + 1)) = 1 from orA1 hb67] | rw [show bz (anyB (openB S) (k + 1)) = 1 from orA2 (decide_eq_true ⟨hb76, hb85⟩)] | rw [show bz (anyB (openB S) (k + 1)) = 0 from orA0 hb67 (fun q => (of_decide_eq_true q).1 hb76)] | rw [show bz (anyB (openB S) (k + 1)) = 0 from orA0 hb67 (fun q => (of_decide_eq_true q).2 hb85)])
            exact fun e9 => e9
          · first | refine jm_aload_n d_M_state_70 rfl ?_ | refine jm_aload_nN d_M_state_70 rfl ?_
            refine jm_iload d_M_state_71 rfl ?_
            refine mr_callp (As := [_]) d_M_state_73 l_M_235 iw_M_isSettled ew_M_isSettled nv_M_isSettled rfl (Nat.le_of_ble_eq_true rfl) (by omega : 0 + 1 ≤ _) (k_M_isSettled hkn h8 hp) hm ?_
            first | refine jm_bz_ne 92 d_M_state_76 (by decide) (fun hb76 => ?_) (fun hb76 => ?_) | refine jm_if_ne 92 d_M_state_76 (by decide) (fun hb76 => ?_) (fun hb76 => ?_)
            · refine jm_iconstL (v := 0) d_M_state_92 (by decide) ?_
              refine jm_istore_n d_M_state_93 (Nat.le_of_ble_eq_true rfl) ?_
              refine jm_iincL (v := nI (k + 1)) d_M_state_94 rfl (by rw [nI_succ]; rfl) ?_
              refine jm_goto 18 d_M_state_97 (by decide) ?_
              refine (?_ : jm_W _ _ _ _ _ _ 18 [some (.ref m), some (.int (bz (anyB (wideB S) (k + 1)))), some (.int (bz (anyB (lostB S) (k + 1)))), some (.int (bz (anyB (openB S) (k + 1)))), some (.int (nI (k + 1)))] [] h → _) (ih (k + 1) (by omega))
              clear ih
              rw [hc] at *
              (first | rw [show bz (anyB (wideB S) (k + 1)) = 1 from orA1 hb28] | rw [show bz (anyB (wideB S) (k + 1)) = 1 from orA2 (decide_eq_true hb38)] | rw [show bz (anyB (wideB S) (k + 1)) = 0 from orA0 hb28 (fun q => of_decide_eq_true q hb38)])
              (first | rw [show bz (anyB (lostB S) (k + 1)) = 1 from orA1 hb48] | rw [show bz (anyB (lostB S) (k + 1)) = 1 from orA2 (decide_eq_true hb57)] | rw [show bz (anyB (lostB S) (k + 1)) = 0 from orA0 hb48 (fun q => hb57 (of_decide_eq_true q))])
              (first | rw [show bz (anyB (openB S) (k + 1)) = 1 from orA1 hb67] | rw [show bz (anyB (openB S) (k + 1)) = 1 from orA2 (decide_eq_true ⟨hb76, hb85⟩)] | rw [show bz (anyB (openB S) (k + 1)) = 0 from orA0 hb67 (fun q => (of_decide_eq_true q).1 hb76)] | rw [show bz (anyB (openB S) (k + 1)) = 0 from orA0 hb67 (fun q => (of_decide_eq_true q).2 hb85)])
              exact fun e9 => e9
            · first | refine jm_aload_n d_M_state_79 rfl ?_ | refine jm_aload_nN d_M_state_79 rfl ?_
              refine jm_iload d_M_state_80 rfl ?_
              refine mr_callp (As := [_]) d_M_state_82 l_M_232 iw_M_isLost ew_M_isLost nv_M_isLost rfl (Nat.le_of_ble_eq_true rfl) (by omega : 0 + 1 ≤ _) (k_M_isLost hs hkn h8 hp) hm ?_
              first | refine jm_bz_ne 92 d_M_state_85 (by decide) (fun hb85 => ?_) (fun hb85 => ?_) | refine jm_if_ne 92 d_M_state_85 (by decide) (fun hb85 => ?_) (fun hb85 => ?_)
              · refine jm_iconstL (v := 0) d_M_state_92 (by decide) ?_
                refine jm_istore_n d_M_state_93 (Nat.le_of_ble_eq_true rfl) ?_
                refine jm_iincL (v := nI (k + 1)) d_M_state_94 rfl (by rw [nI_succ]; rfl) ?_
                refine jm_goto 18 d_M_state_97 (by decide) ?_
                refine (?_ : jm_W _ _ _ _ _ _ 18 [some (.ref m), some (.int (bz (anyB (wideB S) (k + 1)))), some (.int (bz (anyB (lostB S) (k + 1)))), some (.int (bz (anyB (openB S) (k + 1)))), some (.int (nI (k + 1)))] [] h → _) (ih (k + 1) (by omega))
                clear ih
                rw [hc] at *
                (first | rw [show bz (anyB (wideB S) (k + 1)) = 1 from orA1 hb28] | rw [show bz (anyB (wideB S) (k + 1)) = 1 from orA2 (decide_eq_true hb38)] | rw [show bz (anyB (wideB S) (k + 1)) = 0 from orA0 hb28 (fun q => of_decide_eq_true q hb38)])
                (first | rw [show bz (anyB (lostB S) (k + 1)) = 1 from orA1 hb48] | rw [show bz (anyB (lostB S) (k + 1)) = 1 from orA2 (decide_eq_true hb57)] | rw [show bz (anyB (lostB S) (k + 1)) = 0 from orA0 hb48 (fun q => hb57 (of_decide_eq_true q))])
                (first | rw [show bz (anyB (openB S) (k + 1)) = 1 from orA1 hb67] | rw [show bz (anyB (openB S) (k + 1)) = 1 from orA2 (decide_eq_true ⟨hb76, hb85⟩)] | rw [show bz (anyB (openB S) (k + 1)) = 0 from orA0 hb67 (fun q => (of_decide_eq_true q).1 hb76)] | rw [show bz (anyB (openB S) (k + 1)) = 0 from orA0 hb67 (fun q => (of_decide_eq_true q).2 hb85)])
                exact fun e9 => e9
              · refine jm_iconstL (v := 1) d_M_state_88 (by decide) ?_
                refine jm_goto 93 d_M_state_89 (by decide) ?_
                refine jm_istore_n d_M_state_93 (Nat.le_of_ble_eq_true rfl) ?_
                refine jm_iincL (v := nI (k + 1)) d_M_state_94 rfl (by rw [nI_succ]; rfl) ?_
                refine jm_goto 18 d_M_state_97 (by decide) ?_
                refine (?_ : jm_W _ _ _ _ _ _ 18 [some (.ref m), some (.int (bz (anyB (wideB S) (k + 1)))), some (.int (bz (anyB (lostB S) (k + 1)))), some (.int (bz (anyB (openB S) (k + 1)))), some (.int (nI (k + 1)))] [] h → _) (ih (k + 1) (by omega))
                clear ih
                rw [hc] at *
                (first | rw [show bz (anyB (wideB S) (k + 1)) = 1 from orA1 hb28] | rw [show bz (anyB (wideB S) (k + 1)) = 1 from orA2 (decide_eq_true hb38)] | rw [show bz (anyB (wideB S) (k + 1)) = 0 from orA0 hb28 (fun q => of_decide_eq_true q hb38)])
                (first | rw [show bz (anyB (lostB S) (k + 1)) = 1 from orA1 hb48] | rw [show bz (anyB (lostB S) (k + 1)) = 1 from orA2 (decide_eq_true hb57)] | rw [show bz (anyB (lostB S) (k + 1)) = 0 from orA0 hb48 (fun q => hb57 (of_decide_eq_true q))])
                (first | rw [show bz (anyB (openB S) (k + 1)) = 1 from orA1 hb67] | rw [show bz (anyB (openB S) (k + 1)) = 1 from orA2 (decide_eq_true ⟨hb76, hb85⟩)] | rw [show bz (anyB (openB S) (k + 1)) = 0 from orA0 hb67 (fun q => (of_decide_eq_true q).1 hb76)] | rw [show bz (anyB (openB S) (k + 1)) = 0 from orA0 hb67 (fun q => (of_decide_eq_true q).2 hb85)])
                exact fun e9 => e9
        · first | refine jm_aload_n d_M_state_51 rfl ?_ | refine jm_aload_nN d_M_state_51 rfl ?_
          refine jm_iload d_M_state_52 rfl ?_
          refine mr_callp (As := [_]) d_M_state_54 l_M_232 iw_M_isLost ew_M_isLost nv_M_isLost rfl (Nat.le_of_ble_eq_true rfl) (by omega : 0 + 1 ≤ _) (k_M_isLost hs hkn h8 hp) hm ?_
          first | refine jm_bz_eq 64 d_M_state_57 (by decide) (fun hb57 => ?_) (fun hb57 => ?_) | refine jm_if_eq 64 d_M_state_57 (by decide) (fun hb57 => ?_) (fun hb57 => ?_)
          · refine jm_iconstL (v := 0) d_M_state_64 (by decide) ?_
            refine jm_istore_n d_M_state_65 (Nat.le_of_ble_eq_true rfl) ?_
            refine jm_iload_n d_M_state_66 rfl ?_
            first | refine jm_bz_ne 88 d_M_state_67 (by decide) (fun hb67 => ?_) (fun hb67 => ?_) | refine jm_if_ne 88 d_M_state_67 (by decide) (fun hb67 => ?_) (fun hb67 => ?_)
            · refine jm_iconstL (v := 1) d_M_state_88 (by decide) ?_
              refine jm_goto 93 d_M_state_89 (by decide) ?_
              refine jm_istore_n d_M_state_93 (Nat.le_of_ble_eq_true rfl) ?_
              refine jm_iincL (v := nI (k + 1)) d_M_state_94 rfl (by rw [nI_succ]; rfl) ?_
              refine jm_goto 18 d_M_state_97 (by decide) ?_
              refine (?_ : jm_W _ _ _ _ _ _ 18 [some (.ref m), some (.int (bz (anyB (wideB S) (k + 1)))), some (.int (bz (anyB (lostB S) (k + 1)))), some (.int (bz (anyB (openB S) (k + 1)))), some (.int (nI (k + 1)))] [] h → _) (ih (k + 1) (by omega))
              clear ih
              rw [hc] at *
              (first | rw [show bz (anyB (wideB S) (k + 1)) = 1 from orA1 hb28] | rw [show bz (anyB (wideB S) (k + 1)) = 1 from orA2 (decide_eq_true hb38)] | rw [show bz (anyB (wideB S) (k + 1)) = 0 from orA0 hb28 (fun q => of_decide_eq_true q hb38)])
              (first | rw [show bz (anyB (lostB S) (k + 1)) = 1 from orA1 hb48] | rw [show bz (anyB (lostB S) (k + 1)) = 1 from orA2 (decide_eq_true hb57)] | rw [show bz (anyB (lostB S) (k + 1)) = 0 from orA0 hb48 (fun q => hb57 (of_decide_eq_true q))])
              (first | rw [show bz (anyB (openB S) (k + 1)) = 1 from orA1 hb67] | rw [show bz (anyB (openB S) (k + 1)) = 1 from orA2 (decide_eq_true ⟨hb76, hb85⟩)] | rw [show bz (anyB (openB S) (k + 1)) = 0 from orA0 hb67 (fun q => (of_decide_eq_true q).1 hb76)] | rw [show bz (anyB (openB S) (k + 1)) = 0 from orA0 hb67 (fun q => (of_decide_eq_true q).2 hb85)])
              exact fun e9 => e9
            · first | refine jm_aload_n d_M_state_70 rfl ?_ | refine jm_aload_nN d_M_state_70 rfl ?_
              refine jm_iload d_M_state_71 rfl ?_
              refine mr_callp (As := [_]) d_M_state_73 l_M_235 iw_M_isSettled ew_M_isSettled nv_M_isSettled rfl (Nat.le_of_ble_eq_true rfl) (by omega : 0 + 1 ≤ _) (k_M_isSettled hkn h8 hp) hm ?_
              first | refine jm_bz_ne 92 d_M_state_76 (by decide) (fun hb76 => ?_) (fun hb76 => ?_) | refine jm_if_ne 92 d_M_state_76 (by decide) (fun hb76 => ?_) (fun hb76 => ?_)
              · refine jm_iconstL (v := 0) d_M_state_92 (by decide) ?_
                refine jm_istore_n d_M_state_93 (Nat.le_of_ble_eq_true rfl) ?_
                refine jm_iincL (v := nI (k + 1)) d_M_state_94 rfl (by rw [nI_succ]; rfl) ?_
                refine jm_goto 18 d_M_state_97 (by decide) ?_
                refine (?_ : jm_W _ _ _ _ _ _ 18 [some (.ref m), some (.int (bz (anyB (wideB S) (k + 1)))), some (.int (bz (anyB (lostB S) (k + 1)))), some (.int (bz (anyB (openB S) (k + 1)))), some (.int (nI (k + 1)))] [] h → _) (ih (k + 1) (by omega))
                clear ih
                rw [hc] at *
                (first | rw [show bz (anyB (wideB S) (k + 1)) = 1 from orA1 hb28] | rw [show bz (anyB (wideB S) (k + 1)) = 1 from orA2 (decide_eq_true hb38)] | rw [show bz (anyB (wideB S) (k + 1)) = 0 from orA0 hb28 (fun q => of_decide_eq_true q hb38)])
                (first | rw [show bz (anyB (lostB S) (k + 1)) = 1 from orA1 hb48] | rw [show bz (anyB (lostB S) (k + 1)) = 1 from orA2 (decide_eq_true hb57)] | rw [show bz (anyB (lostB S) (k + 1)) = 0 from orA0 hb48 (fun q => hb57 (of_decide_eq_true q))])
                (first | rw [show bz (anyB (openB S) (k + 1)) = 1 from orA1 hb67] | rw [show bz (anyB (openB S) (k + 1)) = 1 from orA2 (decide_eq_true ⟨hb76, hb85⟩)] | rw [show bz (anyB (openB S) (k + 1)) = 0 from orA0 hb67 (fun q => (of_decide_eq_true q).1 hb76)] | rw [show bz (anyB (openB S) (k + 1)) = 0 from orA0 hb67 (fun q => (of_decide_eq_true q).2 hb85)])
                exact fun e9 => e9
              · first | refine jm_aload_n d_M_state_79 rfl ?_ | refine jm_aload_nN d_M_state_79 rfl ?_
                refine jm_iload d_M_state_80 rfl ?_
                refine mr_callp (As := [_]) d_M_state_82 l_M_232 iw_M_isLost ew_M_isLost nv_M_isLost rfl (Nat.le_of_ble_eq_true rfl) (by omega : 0 + 1 ≤ _) (k_M_isLost hs hkn h8 hp) hm ?_
                first | refine jm_bz_ne 92 d_M_state_85 (by decide) (fun hb85 => ?_) (fun hb85 => ?_) | refine jm_if_ne 92 d_M_state_85 (by decide) (fun hb85 => ?_) (fun hb85 => ?_)
                · refine jm_iconstL (v := 0) d_M_state_92 (by decide) ?_
                  refine jm_istore_n d_M_state_93 (Nat.le_of_ble_eq_true rfl) ?_
                  refine jm_iincL (v := nI (k + 1)) d_M_state_94 rfl (by rw [nI_succ]; rfl) ?_
                  refine jm_goto 18 d_M_state_97 (by decide) ?_
                  refine (?_ : jm_W _ _ _ _ _ _ 18 [some (.ref m), some (.int (bz (anyB (wideB S) (k + 1)))), some (.int (bz (anyB (lostB S) (k + 1)))), some (.int (bz (anyB (openB S) (k + 1)))), some (.int (nI (k + 1)))] [] h → _) (ih (k + 1) (by omega))
                  clear ih
                  rw [hc] at *
                  (first | rw [show bz (anyB (wideB S) (k + 1)) = 1 from orA1 hb28] | rw [show bz (anyB (wideB S) (k + 1)) = 1 from orA2 (decide_eq_true hb38)] | rw [show bz (anyB (wideB S) (k + 1)) = 0 from orA0 hb28 (fun q => of_decide_eq_true q hb38)])
                  (first | rw [show bz (anyB (lostB S) (k + 1)) = 1 from orA1 hb48] | rw [show bz (anyB (lostB S) (k + 1)) = 1 from orA2 (decide_eq_true hb57)] | rw [show bz (anyB (lostB S) (k + 1)) = 0 from orA0 hb48 (fun q => hb57 (of_decide_eq_true q))])
                  (first | rw [show bz (anyB (openB S) (k + 1)) = 1 from orA1 hb67] | rw [show bz (anyB (openB S) (k + 1)) = 1 from orA2 (decide_eq_true ⟨hb76, hb85⟩)] | rw [show bz (anyB (openB S) (k + 1)) = 0 from orA0 hb67 (fun q => (of_decide_eq_true q).1 hb76)] | rw [show bz (anyB (openB S) (k + 1)) = 0 from orA0 hb67 (fun q => (of_decide_eq_true q).2 hb85)])
                  exact fun e9 => e9
                · refine jm_iconstL (v := 1) d_M_state_88 (by decide) ?_
                  refine jm_goto 93 d_M_state_89 (by decide) ?_
                  refine jm_istore_n d_M_state_93 (Nat.le_of_ble_eq_true rfl) ?_
                  refine jm_iincL (v := nI (k + 1)) d_M_state_94 rfl (by rw [nI_succ]; rfl) ?_
                  refine jm_goto 18 d_M_state_97 (by decide) ?_
                  refine (?_ : jm_W _ _ _ _ _ _ 18 [some (.ref m), some (.int (bz (anyB (wideB S) (k + 1)))), some (.int (bz (anyB (lostB S) (k + 1)))), some (.int (bz (anyB (openB S) (k + 1)))), some (.int (nI (k + 1)))] [] h → _) (ih (k + 1) (by omega))
                  clear ih
                  rw [hc] at *
                  (first | rw [show bz (anyB (wideB S) (k + 1)) = 1 from orA1 hb28] | rw [show bz (anyB (wideB S) (k + 1)) = 1 from orA2 (decide_eq_true hb38)] | rw [show bz (anyB (wideB S) (k + 1)) = 0 from orA0 hb28 (fun q => of_decide_eq_true q hb38)])
                  (first | rw [show bz (anyB (lostB S) (k + 1)) = 1 from orA1 hb48] | rw [show bz (anyB (lostB S) (k + 1)) = 1 from orA2 (decide_eq_true hb57)] | rw [show bz (anyB (lostB S) (k + 1)) = 0 from orA0 hb48 (fun q => hb57 (of_decide_eq_true q))])
                  (first | rw [show bz (anyB (openB S) (k + 1)) = 1 from orA1 hb67] | rw [show bz (anyB (openB S) (k + 1)) = 1 from orA2 (decide_eq_true ⟨hb76, hb85⟩)] | rw [show bz (anyB (openB S) (k + 1)) = 0 from orA0 hb67 (fun q => (of_decide_eq_true q).1 hb76)] | rw [show bz (anyB (openB S) (k + 1)) = 0 from orA0 hb67 (fun q => (of_decide_eq_true q).2 hb85)])
                  exact fun e9 => e9
          · refine jm_iconstL (v := 1) d_M_state_60 (by decide) ?_
            refine jm_goto 65 d_M_state_61 (by decide) ?_
            refine jm_istore_n d_M_state_65 (Nat.le_of_ble_eq_true rfl) ?_
            refine jm_iload_n d_M_state_66 rfl ?_
            first | refine jm_bz_ne 88 d_M_state_67 (by decide) (fun hb67 => ?_) (fun hb67 => ?_) | refine jm_if_ne 88 d_M_state_67 (by decide) (fun hb67 => ?_) (fun hb67 => ?_)
            · refine jm_iconstL (v := 1) d_M_state_88 (by decide) ?_
              refine jm_goto 93 d_M_state_89 (by decide) ?_
              refine jm_istore_n d_M_state_93 (Nat.le_of_ble_eq_true rfl) ?_
              refine jm_iincL (v := nI (k + 1)) d_M_state_94 rfl (by rw [nI_succ]; rfl) ?_
              refine jm_goto 18 d_M_state_97 (by decide) ?_
              refine (?_ : jm_W _ _ _ _ _ _ 18 [some (.ref m), some (.int (bz (anyB (wideB S) (k + 1)))), some (.int (bz (anyB (lostB S) (k + 1)))), some (.int (bz (anyB (openB S) (k + 1)))), some (.int (nI (k + 1)))] [] h → _) (ih (k + 1) (by omega))
              clear ih
              rw [hc] at *
              (first | rw [show bz (anyB (wideB S) (k + 1)) = 1 from orA1 hb28] | rw [show bz (anyB (wideB S) (k + 1)) = 1 from orA2 (decide_eq_true hb38)] | rw [show bz (anyB (wideB S) (k + 1)) = 0 from orA0 hb28 (fun q => of_decide_eq_true q hb38)])
              (first | rw [show bz (anyB (lostB S) (k + 1)) = 1 from orA1 hb48] | rw [show bz (anyB (lostB S) (k + 1)) = 1 from orA2 (decide_eq_true hb57)] | rw [show bz (anyB (lostB S) (k + 1)) = 0 from orA0 hb48 (fun q => hb57 (of_decide_eq_true q))])
              (first | rw [show bz (anyB (openB S) (k + 1)) = 1 from orA1 hb67] | rw [show bz (anyB (openB S) (k + 1)) = 1 from orA2 (decide_eq_true ⟨hb76, hb85⟩)] | rw [show bz (anyB (openB S) (k + 1)) = 0 from orA0 hb67 (fun q => (of_decide_eq_true q).1 hb76)] | rw [show bz (anyB (openB S) (k + 1)) = 0 from orA0 hb67 (fun q => (of_decide_eq_true q).2 hb85)])
              exact fun e9 => e9
            · first | refine jm_aload_n d_M_state_70 rfl ?_ | refine jm_aload_nN d_M_state_70 rfl ?_
              refine jm_iload d_M_state_71 rfl ?_
              refine mr_callp (As := [_]) d_M_state_73 l_M_235 iw_M_isSettled ew_M_isSettled nv_M_isSettled rfl (Nat.le_of_ble_eq_true rfl) (by omega : 0 + 1 ≤ _) (k_M_isSettled hkn h8 hp) hm ?_
              first | refine jm_bz_ne 92 d_M_state_76 (by decide) (fun hb76 => ?_) (fun hb76 => ?_) | refine jm_if_ne 92 d_M_state_76 (by decide) (fun hb76 => ?_) (fun hb76 => ?_)
              · refine jm_iconstL (v := 0) d_M_state_92 (by decide) ?_
                refine jm_istore_n d_M_state_93 (Nat.le_of_ble_eq_true rfl) ?_
                refine jm_iincL (v := nI (k + 1)) d_M_state_94 rfl (by rw [nI_succ]; rfl) ?_
                refine jm_goto 18 d_M_state_97 (by decide) ?_
                refine (?_ : jm_W _ _ _ _ _ _ 18 [some (.ref m), some (.int (bz (anyB (wideB S) (k + 1)))), some (.int (bz (anyB (lostB S) (k + 1)))), some (.int (bz (anyB (openB S) (k + 1)))), some (.int (nI (k + 1)))] [] h → _) (ih (k + 1) (by omega))
                clear ih
                rw [hc] at *
                (first | rw [show bz (anyB (wideB S) (k + 1)) = 1 from orA1 hb28] | rw [show bz (anyB (wideB S) (k + 1)) = 1 from orA2 (decide_eq_true hb38)] | rw [show bz (anyB (wideB S) (k + 1)) = 0 from orA0 hb28 (fun q => of_decide_eq_true q hb38)])
                (first | rw [show bz (anyB (lostB S) (k + 1)) = 1 from orA1 hb48] | rw [show bz (anyB (lostB S) (k + 1)) = 1 from orA2 (decide_eq_true hb57)] | rw [show bz (anyB (lostB S) (k + 1)) = 0 from orA0 hb48 (fun q => hb57 (of_decide_eq_true q))])
                (first | rw [show bz (anyB (openB S) (k + 1)) = 1 from orA1 hb67] | rw [show bz (anyB (openB S) (k + 1)) = 1 from orA2 (decide_eq_true ⟨hb76, hb85⟩)] | rw [show bz (anyB (openB S) (k + 1)) = 0 from orA0 hb67 (fun q => (of_decide_eq_true q).1 hb76)] | rw [show bz (anyB (openB S) (k + 1)) = 0 from orA0 hb67 (fun q => (of_decide_eq_true q).2 hb85)])
                exact fun e9 => e9
              · first | refine jm_aload_n d_M_state_79 rfl ?_ | refine jm_aload_nN d_M_state_79 rfl ?_
                refine jm_iload d_M_state_80 rfl ?_
                refine mr_callp (As := [_]) d_M_state_82 l_M_232 iw_M_isLost ew_M_isLost nv_M_isLost rfl (Nat.le_of_ble_eq_true rfl) (by omega : 0 + 1 ≤ _) (k_M_isLost hs hkn h8 hp) hm ?_
                first | refine jm_bz_ne 92 d_M_state_85 (by decide) (fun hb85 => ?_) (fun hb85 => ?_) | refine jm_if_ne 92 d_M_state_85 (by decide) (fun hb85 => ?_) (fun hb85 => ?_)
                · refine jm_iconstL (v := 0) d_M_state_92 (by decide) ?_
                  refine jm_istore_n d_M_state_93 (Nat.le_of_ble_eq_true rfl) ?_
                  refine jm_iincL (v := nI (k + 1)) d_M_state_94 rfl (by rw [nI_succ]; rfl) ?_
                  refine jm_goto 18 d_M_state_97 (by decide) ?_
                  refine (?_ : jm_W _ _ _ _ _ _ 18 [some (.ref m), some (.int (bz (anyB (wideB S) (k + 1)))), some (.int (bz (anyB (lostB S) (k + 1)))), some (.int (bz (anyB (openB S) (k + 1)))), some (.int (nI (k + 1)))] [] h → _) (ih (k + 1) (by omega))
                  clear ih
                  rw [hc] at *
                  (first | rw [show bz (anyB (wideB S) (k + 1)) = 1 from orA1 hb28] | rw [show bz (anyB (wideB S) (k + 1)) = 1 from orA2 (decide_eq_true hb38)] | rw [show bz (anyB (wideB S) (k + 1)) = 0 from orA0 hb28 (fun q => of_decide_eq_true q hb38)])
                  (first | rw [show bz (anyB (lostB S) (k + 1)) = 1 from orA1 hb48] | rw [show bz (anyB (lostB S) (k + 1)) = 1 from orA2 (decide_eq_true hb57)] | rw [show bz (anyB (lostB S) (k + 1)) = 0 from orA0 hb48 (fun q => hb57 (of_decide_eq_true q))])
                  (first | rw [show bz (anyB (openB S) (k + 1)) = 1 from orA1 hb67] | rw [show bz (anyB (openB S) (k + 1)) = 1 from orA2 (decide_eq_true ⟨hb76, hb85⟩)] | rw [show bz (anyB (openB S) (k + 1)) = 0 from orA0 hb67 (fun q => (of_decide_eq_true q).1 hb76)] | rw [show bz (anyB (openB S) (k + 1)) = 0 from orA0 hb67 (fun q => (of_decide_eq_true q).2 hb85)])
                  exact fun e9 => e9
                · refine jm_iconstL (v := 1) d_M_state_88 (by decide) ?_
                  refine jm_goto 93 d_M_state_89 (by decide) ?_
                  refine jm_istore_n d_M_state_93 (Nat.le_of_ble_eq_true rfl) ?_
                  refine jm_iincL (v := nI (k + 1)) d_M_state_94 rfl (by rw [nI_succ]; rfl) ?_
                  refine jm_goto 18 d_M_state_97 (by decide) ?_
                  refine (?_ : jm_W _ _ _ _ _ _ 18 [some (.ref m), some (.int (bz (anyB (wideB S) (k + 1)))), some (.int (bz (anyB (lostB S) (k + 1)))), some (.int (bz (anyB (openB S) (k + 1)))), some (.int (nI (k + 1)))] [] h → _) (ih (k + 1) (by omega))
                  clear ih
                  rw [hc] at *
                  (first | rw [show bz (anyB (wideB S) (k + 1)) = 1 from orA1 hb28] | rw [show bz (anyB (wideB S) (k + 1)) = 1 from orA2 (decide_eq_true hb38)] | rw [show bz (anyB (wideB S) (k + 1)) = 0 from orA0 hb28 (fun q => of_decide_eq_true q hb38)])
                  (first | rw [show bz (anyB (lostB S) (k + 1)) = 1 from orA1 hb48] | rw [show bz (anyB (lostB S) (k + 1)) = 1 from orA2 (decide_eq_true hb57)] | rw [show bz (anyB (lostB S) (k + 1)) = 0 from orA0 hb48 (fun q => hb57 (of_decide_eq_true q))])
                  (first | rw [show bz (anyB (openB S) (k + 1)) = 1 from orA1 hb67] | rw [show bz (anyB (openB S) (k + 1)) = 1 from orA2 (decide_eq_true ⟨hb76, hb85⟩)] | rw [show bz (anyB (openB S) (k + 1)) = 0 from orA0 hb67 (fun q => (of_decide_eq_true q).1 hb76)] | rw [show bz (anyB (openB S) (k + 1)) = 0 from orA0 hb67 (fun q => (of_decide_eq_true q).2 hb85)])
                  exact fun e9 => e9
      · first | refine jm_aload_n d_M_state_31 rfl ?_ | refine jm_aload_nN d_M_state_31 rfl ?_
        refine mr_geta d_M_state_32 f_M_44 hm (by decide) (by decide) ?_
        refine jm_iload d_M_state_35 rfl ?_
        refine mr_ldz _ d_M_state_37 hm (by decide) (by decide) rfl (b8 (by omega)) ?_
        first | refine jm_bz_eq 45 d_M_state_38 (by decide) (fun hb38 => ?_) (fun hb38 => ?_) | refine jm_if_eq 45 d_M_state_38 (by decide) (fun hb38 => ?_) (fun hb38 => ?_)
        · refine jm_iconstL (v := 0) d_M_state_45 (by decide) ?_
          refine jm_istore_n d_M_state_46 (Nat.le_of_ble_eq_true rfl) ?_
          refine jm_iload_n d_M_state_47 rfl ?_
          first | refine jm_bz_ne 60 d_M_state_48 (by decide) (fun hb48 => ?_) (fun hb48 => ?_) | refine jm_if_ne 60 d_M_state_48 (by decide) (fun hb48 => ?_) (fun hb48 => ?_)
          · refine jm_iconstL (v := 1) d_M_state_60 (by decide) ?_
            refine jm_goto 65 d_M_state_61 (by decide) ?_
            refine jm_istore_n d_M_state_65 (Nat.le_of_ble_eq_true rfl) ?_
            refine jm_iload_n d_M_state_66 rfl ?_
            first | refine jm_bz_ne 88 d_M_state_67 (by decide) (fun hb67 => ?_) (fun hb67 => ?_) | refine jm_if_ne 88 d_M_state_67 (by decide) (fun hb67 => ?_) (fun hb67 => ?_)
            · refine jm_iconstL (v := 1) d_M_state_88 (by decide) ?_
              refine jm_goto 93 d_M_state_89 (by decide) ?_
              refine jm_istore_n d_M_state_93 (Nat.le_of_ble_eq_true rfl) ?_
              refine jm_iincL (v := nI (k + 1)) d_M_state_94 rfl (by rw [nI_succ]; rfl) ?_
              refine jm_goto 18 d_M_state_97 (by decide) ?_
              refine (?_ : jm_W _ _ _ _ _ _ 18 [some (.ref m), some (.int (bz (anyB (wideB S) (k + 1)))), some (.int (bz (anyB (lostB S) (k + 1)))), some (.int (bz (anyB (openB S) (k + 1)))), some (.int (nI (k + 1)))] [] h → _) (ih (k + 1) (by omega))
              clear ih
              rw [hc] at *
              (first | rw [show bz (anyB (wideB S) (k + 1)) = 1 from orA1 hb28] | rw [show bz (anyB (wideB S) (k + 1)) = 1 from orA2 (decide_eq_true hb38)] | rw [show bz (anyB (wideB S) (k + 1)) = 0 from orA0 hb28 (fun q => of_decide_eq_true q hb38)])
              (first | rw [show bz (anyB (lostB S) (k + 1)) = 1 from orA1 hb48] | rw [show bz (anyB (lostB S) (k + 1)) = 1 from orA2 (decide_eq_true hb57)] | rw [show bz (anyB (lostB S) (k + 1)) = 0 from orA0 hb48 (fun q => hb57 (of_decide_eq_true q))])
              (first | rw [show bz (anyB (openB S) (k + 1)) = 1 from orA1 hb67] | rw [show bz (anyB (openB S) (k + 1)) = 1 from orA2 (decide_eq_true ⟨hb76, hb85⟩)] | rw [show bz (anyB (openB S) (k + 1)) = 0 from orA0 hb67 (fun q => (of_decide_eq_true q).1 hb76)] | rw [show bz (anyB (openB S) (k + 1)) = 0 from orA0 hb67 (fun q => (of_decide_eq_true q).2 hb85)])
              exact fun e9 => e9
            · first | refine jm_aload_n d_M_state_70 rfl ?_ | refine jm_aload_nN d_M_state_70 rfl ?_
              refine jm_iload d_M_state_71 rfl ?_
              refine mr_callp (As := [_]) d_M_state_73 l_M_235 iw_M_isSettled ew_M_isSettled nv_M_isSettled rfl (Nat.le_of_ble_eq_true rfl) (by omega : 0 + 1 ≤ _) (k_M_isSettled hkn h8 hp) hm ?_
              first | refine jm_bz_ne 92 d_M_state_76 (by decide) (fun hb76 => ?_) (fun hb76 => ?_) | refine jm_if_ne 92 d_M_state_76 (by decide) (fun hb76 => ?_) (fun hb76 => ?_)
              · refine jm_iconstL (v := 0) d_M_state_92 (by decide) ?_
                refine jm_istore_n d_M_state_93 (Nat.le_of_ble_eq_true rfl) ?_
                refine jm_iincL (v := nI (k + 1)) d_M_state_94 rfl (by rw [nI_succ]; rfl) ?_
                refine jm_goto 18 d_M_state_97 (by decide) ?_
                refine (?_ : jm_W _ _ _ _ _ _ 18 [some (.ref m), some (.int (bz (anyB (wideB S) (k + 1)))), some (.int (bz (anyB (lostB S) (k + 1)))), some (.int (bz (anyB (openB S) (k + 1)))), some (.int (nI (k + 1)))] [] h → _) (ih (k + 1) (by omega))
                clear ih
                rw [hc] at *
                (first | rw [show bz (anyB (wideB S) (k + 1)) = 1 from orA1 hb28] | rw [show bz (anyB (wideB S) (k + 1)) = 1 from orA2 (decide_eq_true hb38)] | rw [show bz (anyB (wideB S) (k + 1)) = 0 from orA0 hb28 (fun q => of_decide_eq_true q hb38)])
                (first | rw [show bz (anyB (lostB S) (k + 1)) = 1 from orA1 hb48] | rw [show bz (anyB (lostB S) (k + 1)) = 1 from orA2 (decide_eq_true hb57)] | rw [show bz (anyB (lostB S) (k + 1)) = 0 from orA0 hb48 (fun q => hb57 (of_decide_eq_true q))])
                (first | rw [show bz (anyB (openB S) (k + 1)) = 1 from orA1 hb67] | rw [show bz (anyB (openB S) (k + 1)) = 1 from orA2 (decide_eq_true ⟨hb76, hb85⟩)] | rw [show bz (anyB (openB S) (k + 1)) = 0 from orA0 hb67 (fun q => (of_decide_eq_true q).1 hb76)] | rw [show bz (anyB (openB S) (k + 1)) = 0 from orA0 hb67 (fun q => (of_decide_eq_true q).2 hb85)])
                exact fun e9 => e9
              · first | refine jm_aload_n d_M_state_79 rfl ?_ | refine jm_aload_nN d_M_state_79 rfl ?_
                refine jm_iload d_M_state_80 rfl ?_
                refine mr_callp (As := [_]) d_M_state_82 l_M_232 iw_M_isLost ew_M_isLost nv_M_isLost rfl (Nat.le_of_ble_eq_true rfl) (by omega : 0 + 1 ≤ _) (k_M_isLost hs hkn h8 hp) hm ?_
                first | refine jm_bz_ne 92 d_M_state_85 (by decide) (fun hb85 => ?_) (fun hb85 => ?_) | refine jm_if_ne 92 d_M_state_85 (by decide) (fun hb85 => ?_) (fun hb85 => ?_)
                · refine jm_iconstL (v := 0) d_M_state_92 (by decide) ?_
                  refine jm_istore_n d_M_state_93 (Nat.le_of_ble_eq_true rfl) ?_
                  refine jm_iincL (v := nI (k + 1)) d_M_state_94 rfl (by rw [nI_succ]; rfl) ?_
                  refine jm_goto 18 d_M_state_97 (by decide) ?_
                  refine (?_ : jm_W _ _ _ _ _ _ 18 [some (.ref m), some (.int (bz (anyB (wideB S) (k + 1)))), some (.int (bz (anyB (lostB S) (k + 1)))), some (.int (bz (anyB (openB S) (k + 1)))), some (.int (nI (k + 1)))] [] h → _) (ih (k + 1) (by omega))
                  clear ih
                  rw [hc] at *
                  (first | rw [show bz (anyB (wideB S) (k + 1)) = 1 from orA1 hb28] | rw [show bz (anyB (wideB S) (k + 1)) = 1 from orA2 (decide_eq_true hb38)] | rw [show bz (anyB (wideB S) (k + 1)) = 0 from orA0 hb28 (fun q => of_decide_eq_true q hb38)])
                  (first | rw [show bz (anyB (lostB S) (k + 1)) = 1 from orA1 hb48] | rw [show bz (anyB (lostB S) (k + 1)) = 1 from orA2 (decide_eq_true hb57)] | rw [show bz (anyB (lostB S) (k + 1)) = 0 from orA0 hb48 (fun q => hb57 (of_decide_eq_true q))])
                  (first | rw [show bz (anyB (openB S) (k + 1)) = 1 from orA1 hb67] | rw [show bz (anyB (openB S) (k + 1)) = 1 from orA2 (decide_eq_true ⟨hb76, hb85⟩)] | rw [show bz (anyB (openB S) (k + 1)) = 0 from orA0 hb67 (fun q => (of_decide_eq_true q).1 hb76)] | rw [show bz (anyB (openB S) (k + 1)) = 0 from orA0 hb67 (fun q => (of_decide_eq_true q).2 hb85)])
                  exact fun e9 => e9
                · refine jm_iconstL (v := 1) d_M_state_88 (by decide) ?_
                  refine jm_goto 93 d_M_state_89 (by decide) ?_
                  refine jm_istore_n d_M_state_93 (Nat.le_of_ble_eq_true rfl) ?_
                  refine jm_iincL (v := nI (k + 1)) d_M_state_94 rfl (by rw [nI_succ]; rfl) ?_
                  refine jm_goto 18 d_M_state_97 (by decide) ?_
                  refine (?_ : jm_W _ _ _ _ _ _ 18 [some (.ref m), some (.int (bz (anyB (wideB S) (k + 1)))), some (.int (bz (anyB (lostB S) (k + 1)))), some (.int (bz (anyB (openB S) (k + 1)))), some (.int (nI (k + 1)))] [] h → _) (ih (k + 1) (by omega))
                  clear ih
                  rw [hc] at *
                  (first | rw [show bz (anyB (wideB S) (k + 1)) = 1 from orA1 hb28] | rw [show bz (anyB (wideB S) (k + 1)) = 1 from orA2 (decide_eq_true hb38)] | rw [show bz (anyB (wideB S) (k + 1)) = 0 from orA0 hb28 (fun q => of_decide_eq_true q hb38)])
                  (first | rw [show bz (anyB (lostB S) (k + 1)) = 1 from orA1 hb48] | rw [show bz (anyB (lostB S) (k + 1)) = 1 from orA2 (decide_eq_true hb57)] | rw [show bz (anyB (lostB S) (k + 1)) = 0 from orA0 hb48 (fun q => hb57 (of_decide_eq_true q))])
                  (first | rw [show bz (anyB (openB S) (k + 1)) = 1 from orA1 hb67] | rw [show bz (anyB (openB S) (k + 1)) = 1 from orA2 (decide_eq_true ⟨hb76, hb85⟩)] | rw [show bz (anyB (openB S) (k + 1)) = 0 from orA0 hb67 (fun q => (of_decide_eq_true q).1 hb76)] | rw [show bz (anyB (openB S) (k + 1)) = 0 from orA0 hb67 (fun q => (of_decide_eq_true q).2 hb85)])
                  exact fun e9 => e9
          · first | refine jm_aload_n d_M_state_51 rfl ?_ | refine jm_aload_nN d_M_state_51 rfl ?_
            refine jm_iload d_M_state_52 rfl ?_
            refine mr_callp (As := [_]) d_M_state_54 l_M_232 iw_M_isLost ew_M_isLost nv_M_isLost rfl (Nat.le_of_ble_eq_true rfl) (by omega : 0 + 1 ≤ _) (k_M_isLost hs hkn h8 hp) hm ?_
            first | refine jm_bz_eq 64 d_M_state_57 (by decide) (fun hb57 => ?_) (fun hb57 => ?_) | refine jm_if_eq 64 d_M_state_57 (by decide) (fun hb57 => ?_) (fun hb57 => ?_)
            · refine jm_iconstL (v := 0) d_M_state_64 (by decide) ?_
              refine jm_istore_n d_M_state_65 (Nat.le_of_ble_eq_true rfl) ?_
              refine jm_iload_n d_M_state_66 rfl ?_
              first | refine jm_bz_ne 88 d_M_state_67 (by decide) (fun hb67 => ?_) (fun hb67 => ?_) | refine jm_if_ne 88 d_M_state_67 (by decide) (fun hb67 => ?_) (fun hb67 => ?_)
              · refine jm_iconstL (v := 1) d_M_state_88 (by decide) ?_
                refine jm_goto 93 d_M_state_89 (by decide) ?_
                refine jm_istore_n d_M_state_93 (Nat.le_of_ble_eq_true rfl) ?_
                refine jm_iincL (v := nI (k + 1)) d_M_state_94 rfl (by rw [nI_succ]; rfl) ?_
                refine jm_goto 18 d_M_state_97 (by decide) ?_
                refine (?_ : jm_W _ _ _ _ _ _ 18 [some (.ref m), some (.int (bz (anyB (wideB S) (k + 1)))), some (.int (bz (anyB (lostB S) (k + 1)))), some (.int (bz (anyB (openB S) (k + 1)))), some (.int (nI (k + 1)))] [] h → _) (ih (k + 1) (by omega))
                clear ih
                rw [hc] at *
                (first | rw [show bz (anyB (wideB S) (k + 1)) = 1 from orA1 hb28] | rw [show bz (anyB (wideB S) (k + 1)) = 1 from orA2 (decide_eq_true hb38)] | rw [show bz (anyB (wideB S) (k + 1)) = 0 from orA0 hb28 (fun q => of_decide_eq_true q hb38)])
                (first | rw [show bz (anyB (lostB S) (k + 1)) = 1 from orA1 hb48] | rw [show bz (anyB (lostB S) (k + 1)) = 1 from orA2 (decide_eq_true hb57)] | rw [show bz (anyB (lostB S) (k + 1)) = 0 from orA0 hb48 (fun q => hb57 (of_decide_eq_true q))])
                (first | rw [show bz (anyB (openB S) (k + 1)) = 1 from orA1 hb67] | rw [show bz (anyB (openB S) (k + 1)) = 1 from orA2 (decide_eq_true ⟨hb76, hb85⟩)] | rw [show bz (anyB (openB S) (k + 1)) = 0 from orA0 hb67 (fun q => (of_decide_eq_true q).1 hb76)] | rw [show bz (anyB (openB S) (k + 1)) = 0 from orA0 hb67 (fun q => (of_decide_eq_true q).2 hb85)])
                exact fun e9 => e9
              · first | refine jm_aload_n d_M_state_70 rfl ?_ | refine jm_aload_nN d_M_state_70 rfl ?_
                refine jm_iload d_M_state_71 rfl ?_
                refine mr_callp (As := [_]) d_M_state_73 l_M_235 iw_M_isSettled ew_M_isSettled nv_M_isSettled rfl (Nat.le_of_ble_eq_true rfl) (by omega : 0 + 1 ≤ _) (k_M_isSettled hkn h8 hp) hm ?_
                first | refine jm_bz_ne 92 d_M_state_76 (by decide) (fun hb76 => ?_) (fun hb76 => ?_) | refine jm_if_ne 92 d_M_state_76 (by decide) (fun hb76 => ?_) (fun hb76 => ?_)
                · refine jm_iconstL (v := 0) d_M_state_92 (by decide) ?_
                  refine jm_istore_n d_M_state_93 (Nat.le_of_ble_eq_true rfl) ?_
                  refine jm_iincL (v := nI (k + 1)) d_M_state_94 rfl (by rw [nI_succ]; rfl) ?_
                  refine jm_goto 18 d_M_state_97 (by decide) ?_
                  refine (?_ : jm_W _ _ _ _ _ _ 18 [some (.ref m), some (.int (bz (anyB (wideB S) (k + 1)))), some (.int (bz (anyB (lostB S) (k + 1)))), some (.int (bz (anyB (openB S) (k + 1)))), some (.int (nI (k + 1)))] [] h → _) (ih (k + 1) (by omega))
                  clear ih
                  rw [hc] at *
                  (first | rw [show bz (anyB (wideB S) (k + 1)) = 1 from orA1 hb28] | rw [show bz (anyB (wideB S) (k + 1)) = 1 from orA2 (decide_eq_true hb38)] | rw [show bz (anyB (wideB S) (k + 1)) = 0 from orA0 hb28 (fun q => of_decide_eq_true q hb38)])
                  (first | rw [show bz (anyB (lostB S) (k + 1)) = 1 from orA1 hb48] | rw [show bz (anyB (lostB S) (k + 1)) = 1 from orA2 (decide_eq_true hb57)] | rw [show bz (anyB (lostB S) (k + 1)) = 0 from orA0 hb48 (fun q => hb57 (of_decide_eq_true q))])
                  (first | rw [show bz (anyB (openB S) (k + 1)) = 1 from orA1 hb67] | rw [show bz (anyB (openB S) (k + 1)) = 1 from orA2 (decide_eq_true ⟨hb76, hb85⟩)] | rw [show bz (anyB (openB S) (k + 1)) = 0 from orA0 hb67 (fun q => (of_decide_eq_true q).1 hb76)] | rw [show bz (anyB (openB S) (k + 1)) = 0 from orA0 hb67 (fun q => (of_decide_eq_true q).2 hb85)])
                  exact fun e9 => e9
                · first | refine jm_aload_n d_M_state_79 rfl ?_ | refine jm_aload_nN d_M_state_79 rfl ?_
                  refine jm_iload d_M_state_80 rfl ?_
                  refine mr_callp (As := [_]) d_M_state_82 l_M_232 iw_M_isLost ew_M_isLost nv_M_isLost rfl (Nat.le_of_ble_eq_true rfl) (by omega : 0 + 1 ≤ _) (k_M_isLost hs hkn h8 hp) hm ?_
                  first | refine jm_bz_ne 92 d_M_state_85 (by decide) (fun hb85 => ?_) (fun hb85 => ?_) | refine jm_if_ne 92 d_M_state_85 (by decide) (fun hb85 => ?_) (fun hb85 => ?_)
                  · refine jm_iconstL (v := 0) d_M_state_92 (by decide) ?_
                    refine jm_istore_n d_M_state_93 (Nat.le_of_ble_eq_true rfl) ?_
                    refine jm_iincL (v := nI (k + 1)) d_M_state_94 rfl (by rw [nI_succ]; rfl) ?_
                    refine jm_goto 18 d_M_state_97 (by decide) ?_
                    refine (?_ : jm_W _ _ _ _ _ _ 18 [some (.ref m), some (.int (bz (anyB (wideB S) (k + 1)))), some (.int (bz (anyB (lostB S) (k + 1)))), some (.int (bz (anyB (openB S) (k + 1)))), some (.int (nI (k + 1)))] [] h → _) (ih (k + 1) (by omega))
                    clear ih
                    rw [hc] at *
                    (first | rw [show bz (anyB (wideB S) (k + 1)) = 1 from orA1 hb28] | rw [show bz (anyB (wideB S) (k + 1)) = 1 from orA2 (decide_eq_true hb38)] | rw [show bz (anyB (wideB S) (k + 1)) = 0 from orA0 hb28 (fun q => of_decide_eq_true q hb38)])
                    (first | rw [show bz (anyB (lostB S) (k + 1)) = 1 from orA1 hb48] | rw [show bz (anyB (lostB S) (k + 1)) = 1 from orA2 (decide_eq_true hb57)] | rw [show bz (anyB (lostB S) (k + 1)) = 0 from orA0 hb48 (fun q => hb57 (of_decide_eq_true q))])
                    (first | rw [show bz (anyB (openB S) (k + 1)) = 1 from orA1 hb67] | rw [show bz (anyB (openB S) (k + 1)) = 1 from orA2 (decide_eq_true ⟨hb76, hb85⟩)] | rw [show bz (anyB (openB S) (k + 1)) = 0 from orA0 hb67 (fun q => (of_decide_eq_true q).1 hb76)] | rw [show bz (anyB (openB S) (k + 1)) = 0 from orA0 hb67 (fun q => (of_decide_eq_true q).2 hb85)])
                    exact fun e9 => e9
                  · refine jm_iconstL (v := 1) d_M_state_88 (by decide) ?_
                    refine jm_goto 93 d_M_state_89 (by decide) ?_
                    refine jm_istore_n d_M_state_93 (Nat.le_of_ble_eq_true rfl) ?_
                    refine jm_iincL (v := nI (k + 1)) d_M_state_94 rfl (by rw [nI_succ]; rfl) ?_
                    refine jm_goto 18 d_M_state_97 (by decide) ?_
                    refine (?_ : jm_W _ _ _ _ _ _ 18 [some (.ref m), some (.int (bz (anyB (wideB S) (k + 1)))), some (.int (bz (anyB (lostB S) (k + 1)))), some (.int (bz (anyB (openB S) (k + 1)))), some (.int (nI (k + 1)))] [] h → _) (ih (k + 1) (by omega))
                    clear ih
                    rw [hc] at *
                    (first | rw [show bz (anyB (wideB S) (k + 1)) = 1 from orA1 hb28] | rw [show bz (anyB (wideB S) (k + 1)) = 1 from orA2 (decide_eq_true hb38)] | rw [show bz (anyB (wideB S) (k + 1)) = 0 from orA0 hb28 (fun q => of_decide_eq_true q hb38)])
                    (first | rw [show bz (anyB (lostB S) (k + 1)) = 1 from orA1 hb48] | rw [show bz (anyB (lostB S) (k + 1)) = 1 from orA2 (decide_eq_true hb57)] | rw [show bz (anyB (lostB S) (k + 1)) = 0 from orA0 hb48 (fun q => hb57 (of_decide_eq_true q))])
                    (first | rw [show bz (anyB (openB S) (k + 1)) = 1 from orA1 hb67] | rw [show bz (anyB (openB S) (k + 1)) = 1 from orA2 (decide_eq_true ⟨hb76, hb85⟩)] | rw [show bz (anyB (openB S) (k + 1)) = 0 from orA0 hb67 (fun q => (of_decide_eq_true q).1 hb76)] | rw [show bz (anyB (openB S) (k + 1)) = 0 from orA0 hb67 (fun q => (of_decide_eq_true q).2 hb85)])
                    exact fun e9 => e9
            · refine jm_iconstL (v := 1) d_M_state_60 (by decide) ?_
              refine jm_goto 65 d_M_state_61 (by decide) ?_
              refine jm_istore_n d_M_state_65 (Nat.le_of_ble_eq_true rfl) ?_
              refine jm_iload_n d_M_state_66 rfl ?_
              first | refine jm_bz_ne 88 d_M_state_67 (by decide) (fun hb67 => ?_) (fun hb67 => ?_) | refine jm_if_ne 88 d_M_state_67 (by decide) (fun hb67 => ?_) (fun hb67 => ?_)
              · refine jm_iconstL (v := 1) d_M_state_88 (by decide) ?_
                refine jm_goto 93 d_M_state_89 (by decide) ?_
                refine jm_istore_n d_M_state_93 (Nat.le_of_ble_eq_true rfl) ?_
                refine jm_iincL (v := nI (k + 1)) d_M_state_94 rfl (by rw [nI_succ]; rfl) ?_
                refine jm_goto 18 d_M_state_97 (by decide) ?_
                refine (?_ : jm_W _ _ _ _ _ _ 18 [some (.ref m), some (.int (bz (anyB (wideB S) (k + 1)))), some (.int (bz (anyB (lostB S) (k + 1)))), some (.int (bz (anyB (openB S) (k + 1)))), some (.int (nI (k + 1)))] [] h → _) (ih (k + 1) (by omega))
                clear ih
                rw [hc] at *
                (first | rw [show bz (anyB (wideB S) (k + 1)) = 1 from orA1 hb28] | rw [show bz (anyB (wideB S) (k + 1)) = 1 from orA2 (decide_eq_true hb38)] | rw [show bz (anyB (wideB S) (k + 1)) = 0 from orA0 hb28 (fun q => of_decide_eq_true q hb38)])
                (first | rw [show bz (anyB (lostB S) (k + 1)) = 1 from orA1 hb48] | rw [show bz (anyB (lostB S) (k + 1)) = 1 from orA2 (decide_eq_true hb57)] | rw [show bz (anyB (lostB S) (k + 1)) = 0 from orA0 hb48 (fun q => hb57 (of_decide_eq_true q))])
                (first | rw [show bz (anyB (openB S) (k + 1)) = 1 from orA1 hb67] | rw [show bz (anyB (openB S) (k + 1)) = 1 from orA2 (decide_eq_true ⟨hb76, hb85⟩)] | rw [show bz (anyB (openB S) (k + 1)) = 0 from orA0 hb67 (fun q => (of_decide_eq_true q).1 hb76)] | rw [show bz (anyB (openB S) (k + 1)) = 0 from orA0 hb67 (fun q => (of_decide_eq_true q).2 hb85)])
                exact fun e9 => e9
              · first | refine jm_aload_n d_M_state_70 rfl ?_ | refine jm_aload_nN d_M_state_70 rfl ?_
                refine jm_iload d_M_state_71 rfl ?_
                refine mr_callp (As := [_]) d_M_state_73 l_M_235 iw_M_isSettled ew_M_isSettled nv_M_isSettled rfl (Nat.le_of_ble_eq_true rfl) (by omega : 0 + 1 ≤ _) (k_M_isSettled hkn h8 hp) hm ?_
                first | refine jm_bz_ne 92 d_M_state_76 (by decide) (fun hb76 => ?_) (fun hb76 => ?_) | refine jm_if_ne 92 d_M_state_76 (by decide) (fun hb76 => ?_) (fun hb76 => ?_)
                · refine jm_iconstL (v := 0) d_M_state_92 (by decide) ?_
                  refine jm_istore_n d_M_state_93 (Nat.le_of_ble_eq_true rfl) ?_
                  refine jm_iincL (v := nI (k + 1)) d_M_state_94 rfl (by rw [nI_succ]; rfl) ?_
                  refine jm_goto 18 d_M_state_97 (by decide) ?_
                  refine (?_ : jm_W _ _ _ _ _ _ 18 [some (.ref m), some (.int (bz (anyB (wideB S) (k + 1)))), some (.int (bz (anyB (lostB S) (k + 1)))), some (.int (bz (anyB (openB S) (k + 1)))), some (.int (nI (k + 1)))] [] h → _) (ih (k + 1) (by omega))
                  clear ih
                  rw [hc] at *
                  (first | rw [show bz (anyB (wideB S) (k + 1)) = 1 from orA1 hb28] | rw [show bz (anyB (wideB S) (k + 1)) = 1 from orA2 (decide_eq_true hb38)] | rw [show bz (anyB (wideB S) (k + 1)) = 0 from orA0 hb28 (fun q => of_decide_eq_true q hb38)])
                  (first | rw [show bz (anyB (lostB S) (k + 1)) = 1 from orA1 hb48] | rw [show bz (anyB (lostB S) (k + 1)) = 1 from orA2 (decide_eq_true hb57)] | rw [show bz (anyB (lostB S) (k + 1)) = 0 from orA0 hb48 (fun q => hb57 (of_decide_eq_true q))])
                  (first | rw [show bz (anyB (openB S) (k + 1)) = 1 from orA1 hb67] | rw [show bz (anyB (openB S) (k + 1)) = 1 from orA2 (decide_eq_true ⟨hb76, hb85⟩)] | rw [show bz (anyB (openB S) (k + 1)) = 0 from orA0 hb67 (fun q => (of_decide_eq_true q).1 hb76)] | rw [show bz (anyB (openB S) (k + 1)) = 0 from orA0 hb67 (fun q => (of_decide_eq_true q).2 hb85)])
                  exact fun e9 => e9
                · first | refine jm_aload_n d_M_state_79 rfl ?_ | refine jm_aload_nN d_M_state_79 rfl ?_
                  refine jm_iload d_M_state_80 rfl ?_
                  refine mr_callp (As := [_]) d_M_state_82 l_M_232 iw_M_isLost ew_M_isLost nv_M_isLost rfl (Nat.le_of_ble_eq_true rfl) (by omega : 0 + 1 ≤ _) (k_M_isLost hs hkn h8 hp) hm ?_
                  first | refine jm_bz_ne 92 d_M_state_85 (by decide) (fun hb85 => ?_) (fun hb85 => ?_) | refine jm_if_ne 92 d_M_state_85 (by decide) (fun hb85 => ?_) (fun hb85 => ?_)
                  · refine jm_iconstL (v := 0) d_M_state_92 (by decide) ?_
                    refine jm_istore_n d_M_state_93 (Nat.le_of_ble_eq_true rfl) ?_
                    refine jm_iincL (v := nI (k + 1)) d_M_state_94 rfl (by rw [nI_succ]; rfl) ?_
                    refine jm_goto 18 d_M_state_97 (by decide) ?_
                    refine (?_ : jm_W _ _ _ _ _ _ 18 [some (.ref m), some (.int (bz (anyB (wideB S) (k + 1)))), some (.int (bz (anyB (lostB S) (k + 1)))), some (.int (bz (anyB (openB S) (k + 1)))), some (.int (nI (k + 1)))] [] h → _) (ih (k + 1) (by omega))
                    clear ih
                    rw [hc] at *
                    (first | rw [show bz (anyB (wideB S) (k + 1)) = 1 from orA1 hb28] | rw [show bz (anyB (wideB S) (k + 1)) = 1 from orA2 (decide_eq_true hb38)] | rw [show bz (anyB (wideB S) (k + 1)) = 0 from orA0 hb28 (fun q => of_decide_eq_true q hb38)])
                    (first | rw [show bz (anyB (lostB S) (k + 1)) = 1 from orA1 hb48] | rw [show bz (anyB (lostB S) (k + 1)) = 1 from orA2 (decide_eq_true hb57)] | rw [show bz (anyB (lostB S) (k + 1)) = 0 from orA0 hb48 (fun q => hb57 (of_decide_eq_true q))])
                    (first | rw [show bz (anyB (openB S) (k + 1)) = 1 from orA1 hb67] | rw [show bz (anyB (openB S) (k + 1)) = 1 from orA2 (decide_eq_true ⟨hb76, hb85⟩)] | rw [show bz (anyB (openB S) (k + 1)) = 0 from orA0 hb67 (fun q => (of_decide_eq_true q).1 hb76)] | rw [show bz (anyB (openB S) (k + 1)) = 0 from orA0 hb67 (fun q => (of_decide_eq_true q).2 hb85)])
                    exact fun e9 => e9
                  · refine jm_iconstL (v := 1) d_M_state_88 (by decide) ?_
                    refine jm_goto 93 d_M_state_89 (by decide) ?_
                    refine jm_istore_n d_M_state_93 (Nat.le_of_ble_eq_true rfl) ?_
                    refine jm_iincL (v := nI (k + 1)) d_M_state_94 rfl (by rw [nI_succ]; rfl) ?_
                    refine jm_goto 18 d_M_state_97 (by decide) ?_
                    refine (?_ : jm_W _ _ _ _ _ _ 18 [some (.ref m), some (.int (bz (anyB (wideB S) (k + 1)))), some (.int (bz (anyB (lostB S) (k + 1)))), some (.int (bz (anyB (openB S) (k + 1)))), some (.int (nI (k + 1)))] [] h → _) (ih (k + 1) (by omega))
                    clear ih
                    rw [hc] at *
                    (first | rw [show bz (anyB (wideB S) (k + 1)) = 1 from orA1 hb28] | rw [show bz (anyB (wideB S) (k + 1)) = 1 from orA2 (decide_eq_true hb38)] | rw [show bz (anyB (wideB S) (k + 1)) = 0 from orA0 hb28 (fun q => of_decide_eq_true q hb38)])
                    (first | rw [show bz (anyB (lostB S) (k + 1)) = 1 from orA1 hb48] | rw [show bz (anyB (lostB S) (k + 1)) = 1 from orA2 (decide_eq_true hb57)] | rw [show bz (anyB (lostB S) (k + 1)) = 0 from orA0 hb48 (fun q => hb57 (of_decide_eq_true q))])
                    (first | rw [show bz (anyB (openB S) (k + 1)) = 1 from orA1 hb67] | rw [show bz (anyB (openB S) (k + 1)) = 1 from orA2 (decide_eq_true ⟨hb76, hb85⟩)] | rw [show bz (anyB (openB S) (k + 1)) = 0 from orA0 hb67 (fun q => (of_decide_eq_true q).1 hb76)] | rw [show bz (anyB (openB S) (k + 1)) = 0 from orA0 hb67 (fun q => (of_decide_eq_true q).2 hb85)])
                    exact fun e9 => e9
        · refine jm_iconstL (v := 1) d_M_state_41 (by decide) ?_
          refine jm_goto 46 d_M_state_42 (by decide) ?_
          refine jm_istore_n d_M_state_46 (Nat.le_of_ble_eq_true rfl) ?_
          refine jm_iload_n d_M_state_47 rfl ?_
          first | refine jm_bz_ne 60 d_M_state_48 (by decide) (fun hb48 => ?_) (fun hb48 => ?_) | refine jm_if_ne 60 d_M_state_48 (by decide) (fun hb48 => ?_) (fun hb48 => ?_)
          · refine jm_iconstL (v := 1) d_M_state_60 (by decide) ?_
            refine jm_goto 65 d_M_state_61 (by decide) ?_
            refine jm_istore_n d_M_state_65 (Nat.le_of_ble_eq_true rfl) ?_
            refine jm_iload_n d_M_state_66 rfl ?_
            first | refine jm_bz_ne 88 d_M_state_67 (by decide) (fun hb67 => ?_) (fun hb67 => ?_) | refine jm_if_ne 88 d_M_state_67 (by decide) (fun hb67 => ?_) (fun hb67 => ?_)
            · refine jm_iconstL (v := 1) d_M_state_88 (by decide) ?_
              refine jm_goto 93 d_M_state_89 (by decide) ?_
              refine jm_istore_n d_M_state_93 (Nat.le_of_ble_eq_true rfl) ?_
              refine jm_iincL (v := nI (k + 1)) d_M_state_94 rfl (by rw [nI_succ]; rfl) ?_
              refine jm_goto 18 d_M_state_97 (by decide) ?_
              refine (?_ : jm_W _ _ _ _ _ _ 18 [some (.ref m), some (.int (bz (anyB (wideB S) (k + 1)))), some (.int (bz (anyB (lostB S) (k + 1)))), some (.int (bz (anyB (openB S) (k + 1)))), some (.int (nI (k + 1)))] [] h → _) (ih (k + 1) (by omega))
              clear ih
              rw [hc] at *
              (first | rw [show bz (anyB (wideB S) (k + 1)) = 1 from orA1 hb28] | rw [show bz (anyB (wideB S) (k + 1)) = 1 from orA2 (decide_eq_true hb38)] | rw [show bz (anyB (wideB S) (k + 1)) = 0 from orA0 hb28 (fun q => of_decide_eq_true q hb38)])
              (first | rw [show bz (anyB (lostB S) (k + 1)) = 1 from orA1 hb48] | rw [show bz (anyB (lostB S) (k + 1)) = 1 from orA2 (decide_eq_true hb57)] | rw [show bz (anyB (lostB S) (k + 1)) = 0 from orA0 hb48 (fun q => hb57 (of_decide_eq_true q))])
              (first | rw [show bz (anyB (openB S) (k + 1)) = 1 from orA1 hb67] | rw [show bz (anyB (openB S) (k + 1)) = 1 from orA2 (decide_eq_true ⟨hb76, hb85⟩)] | rw [show bz (anyB (openB S) (k + 1)) = 0 from orA0 hb67 (fun q => (of_decide_eq_true q).1 hb76)] | rw [show bz (anyB (openB S) (k + 1)) = 0 from orA0 hb67 (fun q => (of_decide_eq_true q).2 hb85)])
              exact fun e9 => e9
            · first | refine jm_aload_n d_M_state_70 rfl ?_ | refine jm_aload_nN d_M_state_70 rfl ?_
              refine jm_iload d_M_state_71 rfl ?_
              refine mr_callp (As := [_]) d_M_state_73 l_M_235 iw_M_isSettled ew_M_isSettled nv_M_isSettled rfl (Nat.le_of_ble_eq_true rfl) (by omega : 0 + 1 ≤ _) (k_M_isSettled hkn h8 hp) hm ?_
              first | refine jm_bz_ne 92 d_M_state_76 (by decide) (fun hb76 => ?_) (fun hb76 => ?_) | refine jm_if_ne 92 d_M_state_76 (by decide) (fun hb76 => ?_) (fun hb76 => ?_)
              · refine jm_iconstL (v := 0) d_M_state_92 (by decide) ?_
                refine jm_istore_n d_M_state_93 (Nat.le_of_ble_eq_true rfl) ?_
                refine jm_iincL (v := nI (k + 1)) d_M_state_94 rfl (by rw [nI_succ]; rfl) ?_
                refine jm_goto 18 d_M_state_97 (by decide) ?_
                refine (?_ : jm_W _ _ _ _ _ _ 18 [some (.ref m), some (.int (bz (anyB (wideB S) (k + 1)))), some (.int (bz (anyB (lostB S) (k + 1)))), some (.int (bz (anyB (openB S) (k + 1)))), some (.int (nI (k + 1)))] [] h → _) (ih (k + 1) (by omega))
                clear ih
                rw [hc] at *
                (first | rw [show bz (anyB (wideB S) (k + 1)) = 1 from orA1 hb28] | rw [show bz (anyB (wideB S) (k + 1)) = 1 from orA2 (decide_eq_true hb38)] | rw [show bz (anyB (wideB S) (k + 1)) = 0 from orA0 hb28 (fun q => of_decide_eq_true q hb38)])
                (first | rw [show bz (anyB (lostB S) (k + 1)) = 1 from orA1 hb48] | rw [show bz (anyB (lostB S) (k + 1)) = 1 from orA2 (decide_eq_true hb57)] | rw [show bz (anyB (lostB S) (k + 1)) = 0 from orA0 hb48 (fun q => hb57 (of_decide_eq_true q))])
                (first | rw [show bz (anyB (openB S) (k + 1)) = 1 from orA1 hb67] | rw [show bz (anyB (openB S) (k + 1)) = 1 from orA2 (decide_eq_true ⟨hb76, hb85⟩)] | rw [show bz (anyB (openB S) (k + 1)) = 0 from orA0 hb67 (fun q => (of_decide_eq_true q).1 hb76)] | rw [show bz (anyB (openB S) (k + 1)) = 0 from orA0 hb67 (fun q => (of_decide_eq_true q).2 hb85)])
                exact fun e9 => e9
              · first | refine jm_aload_n d_M_state_79 rfl ?_ | refine jm_aload_nN d_M_state_79 rfl ?_
                refine jm_iload d_M_state_80 rfl ?_
                refine mr_callp (As := [_]) d_M_state_82 l_M_232 iw_M_isLost ew_M_isLost nv_M_isLost rfl (Nat.le_of_ble_eq_true rfl) (by omega : 0 + 1 ≤ _) (k_M_isLost hs hkn h8 hp) hm ?_
                first | refine jm_bz_ne 92 d_M_state_85 (by decide) (fun hb85 => ?_) (fun hb85 => ?_) | refine jm_if_ne 92 d_M_state_85 (by decide) (fun hb85 => ?_) (fun hb85 => ?_)
                · refine jm_iconstL (v := 0) d_M_state_92 (by decide) ?_
                  refine jm_istore_n d_M_state_93 (Nat.le_of_ble_eq_true rfl) ?_
                  refine jm_iincL (v := nI (k + 1)) d_M_state_94 rfl (by rw [nI_succ]; rfl) ?_
                  refine jm_goto 18 d_M_state_97 (by decide) ?_
                  refine (?_ : jm_W _ _ _ _ _ _ 18 [some (.ref m), some (.int (bz (anyB (wideB S) (k + 1)))), some (.int (bz (anyB (lostB S) (k + 1)))), some (.int (bz (anyB (openB S) (k + 1)))), some (.int (nI (k + 1)))] [] h → _) (ih (k + 1) (by omega))
                  clear ih
                  rw [hc] at *
                  (first | rw [show bz (anyB (wideB S) (k + 1)) = 1 from orA1 hb28] | rw [show bz (anyB (wideB S) (k + 1)) = 1 from orA2 (decide_eq_true hb38)] | rw [show bz (anyB (wideB S) (k + 1)) = 0 from orA0 hb28 (fun q => of_decide_eq_true q hb38)])
                  (first | rw [show bz (anyB (lostB S) (k + 1)) = 1 from orA1 hb48] | rw [show bz (anyB (lostB S) (k + 1)) = 1 from orA2 (decide_eq_true hb57)] | rw [show bz (anyB (lostB S) (k + 1)) = 0 from orA0 hb48 (fun q => hb57 (of_decide_eq_true q))])
                  (first | rw [show bz (anyB (openB S) (k + 1)) = 1 from orA1 hb67] | rw [show bz (anyB (openB S) (k + 1)) = 1 from orA2 (decide_eq_true ⟨hb76, hb85⟩)] | rw [show bz (anyB (openB S) (k + 1)) = 0 from orA0 hb67 (fun q => (of_decide_eq_true q).1 hb76)] | rw [show bz (anyB (openB S) (k + 1)) = 0 from orA0 hb67 (fun q => (of_decide_eq_true q).2 hb85)])
                  exact fun e9 => e9
                · refine jm_iconstL (v := 1) d_M_state_88 (by decide) ?_
                  refine jm_goto 93 d_M_state_89 (by decide) ?_
                  refine jm_istore_n d_M_state_93 (Nat.le_of_ble_eq_true rfl) ?_
                  refine jm_iincL (v := nI (k + 1)) d_M_state_94 rfl (by rw [nI_succ]; rfl) ?_
                  refine jm_goto 18 d_M_state_97 (by decide) ?_
                  refine (?_ : jm_W _ _ _ _ _ _ 18 [some (.ref m), some (.int (bz (anyB (wideB S) (k + 1)))), some (.int (bz (anyB (lostB S) (k + 1)))), some (.int (bz (anyB (openB S) (k + 1)))), some (.int (nI (k + 1)))] [] h → _) (ih (k + 1) (by omega))
                  clear ih
                  rw [hc] at *
                  (first | rw [show bz (anyB (wideB S) (k + 1)) = 1 from orA1 hb28] | rw [show bz (anyB (wideB S) (k + 1)) = 1 from orA2 (decide_eq_true hb38)] | rw [show bz (anyB (wideB S) (k + 1)) = 0 from orA0 hb28 (fun q => of_decide_eq_true q hb38)])
                  (first | rw [show bz (anyB (lostB S) (k + 1)) = 1 from orA1 hb48] | rw [show bz (anyB (lostB S) (k + 1)) = 1 from orA2 (decide_eq_true hb57)] | rw [show bz (anyB (lostB S) (k + 1)) = 0 from orA0 hb48 (fun q => hb57 (of_decide_eq_true q))])
                  (first | rw [show bz (anyB (openB S) (k + 1)) = 1 from orA1 hb67] | rw [show bz (anyB (openB S) (k + 1)) = 1 from orA2 (decide_eq_true ⟨hb76, hb85⟩)] | rw [show bz (anyB (openB S) (k + 1)) = 0 from orA0 hb67 (fun q => (of_decide_eq_true q).1 hb76)] | rw [show bz (anyB (openB S) (k + 1)) = 0 from orA0 hb67 (fun q => (of_decide_eq_true q).2 hb85)])
                  exact fun e9 => e9
          · first | refine jm_aload_n d_M_state_51 rfl ?_ | refine jm_aload_nN d_M_state_51 rfl ?_
            refine jm_iload d_M_state_52 rfl ?_
            refine mr_callp (As := [_]) d_M_state_54 l_M_232 iw_M_isLost ew_M_isLost nv_M_isLost rfl (Nat.le_of_ble_eq_true rfl) (by omega : 0 + 1 ≤ _) (k_M_isLost hs hkn h8 hp) hm ?_
            first | refine jm_bz_eq 64 d_M_state_57 (by decide) (fun hb57 => ?_) (fun hb57 => ?_) | refine jm_if_eq 64 d_M_state_57 (by decide) (fun hb57 => ?_) (fun hb57 => ?_)
            · refine jm_iconstL (v := 0) d_M_state_64 (by decide) ?_
              refine jm_istore_n d_M_state_65 (Nat.le_of_ble_eq_true rfl) ?_
              refine jm_iload_n d_M_state_66 rfl ?_
              first | refine jm_bz_ne 88 d_M_state_67 (by decide) (fun hb67 => ?_) (fun hb67 => ?_) | refine jm_if_ne 88 d_M_state_67 (by decide) (fun hb67 => ?_) (fun hb67 => ?_)
              · refine jm_iconstL (v := 1) d_M_state_88 (by decide) ?_
                refine jm_goto 93 d_M_state_89 (by decide) ?_
                refine jm_istore_n d_M_state_93 (Nat.le_of_ble_eq_true rfl) ?_
                refine jm_iincL (v := nI (k + 1)) d_M_state_94 rfl (by rw [nI_succ]; rfl) ?_
                refine jm_goto 18 d_M_state_97 (by decide) ?_
                refine (?_ : jm_W _ _ _ _ _ _ 18 [some (.ref m), some (.int (bz (anyB (wideB S) (k + 1)))), some (.int (bz (anyB (lostB S) (k + 1)))), some (.int (bz (anyB (openB S) (k + 1)))), some (.int (nI (k + 1)))] [] h → _) (ih (k + 1) (by omega))
                clear ih
                rw [hc] at *
                (first | rw [show bz (anyB (wideB S) (k + 1)) = 1 from orA1 hb28] | rw [show bz (anyB (wideB S) (k + 1)) = 1 from orA2 (decide_eq_true hb38)] | rw [show bz (anyB (wideB S) (k + 1)) = 0 from orA0 hb28 (fun q => of_decide_eq_true q hb38)])
                (first | rw [show bz (anyB (lostB S) (k + 1)) = 1 from orA1 hb48] | rw [show bz (anyB (lostB S) (k + 1)) = 1 from orA2 (decide_eq_true hb57)] | rw [show bz (anyB (lostB S) (k + 1)) = 0 from orA0 hb48 (fun q => hb57 (of_decide_eq_true q))])
                (first | rw [show bz (anyB (openB S) (k + 1)) = 1 from orA1 hb67] | rw [show bz (anyB (openB S) (k + 1)) = 1 from orA2 (decide_eq_true ⟨hb76, hb85⟩)] | rw [show bz (anyB (openB S) (k + 1)) = 0 from orA0 hb67 (fun q => (of_decide_eq_true q).1 hb76)] | rw [show bz (anyB (openB S) (k + 1)) = 0 from orA0 hb67 (fun q => (of_decide_eq_true q).2 hb85)])
                exact fun e9 => e9
              · first | refine jm_aload_n d_M_state_70 rfl ?_ | refine jm_aload_nN d_M_state_70 rfl ?_
                refine jm_iload d_M_state_71 rfl ?_
                refine mr_callp (As := [_]) d_M_state_73 l_M_235 iw_M_isSettled ew_M_isSettled nv_M_isSettled rfl (Nat.le_of_ble_eq_true rfl) (by omega : 0 + 1 ≤ _) (k_M_isSettled hkn h8 hp) hm ?_
                first | refine jm_bz_ne 92 d_M_state_76 (by decide) (fun hb76 => ?_) (fun hb76 => ?_) | refine jm_if_ne 92 d_M_state_76 (by decide) (fun hb76 => ?_) (fun hb76 => ?_)
                · refine jm_iconstL (v := 0) d_M_state_92 (by decide) ?_
                  refine jm_istore_n d_M_state_93 (Nat.le_of_ble_eq_true rfl) ?_
                  refine jm_iincL (v := nI (k + 1)) d_M_state_94 rfl (by rw [nI_succ]; rfl) ?_
                  refine jm_goto 18 d_M_state_97 (by decide) ?_
                  refine (?_ : jm_W _ _ _ _ _ _ 18 [some (.ref m), some (.int (bz (anyB (wideB S) (k + 1)))), some (.int (bz (anyB (lostB S) (k + 1)))), some (.int (bz (anyB (openB S) (k + 1)))), some (.int (nI (k + 1)))] [] h → _) (ih (k + 1) (by omega))
                  clear ih
                  rw [hc] at *
                  (first | rw [show bz (anyB (wideB S) (k + 1)) = 1 from orA1 hb28] | rw [show bz (anyB (wideB S) (k + 1)) = 1 from orA2 (decide_eq_true hb38)] | rw [show bz (anyB (wideB S) (k + 1)) = 0 from orA0 hb28 (fun q => of_decide_eq_true q hb38)])
                  (first | rw [show bz (anyB (lostB S) (k + 1)) = 1 from orA1 hb48] | rw [show bz (anyB (lostB S) (k + 1)) = 1 from orA2 (decide_eq_true hb57)] | rw [show bz (anyB (lostB S) (k + 1)) = 0 from orA0 hb48 (fun q => hb57 (of_decide_eq_true q))])
                  (first | rw [show bz (anyB (openB S) (k + 1)) = 1 from orA1 hb67] | rw [show bz (anyB (openB S) (k + 1)) = 1 from orA2 (decide_eq_true ⟨hb76, hb85⟩)] | rw [show bz (anyB (openB S) (k + 1)) = 0 from orA0 hb67 (fun q => (of_decide_eq_true q).1 hb76)] | rw [show bz (anyB (openB S) (k + 1)) = 0 from orA0 hb67 (fun q => (of_decide_eq_true q).2 hb85)])
                  exact fun e9 => e9
                · first | refine jm_aload_n d_M_state_79 rfl ?_ | refine jm_aload_nN d_M_state_79 rfl ?_
                  refine jm_iload d_M_state_80 rfl ?_
                  refine mr_callp (As := [_]) d_M_state_82 l_M_232 iw_M_isLost ew_M_isLost nv_M_isLost rfl (Nat.le_of_ble_eq_true rfl) (by omega : 0 + 1 ≤ _) (k_M_isLost hs hkn h8 hp) hm ?_
                  first | refine jm_bz_ne 92 d_M_state_85 (by decide) (fun hb85 => ?_) (fun hb85 => ?_) | refine jm_if_ne 92 d_M_state_85 (by decide) (fun hb85 => ?_) (fun hb85 => ?_)
                  · refine jm_iconstL (v := 0) d_M_state_92 (by decide) ?_
                    refine jm_istore_n d_M_state_93 (Nat.le_of_ble_eq_true rfl) ?_
                    refine jm_iincL (v := nI (k + 1)) d_M_state_94 rfl (by rw [nI_succ]; rfl) ?_
                    refine jm_goto 18 d_M_state_97 (by decide) ?_
                    refine (?_ : jm_W _ _ _ _ _ _ 18 [some (.ref m), some (.int (bz (anyB (wideB S) (k + 1)))), some (.int (bz (anyB (lostB S) (k + 1)))), some (.int (bz (anyB (openB S) (k + 1)))), some (.int (nI (k + 1)))] [] h → _) (ih (k + 1) (by omega))
                    clear ih
                    rw [hc] at *
                    (first | rw [show bz (anyB (wideB S) (k + 1)) = 1 from orA1 hb28] | rw [show bz (anyB (wideB S) (k + 1)) = 1 from orA2 (decide_eq_true hb38)] | rw [show bz (anyB (wideB S) (k + 1)) = 0 from orA0 hb28 (fun q => of_decide_eq_true q hb38)])
                    (first | rw [show bz (anyB (lostB S) (k + 1)) = 1 from orA1 hb48] | rw [show bz (anyB (lostB S) (k + 1)) = 1 from orA2 (decide_eq_true hb57)] | rw [show bz (anyB (lostB S) (k + 1)) = 0 from orA0 hb48 (fun q => hb57 (of_decide_eq_true q))])
                    (first | rw [show bz (anyB (openB S) (k + 1)) = 1 from orA1 hb67] | rw [show bz (anyB (openB S) (k + 1)) = 1 from orA2 (decide_eq_true ⟨hb76, hb85⟩)] | rw [show bz (anyB (openB S) (k + 1)) = 0 from orA0 hb67 (fun q => (of_decide_eq_true q).1 hb76)] | rw [show bz (anyB (openB S) (k + 1)) = 0 from orA0 hb67 (fun q => (of_decide_eq_true q).2 hb85)])
                    exact fun e9 => e9
                  · refine jm_iconstL (v := 1) d_M_state_88 (by decide) ?_
                    refine jm_goto 93 d_M_state_89 (by decide) ?_
                    refine jm_istore_n d_M_state_93 (Nat.le_of_ble_eq_true rfl) ?_
                    refine jm_iincL (v := nI (k + 1)) d_M_state_94 rfl (by rw [nI_succ]; rfl) ?_
                    refine jm_goto 18 d_M_state_97 (by decide) ?_
                    refine (?_ : jm_W _ _ _ _ _ _ 18 [some (.ref m), some (.int (bz (anyB (wideB S) (k + 1)))), some (.int (bz (anyB (lostB S) (k + 1)))), some (.int (bz (anyB (openB S) (k + 1)))), some (.int (nI (k + 1)))] [] h → _) (ih (k + 1) (by omega))
                    clear ih
                    rw [hc] at *
                    (first | rw [show bz (anyB (wideB S) (k + 1)) = 1 from orA1 hb28] | rw [show bz (anyB (wideB S) (k + 1)) = 1 from orA2 (decide_eq_true hb38)] | rw [show bz (anyB (wideB S) (k + 1)) = 0 from orA0 hb28 (fun q => of_decide_eq_true q hb38)])
                    (first | rw [show bz (anyB (lostB S) (k + 1)) = 1 from orA1 hb48] | rw [show bz (anyB (lostB S) (k + 1)) = 1 from orA2 (decide_eq_true hb57)] | rw [show bz (anyB (lostB S) (k + 1)) = 0 from orA0 hb48 (fun q => hb57 (of_decide_eq_true q))])
                    (first | rw [show bz (anyB (openB S) (k + 1)) = 1 from orA1 hb67] | rw [show bz (anyB (openB S) (k + 1)) = 1 from orA2 (decide_eq_true ⟨hb76, hb85⟩)] | rw [show bz (anyB (openB S) (k + 1)) = 0 from orA0 hb67 (fun q => (of_decide_eq_true q).1 hb76)] | rw [show bz (anyB (openB S) (k + 1)) = 0 from orA0 hb67 (fun q => (of_decide_eq_true q).2 hb85)])
                    exact fun e9 => e9
            · refine jm_iconstL (v := 1) d_M_state_60 (by decide) ?_
              refine jm_goto 65 d_M_state_61 (by decide) ?_
              refine jm_istore_n d_M_state_65 (Nat.le_of_ble_eq_true rfl) ?_
              refine jm_iload_n d_M_state_66 rfl ?_
              first | refine jm_bz_ne 88 d_M_state_67 (by decide) (fun hb67 => ?_) (fun hb67 => ?_) | refine jm_if_ne 88 d_M_state_67 (by decide) (fun hb67 => ?_) (fun hb67 => ?_)
              · refine jm_iconstL (v := 1) d_M_state_88 (by decide) ?_
                refine jm_goto 93 d_M_state_89 (by decide) ?_
                refine jm_istore_n d_M_state_93 (Nat.le_of_ble_eq_true rfl) ?_
                refine jm_iincL (v := nI (k + 1)) d_M_state_94 rfl (by rw [nI_succ]; rfl) ?_
                refine jm_goto 18 d_M_state_97 (by decide) ?_
                refine (?_ : jm_W _ _ _ _ _ _ 18 [some (.ref m), some (.int (bz (anyB (wideB S) (k + 1)))), some (.int (bz (anyB (lostB S) (k + 1)))), some (.int (bz (anyB (openB S) (k + 1)))), some (.int (nI (k + 1)))] [] h → _) (ih (k + 1) (by omega))
                clear ih
                rw [hc] at *
                (first | rw [show bz (anyB (wideB S) (k + 1)) = 1 from orA1 hb28] | rw [show bz (anyB (wideB S) (k + 1)) = 1 from orA2 (decide_eq_true hb38)] | rw [show bz (anyB (wideB S) (k + 1)) = 0 from orA0 hb28 (fun q => of_decide_eq_true q hb38)])
                (first | rw [show bz (anyB (lostB S) (k + 1)) = 1 from orA1 hb48] | rw [show bz (anyB (lostB S) (k + 1)) = 1 from orA2 (decide_eq_true hb57)] | rw [show bz (anyB (lostB S) (k + 1)) = 0 from orA0 hb48 (fun q => hb57 (of_decide_eq_true q))])
                (first | rw [show bz (anyB (openB S) (k + 1)) = 1 from orA1 hb67] | rw [show bz (anyB (openB S) (k + 1)) = 1 from orA2 (decide_eq_true ⟨hb76, hb85⟩)] | rw [show bz (anyB (openB S) (k + 1)) = 0 from orA0 hb67 (fun q => (of_decide_eq_true q).1 hb76)] | rw [show bz (anyB (openB S) (k + 1)) = 0 from orA0 hb67 (fun q => (of_decide_eq_true q).2 hb85)])
                exact fun e9 => e9
              · first | refine jm_aload_n d_M_state_70 rfl ?_ | refine jm_aload_nN d_M_state_70 rfl ?_
                refine jm_iload d_M_state_71 rfl ?_
                refine mr_callp (As := [_]) d_M_state_73 l_M_235 iw_M_isSettled ew_M_isSettled nv_M_isSettled rfl (Nat.le_of_ble_eq_true rfl) (by omega : 0 + 1 ≤ _) (k_M_isSettled hkn h8 hp) hm ?_
                first | refine jm_bz_ne 92 d_M_state_76 (by decide) (fun hb76 => ?_) (fun hb76 => ?_) | refine jm_if_ne 92 d_M_state_76 (by decide) (fun hb76 => ?_) (fun hb76 => ?_)
                · refine jm_iconstL (v := 0) d_M_state_92 (by decide) ?_
                  refine jm_istore_n d_M_state_93 (Nat.le_of_ble_eq_true rfl) ?_
                  refine jm_iincL (v := nI (k + 1)) d_M_state_94 rfl (by rw [nI_succ]; rfl) ?_
                  refine jm_goto 18 d_M_state_97 (by decide) ?_
                  refine (?_ : jm_W _ _ _ _ _ _ 18 [some (.ref m), some (.int (bz (anyB (wideB S) (k + 1)))), some (.int (bz (anyB (lostB S) (k + 1)))), some (.int (bz (anyB (openB S) (k + 1)))), some (.int (nI (k + 1)))] [] h → _) (ih (k + 1) (by omega))
                  clear ih
                  rw [hc] at *
                  (first | rw [show bz (anyB (wideB S) (k + 1)) = 1 from orA1 hb28] | rw [show bz (anyB (wideB S) (k + 1)) = 1 from orA2 (decide_eq_true hb38)] | rw [show bz (anyB (wideB S) (k + 1)) = 0 from orA0 hb28 (fun q => of_decide_eq_true q hb38)])
                  (first | rw [show bz (anyB (lostB S) (k + 1)) = 1 from orA1 hb48] | rw [show bz (anyB (lostB S) (k + 1)) = 1 from orA2 (decide_eq_true hb57)] | rw [show bz (anyB (lostB S) (k + 1)) = 0 from orA0 hb48 (fun q => hb57 (of_decide_eq_true q))])
                  (first | rw [show bz (anyB (openB S) (k + 1)) = 1 from orA1 hb67] | rw [show bz (anyB (openB S) (k + 1)) = 1 from orA2 (decide_eq_true ⟨hb76, hb85⟩)] | rw [show bz (anyB (openB S) (k + 1)) = 0 from orA0 hb67 (fun q => (of_decide_eq_true q).1 hb76)] | rw [show bz (anyB (openB S) (k + 1)) = 0 from orA0 hb67 (fun q => (of_decide_eq_true q).2 hb85)])
                  exact fun e9 => e9
                · first | refine jm_aload_n d_M_state_79 rfl ?_ | refine jm_aload_nN d_M_state_79 rfl ?_
                  refine jm_iload d_M_state_80 rfl ?_
                  refine mr_callp (As := [_]) d_M_state_82 l_M_232 iw_M_isLost ew_M_isLost nv_M_isLost rfl (Nat.le_of_ble_eq_true rfl) (by omega : 0 + 1 ≤ _) (k_M_isLost hs hkn h8 hp) hm ?_
                  first | refine jm_bz_ne 92 d_M_state_85 (by decide) (fun hb85 => ?_) (fun hb85 => ?_) | refine jm_if_ne 92 d_M_state_85 (by decide) (fun hb85 => ?_) (fun hb85 => ?_)
                  · refine jm_iconstL (v := 0) d_M_state_92 (by decide) ?_
                    refine jm_istore_n d_M_state_93 (Nat.le_of_ble_eq_true rfl) ?_
                    refine jm_iincL (v := nI (k + 1)) d_M_state_94 rfl (by rw [nI_succ]; rfl) ?_
                    refine jm_goto 18 d_M_state_97 (by decide) ?_
                    refine (?_ : jm_W _ _ _ _ _ _ 18 [some (.ref m), some (.int (bz (anyB (wideB S) (k + 1)))), some (.int (bz (anyB (lostB S) (k + 1)))), some (.int (bz (anyB (openB S) (k + 1)))), some (.int (nI (k + 1)))] [] h → _) (ih (k + 1) (by omega))
                    clear ih
                    rw [hc] at *
                    (first | rw [show bz (anyB (wideB S) (k + 1)) = 1 from orA1 hb28] | rw [show bz (anyB (wideB S) (k + 1)) = 1 from orA2 (decide_eq_true hb38)] | rw [show bz (anyB (wideB S) (k + 1)) = 0 from orA0 hb28 (fun q => of_decide_eq_true q hb38)])
                    (first | rw [show bz (anyB (lostB S) (k + 1)) = 1 from orA1 hb48] | rw [show bz (anyB (lostB S) (k + 1)) = 1 from orA2 (decide_eq_true hb57)] | rw [show bz (anyB (lostB S) (k + 1)) = 0 from orA0 hb48 (fun q => hb57 (of_decide_eq_true q))])
                    (first | rw [show bz (anyB (openB S) (k + 1)) = 1 from orA1 hb67] | rw [show bz (anyB (openB S) (k + 1)) = 1 from orA2 (decide_eq_true ⟨hb76, hb85⟩)] | rw [show bz (anyB (openB S) (k + 1)) = 0 from orA0 hb67 (fun q => (of_decide_eq_true q).1 hb76)] | rw [show bz (anyB (openB S) (k + 1)) = 0 from orA0 hb67 (fun q => (of_decide_eq_true q).2 hb85)])
                    exact fun e9 => e9
                  · refine jm_iconstL (v := 1) d_M_state_88 (by decide) ?_
                    refine jm_goto 93 d_M_state_89 (by decide) ?_
                    refine jm_istore_n d_M_state_93 (Nat.le_of_ble_eq_true rfl) ?_
                    refine jm_iincL (v := nI (k + 1)) d_M_state_94 rfl (by rw [nI_succ]; rfl) ?_
                    refine jm_goto 18 d_M_state_97 (by decide) ?_
                    refine (?_ : jm_W _ _ _ _ _ _ 18 [some (.ref m), some (.int (bz (anyB (wideB S) (k + 1)))), some (.int (bz (anyB (lostB S) (k + 1)))), some (.int (bz (anyB (openB S) (k + 1)))), some (.int (nI (k + 1)))] [] h → _) (ih (k + 1) (by omega))
                    clear ih
                    rw [hc] at *
                    (first | rw [show bz (anyB (wideB S) (k + 1)) = 1 from orA1 hb28] | rw [show bz (anyB (wideB S) (k + 1)) = 1 from orA2 (decide_eq_true hb38)] | rw [show bz (anyB (wideB S) (k + 1)) = 0 from orA0 hb28 (fun q => of_decide_eq_true q hb38)])
                    (first | rw [show bz (anyB (lostB S) (k + 1)) = 1 from orA1 hb48] | rw [show bz (anyB (lostB S) (k + 1)) = 1 from orA2 (decide_eq_true hb57)] | rw [show bz (anyB (lostB S) (k + 1)) = 0 from orA0 hb48 (fun q => hb57 (of_decide_eq_true q))])
                    (first | rw [show bz (anyB (openB S) (k + 1)) = 1 from orA1 hb67] | rw [show bz (anyB (openB S) (k + 1)) = 1 from orA2 (decide_eq_true ⟨hb76, hb85⟩)] | rw [show bz (anyB (openB S) (k + 1)) = 0 from orA0 hb67 (fun q => (of_decide_eq_true q).1 hb76)] | rw [show bz (anyB (openB S) (k + 1)) = 0 from orA0 hb67 (fun q => (of_decide_eq_true q).2 hb85)])
                    exact fun e9 => e9
theorem k_M_state {n : Nat} (hd : 1 ≤ d) (hn : S 1 0 = nI n) (h8 : n ≤ 8) (hp : ptOK S n) : mA Γ m_M_state d m ar [] S (some (.int (stF S n))) := by
  intro h hm
  refine jm_entry (by decide +kernel) (List.forall_mem_cons.mpr ⟨rfl, fun _ h => nomatch h⟩) (Nat.le_of_ble_eq_true rfl) ?_
  show jm_W _ _ _ _ _ _ 0 [some (.ref m), none, none, none, none] [] _
  first | refine jm_aload_n d_M_state_0 rfl ?_ | refine jm_aload_nN d_M_state_0 rfl ?_
  refine mr_geti d_M_state_1 f_M_135 hm (by decide) rfl ?_
  first | refine jm_bz_ne 9 d_M_state_4 (by decide) (fun hb4 => ?_) (fun hb4 => ?_) | refine jm_if_ne 9 d_M_state_4 (by decide) (fun hb4 => ?_) (fun hb4 => ?_)
  · refine jm_iconstL (v := 0) d_M_state_9 (by decide) ?_
    refine jm_istore_n d_M_state_10 (Nat.le_of_ble_eq_true rfl) ?_
    refine jm_iconstL (v := 0) d_M_state_11 (by decide) ?_
    refine jm_istore_n d_M_state_12 (Nat.le_of_ble_eq_true rfl) ?_
    refine jm_iconstL (v := 0) d_M_state_13 (by decide) ?_
    refine jm_istore_n d_M_state_14 (Nat.le_of_ble_eq_true rfl) ?_
    refine jm_iconstL (v := 0) d_M_state_15 (by decide) ?_
    refine jm_istore d_M_state_16 (Nat.le_of_ble_eq_true rfl) ?_
    exact lp_M_state hd hn h8 hb4 hp hm n 0 (by omega)
  · refine jm_iconstL (v := 0) d_M_state_7 (by decide) ?_
    exact jm_iret d_M_state_8 rfl ⟨rfl, by rw [stF, if_pos (Decidable.not_not.mp (fun q => hb4 q))]⟩
end
end
section
/-! THE REFERENCE: done, value, total, told. Written by wip/whole/gen/p26.py -/
section
variable {Γ : jm_G} {d m : Nat} {ar : Nat → Nat} {S : mS} {h : jm_H}
theorem stF_mu {n : Nat} {t : Int32} : stF (mu S 0 0 t) n = stF S n := rfl
theorem ptOK_mu {n : Nat} {t : Int32} (h : ptOK S n) : ptOK (mu S 0 0 t) n := h
theorem k_M_done (hd : 2 ≤ d) {n : Nat} (hn : S 1 0 = nI n) (h8 : n ≤ 8) (hp : ptOK S n) : mM Γ m_M_done d m ar [] S (fun v9 S' => S' = mu S 0 0 0 ∧ v9 = some (.int (stF S n))) := by
  intro h hm
  have hf : mo_fr m ar h h := mo_fr.rf
  refine jm_entry (by decide +kernel) (List.forall_mem_cons.mpr ⟨rfl, fun _ h => nomatch h⟩) (Nat.le_of_ble_eq_true rfl) ?_
  show jm_W _ _ _ _ _ _ 0 [some (.ref m)] [] _
  first | refine jm_aload_n d_M_done_0 rfl ?_ | refine jm_aload_nN d_M_done_0 rfl ?_
  refine jm_iconstL (v := 0) d_M_done_1 (by decide) ?_
  refine mr_puti d_M_done_2 f_M_116 hm hf (by decide) rfl (fun h hm hf => ?_)
  first | refine jm_aload_n d_M_done_5 rfl ?_ | refine jm_aload_nN d_M_done_5 rfl ?_
  refine mr_callp (As := []) d_M_done_6 l_M_238 iw_M_state ew_M_state nv_M_state rfl (Nat.le_of_ble_eq_true rfl) (by omega : 1 + 1 ≤ _) (k_M_state (S := mu S 0 0 0) (by omega) hn h8 hp) hm ?_
  exact jm_iret d_M_done_9 rfl ⟨_, _, rfl, ⟨rfl, rfl⟩, hm, hf⟩
theorem k_M_value (hd : 2 ≤ d) {n : Nat} (hn : S 1 0 = nI n) (h8 : n ≤ 8) (hp : ptOK S n) (a : Int32) : mM Γ m_M_value d m ar [.int a] S (fun v9 S' => S' = mu S 0 0 0 ∧ v9 = some (.int (if isAgentS S a ∧ setS S a.toNatClampNeg then S 30 a.toNatClampNeg else -1))) := by
  intro h hm
  have hf : mo_fr m ar h h := mo_fr.rf
  refine jm_entry (by decide +kernel) (List.forall_mem_cons.mpr ⟨rfl, List.forall_mem_cons.mpr ⟨rfl, fun _ h => nomatch h⟩⟩) (Nat.le_of_ble_eq_true rfl) ?_
  show jm_W _ _ _ _ _ _ 0 [some (.ref m), some (.int a)] [] _
  first | refine jm_aload_n d_M_value_0 rfl ?_ | refine jm_aload_nN d_M_value_0 rfl ?_
  refine jm_iconstL (v := 0) d_M_value_1 (by decide) ?_
  refine mr_puti d_M_value_2 f_M_116 hm hf (by decide) rfl (fun h hm hf => ?_)
  first | refine jm_aload_n d_M_value_5 rfl ?_ | refine jm_aload_nN d_M_value_5 rfl ?_
  refine jm_iload_n d_M_value_6 rfl ?_
  refine mr_callp (As := [_]) d_M_value_7 l_M_131 iw_M_isAgent ew_M_isAgent nv_M_isAgent rfl (Nat.le_of_ble_eq_true rfl) (by omega : 1 + 1 ≤ _) (k_M_isAgent (by omega) _) hm ?_
  first | refine jm_bz_eq 30 d_M_value_10 (by decide) (fun hb10 => ?_) (fun hb10 => ?_) | refine jm_if_eq 30 d_M_value_10 (by decide) (fun hb10 => ?_) (fun hb10 => ?_)
  · refine jm_iconstL (v := -1) d_M_value_30 (by decide) ?_
    exact jm_iret d_M_value_31 rfl ⟨_, _, rfl, ⟨rfl, by rw [if_neg (fun q : isAgentS S a ∧ setS S a.toNatClampNeg => hb10 q.1)]⟩, hm, hf⟩
  · obtain ⟨k, hk, rfl⟩ := ag_ix (S := mu S 0 0 0) hn h8 hb10
    first | refine jm_aload_n d_M_value_13 rfl ?_ | refine jm_aload_nN d_M_value_13 rfl ?_
    refine jm_iload_n d_M_value_14 rfl ?_
    refine mr_callp (As := [_]) d_M_value_15 l_M_235 iw_M_isSettled ew_M_isSettled nv_M_isSettled rfl (Nat.le_of_ble_eq_true rfl) (by omega : 0 + 1 ≤ _) (k_M_isSettled (S := mu S 0 0 0) hk h8 hp) hm ?_
    first | refine jm_bz_eq 30 d_M_value_18 (by decide) (fun hb18 => ?_) (fun hb18 => ?_) | refine jm_if_eq 30 d_M_value_18 (by decide) (fun hb18 => ?_) (fun hb18 => ?_)
    · refine jm_iconstL (v := (-1)) d_M_value_30 (by decide) ?_
      exact jm_iret d_M_value_31 rfl ⟨_, _, rfl, ⟨rfl, by rw [nI_clamp (show k < 2 ^ 31 by omega)]; first | rw [if_neg (fun q : isAgentS S (nI k) ∧ setS S k => hb18 q.2)] | rw [if_pos (⟨hb10, hb18⟩ : isAgentS S (nI k) ∧ setS S k)]; rfl⟩, hm, hf⟩
    · first | refine jm_aload_n d_M_value_21 rfl ?_ | refine jm_aload_nN d_M_value_21 rfl ?_
      refine mr_geta d_M_value_22 f_M_86 hm (by decide) (by decide) ?_
      refine jm_iload_n d_M_value_25 rfl ?_
      refine mr_ld _ d_M_value_26 hm (by decide) (by decide) rfl (b8 (by omega)) ?_
      refine jm_goto 31 d_M_value_27 (by decide) ?_
      exact jm_iret d_M_value_31 rfl ⟨_, _, rfl, ⟨rfl, by rw [nI_clamp (show k < 2 ^ 31 by omega)]; first | rw [if_neg (fun q : isAgentS S (nI k) ∧ setS S k => hb18 q.2)] | rw [if_pos (⟨hb10, hb18⟩ : isAgentS S (nI k) ∧ setS S k)]; rfl⟩, hm, hf⟩
/-- the sum of the roots' first entries, of the agents below k -/
def sumF (S : mS) : Nat → Int32
  | 0 => 0
  | k + 1 => if S 11 (S 10 k).toNatClampNeg = nI k then sumF S k + S 26 (256 * k) else sumF S k
theorem lp_M_total {rc rs n : Nat} (hn : S 1 0 = nI n) (h8 : n ≤ 8) (hs : S 2 0 ≠ 0) (hp : ptOK S n) (hm : mo h m ar S) {Q : jm_O → jm_H → Prop} (hQ : Q (.inl (some (.int (sumF S n)))) h) : ∀ j k, k + j = n → jm_W Γ m_M_total d rc rs Q 19 [some (.ref m), some (.int (sumF S k)), some (.int (nI k))] [] h := by
  intro j
  induction j with
  | zero =>
    intro k hk
    have hk' : k = n := by omega
    subst hk'
    refine jm_iload_n d_M_total_19 rfl ?_
    first | refine jm_aload_n d_M_total_20 rfl ?_ | refine jm_aload_nN d_M_total_20 rfl ?_
    refine mr_geti d_M_total_21 f_M_124 hm (by decide) rfl ?_
    refine jm_icmp_ge 65 d_M_total_24 (by decide) (fun hb24 => ?_) (fun hb24 => ?_)
    · refine jm_iload_n d_M_total_65 rfl ?_
      exact jm_iret d_M_total_66 rfl hQ
    · exact absurd (by rw [hn]; exact nI_le (by omega) (by omega)) hb24
  | succ j ih =>
    intro k hk
    have hkn : k < n := by omega
    have hc := nI_clamp (show k < 2 ^ 31 by omega)
    have e256 : (256 : Int32) * nI k = nI (256 * k) := by rw [show (256 : Int32) = nI 256 from rfl, pk_mul]
    refine jm_iload_n d_M_total_19 rfl ?_
    first | refine jm_aload_n d_M_total_20 rfl ?_ | refine jm_aload_nN d_M_total_20 rfl ?_
    refine mr_geti d_M_total_21 f_M_124 hm (by decide) rfl ?_
    refine jm_icmp_ge 65 d_M_total_24 (by decide) (fun hb24 => ?_) (fun hb24 => ?_)
    · rw [hn] at hb24; exact absurd hb24 (nI_ge (by omega) (by omega))
    · first | refine jm_aload_n d_M_total_27 rfl ?_ | refine jm_aload_nN d_M_total_27 rfl ?_
      refine mr_geta d_M_total_28 f_M_31 hm (by decide) (by decide) ?_
      first | refine jm_aload_n d_M_total_31 rfl ?_ | refine jm_aload_nN d_M_total_31 rfl ?_
      refine mr_geta d_M_total_32 f_M_28 hm (by decide) (by decide) ?_
      refine jm_iload_n d_M_total_35 rfl ?_
      refine mr_ld _ d_M_total_36 hm (by decide) (by decide) rfl (b8 (by omega)) ?_
      refine mr_ld _ d_M_total_37 hm (by decide) (by decide) rfl (by obtain ⟨q, r, q1, q2, q3, q4⟩ := hp hs k hkn; rw [hc, q3]; exact b8 q1) ?_
      refine jm_iload_n d_M_total_38 rfl ?_
      refine jm_icmp_ne 57 d_M_total_39 (by decide) (fun hb39 => ?_) (fun hb39 => ?_)
      · refine jm_iload_n d_M_total_57 rfl ?_
        refine jm_istore_n d_M_total_58 (Nat.le_of_ble_eq_true rfl) ?_
        refine jm_iincL (v := nI (k + 1)) d_M_total_59 rfl (by rw [nI_succ]; rfl) ?_
        refine jm_goto 19 d_M_total_62 (by decide) ?_
        have e9 := ih (k + 1) (by omega)
        rw [hc] at hb39
        first | rw [show sumF S (k + 1) = sumF S k from if_neg hb39] at e9 | rw [show sumF S (k + 1) = sumF S k + S 26 (256 * k) from if_pos (Decidable.not_not.mp hb39)] at e9
        exact e9
      · refine jm_iload_n d_M_total_42 rfl ?_
        first | refine jm_aload_n d_M_total_43 rfl ?_ | refine jm_aload_nN d_M_total_43 rfl ?_
        refine mr_geta d_M_total_44 f_M_77 hm (by decide) (by decide) ?_
        refine jm_sipushL (v := 256) d_M_total_47 (by decide) ?_
        refine jm_iload_n d_M_total_50 rfl ?_
        refine jm_imul d_M_total_51 ?_
        rw [e256]
        refine mr_ld _ d_M_total_52 hm (by decide) (by decide) rfl (vp_in_nI (by show 256 * k < 4096; omega) (by decide)) ?_
        rw [nI_clamp (show 256 * k < 2 ^ 31 by omega)]
        refine jm_iadd d_M_total_53 ?_
        refine jm_goto 58 d_M_total_54 (by decide) ?_
        refine jm_istore_n d_M_total_58 (Nat.le_of_ble_eq_true rfl) ?_
        refine jm_iincL (v := nI (k + 1)) d_M_total_59 rfl (by rw [nI_succ]; rfl) ?_
        refine jm_goto 19 d_M_total_62 (by decide) ?_
        have e9 := ih (k + 1) (by omega)
        rw [hc] at hb39
        first | rw [show sumF S (k + 1) = sumF S k from if_neg hb39] at e9 | rw [show sumF S (k + 1) = sumF S k + S 26 (256 * k) from if_pos (Decidable.not_not.mp hb39)] at e9
        exact e9
theorem sumF_mu {t : Int32} : ∀ n, sumF (mu S 0 0 t) n = sumF S n
  | 0 => rfl
  | n + 1 => by
    show (if mu S 0 0 t 11 (mu S 0 0 t 10 n).toNatClampNeg = nI n then sumF (mu S 0 0 t) n + mu S 0 0 t 26 (256 * n) else sumF (mu S 0 0 t) n) = _
    rw [sumF_mu n]
    rfl
theorem k_M_total (hd : 2 ≤ d) {n : Nat} (hn : S 1 0 = nI n) (h8 : n ≤ 8) (hp : ptOK S n) : mM Γ m_M_total d m ar [] S (fun v9 S' => S' = mu S 0 0 0 ∧ v9 = some (.int (if stF S n = 1 then sumF S n else -1))) := by
  intro h hm
  have hf : mo_fr m ar h h := mo_fr.rf
  refine jm_entry (by decide +kernel) (List.forall_mem_cons.mpr ⟨rfl, fun _ h => nomatch h⟩) (Nat.le_of_ble_eq_true rfl) ?_
  show jm_W _ _ _ _ _ _ 0 [some (.ref m), none, none] [] _
  first | refine jm_aload_n d_M_total_0 rfl ?_ | refine jm_aload_nN d_M_total_0 rfl ?_
  refine jm_iconstL (v := 0) d_M_total_1 (by decide) ?_
  refine mr_puti d_M_total_2 f_M_116 hm hf (by decide) rfl (fun h hm hf => ?_)
  first | refine jm_aload_n d_M_total_5 rfl ?_ | refine jm_aload_nN d_M_total_5 rfl ?_
  refine mr_callp (As := []) d_M_total_6 l_M_238 iw_M_state ew_M_state nv_M_state rfl (Nat.le_of_ble_eq_true rfl) (by omega : 1 + 1 ≤ _) (k_M_state (S := mu S 0 0 0) (by omega) hn h8 hp) hm ?_
  refine jm_iconstL (v := 1) d_M_total_9 (by decide) ?_
  refine jm_icmp_eq 15 d_M_total_10 (by decide) (fun hb10 => ?_) (fun hb10 => ?_)
  · refine jm_iconstL (v := 0) d_M_total_15 (by decide) ?_
    refine jm_istore_n d_M_total_16 (Nat.le_of_ble_eq_true rfl) ?_
    refine jm_iconstL (v := 0) d_M_total_17 (by decide) ?_
    refine jm_istore_n d_M_total_18 (Nat.le_of_ble_eq_true rfl) ?_
    have hs : S 2 0 ≠ 0 := fun q => by rw [show stF (mu S 0 0 0) n = 0 from if_pos q] at hb10; exact absurd hb10 (by decide)
    exact lp_M_total (S := mu S 0 0 0) hn h8 hs hp hm ⟨_, _, rfl, ⟨rfl, by rw [if_pos (show stF S n = 1 from hb10), sumF_mu]⟩, hm, hf⟩ n 0 (by omega)
  · refine jm_iconstL (v := -1) d_M_total_13 (by decide) ?_
    exact jm_iret d_M_total_14 rfl ⟨_, _, rfl, ⟨rfl, by rw [if_neg (show ¬ stF S n = 1 from hb10)]⟩, hm, hf⟩
/-- a letter's content, asked -/
def entF (S : mS) (k : Nat) (x : Int32) : Int32 :=
  if x < 10 ∨ ¬ 2 ≤ S 35 k then -1 else if S 35 k = 3 then (if 18 ≤ x then -1 else S 41 (256 * k + x.toNatClampNeg - 10))
  else if ¬ x - 10 < S 39 k then -1 else if S 41 (256 * k + x.toNatClampNeg - 10) = 1048576 then -2 else S 41 (256 * k + x.toNatClampNeg - 10)
theorem e_ix {k : Nat} {x : Int32} (hk : k < 21) (h10 : ¬ x < 10) (h266 : x < 266) : ∃ y, y < 256 ∧ (256 : Int32) * nI k + x - 10 = nI (256 * k + y) ∧ x.toNatClampNeg = y + 10 ∧ x = nI (y + 10) := by
  obtain ⟨z, hz, rfl⟩ := nI_of (x := x) (fun q => h10 (by simp only [Int32.lt_iff_toInt_lt, Int32.reduceToInt] at *; omega))
  rw [Int32.lt_iff_toInt_lt, nI_toInt hz] at h10 h266
  simp only [Int32.reduceToInt] at h10 h266
  refine ⟨z - 10, by omega, ?_, by rw [nI_clamp hz]; omega, by congr 1; omega⟩
  rw [show (256 : Int32) = nI 256 from rfl, pk_mul, nI_add, show (10 : Int32) = nI 10 from rfl, pk_sub (by omega)]
  congr 1
  omega
theorem k_M_entryOf {k : Nat} (hk : k < 20) (x : Int32) (hmx : 2 ≤ S 35 k → x - 10 < S 39 k → x < 266) : mA Γ m_M_entryOf d m ar [.int (nI k), .int x] S (some (.int (entF S k x))) := by
  intro h hm
  have hc := nI_clamp (show k < 2 ^ 31 by omega)
  refine jm_entry (by decide +kernel) (List.forall_mem_cons.mpr ⟨rfl, List.forall_mem_cons.mpr ⟨rfl, List.forall_mem_cons.mpr ⟨rfl, fun _ h => nomatch h⟩⟩⟩) (Nat.le_of_ble_eq_true rfl) ?_
  show jm_W _ _ _ _ _ _ 0 [some (.ref m), some (.int (nI k)), some (.int x), none] [] _
  refine jm_iload_n d_M_entryOf_0 rfl ?_
  refine jm_bipushL (v := 10) d_M_entryOf_1 (by decide) ?_
  refine jm_icmp_lt 16 d_M_entryOf_3 (by decide) (fun hb3 => ?_) (fun hb3 => ?_)
  · refine jm_iconstL (v := (-1)) d_M_entryOf_16 (by decide) ?_
    exact jm_iret d_M_entryOf_17 rfl ⟨rfl, by first | rw [entF, if_pos (Or.inl hb3)] | rw [entF, if_pos (Or.inr hb13)] | rw [entF, if_neg (fun q => q.elim hb3 (fun z => z hb13)), if_pos (Decidable.not_not.mp hb25), if_pos hb31] | rw [entF, if_neg (fun q => q.elim hb3 (fun z => z hb13)), if_pos (Decidable.not_not.mp hb25), if_neg hb31, y5] | rw [entF, if_neg (fun q => q.elim hb3 (fun z => z hb13)), if_neg hb25, if_pos hb64] | rw [entF, if_neg (fun q => q.elim hb3 (fun z => z hb13)), if_neg hb25, if_neg (fun q => q hb64), y5, if_neg hb88] | rw [entF, if_neg (fun q => q.elim hb3 (fun z => z hb13)), if_neg hb25, if_neg (fun q => q hb64), y5, if_pos (Decidable.not_not.mp hb88)]⟩
  · first | refine jm_aload_n d_M_entryOf_6 rfl ?_ | refine jm_aload_nN d_M_entryOf_6 rfl ?_
    refine mr_geta d_M_entryOf_7 f_M_95 hm (by decide) (by decide) ?_
    refine jm_iload_n d_M_entryOf_10 rfl ?_
    refine mr_ld _ d_M_entryOf_11 hm (by decide) (by decide) rfl (vp_in_nI (by show k < 21; omega) (by decide)) ?_
    rw [hc]
    refine jm_iconstL (v := 2) d_M_entryOf_12 (by decide) ?_
    refine jm_icmp_ge 18 d_M_entryOf_13 (by decide) (fun hb13 => ?_) (fun hb13 => ?_)
    · first | refine jm_aload_n d_M_entryOf_18 rfl ?_ | refine jm_aload_nN d_M_entryOf_18 rfl ?_
      refine mr_geta d_M_entryOf_19 f_M_95 hm (by decide) (by decide) ?_
      refine jm_iload_n d_M_entryOf_22 rfl ?_
      refine mr_ld _ d_M_entryOf_23 hm (by decide) (by decide) rfl (vp_in_nI (by show k < 21; omega) (by decide)) ?_
      rw [hc]
      refine jm_iconstL (v := 3) d_M_entryOf_24 (by decide) ?_
      refine jm_icmp_ne 54 d_M_entryOf_25 (by decide) (fun hb25 => ?_) (fun hb25 => ?_)
      · refine jm_iload_n d_M_entryOf_54 rfl ?_
        refine jm_bipushL (v := 10) d_M_entryOf_55 (by decide) ?_
        refine jm_isub d_M_entryOf_57 ?_
        first | refine jm_aload_n d_M_entryOf_58 rfl ?_ | refine jm_aload_nN d_M_entryOf_58 rfl ?_
        refine mr_geta d_M_entryOf_59 f_M_107 hm (by decide) (by decide) ?_
        refine jm_iload_n d_M_entryOf_62 rfl ?_
        refine mr_ld _ d_M_entryOf_63 hm (by decide) (by decide) rfl (vp_in_nI (by show k < 21; omega) (by decide)) ?_
        rw [hc]
        refine jm_icmp_lt 69 d_M_entryOf_64 (by decide) (fun hb64 => ?_) (fun hb64 => ?_)
        · first | refine jm_aload_n d_M_entryOf_69 rfl ?_ | refine jm_aload_nN d_M_entryOf_69 rfl ?_
          refine mr_geta d_M_entryOf_70 f_M_113 hm (by decide) (by decide) ?_
          refine jm_sipushL (v := 256) d_M_entryOf_73 (by decide) ?_
          refine jm_iload_n d_M_entryOf_76 rfl ?_
          refine jm_imul d_M_entryOf_77 ?_
          refine jm_iload_n d_M_entryOf_78 rfl ?_
          refine jm_iadd d_M_entryOf_79 ?_
          refine jm_bipushL (v := 10) d_M_entryOf_80 (by decide) ?_
          refine jm_isub d_M_entryOf_82 ?_
          obtain ⟨y, y1, y2, y3, y4⟩ := e_ix (k := k) (x := x) (by omega) hb3 (hmx hb13 hb64)
          have y5 : 256 * k + x.toNatClampNeg - 10 = 256 * k + y := by omega
          rw [y2]
          refine mr_ld _ d_M_entryOf_83 hm (by decide) (by decide) rfl (vp_in_nI (by show 256 * k + y < 5376; omega) (by decide)) ?_
          rw [nI_clamp (show 256 * k + y < 2 ^ 31 by omega)]
          refine jm_istore_n d_M_entryOf_84 (Nat.le_of_ble_eq_true rfl) ?_
          refine jm_iload_n d_M_entryOf_85 rfl ?_
          refine jm_ldc d_M_entryOf_86 k_M_145 ?_
          refine jm_icmp_ne 96 d_M_entryOf_88 (by decide) (fun hb88 => ?_) (fun hb88 => ?_)
          · refine jm_iload_n d_M_entryOf_96 rfl ?_
            exact jm_iret d_M_entryOf_97 rfl ⟨rfl, by first | rw [entF, if_pos (Or.inl hb3)] | rw [entF, if_pos (Or.inr hb13)] | rw [entF, if_neg (fun q => q.elim hb3 (fun z => z hb13)), if_pos (Decidable.not_not.mp hb25), if_pos hb31] | rw [entF, if_neg (fun q => q.elim hb3 (fun z => z hb13)), if_pos (Decidable.not_not.mp hb25), if_neg hb31, y5] | rw [entF, if_neg (fun q => q.elim hb3 (fun z => z hb13)), if_neg hb25, if_pos hb64] | rw [entF, if_neg (fun q => q.elim hb3 (fun z => z hb13)), if_neg hb25, if_neg (fun q => q hb64), y5, if_neg hb88] | rw [entF, if_neg (fun q => q.elim hb3 (fun z => z hb13)), if_neg hb25, if_neg (fun q => q hb64), y5, if_pos (Decidable.not_not.mp hb88)]⟩
          · refine jm_bipushL (v := (-2)) d_M_entryOf_91 (by decide) ?_
            refine jm_goto 97 d_M_entryOf_93 (by decide) ?_
            exact jm_iret d_M_entryOf_97 rfl ⟨rfl, by first | rw [entF, if_pos (Or.inl hb3)] | rw [entF, if_pos (Or.inr hb13)] | rw [entF, if_neg (fun q => q.elim hb3 (fun z => z hb13)), if_pos (Decidable.not_not.mp hb25), if_pos hb31] | rw [entF, if_neg (fun q => q.elim hb3 (fun z => z hb13)), if_pos (Decidable.not_not.mp hb25), if_neg hb31, y5] | rw [entF, if_neg (fun q => q.elim hb3 (fun z => z hb13)), if_neg hb25, if_pos hb64] | rw [entF, if_neg (fun q => q.elim hb3 (fun z => z hb13)), if_neg hb25, if_neg (fun q => q hb64), y5, if_neg hb88] | rw [entF, if_neg (fun q => q.elim hb3 (fun z => z hb13)), if_neg hb25, if_neg (fun q => q hb64), y5, if_pos (Decidable.not_not.mp hb88)]⟩
        · refine jm_iconstL (v := (-1)) d_M_entryOf_67 (by decide) ?_
          exact jm_iret d_M_entryOf_68 rfl ⟨rfl, by first | rw [entF, if_pos (Or.inl hb3)] | rw [entF, if_pos (Or.inr hb13)] | rw [entF, if_neg (fun q => q.elim hb3 (fun z => z hb13)), if_pos (Decidable.not_not.mp hb25), if_pos hb31] | rw [entF, if_neg (fun q => q.elim hb3 (fun z => z hb13)), if_pos (Decidable.not_not.mp hb25), if_neg hb31, y5] | rw [entF, if_neg (fun q => q.elim hb3 (fun z => z hb13)), if_neg hb25, if_pos hb64] | rw [entF, if_neg (fun q => q.elim hb3 (fun z => z hb13)), if_neg hb25, if_neg (fun q => q hb64), y5, if_neg hb88] | rw [entF, if_neg (fun q => q.elim hb3 (fun z => z hb13)), if_neg hb25, if_neg (fun q => q hb64), y5, if_pos (Decidable.not_not.mp hb88)]⟩
      · refine jm_iload_n d_M_entryOf_28 rfl ?_
        refine jm_bipushL (v := 18) d_M_entryOf_29 (by decide) ?_
        refine jm_icmp_ge 52 d_M_entryOf_31 (by decide) (fun hb31 => ?_) (fun hb31 => ?_)
        · refine jm_iconstL (v := (-1)) d_M_entryOf_52 (by decide) ?_
          exact jm_iret d_M_entryOf_53 rfl ⟨rfl, by first | rw [entF, if_pos (Or.inl hb3)] | rw [entF, if_pos (Or.inr hb13)] | rw [entF, if_neg (fun q => q.elim hb3 (fun z => z hb13)), if_pos (Decidable.not_not.mp hb25), if_pos hb31] | rw [entF, if_neg (fun q => q.elim hb3 (fun z => z hb13)), if_pos (Decidable.not_not.mp hb25), if_neg hb31, y5] | rw [entF, if_neg (fun q => q.elim hb3 (fun z => z hb13)), if_neg hb25, if_pos hb64] | rw [entF, if_neg (fun q => q.elim hb3 (fun z => z hb13)), if_neg hb25, if_neg (fun q => q hb64), y5, if_neg hb88] | rw [entF, if_neg (fun q => q.elim hb3 (fun z => z hb13)), if_neg hb25, if_neg (fun q => q hb64), y5, if_pos (Decidable.not_not.mp hb88)]⟩
        · first | refine jm_aload_n d_M_entryOf_34 rfl ?_ | refine jm_aload_nN d_M_entryOf_34 rfl ?_
          refine mr_geta d_M_entryOf_35 f_M_113 hm (by decide) (by decide) ?_
          refine jm_sipushL (v := 256) d_M_entryOf_38 (by decide) ?_
          refine jm_iload_n d_M_entryOf_41 rfl ?_
          refine jm_imul d_M_entryOf_42 ?_
          refine jm_iload_n d_M_entryOf_43 rfl ?_
          refine jm_iadd d_M_entryOf_44 ?_
          refine jm_bipushL (v := 10) d_M_entryOf_45 (by decide) ?_
          refine jm_isub d_M_entryOf_47 ?_
          obtain ⟨y, y1, y2, y3, y4⟩ := e_ix (k := k) (x := x) (by omega) hb3 (by simp only [Int32.lt_iff_toInt_lt, Int32.le_iff_toInt_le, Int32.reduceToInt] at *; omega)
          have y5 : 256 * k + x.toNatClampNeg - 10 = 256 * k + y := by omega
          rw [y2]
          refine mr_ld _ d_M_entryOf_48 hm (by decide) (by decide) rfl (vp_in_nI (by show 256 * k + y < 5376; omega) (by decide)) ?_
          rw [nI_clamp (show 256 * k + y < 2 ^ 31 by omega)]
          refine jm_goto 53 d_M_entryOf_49 (by decide) ?_
          exact jm_iret d_M_entryOf_53 rfl ⟨rfl, by first | rw [entF, if_pos (Or.inl hb3)] | rw [entF, if_pos (Or.inr hb13)] | rw [entF, if_neg (fun q => q.elim hb3 (fun z => z hb13)), if_pos (Decidable.not_not.mp hb25), if_pos hb31] | rw [entF, if_neg (fun q => q.elim hb3 (fun z => z hb13)), if_pos (Decidable.not_not.mp hb25), if_neg hb31, y5] | rw [entF, if_neg (fun q => q.elim hb3 (fun z => z hb13)), if_neg hb25, if_pos hb64] | rw [entF, if_neg (fun q => q.elim hb3 (fun z => z hb13)), if_neg hb25, if_neg (fun q => q hb64), y5, if_neg hb88] | rw [entF, if_neg (fun q => q.elim hb3 (fun z => z hb13)), if_neg hb25, if_neg (fun q => q hb64), y5, if_pos (Decidable.not_not.mp hb88)]⟩
    · refine jm_iconstL (v := (-1)) d_M_entryOf_16 (by decide) ?_
      exact jm_iret d_M_entryOf_17 rfl ⟨rfl, by first | rw [entF, if_pos (Or.inl hb3)] | rw [entF, if_pos (Or.inr hb13)] | rw [entF, if_neg (fun q => q.elim hb3 (fun z => z hb13)), if_pos (Decidable.not_not.mp hb25), if_pos hb31] | rw [entF, if_neg (fun q => q.elim hb3 (fun z => z hb13)), if_pos (Decidable.not_not.mp hb25), if_neg hb31, y5] | rw [entF, if_neg (fun q => q.elim hb3 (fun z => z hb13)), if_neg hb25, if_pos hb64] | rw [entF, if_neg (fun q => q.elim hb3 (fun z => z hb13)), if_neg hb25, if_neg (fun q => q hb64), y5, if_neg hb88] | rw [entF, if_neg (fun q => q.elim hb3 (fun z => z hb13)), if_neg hb25, if_neg (fun q => q hb64), y5, if_pos (Decidable.not_not.mp hb88)]⟩
def toldF (S : mS) (nl : Nat) (k x : Int32) : Int32 :=
  if ¬ (0 ≤ k ∧ k ≤ S 34 0 - 1) then -1 else if x = 0 then S 35 k.toNatClampNeg else if x = 1 then S 36 k.toNatClampNeg else if x = 2 then S 37 k.toNatClampNeg else if x = 3 then S 38 k.toNatClampNeg else if x = 4 then S 39 k.toNatClampNeg else entF S k.toNatClampNeg x
theorem lt_ix {nl : Nat} (hn : S 34 0 = nI nl) (h20 : nl ≤ 20) {k : Int32} (hk : 0 ≤ k ∧ k ≤ S 34 0 - 1) : ∃ q, q < nl ∧ k = nI q := by
  obtain ⟨h1, h2⟩ := hk
  rw [hn] at h2
  rcases pk_ix k (n := nl) (by omega) with q | q | q
  · simp only [Int32.lt_iff_toInt_lt, Int32.le_iff_toInt_le] at *
    omega
  · exfalso
    cases nl with
    | zero => simp only [Int32.le_iff_toInt_le] at *; rw [show (nI 0 - 1).toInt = -1 by decide] at h2; rw [show (0 : Int32).toInt = 0 by decide] at h1; omega
    | succ n =>
      rw [nI_pred] at h2
      simp only [Int32.le_iff_toInt_le] at *
      rw [nI_toInt (by omega)] at h2 q
      omega
  · exact q
theorem entF_mu {t : Int32} {k : Nat} {x : Int32} : entF (mu S 0 0 t) k x = entF S k x := rfl
theorem k_M_told {nl : Nat} (hd : 1 ≤ d) (hn : S 34 0 = nI nl) (h20 : nl ≤ 20) (k x : Int32) (hmx : ∀ q, q < nl → 2 ≤ S 35 q → x - 10 < S 39 q → x < 266) : mM Γ m_M_told d m ar [.int k, .int x] S (fun v9 S' => S' = mu S 0 0 0 ∧ v9 = some (.int (toldF S nl k x))) := by
  intro h hm
  have hf : mo_fr m ar h h := mo_fr.rf
  refine jm_entry (by decide +kernel) (List.forall_mem_cons.mpr ⟨rfl, List.forall_mem_cons.mpr ⟨rfl, List.forall_mem_cons.mpr ⟨rfl, fun _ h => nomatch h⟩⟩⟩) (Nat.le_of_ble_eq_true rfl) ?_
  show jm_W _ _ _ _ _ _ 0 [some (.ref m), some (.int k), some (.int x)] [] _
  first | refine jm_aload_n d_M_told_0 rfl ?_ | refine jm_aload_nN d_M_told_0 rfl ?_
  refine jm_iconstL (v := 0) d_M_told_1 (by decide) ?_
  refine mr_puti d_M_told_2 f_M_116 hm hf (by decide) rfl (fun h hm hf => ?_)
  refine jm_iload_n d_M_told_5 rfl ?_
  refine jm_iconstL (v := 0) d_M_told_6 (by decide) ?_
  first | refine jm_aload_n d_M_told_7 rfl ?_ | refine jm_aload_nN d_M_told_7 rfl ?_
  refine mr_geti d_M_told_8 f_M_176 hm (by decide) rfl ?_
  refine jm_iconstL (v := 1) d_M_told_11 (by decide) ?_
  refine jm_isub d_M_told_12 ?_
  refine jm_callSp (As := [_, _, _]) d_M_told_13 l_M_127 sw_M_within nv_M_within rfl (Nat.le_of_ble_eq_true rfl) (by omega : 0 + 1 ≤ _) (k_M_within _ _ _) ?_
  first | refine jm_bz_ne 21 d_M_told_16 (by decide) (fun hb16 => ?_) (fun hb16 => ?_) | refine jm_if_ne 21 d_M_told_16 (by decide) (fun hb16 => ?_) (fun hb16 => ?_)
  · obtain ⟨q, hq, rfl⟩ := lt_ix (S := mu S 0 0 0) hn h20 hb16
    refine jm_iload_n d_M_told_21 rfl ?_
    by_cases sw22_0 : x = 0
    · subst sw22_0
      refine jm_tableIn 56 d_M_told_22 (by decide) (by decide) rfl (by decide) ?_
      first | refine jm_aload_n d_M_told_56 rfl ?_ | refine jm_aload_nN d_M_told_56 rfl ?_
      refine mr_geta d_M_told_57 f_M_95 hm (by decide) (by decide) ?_
      refine jm_iload_n d_M_told_60 rfl ?_
      refine mr_ld _ d_M_told_61 hm (by decide) (by decide) rfl (vp_in_nI (by show q < 21; omega) (by decide)) ?_
      exact jm_iret d_M_told_62 rfl ⟨_, _, rfl, ⟨rfl, by rw [toldF, if_neg (show ¬ ¬ (0 ≤ nI q ∧ nI q ≤ S 34 0 - 1) from fun z => z hb16)]; first | rfl | (simp; done) | (simp; rfl)⟩, hm, hf⟩
    by_cases sw22_1 : x = 1
    · subst sw22_1
      refine jm_tableIn 63 d_M_told_22 (by decide) (by decide) rfl (by decide) ?_
      first | refine jm_aload_n d_M_told_63 rfl ?_ | refine jm_aload_nN d_M_told_63 rfl ?_
      refine mr_geta d_M_told_64 f_M_98 hm (by decide) (by decide) ?_
      refine jm_iload_n d_M_told_67 rfl ?_
      refine mr_ld _ d_M_told_68 hm (by decide) (by decide) rfl (vp_in_nI (by show q < 21; omega) (by decide)) ?_
      exact jm_iret d_M_told_69 rfl ⟨_, _, rfl, ⟨rfl, by rw [toldF, if_neg (show ¬ ¬ (0 ≤ nI q ∧ nI q ≤ S 34 0 - 1) from fun z => z hb16)]; first | rfl | (simp; done) | (simp; rfl)⟩, hm, hf⟩
    by_cases sw22_2 : x = 2
    · subst sw22_2
      refine jm_tableIn 70 d_M_told_22 (by decide) (by decide) rfl (by decide) ?_
      first | refine jm_aload_n d_M_told_70 rfl ?_ | refine jm_aload_nN d_M_told_70 rfl ?_
      refine mr_geta d_M_told_71 f_M_101 hm (by decide) (by decide) ?_
      refine jm_iload_n d_M_told_74 rfl ?_
      refine mr_ld _ d_M_told_75 hm (by decide) (by decide) rfl (vp_in_nI (by show q < 21; omega) (by decide)) ?_
      exact jm_iret d_M_told_76 rfl ⟨_, _, rfl, ⟨rfl, by rw [toldF, if_neg (show ¬ ¬ (0 ≤ nI q ∧ nI q ≤ S 34 0 - 1) from fun z => z hb16)]; first | rfl | (simp; done) | (simp; rfl)⟩, hm, hf⟩
    by_cases sw22_3 : x = 3
    · subst sw22_3
      refine jm_tableIn 77 d_M_told_22 (by decide) (by decide) rfl (by decide) ?_
      first | refine jm_aload_n d_M_told_77 rfl ?_ | refine jm_aload_nN d_M_told_77 rfl ?_
      refine mr_geta d_M_told_78 f_M_104 hm (by decide) (by decide) ?_
      refine jm_iload_n d_M_told_81 rfl ?_
      refine mr_ld _ d_M_told_82 hm (by decide) (by decide) rfl (vp_in_nI (by show q < 21; omega) (by decide)) ?_
      exact jm_iret d_M_told_83 rfl ⟨_, _, rfl, ⟨rfl, by rw [toldF, if_neg (show ¬ ¬ (0 ≤ nI q ∧ nI q ≤ S 34 0 - 1) from fun z => z hb16)]; first | rfl | (simp; done) | (simp; rfl)⟩, hm, hf⟩
    by_cases sw22_4 : x = 4
    · subst sw22_4
      refine jm_tableIn 84 d_M_told_22 (by decide) (by decide) rfl (by decide) ?_
      first | refine jm_aload_n d_M_told_84 rfl ?_ | refine jm_aload_nN d_M_told_84 rfl ?_
      refine mr_geta d_M_told_85 f_M_107 hm (by decide) (by decide) ?_
      refine jm_iload_n d_M_told_88 rfl ?_
      refine mr_ld _ d_M_told_89 hm (by decide) (by decide) rfl (vp_in_nI (by show q < 21; omega) (by decide)) ?_
      exact jm_iret d_M_told_90 rfl ⟨_, _, rfl, ⟨rfl, by rw [toldF, if_neg (show ¬ ¬ (0 ≤ nI q ∧ nI q ≤ S 34 0 - 1) from fun z => z hb16)]; first | rfl | (simp; done) | (simp; rfl)⟩, hm, hf⟩
    refine jm_tableOut 91 d_M_told_22 (by simp only [← Int32.toInt_inj, Int32.reduceToInt] at sw22_0 sw22_1 sw22_2 sw22_3 sw22_4; omega) (by decide) ?_
    first | refine jm_aload_n d_M_told_91 rfl ?_ | refine jm_aload_nN d_M_told_91 rfl ?_
    refine jm_iload_n d_M_told_92 rfl ?_
    refine jm_iload_n d_M_told_93 rfl ?_
    refine mr_callp (As := [_, _]) d_M_told_94 l_M_229 iw_M_entryOf ew_M_entryOf nv_M_entryOf rfl (Nat.le_of_ble_eq_true rfl) (by omega : 0 + 1 ≤ _) (k_M_entryOf (S := mu S 0 0 0) (by omega) x (hmx q hq)) hm ?_
    exact jm_iret d_M_told_97 rfl ⟨_, _, rfl, ⟨rfl, by rw [toldF, if_neg (show ¬ ¬ (0 ≤ nI q ∧ nI q ≤ S 34 0 - 1) from fun z => z hb16), if_neg sw22_0, if_neg sw22_1, if_neg sw22_2, if_neg sw22_3, if_neg sw22_4, nI_clamp (show q < 2 ^ 31 by omega), entF_mu]⟩, hm, hf⟩
  · refine jm_iconstL (v := -1) d_M_told_19 (by decide) ?_
    exact jm_iret d_M_told_20 rfl ⟨_, _, rfl, ⟨rfl, by rw [toldF, if_pos (show ¬ (0 ≤ k ∧ k ≤ S 34 0 - 1) from hb16)]⟩, hm, hf⟩
end
end
section
/-! THE REFERENCE: bits, order, letters. Written by wip/whole/gen/p27.py -/
section
variable {Γ : jm_G} {d m : Nat} {ar : Nat → Nat} {S : mS} {h : jm_H}
abbrev cI (x a : Int32) : Prop := (x >>> (a &&& 31)) &&& 1 = 1
def bitsF (x : Int32) : Nat → Int32
  | 0 => 0
  | k + 1 => if cI x (nI k) then bitsF x k + 1 else bitsF x k
theorem lp_M_bits {rc rs : Nat} (hd : 1 ≤ d) (x : Int32) : ∀ j k, k + j = 8 → jm_W Γ m_M_bits d rc rs (fun oc h' => h' = h ∧ oc = .inl (some (.int (bitsF x 8)))) 4 [some (.int x), some (.int (bitsF x k)), some (.int (nI k))] [] h := by
  intro j
  induction j with
  | zero =>
    intro k hk
    have hk' : k = 8 := by omega
    subst hk'
    refine jm_iload_n d_M_bits_4 rfl ?_
    refine jm_bipushL (v := 8) d_M_bits_5 (by decide) ?_
    refine jm_icmp_ge 32 d_M_bits_7 (by decide) (fun hb7 => ?_) (fun hb7 => ?_)
    · refine jm_iload_n d_M_bits_32 rfl ?_
      exact jm_iret d_M_bits_33 rfl ⟨rfl, rfl⟩
    · exact absurd (by decide) hb7
  | succ j ih =>
    intro k hk
    refine jm_iload_n d_M_bits_4 rfl ?_
    refine jm_bipushL (v := 8) d_M_bits_5 (by decide) ?_
    refine jm_icmp_ge 32 d_M_bits_7 (by decide) (fun hb7 => ?_) (fun hb7 => ?_)
    · exact absurd hb7 (nI_ge (b := 8) (by omega) (by decide))
    · refine jm_iload_n d_M_bits_10 rfl ?_
      refine jm_iload_n d_M_bits_11 rfl ?_
      refine jm_callSp (As := [_, _]) d_M_bits_12 l_M_120 sw_M_has nv_M_has rfl (Nat.le_of_ble_eq_true rfl) (by omega : 0 + 1 ≤ _) (k_M_has _ _) ?_
      first | refine jm_bz_eq 24 d_M_bits_15 (by decide) (fun hb15 => ?_) (fun hb15 => ?_) | refine jm_if_eq 24 d_M_bits_15 (by decide) (fun hb15 => ?_) (fun hb15 => ?_)
      · refine jm_iload_n d_M_bits_24 rfl ?_
        refine jm_istore_n d_M_bits_25 (Nat.le_of_ble_eq_true rfl) ?_
        refine jm_iincL (v := nI (k + 1)) d_M_bits_26 rfl (by rw [nI_succ]; rfl) ?_
        refine jm_goto 4 d_M_bits_29 (by decide) ?_
        have e9 := ih (k + 1) (by omega)
        first | rw [show bitsF x (k + 1) = bitsF x k from if_neg hb15] at e9 | rw [show bitsF x (k + 1) = bitsF x k + 1 from if_pos hb15] at e9
        exact e9
      · refine jm_iload_n d_M_bits_18 rfl ?_
        refine jm_iconstL (v := 1) d_M_bits_19 (by decide) ?_
        refine jm_iadd d_M_bits_20 ?_
        refine jm_goto 25 d_M_bits_21 (by decide) ?_
        refine jm_istore_n d_M_bits_25 (Nat.le_of_ble_eq_true rfl) ?_
        refine jm_iincL (v := nI (k + 1)) d_M_bits_26 rfl (by rw [nI_succ]; rfl) ?_
        refine jm_goto 4 d_M_bits_29 (by decide) ?_
        have e9 := ih (k + 1) (by omega)
        first | rw [show bitsF x (k + 1) = bitsF x k from if_neg hb15] at e9 | rw [show bitsF x (k + 1) = bitsF x k + 1 from if_pos hb15] at e9
        exact e9
theorem k_M_bits (hd : 1 ≤ d) (x : Int32) : jm_A Γ m_M_bits d [.int x] h (some (.int (bitsF x 8))) := by
  refine jm_entry (by decide +kernel) (List.forall_mem_cons.mpr ⟨rfl, fun _ h => nomatch h⟩) (Nat.le_of_ble_eq_true rfl) ?_
  show jm_W _ _ _ _ _ _ 0 [some (.int x), none, none] [] _
  refine jm_iconstL (v := 0) d_M_bits_0 (by decide) ?_
  refine jm_istore_n d_M_bits_1 (Nat.le_of_ble_eq_true rfl) ?_
  refine jm_iconstL (v := 0) d_M_bits_2 (by decide) ?_
  refine jm_istore_n d_M_bits_3 (Nat.le_of_ble_eq_true rfl) ?_
  exact lp_M_bits hd x 8 0 (by omega)
/-- a goes before b -/
abbrev gbS (S : mS) (a b : Int32) : Prop := ¬ 0 ≤ b ∨ (bitsF (S 9 b.toNatClampNeg) 8 < bitsF (S 9 a.toNatClampNeg) 8 ∨ (bitsF (S 9 a.toNatClampNeg) 8 = bitsF (S 9 b.toNatClampNeg) 8 ∧ a < b))
theorem k_M_goesBefore (hd : 2 ≤ d) (a b : Int32) (ha : vp_in a 8) (hb : 0 ≤ b → vp_in b 8) : mA Γ m_M_goesBefore d m ar [.int a, .int b] S (some (.int (if gbS S a b then 1 else 0))) := by
  intro h hm
  refine jm_entry (by decide +kernel) (List.forall_mem_cons.mpr ⟨rfl, List.forall_mem_cons.mpr ⟨rfl, List.forall_mem_cons.mpr ⟨rfl, fun _ h => nomatch h⟩⟩⟩) (Nat.le_of_ble_eq_true rfl) ?_
  show jm_W _ _ _ _ _ _ 0 [some (.ref m), some (.int a), some (.int b), none, none] [] _
  refine jm_iload_n d_M_goesBefore_0 rfl ?_
  refine jm_if_ge 6 d_M_goesBefore_1 (by decide) (fun hb1 => ?_) (fun hb1 => ?_)
  · first | refine jm_aload_n d_M_goesBefore_6 rfl ?_ | refine jm_aload_nN d_M_goesBefore_6 rfl ?_
    refine mr_geta d_M_goesBefore_7 f_M_25 hm (by decide) (by decide) ?_
    refine jm_iload_n d_M_goesBefore_10 rfl ?_
    refine mr_ld _ d_M_goesBefore_11 hm (by decide) (by decide) rfl ha ?_
    refine jm_callSp (As := [_]) d_M_goesBefore_12 l_M_161 sw_M_bits nv_M_bits rfl (Nat.le_of_ble_eq_true rfl) (by omega : 1 + 1 ≤ _) (k_M_bits (by omega) _) ?_
    refine jm_istore_n d_M_goesBefore_15 (Nat.le_of_ble_eq_true rfl) ?_
    first | refine jm_aload_n d_M_goesBefore_16 rfl ?_ | refine jm_aload_nN d_M_goesBefore_16 rfl ?_
    refine mr_geta d_M_goesBefore_17 f_M_25 hm (by decide) (by decide) ?_
    refine jm_iload_n d_M_goesBefore_20 rfl ?_
    refine mr_ld _ d_M_goesBefore_21 hm (by decide) (by decide) rfl (hb hb1) ?_
    refine jm_callSp (As := [_]) d_M_goesBefore_22 l_M_161 sw_M_bits nv_M_bits rfl (Nat.le_of_ble_eq_true rfl) (by omega : 1 + 1 ≤ _) (k_M_bits (by omega) _) ?_
    refine jm_istore d_M_goesBefore_25 (Nat.le_of_ble_eq_true rfl) ?_
    refine jm_iload_n d_M_goesBefore_27 rfl ?_
    refine jm_iload d_M_goesBefore_28 rfl ?_
    refine jm_icmp_gt 44 d_M_goesBefore_30 (by decide) (fun hb30 => ?_) (fun hb30 => ?_)
    · refine jm_iconstL (v := 1) d_M_goesBefore_44 (by decide) ?_
      refine jm_goto 49 d_M_goesBefore_45 (by decide) ?_
      exact jm_zret d_M_goesBefore_49 rfl rfl ⟨rfl, by first | rw [if_pos (show gbS S a b from Or.inr (Or.inl hb30))] | rw [if_pos (show gbS S a b from Or.inr (Or.inr ⟨Decidable.not_not.mp hb36, Int32.not_le.mp hb41⟩))]⟩
    · refine jm_iload_n d_M_goesBefore_33 rfl ?_
      refine jm_iload d_M_goesBefore_34 rfl ?_
      refine jm_icmp_ne 48 d_M_goesBefore_36 (by decide) (fun hb36 => ?_) (fun hb36 => ?_)
      · refine jm_iconstL (v := 0) d_M_goesBefore_48 (by decide) ?_
        exact jm_zret d_M_goesBefore_49 rfl rfl ⟨rfl, by first | rw [if_neg (show ¬ gbS S a b from fun q => by rcases q with q | q | q; exact q hb1; exact hb30 q; exact hb36 q.1)] | rw [if_neg (show ¬ gbS S a b from fun q => by rcases q with q | q | q; exact q hb1; exact hb30 q; exact absurd q.2 (Int32.not_lt.mpr hb41))]⟩
      · refine jm_iload_n d_M_goesBefore_39 rfl ?_
        refine jm_iload_n d_M_goesBefore_40 rfl ?_
        refine jm_icmp_ge 48 d_M_goesBefore_41 (by decide) (fun hb41 => ?_) (fun hb41 => ?_)
        · refine jm_iconstL (v := 0) d_M_goesBefore_48 (by decide) ?_
          exact jm_zret d_M_goesBefore_49 rfl rfl ⟨rfl, by first | rw [if_neg (show ¬ gbS S a b from fun q => by rcases q with q | q | q; exact q hb1; exact hb30 q; exact hb36 q.1)] | rw [if_neg (show ¬ gbS S a b from fun q => by rcases q with q | q | q; exact q hb1; exact hb30 q; exact absurd q.2 (Int32.not_lt.mpr hb41))]⟩
        · refine jm_iconstL (v := 1) d_M_goesBefore_44 (by decide) ?_
          refine jm_goto 49 d_M_goesBefore_45 (by decide) ?_
          exact jm_zret d_M_goesBefore_49 rfl rfl ⟨rfl, by first | rw [if_pos (show gbS S a b from Or.inr (Or.inl hb30))] | rw [if_pos (show gbS S a b from Or.inr (Or.inr ⟨Decidable.not_not.mp hb36, Int32.not_le.mp hb41⟩))]⟩
  · refine jm_iconstL (v := 1) d_M_goesBefore_4 (by decide) ?_
    exact jm_zret d_M_goesBefore_5 rfl rfl ⟨rfl, by rw [if_pos (show gbS S a b from Or.inl hb1)]⟩
/-- a letter is laid down -/
def postS (S : mS) (w a b x : Int32) : mS := mu (mu (mu (mu (mu (mu (mu S 35 (S 34 0).toNatClampNeg w) 36 (S 34 0).toNatClampNeg a) 37 (S 34 0).toNatClampNeg b) 38 (S 34 0).toNatClampNeg x) 39 (S 34 0).toNatClampNeg 0) 40 (S 34 0).toNatClampNeg 0) 34 0 (S 34 0 + 1)
theorem k_M_post {nl : Nat} (hn : S 34 0 = nI nl) (h20 : nl ≤ 20) (w a b x : Int32) : mM Γ m_M_post d m ar [.int w, .int a, .int b, .int x] S (fun v9 S' => (S 34 0 = 20 ∧ S' = S ∧ v9 = some (.int (-1))) ∨ (S 34 0 ≠ 20 ∧ S' = postS S w a b x ∧ v9 = some (.int (S 34 0)))) := by
  intro h hm
  have hf : mo_fr m ar h h := mo_fr.rf
  have hv : vp_in (S 34 0) 21 := by rw [hn]; exact vp_in_nI (by omega) (by decide)
  refine jm_entry (by decide +kernel) (List.forall_mem_cons.mpr ⟨rfl, List.forall_mem_cons.mpr ⟨rfl, List.forall_mem_cons.mpr ⟨rfl, List.forall_mem_cons.mpr ⟨rfl, List.forall_mem_cons.mpr ⟨rfl, fun _ h => nomatch h⟩⟩⟩⟩⟩) (Nat.le_of_ble_eq_true rfl) ?_
  show jm_W _ _ _ _ _ _ 0 [some (.ref m), some (.int w), some (.int a), some (.int b), some (.int x)] [] _
  first | refine jm_aload_n d_M_post_0 rfl ?_ | refine jm_aload_nN d_M_post_0 rfl ?_
  refine mr_geti d_M_post_1 f_M_176 hm (by decide) rfl ?_
  refine jm_bipushL (v := 20) d_M_post_4 (by decide) ?_
  refine jm_icmp_ne 11 d_M_post_6 (by decide) (fun hb6 => ?_) (fun hb6 => ?_)
  · first | refine jm_aload_n d_M_post_11 rfl ?_ | refine jm_aload_nN d_M_post_11 rfl ?_
    refine mr_geta d_M_post_12 f_M_95 hm (by decide) (by decide) ?_
    first | refine jm_aload_n d_M_post_15 rfl ?_ | refine jm_aload_nN d_M_post_15 rfl ?_
    refine mr_geti d_M_post_16 f_M_176 hm (by decide) rfl ?_
    refine jm_iload_n d_M_post_19 rfl ?_
    refine mr_st _ d_M_post_20 hm hf (by decide) (by decide) rfl hv (fun h hm hf => ?_)
    first | refine jm_aload_n d_M_post_21 rfl ?_ | refine jm_aload_nN d_M_post_21 rfl ?_
    refine mr_geta d_M_post_22 f_M_98 hm (by decide) (by decide) ?_
    first | refine jm_aload_n d_M_post_25 rfl ?_ | refine jm_aload_nN d_M_post_25 rfl ?_
    refine mr_geti d_M_post_26 f_M_176 hm (by decide) rfl ?_
    refine jm_iload_n d_M_post_29 rfl ?_
    refine mr_st _ d_M_post_30 hm hf (by decide) (by decide) rfl hv (fun h hm hf => ?_)
    first | refine jm_aload_n d_M_post_31 rfl ?_ | refine jm_aload_nN d_M_post_31 rfl ?_
    refine mr_geta d_M_post_32 f_M_101 hm (by decide) (by decide) ?_
    first | refine jm_aload_n d_M_post_35 rfl ?_ | refine jm_aload_nN d_M_post_35 rfl ?_
    refine mr_geti d_M_post_36 f_M_176 hm (by decide) rfl ?_
    refine jm_iload_n d_M_post_39 rfl ?_
    refine mr_st _ d_M_post_40 hm hf (by decide) (by decide) rfl hv (fun h hm hf => ?_)
    first | refine jm_aload_n d_M_post_41 rfl ?_ | refine jm_aload_nN d_M_post_41 rfl ?_
    refine mr_geta d_M_post_42 f_M_104 hm (by decide) (by decide) ?_
    first | refine jm_aload_n d_M_post_45 rfl ?_ | refine jm_aload_nN d_M_post_45 rfl ?_
    refine mr_geti d_M_post_46 f_M_176 hm (by decide) rfl ?_
    refine jm_iload d_M_post_49 rfl ?_
    refine mr_st _ d_M_post_51 hm hf (by decide) (by decide) rfl hv (fun h hm hf => ?_)
    first | refine jm_aload_n d_M_post_52 rfl ?_ | refine jm_aload_nN d_M_post_52 rfl ?_
    refine mr_geta d_M_post_53 f_M_107 hm (by decide) (by decide) ?_
    first | refine jm_aload_n d_M_post_56 rfl ?_ | refine jm_aload_nN d_M_post_56 rfl ?_
    refine mr_geti d_M_post_57 f_M_176 hm (by decide) rfl ?_
    refine jm_iconstL (v := 0) d_M_post_60 (by decide) ?_
    refine mr_st _ d_M_post_61 hm hf (by decide) (by decide) rfl hv (fun h hm hf => ?_)
    first | refine jm_aload_n d_M_post_62 rfl ?_ | refine jm_aload_nN d_M_post_62 rfl ?_
    refine mr_geta d_M_post_63 f_M_110 hm (by decide) (by decide) ?_
    first | refine jm_aload_n d_M_post_66 rfl ?_ | refine jm_aload_nN d_M_post_66 rfl ?_
    refine mr_geti d_M_post_67 f_M_176 hm (by decide) rfl ?_
    refine jm_iconstL (v := 0) d_M_post_70 (by decide) ?_
    refine mr_st _ d_M_post_71 hm hf (by decide) (by decide) rfl hv (fun h hm hf => ?_)
    first | refine jm_aload_n d_M_post_72 rfl ?_ | refine jm_aload_nN d_M_post_72 rfl ?_
    refine jm_dup d_M_post_73 rfl ?_
    refine mr_geti d_M_post_74 f_M_176 hm (by decide) rfl ?_
    refine jm_iconstL (v := 1) d_M_post_77 (by decide) ?_
    refine jm_iadd d_M_post_78 ?_
    refine mr_puti d_M_post_79 f_M_176 hm hf (by decide) rfl (fun h hm hf => ?_)
    first | refine jm_aload_n d_M_post_82 rfl ?_ | refine jm_aload_nN d_M_post_82 rfl ?_
    refine mr_geti d_M_post_83 f_M_176 hm (by decide) rfl ?_
    refine jm_iconstL (v := 1) d_M_post_86 (by decide) ?_
    refine jm_isub d_M_post_87 ?_
    exact jm_iret d_M_post_88 rfl ⟨_, _, rfl, Or.inr ⟨hb6, rfl, by show some (Value.int (S 34 0 + 1 - 1)) = _; rw [Int32.add_sub_cancel]⟩, hm, hf⟩
  · refine jm_iconstL (v := -1) d_M_post_9 (by decide) ?_
    exact jm_iret d_M_post_10 rfl ⟨_, _, rfl, Or.inl ⟨Decidable.not_not.mp hb6, rfl, rfl⟩, hm, hf⟩
end
end
