section
-- ===== PART A: goes FIRST, ahead of the names: the tables' words, and 'selects' of the private methods out of them =====
/-- a private method of a class that the tables say can be made, by its rows of tables_1 -/
def lw_okq (q : MethodName × Nat) : Prop := (q.1.cls ≠ "java/lang/invoke/MethodHandle" ∧ q.1.cls ≠ "java/lang/invoke/VarHandle") ∧ Cond.instantiable q.1.cls q.2 ∈ tables_1 ∧ Cond.privateMethod q.1 ∈ tables_1 ∧ Cond.instanceMethod q.1 ∈ tables_1
theorem lw_p0 : lw_okq (⟨"WindowRoll", "stands", "(I)Z"⟩, 16) := ⟨⟨by decide +kernel, by decide +kernel⟩, List.mem_of_getElem? (i := 25) (by decide +kernel), List.mem_of_getElem? (i := 468) (by decide +kernel), List.mem_of_getElem? (i := 469) (by decide +kernel)⟩
theorem lw_p1 : lw_okq (⟨"WindowRoll", "exists", "(I)Z"⟩, 16) := ⟨⟨by decide +kernel, by decide +kernel⟩, List.mem_of_getElem? (i := 25) (by decide +kernel), List.mem_of_getElem? (i := 472) (by decide +kernel), List.mem_of_getElem? (i := 473) (by decide +kernel)⟩
theorem lw_p2 : lw_okq (⟨"WindowRoll", "hasOpening", "(II)Z"⟩, 16) := ⟨⟨by decide +kernel, by decide +kernel⟩, List.mem_of_getElem? (i := 25) (by decide +kernel), List.mem_of_getElem? (i := 557) (by decide +kernel), List.mem_of_getElem? (i := 558) (by decide +kernel)⟩
theorem lw_p3 : lw_okq (⟨"WindowRoll$Reader", "begin", "(LWindowRoll$Text;Z)V"⟩, 10) := ⟨⟨by decide +kernel, by decide +kernel⟩, List.mem_of_getElem? (i := 35) (by decide +kernel), List.mem_of_getElem? (i := 604) (by decide +kernel), List.mem_of_getElem? (i := 605) (by decide +kernel)⟩
theorem lw_p4 : lw_okq (⟨"WindowRoll$Reader", "scan", "(I)I"⟩, 10) := ⟨⟨by decide +kernel, by decide +kernel⟩, List.mem_of_getElem? (i := 35) (by decide +kernel), List.mem_of_getElem? (i := 612) (by decide +kernel), List.mem_of_getElem? (i := 613) (by decide +kernel)⟩
theorem lw_p5 : lw_okq (⟨"WindowRoll$Reader", "scanWord", "(I)I"⟩, 10) := ⟨⟨by decide +kernel, by decide +kernel⟩, List.mem_of_getElem? (i := 35) (by decide +kernel), List.mem_of_getElem? (i := 619) (by decide +kernel), List.mem_of_getElem? (i := 620) (by decide +kernel)⟩
theorem lw_p6 : lw_okq (⟨"WindowRoll$Reader", "isOnTape", "(Ljava/lang/String;II)Z"⟩, 10) := ⟨⟨by decide +kernel, by decide +kernel⟩, List.mem_of_getElem? (i := 35) (by decide +kernel), List.mem_of_getElem? (i := 625) (by decide +kernel), List.mem_of_getElem? (i := 626) (by decide +kernel)⟩
theorem lw_p7 : lw_okq (⟨"WindowRoll$Reader", "note", "(III)V"⟩, 10) := ⟨⟨by decide +kernel, by decide +kernel⟩, List.mem_of_getElem? (i := 35) (by decide +kernel), List.mem_of_getElem? (i := 677) (by decide +kernel), List.mem_of_getElem? (i := 678) (by decide +kernel)⟩
theorem lw_p8 : lw_okq (⟨"WindowRoll$Reader", "scanNumber", "(I)I"⟩, 10) := ⟨⟨by decide +kernel, by decide +kernel⟩, List.mem_of_getElem? (i := 35) (by decide +kernel), List.mem_of_getElem? (i := 684) (by decide +kernel), List.mem_of_getElem? (i := 685) (by decide +kernel)⟩
theorem lw_p9 : lw_okq (⟨"WindowRoll$Reader", "isAt", "(I)Z"⟩, 10) := ⟨⟨by decide +kernel, by decide +kernel⟩, List.mem_of_getElem? (i := 35) (by decide +kernel), List.mem_of_getElem? (i := 694) (by decide +kernel), List.mem_of_getElem? (i := 695) (by decide +kernel)⟩
theorem lw_p10 : lw_okq (⟨"WindowRoll$Reader", "readRule", "()V"⟩, 10) := ⟨⟨by decide +kernel, by decide +kernel⟩, List.mem_of_getElem? (i := 35) (by decide +kernel), List.mem_of_getElem? (i := 698) (by decide +kernel), List.mem_of_getElem? (i := 699) (by decide +kernel)⟩
theorem lw_p11 : lw_okq (⟨"WindowRoll$Reader", "refuse", "()V"⟩, 10) := ⟨⟨by decide +kernel, by decide +kernel⟩, List.mem_of_getElem? (i := 35) (by decide +kernel), List.mem_of_getElem? (i := 702) (by decide +kernel), List.mem_of_getElem? (i := 703) (by decide +kernel)⟩
theorem lw_p12 : lw_okq (⟨"WindowRoll$Reader", "takes", "(LWindowRoll$Word;)Z"⟩, 10) := ⟨⟨by decide +kernel, by decide +kernel⟩, List.mem_of_getElem? (i := 35) (by decide +kernel), List.mem_of_getElem? (i := 708) (by decide +kernel), List.mem_of_getElem? (i := 709) (by decide +kernel)⟩
theorem lw_p13 : lw_okq (⟨"WindowRoll$Reader", "readFrom", "()V"⟩, 10) := ⟨⟨by decide +kernel, by decide +kernel⟩, List.mem_of_getElem? (i := 35) (by decide +kernel), List.mem_of_getElem? (i := 712) (by decide +kernel), List.mem_of_getElem? (i := 713) (by decide +kernel)⟩
theorem lw_p14 : lw_okq (⟨"WindowRoll$Reader", "readNumber", "()I"⟩, 10) := ⟨⟨by decide +kernel, by decide +kernel⟩, List.mem_of_getElem? (i := 35) (by decide +kernel), List.mem_of_getElem? (i := 716) (by decide +kernel), List.mem_of_getElem? (i := 717) (by decide +kernel)⟩
theorem lw_p15 : lw_okq (⟨"WindowRoll$Reader", "readSum", "(I)V"⟩, 10) := ⟨⟨by decide +kernel, by decide +kernel⟩, List.mem_of_getElem? (i := 35) (by decide +kernel), List.mem_of_getElem? (i := 728) (by decide +kernel), List.mem_of_getElem? (i := 729) (by decide +kernel)⟩
def lw_privs_1 : List (MethodName × Nat) := [(⟨"WindowRoll", "stands", "(I)Z"⟩, 16), (⟨"WindowRoll", "exists", "(I)Z"⟩, 16), (⟨"WindowRoll", "hasOpening", "(II)Z"⟩, 16), (⟨"WindowRoll$Reader", "begin", "(LWindowRoll$Text;Z)V"⟩, 10), (⟨"WindowRoll$Reader", "scan", "(I)I"⟩, 10), (⟨"WindowRoll$Reader", "scanWord", "(I)I"⟩, 10), (⟨"WindowRoll$Reader", "isOnTape", "(Ljava/lang/String;II)Z"⟩, 10), (⟨"WindowRoll$Reader", "note", "(III)V"⟩, 10), (⟨"WindowRoll$Reader", "scanNumber", "(I)I"⟩, 10), (⟨"WindowRoll$Reader", "isAt", "(I)Z"⟩, 10), (⟨"WindowRoll$Reader", "readRule", "()V"⟩, 10), (⟨"WindowRoll$Reader", "refuse", "()V"⟩, 10), (⟨"WindowRoll$Reader", "takes", "(LWindowRoll$Word;)Z"⟩, 10), (⟨"WindowRoll$Reader", "readFrom", "()V"⟩, 10), (⟨"WindowRoll$Reader", "readNumber", "()I"⟩, 10), (⟨"WindowRoll$Reader", "readSum", "(I)V"⟩, 10)]
theorem lw_r1 : ∀ q ∈ lw_privs_1, lw_okq q := List.forall_mem_cons.mpr ⟨lw_p0, List.forall_mem_cons.mpr ⟨lw_p1, List.forall_mem_cons.mpr ⟨lw_p2, List.forall_mem_cons.mpr ⟨lw_p3, List.forall_mem_cons.mpr ⟨lw_p4, List.forall_mem_cons.mpr ⟨lw_p5, List.forall_mem_cons.mpr ⟨lw_p6, List.forall_mem_cons.mpr ⟨lw_p7, List.forall_mem_cons.mpr ⟨lw_p8, List.forall_mem_cons.mpr ⟨lw_p9, List.forall_mem_cons.mpr ⟨lw_p10, List.forall_mem_cons.mpr ⟨lw_p11, List.forall_mem_cons.mpr ⟨lw_p12, List.forall_mem_cons.mpr ⟨lw_p13, List.forall_mem_cons.mpr ⟨lw_p14, List.forall_mem_cons.mpr ⟨lw_p15, fun _ h => absurd h List.not_mem_nil⟩⟩⟩⟩⟩⟩⟩⟩⟩⟩⟩⟩⟩⟩⟩⟩
theorem lw_p16 : lw_okq (⟨"WindowRoll$Reader", "readTerm", "(I)V"⟩, 10) := ⟨⟨by decide +kernel, by decide +kernel⟩, List.mem_of_getElem? (i := 35) (by decide +kernel), List.mem_of_getElem? (i := 732) (by decide +kernel), List.mem_of_getElem? (i := 733) (by decide +kernel)⟩
theorem lw_p17 : lw_okq (⟨"WindowRoll$Reader", "readFactor", "(I)V"⟩, 10) := ⟨⟨by decide +kernel, by decide +kernel⟩, List.mem_of_getElem? (i := 35) (by decide +kernel), List.mem_of_getElem? (i := 736) (by decide +kernel), List.mem_of_getElem? (i := 737) (by decide +kernel)⟩
theorem lw_p18 : lw_okq (⟨"WindowRoll$Reader", "needOpened", "(I)V"⟩, 10) := ⟨⟨by decide +kernel, by decide +kernel⟩, List.mem_of_getElem? (i := 35) (by decide +kernel), List.mem_of_getElem? (i := 744) (by decide +kernel), List.mem_of_getElem? (i := 745) (by decide +kernel)⟩
theorem lw_p19 : lw_okq (⟨"WindowRoll$Reader", "takes", "(I)Z"⟩, 10) := ⟨⟨by decide +kernel, by decide +kernel⟩, List.mem_of_getElem? (i := 35) (by decide +kernel), List.mem_of_getElem? (i := 748) (by decide +kernel), List.mem_of_getElem? (i := 749) (by decide +kernel)⟩
theorem lw_p20 : lw_okq (⟨"WindowRoll$Reader", "readInner", "(I)V"⟩, 10) := ⟨⟨by decide +kernel, by decide +kernel⟩, List.mem_of_getElem? (i := 35) (by decide +kernel), List.mem_of_getElem? (i := 752) (by decide +kernel), List.mem_of_getElem? (i := 753) (by decide +kernel)⟩
theorem lw_p21 : lw_okq (⟨"WindowRoll$Reader", "need", "(I)V"⟩, 10) := ⟨⟨by decide +kernel, by decide +kernel⟩, List.mem_of_getElem? (i := 35) (by decide +kernel), List.mem_of_getElem? (i := 756) (by decide +kernel), List.mem_of_getElem? (i := 757) (by decide +kernel)⟩
theorem lw_p22 : lw_okq (⟨"WindowRoll$Reader", "readTwo", "(I)V"⟩, 10) := ⟨⟨by decide +kernel, by decide +kernel⟩, List.mem_of_getElem? (i := 35) (by decide +kernel), List.mem_of_getElem? (i := 762) (by decide +kernel), List.mem_of_getElem? (i := 763) (by decide +kernel)⟩
theorem lw_p23 : lw_okq (⟨"WindowRoll$Reader", "readName", "()LWindowRoll$Word;"⟩, 10) := ⟨⟨by decide +kernel, by decide +kernel⟩, List.mem_of_getElem? (i := 35) (by decide +kernel), List.mem_of_getElem? (i := 768) (by decide +kernel), List.mem_of_getElem? (i := 769) (by decide +kernel)⟩
theorem lw_p24 : lw_okq (⟨"WindowRoll$Reader", "readConds", "(I)V"⟩, 10) := ⟨⟨by decide +kernel, by decide +kernel⟩, List.mem_of_getElem? (i := 35) (by decide +kernel), List.mem_of_getElem? (i := 786) (by decide +kernel), List.mem_of_getElem? (i := 787) (by decide +kernel)⟩
theorem lw_p25 : lw_okq (⟨"WindowRoll$Reader", "readAll", "(I)V"⟩, 10) := ⟨⟨by decide +kernel, by decide +kernel⟩, List.mem_of_getElem? (i := 35) (by decide +kernel), List.mem_of_getElem? (i := 790) (by decide +kernel), List.mem_of_getElem? (i := 791) (by decide +kernel)⟩
theorem lw_p26 : lw_okq (⟨"WindowRoll$Reader", "readCond", "(I)V"⟩, 10) := ⟨⟨by decide +kernel, by decide +kernel⟩, List.mem_of_getElem? (i := 35) (by decide +kernel), List.mem_of_getElem? (i := 794) (by decide +kernel), List.mem_of_getElem? (i := 795) (by decide +kernel)⟩
theorem lw_p27 : lw_okq (⟨"WindowRoll$Reader", "finish", "()I"⟩, 10) := ⟨⟨by decide +kernel, by decide +kernel⟩, List.mem_of_getElem? (i := 35) (by decide +kernel), List.mem_of_getElem? (i := 808) (by decide +kernel), List.mem_of_getElem? (i := 809) (by decide +kernel)⟩
theorem lw_p28 : lw_okq (⟨"WindowRoll$Law", "tellHouse", "(LWindowRoll$House;I)V"⟩, 6) := ⟨⟨by decide +kernel, by decide +kernel⟩, List.mem_of_getElem? (i := 74) (by decide +kernel), List.mem_of_getElem? (i := 832) (by decide +kernel), List.mem_of_getElem? (i := 833) (by decide +kernel)⟩
theorem lw_p29 : lw_okq (⟨"WindowRoll$Law", "tellOpening", "(LWindowRoll$Opening;)V"⟩, 6) := ⟨⟨by decide +kernel, by decide +kernel⟩, List.mem_of_getElem? (i := 74) (by decide +kernel), List.mem_of_getElem? (i := 851) (by decide +kernel), List.mem_of_getElem? (i := 852) (by decide +kernel)⟩
theorem lw_p30 : lw_okq (⟨"WindowRoll$Law", "worked", "([III)J"⟩, 6) := ⟨⟨by decide +kernel, by decide +kernel⟩, List.mem_of_getElem? (i := 74) (by decide +kernel), List.mem_of_getElem? (i := 869) (by decide +kernel), List.mem_of_getElem? (i := 870) (by decide +kernel)⟩
theorem lw_p31 : lw_okq (⟨"WindowRoll", "payment", "(LWindowRoll$Text;I)J"⟩, 16) := ⟨⟨by decide +kernel, by decide +kernel⟩, List.mem_of_getElem? (i := 25) (by decide +kernel), List.mem_of_getElem? (i := 928) (by decide +kernel), List.mem_of_getElem? (i := 929) (by decide +kernel)⟩
def lw_privs_2 : List (MethodName × Nat) := [(⟨"WindowRoll$Reader", "readTerm", "(I)V"⟩, 10), (⟨"WindowRoll$Reader", "readFactor", "(I)V"⟩, 10), (⟨"WindowRoll$Reader", "needOpened", "(I)V"⟩, 10), (⟨"WindowRoll$Reader", "takes", "(I)Z"⟩, 10), (⟨"WindowRoll$Reader", "readInner", "(I)V"⟩, 10), (⟨"WindowRoll$Reader", "need", "(I)V"⟩, 10), (⟨"WindowRoll$Reader", "readTwo", "(I)V"⟩, 10), (⟨"WindowRoll$Reader", "readName", "()LWindowRoll$Word;"⟩, 10), (⟨"WindowRoll$Reader", "readConds", "(I)V"⟩, 10), (⟨"WindowRoll$Reader", "readAll", "(I)V"⟩, 10), (⟨"WindowRoll$Reader", "readCond", "(I)V"⟩, 10), (⟨"WindowRoll$Reader", "finish", "()I"⟩, 10), (⟨"WindowRoll$Law", "tellHouse", "(LWindowRoll$House;I)V"⟩, 6), (⟨"WindowRoll$Law", "tellOpening", "(LWindowRoll$Opening;)V"⟩, 6), (⟨"WindowRoll$Law", "worked", "([III)J"⟩, 6), (⟨"WindowRoll", "payment", "(LWindowRoll$Text;I)J"⟩, 16)]
theorem lw_r2 : ∀ q ∈ lw_privs_2, lw_okq q := List.forall_mem_cons.mpr ⟨lw_p16, List.forall_mem_cons.mpr ⟨lw_p17, List.forall_mem_cons.mpr ⟨lw_p18, List.forall_mem_cons.mpr ⟨lw_p19, List.forall_mem_cons.mpr ⟨lw_p20, List.forall_mem_cons.mpr ⟨lw_p21, List.forall_mem_cons.mpr ⟨lw_p22, List.forall_mem_cons.mpr ⟨lw_p23, List.forall_mem_cons.mpr ⟨lw_p24, List.forall_mem_cons.mpr ⟨lw_p25, List.forall_mem_cons.mpr ⟨lw_p26, List.forall_mem_cons.mpr ⟨lw_p27, List.forall_mem_cons.mpr ⟨lw_p28, List.forall_mem_cons.mpr ⟨lw_p29, List.forall_mem_cons.mpr ⟨lw_p30, List.forall_mem_cons.mpr ⟨lw_p31, fun _ h => absurd h List.not_mem_nil⟩⟩⟩⟩⟩⟩⟩⟩⟩⟩⟩⟩⟩⟩⟩⟩
theorem lw_p32 : lw_okq (⟨"WindowRoll", "leastUnderRoofOf", "(I)I"⟩, 16) := ⟨⟨by decide +kernel, by decide +kernel⟩, List.mem_of_getElem? (i := 25) (by decide +kernel), List.mem_of_getElem? (i := 932) (by decide +kernel), List.mem_of_getElem? (i := 933) (by decide +kernel)⟩
theorem lw_p33 : lw_okq (⟨"WindowRoll$Planner", "makeRoom", "()V"⟩, 15) := ⟨⟨by decide +kernel, by decide +kernel⟩, List.mem_of_getElem? (i := 215) (by decide +kernel), List.mem_of_getElem? (i := 946) (by decide +kernel), List.mem_of_getElem? (i := 947) (by decide +kernel)⟩
theorem lw_p34 : lw_okq (⟨"WindowRoll$Planner", "weighSets", "(LWindowRoll$Text;LWindowRoll$House;I)V"⟩, 15) := ⟨⟨by decide +kernel, by decide +kernel⟩, List.mem_of_getElem? (i := 215) (by decide +kernel), List.mem_of_getElem? (i := 957) (by decide +kernel), List.mem_of_getElem? (i := 958) (by decide +kernel)⟩
theorem lw_p35 : lw_okq (⟨"WindowRoll$Planner", "allowChanges", "(II)V"⟩, 15) := ⟨⟨by decide +kernel, by decide +kernel⟩, List.mem_of_getElem? (i := 215) (by decide +kernel), List.mem_of_getElem? (i := 966) (by decide +kernel), List.mem_of_getElem? (i := 967) (by decide +kernel)⟩
theorem lw_p36 : lw_okq (⟨"WindowRoll$Planner", "choose", "(IIII)I"⟩, 15) := ⟨⟨by decide +kernel, by decide +kernel⟩, List.mem_of_getElem? (i := 215) (by decide +kernel), List.mem_of_getElem? (i := 971) (by decide +kernel), List.mem_of_getElem? (i := 972) (by decide +kernel)⟩
theorem lw_p37 : lw_okq (⟨"WindowRoll$Court", "distance", "(ILWindowRoll$Opening;)I"⟩, 3) := ⟨⟨by decide +kernel, by decide +kernel⟩, List.mem_of_getElem? (i := 153) (by decide +kernel), List.mem_of_getElem? (i := 1025) (by decide +kernel), List.mem_of_getElem? (i := 1026) (by decide +kernel)⟩
theorem lw_p38 : lw_okq (⟨"WindowRoll", "releaseFallen", "(LWindowRoll$House;)V"⟩, 16) := ⟨⟨by decide +kernel, by decide +kernel⟩, List.mem_of_getElem? (i := 25) (by decide +kernel), List.mem_of_getElem? (i := 1051) (by decide +kernel), List.mem_of_getElem? (i := 1052) (by decide +kernel)⟩
theorem lw_p39 : lw_okq (⟨"WindowRoll", "isIn", "(II)Z"⟩, 16) := ⟨⟨by decide +kernel, by decide +kernel⟩, List.mem_of_getElem? (i := 25) (by decide +kernel), List.mem_of_getElem? (i := 1067) (by decide +kernel), List.mem_of_getElem? (i := 1068) (by decide +kernel)⟩
theorem lw_p40 : lw_okq (⟨"WindowRoll", "widenRoutes", "(II)V"⟩, 16) := ⟨⟨by decide +kernel, by decide +kernel⟩, List.mem_of_getElem? (i := 25) (by decide +kernel), List.mem_of_getElem? (i := 1102) (by decide +kernel), List.mem_of_getElem? (i := 1103) (by decide +kernel)⟩
theorem lw_p41 : lw_okq (⟨"WindowRoll", "isOnRecord", "(III)Z"⟩, 16) := ⟨⟨by decide +kernel, by decide +kernel⟩, List.mem_of_getElem? (i := 25) (by decide +kernel), List.mem_of_getElem? (i := 1133) (by decide +kernel), List.mem_of_getElem? (i := 1134) (by decide +kernel)⟩
theorem lw_p42 : lw_okq (⟨"WindowRoll$Reader", "readWhat", "()V"⟩, 10) := ⟨⟨by decide +kernel, by decide +kernel⟩, List.mem_of_getElem? (i := 35) (by decide +kernel), List.mem_of_getElem? (i := 1168) (by decide +kernel), List.mem_of_getElem? (i := 1169) (by decide +kernel)⟩
theorem lw_p43 : lw_okq (⟨"WindowRoll", "askLine", "(LWindowRoll$Text;ILWindowRoll$House;)V"⟩, 16) := ⟨⟨by decide +kernel, by decide +kernel⟩, List.mem_of_getElem? (i := 25) (by decide +kernel), List.mem_of_getElem? (i := 1189) (by decide +kernel), List.mem_of_getElem? (i := 1190) (by decide +kernel)⟩
theorem lw_p44 : lw_okq (⟨"WindowRoll$Answers", "merged", "(JJ)J"⟩, 5) := ⟨⟨by decide +kernel, by decide +kernel⟩, List.mem_of_getElem? (i := 275) (by decide +kernel), List.mem_of_getElem? (i := 1217) (by decide +kernel), List.mem_of_getElem? (i := 1218) (by decide +kernel)⟩
theorem lw_p45 : lw_okq (⟨"WindowRoll$Answers", "open", "(I)V"⟩, 5) := ⟨⟨by decide +kernel, by decide +kernel⟩, List.mem_of_getElem? (i := 275) (by decide +kernel), List.mem_of_getElem? (i := 1223) (by decide +kernel), List.mem_of_getElem? (i := 1224) (by decide +kernel)⟩
theorem lw_p46 : lw_okq (⟨"WindowRoll$Rows", "leastCost", "(IIIII)I"⟩, 6) := ⟨⟨by decide +kernel, by decide +kernel⟩, List.mem_of_getElem? (i := 301) (by decide +kernel), List.mem_of_getElem? (i := 1241) (by decide +kernel), List.mem_of_getElem? (i := 1242) (by decide +kernel)⟩
theorem lw_p47 : lw_okq (⟨"WindowRoll$Rows", "pairCost", "(IIII)I"⟩, 6) := ⟨⟨by decide +kernel, by decide +kernel⟩, List.mem_of_getElem? (i := 301) (by decide +kernel), List.mem_of_getElem? (i := 1246) (by decide +kernel), List.mem_of_getElem? (i := 1247) (by decide +kernel)⟩
def lw_privs_3 : List (MethodName × Nat) := [(⟨"WindowRoll", "leastUnderRoofOf", "(I)I"⟩, 16), (⟨"WindowRoll$Planner", "makeRoom", "()V"⟩, 15), (⟨"WindowRoll$Planner", "weighSets", "(LWindowRoll$Text;LWindowRoll$House;I)V"⟩, 15), (⟨"WindowRoll$Planner", "allowChanges", "(II)V"⟩, 15), (⟨"WindowRoll$Planner", "choose", "(IIII)I"⟩, 15), (⟨"WindowRoll$Court", "distance", "(ILWindowRoll$Opening;)I"⟩, 3), (⟨"WindowRoll", "releaseFallen", "(LWindowRoll$House;)V"⟩, 16), (⟨"WindowRoll", "isIn", "(II)Z"⟩, 16), (⟨"WindowRoll", "widenRoutes", "(II)V"⟩, 16), (⟨"WindowRoll", "isOnRecord", "(III)Z"⟩, 16), (⟨"WindowRoll$Reader", "readWhat", "()V"⟩, 10), (⟨"WindowRoll", "askLine", "(LWindowRoll$Text;ILWindowRoll$House;)V"⟩, 16), (⟨"WindowRoll$Answers", "merged", "(JJ)J"⟩, 5), (⟨"WindowRoll$Answers", "open", "(I)V"⟩, 5), (⟨"WindowRoll$Rows", "leastCost", "(IIIII)I"⟩, 6), (⟨"WindowRoll$Rows", "pairCost", "(IIII)I"⟩, 6)]
theorem lw_r3 : ∀ q ∈ lw_privs_3, lw_okq q := List.forall_mem_cons.mpr ⟨lw_p32, List.forall_mem_cons.mpr ⟨lw_p33, List.forall_mem_cons.mpr ⟨lw_p34, List.forall_mem_cons.mpr ⟨lw_p35, List.forall_mem_cons.mpr ⟨lw_p36, List.forall_mem_cons.mpr ⟨lw_p37, List.forall_mem_cons.mpr ⟨lw_p38, List.forall_mem_cons.mpr ⟨lw_p39, List.forall_mem_cons.mpr ⟨lw_p40, List.forall_mem_cons.mpr ⟨lw_p41, List.forall_mem_cons.mpr ⟨lw_p42, List.forall_mem_cons.mpr ⟨lw_p43, List.forall_mem_cons.mpr ⟨lw_p44, List.forall_mem_cons.mpr ⟨lw_p45, List.forall_mem_cons.mpr ⟨lw_p46, List.forall_mem_cons.mpr ⟨lw_p47, fun _ h => absurd h List.not_mem_nil⟩⟩⟩⟩⟩⟩⟩⟩⟩⟩⟩⟩⟩⟩⟩⟩
theorem lw_p48 : lw_okq (⟨"WindowRoll$Rows", "notePairs", "(III)V"⟩, 6) := ⟨⟨by decide +kernel, by decide +kernel⟩, List.mem_of_getElem? (i := 301) (by decide +kernel), List.mem_of_getElem? (i := 1251) (by decide +kernel), List.mem_of_getElem? (i := 1252) (by decide +kernel)⟩
theorem lw_p49 : lw_okq (⟨"WindowRoll", "excused", "()I"⟩, 16) := ⟨⟨by decide +kernel, by decide +kernel⟩, List.mem_of_getElem? (i := 25) (by decide +kernel), List.mem_of_getElem? (i := 1309) (by decide +kernel), List.mem_of_getElem? (i := 1310) (by decide +kernel)⟩
theorem lw_p50 : lw_okq (⟨"WindowRollModel", "isUp", "(I)Z"⟩, 109) := ⟨⟨by decide +kernel, by decide +kernel⟩, List.mem_of_getElem? (i := 1347) (by decide +kernel), List.mem_of_getElem? (i := 1732) (by decide +kernel), List.mem_of_getElem? (i := 1733) (by decide +kernel)⟩
theorem lw_p51 : lw_okq (⟨"WindowRollModel", "isHouse", "(I)Z"⟩, 109) := ⟨⟨by decide +kernel, by decide +kernel⟩, List.mem_of_getElem? (i := 1347) (by decide +kernel), List.mem_of_getElem? (i := 1736) (by decide +kernel), List.mem_of_getElem? (i := 1737) (by decide +kernel)⟩
theorem lw_p52 : lw_okq (⟨"WindowRollModel", "isOpening", "(II)Z"⟩, 109) := ⟨⟨by decide +kernel, by decide +kernel⟩, List.mem_of_getElem? (i := 1347) (by decide +kernel), List.mem_of_getElem? (i := 1752) (by decide +kernel), List.mem_of_getElem? (i := 1753) (by decide +kernel)⟩
theorem lw_p53 : lw_okq (⟨"WindowRollModel", "takesTape", "(I)V"⟩, 109) := ⟨⟨by decide +kernel, by decide +kernel⟩, List.mem_of_getElem? (i := 1347) (by decide +kernel), List.mem_of_getElem? (i := 1785) (by decide +kernel), List.mem_of_getElem? (i := 1786) (by decide +kernel)⟩
theorem lw_p54 : lw_okq (⟨"WindowRollModel", "reads", "(IIIJI)V"⟩, 109) := ⟨⟨by decide +kernel, by decide +kernel⟩, List.mem_of_getElem? (i := 1347) (by decide +kernel), List.mem_of_getElem? (i := 1789) (by decide +kernel), List.mem_of_getElem? (i := 1790) (by decide +kernel)⟩
theorem lw_p55 : lw_okq (⟨"WindowRollModel", "starts", "(I)V"⟩, 109) := ⟨⟨by decide +kernel, by decide +kernel⟩, List.mem_of_getElem? (i := 1347) (by decide +kernel), List.mem_of_getElem? (i := 1794) (by decide +kernel), List.mem_of_getElem? (i := 1795) (by decide +kernel)⟩
theorem lw_p56 : lw_okq (⟨"WindowRollModel", "goesOn", "()V"⟩, 109) := ⟨⟨by decide +kernel, by decide +kernel⟩, List.mem_of_getElem? (i := 1347) (by decide +kernel), List.mem_of_getElem? (i := 1798) (by decide +kernel), List.mem_of_getElem? (i := 1799) (by decide +kernel)⟩
theorem lw_p57 : lw_okq (⟨"WindowRollModel", "see", "(I)I"⟩, 109) := ⟨⟨by decide +kernel, by decide +kernel⟩, List.mem_of_getElem? (i := 1347) (by decide +kernel), List.mem_of_getElem? (i := 1802) (by decide +kernel), List.mem_of_getElem? (i := 1803) (by decide +kernel)⟩
theorem lw_p58 : lw_okq (⟨"WindowRollModel", "rule", "()V"⟩, 109) := ⟨⟨by decide +kernel, by decide +kernel⟩, List.mem_of_getElem? (i := 1347) (by decide +kernel), List.mem_of_getElem? (i := 1815) (by decide +kernel), List.mem_of_getElem? (i := 1816) (by decide +kernel)⟩
theorem lw_p59 : lw_okq (⟨"WindowRollModel", "is", "(Ljava/lang/String;)Z"⟩, 109) := ⟨⟨by decide +kernel, by decide +kernel⟩, List.mem_of_getElem? (i := 1347) (by decide +kernel), List.mem_of_getElem? (i := 1820) (by decide +kernel), List.mem_of_getElem? (i := 1821) (by decide +kernel)⟩
theorem lw_p60 : lw_okq (⟨"WindowRollModel", "bad", "()V"⟩, 109) := ⟨⟨by decide +kernel, by decide +kernel⟩, List.mem_of_getElem? (i := 1347) (by decide +kernel), List.mem_of_getElem? (i := 1830) (by decide +kernel), List.mem_of_getElem? (i := 1831) (by decide +kernel)⟩
theorem lw_p61 : lw_okq (⟨"WindowRollModel", "whole", "()I"⟩, 109) := ⟨⟨by decide +kernel, by decide +kernel⟩, List.mem_of_getElem? (i := 1347) (by decide +kernel), List.mem_of_getElem? (i := 1834) (by decide +kernel), List.mem_of_getElem? (i := 1835) (by decide +kernel)⟩
theorem lw_p62 : lw_okq (⟨"WindowRollModel", "sum", "()J"⟩, 109) := ⟨⟨by decide +kernel, by decide +kernel⟩, List.mem_of_getElem? (i := 1347) (by decide +kernel), List.mem_of_getElem? (i := 1840) (by decide +kernel), List.mem_of_getElem? (i := 1841) (by decide +kernel)⟩
theorem lw_p63 : lw_okq (⟨"WindowRollModel", "term", "()J"⟩, 109) := ⟨⟨by decide +kernel, by decide +kernel⟩, List.mem_of_getElem? (i := 1347) (by decide +kernel), List.mem_of_getElem? (i := 1844) (by decide +kernel), List.mem_of_getElem? (i := 1845) (by decide +kernel)⟩
def lw_privs_4 : List (MethodName × Nat) := [(⟨"WindowRoll$Rows", "notePairs", "(III)V"⟩, 6), (⟨"WindowRoll", "excused", "()I"⟩, 16), (⟨"WindowRollModel", "isUp", "(I)Z"⟩, 109), (⟨"WindowRollModel", "isHouse", "(I)Z"⟩, 109), (⟨"WindowRollModel", "isOpening", "(II)Z"⟩, 109), (⟨"WindowRollModel", "takesTape", "(I)V"⟩, 109), (⟨"WindowRollModel", "reads", "(IIIJI)V"⟩, 109), (⟨"WindowRollModel", "starts", "(I)V"⟩, 109), (⟨"WindowRollModel", "goesOn", "()V"⟩, 109), (⟨"WindowRollModel", "see", "(I)I"⟩, 109), (⟨"WindowRollModel", "rule", "()V"⟩, 109), (⟨"WindowRollModel", "is", "(Ljava/lang/String;)Z"⟩, 109), (⟨"WindowRollModel", "bad", "()V"⟩, 109), (⟨"WindowRollModel", "whole", "()I"⟩, 109), (⟨"WindowRollModel", "sum", "()J"⟩, 109), (⟨"WindowRollModel", "term", "()J"⟩, 109)]
theorem lw_r4 : ∀ q ∈ lw_privs_4, lw_okq q := List.forall_mem_cons.mpr ⟨lw_p48, List.forall_mem_cons.mpr ⟨lw_p49, List.forall_mem_cons.mpr ⟨lw_p50, List.forall_mem_cons.mpr ⟨lw_p51, List.forall_mem_cons.mpr ⟨lw_p52, List.forall_mem_cons.mpr ⟨lw_p53, List.forall_mem_cons.mpr ⟨lw_p54, List.forall_mem_cons.mpr ⟨lw_p55, List.forall_mem_cons.mpr ⟨lw_p56, List.forall_mem_cons.mpr ⟨lw_p57, List.forall_mem_cons.mpr ⟨lw_p58, List.forall_mem_cons.mpr ⟨lw_p59, List.forall_mem_cons.mpr ⟨lw_p60, List.forall_mem_cons.mpr ⟨lw_p61, List.forall_mem_cons.mpr ⟨lw_p62, List.forall_mem_cons.mpr ⟨lw_p63, fun _ h => absurd h List.not_mem_nil⟩⟩⟩⟩⟩⟩⟩⟩⟩⟩⟩⟩⟩⟩⟩⟩
theorem lw_p64 : lw_okq (⟨"WindowRollModel", "factor", "()J"⟩, 109) := ⟨⟨by decide +kernel, by decide +kernel⟩, List.mem_of_getElem? (i := 1347) (by decide +kernel), List.mem_of_getElem? (i := 1848) (by decide +kernel), List.mem_of_getElem? (i := 1849) (by decide +kernel)⟩
theorem lw_p65 : lw_okq (⟨"WindowRollModel", "opens", "()V"⟩, 109) := ⟨⟨by decide +kernel, by decide +kernel⟩, List.mem_of_getElem? (i := 1347) (by decide +kernel), List.mem_of_getElem? (i := 1854) (by decide +kernel), List.mem_of_getElem? (i := 1855) (by decide +kernel)⟩
theorem lw_p66 : lw_okq (⟨"WindowRollModel", "isSign", "(I)Z"⟩, 109) := ⟨⟨by decide +kernel, by decide +kernel⟩, List.mem_of_getElem? (i := 1347) (by decide +kernel), List.mem_of_getElem? (i := 1858) (by decide +kernel), List.mem_of_getElem? (i := 1859) (by decide +kernel)⟩
theorem lw_p67 : lw_okq (⟨"WindowRollModel", "need", "(I)V"⟩, 109) := ⟨⟨by decide +kernel, by decide +kernel⟩, List.mem_of_getElem? (i := 1347) (by decide +kernel), List.mem_of_getElem? (i := 1862) (by decide +kernel), List.mem_of_getElem? (i := 1863) (by decide +kernel)⟩
theorem lw_p68 : lw_okq (⟨"WindowRollModel", "shuts", "()V"⟩, 109) := ⟨⟨by decide +kernel, by decide +kernel⟩, List.mem_of_getElem? (i := 1347) (by decide +kernel), List.mem_of_getElem? (i := 1866) (by decide +kernel), List.mem_of_getElem? (i := 1867) (by decide +kernel)⟩
theorem lw_p69 : lw_okq (⟨"WindowRollModel", "named", "(Ljava/lang/String;)I"⟩, 109) := ⟨⟨by decide +kernel, by decide +kernel⟩, List.mem_of_getElem? (i := 1347) (by decide +kernel), List.mem_of_getElem? (i := 1874) (by decide +kernel), List.mem_of_getElem? (i := 1875) (by decide +kernel)⟩
theorem lw_p70 : lw_okq (⟨"WindowRollModel", "lineValue", "(I)J"⟩, 109) := ⟨⟨by decide +kernel, by decide +kernel⟩, List.mem_of_getElem? (i := 1347) (by decide +kernel), List.mem_of_getElem? (i := 1929) (by decide +kernel), List.mem_of_getElem? (i := 1930) (by decide +kernel)⟩
theorem lw_p71 : lw_okq (⟨"WindowRollModel", "actValue", "(I)J"⟩, 109) := ⟨⟨by decide +kernel, by decide +kernel⟩, List.mem_of_getElem? (i := 1347) (by decide +kernel), List.mem_of_getElem? (i := 1933) (by decide +kernel), List.mem_of_getElem? (i := 1934) (by decide +kernel)⟩
theorem lw_p72 : lw_okq (⟨"WindowRollModel", "kindOf", "(II)I"⟩, 109) := ⟨⟨by decide +kernel, by decide +kernel⟩, List.mem_of_getElem? (i := 1347) (by decide +kernel), List.mem_of_getElem? (i := 1938) (by decide +kernel), List.mem_of_getElem? (i := 1939) (by decide +kernel)⟩
theorem lw_p73 : lw_okq (⟨"WindowRollModel", "floorOf", "(II)I"⟩, 109) := ⟨⟨by decide +kernel, by decide +kernel⟩, List.mem_of_getElem? (i := 1347) (by decide +kernel), List.mem_of_getElem? (i := 1942) (by decide +kernel), List.mem_of_getElem? (i := 1943) (by decide +kernel)⟩
theorem lw_p74 : lw_okq (⟨"WindowRollModel", "conds", "()Z"⟩, 109) := ⟨⟨by decide +kernel, by decide +kernel⟩, List.mem_of_getElem? (i := 1347) (by decide +kernel), List.mem_of_getElem? (i := 1947) (by decide +kernel), List.mem_of_getElem? (i := 1948) (by decide +kernel)⟩
theorem lw_p75 : lw_okq (⟨"WindowRollModel", "all", "()Z"⟩, 109) := ⟨⟨by decide +kernel, by decide +kernel⟩, List.mem_of_getElem? (i := 1347) (by decide +kernel), List.mem_of_getElem? (i := 1951) (by decide +kernel), List.mem_of_getElem? (i := 1952) (by decide +kernel)⟩
theorem lw_p76 : lw_okq (⟨"WindowRollModel", "cond", "()Z"⟩, 109) := ⟨⟨by decide +kernel, by decide +kernel⟩, List.mem_of_getElem? (i := 1347) (by decide +kernel), List.mem_of_getElem? (i := 1955) (by decide +kernel), List.mem_of_getElem? (i := 1956) (by decide +kernel)⟩
theorem lw_p77 : lw_okq (⟨"WindowRollModel", "copies", "(II)V"⟩, 109) := ⟨⟨by decide +kernel, by decide +kernel⟩, List.mem_of_getElem? (i := 1347) (by decide +kernel), List.mem_of_getElem? (i := 1962) (by decide +kernel), List.mem_of_getElem? (i := 1963) (by decide +kernel)⟩
theorem lw_p78 : lw_okq (⟨"WindowRollModel", "actOf", "(I)I"⟩, 109) := ⟨⟨by decide +kernel, by decide +kernel⟩, List.mem_of_getElem? (i := 1347) (by decide +kernel), List.mem_of_getElem? (i := 1974) (by decide +kernel), List.mem_of_getElem? (i := 1975) (by decide +kernel)⟩
theorem lw_p79 : lw_okq (⟨"WindowRollModel", "weightOf", "(IIII)I"⟩, 109) := ⟨⟨by decide +kernel, by decide +kernel⟩, List.mem_of_getElem? (i := 1347) (by decide +kernel), List.mem_of_getElem? (i := 1978) (by decide +kernel), List.mem_of_getElem? (i := 1979) (by decide +kernel)⟩
def lw_privs_5 : List (MethodName × Nat) := [(⟨"WindowRollModel", "factor", "()J"⟩, 109), (⟨"WindowRollModel", "opens", "()V"⟩, 109), (⟨"WindowRollModel", "isSign", "(I)Z"⟩, 109), (⟨"WindowRollModel", "need", "(I)V"⟩, 109), (⟨"WindowRollModel", "shuts", "()V"⟩, 109), (⟨"WindowRollModel", "named", "(Ljava/lang/String;)I"⟩, 109), (⟨"WindowRollModel", "lineValue", "(I)J"⟩, 109), (⟨"WindowRollModel", "actValue", "(I)J"⟩, 109), (⟨"WindowRollModel", "kindOf", "(II)I"⟩, 109), (⟨"WindowRollModel", "floorOf", "(II)I"⟩, 109), (⟨"WindowRollModel", "conds", "()Z"⟩, 109), (⟨"WindowRollModel", "all", "()Z"⟩, 109), (⟨"WindowRollModel", "cond", "()Z"⟩, 109), (⟨"WindowRollModel", "copies", "(II)V"⟩, 109), (⟨"WindowRollModel", "actOf", "(I)I"⟩, 109), (⟨"WindowRollModel", "weightOf", "(IIII)I"⟩, 109)]
theorem lw_r5 : ∀ q ∈ lw_privs_5, lw_okq q := List.forall_mem_cons.mpr ⟨lw_p64, List.forall_mem_cons.mpr ⟨lw_p65, List.forall_mem_cons.mpr ⟨lw_p66, List.forall_mem_cons.mpr ⟨lw_p67, List.forall_mem_cons.mpr ⟨lw_p68, List.forall_mem_cons.mpr ⟨lw_p69, List.forall_mem_cons.mpr ⟨lw_p70, List.forall_mem_cons.mpr ⟨lw_p71, List.forall_mem_cons.mpr ⟨lw_p72, List.forall_mem_cons.mpr ⟨lw_p73, List.forall_mem_cons.mpr ⟨lw_p74, List.forall_mem_cons.mpr ⟨lw_p75, List.forall_mem_cons.mpr ⟨lw_p76, List.forall_mem_cons.mpr ⟨lw_p77, List.forall_mem_cons.mpr ⟨lw_p78, List.forall_mem_cons.mpr ⟨lw_p79, fun _ h => absurd h List.not_mem_nil⟩⟩⟩⟩⟩⟩⟩⟩⟩⟩⟩⟩⟩⟩⟩⟩
theorem lw_p80 : lw_okq (⟨"WindowRollModel", "setOf", "(II)I"⟩, 109) := ⟨⟨by decide +kernel, by decide +kernel⟩, List.mem_of_getElem? (i := 1347) (by decide +kernel), List.mem_of_getElem? (i := 1986) (by decide +kernel), List.mem_of_getElem? (i := 1987) (by decide +kernel)⟩
theorem lw_p81 : lw_okq (⟨"WindowRollModel", "countOf", "(IIII)I"⟩, 109) := ⟨⟨by decide +kernel, by decide +kernel⟩, List.mem_of_getElem? (i := 1347) (by decide +kernel), List.mem_of_getElem? (i := 1990) (by decide +kernel), List.mem_of_getElem? (i := 1991) (by decide +kernel)⟩
theorem lw_p82 : lw_okq (⟨"WindowRollModel", "taxOf", "(IIIJ)J"⟩, 109) := ⟨⟨by decide +kernel, by decide +kernel⟩, List.mem_of_getElem? (i := 1347) (by decide +kernel), List.mem_of_getElem? (i := 1998) (by decide +kernel), List.mem_of_getElem? (i := 1999) (by decide +kernel)⟩
theorem lw_p83 : lw_okq (⟨"WindowRollModel", "leastOf", "(I)I"⟩, 109) := ⟨⟨by decide +kernel, by decide +kernel⟩, List.mem_of_getElem? (i := 1347) (by decide +kernel), List.mem_of_getElem? (i := 2008) (by decide +kernel), List.mem_of_getElem? (i := 2009) (by decide +kernel)⟩
theorem lw_p84 : lw_okq (⟨"WindowRollModel", "isApartFor", "(I)Z"⟩, 109) := ⟨⟨by decide +kernel, by decide +kernel⟩, List.mem_of_getElem? (i := 1347) (by decide +kernel), List.mem_of_getElem? (i := 2012) (by decide +kernel), List.mem_of_getElem? (i := 2013) (by decide +kernel)⟩
theorem lw_p85 : lw_okq (⟨"WindowRollModel", "plans", "(IIZ)J"⟩, 109) := ⟨⟨by decide +kernel, by decide +kernel⟩, List.mem_of_getElem? (i := 1347) (by decide +kernel), List.mem_of_getElem? (i := 2022) (by decide +kernel), List.mem_of_getElem? (i := 2023) (by decide +kernel)⟩
theorem lw_p86 : lw_okq (⟨"WindowRollModel", "lightOf", "(II)I"⟩, 109) := ⟨⟨by decide +kernel, by decide +kernel⟩, List.mem_of_getElem? (i := 1347) (by decide +kernel), List.mem_of_getElem? (i := 2026) (by decide +kernel), List.mem_of_getElem? (i := 2027) (by decide +kernel)⟩
theorem lw_p87 : lw_okq (⟨"WindowRollModel", "lays", "(II)V"⟩, 109) := ⟨⟨by decide +kernel, by decide +kernel⟩, List.mem_of_getElem? (i := 1347) (by decide +kernel), List.mem_of_getElem? (i := 2031) (by decide +kernel), List.mem_of_getElem? (i := 2032) (by decide +kernel)⟩
theorem lw_p88 : lw_okq (⟨"WindowRollModel", "chosen", "(III)I"⟩, 109) := ⟨⟨by decide +kernel, by decide +kernel⟩, List.mem_of_getElem? (i := 1347) (by decide +kernel), List.mem_of_getElem? (i := 2035) (by decide +kernel), List.mem_of_getElem? (i := 2036) (by decide +kernel)⟩
theorem lw_p89 : lw_okq (⟨"WindowRollModel", "worthBy", "(III)J"⟩, 109) := ⟨⟨by decide +kernel, by decide +kernel⟩, List.mem_of_getElem? (i := 1347) (by decide +kernel), List.mem_of_getElem? (i := 2039) (by decide +kernel), List.mem_of_getElem? (i := 2040) (by decide +kernel)⟩
theorem lw_p90 : lw_okq (⟨"WindowRollModel", "costs", "(II)I"⟩, 109) := ⟨⟨by decide +kernel, by decide +kernel⟩, List.mem_of_getElem? (i := 1347) (by decide +kernel), List.mem_of_getElem? (i := 2043) (by decide +kernel), List.mem_of_getElem? (i := 2044) (by decide +kernel)⟩
theorem lw_p91 : lw_okq (⟨"WindowRollModel", "adds", "(IIIZZZI)I"⟩, 109) := ⟨⟨by decide +kernel, by decide +kernel⟩, List.mem_of_getElem? (i := 1347) (by decide +kernel), List.mem_of_getElem? (i := 2062) (by decide +kernel), List.mem_of_getElem? (i := 2063) (by decide +kernel)⟩
theorem lw_p92 : lw_okq (⟨"WindowRollModel", "nearestTo", "(II)I"⟩, 109) := ⟨⟨by decide +kernel, by decide +kernel⟩, List.mem_of_getElem? (i := 1347) (by decide +kernel), List.mem_of_getElem? (i := 2070) (by decide +kernel), List.mem_of_getElem? (i := 2071) (by decide +kernel)⟩
theorem lw_p93 : lw_okq (⟨"WindowRollModel", "line", "(IIIII)V"⟩, 109) := ⟨⟨by decide +kernel, by decide +kernel⟩, List.mem_of_getElem? (i := 1347) (by decide +kernel), List.mem_of_getElem? (i := 2093) (by decide +kernel), List.mem_of_getElem? (i := 2094) (by decide +kernel)⟩
theorem lw_p94 : lw_okq (⟨"WindowRollModel", "tells", "(III)I"⟩, 109) := ⟨⟨by decide +kernel, by decide +kernel⟩, List.mem_of_getElem? (i := 1347) (by decide +kernel), List.mem_of_getElem? (i := 2103) (by decide +kernel), List.mem_of_getElem? (i := 2104) (by decide +kernel)⟩
theorem lw_p95 : lw_okq (⟨"WindowRollModel", "rollOf", "(I)I"⟩, 109) := ⟨⟨by decide +kernel, by decide +kernel⟩, List.mem_of_getElem? (i := 1347) (by decide +kernel), List.mem_of_getElem? (i := 2121) (by decide +kernel), List.mem_of_getElem? (i := 2122) (by decide +kernel)⟩
def lw_privs_6 : List (MethodName × Nat) := [(⟨"WindowRollModel", "setOf", "(II)I"⟩, 109), (⟨"WindowRollModel", "countOf", "(IIII)I"⟩, 109), (⟨"WindowRollModel", "taxOf", "(IIIJ)J"⟩, 109), (⟨"WindowRollModel", "leastOf", "(I)I"⟩, 109), (⟨"WindowRollModel", "isApartFor", "(I)Z"⟩, 109), (⟨"WindowRollModel", "plans", "(IIZ)J"⟩, 109), (⟨"WindowRollModel", "lightOf", "(II)I"⟩, 109), (⟨"WindowRollModel", "lays", "(II)V"⟩, 109), (⟨"WindowRollModel", "chosen", "(III)I"⟩, 109), (⟨"WindowRollModel", "worthBy", "(III)J"⟩, 109), (⟨"WindowRollModel", "costs", "(II)I"⟩, 109), (⟨"WindowRollModel", "adds", "(IIIZZZI)I"⟩, 109), (⟨"WindowRollModel", "nearestTo", "(II)I"⟩, 109), (⟨"WindowRollModel", "line", "(IIIII)V"⟩, 109), (⟨"WindowRollModel", "tells", "(III)I"⟩, 109), (⟨"WindowRollModel", "rollOf", "(I)I"⟩, 109)]
theorem lw_r6 : ∀ q ∈ lw_privs_6, lw_okq q := List.forall_mem_cons.mpr ⟨lw_p80, List.forall_mem_cons.mpr ⟨lw_p81, List.forall_mem_cons.mpr ⟨lw_p82, List.forall_mem_cons.mpr ⟨lw_p83, List.forall_mem_cons.mpr ⟨lw_p84, List.forall_mem_cons.mpr ⟨lw_p85, List.forall_mem_cons.mpr ⟨lw_p86, List.forall_mem_cons.mpr ⟨lw_p87, List.forall_mem_cons.mpr ⟨lw_p88, List.forall_mem_cons.mpr ⟨lw_p89, List.forall_mem_cons.mpr ⟨lw_p90, List.forall_mem_cons.mpr ⟨lw_p91, List.forall_mem_cons.mpr ⟨lw_p92, List.forall_mem_cons.mpr ⟨lw_p93, List.forall_mem_cons.mpr ⟨lw_p94, List.forall_mem_cons.mpr ⟨lw_p95, fun _ h => absurd h List.not_mem_nil⟩⟩⟩⟩⟩⟩⟩⟩⟩⟩⟩⟩⟩⟩⟩⟩
theorem lw_p96 : lw_okq (⟨"WindowRollModel", "asks", "(I)V"⟩, 109) := ⟨⟨by decide +kernel, by decide +kernel⟩, List.mem_of_getElem? (i := 1347) (by decide +kernel), List.mem_of_getElem? (i := 2141) (by decide +kernel), List.mem_of_getElem? (i := 2142) (by decide +kernel)⟩
theorem lw_p97 : lw_okq (⟨"WindowRollModel", "comes", "()V"⟩, 109) := ⟨⟨by decide +kernel, by decide +kernel⟩, List.mem_of_getElem? (i := 1347) (by decide +kernel), List.mem_of_getElem? (i := 2151) (by decide +kernel), List.mem_of_getElem? (i := 2152) (by decide +kernel)⟩
theorem lw_p98 : lw_okq (⟨"WindowRollModel", "at", "(II)J"⟩, 109) := ⟨⟨by decide +kernel, by decide +kernel⟩, List.mem_of_getElem? (i := 1347) (by decide +kernel), List.mem_of_getElem? (i := 2163) (by decide +kernel), List.mem_of_getElem? (i := 2164) (by decide +kernel)⟩
def lw_privs_7 : List (MethodName × Nat) := [(⟨"WindowRollModel", "asks", "(I)V"⟩, 109), (⟨"WindowRollModel", "comes", "()V"⟩, 109), (⟨"WindowRollModel", "at", "(II)J"⟩, 109)]
theorem lw_r7 : ∀ q ∈ lw_privs_7, lw_okq q := List.forall_mem_cons.mpr ⟨lw_p96, List.forall_mem_cons.mpr ⟨lw_p97, List.forall_mem_cons.mpr ⟨lw_p98, fun _ h => absurd h List.not_mem_nil⟩⟩⟩
def lw_privs : List (MethodName × Nat) := lw_privs_1 ++ (lw_privs_2 ++ (lw_privs_3 ++ (lw_privs_4 ++ (lw_privs_5 ++ (lw_privs_6 ++ (lw_privs_7))))))
def lw_tbl : List Cond := k2_sels lw_privs ++ tables_1
theorem lw_privs_ok : ∀ q ∈ lw_privs, lw_okq q := by
  show ∀ q ∈ lw_privs_1 ++ (lw_privs_2 ++ (lw_privs_3 ++ (lw_privs_4 ++ (lw_privs_5 ++ (lw_privs_6 ++ (lw_privs_7)))))), lw_okq q
  exact List.forall_mem_append.mpr ⟨lw_r1, List.forall_mem_append.mpr ⟨lw_r2, List.forall_mem_append.mpr ⟨lw_r3, List.forall_mem_append.mpr ⟨lw_r4, List.forall_mem_append.mpr ⟨lw_r5, List.forall_mem_append.mpr ⟨lw_r6, lw_r7⟩⟩⟩⟩⟩⟩
-- ===== end of PART A; then your names; then what follows =====
end
section
def RX0 : String := "WindowRoll$Answers"
def TX0 : u_T := fun k => match k with
  | 0 => ("WindowRoll$Answers", "key", "[J", true)
  | 1 => ("WindowRoll$Answers", "value", "[J", true)
  | 2 => ("WindowRoll$Answers", "number", "[I", true)
  | 3 => ("WindowRoll$Answers", "size", "I", false)
  | _ => ("WindowRoll$Answers", "asked", "I", false)
def tyX0 : Nat → FieldType := fun k => match k with
  | 0 => .array .long
  | 1 => .array .long
  | 2 => .array .int
  | 3 => .int
  | _ => .int
theorem nmX0 : ∀ a, a < 5 → ∀ b, b < 5 → a ≠ b → (TX0 a).2.1 ≠ (TX0 b).2.1 := by decide +kernel
theorem tyX0_ok : ∀ k, k < 5 → parseFieldDescriptor (TX0 k).2.2.1 = some (tyX0 k) := by decide +kernel
def RX1 : String := "WindowRoll$Court"
def TX1 : u_T := fun k => match k with
  | 0 => ("WindowRoll$Court", "near", "I", false)
  | 1 => ("WindowRoll$Court", "cases", "I", false)
  | _ => ("WindowRoll$Court", "fact", "[I", true)
def tyX1 : Nat → FieldType := fun k => match k with
  | 0 => .int
  | 1 => .int
  | _ => .array .int
theorem nmX1 : ∀ a, a < 3 → ∀ b, b < 3 → a ≠ b → (TX1 a).2.1 ≠ (TX1 b).2.1 := by decide +kernel
theorem tyX1_ok : ∀ k, k < 3 → parseFieldDescriptor (TX1 k).2.2.1 = some (tyX1 k) := by decide +kernel
def RX2 : String := "WindowRoll$House"
def TX2 : u_T := fun k => match k with
  | 0 => ("WindowRoll$House", "street", "I", true)
  | 1 => ("WindowRoll$House", "worth", "I", false)
  | 2 => ("WindowRoll$House", "families", "I", false)
  | 3 => ("WindowRoll$House", "minutes", "I", true)
  | 4 => ("WindowRoll$House", "roof", "I", false)
  | 5 => ("WindowRoll$House", "rooms", "I", false)
  | 6 => ("WindowRoll$House", "kindOf", "[I", true)
  | 7 => ("WindowRoll$House", "openings", "I", false)
  | 8 => ("WindowRoll$House", "all", "[LWindowRoll$Opening;", true)
  | 9 => ("WindowRoll$House", "isDown", "Z", false)
  | _ => ("WindowRoll$House", "paidInAll", "J", false)
def tyX2 : Nat → FieldType := fun k => match k with
  | 0 => .int
  | 1 => .int
  | 2 => .int
  | 3 => .int
  | 4 => .int
  | 5 => .int
  | 6 => .array .int
  | 7 => .int
  | 8 => .array (.object "WindowRoll$Opening")
  | 9 => .boolean
  | _ => .long
theorem nmX2 : ∀ a, a < 11 → ∀ b, b < 11 → a ≠ b → (TX2 a).2.1 ≠ (TX2 b).2.1 := by decide +kernel
theorem tyX2_ok : ∀ k, k < 11 → parseFieldDescriptor (TX2 k).2.2.1 = some (tyX2 k) := by decide +kernel
def RX3 : String := "WindowRoll$Law"
def TX3 : u_T := fun k => match k with
  | 0 => ("WindowRoll$Law", "actFrom", "[LWindowRoll$Text;", true)
  | 1 => ("WindowRoll$Law", "acts", "I", false)
  | 2 => ("WindowRoll$Law", "spare", "LWindowRoll$Text;", false)
  | 3 => ("WindowRoll$Law", "noRules", "LWindowRoll$Text;", true)
  | 4 => ("WindowRoll$Law", "values", "[J", true)
  | _ => ("WindowRoll$Law", "stack", "[J", true)
def tyX3 : Nat → FieldType := fun k => match k with
  | 0 => .array (.object "WindowRoll$Text")
  | 1 => .int
  | 2 => .object "WindowRoll$Text"
  | 3 => .object "WindowRoll$Text"
  | 4 => .array .long
  | _ => .array .long
theorem nmX3 : ∀ a, a < 6 → ∀ b, b < 6 → a ≠ b → (TX3 a).2.1 ≠ (TX3 b).2.1 := by decide +kernel
theorem tyX3_ok : ∀ k, k < 6 → parseFieldDescriptor (TX3 k).2.2.1 = some (tyX3 k) := by decide +kernel
def RX4 : String := "WindowRoll$Lines"
def TX4 : u_T := fun k => match k with
  | 0 => ("WindowRoll$Lines", "house", "[I", true)
  | 1 => ("WindowRoll$Lines", "year", "[I", true)
  | 2 => ("WindowRoll$Lines", "count", "[I", true)
  | 3 => ("WindowRoll$Lines", "how", "[I", true)
  | 4 => ("WindowRoll$Lines", "collector", "[I", true)
  | 5 => ("WindowRoll$Lines", "known", "[I", true)
  | 6 => ("WindowRoll$Lines", "size", "I", false)
  | 7 => ("WindowRoll$Lines", "walked", "[I", true)
  | _ => ("WindowRoll$Lines", "lineOf", "[I", true)
def tyX4 : Nat → FieldType := fun k => match k with
  | 0 => .array .int
  | 1 => .array .int
  | 2 => .array .int
  | 3 => .array .int
  | 4 => .array .int
  | 5 => .array .int
  | 6 => .int
  | 7 => .array .int
  | _ => .array .int
theorem nmX4 : ∀ a, a < 9 → ∀ b, b < 9 → a ≠ b → (TX4 a).2.1 ≠ (TX4 b).2.1 := by decide +kernel
theorem tyX4_ok : ∀ k, k < 9 → parseFieldDescriptor (TX4 k).2.2.1 = some (tyX4 k) := by decide +kernel
def RX5 : String := "WindowRoll$Opening"
def TX5 : u_T := fun k => match k with
  | 0 => ("WindowRoll$Opening", "room", "I", true)
  | 1 => ("WindowRoll$Opening", "kind", "I", true)
  | 2 => ("WindowRoll$Opening", "floor", "I", true)
  | 3 => ("WindowRoll$Opening", "panes", "I", true)
  | 4 => ("WindowRoll$Opening", "back", "I", true)
  | 5 => ("WindowRoll$Opening", "lattice", "I", true)
  | 6 => ("WindowRoll$Opening", "state", "I", false)
  | _ => ("WindowRoll$Opening", "excusedBy", "I", false)
def tyX5 : Nat → FieldType := fun k => match k with
  | 0 => .int
  | 1 => .int
  | 2 => .int
  | 3 => .int
  | 4 => .int
  | 5 => .int
  | 6 => .int
  | _ => .int
theorem nmX5 : ∀ a, a < 8 → ∀ b, b < 8 → a ≠ b → (TX5 a).2.1 ≠ (TX5 b).2.1 := by decide +kernel
theorem tyX5_ok : ∀ k, k < 8 → parseFieldDescriptor (TX5 k).2.2.1 = some (tyX5 k) := by decide +kernel
def RX6 : String := "WindowRoll$Planner"
def TX6 : u_T := fun k => match k with
  | 0 => ("WindowRoll$Planner", "law", "LWindowRoll$Law;", true)
  | 1 => ("WindowRoll$Planner", "lightOf", "[I", true)
  | 2 => ("WindowRoll$Planner", "enoughOf", "[I", true)
  | 3 => ("WindowRoll$Planner", "bricking", "I", false)
  | 4 => ("WindowRoll$Planner", "reopening", "I", false)
  | 5 => ("WindowRoll$Planner", "sets", "[I", true)
  | 6 => ("WindowRoll$Planner", "keptSets", "[I", true)
  | 7 => ("WindowRoll$Planner", "keptYears", "I", false)
  | 8 => ("WindowRoll$Planner", "keptHouse", "LWindowRoll$House;", false)
  | 9 => ("WindowRoll$Planner", "fresh", "Z", false)
  | 10 => ("WindowRoll$Planner", "worthOf", "[J", false)
  | 11 => ("WindowRoll$Planner", "mostFrom", "[J", false)
  | 12 => ("WindowRoll$Planner", "lightOfSet", "[I", false)
  | 13 => ("WindowRoll$Planner", "countOfSet", "[I", false)
  | _ => ("WindowRoll$Planner", "taxOfCount", "[J", false)
def tyX6 : Nat → FieldType := fun k => match k with
  | 0 => .object "WindowRoll$Law"
  | 1 => .array .int
  | 2 => .array .int
  | 3 => .int
  | 4 => .int
  | 5 => .array .int
  | 6 => .array .int
  | 7 => .int
  | 8 => .object "WindowRoll$House"
  | 9 => .boolean
  | 10 => .array .long
  | 11 => .array .long
  | 12 => .array .int
  | 13 => .array .int
  | _ => .array .long
theorem nmX6 : ∀ a, a < 15 → ∀ b, b < 15 → a ≠ b → (TX6 a).2.1 ≠ (TX6 b).2.1 := by decide +kernel
theorem tyX6_ok : ∀ k, k < 15 → parseFieldDescriptor (TX6 k).2.2.1 = some (tyX6 k) := by decide +kernel
def RX7 : String := "WindowRoll$Reader"
def TX7 : u_T := fun k => match k with
  | 0 => ("WindowRoll$Reader", "tape", "[I", true)
  | 1 => ("WindowRoll$Reader", "length", "I", false)
  | 2 => ("WindowRoll$Reader", "token", "[I", true)
  | 3 => ("WindowRoll$Reader", "place", "[I", true)
  | 4 => ("WindowRoll$Reader", "told", "[I", true)
  | 5 => ("WindowRoll$Reader", "tokens", "I", false)
  | 6 => ("WindowRoll$Reader", "at", "I", false)
  | 7 => ("WindowRoll$Reader", "text", "LWindowRoll$Text;", false)
  | 8 => ("WindowRoll$Reader", "isAsked", "Z", false)
  | _ => ("WindowRoll$Reader", "fault", "I", false)
def tyX7 : Nat → FieldType := fun k => match k with
  | 0 => .array .int
  | 1 => .int
  | 2 => .array .int
  | 3 => .array .int
  | 4 => .array .int
  | 5 => .int
  | 6 => .int
  | 7 => .object "WindowRoll$Text"
  | 8 => .boolean
  | _ => .int
theorem nmX7 : ∀ a, a < 10 → ∀ b, b < 10 → a ≠ b → (TX7 a).2.1 ≠ (TX7 b).2.1 := by decide +kernel
theorem tyX7_ok : ∀ k, k < 10 → parseFieldDescriptor (TX7 k).2.2.1 = some (tyX7 k) := by decide +kernel
def RX8 : String := "WindowRoll$Rows"
def TX8 : u_T := fun k => match k with
  | 0 => ("WindowRoll$Rows", "numbers", "[[J", true)
  | 1 => ("WindowRoll$Rows", "width", "[I", true)
  | 2 => ("WindowRoll$Rows", "length", "[I", true)
  | 3 => ("WindowRoll$Rows", "partner", "[I", true)
  | 4 => ("WindowRoll$Rows", "pairedLength", "I", false)
  | _ => ("WindowRoll$Rows", "costFrom", "[I", false)
def tyX8 : Nat → FieldType := fun k => match k with
  | 0 => .array (.array .long)
  | 1 => .array .int
  | 2 => .array .int
  | 3 => .array .int
  | 4 => .int
  | _ => .array .int
theorem nmX8 : ∀ a, a < 6 → ∀ b, b < 6 → a ≠ b → (TX8 a).2.1 ≠ (TX8 b).2.1 := by decide +kernel
theorem tyX8_ok : ∀ k, k < 6 → parseFieldDescriptor (TX8 k).2.2.1 = some (tyX8 k) := by decide +kernel
def RX9 : String := "WindowRoll$Text"
def TX9 : u_T := fun k => match k with
  | 0 => ("WindowRoll$Text", "code", "[I", true)
  | 1 => ("WindowRoll$Text", "size", "I", false)
  | 2 => ("WindowRoll$Text", "kind", "[I", true)
  | 3 => ("WindowRoll$Text", "least", "[I", true)
  | 4 => ("WindowRoll$Text", "sumAt", "[I", true)
  | 5 => ("WindowRoll$Text", "condsAt", "[I", true)
  | 6 => ("WindowRoll$Text", "endAt", "[I", true)
  | 7 => ("WindowRoll$Text", "rules", "I", false)
  | 8 => ("WindowRoll$Text", "from", "I", false)
  | _ => ("WindowRoll$Text", "key", "LWindowRoll$Word;", false)
def tyX9 : Nat → FieldType := fun k => match k with
  | 0 => .array .int
  | 1 => .int
  | 2 => .array .int
  | 3 => .array .int
  | 4 => .array .int
  | 5 => .array .int
  | 6 => .array .int
  | 7 => .int
  | 8 => .int
  | _ => .object "WindowRoll$Word"
theorem nmX9 : ∀ a, a < 10 → ∀ b, b < 10 → a ≠ b → (TX9 a).2.1 ≠ (TX9 b).2.1 := by decide +kernel
theorem tyX9_ok : ∀ k, k < 10 → parseFieldDescriptor (TX9 k).2.2.1 = some (tyX9 k) := by decide +kernel
def RX10 : String := "WindowRoll$Word"
def TX10 : u_T := fun k => match k with
  | _ => ("", "", "", false)
def tyX10 : Nat → FieldType := fun k => match k with
  | _ => .int
theorem nmX10 : ∀ a, a < 0 → ∀ b, b < 0 → a ≠ b → (TX10 a).2.1 ≠ (TX10 b).2.1 := by decide +kernel
theorem tyX10_ok : ∀ k, k < 0 → parseFieldDescriptor (TX10 k).2.2.1 = some (tyX10 k) := by decide +kernel
def RX11 : String := "WindowRoll"
def TX11 : u_T := fun k => match k with
  | 0 => ("WindowRoll", "houses", "[LWindowRoll$House;", true)
  | 1 => ("WindowRoll", "houseCount", "I", false)
  | 2 => ("WindowRoll", "nextRoof", "I", false)
  | 3 => ("WindowRoll", "year", "I", false)
  | 4 => ("WindowRoll", "moves", "I", false)
  | 5 => ("WindowRoll", "lastFault", "I", false)
  | 6 => ("WindowRoll", "reader", "LWindowRoll$Reader;", true)
  | 7 => ("WindowRoll", "law", "LWindowRoll$Law;", true)
  | 8 => ("WindowRoll", "court", "LWindowRoll$Court;", true)
  | 9 => ("WindowRoll", "lines", "LWindowRoll$Lines;", true)
  | 10 => ("WindowRoll", "planner", "LWindowRoll$Planner;", true)
  | 11 => ("WindowRoll", "answers", "LWindowRoll$Answers;", true)
  | 12 => ("WindowRoll", "rows", "LWindowRoll$Rows;", true)
  | 13 => ("WindowRoll", "counts", "[I", true)
  | 14 => ("WindowRoll", "routeGain", "[J", false)
  | _ => ("WindowRoll", "routeSet", "[I", false)
def tyX11 : Nat → FieldType := fun k => match k with
  | 0 => .array (.object "WindowRoll$House")
  | 1 => .int
  | 2 => .int
  | 3 => .int
  | 4 => .int
  | 5 => .int
  | 6 => .object "WindowRoll$Reader"
  | 7 => .object "WindowRoll$Law"
  | 8 => .object "WindowRoll$Court"
  | 9 => .object "WindowRoll$Lines"
  | 10 => .object "WindowRoll$Planner"
  | 11 => .object "WindowRoll$Answers"
  | 12 => .object "WindowRoll$Rows"
  | 13 => .array .int
  | 14 => .array .long
  | _ => .array .int
theorem nmX11 : ∀ a, a < 16 → ∀ b, b < 16 → a ≠ b → (TX11 a).2.1 ≠ (TX11 b).2.1 := by decide +kernel
theorem tyX11_ok : ∀ k, k < 16 → parseFieldDescriptor (TX11 k).2.2.1 = some (tyX11 k) := by decide +kernel
def RX12 : String := "WindowRollModel"
def TX12 : u_T := fun k => match k with
  | 0 => ("WindowRollModel", "thrown", "I", false)
  | 1 => ("WindowRollModel", "width", "[I", true)
  | 2 => ("WindowRollModel", "size", "[I", true)
  | 3 => ("WindowRollModel", "numbers", "[J", true)
  | 4 => ("WindowRollModel", "moved", "[J", true)
  | 5 => ("WindowRollModel", "year", "I", false)
  | 6 => ("WindowRollModel", "houses", "I", false)
  | 7 => ("WindowRollModel", "cases", "I", false)
  | 8 => ("WindowRollModel", "lines", "I", false)
  | 9 => ("WindowRollModel", "acts", "I", false)
  | 10 => ("WindowRollModel", "groups", "I", false)
  | 11 => ("WindowRollModel", "bricking", "I", false)
  | 12 => ("WindowRollModel", "opening", "I", false)
  | 13 => ("WindowRollModel", "near", "I", false)
  | 14 => ("WindowRollModel", "moves", "I", false)
  | 15 => ("WindowRollModel", "light", "[I", true)
  | 16 => ("WindowRollModel", "enough", "[I", true)
  | 17 => ("WindowRollModel", "street", "[I", true)
  | 18 => ("WindowRollModel", "worth", "[I", true)
  | 19 => ("WindowRollModel", "families", "[I", true)
  | 20 => ("WindowRollModel", "minutes", "[I", true)
  | 21 => ("WindowRollModel", "rooms", "[I", true)
  | 22 => ("WindowRollModel", "openings", "[I", true)
  | 23 => ("WindowRollModel", "group", "[I", true)
  | 24 => ("WindowRollModel", "isDown", "[Z", true)
  | 25 => ("WindowRollModel", "paid", "[J", true)
  | 26 => ("WindowRollModel", "roomKind", "[I", true)
  | 27 => ("WindowRollModel", "roomFloor", "[I", true)
  | 28 => ("WindowRollModel", "roomOf", "[I", true)
  | 29 => ("WindowRollModel", "panes", "[I", true)
  | 30 => ("WindowRollModel", "state", "[I", true)
  | 31 => ("WindowRollModel", "excused", "[I", true)
  | 32 => ("WindowRollModel", "isBack", "[Z", true)
  | 33 => ("WindowRollModel", "hasLattice", "[Z", true)
  | 34 => ("WindowRollModel", "caseKind", "[I", true)
  | 35 => ("WindowRollModel", "casePanes", "[I", true)
  | 36 => ("WindowRollModel", "caseFloor", "[I", true)
  | 37 => ("WindowRollModel", "leans", "[I", true)
  | 38 => ("WindowRollModel", "caseBack", "[Z", true)
  | 39 => ("WindowRollModel", "caseLattice", "[Z", true)
  | 40 => ("WindowRollModel", "caseIs", "[Z", true)
  | 41 => ("WindowRollModel", "stands", "[Z", true)
  | 42 => ("WindowRollModel", "lineHouse", "[I", true)
  | 43 => ("WindowRollModel", "lineYear", "[I", true)
  | 44 => ("WindowRollModel", "lineCount", "[I", true)
  | 45 => ("WindowRollModel", "lineHow", "[I", true)
  | 46 => ("WindowRollModel", "lineBy", "[I", true)
  | 47 => ("WindowRollModel", "lineKnown", "[I", true)
  | 48 => ("WindowRollModel", "walked", "[I", true)
  | 49 => ("WindowRollModel", "tape", "[B", true)
  | 50 => ("WindowRollModel", "taped", "I", false)
  | 51 => ("WindowRollModel", "faultPlace", "I", false)
  | 52 => ("WindowRollModel", "text", "[B", true)
  | 53 => ("WindowRollModel", "textMany", "[I", true)
  | 54 => ("WindowRollModel", "actFrom", "[I", true)
  | 55 => ("WindowRollModel", "actRules", "[I", true)
  | 56 => ("WindowRollModel", "textRow", "I", false)
  | 57 => ("WindowRollModel", "textSize", "I", false)
  | 58 => ("WindowRollModel", "next", "I", false)
  | 59 => ("WindowRollModel", "begin", "I", false)
  | 60 => ("WindowRollModel", "sort", "I", false)
  | 61 => ("WindowRollModel", "number", "I", false)
  | 62 => ("WindowRollModel", "open", "I", false)
  | 63 => ("WindowRollModel", "told", "I", false)
  | 64 => ("WindowRollModel", "isBad", "Z", false)
  | 65 => ("WindowRollModel", "ofHouse", "I", false)
  | 66 => ("WindowRollModel", "ofYear", "I", false)
  | 67 => ("WindowRollModel", "ofOpening", "I", false)
  | 68 => ("WindowRollModel", "ofLine", "I", false)
  | 69 => ("WindowRollModel", "ofCount", "J", false)
  | 70 => ("WindowRollModel", "asksLines", "Z", false)
  | 71 => ("WindowRollModel", "hasCount", "Z", false)
  | 72 => ("WindowRollModel", "hasPanes", "Z", false)
  | 73 => ("WindowRollModel", "weight", "J", false)
  | 74 => ("WindowRollModel", "pay", "J", false)
  | 75 => ("WindowRollModel", "adds", "J", false)
  | 76 => ("WindowRollModel", "part", "J", false)
  | 77 => ("WindowRollModel", "payFrom", "I", false)
  | 78 => ("WindowRollModel", "hasWeight", "Z", false)
  | 79 => ("WindowRollModel", "isSpared", "Z", false)
  | 80 => ("WindowRollModel", "isApart", "Z", false)
  | 81 => ("WindowRollModel", "taxes", "[J", true)
  | 82 => ("WindowRollModel", "canDo", "Z", false)
  | 83 => ("WindowRollModel", "planHouse", "I", false)
  | 84 => ("WindowRollModel", "planYears", "I", false)
  | 85 => ("WindowRollModel", "plan", "[I", true)
  | 86 => ("WindowRollModel", "best", "[J", true)
  | 87 => ("WindowRollModel", "gain", "[J", true)
  | 88 => ("WindowRollModel", "taxBy", "[J", true)
  | 89 => ("WindowRollModel", "weights", "[I", true)
  | 90 => ("WindowRollModel", "row", "[I", true)
  | 91 => ("WindowRollModel", "bright", "[I", true)
  | 92 => ("WindowRollModel", "gains", "[J", true)
  | 93 => ("WindowRollModel", "toldCount", "[I", true)
  | 94 => ("WindowRollModel", "keys", "[J", true)
  | 95 => ("WindowRollModel", "values", "[J", true)
  | 96 => ("WindowRollModel", "manyOf", "[I", true)
  | 97 => ("WindowRollModel", "toldKeys", "[J", true)
  | 98 => ("WindowRollModel", "toldValues", "[J", true)
  | 99 => ("WindowRollModel", "toldMany", "[I", true)
  | 100 => ("WindowRollModel", "answers", "I", false)
  | 101 => ("WindowRollModel", "keyMany", "I", false)
  | 102 => ("WindowRollModel", "counts", "Z", false)
  | 103 => ("WindowRollModel", "key", "J", false)
  | 104 => ("WindowRollModel", "value", "J", false)
  | 105 => ("WindowRollModel", "way", "I", false)
  | 106 => ("WindowRollModel", "cost", "[I", true)
  | 107 => ("WindowRollModel", "pairs", "[I", true)
  | _ => ("WindowRollModel", "pairMany", "I", false)
def tyX12 : Nat → FieldType := fun k => match k with
  | 0 => .int
  | 1 => .array .int
  | 2 => .array .int
  | 3 => .array .long
  | 4 => .array .long
  | 5 => .int
  | 6 => .int
  | 7 => .int
  | 8 => .int
  | 9 => .int
  | 10 => .int
  | 11 => .int
  | 12 => .int
  | 13 => .int
  | 14 => .int
  | 15 => .array .int
  | 16 => .array .int
  | 17 => .array .int
  | 18 => .array .int
  | 19 => .array .int
  | 20 => .array .int
  | 21 => .array .int
  | 22 => .array .int
  | 23 => .array .int
  | 24 => .array .boolean
  | 25 => .array .long
  | 26 => .array .int
  | 27 => .array .int
  | 28 => .array .int
  | 29 => .array .int
  | 30 => .array .int
  | 31 => .array .int
  | 32 => .array .boolean
  | 33 => .array .boolean
  | 34 => .array .int
  | 35 => .array .int
  | 36 => .array .int
  | 37 => .array .int
  | 38 => .array .boolean
  | 39 => .array .boolean
  | 40 => .array .boolean
  | 41 => .array .boolean
  | 42 => .array .int
  | 43 => .array .int
  | 44 => .array .int
  | 45 => .array .int
  | 46 => .array .int
  | 47 => .array .int
  | 48 => .array .int
  | 49 => .array .byte
  | 50 => .int
  | 51 => .int
  | 52 => .array .byte
  | 53 => .array .int
  | 54 => .array .int
  | 55 => .array .int
  | 56 => .int
  | 57 => .int
  | 58 => .int
  | 59 => .int
  | 60 => .int
  | 61 => .int
  | 62 => .int
  | 63 => .int
  | 64 => .boolean
  | 65 => .int
  | 66 => .int
  | 67 => .int
  | 68 => .int
  | 69 => .long
  | 70 => .boolean
  | 71 => .boolean
  | 72 => .boolean
  | 73 => .long
  | 74 => .long
  | 75 => .long
  | 76 => .long
  | 77 => .int
  | 78 => .boolean
  | 79 => .boolean
  | 80 => .boolean
  | 81 => .array .long
  | 82 => .boolean
  | 83 => .int
  | 84 => .int
  | 85 => .array .int
  | 86 => .array .long
  | 87 => .array .long
  | 88 => .array .long
  | 89 => .array .int
  | 90 => .array .int
  | 91 => .array .int
  | 92 => .array .long
  | 93 => .array .int
  | 94 => .array .long
  | 95 => .array .long
  | 96 => .array .int
  | 97 => .array .long
  | 98 => .array .long
  | 99 => .array .int
  | 100 => .int
  | 101 => .int
  | 102 => .boolean
  | 103 => .long
  | 104 => .long
  | 105 => .int
  | 106 => .array .int
  | 107 => .array .int
  | _ => .int
theorem nmX12 : ∀ a, a < 109 → ∀ b, b < 109 → a ≠ b → (TX12 a).2.1 ≠ (TX12 b).2.1 := by decide +kernel
theorem tyX12_ok : ∀ k, k < 109 → parseFieldDescriptor (TX12 k).2.2.1 = some (tyX12 k) := by decide +kernel
abbrev zm_cl : List vw_C := [(RX0, TX0, 5), (RX1, TX1, 3), (RX2, TX2, 11), (RX3, TX3, 6), (RX4, TX4, 9), (RX5, TX5, 8), (RX6, TX6, 15), (RX7, TX7, 10), (RX8, TX8, 6), (RX9, TX9, 10), (RX11, TX11, 16), (RX12, TX12, 109)]
def zm_ft : Nat → Nat → FieldType := fun c => match c with
  | 0 => tyX0
  | 1 => tyX1
  | 2 => tyX2
  | 3 => tyX3
  | 4 => tyX4
  | 5 => tyX5
  | 6 => tyX6
  | 7 => tyX7
  | 8 => tyX8
  | 9 => tyX9
  | 10 => tyX11
  | _ => tyX12
end
section
/-! The words of the tables, by their places -/
def zm_W : List Cond := lw_tbl.filter goodWord
theorem zm_W_in : ∀ w ∈ zm_W, w ∈ lw_tbl := fun w h => (List.mem_filter.mp h).1
theorem zm_W_good : ∀ w ∈ zm_W, goodWord w = true := fun w h => (List.mem_filter.mp h).2
def zm_Wk : Nat → List Cond := fun k => match k with
  | 0 => k2_sels lw_privs
  | 1 => tables_1_1
  | 2 => tables_1_2
  | 3 => tables_1_3
  | 4 => tables_1_4
  | 5 => tables_1_5
  | 6 => tables_1_6
  | 7 => tables_1_7
  | 8 => tables_1_8
  | 9 => tables_1_9
  | _ => tables_1_10
theorem zm_Wk_in : ∀ (k : Nat) (w : Cond), w ∈ zm_Wk k → w ∈ lw_tbl := by
  intro k w h
  unfold lw_tbl tables_1
  simp only [List.mem_append]
  match k, h with
  | 0, h => simp only [zm_Wk] at h; simp [h]
  | 1, h => simp only [zm_Wk] at h; simp [h]
  | 2, h => simp only [zm_Wk] at h; simp [h]
  | 3, h => simp only [zm_Wk] at h; simp [h]
  | 4, h => simp only [zm_Wk] at h; simp [h]
  | 5, h => simp only [zm_Wk] at h; simp [h]
  | 6, h => simp only [zm_Wk] at h; simp [h]
  | 7, h => simp only [zm_Wk] at h; simp [h]
  | 8, h => simp only [zm_Wk] at h; simp [h]
  | 9, h => simp only [zm_Wk] at h; simp [h]
  | k + 10, h => simp only [zm_Wk] at h; simp [h]
def zm_lk (p : Nat) : Option Cond := (zm_Wk (p / 1000))[p % 1000]?
theorem zm_lk_in {p : Nat} {w : Cond} (h : zm_lk p = some w) : w ∈ lw_tbl := zm_Wk_in _ w (List.mem_of_getElem? h)
end
section
/-! A small machine of our own: values with handles, a heap as a list; later: the machine itself goes as it goes. -/
abbrev zm_K : Type := (Nat → Int32) ⊕ ((Nat → Int64) ⊕ (Nat → Option Nat))
abbrev zm_C : Type := (Nat × Nat × zm_K) ⊕ (Nat × List Value)
abbrev zm_H : Type := List zm_C
abbrev zm_L : Type := List (Nat × Value)
abbrev zm_X : Type := Nat × Nat × Nat × Value × List Nat
abbrev zm_Row : Type := Nat × Jvm.ClassFile.Instr × Nat × zm_X
abbrev zm_M : Type := (MethodName × ByteArray × Nat × Option FieldType) × List zm_Row
/-- the array types, by their tags -/
def zm_ty : Nat → FieldType := fun t => match t with
  | 0 => .int
  | 1 => .long
  | 2 => .byte
  | 3 => .boolean
  | 4 => .object "WindowRoll$House"
  | 5 => .object "WindowRoll$Text"
  | 6 => .object "WindowRoll$Opening"
  | 7 => .array .long
  | _ => .object "WindowRoll$Word"
/-- the class (its number in zm_cl) of the objects that an array of a tag holds -/
def zm_tc : Nat → Nat := fun t => match t with
  | 4 => 2
  | 5 => 9
  | _ => 5
def zm_get : zm_L → Nat → Option Value
  | [], _ => none
  | q :: t, i => bif Nat.beq q.1 i then some q.2 else zm_get t i
def zm_st1 (ls : zm_L) (i : Nat) (v : Value) : zm_L := (i, v) :: ls.filter (fun q => !(q.1 == i) && !(q.1 + 1 == i && q.2.category == 2))
def zm_st2 (ls : zm_L) (i : Nat) (v : Value) : zm_L := (i, v) :: ls.filter (fun q => !(q.1 == i) && (!(q.1 == i + 1) && !(q.1 + 1 == i && q.2.category == 2)))
def zm_at : List zm_Row → Nat → Option (Jvm.ClassFile.Instr × Nat × zm_X)
  | [], _ => none
  | r :: t, pc => bif Nat.beq r.1 pc then some r.2 else zm_at t pc
def zm_okv : FieldType → Value → Bool
  | .int, .int _ => true
  | .long, .long _ => true
  | .boolean, .int v => v == 0 || v == 1
  | .object _, .ref _ => true
  | .object _, .null => true
  | .object _, .retAddr _ => true
  | .array _, .ref _ => true
  | .array _, .null => true
  | _, _ => false
def zm_ldi (ls : zm_L) (k : Nat) (st : List Value) : Option (zm_L × List Value) := match zm_get ls k with
  | some (.int a) => some (ls, .int a :: st)
  | _ => none
def zm_ldl (ls : zm_L) (k : Nat) (st : List Value) : Option (zm_L × List Value) := match zm_get ls k with
  | some (.long a) => some (ls, .long a :: st)
  | _ => none
def zm_lda (ls : zm_L) (k : Nat) (st : List Value) : Option (zm_L × List Value) := match zm_get ls k with
  | some (.ref a) => some (ls, .ref a :: st)
  | some .null => some (ls, .null :: st)
  | some (.retAddr a) => some (ls, .retAddr a :: st)
  | _ => none
def zm_sti (ls : zm_L) (k : Nat) (st : List Value) : Option (zm_L × List Value) := match st with
  | .int a :: st => some (zm_st1 ls k (.int a), st)
  | _ => none
def zm_stl (ls : zm_L) (k : Nat) (st : List Value) : Option (zm_L × List Value) := match st with
  | .long a :: st => some (zm_st2 ls k (.long a), st)
  | _ => none
def zm_sta (ls : zm_L) (k : Nat) (st : List Value) : Option (zm_L × List Value) := match st with
  | .ref a :: st => some (zm_st1 ls k (.ref a), st)
  | .null :: st => some (zm_st1 ls k .null, st)
  | .retAddr a :: st => some (zm_st1 ls k (.retAddr a), st)
  | _ => none
def zm_ii (f : Int32 → Int32 → Int32) (ls : zm_L) (st : List Value) : Option (zm_L × List Value) := match st with
  | .int b :: .int a :: st => some (ls, .int (f a b) :: st)
  | _ => none
def zm_iz (f : Int32 → Int32 → Int32) (ls : zm_L) (st : List Value) : Option (zm_L × List Value) := match st with
  | .int b :: .int a :: st => if b = 0 then none else some (ls, .int (f a b) :: st)
  | _ => none
def zm_i (f : Int32 → Int32) (ls : zm_L) (st : List Value) : Option (zm_L × List Value) := match st with
  | .int a :: st => some (ls, .int (f a) :: st)
  | _ => none
def zm_ll (f : Int64 → Int64 → Int64) (ls : zm_L) (st : List Value) : Option (zm_L × List Value) := match st with
  | .long b :: .long a :: st => some (ls, .long (f a b) :: st)
  | _ => none
def zm_lz (f : Int64 → Int64 → Int64) (ls : zm_L) (st : List Value) : Option (zm_L × List Value) := match st with
  | .long b :: .long a :: st => if b = 0 then none else some (ls, .long (f a b) :: st)
  | _ => none
def zm_l (f : Int64 → Int64) (ls : zm_L) (st : List Value) : Option (zm_L × List Value) := match st with
  | .long a :: st => some (ls, .long (f a) :: st)
  | _ => none
def zm_i2l (ls : zm_L) (st : List Value) : Option (zm_L × List Value) := match st with
  | .int a :: st => some (ls, .long a.toInt64 :: st)
  | _ => none
def zm_l2i (ls : zm_L) (st : List Value) : Option (zm_L × List Value) := match st with
  | .long a :: st => some (ls, .int a.toInt32 :: st)
  | _ => none
def zm_lcmp (ls : zm_L) (st : List Value) : Option (zm_L × List Value) := match st with
  | .long b :: .long a :: st => some (ls, .int (lg_cmp a b) :: st)
  | _ => none
def zm_lshl (ls : zm_L) (st : List Value) : Option (zm_L × List Value) := match st with
  | .int b :: .long a :: st => some (ls, .long (a <<< (b.toInt64 &&& 63)) :: st)
  | _ => none
def zm_dup (ls : zm_L) (st : List Value) : Option (zm_L × List Value) := match st with
  | v :: st => bif Nat.beq v.category 1 then some (ls, v :: v :: st) else none
  | _ => none
def zm_dx1 (ls : zm_L) (st : List Value) : Option (zm_L × List Value) := match st with
  | v :: w :: st => bif Nat.beq v.category 1 && Nat.beq w.category 1 then some (ls, v :: w :: v :: st) else none
  | _ => none
def zm_dup2 (ls : zm_L) (st : List Value) : Option (zm_L × List Value) := match st with
  | v :: w :: st => bif Nat.beq v.category 1 && Nat.beq w.category 1 then some (ls, v :: w :: v :: w :: st) else none
  | _ => none
def zm_pop (ls : zm_L) (st : List Value) : Option (zm_L × List Value) := match st with
  | v :: st => bif Nat.beq v.category 1 then some (ls, st) else none
  | _ => none
def zm_pop2 (ls : zm_L) (st : List Value) : Option (zm_L × List Value) := match st with
  | v :: st => bif Nat.beq v.category 2 then some (ls, st) else none
  | _ => none
def zm_iinc (x : zm_X) (ls : zm_L) (k : Nat) (st : List Value) : Option (zm_L × List Value) := match zm_get ls k, x.2.2.2.1 with
  | some (.int a), .int c => some (zm_st1 ls k (.int (a + c)), st)
  | _, _ => none
/-- what needs neither the heap nor a jump -/
def zm_pure (i : Jvm.ClassFile.Instr) (x : zm_X) (ls : zm_L) (st : List Value) : Option (zm_L × List Value) := match i with
  | .iconst _ => some (ls, x.2.2.2.1 :: st)
  | .bipush _ => some (ls, x.2.2.2.1 :: st)
  | .sipush _ => some (ls, x.2.2.2.1 :: st)
  | .lconst _ => some (ls, x.2.2.2.1 :: st)
  | .ldc _ => some (ls, x.2.2.2.1 :: st)
  | .ldc_w _ => some (ls, x.2.2.2.1 :: st)
  | .ldc2_w _ => some (ls, x.2.2.2.1 :: st)
  | .aconst_null => some (ls, .null :: st)
  | .iload k => zm_ldi ls k st
  | .iload_n k => zm_ldi ls k.val st
  | .lload k => zm_ldl ls k st
  | .lload_n k => zm_ldl ls k.val st
  | .aload k => zm_lda ls k st
  | .aload_n k => zm_lda ls k.val st
  | .istore k => zm_sti ls k st
  | .istore_n k => zm_sti ls k.val st
  | .lstore k => zm_stl ls k st
  | .lstore_n k => zm_stl ls k.val st
  | .astore k => zm_sta ls k st
  | .astore_n k => zm_sta ls k.val st
  | .iinc k _ => zm_iinc x ls k st
  | .iadd => zm_ii (fun a b => a + b) ls st
  | .isub => zm_ii (fun a b => a - b) ls st
  | .imul => zm_ii (fun a b => a * b) ls st
  | .iand => zm_ii (fun a b => a &&& b) ls st
  | .ior => zm_ii (fun a b => a ||| b) ls st
  | .ixor => zm_ii (fun a b => a ^^^ b) ls st
  | .ishl => zm_ii (fun a b => a <<< (b &&& 31)) ls st
  | .ishr => zm_ii (fun a b => a >>> (b &&& 31)) ls st
  | .iushr => zm_ii (fun a b => (a.toUInt32 >>> (b.toUInt32 &&& Int32.toUInt32 31)).toInt32) ls st
  | .idiv => zm_iz (fun a b => a / b) ls st
  | .irem => zm_iz (fun a b => a - a / b * b) ls st
  | .ineg => zm_i (fun a => -a) ls st
  | .i2b => zm_i (fun a => a.toInt8.toInt32) ls st
  | .i2s => zm_i (fun a => a.toInt16.toInt32) ls st
  | .i2c => zm_i (fun a => (a.toUInt32 % 65536).toInt32) ls st
  | .ladd => zm_ll (fun a b => a + b) ls st
  | .lsub => zm_ll (fun a b => a - b) ls st
  | .lmul => zm_ll (fun a b => a * b) ls st
  | .land => zm_ll (fun a b => a &&& b) ls st
  | .lor => zm_ll (fun a b => a ||| b) ls st
  | .ldiv => zm_lz (fun a b => a / b) ls st
  | .lneg => zm_l (fun a => -a) ls st
  | .i2l => zm_i2l ls st
  | .l2i => zm_l2i ls st
  | .lcmp => zm_lcmp ls st
  | .lshl => zm_lshl ls st
  | .dup => zm_dup ls st
  | .dup_x1 => zm_dx1 ls st
  | .dup2 => zm_dup2 ls st
  | .pop => zm_pop ls st
  | .pop2 => zm_pop2 ls st
  | _ => none
def zm_if (c : Jvm.ClassFile.Cond) (a : Int32) (t f : Nat) : Nat := match c with
  | .eq => if a = 0 then t else f
  | .ne => if a = 0 then f else t
  | .lt => if a < 0 then t else f
  | .ge => if 0 ≤ a then t else f
  | .gt => if 0 < a then t else f
  | .le => if a ≤ 0 then t else f
def zm_ic (c : Jvm.ClassFile.Cond) (a b : Int32) (t f : Nat) : Nat := match c with
  | .eq => if a = b then t else f
  | .ne => if a = b then f else t
  | .lt => if a < b then t else f
  | .ge => if b ≤ a then t else f
  | .gt => if b < a then t else f
  | .le => if a ≤ b then t else f
def zm_ac (c : Jvm.ClassFile.ACond) (a b : Option Nat) (t f : Nat) : Nat := match c with
  | .eq => if a = b then t else f
  | .ne => if a = b then f else t
def zm_tab (pc : Nat) (d lo hi : Int) (offs : Array Int) (a : Int32) : Nat := if a.toInt < lo ∨ hi < a.toInt then ((pc : Int) + d).toNat else match offs[(a.toInt - lo).toNat]? with
  | some o => ((pc : Int) + o).toNat
  | none => 0
def zm_rf : Value → Option (Option Nat)
  | .ref a => some (some a)
  | .null => some none
  | _ => none
/-- jumps -/
def zm_br (i : Jvm.ClassFile.Instr) (x : zm_X) (pc : Nat) (st : List Value) : Option (Nat × List Value) := match i with
  | .goto _ => some (x.1, st)
  | .ifCond c _ => (match st with
    | .int a :: st => some (zm_if c a x.1 (pc + 3), st)
    | _ => none)
  | .if_icmp c _ => (match st with
    | .int b :: .int a :: st => some (zm_ic c a b x.1 (pc + 3), st)
    | _ => none)
  | .if_acmp c _ => (match st with
    | w :: v :: st => (match zm_rf v, zm_rf w with
      | some a, some b => some (zm_ac c a b x.1 (pc + 3), st)
      | _, _ => none)
    | _ => none)
  | .ifnull _ => (match st with
    | .ref _ :: st => some (pc + 3, st)
    | .null :: st => some (x.1, st)
    | _ => none)
  | .ifnonnull _ => (match st with
    | .ref _ :: st => some (x.1, st)
    | .null :: st => some (pc + 3, st)
    | _ => none)
  | .tableswitch d lo hi offs => (match st with
    | .int a :: st => some (zm_tab pc d lo hi offs a, st)
    | _ => none)
  | _ => none
def zm_kv (k : zm_K) (i : Nat) : Value := match k with
  | .inl f => .int (f i)
  | .inr (.inl f) => .long (f i)
  | .inr (.inr f) => va_rf (f i)
def zm_in (i : Int32) (n : Nat) : Bool := !(decide (i < 0)) && decide (i.toNatClampNeg < n)
def zm_rd (og : Nat → Option zm_C) (h : zm_H) (v : Value) : Option zm_C := match v with
  | .ref a => h[a]?
  | .retAddr j => og j
  | _ => none
def zm_zero (t : Nat) : zm_K := match t with
  | 1 => .inr (.inl (fun _ => 0))
  | _ => .inl (fun _ => 0)
def zm_sz (c : zm_C) : Nat := match c with
  | .inl (_, n, _) => n
  | .inr (_, fs) => fs.length
def zm_szs (h : zm_H) : Nat := (h.map zm_sz).sum
def zm_geto (x : zm_X) (st : List Value) (h : zm_H) (c : zm_C) : Option (List Value × zm_H) := match c with
  | .inr (ci, fs) => bif Nat.beq ci x.1 then (match fs[x.2.1]? with
    | some v => some (v :: st, h)
    | none => none) else none
  | _ => none
def zm_puto (x : zm_X) (a : Nat) (v : Value) (st : List Value) (h : zm_H) (c : zm_C) : Option (List Value × zm_H) := match c with
  | .inr (ci, fs) => bif Nat.beq ci x.1 && (Nat.blt x.2.1 fs.length && zm_okv (zm_ft ci x.2.1) v) then some (st, h.set a (.inr (ci, fs.set x.2.1 v))) else none
  | _ => none
def zm_lds (i : Jvm.ClassFile.Instr) (t : Nat) : Bool := match i with
  | .iaload => Nat.beq t 0
  | .laload => Nat.beq t 1
  | .baload => Nat.beq t 2 || Nat.beq t 3
  | .aaload => Nat.ble 4 t && Nat.ble t 7
  | _ => false
def zm_ald (og : Nat → Option zm_C) (i : Jvm.ClassFile.Instr) (st : List Value) (h : zm_H) : Option (List Value × zm_H) := match st with
  | .int j :: v :: st => (match zm_rd og h v with
    | some (.inl (t, n, k)) => bif zm_lds i t && zm_in j n then some (zm_kv k j.toNatClampNeg :: st, h) else none
    | _ => none)
  | _ => none
def zm_iast (st : List Value) (h : zm_H) : Option (List Value × zm_H) := match st with
  | .int v :: .int j :: .ref a :: st => (match h[a]? with
    | some (.inl (t, n, .inl f)) => bif Nat.beq t 0 && zm_in j n then some (st, h.set a (.inl (0, n, .inl (upd f j.toNatClampNeg v)))) else none
    | _ => none)
  | _ => none
def zm_bast (st : List Value) (h : zm_H) : Option (List Value × zm_H) := match st with
  | .int v :: .int j :: .ref a :: st => (match h[a]? with
    | some (.inl (t, n, .inl f)) => bif zm_in j n then (bif Nat.beq t 2 then some (st, h.set a (.inl (2, n, .inl (upd f j.toNatClampNeg v.toInt8.toInt32)))) else bif Nat.beq t 3 then some (st, h.set a (.inl (3, n, .inl (upd f j.toNatClampNeg (v &&& 1))))) else none) else none
    | _ => none)
  | _ => none
def zm_last (st : List Value) (h : zm_H) : Option (List Value × zm_H) := match st with
  | .long v :: .int j :: .ref a :: st => (match h[a]? with
    | some (.inl (t, n, .inr (.inl f))) => bif Nat.beq t 1 && zm_in j n then some (st, h.set a (.inl (1, n, .inr (.inl (vp_updL f j.toNatClampNeg v))))) else none
    | _ => none)
  | _ => none
def zm_aast (st : List Value) (h : zm_H) : Option (List Value × zm_H) := match st with
  | .ref r :: .int j :: .ref a :: st => (match h[a]?, h[r]? with
    | some (.inl (t, n, .inr (.inr f))), some (.inr (ci, _)) => bif Nat.ble 4 t && Nat.ble t 6 && Nat.beq ci (zm_tc t) && zm_in j n then some (st, h.set a (.inl (t, n, .inr (.inr (va_up f j.toNatClampNeg (some r)))))) else none
    | _, _ => none)
  | _ => none
def zm_newa (x : zm_X) (st : List Value) (h : zm_H) : Option (List Value × zm_H) := match st with
  | .int n :: st => bif !(decide (n < 0)) && Nat.ble n.toNatClampNeg 60000 then some (.ref h.length :: st, h ++ [.inl (x.1, n.toNatClampNeg, zm_zero x.1)]) else none
  | _ => none
def zm_anew (x : zm_X) (st : List Value) (h : zm_H) : Option (List Value × zm_H) := match st with
  | .int n :: st => bif !(decide (n < 0)) && Nat.ble n.toNatClampNeg 60000 then some (.ref h.length :: st, h ++ [.inl (x.1, n.toNatClampNeg, .inr (.inr (fun _ => none)))]) else none
  | _ => none
def zm_mnew (st : List Value) (h : zm_H) : Option (List Value × zm_H) := match st with
  | .int k :: .int n :: st => bif !(decide (n < 0)) && !(decide (k < 0)) && Nat.ble n.toNatClampNeg 60000 && Nat.ble k.toNatClampNeg 60000 then some (.ref h.length :: st, h ++ (.inl (7, n.toNatClampNeg, .inr (.inr (fun i => if i < n.toNatClampNeg then some (h.length + 1 + i) else none))) :: List.replicate n.toNatClampNeg (.inl (1, k.toNatClampNeg, .inr (.inl (fun _ => 0)))))) else none
  | _ => none
/-- Math.max, min, abs -/
def zm_math (c : Nat) (st : List Value) : Option (List Value) := match c with
  | 1 => (match st with
    | .int y :: .int x :: st => some (.int (if x < y then y else x) :: st)
    | _ => none)
  | 2 => (match st with
    | .int y :: .int x :: st => some (.int (if y < x then y else x) :: st)
    | _ => none)
  | 3 => (match st with
    | .int x :: st => some (.int (if 0 ≤ x then x else 0 - x) :: st)
    | _ => none)
  | 4 => (match st with
    | .long y :: .long x :: st => some (.long (if y < x then x else y) :: st)
    | _ => none)
  | 5 => (match st with
    | .long y :: .long x :: st => some (.long (if y < x then y else x) :: st)
    | _ => none)
  | 6 => (match st with
    | .long x :: st => some (.long (if 0 < x then x else -x) :: st)
    | _ => none)
  | _ => none
def zm_cat (st : List Value) : Nat := (st.map fun v => v.category).sum
/-- the heap -/
def zm_hp (df : Nat → List Value) (og : Nat → Option zm_C) (i : Jvm.ClassFile.Instr) (x : zm_X) (st : List Value) (h : zm_H) : Option (List Value × zm_H) := match i with
  | .getfield _ => (match st with
    | .ref a :: st => (match h[a]? with
      | some c => zm_geto x st h c
      | none => none)
    | _ => none)
  | .putfield _ => (match st with
    | v :: .ref a :: st => (match h[a]? with
      | some c => zm_puto x a v st h c
      | none => none)
    | _ => none)
  | .getstatic _ => some (x.2.2.2.1 :: st, h)
  | .arraylength => (match st with
    | v :: st => (match zm_rd og h v with
      | some (.inl (_, n, _)) => some (.int (Int32.ofNat n) :: st, h)
      | _ => none)
    | _ => none)
  | .iaload => zm_ald og .iaload st h
  | .laload => zm_ald og .laload st h
  | .baload => zm_ald og .baload st h
  | .aaload => zm_ald og .aaload st h
  | .iastore => zm_iast st h
  | .bastore => zm_bast st h
  | .lastore => zm_last st h
  | .aastore => zm_aast st h
  | .newarray _ => zm_newa x st h
  | .anewarray _ => zm_anew x st h
  | .multianewarray _ _ => zm_mnew st h
  | .new _ => some (.ref h.length :: st, h ++ [.inr (x.1, df x.1)])
  | .invokespecial _ => bif Nat.beq x.2.2.1 1 then (match st with
    | [.ref _] => some ([], h)
    | _ => none) else none
  | .invokestatic _ => (match zm_math x.2.2.1 st with
    | some st2 => bif Nat.ble (zm_cat st2) 8 then some (st2, h) else none
    | none => none)
  | _ => none
/-- a call: the callee, its arguments, what stays on the stack -/
def zm_call (i : Jvm.ClassFile.Instr) (x : zm_X) (st : List Value) (h : zm_H) : Option (Nat × List Value × List Value) := match i with
  | .invokestatic _ => bif Nat.beq x.2.2.1 0 && (Nat.ble x.2.1 st.length && Nat.ble (zm_cat (st.drop x.2.1)) 8) then some (x.1, (st.take x.2.1).reverse, st.drop x.2.1) else none
  | .invokevirtual _ => (match st.drop x.2.1 with
    | .ref b :: rest => (match h[b]? with
      | some (.inr (ci, _)) => bif Nat.beq ci x.2.2.1 && Nat.ble (zm_cat rest) 8 then some (x.1, .ref b :: (st.take x.2.1).reverse, rest) else none
      | _ => none)
    | _ => none)
  | .invokespecial _ => bif Nat.beq x.2.2.1 1 then none else (match st.drop x.2.1 with
    | .ref b :: rest => bif Nat.ble (zm_cat rest) 8 then some (x.1, .ref b :: (st.take x.2.1).reverse, rest) else none
    | _ => none)
  | _ => none
def zm_ret (ret : Option FieldType) (i : Jvm.ClassFile.Instr) (st : List Value) : Option (Option Value) := match i with
  | .return_ => (match ret, st with
    | none, [] => some none
    | _, _ => none)
  | .ireturn => (match ret, st with
    | some ty, [.int v] => bif zm_okv ty (.int v) then some (some (.int v)) else none
    | _, _ => none)
  | .lreturn => (match ret, st with
    | some .long, [.long v] => some (some (.long v))
    | _, _ => none)
  | .areturn => (match ret, st with
    | some (.object _), [.ref a] => some (some (.ref a))
    | some (.object _), [.null] => some (some .null)
    | some (.object _), [.retAddr a] => some (some (.retAddr a))
    | _, _ => none)
  | _ => none
/-- the small machine: fuel, depth, method, place, locals, stack, heap -/
def zm_ex (P : Nat → Option zm_M) (df : Nat → List Value) (og : Nat → Option zm_C) : Nat → Nat → Nat → Nat → zm_L → List Value → zm_H → Option (Option Value × zm_H)
  | 0, _, _, _, _, _, _ => none
  | n + 1, d, mi, pc, ls, st, h => match P mi with
    | none => none
    | some mr => match zm_at mr.2 pc with
      | none => none
      | some i => match zm_ret mr.1.2.2.2 i.1 st with
        | some r => some (r, h)
        | none => match zm_pure i.1 i.2.2 ls st with
          | some q => zm_ex P df og n d mi (pc + i.2.1) q.1 q.2 h
          | none => match zm_br i.1 i.2.2 pc st with
            | some q => zm_ex P df og n d mi q.1 ls q.2 h
            | none => match zm_hp df og i.1 i.2.2 st h with
              | some q => zm_ex P df og n d mi (pc + i.2.1) ls q.1 q.2
              | none => match zm_call i.1 i.2.2 st h with
                | none => none
                | some q => match d with
                  | 0 => none
                  | d + 1 => match P q.1 with
                    | none => none
                    | some mc => bif Nat.ble (zm_cat q.2.1) mc.1.2.2.1 then (match zm_ex P df og n d q.1 0 (lv_args 0 q.2.1) [] h with
                      | none => none
                      | some w => zm_ex P df og n (d + 1) mi (pc + 3) ls (w.1.toList ++ q.2.2) w.2) else none
end
section
/-! The machine goes as the small machine goes: steps without the heap -/
def zm_tr (ba : Nat) (ao : Nat → Nat) : Value → Value
  | .ref k => .ref (ba + k)
  | .retAddr j => .ref (ao j)
  | v => v
def zm_trl (ba : Nat) (ao : Nat → Nat) (ls : zm_L) : zm_L := ls.map (fun q => (q.1, zm_tr ba ao q.2))
theorem zm_tr_cat (ba : Nat) (ao : Nat → Nat) (v : Value) : (zm_tr ba ao v).category = v.category := by cases v <;> rfl
theorem zm_get_mem {ls : zm_L} {i : Nat} {v : Value} (h : zm_get ls i = some v) : (i, v) ∈ ls := by
  induction ls with
  | nil => simp [zm_get] at h
  | cons q t ih =>
    unfold zm_get at h
    cases hb : Nat.beq q.1 i with
    | true =>
      rw [hb] at h
      have e := Nat.eq_of_beq_eq_true hb
      simp only [cond_true, Option.some.injEq] at h
      subst h
      subst e
      exact List.mem_cons_self
    | false =>
      rw [hb] at h
      exact List.mem_cons_of_mem _ (ih h)
theorem zm_get_at {ba : Nat} {ao : Nat → Nat} {lsA : Array Slot} {nL : Nat} {ls : zm_L} {i : Nat} {v : Value} (h : lv_has lsA nL (zm_trl ba ao ls)) (hg : zm_get ls i = some v) : lsA[i]? = some (.val (zm_tr ba ao v)) :=
  h.2.2 (i, zm_tr ba ao v) (List.mem_map.mpr ⟨(i, v), zm_get_mem hg, rfl⟩)
theorem zm_st1_tr (ba : Nat) (ao : Nat → Nat) (ls : zm_L) (i : Nat) (v : Value) : (i, zm_tr ba ao v) :: (zm_trl ba ao ls).filter (fun q => !(q.1 == i) && !(q.1 + 1 == i && q.2.category == 2)) = zm_trl ba ao (zm_st1 ls i v) := by
  simp [zm_st1, zm_trl, List.filter_map, Function.comp_def, zm_tr_cat]
theorem zm_st2_tr (ba : Nat) (ao : Nat → Nat) (ls : zm_L) (i : Nat) (v : Value) : (i, zm_tr ba ao v) :: (zm_trl ba ao ls).filter (fun q => !(q.1 == i) && (!(q.1 == i + 1) && !(q.1 + 1 == i && q.2.category == 2))) = zm_trl ba ao (zm_st2 ls i v) := by
  simp [zm_st2, zm_trl, List.filter_map, Function.comp_def, zm_tr_cat]
/-- a word, by its place among the words -/
def zm_m (_TW : List Cond) (ps : List Nat) (j : Nat) (c : Cond) : Bool := match ps[j]? with
  | some p => (match zm_lk p with
    | some w => decide (w = c) && goodWord w
    | none => false)
  | none => false
theorem zm_m_in {ps : List Nat} {j : Nat} {c : Cond} (h : zm_m zm_W ps j c = true) : c ∈ zm_W := by
  unfold zm_m at h
  cases hp : ps[j]? with
  | none => rw [hp] at h; cases h
  | some p =>
    rw [hp] at h
    dsimp only at h
    cases hw : zm_lk p with
    | none => rw [hw] at h; cases h
    | some w =>
      rw [hw] at h
      simp only [Bool.and_eq_true, decide_eq_true_eq] at h
      obtain ⟨rfl, hg⟩ := h
      exact List.mem_filter.mpr ⟨zm_lk_in hw, hg⟩
abbrev zm_SS : Type := List (String × Nat × String × Nat)
def zm_sm (SS : zm_SS) (cls : String) (k j : Nat) : Bool := SS.any (fun q => decide (q.1 = cls) && (decide (q.2.1 = k) && decide (q.2.2.2 = j)))
def zm_ldok (TW : List Cond) (SS : zm_SS) (cls : String) (k : Nat) (x : zm_X) : Bool := match x.2.2.2.1 with
  | .int v => zm_m TW x.2.2.2.2 0 (.constant cls k v)
  | .retAddr j => zm_sm SS cls k j
  | _ => false
def zm_ldlok (TW : List Cond) (cls : String) (k : Nat) (x : zm_X) : Bool := match x.2.2.2.1 with
  | .long v => zm_m TW x.2.2.2.2 0 (.constantLong cls k v)
  | _ => false
/-- what a row must hold besides its decoding -/
def zm_pok (TW : List Cond) (SS : zm_SS) (cls : String) (maxL : Nat) (i : Jvm.ClassFile.Instr) (len : Nat) (x : zm_X) : Bool := match i with
  | .iconst n => decide (len = 1) && decide (x.2.2.2.1 = .int (Int32.ofInt n))
  | .bipush n => decide (len = 2) && decide (x.2.2.2.1 = .int (Int8.ofInt n).toInt32)
  | .sipush n => decide (len = 3) && decide (x.2.2.2.1 = .int (Int16.ofInt n).toInt32)
  | .lconst n => decide (len = 1) && decide (x.2.2.2.1 = .long (Int64.ofNat (n : Nat)))
  | .ldc k => decide (len = 2) && zm_ldok TW SS cls k x
  | .ldc_w k => decide (len = 3) && zm_ldok TW SS cls k x
  | .ldc2_w k => decide (len = 3) && zm_ldlok TW cls k x
  | .iload _ => decide (len = 2)
  | .lload _ => decide (len = 2)
  | .aload _ => decide (len = 2)
  | .istore k => decide (len = 2) && decide (k < maxL)
  | .lstore k => decide (len = 2) && decide (k + 1 < maxL)
  | .astore k => decide (len = 2) && decide (k < maxL)
  | .istore_n k => decide (len = 1) && decide (k.val < maxL)
  | .lstore_n k => decide (len = 1) && decide (k.val + 1 < maxL)
  | .astore_n k => decide (len = 1) && decide (k.val < maxL)
  | .iinc k n => decide (len = 3) && (decide (k < maxL) && decide (x.2.2.2.1 = .int (Int32.ofInt n)))
  | _ => decide (len = 1)
section ZMP
variable {p : Program} {l : Launch} {e : Env} {R : Room} {s : State} {m : MethodId} {args : Array Value} {below : List Frame} {meth : Method} {c : Code} {H : Heap} {locs : List Loc} {cells slots : Nat} {Q : State → Prop}
variable {cc : ByteArray} {pc : Nat} {lsA : Array Slot} {rest : List Value}
theorem zm_ldcwS (hexec : p.tables.exec = Jvm.exec) (hb : c.code = cc) {own tx : String} {index q : Nat} (hown : s.vm.findClass own = some m.cls) (hZ : vk_R own index tx q s) (hdg : decode cc pc = .ok (.ldc_w index, 3))
    (k : W p l e R s m args below meth c H locs cells slots Q (F0 m (pc + 3) lsA (.ref q :: rest))) : W p l e R s m args below meth c H locs cells slots Q (F0 m pc lsA rest) := by
  intro T hT X
  obtain ⟨t, a1, b1⟩ := k T hT X
  refine ⟨t, ?_, b1⟩
  obtain ⟨kk, cf, i, a', hk, hcf, hcp, -, hr, hev'⟩ := Cond.stringRef_spec hown hZ.1
  cases hZ.2.symm.trans hev'
  obtain ⟨k', hk', he⟩ := X.warmed.alike.2.2 _ _ hk
  have hr' : k'.resolved[index]? = some (some (.string q)) := by
    rcases X.warmed.entry hk hk' index with h | ⟨h, -⟩
    · rw [h]; exact hr
    · rw [hr] at h; cases h
  have hdg' : decode c.code (F0 m pc lsA rest).pc = .ok (.ldc_w index, 3) := by rw [hb]; exact hdg
  jvm_step X.here [hexec, hdg', Jvm.Op.ldc_w.wp_string (e := e) (s := T) (f := F0 m pc lsA rest) X.here.top hk' (by rw [he]; exact hcf) hcp hr']
  exact a1
variable {ba : Nat} {ao : Nat → Nat} {SS : zm_SS} {cls : String} {maxL len : Nat} {x : zm_X} {ls : zm_L} {st : List Value} {q : zm_L × List Value}
/-- what a heap-free step stands on -/
def zm_Cp (p : Program) (s : State) (m : MethodId) (args : Array Value) (c : Code) (cc : ByteArray) (ao : Nat → Nat) (TW : List Cond) (SS : zm_SS) (cls : String) : Prop :=
  p.tables.exec = Jvm.exec ∧ c.code = cc ∧ s.vm.findClass cls = some m.cls ∧ (∀ w ∈ TW, w.before args s = true) ∧ ∀ q ∈ SS, vk_R q.1 q.2.1 q.2.2.1 (ao q.2.2.2) s
theorem zm_ldc_ok {w : Bool} {k : Nat} (C : zm_Cp p s m args c cc ao zm_W SS cls) (hk : zm_ldok zm_W SS cls k x = true) (hd : decode cc pc = .ok (if w then (.ldc_w k, 3) else (.ldc k, 2)))
    (kk : W p l e R s m args below meth c H locs cells slots Q (F0 m (pc + (if w then 3 else 2)) lsA (zm_tr ba ao x.2.2.2.1 :: rest))) : W p l e R s m args below meth c H locs cells slots Q (F0 m pc lsA rest) := by
  obtain ⟨hx, hb, hown, hT, hS⟩ := C
  unfold zm_ldok at hk
  split at hk
  · rename_i v hv
    rw [hv] at kk
    have h1 := hT _ (zm_m_in hk)
    cases w with
    | true => exact lv_ldcw hx hb hown h1 hd kk
    | false => exact lv_ldc hx hb hown h1 hd kk
  · rename_i j hv
    rw [hv] at kk
    unfold zm_sm at hk
    obtain ⟨y, hy, h⟩ := List.any_eq_true.mp hk
    simp only [Bool.and_eq_true, decide_eq_true_eq] at h
    obtain ⟨h1, h2, h3⟩ := h
    have hr := hS y hy
    rw [h1, h2, h3] at hr
    cases w with
    | true => exact zm_ldcwS hx hb hown hr hd kk
    | false => exact va_ldcS hx hb hown hr hd kk
  · cases hk

theorem zm_p_iconst {n : Int} (C : zm_Cp p s m args c cc ao zm_W SS cls) (hd : decode cc pc = .ok ((.iconst n), len)) (hk : zm_pok zm_W SS cls maxL (.iconst n) len x = true) (hv : lv_has lsA maxL (zm_trl ba ao ls)) (hp : zm_pure (.iconst n) x ls st = some q)
    (kk : ∀ lsA, lv_has lsA maxL (zm_trl ba ao q.1) → W p l e R s m args below meth c H locs cells slots Q (F0 m (pc + len) lsA (q.2.map (zm_tr ba ao)))) : W p l e R s m args below meth c H locs cells slots Q (F0 m pc lsA (st.map (zm_tr ba ao))) := by
  obtain ⟨hx, hb, hown, hT, hS⟩ := id C
  simp only [zm_pok, Bool.and_eq_true, decide_eq_true_eq] at hk
  obtain ⟨rfl, hv2⟩ := hk
  simp only [zm_pure, Option.some.injEq] at hp
  subst hp
  have k1 := kk lsA hv
  simp only [List.map_cons, hv2, zm_tr] at k1
  exact lv_iconst hx hb hd rfl k1
theorem zm_p_bipush {n : Int} (C : zm_Cp p s m args c cc ao zm_W SS cls) (hd : decode cc pc = .ok ((.bipush n), len)) (hk : zm_pok zm_W SS cls maxL (.bipush n) len x = true) (hv : lv_has lsA maxL (zm_trl ba ao ls)) (hp : zm_pure (.bipush n) x ls st = some q)
    (kk : ∀ lsA, lv_has lsA maxL (zm_trl ba ao q.1) → W p l e R s m args below meth c H locs cells slots Q (F0 m (pc + len) lsA (q.2.map (zm_tr ba ao)))) : W p l e R s m args below meth c H locs cells slots Q (F0 m pc lsA (st.map (zm_tr ba ao))) := by
  obtain ⟨hx, hb, hown, hT, hS⟩ := id C
  simp only [zm_pok, Bool.and_eq_true, decide_eq_true_eq] at hk
  obtain ⟨rfl, hv2⟩ := hk
  simp only [zm_pure, Option.some.injEq] at hp
  subst hp
  have k1 := kk lsA hv
  simp only [List.map_cons, hv2, zm_tr] at k1
  exact lv_bipush hx hb hd rfl k1
theorem zm_p_sipush {n : Int} (C : zm_Cp p s m args c cc ao zm_W SS cls) (hd : decode cc pc = .ok ((.sipush n), len)) (hk : zm_pok zm_W SS cls maxL (.sipush n) len x = true) (hv : lv_has lsA maxL (zm_trl ba ao ls)) (hp : zm_pure (.sipush n) x ls st = some q)
    (kk : ∀ lsA, lv_has lsA maxL (zm_trl ba ao q.1) → W p l e R s m args below meth c H locs cells slots Q (F0 m (pc + len) lsA (q.2.map (zm_tr ba ao)))) : W p l e R s m args below meth c H locs cells slots Q (F0 m pc lsA (st.map (zm_tr ba ao))) := by
  obtain ⟨hx, hb, hown, hT, hS⟩ := id C
  simp only [zm_pok, Bool.and_eq_true, decide_eq_true_eq] at hk
  obtain ⟨rfl, hv2⟩ := hk
  simp only [zm_pure, Option.some.injEq] at hp
  subst hp
  have k1 := kk lsA hv
  simp only [List.map_cons, hv2, zm_tr] at k1
  exact lv_sipush hx hb hd rfl k1
theorem zm_p_lconst {n : Fin 2} (C : zm_Cp p s m args c cc ao zm_W SS cls) (hd : decode cc pc = .ok ((.lconst n), len)) (hk : zm_pok zm_W SS cls maxL (.lconst n) len x = true) (hv : lv_has lsA maxL (zm_trl ba ao ls)) (hp : zm_pure (.lconst n) x ls st = some q)
    (kk : ∀ lsA, lv_has lsA maxL (zm_trl ba ao q.1) → W p l e R s m args below meth c H locs cells slots Q (F0 m (pc + len) lsA (q.2.map (zm_tr ba ao)))) : W p l e R s m args below meth c H locs cells slots Q (F0 m pc lsA (st.map (zm_tr ba ao))) := by
  obtain ⟨hx, hb, hown, hT, hS⟩ := id C
  simp only [zm_pok, Bool.and_eq_true, decide_eq_true_eq] at hk
  obtain ⟨rfl, hv2⟩ := hk
  simp only [zm_pure, Option.some.injEq] at hp
  subst hp
  have k1 := kk lsA hv
  simp only [List.map_cons, hv2, zm_tr] at k1
  exact lv_lconst hx hb hd rfl k1
theorem zm_p_ldc {k : Nat} (C : zm_Cp p s m args c cc ao zm_W SS cls) (hd : decode cc pc = .ok ((.ldc k), len)) (hk : zm_pok zm_W SS cls maxL (.ldc k) len x = true) (hv : lv_has lsA maxL (zm_trl ba ao ls)) (hp : zm_pure (.ldc k) x ls st = some q)
    (kk : ∀ lsA, lv_has lsA maxL (zm_trl ba ao q.1) → W p l e R s m args below meth c H locs cells slots Q (F0 m (pc + len) lsA (q.2.map (zm_tr ba ao)))) : W p l e R s m args below meth c H locs cells slots Q (F0 m pc lsA (st.map (zm_tr ba ao))) := by
  obtain ⟨hx, hb, hown, hT, hS⟩ := id C
  simp only [zm_pok, Bool.and_eq_true, decide_eq_true_eq] at hk
  obtain ⟨rfl, hk⟩ := hk
  simp only [zm_pure, Option.some.injEq] at hp
  subst hp
  exact zm_ldc_ok (w := false) C hk hd (kk lsA hv)
theorem zm_p_ldc_w {k : Nat} (C : zm_Cp p s m args c cc ao zm_W SS cls) (hd : decode cc pc = .ok ((.ldc_w k), len)) (hk : zm_pok zm_W SS cls maxL (.ldc_w k) len x = true) (hv : lv_has lsA maxL (zm_trl ba ao ls)) (hp : zm_pure (.ldc_w k) x ls st = some q)
    (kk : ∀ lsA, lv_has lsA maxL (zm_trl ba ao q.1) → W p l e R s m args below meth c H locs cells slots Q (F0 m (pc + len) lsA (q.2.map (zm_tr ba ao)))) : W p l e R s m args below meth c H locs cells slots Q (F0 m pc lsA (st.map (zm_tr ba ao))) := by
  obtain ⟨hx, hb, hown, hT, hS⟩ := id C
  simp only [zm_pok, Bool.and_eq_true, decide_eq_true_eq] at hk
  obtain ⟨rfl, hk⟩ := hk
  simp only [zm_pure, Option.some.injEq] at hp
  subst hp
  exact zm_ldc_ok (w := true) C hk hd (kk lsA hv)
theorem zm_p_ldc2_w {k : Nat} (C : zm_Cp p s m args c cc ao zm_W SS cls) (hd : decode cc pc = .ok ((.ldc2_w k), len)) (hk : zm_pok zm_W SS cls maxL (.ldc2_w k) len x = true) (hv : lv_has lsA maxL (zm_trl ba ao ls)) (hp : zm_pure (.ldc2_w k) x ls st = some q)
    (kk : ∀ lsA, lv_has lsA maxL (zm_trl ba ao q.1) → W p l e R s m args below meth c H locs cells slots Q (F0 m (pc + len) lsA (q.2.map (zm_tr ba ao)))) : W p l e R s m args below meth c H locs cells slots Q (F0 m pc lsA (st.map (zm_tr ba ao))) := by
  obtain ⟨hx, hb, hown, hT, hS⟩ := id C
  simp only [zm_pok, Bool.and_eq_true, decide_eq_true_eq] at hk
  obtain ⟨rfl, hk⟩ := hk
  simp only [zm_pure, Option.some.injEq] at hp
  subst hp
  unfold zm_ldlok at hk
  split at hk
  · rename_i v hv2
    have k1 := kk lsA hv
    simp only [List.map_cons, hv2, zm_tr] at k1
    exact lv_ldc2 hx hb hown (hT _ (zm_m_in hk)) hd k1
  · cases hk
theorem zm_p_aconst_null (C : zm_Cp p s m args c cc ao zm_W SS cls) (hd : decode cc pc = .ok (.aconst_null, len)) (hk : zm_pok zm_W SS cls maxL .aconst_null len x = true) (hv : lv_has lsA maxL (zm_trl ba ao ls)) (hp : zm_pure .aconst_null x ls st = some q)
    (kk : ∀ lsA, lv_has lsA maxL (zm_trl ba ao q.1) → W p l e R s m args below meth c H locs cells slots Q (F0 m (pc + len) lsA (q.2.map (zm_tr ba ao)))) : W p l e R s m args below meth c H locs cells slots Q (F0 m pc lsA (st.map (zm_tr ba ao))) := by
  obtain ⟨hx, hb, hown, hT, hS⟩ := id C
  simp only [zm_pok, decide_eq_true_eq] at hk
  subst hk
  simp only [zm_pure, Option.some.injEq] at hp
  subst hp
  exact lv_null hx hb hd (kk lsA hv)
theorem zm_p_iload {k : Nat} (C : zm_Cp p s m args c cc ao zm_W SS cls) (hd : decode cc pc = .ok ((.iload k), len)) (hk : zm_pok zm_W SS cls maxL (.iload k) len x = true) (hv : lv_has lsA maxL (zm_trl ba ao ls)) (hp : zm_pure (.iload k) x ls st = some q)
    (kk : ∀ lsA, lv_has lsA maxL (zm_trl ba ao q.1) → W p l e R s m args below meth c H locs cells slots Q (F0 m (pc + len) lsA (q.2.map (zm_tr ba ao)))) : W p l e R s m args below meth c H locs cells slots Q (F0 m pc lsA (st.map (zm_tr ba ao))) := by
  obtain ⟨hx, hb, hown, hT, hS⟩ := id C
  simp only [zm_pok, decide_eq_true_eq] at hk
  subst hk
  simp only [zm_pure] at hp
  unfold zm_ldi at hp
  split at hp
  · rename_i a hg
    simp only [Option.some.injEq] at hp
    subst hp
    exact lv_iload hx hb hd (zm_get_at hv hg) (kk lsA hv)
  · cases hp
theorem zm_p_iload_n {k : Fin 4} (C : zm_Cp p s m args c cc ao zm_W SS cls) (hd : decode cc pc = .ok ((.iload_n k), len)) (hk : zm_pok zm_W SS cls maxL (.iload_n k) len x = true) (hv : lv_has lsA maxL (zm_trl ba ao ls)) (hp : zm_pure (.iload_n k) x ls st = some q)
    (kk : ∀ lsA, lv_has lsA maxL (zm_trl ba ao q.1) → W p l e R s m args below meth c H locs cells slots Q (F0 m (pc + len) lsA (q.2.map (zm_tr ba ao)))) : W p l e R s m args below meth c H locs cells slots Q (F0 m pc lsA (st.map (zm_tr ba ao))) := by
  obtain ⟨hx, hb, hown, hT, hS⟩ := id C
  simp only [zm_pok, decide_eq_true_eq] at hk
  subst hk
  simp only [zm_pure] at hp
  unfold zm_ldi at hp
  split at hp
  · rename_i a hg
    simp only [Option.some.injEq] at hp
    subst hp
    exact lv_iload_n hx hb hd rfl (zm_get_at hv hg) (kk lsA hv)
  · cases hp
theorem zm_p_lload {k : Nat} (C : zm_Cp p s m args c cc ao zm_W SS cls) (hd : decode cc pc = .ok ((.lload k), len)) (hk : zm_pok zm_W SS cls maxL (.lload k) len x = true) (hv : lv_has lsA maxL (zm_trl ba ao ls)) (hp : zm_pure (.lload k) x ls st = some q)
    (kk : ∀ lsA, lv_has lsA maxL (zm_trl ba ao q.1) → W p l e R s m args below meth c H locs cells slots Q (F0 m (pc + len) lsA (q.2.map (zm_tr ba ao)))) : W p l e R s m args below meth c H locs cells slots Q (F0 m pc lsA (st.map (zm_tr ba ao))) := by
  obtain ⟨hx, hb, hown, hT, hS⟩ := id C
  simp only [zm_pok, decide_eq_true_eq] at hk
  subst hk
  simp only [zm_pure] at hp
  unfold zm_ldl at hp
  split at hp
  · rename_i a hg
    simp only [Option.some.injEq] at hp
    subst hp
    exact lv_lload hx hb hd (zm_get_at hv hg) (kk lsA hv)
  · cases hp
theorem zm_p_lload_n {k : Fin 4} (C : zm_Cp p s m args c cc ao zm_W SS cls) (hd : decode cc pc = .ok ((.lload_n k), len)) (hk : zm_pok zm_W SS cls maxL (.lload_n k) len x = true) (hv : lv_has lsA maxL (zm_trl ba ao ls)) (hp : zm_pure (.lload_n k) x ls st = some q)
    (kk : ∀ lsA, lv_has lsA maxL (zm_trl ba ao q.1) → W p l e R s m args below meth c H locs cells slots Q (F0 m (pc + len) lsA (q.2.map (zm_tr ba ao)))) : W p l e R s m args below meth c H locs cells slots Q (F0 m pc lsA (st.map (zm_tr ba ao))) := by
  obtain ⟨hx, hb, hown, hT, hS⟩ := id C
  simp only [zm_pok, decide_eq_true_eq] at hk
  subst hk
  simp only [zm_pure] at hp
  unfold zm_ldl at hp
  split at hp
  · rename_i a hg
    simp only [Option.some.injEq] at hp
    subst hp
    exact lv_lload_n hx hb hd rfl (zm_get_at hv hg) (kk lsA hv)
  · cases hp
theorem zm_p_aload {k : Nat} (C : zm_Cp p s m args c cc ao zm_W SS cls) (hd : decode cc pc = .ok ((.aload k), len)) (hk : zm_pok zm_W SS cls maxL (.aload k) len x = true) (hv : lv_has lsA maxL (zm_trl ba ao ls)) (hp : zm_pure (.aload k) x ls st = some q)
    (kk : ∀ lsA, lv_has lsA maxL (zm_trl ba ao q.1) → W p l e R s m args below meth c H locs cells slots Q (F0 m (pc + len) lsA (q.2.map (zm_tr ba ao)))) : W p l e R s m args below meth c H locs cells slots Q (F0 m pc lsA (st.map (zm_tr ba ao))) := by
  obtain ⟨hx, hb, hown, hT, hS⟩ := id C
  simp only [zm_pok, decide_eq_true_eq] at hk
  subst hk
  simp only [zm_pure] at hp
  unfold zm_lda at hp
  split at hp
  · rename_i a hg
    simp only [Option.some.injEq] at hp
    subst hp
    exact lv_aload hx hb hd (zm_get_at hv hg) (kk lsA hv)
  · rename_i hg
    simp only [Option.some.injEq] at hp
    subst hp
    exact lv_aloadN hx hb hd (zm_get_at hv hg) (kk lsA hv)
  · rename_i a hg
    simp only [Option.some.injEq] at hp
    subst hp
    exact lv_aload hx hb hd (zm_get_at hv hg) (kk lsA hv)
  · cases hp
theorem zm_p_aload_n {k : Fin 4} (C : zm_Cp p s m args c cc ao zm_W SS cls) (hd : decode cc pc = .ok ((.aload_n k), len)) (hk : zm_pok zm_W SS cls maxL (.aload_n k) len x = true) (hv : lv_has lsA maxL (zm_trl ba ao ls)) (hp : zm_pure (.aload_n k) x ls st = some q)
    (kk : ∀ lsA, lv_has lsA maxL (zm_trl ba ao q.1) → W p l e R s m args below meth c H locs cells slots Q (F0 m (pc + len) lsA (q.2.map (zm_tr ba ao)))) : W p l e R s m args below meth c H locs cells slots Q (F0 m pc lsA (st.map (zm_tr ba ao))) := by
  obtain ⟨hx, hb, hown, hT, hS⟩ := id C
  simp only [zm_pok, decide_eq_true_eq] at hk
  subst hk
  simp only [zm_pure] at hp
  unfold zm_lda at hp
  split at hp
  · rename_i a hg
    simp only [Option.some.injEq] at hp
    subst hp
    exact lv_aload_n hx hb hd rfl (zm_get_at hv hg) (kk lsA hv)
  · rename_i hg
    simp only [Option.some.injEq] at hp
    subst hp
    exact lv_aload_nN hx hb hd rfl (zm_get_at hv hg) (kk lsA hv)
  · rename_i a hg
    simp only [Option.some.injEq] at hp
    subst hp
    exact lv_aload_n hx hb hd rfl (zm_get_at hv hg) (kk lsA hv)
  · cases hp
theorem zm_p_istore {k : Nat} (C : zm_Cp p s m args c cc ao zm_W SS cls) (hd : decode cc pc = .ok ((.istore k), len)) (hk : zm_pok zm_W SS cls maxL (.istore k) len x = true) (hv : lv_has lsA maxL (zm_trl ba ao ls)) (hp : zm_pure (.istore k) x ls st = some q)
    (kk : ∀ lsA, lv_has lsA maxL (zm_trl ba ao q.1) → W p l e R s m args below meth c H locs cells slots Q (F0 m (pc + len) lsA (q.2.map (zm_tr ba ao)))) : W p l e R s m args below meth c H locs cells slots Q (F0 m pc lsA (st.map (zm_tr ba ao))) := by
  obtain ⟨hx, hb, hown, hT, hS⟩ := id C
  simp only [zm_pok, Bool.and_eq_true, decide_eq_true_eq] at hk
  obtain ⟨rfl, hk⟩ := hk
  simp only [zm_pure] at hp
  unfold zm_sti at hp
  split at hp
  · rename_i a st2
    simp only [Option.some.injEq] at hp
    subst hp
    exact lv_istore hx hb hd hv hk (zm_st1_tr ba ao ls _ (.int a)) (fun ls2 h2 => kk ls2 h2)
  · cases hp
theorem zm_p_istore_n {k : Fin 4} (C : zm_Cp p s m args c cc ao zm_W SS cls) (hd : decode cc pc = .ok ((.istore_n k), len)) (hk : zm_pok zm_W SS cls maxL (.istore_n k) len x = true) (hv : lv_has lsA maxL (zm_trl ba ao ls)) (hp : zm_pure (.istore_n k) x ls st = some q)
    (kk : ∀ lsA, lv_has lsA maxL (zm_trl ba ao q.1) → W p l e R s m args below meth c H locs cells slots Q (F0 m (pc + len) lsA (q.2.map (zm_tr ba ao)))) : W p l e R s m args below meth c H locs cells slots Q (F0 m pc lsA (st.map (zm_tr ba ao))) := by
  obtain ⟨hx, hb, hown, hT, hS⟩ := id C
  simp only [zm_pok, Bool.and_eq_true, decide_eq_true_eq] at hk
  obtain ⟨rfl, hk⟩ := hk
  simp only [zm_pure] at hp
  unfold zm_sti at hp
  split at hp
  · rename_i a st2
    simp only [Option.some.injEq] at hp
    subst hp
    exact lv_istore_n hx hb hd rfl hv hk (zm_st1_tr ba ao ls _ (.int a)) (fun ls2 h2 => kk ls2 h2)
  · cases hp
theorem zm_p_lstore {k : Nat} (C : zm_Cp p s m args c cc ao zm_W SS cls) (hd : decode cc pc = .ok ((.lstore k), len)) (hk : zm_pok zm_W SS cls maxL (.lstore k) len x = true) (hv : lv_has lsA maxL (zm_trl ba ao ls)) (hp : zm_pure (.lstore k) x ls st = some q)
    (kk : ∀ lsA, lv_has lsA maxL (zm_trl ba ao q.1) → W p l e R s m args below meth c H locs cells slots Q (F0 m (pc + len) lsA (q.2.map (zm_tr ba ao)))) : W p l e R s m args below meth c H locs cells slots Q (F0 m pc lsA (st.map (zm_tr ba ao))) := by
  obtain ⟨hx, hb, hown, hT, hS⟩ := id C
  simp only [zm_pok, Bool.and_eq_true, decide_eq_true_eq] at hk
  obtain ⟨rfl, hk⟩ := hk
  simp only [zm_pure] at hp
  unfold zm_stl at hp
  split at hp
  · rename_i a st2
    simp only [Option.some.injEq] at hp
    subst hp
    exact lv_lstore hx hb hd hv hk (zm_st2_tr ba ao ls _ (.long a)) (fun ls2 h2 => kk ls2 h2)
  · cases hp
theorem zm_p_lstore_n {k : Fin 4} (C : zm_Cp p s m args c cc ao zm_W SS cls) (hd : decode cc pc = .ok ((.lstore_n k), len)) (hk : zm_pok zm_W SS cls maxL (.lstore_n k) len x = true) (hv : lv_has lsA maxL (zm_trl ba ao ls)) (hp : zm_pure (.lstore_n k) x ls st = some q)
    (kk : ∀ lsA, lv_has lsA maxL (zm_trl ba ao q.1) → W p l e R s m args below meth c H locs cells slots Q (F0 m (pc + len) lsA (q.2.map (zm_tr ba ao)))) : W p l e R s m args below meth c H locs cells slots Q (F0 m pc lsA (st.map (zm_tr ba ao))) := by
  obtain ⟨hx, hb, hown, hT, hS⟩ := id C
  simp only [zm_pok, Bool.and_eq_true, decide_eq_true_eq] at hk
  obtain ⟨rfl, hk⟩ := hk
  simp only [zm_pure] at hp
  unfold zm_stl at hp
  split at hp
  · rename_i a st2
    simp only [Option.some.injEq] at hp
    subst hp
    exact lv_lstore_n hx hb hd rfl hv hk (zm_st2_tr ba ao ls _ (.long a)) (fun ls2 h2 => kk ls2 h2)
  · cases hp
theorem zm_p_astore {k : Nat} (C : zm_Cp p s m args c cc ao zm_W SS cls) (hd : decode cc pc = .ok ((.astore k), len)) (hk : zm_pok zm_W SS cls maxL (.astore k) len x = true) (hv : lv_has lsA maxL (zm_trl ba ao ls)) (hp : zm_pure (.astore k) x ls st = some q)
    (kk : ∀ lsA, lv_has lsA maxL (zm_trl ba ao q.1) → W p l e R s m args below meth c H locs cells slots Q (F0 m (pc + len) lsA (q.2.map (zm_tr ba ao)))) : W p l e R s m args below meth c H locs cells slots Q (F0 m pc lsA (st.map (zm_tr ba ao))) := by
  obtain ⟨hx, hb, hown, hT, hS⟩ := id C
  simp only [zm_pok, Bool.and_eq_true, decide_eq_true_eq] at hk
  obtain ⟨rfl, hk⟩ := hk
  simp only [zm_pure] at hp
  unfold zm_sta at hp
  split at hp
  · rename_i a st2
    simp only [Option.some.injEq] at hp
    subst hp
    exact lv_astore hx hb hd hv hk (zm_st1_tr ba ao ls _ (.ref a)) (fun ls2 h2 => kk ls2 h2)
  · rename_i st2
    simp only [Option.some.injEq] at hp
    subst hp
    exact lv_astoreN hx hb hd hv hk (zm_st1_tr ba ao ls _ .null) (fun ls2 h2 => kk ls2 h2)
  · rename_i a st2
    simp only [Option.some.injEq] at hp
    subst hp
    exact lv_astore hx hb hd hv hk (zm_st1_tr ba ao ls _ (.retAddr a)) (fun ls2 h2 => kk ls2 h2)
  · cases hp
theorem zm_p_astore_n {k : Fin 4} (C : zm_Cp p s m args c cc ao zm_W SS cls) (hd : decode cc pc = .ok ((.astore_n k), len)) (hk : zm_pok zm_W SS cls maxL (.astore_n k) len x = true) (hv : lv_has lsA maxL (zm_trl ba ao ls)) (hp : zm_pure (.astore_n k) x ls st = some q)
    (kk : ∀ lsA, lv_has lsA maxL (zm_trl ba ao q.1) → W p l e R s m args below meth c H locs cells slots Q (F0 m (pc + len) lsA (q.2.map (zm_tr ba ao)))) : W p l e R s m args below meth c H locs cells slots Q (F0 m pc lsA (st.map (zm_tr ba ao))) := by
  obtain ⟨hx, hb, hown, hT, hS⟩ := id C
  simp only [zm_pok, Bool.and_eq_true, decide_eq_true_eq] at hk
  obtain ⟨rfl, hk⟩ := hk
  simp only [zm_pure] at hp
  unfold zm_sta at hp
  split at hp
  · rename_i a st2
    simp only [Option.some.injEq] at hp
    subst hp
    exact lv_astore_n hx hb hd rfl hv hk (zm_st1_tr ba ao ls _ (.ref a)) (fun ls2 h2 => kk ls2 h2)
  · rename_i st2
    simp only [Option.some.injEq] at hp
    subst hp
    exact lv_astore_nN hx hb hd rfl hv hk (zm_st1_tr ba ao ls _ .null) (fun ls2 h2 => kk ls2 h2)
  · rename_i a st2
    simp only [Option.some.injEq] at hp
    subst hp
    exact lv_astore_n hx hb hd rfl hv hk (zm_st1_tr ba ao ls _ (.retAddr a)) (fun ls2 h2 => kk ls2 h2)
  · cases hp
theorem zm_p_iinc {k : Nat} {n : Int} (C : zm_Cp p s m args c cc ao zm_W SS cls) (hd : decode cc pc = .ok ((.iinc k n), len)) (hk : zm_pok zm_W SS cls maxL (.iinc k n) len x = true) (hv : lv_has lsA maxL (zm_trl ba ao ls)) (hp : zm_pure (.iinc k n) x ls st = some q)
    (kk : ∀ lsA, lv_has lsA maxL (zm_trl ba ao q.1) → W p l e R s m args below meth c H locs cells slots Q (F0 m (pc + len) lsA (q.2.map (zm_tr ba ao)))) : W p l e R s m args below meth c H locs cells slots Q (F0 m pc lsA (st.map (zm_tr ba ao))) := by
  obtain ⟨hx, hb, hown, hT, hS⟩ := id C
  simp only [zm_pok, Bool.and_eq_true, decide_eq_true_eq] at hk
  obtain ⟨rfl, hk, hc⟩ := hk
  simp only [zm_pure] at hp
  unfold zm_iinc at hp
  rw [hc] at hp
  split at hp
  · rename_i a c2 hg hc2
    cases hc2
    simp only [Option.some.injEq] at hp
    subst hp
    obtain ⟨j, hj⟩ := List.getElem?_of_mem (List.mem_map.mpr ⟨(k, Value.int a), zm_get_mem hg, rfl⟩ : (k, Value.int a) ∈ zm_trl ba ao ls)
    exact lv_iinc hx hb hd hv hj rfl hk (zm_st1_tr ba ao ls _ (.int (a + Int32.ofInt n))) (fun ls2 h2 => kk ls2 h2)
  · cases hp
theorem zm_p_iadd (C : zm_Cp p s m args c cc ao zm_W SS cls) (hd : decode cc pc = .ok (.iadd, len)) (hk : zm_pok zm_W SS cls maxL .iadd len x = true) (hv : lv_has lsA maxL (zm_trl ba ao ls)) (hp : zm_pure .iadd x ls st = some q)
    (kk : ∀ lsA, lv_has lsA maxL (zm_trl ba ao q.1) → W p l e R s m args below meth c H locs cells slots Q (F0 m (pc + len) lsA (q.2.map (zm_tr ba ao)))) : W p l e R s m args below meth c H locs cells slots Q (F0 m pc lsA (st.map (zm_tr ba ao))) := by
  obtain ⟨hx, hb, hown, hT, hS⟩ := id C
  simp only [zm_pok, decide_eq_true_eq] at hk
  subst hk
  simp only [zm_pure] at hp
  unfold zm_ii at hp
  split at hp
  · rename_i b a st2
    simp only [Option.some.injEq] at hp
    subst hp
    exact lv_iadd hx hb hd (kk lsA hv)
  · cases hp
theorem zm_p_isub (C : zm_Cp p s m args c cc ao zm_W SS cls) (hd : decode cc pc = .ok (.isub, len)) (hk : zm_pok zm_W SS cls maxL .isub len x = true) (hv : lv_has lsA maxL (zm_trl ba ao ls)) (hp : zm_pure .isub x ls st = some q)
    (kk : ∀ lsA, lv_has lsA maxL (zm_trl ba ao q.1) → W p l e R s m args below meth c H locs cells slots Q (F0 m (pc + len) lsA (q.2.map (zm_tr ba ao)))) : W p l e R s m args below meth c H locs cells slots Q (F0 m pc lsA (st.map (zm_tr ba ao))) := by
  obtain ⟨hx, hb, hown, hT, hS⟩ := id C
  simp only [zm_pok, decide_eq_true_eq] at hk
  subst hk
  simp only [zm_pure] at hp
  unfold zm_ii at hp
  split at hp
  · rename_i b a st2
    simp only [Option.some.injEq] at hp
    subst hp
    exact lv_isub hx hb hd (kk lsA hv)
  · cases hp
theorem zm_p_imul (C : zm_Cp p s m args c cc ao zm_W SS cls) (hd : decode cc pc = .ok (.imul, len)) (hk : zm_pok zm_W SS cls maxL .imul len x = true) (hv : lv_has lsA maxL (zm_trl ba ao ls)) (hp : zm_pure .imul x ls st = some q)
    (kk : ∀ lsA, lv_has lsA maxL (zm_trl ba ao q.1) → W p l e R s m args below meth c H locs cells slots Q (F0 m (pc + len) lsA (q.2.map (zm_tr ba ao)))) : W p l e R s m args below meth c H locs cells slots Q (F0 m pc lsA (st.map (zm_tr ba ao))) := by
  obtain ⟨hx, hb, hown, hT, hS⟩ := id C
  simp only [zm_pok, decide_eq_true_eq] at hk
  subst hk
  simp only [zm_pure] at hp
  unfold zm_ii at hp
  split at hp
  · rename_i b a st2
    simp only [Option.some.injEq] at hp
    subst hp
    exact lv_imul hx hb hd (kk lsA hv)
  · cases hp
theorem zm_p_iand (C : zm_Cp p s m args c cc ao zm_W SS cls) (hd : decode cc pc = .ok (.iand, len)) (hk : zm_pok zm_W SS cls maxL .iand len x = true) (hv : lv_has lsA maxL (zm_trl ba ao ls)) (hp : zm_pure .iand x ls st = some q)
    (kk : ∀ lsA, lv_has lsA maxL (zm_trl ba ao q.1) → W p l e R s m args below meth c H locs cells slots Q (F0 m (pc + len) lsA (q.2.map (zm_tr ba ao)))) : W p l e R s m args below meth c H locs cells slots Q (F0 m pc lsA (st.map (zm_tr ba ao))) := by
  obtain ⟨hx, hb, hown, hT, hS⟩ := id C
  simp only [zm_pok, decide_eq_true_eq] at hk
  subst hk
  simp only [zm_pure] at hp
  unfold zm_ii at hp
  split at hp
  · rename_i b a st2
    simp only [Option.some.injEq] at hp
    subst hp
    exact lv_iand hx hb hd (kk lsA hv)
  · cases hp
theorem zm_p_ior (C : zm_Cp p s m args c cc ao zm_W SS cls) (hd : decode cc pc = .ok (.ior, len)) (hk : zm_pok zm_W SS cls maxL .ior len x = true) (hv : lv_has lsA maxL (zm_trl ba ao ls)) (hp : zm_pure .ior x ls st = some q)
    (kk : ∀ lsA, lv_has lsA maxL (zm_trl ba ao q.1) → W p l e R s m args below meth c H locs cells slots Q (F0 m (pc + len) lsA (q.2.map (zm_tr ba ao)))) : W p l e R s m args below meth c H locs cells slots Q (F0 m pc lsA (st.map (zm_tr ba ao))) := by
  obtain ⟨hx, hb, hown, hT, hS⟩ := id C
  simp only [zm_pok, decide_eq_true_eq] at hk
  subst hk
  simp only [zm_pure] at hp
  unfold zm_ii at hp
  split at hp
  · rename_i b a st2
    simp only [Option.some.injEq] at hp
    subst hp
    exact lv_ior hx hb hd (kk lsA hv)
  · cases hp
theorem zm_p_ixor (C : zm_Cp p s m args c cc ao zm_W SS cls) (hd : decode cc pc = .ok (.ixor, len)) (hk : zm_pok zm_W SS cls maxL .ixor len x = true) (hv : lv_has lsA maxL (zm_trl ba ao ls)) (hp : zm_pure .ixor x ls st = some q)
    (kk : ∀ lsA, lv_has lsA maxL (zm_trl ba ao q.1) → W p l e R s m args below meth c H locs cells slots Q (F0 m (pc + len) lsA (q.2.map (zm_tr ba ao)))) : W p l e R s m args below meth c H locs cells slots Q (F0 m pc lsA (st.map (zm_tr ba ao))) := by
  obtain ⟨hx, hb, hown, hT, hS⟩ := id C
  simp only [zm_pok, decide_eq_true_eq] at hk
  subst hk
  simp only [zm_pure] at hp
  unfold zm_ii at hp
  split at hp
  · rename_i b a st2
    simp only [Option.some.injEq] at hp
    subst hp
    exact lv_ixor hx hb hd (kk lsA hv)
  · cases hp
theorem zm_p_ishl (C : zm_Cp p s m args c cc ao zm_W SS cls) (hd : decode cc pc = .ok (.ishl, len)) (hk : zm_pok zm_W SS cls maxL .ishl len x = true) (hv : lv_has lsA maxL (zm_trl ba ao ls)) (hp : zm_pure .ishl x ls st = some q)
    (kk : ∀ lsA, lv_has lsA maxL (zm_trl ba ao q.1) → W p l e R s m args below meth c H locs cells slots Q (F0 m (pc + len) lsA (q.2.map (zm_tr ba ao)))) : W p l e R s m args below meth c H locs cells slots Q (F0 m pc lsA (st.map (zm_tr ba ao))) := by
  obtain ⟨hx, hb, hown, hT, hS⟩ := id C
  simp only [zm_pok, decide_eq_true_eq] at hk
  subst hk
  simp only [zm_pure] at hp
  unfold zm_ii at hp
  split at hp
  · rename_i b a st2
    simp only [Option.some.injEq] at hp
    subst hp
    exact lv_ishl hx hb hd (kk lsA hv)
  · cases hp
theorem zm_p_ishr (C : zm_Cp p s m args c cc ao zm_W SS cls) (hd : decode cc pc = .ok (.ishr, len)) (hk : zm_pok zm_W SS cls maxL .ishr len x = true) (hv : lv_has lsA maxL (zm_trl ba ao ls)) (hp : zm_pure .ishr x ls st = some q)
    (kk : ∀ lsA, lv_has lsA maxL (zm_trl ba ao q.1) → W p l e R s m args below meth c H locs cells slots Q (F0 m (pc + len) lsA (q.2.map (zm_tr ba ao)))) : W p l e R s m args below meth c H locs cells slots Q (F0 m pc lsA (st.map (zm_tr ba ao))) := by
  obtain ⟨hx, hb, hown, hT, hS⟩ := id C
  simp only [zm_pok, decide_eq_true_eq] at hk
  subst hk
  simp only [zm_pure] at hp
  unfold zm_ii at hp
  split at hp
  · rename_i b a st2
    simp only [Option.some.injEq] at hp
    subst hp
    exact lv_ishr hx hb hd (kk lsA hv)
  · cases hp
theorem zm_p_iushr (C : zm_Cp p s m args c cc ao zm_W SS cls) (hd : decode cc pc = .ok (.iushr, len)) (hk : zm_pok zm_W SS cls maxL .iushr len x = true) (hv : lv_has lsA maxL (zm_trl ba ao ls)) (hp : zm_pure .iushr x ls st = some q)
    (kk : ∀ lsA, lv_has lsA maxL (zm_trl ba ao q.1) → W p l e R s m args below meth c H locs cells slots Q (F0 m (pc + len) lsA (q.2.map (zm_tr ba ao)))) : W p l e R s m args below meth c H locs cells slots Q (F0 m pc lsA (st.map (zm_tr ba ao))) := by
  obtain ⟨hx, hb, hown, hT, hS⟩ := id C
  simp only [zm_pok, decide_eq_true_eq] at hk
  subst hk
  simp only [zm_pure] at hp
  unfold zm_ii at hp
  split at hp
  · rename_i b a st2
    simp only [Option.some.injEq] at hp
    subst hp
    exact lv_iushr hx hb hd rfl (kk lsA hv)
  · cases hp
theorem zm_p_ladd (C : zm_Cp p s m args c cc ao zm_W SS cls) (hd : decode cc pc = .ok (.ladd, len)) (hk : zm_pok zm_W SS cls maxL .ladd len x = true) (hv : lv_has lsA maxL (zm_trl ba ao ls)) (hp : zm_pure .ladd x ls st = some q)
    (kk : ∀ lsA, lv_has lsA maxL (zm_trl ba ao q.1) → W p l e R s m args below meth c H locs cells slots Q (F0 m (pc + len) lsA (q.2.map (zm_tr ba ao)))) : W p l e R s m args below meth c H locs cells slots Q (F0 m pc lsA (st.map (zm_tr ba ao))) := by
  obtain ⟨hx, hb, hown, hT, hS⟩ := id C
  simp only [zm_pok, decide_eq_true_eq] at hk
  subst hk
  simp only [zm_pure] at hp
  unfold zm_ll at hp
  split at hp
  · rename_i b a st2
    simp only [Option.some.injEq] at hp
    subst hp
    exact lv_ladd hx hb hd (kk lsA hv)
  · cases hp
theorem zm_p_lsub (C : zm_Cp p s m args c cc ao zm_W SS cls) (hd : decode cc pc = .ok (.lsub, len)) (hk : zm_pok zm_W SS cls maxL .lsub len x = true) (hv : lv_has lsA maxL (zm_trl ba ao ls)) (hp : zm_pure .lsub x ls st = some q)
    (kk : ∀ lsA, lv_has lsA maxL (zm_trl ba ao q.1) → W p l e R s m args below meth c H locs cells slots Q (F0 m (pc + len) lsA (q.2.map (zm_tr ba ao)))) : W p l e R s m args below meth c H locs cells slots Q (F0 m pc lsA (st.map (zm_tr ba ao))) := by
  obtain ⟨hx, hb, hown, hT, hS⟩ := id C
  simp only [zm_pok, decide_eq_true_eq] at hk
  subst hk
  simp only [zm_pure] at hp
  unfold zm_ll at hp
  split at hp
  · rename_i b a st2
    simp only [Option.some.injEq] at hp
    subst hp
    exact lv_lsub hx hb hd (kk lsA hv)
  · cases hp
theorem zm_p_lmul (C : zm_Cp p s m args c cc ao zm_W SS cls) (hd : decode cc pc = .ok (.lmul, len)) (hk : zm_pok zm_W SS cls maxL .lmul len x = true) (hv : lv_has lsA maxL (zm_trl ba ao ls)) (hp : zm_pure .lmul x ls st = some q)
    (kk : ∀ lsA, lv_has lsA maxL (zm_trl ba ao q.1) → W p l e R s m args below meth c H locs cells slots Q (F0 m (pc + len) lsA (q.2.map (zm_tr ba ao)))) : W p l e R s m args below meth c H locs cells slots Q (F0 m pc lsA (st.map (zm_tr ba ao))) := by
  obtain ⟨hx, hb, hown, hT, hS⟩ := id C
  simp only [zm_pok, decide_eq_true_eq] at hk
  subst hk
  simp only [zm_pure] at hp
  unfold zm_ll at hp
  split at hp
  · rename_i b a st2
    simp only [Option.some.injEq] at hp
    subst hp
    exact lv_lmul hx hb hd (kk lsA hv)
  · cases hp
theorem zm_p_land (C : zm_Cp p s m args c cc ao zm_W SS cls) (hd : decode cc pc = .ok (.land, len)) (hk : zm_pok zm_W SS cls maxL .land len x = true) (hv : lv_has lsA maxL (zm_trl ba ao ls)) (hp : zm_pure .land x ls st = some q)
    (kk : ∀ lsA, lv_has lsA maxL (zm_trl ba ao q.1) → W p l e R s m args below meth c H locs cells slots Q (F0 m (pc + len) lsA (q.2.map (zm_tr ba ao)))) : W p l e R s m args below meth c H locs cells slots Q (F0 m pc lsA (st.map (zm_tr ba ao))) := by
  obtain ⟨hx, hb, hown, hT, hS⟩ := id C
  simp only [zm_pok, decide_eq_true_eq] at hk
  subst hk
  simp only [zm_pure] at hp
  unfold zm_ll at hp
  split at hp
  · rename_i b a st2
    simp only [Option.some.injEq] at hp
    subst hp
    exact lv_land hx hb hd (kk lsA hv)
  · cases hp
theorem zm_p_lor (C : zm_Cp p s m args c cc ao zm_W SS cls) (hd : decode cc pc = .ok (.lor, len)) (hk : zm_pok zm_W SS cls maxL .lor len x = true) (hv : lv_has lsA maxL (zm_trl ba ao ls)) (hp : zm_pure .lor x ls st = some q)
    (kk : ∀ lsA, lv_has lsA maxL (zm_trl ba ao q.1) → W p l e R s m args below meth c H locs cells slots Q (F0 m (pc + len) lsA (q.2.map (zm_tr ba ao)))) : W p l e R s m args below meth c H locs cells slots Q (F0 m pc lsA (st.map (zm_tr ba ao))) := by
  obtain ⟨hx, hb, hown, hT, hS⟩ := id C
  simp only [zm_pok, decide_eq_true_eq] at hk
  subst hk
  simp only [zm_pure] at hp
  unfold zm_ll at hp
  split at hp
  · rename_i b a st2
    simp only [Option.some.injEq] at hp
    subst hp
    exact lv_lor hx hb hd (kk lsA hv)
  · cases hp
theorem zm_p_idiv (C : zm_Cp p s m args c cc ao zm_W SS cls) (hd : decode cc pc = .ok (.idiv, len)) (hk : zm_pok zm_W SS cls maxL .idiv len x = true) (hv : lv_has lsA maxL (zm_trl ba ao ls)) (hp : zm_pure .idiv x ls st = some q)
    (kk : ∀ lsA, lv_has lsA maxL (zm_trl ba ao q.1) → W p l e R s m args below meth c H locs cells slots Q (F0 m (pc + len) lsA (q.2.map (zm_tr ba ao)))) : W p l e R s m args below meth c H locs cells slots Q (F0 m pc lsA (st.map (zm_tr ba ao))) := by
  obtain ⟨hx, hb, hown, hT, hS⟩ := id C
  simp only [zm_pok, decide_eq_true_eq] at hk
  subst hk
  simp only [zm_pure] at hp
  unfold zm_iz at hp
  split at hp
  · rename_i b a st2
    split at hp
    · cases hp
    · rename_i hz
      simp only [Option.some.injEq] at hp
      subst hp
      exact lv_idiv hx hb hd hz (kk lsA hv)
  · cases hp
theorem zm_p_irem (C : zm_Cp p s m args c cc ao zm_W SS cls) (hd : decode cc pc = .ok (.irem, len)) (hk : zm_pok zm_W SS cls maxL .irem len x = true) (hv : lv_has lsA maxL (zm_trl ba ao ls)) (hp : zm_pure .irem x ls st = some q)
    (kk : ∀ lsA, lv_has lsA maxL (zm_trl ba ao q.1) → W p l e R s m args below meth c H locs cells slots Q (F0 m (pc + len) lsA (q.2.map (zm_tr ba ao)))) : W p l e R s m args below meth c H locs cells slots Q (F0 m pc lsA (st.map (zm_tr ba ao))) := by
  obtain ⟨hx, hb, hown, hT, hS⟩ := id C
  simp only [zm_pok, decide_eq_true_eq] at hk
  subst hk
  simp only [zm_pure] at hp
  unfold zm_iz at hp
  split at hp
  · rename_i b a st2
    split at hp
    · cases hp
    · rename_i hz
      simp only [Option.some.injEq] at hp
      subst hp
      exact lv_irem hx hb hd hz (kk lsA hv)
  · cases hp
theorem zm_p_ldiv (C : zm_Cp p s m args c cc ao zm_W SS cls) (hd : decode cc pc = .ok (.ldiv, len)) (hk : zm_pok zm_W SS cls maxL .ldiv len x = true) (hv : lv_has lsA maxL (zm_trl ba ao ls)) (hp : zm_pure .ldiv x ls st = some q)
    (kk : ∀ lsA, lv_has lsA maxL (zm_trl ba ao q.1) → W p l e R s m args below meth c H locs cells slots Q (F0 m (pc + len) lsA (q.2.map (zm_tr ba ao)))) : W p l e R s m args below meth c H locs cells slots Q (F0 m pc lsA (st.map (zm_tr ba ao))) := by
  obtain ⟨hx, hb, hown, hT, hS⟩ := id C
  simp only [zm_pok, decide_eq_true_eq] at hk
  subst hk
  simp only [zm_pure] at hp
  unfold zm_lz at hp
  split at hp
  · rename_i b a st2
    split at hp
    · cases hp
    · rename_i hz
      simp only [Option.some.injEq] at hp
      subst hp
      exact lv_ldiv hx hb hd hz (kk lsA hv)
  · cases hp
theorem zm_p_ineg (C : zm_Cp p s m args c cc ao zm_W SS cls) (hd : decode cc pc = .ok (.ineg, len)) (hk : zm_pok zm_W SS cls maxL .ineg len x = true) (hv : lv_has lsA maxL (zm_trl ba ao ls)) (hp : zm_pure .ineg x ls st = some q)
    (kk : ∀ lsA, lv_has lsA maxL (zm_trl ba ao q.1) → W p l e R s m args below meth c H locs cells slots Q (F0 m (pc + len) lsA (q.2.map (zm_tr ba ao)))) : W p l e R s m args below meth c H locs cells slots Q (F0 m pc lsA (st.map (zm_tr ba ao))) := by
  obtain ⟨hx, hb, hown, hT, hS⟩ := id C
  simp only [zm_pok, decide_eq_true_eq] at hk
  subst hk
  simp only [zm_pure] at hp
  unfold zm_i at hp
  split at hp
  · rename_i a st2
    simp only [Option.some.injEq] at hp
    subst hp
    exact lv_ineg hx hb hd (kk lsA hv)
  · cases hp
theorem zm_p_lneg (C : zm_Cp p s m args c cc ao zm_W SS cls) (hd : decode cc pc = .ok (.lneg, len)) (hk : zm_pok zm_W SS cls maxL .lneg len x = true) (hv : lv_has lsA maxL (zm_trl ba ao ls)) (hp : zm_pure .lneg x ls st = some q)
    (kk : ∀ lsA, lv_has lsA maxL (zm_trl ba ao q.1) → W p l e R s m args below meth c H locs cells slots Q (F0 m (pc + len) lsA (q.2.map (zm_tr ba ao)))) : W p l e R s m args below meth c H locs cells slots Q (F0 m pc lsA (st.map (zm_tr ba ao))) := by
  obtain ⟨hx, hb, hown, hT, hS⟩ := id C
  simp only [zm_pok, decide_eq_true_eq] at hk
  subst hk
  simp only [zm_pure] at hp
  unfold zm_l at hp
  split at hp
  · rename_i a st2
    simp only [Option.some.injEq] at hp
    subst hp
    exact lv_lneg hx hb hd (kk lsA hv)
  · cases hp
theorem zm_p_i2b (C : zm_Cp p s m args c cc ao zm_W SS cls) (hd : decode cc pc = .ok (.i2b, len)) (hk : zm_pok zm_W SS cls maxL .i2b len x = true) (hv : lv_has lsA maxL (zm_trl ba ao ls)) (hp : zm_pure .i2b x ls st = some q)
    (kk : ∀ lsA, lv_has lsA maxL (zm_trl ba ao q.1) → W p l e R s m args below meth c H locs cells slots Q (F0 m (pc + len) lsA (q.2.map (zm_tr ba ao)))) : W p l e R s m args below meth c H locs cells slots Q (F0 m pc lsA (st.map (zm_tr ba ao))) := by
  obtain ⟨hx, hb, hown, hT, hS⟩ := id C
  simp only [zm_pok, decide_eq_true_eq] at hk
  subst hk
  simp only [zm_pure] at hp
  unfold zm_i at hp
  split at hp
  · rename_i a st2
    simp only [Option.some.injEq] at hp
    subst hp
    exact lv_i2b hx hb hd rfl (kk lsA hv)
  · cases hp
theorem zm_p_i2s (C : zm_Cp p s m args c cc ao zm_W SS cls) (hd : decode cc pc = .ok (.i2s, len)) (hk : zm_pok zm_W SS cls maxL .i2s len x = true) (hv : lv_has lsA maxL (zm_trl ba ao ls)) (hp : zm_pure .i2s x ls st = some q)
    (kk : ∀ lsA, lv_has lsA maxL (zm_trl ba ao q.1) → W p l e R s m args below meth c H locs cells slots Q (F0 m (pc + len) lsA (q.2.map (zm_tr ba ao)))) : W p l e R s m args below meth c H locs cells slots Q (F0 m pc lsA (st.map (zm_tr ba ao))) := by
  obtain ⟨hx, hb, hown, hT, hS⟩ := id C
  simp only [zm_pok, decide_eq_true_eq] at hk
  subst hk
  simp only [zm_pure] at hp
  unfold zm_i at hp
  split at hp
  · rename_i a st2
    simp only [Option.some.injEq] at hp
    subst hp
    exact lv_i2s hx hb hd rfl (kk lsA hv)
  · cases hp
theorem zm_p_i2c (C : zm_Cp p s m args c cc ao zm_W SS cls) (hd : decode cc pc = .ok (.i2c, len)) (hk : zm_pok zm_W SS cls maxL .i2c len x = true) (hv : lv_has lsA maxL (zm_trl ba ao ls)) (hp : zm_pure .i2c x ls st = some q)
    (kk : ∀ lsA, lv_has lsA maxL (zm_trl ba ao q.1) → W p l e R s m args below meth c H locs cells slots Q (F0 m (pc + len) lsA (q.2.map (zm_tr ba ao)))) : W p l e R s m args below meth c H locs cells slots Q (F0 m pc lsA (st.map (zm_tr ba ao))) := by
  obtain ⟨hx, hb, hown, hT, hS⟩ := id C
  simp only [zm_pok, decide_eq_true_eq] at hk
  subst hk
  simp only [zm_pure] at hp
  unfold zm_i at hp
  split at hp
  · rename_i a st2
    simp only [Option.some.injEq] at hp
    subst hp
    exact lv_i2c hx hb hd rfl (kk lsA hv)
  · cases hp
theorem zm_p_i2l (C : zm_Cp p s m args c cc ao zm_W SS cls) (hd : decode cc pc = .ok (.i2l, len)) (hk : zm_pok zm_W SS cls maxL .i2l len x = true) (hv : lv_has lsA maxL (zm_trl ba ao ls)) (hp : zm_pure .i2l x ls st = some q)
    (kk : ∀ lsA, lv_has lsA maxL (zm_trl ba ao q.1) → W p l e R s m args below meth c H locs cells slots Q (F0 m (pc + len) lsA (q.2.map (zm_tr ba ao)))) : W p l e R s m args below meth c H locs cells slots Q (F0 m pc lsA (st.map (zm_tr ba ao))) := by
  obtain ⟨hx, hb, hown, hT, hS⟩ := id C
  simp only [zm_pok, decide_eq_true_eq] at hk
  subst hk
  simp only [zm_pure] at hp
  unfold zm_i2l at hp
  split at hp
  · rename_i a st2
    simp only [Option.some.injEq] at hp
    subst hp
    exact lv_i2l hx hb hd rfl (kk lsA hv)
  · cases hp
theorem zm_p_l2i (C : zm_Cp p s m args c cc ao zm_W SS cls) (hd : decode cc pc = .ok (.l2i, len)) (hk : zm_pok zm_W SS cls maxL .l2i len x = true) (hv : lv_has lsA maxL (zm_trl ba ao ls)) (hp : zm_pure .l2i x ls st = some q)
    (kk : ∀ lsA, lv_has lsA maxL (zm_trl ba ao q.1) → W p l e R s m args below meth c H locs cells slots Q (F0 m (pc + len) lsA (q.2.map (zm_tr ba ao)))) : W p l e R s m args below meth c H locs cells slots Q (F0 m pc lsA (st.map (zm_tr ba ao))) := by
  obtain ⟨hx, hb, hown, hT, hS⟩ := id C
  simp only [zm_pok, decide_eq_true_eq] at hk
  subst hk
  simp only [zm_pure] at hp
  unfold zm_l2i at hp
  split at hp
  · rename_i a st2
    simp only [Option.some.injEq] at hp
    subst hp
    exact lv_l2i hx hb hd rfl (kk lsA hv)
  · cases hp
theorem zm_p_lcmp (C : zm_Cp p s m args c cc ao zm_W SS cls) (hd : decode cc pc = .ok (.lcmp, len)) (hk : zm_pok zm_W SS cls maxL .lcmp len x = true) (hv : lv_has lsA maxL (zm_trl ba ao ls)) (hp : zm_pure .lcmp x ls st = some q)
    (kk : ∀ lsA, lv_has lsA maxL (zm_trl ba ao q.1) → W p l e R s m args below meth c H locs cells slots Q (F0 m (pc + len) lsA (q.2.map (zm_tr ba ao)))) : W p l e R s m args below meth c H locs cells slots Q (F0 m pc lsA (st.map (zm_tr ba ao))) := by
  obtain ⟨hx, hb, hown, hT, hS⟩ := id C
  simp only [zm_pok, decide_eq_true_eq] at hk
  subst hk
  simp only [zm_pure] at hp
  unfold zm_lcmp at hp
  split at hp
  · rename_i b a st2
    simp only [Option.some.injEq] at hp
    subst hp
    exact W.lcmp hx hb hd (kk lsA hv)
  · cases hp
theorem zm_p_lshl (C : zm_Cp p s m args c cc ao zm_W SS cls) (hd : decode cc pc = .ok (.lshl, len)) (hk : zm_pok zm_W SS cls maxL .lshl len x = true) (hv : lv_has lsA maxL (zm_trl ba ao ls)) (hp : zm_pure .lshl x ls st = some q)
    (kk : ∀ lsA, lv_has lsA maxL (zm_trl ba ao q.1) → W p l e R s m args below meth c H locs cells slots Q (F0 m (pc + len) lsA (q.2.map (zm_tr ba ao)))) : W p l e R s m args below meth c H locs cells slots Q (F0 m pc lsA (st.map (zm_tr ba ao))) := by
  obtain ⟨hx, hb, hown, hT, hS⟩ := id C
  simp only [zm_pok, decide_eq_true_eq] at hk
  subst hk
  simp only [zm_pure] at hp
  unfold zm_lshl at hp
  split at hp
  · rename_i b a st2
    simp only [Option.some.injEq] at hp
    subst hp
    exact lv_lshl hx hb hd rfl (kk lsA hv)
  · cases hp
theorem zm_p_dup (C : zm_Cp p s m args c cc ao zm_W SS cls) (hd : decode cc pc = .ok (.dup, len)) (hk : zm_pok zm_W SS cls maxL .dup len x = true) (hv : lv_has lsA maxL (zm_trl ba ao ls)) (hp : zm_pure .dup x ls st = some q)
    (kk : ∀ lsA, lv_has lsA maxL (zm_trl ba ao q.1) → W p l e R s m args below meth c H locs cells slots Q (F0 m (pc + len) lsA (q.2.map (zm_tr ba ao)))) : W p l e R s m args below meth c H locs cells slots Q (F0 m pc lsA (st.map (zm_tr ba ao))) := by
  obtain ⟨hx, hb, hown, hT, hS⟩ := id C
  simp only [zm_pok, decide_eq_true_eq] at hk
  subst hk
  simp only [zm_pure] at hp
  unfold zm_dup at hp
  split at hp
  · rename_i v st2
    cases hc : Nat.beq v.category 1 with
    | false => rw [hc] at hp; cases hp
    | true =>
      rw [hc] at hp
      simp only [cond_true, Option.some.injEq] at hp
      subst hp
      exact lv_dup hx hb hd ((zm_tr_cat ba ao v).trans (Nat.eq_of_beq_eq_true hc)) (kk lsA hv)
  · cases hp
theorem zm_p_pop (C : zm_Cp p s m args c cc ao zm_W SS cls) (hd : decode cc pc = .ok (.pop, len)) (hk : zm_pok zm_W SS cls maxL .pop len x = true) (hv : lv_has lsA maxL (zm_trl ba ao ls)) (hp : zm_pure .pop x ls st = some q)
    (kk : ∀ lsA, lv_has lsA maxL (zm_trl ba ao q.1) → W p l e R s m args below meth c H locs cells slots Q (F0 m (pc + len) lsA (q.2.map (zm_tr ba ao)))) : W p l e R s m args below meth c H locs cells slots Q (F0 m pc lsA (st.map (zm_tr ba ao))) := by
  obtain ⟨hx, hb, hown, hT, hS⟩ := id C
  simp only [zm_pok, decide_eq_true_eq] at hk
  subst hk
  simp only [zm_pure] at hp
  unfold zm_pop at hp
  split at hp
  · rename_i v st2
    cases hc : Nat.beq v.category 1 with
    | false => rw [hc] at hp; cases hp
    | true =>
      rw [hc] at hp
      simp only [cond_true, Option.some.injEq] at hp
      subst hp
      exact lv_pop hx hb hd ((zm_tr_cat ba ao v).trans (Nat.eq_of_beq_eq_true hc)) (kk lsA hv)
  · cases hp
theorem zm_p_pop2 (C : zm_Cp p s m args c cc ao zm_W SS cls) (hd : decode cc pc = .ok (.pop2, len)) (hk : zm_pok zm_W SS cls maxL .pop2 len x = true) (hv : lv_has lsA maxL (zm_trl ba ao ls)) (hp : zm_pure .pop2 x ls st = some q)
    (kk : ∀ lsA, lv_has lsA maxL (zm_trl ba ao q.1) → W p l e R s m args below meth c H locs cells slots Q (F0 m (pc + len) lsA (q.2.map (zm_tr ba ao)))) : W p l e R s m args below meth c H locs cells slots Q (F0 m pc lsA (st.map (zm_tr ba ao))) := by
  obtain ⟨hx, hb, hown, hT, hS⟩ := id C
  simp only [zm_pok, decide_eq_true_eq] at hk
  subst hk
  simp only [zm_pure] at hp
  unfold zm_pop2 at hp
  split at hp
  · rename_i v st2
    cases hc : Nat.beq v.category 2 with
    | false => rw [hc] at hp; cases hp
    | true =>
      rw [hc] at hp
      simp only [cond_true, Option.some.injEq] at hp
      subst hp
      exact lv_pop2_2 hx hb hd ((zm_tr_cat ba ao v).trans (Nat.eq_of_beq_eq_true hc)) (kk lsA hv)
  · cases hp
theorem zm_p_dup_x1 (C : zm_Cp p s m args c cc ao zm_W SS cls) (hd : decode cc pc = .ok (.dup_x1, len)) (hk : zm_pok zm_W SS cls maxL .dup_x1 len x = true) (hv : lv_has lsA maxL (zm_trl ba ao ls)) (hp : zm_pure .dup_x1 x ls st = some q)
    (kk : ∀ lsA, lv_has lsA maxL (zm_trl ba ao q.1) → W p l e R s m args below meth c H locs cells slots Q (F0 m (pc + len) lsA (q.2.map (zm_tr ba ao)))) : W p l e R s m args below meth c H locs cells slots Q (F0 m pc lsA (st.map (zm_tr ba ao))) := by
  obtain ⟨hx, hb, hown, hT, hS⟩ := id C
  simp only [zm_pok, decide_eq_true_eq] at hk
  subst hk
  simp only [zm_pure] at hp
  unfold zm_dx1 at hp
  split at hp
  · rename_i v w st2
    cases hc : (Nat.beq v.category 1 && Nat.beq w.category 1) with
    | false => rw [hc] at hp; cases hp
    | true =>
      rw [hc] at hp
      simp only [cond_true, Option.some.injEq] at hp
      subst hp
      simp only [Bool.and_eq_true] at hc
      exact lv_dup_x1 hx hb hd ((zm_tr_cat ba ao v).trans (Nat.eq_of_beq_eq_true hc.1)) ((zm_tr_cat ba ao w).trans (Nat.eq_of_beq_eq_true hc.2)) (kk lsA hv)
  · cases hp
theorem zm_p_dup2 (C : zm_Cp p s m args c cc ao zm_W SS cls) (hd : decode cc pc = .ok (.dup2, len)) (hk : zm_pok zm_W SS cls maxL .dup2 len x = true) (hv : lv_has lsA maxL (zm_trl ba ao ls)) (hp : zm_pure .dup2 x ls st = some q)
    (kk : ∀ lsA, lv_has lsA maxL (zm_trl ba ao q.1) → W p l e R s m args below meth c H locs cells slots Q (F0 m (pc + len) lsA (q.2.map (zm_tr ba ao)))) : W p l e R s m args below meth c H locs cells slots Q (F0 m pc lsA (st.map (zm_tr ba ao))) := by
  obtain ⟨hx, hb, hown, hT, hS⟩ := id C
  simp only [zm_pok, decide_eq_true_eq] at hk
  subst hk
  simp only [zm_pure] at hp
  unfold zm_dup2 at hp
  split at hp
  · rename_i v w st2
    cases hc : (Nat.beq v.category 1 && Nat.beq w.category 1) with
    | false => rw [hc] at hp; cases hp
    | true =>
      rw [hc] at hp
      simp only [cond_true, Option.some.injEq] at hp
      subst hp
      simp only [Bool.and_eq_true] at hc
      exact lv_dup2_11 hx hb hd ((zm_tr_cat ba ao v).trans (Nat.eq_of_beq_eq_true hc.1)) ((zm_tr_cat ba ao w).trans (Nat.eq_of_beq_eq_true hc.2)) (kk lsA hv)
  · cases hp
theorem zm_pure_ok {i : Jvm.ClassFile.Instr} (C : zm_Cp p s m args c cc ao zm_W SS cls) (hd : decode cc pc = .ok (i, len)) (hk : zm_pok zm_W SS cls maxL i len x = true) (hv : lv_has lsA maxL (zm_trl ba ao ls)) (hp : zm_pure i x ls st = some q)
    (kk : ∀ lsA, lv_has lsA maxL (zm_trl ba ao q.1) → W p l e R s m args below meth c H locs cells slots Q (F0 m (pc + len) lsA (q.2.map (zm_tr ba ao)))) : W p l e R s m args below meth c H locs cells slots Q (F0 m pc lsA (st.map (zm_tr ba ao))) := by
  cases i with
  | iconst _ => exact zm_p_iconst C hd hk hv hp kk
  | bipush _ => exact zm_p_bipush C hd hk hv hp kk
  | sipush _ => exact zm_p_sipush C hd hk hv hp kk
  | lconst _ => exact zm_p_lconst C hd hk hv hp kk
  | ldc _ => exact zm_p_ldc C hd hk hv hp kk
  | ldc_w _ => exact zm_p_ldc_w C hd hk hv hp kk
  | ldc2_w _ => exact zm_p_ldc2_w C hd hk hv hp kk
  | aconst_null => exact zm_p_aconst_null C hd hk hv hp kk
  | iload _ => exact zm_p_iload C hd hk hv hp kk
  | iload_n _ => exact zm_p_iload_n C hd hk hv hp kk
  | lload _ => exact zm_p_lload C hd hk hv hp kk
  | lload_n _ => exact zm_p_lload_n C hd hk hv hp kk
  | aload _ => exact zm_p_aload C hd hk hv hp kk
  | aload_n _ => exact zm_p_aload_n C hd hk hv hp kk
  | istore _ => exact zm_p_istore C hd hk hv hp kk
  | istore_n _ => exact zm_p_istore_n C hd hk hv hp kk
  | lstore _ => exact zm_p_lstore C hd hk hv hp kk
  | lstore_n _ => exact zm_p_lstore_n C hd hk hv hp kk
  | astore _ => exact zm_p_astore C hd hk hv hp kk
  | astore_n _ => exact zm_p_astore_n C hd hk hv hp kk
  | iinc _ _ => exact zm_p_iinc C hd hk hv hp kk
  | iadd => exact zm_p_iadd C hd hk hv hp kk
  | isub => exact zm_p_isub C hd hk hv hp kk
  | imul => exact zm_p_imul C hd hk hv hp kk
  | iand => exact zm_p_iand C hd hk hv hp kk
  | ior => exact zm_p_ior C hd hk hv hp kk
  | ixor => exact zm_p_ixor C hd hk hv hp kk
  | ishl => exact zm_p_ishl C hd hk hv hp kk
  | ishr => exact zm_p_ishr C hd hk hv hp kk
  | iushr => exact zm_p_iushr C hd hk hv hp kk
  | ladd => exact zm_p_ladd C hd hk hv hp kk
  | lsub => exact zm_p_lsub C hd hk hv hp kk
  | lmul => exact zm_p_lmul C hd hk hv hp kk
  | land => exact zm_p_land C hd hk hv hp kk
  | lor => exact zm_p_lor C hd hk hv hp kk
  | idiv => exact zm_p_idiv C hd hk hv hp kk
  | irem => exact zm_p_irem C hd hk hv hp kk
  | ldiv => exact zm_p_ldiv C hd hk hv hp kk
  | ineg => exact zm_p_ineg C hd hk hv hp kk
  | lneg => exact zm_p_lneg C hd hk hv hp kk
  | i2b => exact zm_p_i2b C hd hk hv hp kk
  | i2s => exact zm_p_i2s C hd hk hv hp kk
  | i2c => exact zm_p_i2c C hd hk hv hp kk
  | i2l => exact zm_p_i2l C hd hk hv hp kk
  | l2i => exact zm_p_l2i C hd hk hv hp kk
  | lcmp => exact zm_p_lcmp C hd hk hv hp kk
  | lshl => exact zm_p_lshl C hd hk hv hp kk
  | dup => exact zm_p_dup C hd hk hv hp kk
  | pop => exact zm_p_pop C hd hk hv hp kk
  | pop2 => exact zm_p_pop2 C hd hk hv hp kk
  | dup_x1 => exact zm_p_dup_x1 C hd hk hv hp kk
  | dup2 => exact zm_p_dup2 C hd hk hv hp kk
  | _ => cases hp
end ZMP
end
section
/-! Jumps -/
def zm_bok (pc : Nat) (i : Jvm.ClassFile.Instr) (len : Nat) (x : zm_X) : Bool := match i with
  | .goto off => decide (len = 3) && decide ((pc : Int) + off = (x.1 : Int))
  | .ifCond _ off => decide (len = 3) && decide ((pc : Int) + off = (x.1 : Int))
  | .if_icmp _ off => decide (len = 3) && decide ((pc : Int) + off = (x.1 : Int))
  | .if_acmp _ off => decide (len = 3) && decide ((pc : Int) + off = (x.1 : Int))
  | .ifnull off => decide (len = 3) && decide ((pc : Int) + off = (x.1 : Int))
  | .ifnonnull off => decide (len = 3) && decide ((pc : Int) + off = (x.1 : Int))
  | .tableswitch d lo hi offs => decide (0 ≤ (pc : Int) + d) && (decide (hi - lo < (offs.size : Int)) && offs.toList.all (fun o => decide (0 ≤ (pc : Int) + o)))
  | _ => true
section ZMB
variable {p : Program} {l : Launch} {e : Env} {R : Room} {s : State} {m : MethodId} {args : Array Value} {below : List Frame} {meth : Method} {c : Code} {H : Heap} {locs : List Loc} {cells slots : Nat} {Q : State → Prop}
variable {cc : ByteArray} {pc : Nat} {lsA : Array Slot} {rest : List Value}
variable {ba : Nat} {ao : Nat → Nat} {len : Nat} {x : zm_X} {st : List Value}
theorem zm_rf_tr {ba : Nat} {ao : Nat → Nat} {v : Value} {a : Option Nat} (h : zm_rf v = some a) : zm_tr ba ao v = va_rf (a.map (fun k => ba + k)) := by
  unfold zm_rf at h
  split at h
  · cases h; rfl
  · cases h; rfl
  · cases h
theorem zm_map_eq {ba : Nat} {a b : Option Nat} : a.map (fun k => ba + k) = b.map (fun k => ba + k) ↔ a = b := by
  cases a <;> cases b <;> simp
theorem zm_br_ok {i : Jvm.ClassFile.Instr} {q : Nat × List Value} (hx : p.tables.exec = Jvm.exec) (hb : c.code = cc) (hd : decode cc pc = .ok (i, len)) (hk : zm_bok pc i len x = true) (hp : zm_br i x pc st = some q)
    (kk : W p l e R s m args below meth c H locs cells slots Q (F0 m q.1 lsA (q.2.map (zm_tr ba ao)))) : W p l e R s m args below meth c H locs cells slots Q (F0 m pc lsA (st.map (zm_tr ba ao))) := by
  cases i with
  | goto off =>
    simp only [zm_bok, Bool.and_eq_true, decide_eq_true_eq] at hk
    obtain ⟨rfl, ht⟩ := hk
    simp only [zm_br, Option.some.injEq] at hp
    subst hp
    exact lv_goto hx hb hd ht kk
  | ifCond cd off =>
    simp only [zm_bok, Bool.and_eq_true, decide_eq_true_eq] at hk
    obtain ⟨rfl, ht⟩ := hk
    simp only [zm_br] at hp
    split at hp
    · rename_i a st2
      simp only [Option.some.injEq] at hp
      subst hp
      cases cd with
      | eq => exact lv_if_eq hx hb hd ht (fun h => by simp only [zm_if, if_pos h] at kk; exact kk) (fun h => by simp only [zm_if, if_neg h] at kk; exact kk)
      | ne => exact lv_if_ne hx hb hd ht (fun h => by simp only [zm_if, if_neg h] at kk; exact kk) (fun h => by simp only [zm_if, if_pos h] at kk; exact kk)
      | lt => exact lv_if_lt hx hb hd ht (fun h => by simp only [zm_if, if_pos h] at kk; exact kk) (fun h => by simp only [zm_if, if_neg h] at kk; exact kk)
      | ge => exact lv_if_ge hx hb hd ht (fun h => by simp only [zm_if, if_pos h] at kk; exact kk) (fun h => by simp only [zm_if, if_neg h] at kk; exact kk)
      | gt => exact lv_if_gt hx hb hd ht (fun h => by simp only [zm_if, if_pos h] at kk; exact kk) (fun h => by simp only [zm_if, if_neg h] at kk; exact kk)
      | le => exact lv_if_le hx hb hd ht (fun h => by simp only [zm_if, if_pos h] at kk; exact kk) (fun h => by simp only [zm_if, if_neg h] at kk; exact kk)
    · cases hp
  | if_icmp cd off =>
    simp only [zm_bok, Bool.and_eq_true, decide_eq_true_eq] at hk
    obtain ⟨rfl, ht⟩ := hk
    simp only [zm_br] at hp
    split at hp
    · rename_i b a st2
      simp only [Option.some.injEq] at hp
      subst hp
      cases cd with
      | eq => exact lv_icmp_eq hx hb hd ht (fun h => by simp only [zm_ic, if_pos h] at kk; exact kk) (fun h => by simp only [zm_ic, if_neg h] at kk; exact kk)
      | ne => exact lv_icmp_ne hx hb hd ht (fun h => by simp only [zm_ic, if_neg h] at kk; exact kk) (fun h => by simp only [zm_ic, if_pos h] at kk; exact kk)
      | lt => exact lv_icmp_lt hx hb hd ht (fun h => by simp only [zm_ic, if_pos h] at kk; exact kk) (fun h => by simp only [zm_ic, if_neg h] at kk; exact kk)
      | ge => exact lv_icmp_ge hx hb hd ht (fun h => by simp only [zm_ic, if_pos h] at kk; exact kk) (fun h => by simp only [zm_ic, if_neg h] at kk; exact kk)
      | gt => exact lv_icmp_gt hx hb hd ht (fun h => by simp only [zm_ic, if_pos h] at kk; exact kk) (fun h => by simp only [zm_ic, if_neg h] at kk; exact kk)
      | le => exact lv_icmp_le hx hb hd ht (fun h => by simp only [zm_ic, if_pos h] at kk; exact kk) (fun h => by simp only [zm_ic, if_neg h] at kk; exact kk)
    · cases hp
  | if_acmp cd off =>
    simp only [zm_bok, Bool.and_eq_true, decide_eq_true_eq] at hk
    obtain ⟨rfl, ht⟩ := hk
    simp only [zm_br] at hp
    split at hp
    · rename_i w v st2
      split at hp
      · rename_i a b ha hb2
        simp only [Option.some.injEq] at hp
        subst hp
        simp only [List.map_cons, zm_rf_tr (ba := ba) (ao := ao) ha, zm_rf_tr (ba := ba) (ao := ao) hb2]
        cases cd with
        | eq => exact lv_acmp_eq hx hb hd ht (fun h => by simp only [zm_ac, if_pos (zm_map_eq.mp h)] at kk; exact kk) (fun h => by simp only [zm_ac, if_neg (fun z => h (zm_map_eq.mpr z))] at kk; exact kk)
        | ne => exact lv_acmp_ne hx hb hd ht (fun h => by simp only [zm_ac, if_neg (fun z => h (zm_map_eq.mpr z))] at kk; exact kk) (fun h => by simp only [zm_ac, if_pos (zm_map_eq.mp h)] at kk; exact kk)
      · cases hp
    · cases hp
  | ifnull off =>
    simp only [zm_bok, Bool.and_eq_true, decide_eq_true_eq] at hk
    obtain ⟨rfl, ht⟩ := hk
    simp only [zm_br] at hp
    split at hp
    · simp only [Option.some.injEq] at hp
      subst hp
      exact lv_ifnull hx hb hd kk
    · simp only [Option.some.injEq] at hp
      subst hp
      exact lv_ifnullN hx hb hd ht kk
    · cases hp
  | ifnonnull off =>
    simp only [zm_bok, Bool.and_eq_true, decide_eq_true_eq] at hk
    obtain ⟨rfl, ht⟩ := hk
    simp only [zm_br] at hp
    split at hp
    · simp only [Option.some.injEq] at hp
      subst hp
      exact lv_ifnonnull hx hb hd ht kk
    · simp only [Option.some.injEq] at hp
      subst hp
      exact lv_ifnonnullN hx hb hd kk
    · cases hp
  | tableswitch d lo hi offs =>
    simp only [zm_bok, Bool.and_eq_true, decide_eq_true_eq, List.all_eq_true] at hk
    obtain ⟨h1, h2, h3⟩ := hk
    simp only [zm_br] at hp
    split at hp
    · rename_i a st2
      simp only [Option.some.injEq] at hp
      subst hp
      by_cases ho : a.toInt < lo ∨ hi < a.toInt
      · simp only [zm_tab, if_pos ho] at kk
        exact lv_tableOut hx hb hd ho (Int.toNat_of_nonneg h1).symm kk
      · simp only [zm_tab, if_neg ho] at kk
        have hlt : (a.toInt - lo).toNat < offs.size := by omega
        have hs : offs[(a.toInt - lo).toNat]? = some offs[(a.toInt - lo).toNat] := Array.getElem?_eq_getElem hlt
        rw [hs] at kk
        dsimp only at kk
        exact lv_tableIn hx hb hd (fun z => ho (Or.inl z)) (fun z => ho (Or.inr z)) hs (Int.toNat_of_nonneg (h3 _ (by simp))).symm kk
    · cases hp
  | _ => cases hp
end ZMB
end
section
/-! The heap of the small machine, and the machine's -/
abbrev zm_E : Type := va_G × (Nat → ClassId) × (Nat → Nat) × Heap
abbrev zm_NW : Type := List (String × Nat × MethodName × String)
abbrev zm_ST : Type := List (String × String × String × Nat)
def zm_at1 (E : zm_E) (c : zm_C) (a : Nat) (H : Heap) : Prop := match c with
  | .inl (t, n, k) => t < 8 ∧ H[a]? = some (arrV (E.2.1 t) n (fun j => zm_tr E.2.2.2.size E.2.2.1 (zm_kv k j)))
  | .inr (ci, fs) => ∃ r : vw_C, zm_cl[ci]? = some r ∧ fs.length = r.2.2 ∧ t_OB a (E.1.1 ci) r.2.2 (E.1.2 ci) H (vp_V (fs.map (zm_tr E.2.2.2.size E.2.2.1)))
def zm_Rel (E : zm_E) (h : zm_H) (H : Heap) : Prop := H.size = E.2.2.2.size + h.length ∧ (∀ q : Nat, q < E.2.2.2.size → H[q]? = E.2.2.2[q]?) ∧ ∀ (k : Nat) (c : zm_C), h[k]? = some c → zm_at1 E c (E.2.2.2.size + k) H
def zm_G (E : zm_E) (SS : zm_SS) (ST : zm_ST) (NW : zm_NW) (og : Nat → Option zm_C) (U : State) : Prop :=
  va_K E.1 zm_cl [] U ∧ (∀ t : Nat, t < 8 → ArrOfT U (E.2.1 t) (zm_ty t) ∧ va_RA U (E.2.1 t) (zm_ty t)) ∧
  ((∀ t : Nat, 4 ≤ t → t < 7 → ∀ C : String, zm_ty t = .object C → va_AO C U) ∧ (Cond.arrayOver (.array .long)).before #[] U = true) ∧
  (∀ w ∈ NW, va_Nw (.methodLinkNest w.1 w.2.1 w.2.2.1 w.2.2.2) U) ∧
  (∀ q ∈ SS, vk_R q.1 q.2.1 q.2.2.1 (E.2.2.1 q.2.2.2) U) ∧
  (∀ q ∈ ST, va_Z q.1 q.2.1 q.2.2.1 (.ref (E.2.2.1 q.2.2.2)) (fun a => E.2.2.2.size ≤ a) U E.2.2.2) ∧
  ∀ (j t n : Nat) (k : zm_K), og j = some (.inl (t, n, k)) → t < 8 ∧ ∃ cell : Cell, E.2.2.2[E.2.2.1 j]? = some cell ∧ U.isArrayOf cell (zm_ty t) ∧ cell.vm ≠ .unknown ∧ cell.slots.size = n ∧ ∀ i : Nat, i < n → cell.slots[i]? = some (zm_tr E.2.2.2.size E.2.2.1 (zm_kv k i))
theorem zm_G.moved {E : zm_E} {SS : zm_SS} {ST : zm_ST} {NW : zm_NW} {og : Nat → Option zm_C} {s U : State} (hW : s.WarmedH U.vm) (h : zm_G E SS ST NW og s) : zm_G E SS ST NW og U := by
  obtain ⟨h1, h2, ⟨h3, h3b⟩, h4, h5, h6, h7⟩ := h
  refine ⟨va_K.moved hW.alike h1, fun t ht => ⟨arrOfT_moved hW.alike (h2 t ht).1, va_RA.moved hW.alike (h2 t ht).2⟩, ⟨fun t a b C hC => va_AO.moved hW.alike (h3 t a b C hC), arrayOver_alikeB hW.alike h3b⟩, fun w hw => va_Nw.warmM hW (h4 w hw), fun q hq => vk_R.warm hW (h5 q hq), fun q hq => va_Z.moved hW.alike (h6 q hq), fun j t n k hj => ?_⟩
  · obtain ⟨a, cell, b, c, d⟩ := h7 j t n k hj
    exact ⟨a, cell, b, State.isArrayOf_alike hW.alike c, d⟩
theorem zm_G.same {E : zm_E} {SS : zm_SS} {ST : zm_ST} {NW : zm_NW} {og : Nat → Option zm_C} {s U : State} (hv : U.vm = s.vm) (h : zm_G E SS ST NW og s) : zm_G E SS ST NW og U := h.moved (by rw [hv]; exact State.WarmedH.refl s)
theorem zm_in_vp {i : Int32} {n : Nat} (h : zm_in i n = true) : ¬ i < 0 ∧ i.toNatClampNeg < n := by
  unfold zm_in at h
  simp only [Bool.and_eq_true, Bool.not_eq_true', decide_eq_false_iff_not, decide_eq_true_eq] at h
  exact h
theorem zm_Rel.lt {E : zm_E} {h : zm_H} {H : Heap} {k : Nat} {c : zm_C} (hR : zm_Rel E h H) (hk : h[k]? = some c) : E.2.2.2.size + k < H.size := by
  have := (List.getElem?_eq_some_iff.mp hk).1
  rw [hR.1]
  omega
/-- one cell is written -/
theorem zm_Rel.set {E : zm_E} {h : zm_H} {H H1 : Heap} {k : Nat} {c c1 : zm_C} (hR : zm_Rel E h H) (hk : h[k]? = some c) (h1 : zm_at1 E c1 (E.2.2.2.size + k) H1) (z : H1.size = H.size) (o : ∀ q : Nat, q ≠ E.2.2.2.size + k → H1[q]? = H[q]?) : zm_Rel E (h.set k c1) H1 := by
  obtain ⟨a, b, d⟩ := hR
  have hl := (List.getElem?_eq_some_iff.mp hk).1
  refine ⟨by rw [z, a, List.length_set], fun q hq => by rw [o q (by omega)]; exact b q hq, fun j c2 hj => ?_⟩
  by_cases hjk : j = k
  · subst hjk
    rw [List.getElem?_set_self hl] at hj
    cases hj
    exact h1
  · rw [List.getElem?_set_ne (Ne.symm hjk)] at hj
    have h2 := d j c2 hj
    have e := o (E.2.2.2.size + j) (by omega)
    unfold zm_at1 at h2 ⊢
    split at h2
    · exact ⟨h2.1, by rw [e]; exact h2.2⟩
    · obtain ⟨r, r1, r2, r3⟩ := h2
      exact ⟨r, r1, r2, r3.kept e⟩
/-- one cell is made -/
theorem zm_Rel.push {E : zm_E} {h : zm_H} {H H1 : Heap} {c1 : zm_C} (hR : zm_Rel E h H) (h1 : zm_at1 E c1 H.size H1) (z : H1.size = H.size + 1) (o : ∀ q : Nat, q < H.size → H1[q]? = H[q]?) : zm_Rel E (h ++ [c1]) H1 := by
  obtain ⟨a, b, d⟩ := hR
  refine ⟨by rw [z, a, List.length_append, List.length_singleton, Nat.add_assoc], fun q hq => by rw [o q (by omega)]; exact b q hq, fun j c2 hj => ?_⟩
  by_cases hl : j < h.length
  · rw [List.getElem?_append_left hl] at hj
    have h2 := d j c2 hj
    have e := o (E.2.2.2.size + j) (by omega)
    unfold zm_at1 at h2 ⊢
    split at h2
    · exact ⟨h2.1, by rw [e]; exact h2.2⟩
    · obtain ⟨r, r1, r2, r3⟩ := h2
      exact ⟨r, r1, r2, r3.kept e⟩
  · rw [List.getElem?_append_right (by omega)] at hj
    have hz : j - h.length < 1 := (List.getElem?_eq_some_iff.mp hj).1
    have hj0 : j = h.length := by omega
    rw [show j - h.length = 0 by omega] at hj
    cases hj
    rw [hj0, ← a]
    exact h1
def zm_T0 (TW : List Cond) (df : Nat → List Value) : Prop := ∀ (ci : Nat) (r : vw_C), zm_cl[ci]? = some r → (∀ w ∈ u_ws r.1 r.2.1 r.2.2, w ∈ TW) ∧ (∀ k : Nat, k < r.2.2 → parseFieldDescriptor (r.2.1 k).2.2.1 = some (zm_ft ci k)) ∧ (∀ a : Nat, a < r.2.2 → ∀ b : Nat, b < r.2.2 → a ≠ b → (r.2.1 a).2.1 ≠ (r.2.1 b).2.1) ∧ (∀ j : Nat, j < r.2.2 → defaultValue (zm_ft ci j) = vp_V (df ci) j) ∧ (df ci).length = r.2.2 ∧ ∀ j : Nat, zm_tr 0 (fun _ => 0) (vp_V (df ci) j) = vp_V (df ci) j
def zm_mn (c : Nat) : MethodName × ByteArray × Nat × Option FieldType := match c with
  | 1 => (Lib.Math.max.name, Lib.Math.max.code, 2, some .int)
  | 2 => (Lib.Math.min.name, Lib.Math.min.code, 2, some .int)
  | 3 => (Lib.Math.abs.name, Lib.Math.abs.code, 1, some .int)
  | 4 => (Lib.MathLoose.max_long.x, Lib.MathLoose.max_long.code, 4, some .long)
  | 5 => (Lib.MathLoose.min_long.x, Lib.MathLoose.min_long.code, 4, some .long)
  | _ => (Lib.MathLoose.abs_long.x, Lib.MathLoose.abs_long.code, 2, some .long)
/-- what a heap instruction's row must hold besides its decoding -/
def zm_hok (TW : List Cond) (ST : zm_ST) (cls mname : String) (i : Jvm.ClassFile.Instr) (len : Nat) (x : zm_X) : Bool := match i with
  | .getfield k => decide (len = 3) && (match zm_cl[x.1]? with
    | some r => decide (x.2.1 < r.2.2) && zm_m TW x.2.2.2.2 0 (.fieldLink cls k (r.2.1 x.2.1).1 (r.2.1 x.2.1).2.1 (r.2.1 x.2.1).2.2.1)
    | none => false)
  | .putfield k => decide (len = 3) && (match zm_cl[x.1]? with
    | some r => decide (x.2.1 < r.2.2) && (zm_m TW x.2.2.2.2 0 (.fieldLink cls k (r.2.1 x.2.1).1 (r.2.1 x.2.1).2.1 (r.2.1 x.2.1).2.2.1) && (!(r.2.1 x.2.1).2.2.2 || (decide (mname = "<init>") && decide ((r.2.1 x.2.1).1 = cls))))
    | none => false)
  | .getstatic k => decide (len = 3) && ST.any (fun q => decide (x.2.2.2.1 = .retAddr q.2.2.2) && zm_m TW x.2.2.2.2 0 (.fieldLink cls k q.1 q.2.1 q.2.2.1))
  | .newarray at_ => decide (len = 2) && (decide (x.1 < 4) && (decide (newarray.typeOf at_ = zm_ty x.1) && zm_m TW x.2.2.2.2 0 (.arrayClass (zm_ty x.1))))
  | .anewarray k => decide (len = 3) && (decide (4 ≤ x.1) && (decide (x.1 < 7) && (match zm_ty x.1 with
    | .object C => zm_m TW x.2.2.2.2 0 (.classLink cls k C)
    | _ => false)))
  | .multianewarray k d => decide (len = 4) && (decide (d = 2) && (zm_m TW x.2.2.2.2 0 (.classLink cls k ("[" ++ (FieldType.array FieldType.long).toString)) && zm_m TW x.2.2.2.2 1 (.arrayClass .long)))
  | .new k => decide (len = 3) && (match zm_cl[x.1]? with
    | some r => zm_m TW x.2.2.2.2 0 (.classLink cls k r.1) && (zm_m TW x.2.2.2.2 1 (.instantiable r.1 r.2.2) && zm_m TW x.2.2.2.2 2 (.initialized r.1))
    | none => false)
  | .invokespecial k => decide (len = 3) && (zm_m TW x.2.2.2.2 0 (.methodLink cls k objectInit) && (zm_m TW x.2.2.2.2 1 (.instanceMethod objectInit) && zm_m TW x.2.2.2.2 2 (.code objectInit ⟨#[0xb1]⟩ 1 none)))
  | .invokestatic k => decide (len = 3) && (zm_m TW x.2.2.2.2 0 (.methodLink cls k (zm_mn x.2.2.1).1) && (zm_m TW x.2.2.2.2 1 (.static (zm_mn x.2.2.1).1) && (zm_m TW x.2.2.2.2 2 (.initialized "java/lang/Math") && zm_m TW x.2.2.2.2 3 (.code (zm_mn x.2.2.1).1 (zm_mn x.2.2.1).2.1 (zm_mn x.2.2.1).2.2.1 (zm_mn x.2.2.1).2.2.2))))
  | _ => decide (len = 1)
end
section
/-! The heap's instructions -/
section ZMH
variable {p : Program} {l : Launch} {e : Env} {R : Room} {s : State} {m : MethodId} {args : Array Value} {below : List Frame} {meth : Method} {c : Code} {H : Heap} {locs : List Loc} {cells slots : Nat} {Q : State → Prop}
variable {cc : ByteArray} {pc : Nat} {lsA : Array Slot} {rest : List Value}
variable {E : zm_E} {SS : zm_SS} {ST : zm_ST} {NW : zm_NW} {og : Nat → Option zm_C} {df : Nat → List Value} {cls mname : String} {len : Nat} {x : zm_X} {st : List Value} {h : zm_H} {q : List Value × zm_H}
/-- what a step with the heap stands on -/
def zm_Ch (p : Program) (s : State) (m : MethodId) (args : Array Value) (meth : Method) (c : Code) (cc : ByteArray) (E : zm_E) (TW : List Cond) (SS : zm_SS) (ST : zm_ST) (NW : zm_NW) (og : Nat → Option zm_C) (df : Nat → List Value) (cls mname : String) : Prop :=
  p.tables.exec = Jvm.exec ∧ c.code = cc ∧ s.vm.findClass cls = some m.cls ∧ (∀ w ∈ TW, w.before args s = true) ∧ zm_G E SS ST NW og s ∧ zm_T0 TW df ∧ meth.name = mname
abbrev zm_t (E : zm_E) : Value → Value := zm_tr E.2.2.2.size E.2.2.1
/-- an array that is read -/
theorem zm_rd_ok {v : Value} {t n : Nat} {k : zm_K} (hG : zm_G E SS ST NW og s) (hR : zm_Rel E h H) (hv : zm_rd og h v = some (.inl (t, n, k))) : ∃ (a : Nat) (cell : Cell), zm_t E v = .ref a ∧ H[a]? = some cell ∧ s.isArrayOf cell (zm_ty t) ∧ cell.vm ≠ .unknown ∧ cell.slots.size = n ∧ ∀ i : Nat, i < n → cell.slots[i]? = some (zm_t E (zm_kv k i)) := by
  unfold zm_rd at hv
  split at hv
  · rename_i a
    obtain ⟨h1, h2⟩ := hR.2.2 a _ hv
    exact ⟨E.2.2.2.size + a, _, rfl, h2, (hG.2.1 t h1).1 n _, (fun z => by cases z), arrV_size _ _ _, fun i hi => arrV_read _ _ hi⟩
  · rename_i j
    obtain ⟨-, cell, g1, g2, g3, g4, g5⟩ := hG.2.2.2.2.2.2 j t n k hv
    exact ⟨E.2.2.1 j, cell, rfl, by rw [hR.2.1 _ (Array.getElem?_eq_some_iff.mp g1).1]; exact g1, g2, g3, g4, g5⟩
  · cases hv
theorem zm_h_alen (C : zm_Ch p s m args meth c cc E zm_W SS ST NW og df cls mname) (hd : decode cc pc = .ok (.arraylength, len)) (hk : zm_hok zm_W ST cls mname .arraylength len x = true) (hR : zm_Rel E h H) (hp : zm_hp df og .arraylength x st h = some q)
    (kk : ∀ H : Heap, zm_Rel E q.2 H → W p l e R s m args below meth c H locs cells slots Q (F0 m (pc + len) lsA (q.1.map (zm_t E)))) : q.2 = h ∧ W p l e R s m args below meth c H locs cells slots Q (F0 m pc lsA (st.map (zm_t E))) := by
  obtain ⟨hx, hb, hown, hts, hG, hT0, hnm⟩ := C
  simp only [zm_hok, decide_eq_true_eq] at hk
  subst hk
  simp only [zm_hp] at hp
  split at hp
  · rename_i v st2
    split at hp
    · rename_i t n k hr
      simp only [Option.some.injEq] at hp
      subst hp
      refine ⟨rfl, ?_⟩
      obtain ⟨a, cell, e1, e2, e3, e4, e5, -⟩ := zm_rd_ok hG hR hr
      simp only [List.map_cons, e1]
      exact W.alen hx hb e2 e3 (by rw [e5]) rfl rfl hd (kk H hR)
    · cases hp
  · cases hp
theorem zm_h_ald {i : Jvm.ClassFile.Instr} (hi : i = .iaload ∨ i = .laload ∨ i = .baload ∨ i = .aaload) (C : zm_Ch p s m args meth c cc E zm_W SS ST NW og df cls mname) (hd : decode cc pc = .ok (i, 1)) (hR : zm_Rel E h H) (hp : zm_ald og i st h = some q)
    (kk : ∀ H : Heap, zm_Rel E q.2 H → W p l e R s m args below meth c H locs cells slots Q (F0 m (pc + 1) lsA (q.1.map (zm_t E)))) : q.2 = h ∧ W p l e R s m args below meth c H locs cells slots Q (F0 m pc lsA (st.map (zm_t E))) := by
  obtain ⟨hx, hb, hown, hts, hG, hT0, hnm⟩ := C
  unfold zm_ald at hp
  split at hp
  · rename_i j v st2
    split at hp
    · rename_i t n k hr
      cases hc : (zm_lds i t && zm_in j n) with
      | false => rw [hc] at hp; cases hp
      | true =>
        rw [hc] at hp
        simp only [cond_true, Option.some.injEq] at hp
        subst hp
        refine ⟨rfl, ?_⟩
        obtain ⟨a, cell, e1, e2, e3, e4, e5, e6⟩ := zm_rd_ok hG hR hr
        simp only [Bool.and_eq_true] at hc
        obtain ⟨h0, hlt⟩ := zm_in_vp hc.2
        have hin : ¬ (j < 0 ∨ cell.slots.size ≤ j.toNatClampNeg) := fun z => z.elim h0 (fun w => by rw [e5] at w; omega)
        have k1 := kk H hR
        simp only [List.map_cons, e1]
        have hl := hc.1
        rcases hi with rfl | rfl | rfl | rfl
        · have ht := Nat.eq_of_beq_eq_true hl
          subst ht
          exact W.iald hx hb e2 e3 e4 hin (e6 _ hlt) rfl rfl hd k1
        · have ht := Nat.eq_of_beq_eq_true hl
          subst ht
          exact W.lald hx hb e2 e3 e4 hin (e6 _ hlt) rfl rfl hd k1
        · simp only [zm_lds, Bool.or_eq_true] at hl
          rcases hl with hl | hl
          · have ht := Nat.eq_of_beq_eq_true hl
            subst ht
            exact W.bald hx hb e2 e3 e4 hin (e6 _ hlt) rfl rfl hd k1
          · have ht := Nat.eq_of_beq_eq_true hl
            subst ht
            exact W.zald hx hb e2 e3 e4 hin (e6 _ hlt) rfl rfl hd k1
        · simp only [zm_lds, Bool.and_eq_true] at hl
          have l1 := Nat.le_of_ble_eq_true hl.1
          have l2 := Nat.le_of_ble_eq_true hl.2
          have href : (zm_ty t).isReference = true := by
            rcases (show t = 4 ∨ t = 5 ∨ t = 6 ∨ t = 7 by omega) with rfl | rfl | rfl | rfl <;> rfl
          exact W.aald hx hb e2 e3 href e4 hin (e6 _ hlt) rfl rfl hd k1
    · cases hp
  · cases hp
theorem zm_h_get {k : Nat} (C : zm_Ch p s m args meth c cc E zm_W SS ST NW og df cls mname) (hd : decode cc pc = .ok (.getfield k, len)) (hk : zm_hok zm_W ST cls mname (.getfield k) len x = true) (hR : zm_Rel E h H) (hp : zm_hp df og (.getfield k) x st h = some q)
    (kk : ∀ H : Heap, zm_Rel E q.2 H → W p l e R s m args below meth c H locs cells slots Q (F0 m (pc + len) lsA (q.1.map (zm_t E)))) : q.2 = h ∧ W p l e R s m args below meth c H locs cells slots Q (F0 m pc lsA (st.map (zm_t E))) := by
  obtain ⟨hx, hb, hown, hts, hG, hT0, hnm⟩ := C
  simp only [zm_hok, Bool.and_eq_true, decide_eq_true_eq] at hk
  obtain ⟨rfl, hk⟩ := hk
  split at hk
  · rename_i r hr
    simp only [Bool.and_eq_true, decide_eq_true_eq] at hk
    obtain ⟨hlt, hlink⟩ := hk
    simp only [zm_hp] at hp
    split at hp
    · rename_i a st2
      split at hp
      · rename_i c1 hc1
        unfold zm_geto at hp
        split at hp
        · rename_i ci fs
          cases hcc : Nat.beq ci x.1 with
          | false => rw [hcc] at hp; cases hp
          | true =>
            rw [hcc] at hp
            simp only [cond_true] at hp
            have hce := Nat.eq_of_beq_eq_true hcc
            split at hp
            · rename_i v hv
              simp only [Option.some.injEq] at hp
              subst hp
              refine ⟨rfl, ?_⟩
              obtain ⟨C0, T, N⟩ := r
              have hrr : zm_cl[ci]? = some (C0, T, N) := by rw [hce]; exact hr
              obtain ⟨r2, q1, q2, q3⟩ := hR.2.2 a _ hc1
              have he : r2 = (C0, T, N) := Option.some.inj (q1.symm.trans hrr)
              subst he
              have hP : va_P E.1 zm_cl [(E.2.2.2.size + a, .inr (ci, fs.map (zm_t E)))] H := by
                intro j y hy
                have hj : j < 1 := (List.getElem?_eq_some_iff.mp hy).1
                rw [show j = 0 by omega] at hy
                cases hy
                exact ⟨_, hrr, q3⟩
              exact va_get hx hb hts (hT0 ci _ hrr).1 hown hG.1 hP 0 rfl hrr x.2.1 hlt (hts _ (zm_m_in hlink)) (fun _ z => z) (v := zm_t E v) (by rw [List.getElem?_map, hv]; rfl) hd (kk H hR)
            · cases hp
        · cases hp
      · cases hp
    · cases hp
  · cases hk
theorem zm_h_gets {k : Nat} (C : zm_Ch p s m args meth c cc E zm_W SS ST NW og df cls mname) (hd : decode cc pc = .ok (.getstatic k, len)) (hk : zm_hok zm_W ST cls mname (.getstatic k) len x = true) (hR : zm_Rel E h H) (hp : zm_hp df og (.getstatic k) x st h = some q)
    (kk : ∀ H : Heap, zm_Rel E q.2 H → W p l e R s m args below meth c H locs cells slots Q (F0 m (pc + len) lsA (q.1.map (zm_t E)))) : q.2 = h ∧ W p l e R s m args below meth c H locs cells slots Q (F0 m pc lsA (st.map (zm_t E))) := by
  obtain ⟨hx, hb, hown, hts, hG, hT0, hnm⟩ := C
  simp only [zm_hok, Bool.and_eq_true, decide_eq_true_eq] at hk
  obtain ⟨rfl, hk⟩ := hk
  obtain ⟨y, hy, hk⟩ := List.any_eq_true.mp hk
  simp only [Bool.and_eq_true, decide_eq_true_eq] at hk
  obtain ⟨hv, hlink⟩ := hk
  simp only [zm_hp, Option.some.injEq] at hp
  subst hp
  refine ⟨rfl, ?_⟩
  obtain ⟨cf, kf, fi, f, a, cell, g1, g2, g3, g4, g5, g6, g7, g8⟩ := hG.2.2.2.2.2.1 y hy
  have k1 := kk H hR
  simp only [List.map_cons, hv] at k1
  have hcell : H[a]? = some cell := by rw [hR.2.1 a (Nat.not_le.mp g8)]; exact g5
  exact W.gets hx hb hown (hts _ (zm_m_in hlink)) g1 g2 g3 g4 hcell (fun z => by rw [z] at g6; cases g6) g7 rfl hd k1
end ZMH
end
section
/-! What writes the heap -/
section ZMS
variable {p : Program} {l : Launch} {e : Env} {R : Room} {s : State} {m : MethodId} {args : Array Value} {below : List Frame} {meth : Method} {c : Code} {H : Heap} {locs : List Loc} {cells slots : Nat} {Q : State → Prop}
variable {cc : ByteArray} {pc : Nat} {lsA : Array Slot} {rest : List Value}
variable {E : zm_E} {SS : zm_SS} {ST : zm_ST} {NW : zm_NW} {og : Nat → Option zm_C} {df : Nat → List Value} {cls mname : String} {len : Nat} {x : zm_X} {st : List Value} {h : zm_H} {q : List Value × zm_H}
theorem zm_okv_fits {ty : FieldType} {v : Value} {ba : Nat} {ao : Nat → Nat} (hv : zm_okv ty v = true) : narrow ty (zm_tr ba ao v) = zm_tr ba ao v ∧ fits ty (zm_tr ba ao v) = true := by
  unfold zm_okv at hv
  split at hv
  · exact ⟨rfl, rfl⟩
  · exact ⟨rfl, rfl⟩
  · rename_i v
    simp only [Bool.or_eq_true, beq_iff_eq] at hv
    rcases hv with rfl | rfl
    · exact ⟨rfl, rfl⟩
    · exact ⟨rfl, rfl⟩
  · exact ⟨rfl, rfl⟩
  · exact ⟨rfl, rfl⟩
  · exact ⟨rfl, rfl⟩
  · exact ⟨rfl, rfl⟩
  · exact ⟨rfl, rfl⟩
  · cases hv
theorem zm_locs_put {E : zm_E} {locs : List Loc} {a i : Nat} (hl : ∀ z ∈ locs, E.2.2.2.size ≤ z.base) : ∀ z ∈ locs ++ [⟨E.2.2.2.size + a, i⟩], E.2.2.2.size ≤ z.base := by
  intro z hz
  rcases List.mem_append.mp hz with h1 | h1
  · exact hl z h1
  · rw [List.mem_singleton] at h1
    subst h1
    exact Nat.le_add_right _ _
theorem zm_map_set (f : Value → Value) (fs : List Value) (k : Nat) (v : Value) : (fs.set k v).map f = (fs.map f).set k (f v) := List.map_set
theorem zm_h_put {k : Nat} (C : zm_Ch p s m args meth c cc E zm_W SS ST NW og df cls mname) (hd : decode cc pc = .ok (.putfield k, len)) (hk : zm_hok zm_W ST cls mname (.putfield k) len x = true) (hR : zm_Rel E h H) (hl : ∀ z ∈ locs, E.2.2.2.size ≤ z.base) (hp : zm_hp df og (.putfield k) x st h = some q)
    (kk : ∀ (H : Heap) (locs : List Loc), zm_Rel E q.2 H → (∀ z ∈ locs, E.2.2.2.size ≤ z.base) → W p l e R s m args below meth c H locs cells slots Q (F0 m (pc + len) lsA (q.1.map (zm_t E)))) : (q.2.length = h.length ∧ zm_szs q.2 = zm_szs h) ∧ W p l e R s m args below meth c H locs cells slots Q (F0 m pc lsA (st.map (zm_t E))) := by
  obtain ⟨hx, hb, hown, hts, hG, hT0, hnm⟩ := C
  simp only [zm_hok, Bool.and_eq_true, decide_eq_true_eq] at hk
  obtain ⟨rfl, hk⟩ := hk
  split at hk
  · rename_i r hr
    simp only [Bool.and_eq_true, decide_eq_true_eq, Bool.or_eq_true, Bool.not_eq_true'] at hk
    obtain ⟨hlt, hlink, hfin⟩ := hk
    simp only [zm_hp] at hp
    split at hp
    · rename_i v a st2
      split at hp
      · rename_i c1 hc1
        unfold zm_puto at hp
        split at hp
        · rename_i ci fs
          cases hcc : (Nat.beq ci x.1 && (Nat.blt x.2.1 fs.length && zm_okv (zm_ft ci x.2.1) v)) with
          | false => rw [hcc] at hp; cases hp
          | true =>
            rw [hcc] at hp
            simp only [cond_true, Option.some.injEq] at hp
            subst hp
            simp only [Bool.and_eq_true] at hcc
            obtain ⟨hce, hl0, hov⟩ := hcc
            have hce := Nat.eq_of_beq_eq_true hce
            have hlf : x.2.1 < fs.length := Nat.le_of_ble_eq_true hl0
            obtain ⟨C0, T, N⟩ := r
            have hrr : zm_cl[ci]? = some (C0, T, N) := by rw [hce]; exact hr
            obtain ⟨r2, q1, q2, cell, q3, q4, q5, q6⟩ := hR.2.2 a _ hc1
            have he : r2 = (C0, T, N) := Option.some.inj (q1.symm.trans hrr)
            subst he
            obtain ⟨t1, t2, t3, -, -⟩ := hT0 ci _ hrr
            obtain ⟨hn, hf⟩ := zm_okv_fits (ba := E.2.2.2.size) (ao := E.2.2.1) hov
            have hap := va_apart (own := cls) hts t1 (zm_ft ci) t2 t3 hG.1 hrr
            obtain ⟨hS, hfc, kC, hkC, hkind⟩ := hG.1.1 ci _ hrr
            obtain ⟨cf, kf, fi, f, hi, hsl⟩ := hS x.2.1 hlt
            have hst := (u_facts hfc hkC (u_lays hts t1 hlt) hi).1
            have hlay := hts _ (t1 _ (u_in_lay hlt))
            have hlk := hts _ (zm_m_in hlink)
            have fin : ∀ H1 : Heap, H1[E.2.2.2.size + a]? = some (cell.setSlot (E.1.2 ci x.2.1) (zm_t E v)) → H1.size = H.size → (∀ q : Nat, q ≠ E.2.2.2.size + a → H1[q]? = H[q]?) → zm_Rel E (h.set a (.inr (ci, fs.set x.2.1 v))) H1 := by
              intro H1 e1 e2 e3
              refine hR.set hc1 ⟨_, hrr, by rw [List.length_set]; exact q2, ?_⟩ e2 e3
              rw [zm_map_set]
              exact t_OB.to (V := updV (vp_V (fs.map (zm_t E))) x.2.1 (zm_t E v)) ⟨_, e1, q4, q5, t_set q6 hap hlt _⟩ (fun j _ => vp_updV_set (by rw [List.length_map]; exact hlf) _ j)
            refine ⟨⟨List.length_set, ?_⟩, ?_⟩
            · have hls : a < h.length := (List.getElem?_eq_some_iff.mp hc1).1
              have e0 : zm_sz (.inr (ci, fs.set x.2.1 v)) = zm_sz (.inr (ci, fs)) := List.length_set
              simp only [zm_szs, List.map_set, e0]
              have e9 : (h.map zm_sz)[a]? = some (zm_sz (.inr (ci, fs))) := by rw [List.getElem?_map, hc1]; rfl
              have e8 : (h.map zm_sz).set a (zm_sz (.inr (ci, fs))) = h.map zm_sz := by
                apply List.ext_getElem?
                intro j
                by_cases hj : j = a
                · subst hj
                  rw [List.getElem?_set_self (by rw [List.length_map]; exact hls), e9]
                · rw [List.getElem?_set_ne (Ne.symm hj)]
              rw [e8]
            · rcases hfin with hfin | ⟨hin, hdc⟩
              · unfold u_lay at hlay
                rw [if_neg (by rw [hfin]; decide)] at hlay
                have h6 := u_store hfc hkC hkind hlay hi (t2 _ hlt) hn hf
                refine W.putK hx hb (f := f) ⟨hown, hlk, ⟨_, _, _, hi⟩, hst⟩ (by rw [q4]; exact h6) q3 q5 (by rw [hsl]; exact k2_hasslot (q6 _ hlt)) rfl rfl hd fun H1 e1 e2 e3 => ?_
                rw [hsl] at e1 ⊢
                exact kk H1 _ (fin H1 e1 e2 e3) (zm_locs_put hl)
              · by_cases hff : (T x.2.1).2.2.2 = true
                · unfold u_lay at hlay
                  rw [if_pos hff] at hlay
                  have hcf : m.cls = cf := by
                    obtain ⟨_, _, c', _, _, _, -, -, hf', -, -, -, hown2, -⟩ := Cond.laysFinal_spec hlay
                    have e1 : c' = cf := by have := hi.symm.trans hf'; simp at this; exact this.1.symm
                    rw [hdc] at hown2
                    rw [← e1]; exact Option.some.inj (hown.symm.trans hown2)
                  have h6 := u_fits hfc hkC hkind (Or.inr hlay) hi (t2 _ hlt) hn hf
                  refine W.putFinK hx hb hown hlk hi hst hcf (hnm.trans hin) (by rw [q4]; exact h6) q3 q5 (by rw [hsl]; exact k2_hasslot (q6 _ hlt)) rfl rfl hd fun H1 e1 e2 e3 => ?_
                  rw [hsl] at e1 ⊢
                  exact kk H1 _ (fin H1 e1 e2 e3) (zm_locs_put hl)
                · unfold u_lay at hlay
                  rw [if_neg hff] at hlay
                  have h6 := u_store hfc hkC hkind hlay hi (t2 _ hlt) hn hf
                  refine W.putK hx hb (f := f) ⟨hown, hlk, ⟨_, _, _, hi⟩, hst⟩ (by rw [q4]; exact h6) q3 q5 (by rw [hsl]; exact k2_hasslot (q6 _ hlt)) rfl rfl hd fun H1 e1 e2 e3 => ?_
                  rw [hsl] at e1 ⊢
                  exact kk H1 _ (fin H1 e1 e2 e3) (zm_locs_put hl)
        · cases hp
      · cases hp
    · cases hp
  · cases hk
/-- the cell of an array after a store -/
theorem zm_arr_set {f : zm_K} {g : zm_K} {j : Nat} {w : Value} {cA : ClassId} {n : Nat} (hg : ∀ i : Nat, zm_t E (zm_kv g i) = if i = j then w else zm_t E (zm_kv f i)) : (arrV cA n (fun i => zm_t E (zm_kv f i))).setSlot j w = arrV cA n (fun i => zm_t E (zm_kv g i)) := by
  rw [arrV_store]
  congr 1
  funext i
  rw [hg i]
  rfl
theorem zm_set_sz {c1 c2 : zm_C} {a : Nat} (hc : h[a]? = some c1) (hs : zm_sz c2 = zm_sz c1) : (h.set a c2).length = h.length ∧ zm_szs (h.set a c2) = zm_szs h := by
  refine ⟨List.length_set, ?_⟩
  have hls : a < h.length := (List.getElem?_eq_some_iff.mp hc).1
  simp only [zm_szs, List.map_set, hs]
  have e8 : (h.map zm_sz).set a (zm_sz c1) = h.map zm_sz := by
    apply List.ext_getElem?
    intro j
    by_cases hj : j = a
    · subst hj
      rw [List.getElem?_set_self (by rw [List.length_map]; exact hls), List.getElem?_map, hc]; rfl
    · rw [List.getElem?_set_ne (Ne.symm hj)]
  rw [e8]
theorem zm_h_iast (C : zm_Ch p s m args meth c cc E zm_W SS ST NW og df cls mname) (hd : decode cc pc = .ok (.iastore, 1)) (hR : zm_Rel E h H) (hl : ∀ z ∈ locs, E.2.2.2.size ≤ z.base) (hp : zm_iast st h = some q)
    (kk : ∀ (H : Heap) (locs : List Loc), zm_Rel E q.2 H → (∀ z ∈ locs, E.2.2.2.size ≤ z.base) → W p l e R s m args below meth c H locs cells slots Q (F0 m (pc + 1) lsA (q.1.map (zm_t E)))) : (q.2.length = h.length ∧ zm_szs q.2 = zm_szs h) ∧ W p l e R s m args below meth c H locs cells slots Q (F0 m pc lsA (st.map (zm_t E))) := by
  obtain ⟨hx, hb, hown, hts, hG, hT0, hnm⟩ := C
  unfold zm_iast at hp
  split at hp
  · rename_i v j a st2
    split at hp
    · rename_i t n f hc1
      cases hcc : (Nat.beq t 0 && zm_in j n) with
      | false => rw [hcc] at hp; cases hp
      | true =>
        rw [hcc] at hp
        simp only [cond_true, Option.some.injEq] at hp
        subst hp
        simp only [Bool.and_eq_true] at hcc
        have ht := Nat.eq_of_beq_eq_true hcc.1
        subst ht
        obtain ⟨h0, hlt⟩ := zm_in_vp hcc.2
        obtain ⟨t1, t2⟩ := hR.2.2 a _ hc1
        refine ⟨zm_set_sz hc1 rfl, ?_⟩
        refine W.iast hx hb t2 ((hG.2.1 0 t1).1 n _) (fun z => by cases z) (fun z => z.elim h0 (fun w => by rw [arrV_size] at w; omega)) rfl rfl hd fun H1 e1 e2 e3 => ?_
        refine kk H1 _ (hR.set hc1 ⟨t1, e1.trans (congrArg some (zm_arr_set (fun i => ?_)))⟩ e2 e3) (zm_locs_put hl)
        show Value.int (upd f j.toNatClampNeg v i) = _
        unfold upd
        split <;> rfl
    · cases hp
  · cases hp
theorem zm_h_last (C : zm_Ch p s m args meth c cc E zm_W SS ST NW og df cls mname) (hd : decode cc pc = .ok (.lastore, 1)) (hR : zm_Rel E h H) (hl : ∀ z ∈ locs, E.2.2.2.size ≤ z.base) (hp : zm_last st h = some q)
    (kk : ∀ (H : Heap) (locs : List Loc), zm_Rel E q.2 H → (∀ z ∈ locs, E.2.2.2.size ≤ z.base) → W p l e R s m args below meth c H locs cells slots Q (F0 m (pc + 1) lsA (q.1.map (zm_t E)))) : (q.2.length = h.length ∧ zm_szs q.2 = zm_szs h) ∧ W p l e R s m args below meth c H locs cells slots Q (F0 m pc lsA (st.map (zm_t E))) := by
  obtain ⟨hx, hb, hown, hts, hG, hT0, hnm⟩ := C
  unfold zm_last at hp
  split at hp
  · rename_i v j a st2
    split at hp
    · rename_i t n f hc1
      cases hcc : (Nat.beq t 1 && zm_in j n) with
      | false => rw [hcc] at hp; cases hp
      | true =>
        rw [hcc] at hp
        simp only [cond_true, Option.some.injEq] at hp
        subst hp
        simp only [Bool.and_eq_true] at hcc
        have ht := Nat.eq_of_beq_eq_true hcc.1
        subst ht
        obtain ⟨h0, hlt⟩ := zm_in_vp hcc.2
        obtain ⟨t1, t2⟩ := hR.2.2 a _ hc1
        refine ⟨zm_set_sz hc1 rfl, ?_⟩
        refine W.last hx hb t2 ((hG.2.1 1 t1).1 n _) (fun z => by cases z) (fun z => z.elim h0 (fun w => by rw [arrV_size] at w; omega)) rfl rfl hd fun H1 e1 e2 e3 => ?_
        refine kk H1 _ (hR.set hc1 ⟨t1, e1.trans (congrArg some (zm_arr_set (fun i => ?_)))⟩ e2 e3) (zm_locs_put hl)
        show Value.long (vp_updL f j.toNatClampNeg v i) = _
        unfold vp_updL
        split <;> rfl
    · cases hp
  · cases hp
theorem zm_h_bast (C : zm_Ch p s m args meth c cc E zm_W SS ST NW og df cls mname) (hd : decode cc pc = .ok (.bastore, 1)) (hR : zm_Rel E h H) (hl : ∀ z ∈ locs, E.2.2.2.size ≤ z.base) (hp : zm_bast st h = some q)
    (kk : ∀ (H : Heap) (locs : List Loc), zm_Rel E q.2 H → (∀ z ∈ locs, E.2.2.2.size ≤ z.base) → W p l e R s m args below meth c H locs cells slots Q (F0 m (pc + 1) lsA (q.1.map (zm_t E)))) : (q.2.length = h.length ∧ zm_szs q.2 = zm_szs h) ∧ W p l e R s m args below meth c H locs cells slots Q (F0 m pc lsA (st.map (zm_t E))) := by
  obtain ⟨hx, hb, hown, hts, hG, hT0, hnm⟩ := C
  unfold zm_bast at hp
  split at hp
  · rename_i v j a st2
    split at hp
    · rename_i t n f hc1
      cases hcc : zm_in j n with
      | false => rw [hcc] at hp; cases hp
      | true =>
        rw [hcc] at hp
        simp only [cond_true] at hp
        obtain ⟨h0, hlt⟩ := zm_in_vp hcc
        obtain ⟨t1, t2⟩ := hR.2.2 a _ hc1
        cases h2 : Nat.beq t 2 with
        | true =>
          rw [h2] at hp
          simp only [cond_true, Option.some.injEq] at hp
          subst hp
          have ht := Nat.eq_of_beq_eq_true h2
          subst ht
          refine ⟨zm_set_sz hc1 rfl, ?_⟩
          refine W.bast hx hb t2 ((hG.2.1 2 t1).1 n _) (fun z => by cases z) (fun z => z.elim h0 (fun w => by rw [arrV_size] at w; omega)) rfl rfl hd fun H1 e1 e2 e3 => ?_
          refine kk H1 _ (hR.set hc1 ⟨t1, e1.trans (congrArg some (zm_arr_set (fun i => ?_)))⟩ e2 e3) (zm_locs_put hl)
          show Value.int (upd f j.toNatClampNeg v.toInt8.toInt32 i) = _
          unfold upd
          split <;> rfl
        | false =>
          rw [h2] at hp
          simp only [cond_false] at hp
          cases h3 : Nat.beq t 3 with
          | false => rw [h3] at hp; cases hp
          | true =>
            rw [h3] at hp
            simp only [cond_true, Option.some.injEq] at hp
            subst hp
            have ht := Nat.eq_of_beq_eq_true h3
            subst ht
            refine ⟨zm_set_sz hc1 rfl, ?_⟩
            refine W.zast hx hb t2 ((hG.2.1 3 t1).1 n _) (fun z => by cases z) (fun z => z.elim h0 (fun w => by rw [arrV_size] at w; omega)) rfl rfl hd fun H1 e1 e2 e3 => ?_
            refine kk H1 _ (hR.set hc1 ⟨t1, e1.trans (congrArg some (zm_arr_set (fun i => ?_)))⟩ e2 e3) (zm_locs_put hl)
            show Value.int (upd f j.toNatClampNeg (v &&& 1) i) = _
            unfold upd
            split <;> rfl
    · cases hp
  · cases hp
theorem zm_h_aast (C : zm_Ch p s m args meth c cc E zm_W SS ST NW og df cls mname) (hd : decode cc pc = .ok (.aastore, 1)) (hR : zm_Rel E h H) (hl : ∀ z ∈ locs, E.2.2.2.size ≤ z.base) (hp : zm_aast st h = some q)
    (kk : ∀ (H : Heap) (locs : List Loc), zm_Rel E q.2 H → (∀ z ∈ locs, E.2.2.2.size ≤ z.base) → W p l e R s m args below meth c H locs cells slots Q (F0 m (pc + 1) lsA (q.1.map (zm_t E)))) : (q.2.length = h.length ∧ zm_szs q.2 = zm_szs h) ∧ W p l e R s m args below meth c H locs cells slots Q (F0 m pc lsA (st.map (zm_t E))) := by
  obtain ⟨hx, hb, hown, hts, hG, hT0, hnm⟩ := C
  unfold zm_aast at hp
  split at hp
  · rename_i r j a st2
    split at hp
    · rename_i t n f ci vs hc1 hc2
      cases hcc : (Nat.ble 4 t && Nat.ble t 6 && Nat.beq ci (zm_tc t) && zm_in j n) with
      | false => rw [hcc] at hp; cases hp
      | true =>
        rw [hcc] at hp
        simp only [cond_true, Option.some.injEq] at hp
        subst hp
        simp only [Bool.and_eq_true] at hcc
        obtain ⟨⟨⟨u1, u2⟩, u3⟩, u4⟩ := hcc
        have u1 := Nat.le_of_ble_eq_true u1
        have u2 := Nat.le_of_ble_eq_true u2
        have u3 := Nat.eq_of_beq_eq_true u3
        obtain ⟨h0, hlt⟩ := zm_in_vp u4
        obtain ⟨t1, t2⟩ := hR.2.2 a _ hc1
        obtain ⟨r0, w1, w2, cellV, w3, w4, w5, -⟩ := hR.2.2 r _ hc2
        obtain ⟨g1, g2⟩ := hG.2.1 t t1
        have key : ∃ C0 : String, zm_ty t = .object C0 ∧ r0.1 = C0 := by
          rcases (show t = 4 ∨ t = 5 ∨ t = 6 by omega) with rfl | rfl | rfl
          · subst u3; cases w1; exact ⟨_, rfl, rfl⟩
          · subst u3; cases w1; exact ⟨_, rfl, rfl⟩
          · subst u3; cases w1; exact ⟨_, rfl, rfl⟩
        obtain ⟨C0, k0, k00⟩ := key
        rw [k0] at g2
        obtain ⟨kA, comp, k1, k2, k3, -⟩ := g2
        have hcls := (hG.1.1 ci r0 w1).2
        rw [k00] at hcls
        have hcomp : comp = E.1.1 ci := Option.some.inj (k3.symm.trans hcls.1)
        subst hcomp
        obtain ⟨kC, hkC, hkind⟩ := hcls.2
        refine ⟨zm_set_sz hc1 rfl, ?_⟩
        refine W.aast hx hb t2 (fun q h => by cases h) (fun h => by cases h) k1 k2 rfl hkC ⟨h0, by show _ < (arrV _ _ _).slots.size; rw [arrV_size]; exact hlt⟩ w3 (fun q h => by rw [w5] at h; cases h) (by rw [w4]; exact hkC) (by rw [w4]; exact va_assign hcls) rfl rfl hd fun H1 e1 e2 e3 => ?_
        refine kk H1 _ (hR.set hc1 ⟨t1, e1.trans (congrArg some (zm_arr_set (fun i => ?_)))⟩ e2 e3) (zm_locs_put hl)
        show zm_t E (va_rf (va_up f j.toNatClampNeg (some r) i)) = _
        unfold va_up
        split <;> rfl
    · cases hp
  · cases hp
end ZMS
end
section
/-! What makes cells -/
section ZMN
variable {p : Program} {l : Launch} {e : Env} {R : Room} {s : State} {m : MethodId} {args : Array Value} {below : List Frame} {meth : Method} {c : Code} {H : Heap} {locs : List Loc} {cells slots : Nat} {Q : State → Prop}
variable {cc : ByteArray} {pc : Nat} {lsA : Array Slot} {rest : List Value}
variable {E : zm_E} {SS : zm_SS} {ST : zm_ST} {NW : zm_NW} {og : Nat → Option zm_C} {df : Nat → List Value} {cls mname : String} {len : Nat} {x : zm_X} {st : List Value} {h : zm_H} {q : List Value × zm_H}
theorem zm_szs_app (h : zm_H) (c : zm_C) : zm_szs (h ++ [c]) = zm_szs h + zm_sz c := by simp [zm_szs]
theorem zm_top (hR : zm_Rel E h H) : Value.ref H.size = zm_t E (.ref h.length) := by rw [hR.1]; rfl
theorem zm_h_newa {k : ArrayType} (C : zm_Ch p s m args meth c cc E zm_W SS ST NW og df cls mname) (hd : decode cc pc = .ok (.newarray k, len)) (hk : zm_hok zm_W ST cls mname (.newarray k) len x = true) (hR : zm_Rel E h H) (hp : zm_newa x st h = some q) (hc : cells + (q.2.length - h.length) ≤ R.cells) (hs : slots + (zm_szs q.2 - zm_szs h) ≤ R.slots)
    (kk : ∀ H : Heap, zm_Rel E q.2 H → W p l e R s m args below meth c H locs (cells + (q.2.length - h.length)) (slots + (zm_szs q.2 - zm_szs h)) Q (F0 m (pc + len) lsA (q.1.map (zm_t E)))) : W p l e R s m args below meth c H locs cells slots Q (F0 m pc lsA (st.map (zm_t E))) := by
  obtain ⟨hx, hb, hown, hts, hG, hT0, hnm⟩ := C
  simp only [zm_hok, Bool.and_eq_true, decide_eq_true_eq] at hk
  obtain ⟨rfl, h4, hty, hw⟩ := hk
  unfold zm_newa at hp
  split at hp
  · rename_i n st2
    cases hcc : (!(decide (n < 0)) && Nat.ble n.toNatClampNeg 60000) with
    | false => rw [hcc] at hp; cases hp
    | true =>
      rw [hcc] at hp
      simp only [cond_true, Option.some.injEq] at hp
      subst hp
      simp only [Bool.and_eq_true, Bool.not_eq_true', decide_eq_false_iff_not] at hcc
      obtain ⟨h0, hle⟩ := hcc
      have hle := Nat.le_of_ble_eq_true hle
      dsimp only at hc hs kk
      rw [List.length_append, List.length_singleton, Nat.add_sub_cancel_left] at hc kk
      rw [zm_szs_app, Nat.add_sub_cancel_left] at hs kk
      have harr := hts _ (zm_m_in hw)
      rw [← hty] at harr
      have hcb : componentBytes (newarray.typeOf k) ≤ 8 := by
        rw [hty]
        rcases (show x.1 = 0 ∨ x.1 = 1 ∨ x.1 = 2 ∨ x.1 = 3 by omega) with z | z | z | z <;> rw [z] <;> decide
      refine W.newa hx hb harr rfl hd rfl h0 (by have := Nat.mul_le_mul hle hcb; omega) hc hs fun cA kA comp f1 f2 f3 => ?_
      have hcA : cA = E.2.1 x.1 := by
        have h2 := (hG.2.1 x.1 (by omega)).2
        rw [hty] at f1
        rcases (show x.1 = 0 ∨ x.1 = 1 ∨ x.1 = 2 ∨ x.1 = 3 by omega) with z | z | z | z <;> rw [z] at h2 f1 ⊢ <;> exact Option.some.inj (f1.symm.trans h2)
      subst hcA
      have hdv : ∀ j : Nat, zm_t E (zm_kv (zm_zero x.1) j) = defaultValue (newarray.typeOf k) := by
        intro j
        rw [hty]
        rcases (show x.1 = 0 ∨ x.1 = 1 ∨ x.1 = 2 ∨ x.1 = 3 by omega) with z | z | z | z <;> rw [z] <;> rfl
      have k1 := kk (H.push { cls := E.2.1 x.1, slots := Array.replicate n.toNatClampNeg (defaultValue (newarray.typeOf k)), vm := .none }) (hR.push ⟨by omega, ?_⟩ (by rw [Array.size_push]) (fun z hz => by rw [Array.getElem?_push, if_neg (Nat.ne_of_lt hz)]))
      · simp only [List.map_cons, ← zm_top hR] at k1
        exact k1
      · rw [Array.getElem?_push_size, arrV_new]
        congr 2
        funext j
        exact (hdv j).symm
  · cases hp
theorem zm_h_anew {k : Nat} (C : zm_Ch p s m args meth c cc E zm_W SS ST NW og df cls mname) (hd : decode cc pc = .ok (.anewarray k, len)) (hk : zm_hok zm_W ST cls mname (.anewarray k) len x = true) (hR : zm_Rel E h H) (hp : zm_anew x st h = some q) (hc : cells + (q.2.length - h.length) ≤ R.cells) (hs : slots + (zm_szs q.2 - zm_szs h) ≤ R.slots)
    (kk : ∀ H : Heap, zm_Rel E q.2 H → W p l e R s m args below meth c H locs (cells + (q.2.length - h.length)) (slots + (zm_szs q.2 - zm_szs h)) Q (F0 m (pc + len) lsA (q.1.map (zm_t E)))) : W p l e R s m args below meth c H locs cells slots Q (F0 m pc lsA (st.map (zm_t E))) := by
  obtain ⟨hx, hb, hown, hts, hG, hT0, hnm⟩ := C
  simp only [zm_hok, Bool.and_eq_true, decide_eq_true_eq] at hk
  obtain ⟨rfl, h4, h7, hw⟩ := hk
  split at hw
  · rename_i C0 hC0
    unfold zm_anew at hp
    split at hp
    · rename_i n st2
      cases hcc : (!(decide (n < 0)) && Nat.ble n.toNatClampNeg 60000) with
      | false => rw [hcc] at hp; cases hp
      | true =>
        rw [hcc] at hp
        simp only [cond_true, Option.some.injEq] at hp
        subst hp
        simp only [Bool.and_eq_true, Bool.not_eq_true', decide_eq_false_iff_not] at hcc
        obtain ⟨h0, hle⟩ := hcc
        have hle := Nat.le_of_ble_eq_true hle
        dsimp only at hc hs kk
        rw [List.length_append, List.length_singleton, Nat.add_sub_cancel_left] at hc kk
        rw [zm_szs_app, Nat.add_sub_cancel_left] at hs kk
        refine W.anew hx hb hown (hts _ (zm_m_in hw)) (va_AO.use (hG.2.2.1.1 x.1 h4 h7 C0 hC0)) rfl hd rfl h0 (by omega) hc hs fun cA kA comp f1 f2 f3 f4 => ?_
        have hcA : cA = E.2.1 x.1 := by
          have h2 := (hG.2.1 x.1 (by omega)).2
          rw [hC0] at h2
          obtain ⟨_, _, _, _, _, g⟩ := h2
          exact Option.some.inj (f1.symm.trans g)
        subst hcA
        have k1 := kk (H.push { cls := E.2.1 x.1, slots := Array.replicate n.toNatClampNeg .null, vm := .none }) (hR.push ⟨by omega, ?_⟩ (by rw [Array.size_push]) (fun z hz => by rw [Array.getElem?_push, if_neg (Nat.ne_of_lt hz)]))
        · simp only [List.map_cons, ← zm_top hR] at k1
          exact k1
        · rw [Array.getElem?_push_size, arrV_new]
          rfl
    · cases hp
  · cases hw
theorem zm_h_new {k : Nat} (C : zm_Ch p s m args meth c cc E zm_W SS ST NW og df cls mname) (hd : decode cc pc = .ok (.new k, len)) (hk : zm_hok zm_W ST cls mname (.new k) len x = true) (hR : zm_Rel E h H) (hp : zm_hp df og (.new k) x st h = some q) (hc : cells + (q.2.length - h.length) ≤ R.cells) (hs : slots + (zm_szs q.2 - zm_szs h) ≤ R.slots)
    (kk : ∀ H : Heap, zm_Rel E q.2 H → W p l e R s m args below meth c H locs (cells + (q.2.length - h.length)) (slots + (zm_szs q.2 - zm_szs h)) Q (F0 m (pc + len) lsA (q.1.map (zm_t E)))) : W p l e R s m args below meth c H locs cells slots Q (F0 m pc lsA (st.map (zm_t E))) := by
  obtain ⟨hx, hb, hown, hts, hG, hT0, hnm⟩ := C
  simp only [zm_hok, Bool.and_eq_true, decide_eq_true_eq] at hk
  obtain ⟨rfl, hk⟩ := hk
  split at hk
  · rename_i r hr
    simp only [Bool.and_eq_true] at hk
    obtain ⟨w1, w2, w3⟩ := hk
    simp only [zm_hp, Option.some.injEq] at hp
    subst hp
    obtain ⟨C0, T, N⟩ := r
    obtain ⟨t1, t2, t3, t4, t5, t6⟩ := hT0 x.1 _ hr
    dsimp only at t1 t2 t3 t4 t5 t6 w1 w2 w3
    dsimp only at hc hs kk
    rw [List.length_append, List.length_singleton, Nat.add_sub_cancel_left] at hc kk
    rw [zm_szs_app, Nat.add_sub_cancel_left] at hs kk
    have hsz : zm_sz (.inr (x.1, df x.1)) = N := t5
    rw [hsz] at hs kk
    have hKn := hG.1.1 x.1 _ hr
    have hcl := hts _ (zm_m_in w1)
    have hins := hts _ (zm_m_in w2)
    have hini := hts _ (zm_m_in w3)
    refine W.newcK hx hb hown hcl hins hini rfl hd hc hs hKn.2.1 rfl fun H1 kC hkC e1 z1 o1 => ?_
    have k1 := kk H1 (hR.push ⟨_, hr, t5, ?_⟩ z1 o1)
    · simp only [List.map_cons, ← zm_top hR] at k1
      exact k1
    · refine (u_born (zm_ft x.1) hts t1 hKn hkC e1 t2).to (fun j hj => ?_)
      rw [t4 j hj]
      have h6 := t6 j
      show vp_V (df x.1) j = vp_V ((df x.1).map (zm_t E)) j
      unfold vp_V at h6 ⊢
      simp only [List.getD_eq_getElem?_getD, List.getElem?_map] at h6 ⊢
      cases hv : (df x.1)[j]? with
      | none => rfl
      | some v =>
        rw [hv] at h6
        simp only [Option.getD_some, Option.map_some] at h6 ⊢
        cases v with
        | ref a =>
          exfalso
          have : j < (df x.1).length := (List.getElem?_eq_some_iff.mp hv).1
          have h4 := t4 j (by omega)
          unfold vp_V at h4
          rw [List.getD_eq_getElem?_getD, hv] at h4
          simp only [Option.getD_some] at h4
          unfold defaultValue at h4
          split at h4 <;> cases h4
        | retAddr a => cases h6
        | _ => rfl
  · cases hk
theorem zm_szs_app2 (h g : zm_H) : zm_szs (h ++ g) = zm_szs h + zm_szs g := by simp [zm_szs]
theorem zm_szs_rep (n : Nat) (c : zm_C) : zm_szs (List.replicate n c) = n * zm_sz c := by simp [zm_szs]
theorem zm_outer (c : ClassId) (N h0 : Nat) : ∀ i : Nat, Jvm.Free.Multi.outerC c N h0 i = arrV c N (fun j => va_rf (if j < i then some (h0 + 1 + j) else none))
  | 0 => by
    show ({ cls := c, slots := Array.replicate N .null, vm := .none } : Cell) = _
    rw [arrV_new]
    refine congrArg (arrV c N) (funext fun j => ?_)
    simp [va_rf]
  | i + 1 => by
    show (Jvm.Free.Multi.outerC c N h0 i).setSlot i (.ref (h0 + 1 + i)) = _
    rw [zm_outer c N h0 i, arrV_store]
    refine congrArg (arrV c N) (funext fun j => ?_)
    by_cases e : j = i
    · subst e
      simp [updV, va_rf]
    · by_cases h : j < i
      · simp [updV, e, h, Nat.lt_succ_of_lt h]
      · simp [updV, e, h, show ¬ j < i + 1 by omega]
/-- many cells are made -/
theorem zm_Rel.pushes {g : zm_H} {H1 : Heap} (hR : zm_Rel E h H) (h1 : ∀ (j : Nat) (c : zm_C), g[j]? = some c → zm_at1 E c (H.size + j) H1) (z : H1.size = H.size + g.length) (o : ∀ q : Nat, q < H.size → H1[q]? = H[q]?) : zm_Rel E (h ++ g) H1 := by
  obtain ⟨a, b, d⟩ := hR
  refine ⟨by rw [z, a, List.length_append, Nat.add_assoc], fun q hq => by rw [o q (by omega)]; exact b q hq, fun j c2 hj => ?_⟩
  by_cases hl : j < h.length
  · rw [List.getElem?_append_left hl] at hj
    have h2 := d j c2 hj
    have e := o (E.2.2.2.size + j) (by omega)
    unfold zm_at1 at h2 ⊢
    split at h2
    · exact ⟨h2.1, by rw [e]; exact h2.2⟩
    · obtain ⟨r, r1, r2, r3⟩ := h2
      exact ⟨r, r1, r2, r3.kept e⟩
  · rw [List.getElem?_append_right (by omega)] at hj
    have := h1 (j - h.length) c2 hj
    rw [show H.size + (j - h.length) = E.2.2.2.size + j by omega] at this
    exact this
theorem zm_h_mnew {k d : Nat} (C : zm_Ch p s m args meth c cc E zm_W SS ST NW og df cls mname) (hd : decode cc pc = .ok (.multianewarray k d, len)) (hk : zm_hok zm_W ST cls mname (.multianewarray k d) len x = true) (hR : zm_Rel E h H) (hp : zm_mnew st h = some q) (hc : cells + (q.2.length - h.length) ≤ R.cells) (hs : slots + (zm_szs q.2 - zm_szs h) ≤ R.slots)
    (kk : ∀ H : Heap, zm_Rel E q.2 H → W p l e R s m args below meth c H locs (cells + (q.2.length - h.length)) (slots + (zm_szs q.2 - zm_szs h)) Q (F0 m (pc + len) lsA (q.1.map (zm_t E)))) : W p l e R s m args below meth c H locs cells slots Q (F0 m pc lsA (st.map (zm_t E))) := by
  obtain ⟨hx, hb, hown, hts, hG, hT0, hnm⟩ := C
  simp only [zm_hok, Bool.and_eq_true, decide_eq_true_eq] at hk
  obtain ⟨rfl, rfl, w1, w2⟩ := hk
  unfold zm_mnew at hp
  split at hp
  · rename_i b n st2
    cases hcc : (!(decide (n < 0)) && !(decide (b < 0)) && Nat.ble n.toNatClampNeg 60000 && Nat.ble b.toNatClampNeg 60000) with
    | false => rw [hcc] at hp; cases hp
    | true =>
      rw [hcc] at hp
      simp only [cond_true, Option.some.injEq] at hp
      subst hp
      simp only [Bool.and_eq_true, Bool.not_eq_true', decide_eq_false_iff_not] at hcc
      obtain ⟨⟨⟨h0, h1⟩, hle⟩, hle2⟩ := hcc
      have hle := Nat.le_of_ble_eq_true hle
      have hle2 := Nat.le_of_ble_eq_true hle2
      dsimp only at hc hs kk
      rw [List.length_append, List.length_cons, List.length_replicate, Nat.add_sub_cancel_left] at hc kk
      rw [zm_szs_app2, Nat.add_sub_cancel_left] at hs kk
      have hsz : zm_szs (.inl (7, n.toNatClampNeg, .inr (.inr (fun i => if i < n.toNatClampNeg then some (h.length + 1 + i) else none))) :: List.replicate n.toNatClampNeg (.inl (1, b.toNatClampNeg, .inr (.inl (fun _ => 0))))) = n.toNatClampNeg + n.toNatClampNeg * b.toNatClampNeg := by
        rw [show ∀ (c : zm_C) (g : zm_H), zm_szs (c :: g) = zm_sz c + zm_szs g from fun c g => by simp [zm_szs], zm_szs_rep]
        rfl
      rw [hsz] at hs kk
      intro T hT Xs
      obtain ⟨vm₁, cA, comp, -, fA, fC, hO, -, X', step⟩ := Xs.multianewarray2F hx hown (hts _ (zm_m_in w1)) (ty := .long) hG.2.2.1.2 (hts _ (zm_m_in w2)) (g := F0 m pc lsA (.int b :: .int n :: st2.map (zm_t E))) rfl (by rw [hb]; exact hd) rfl h0 h1 (by omega) (by rw [show componentBytes FieldType.long = 8 from rfl]; omega) (by omega) rfl rfl (by omega) hs
      have e7 : cA = E.2.1 7 := Option.some.inj (fA.symm.trans (hG.2.1 7 (by omega)).2)
      have e1 : comp = E.2.1 1 := Option.some.inj (fC.symm.trans (hG.2.1 1 (by omega)).2)
      subst e7
      subst e1
      generalize hF : Jvm.Free.Multi.fill (T.setVm vm₁) (E.2.1 7) (E.2.1 1) n.toNatClampNeg b.toNatClampNeg (defaultValue .long) n.toNatClampNeg = F at X' step
      have hTh : (T.setVm vm₁).heap = H := hT
      obtain ⟨f1, f2, -, -⟩ := Jvm.Free.Multi.fill_facts (T.setVm vm₁) (E.2.1 7) (E.2.1 1) n.toNatClampNeg b.toNatClampNeg (defaultValue .long) n.toNatClampNeg
      rw [hF, hTh] at f1 f2
      have hold : ∀ x : Nat, x < H.size → F.heap[x]? = H[x]? := fun x hx => by
        have := Jvm.Free.Multi.fill_old (T.setVm vm₁) (E.2.1 7) (E.2.1 1) n.toNatClampNeg b.toNatClampNeg (defaultValue .long) (a := x) (by rw [hTh]; exact hx) n.toNatClampNeg
        rw [hF, hTh] at this
        exact this
      have hrow : ∀ j : Nat, j < n.toNatClampNeg → F.heap[H.size + 1 + j]? = some (Jvm.Free.Multi.innerC (E.2.1 1) b.toNatClampNeg (defaultValue .long)) := fun j hj => by
        have := Jvm.Free.Multi.fill_inner (T.setVm vm₁) (E.2.1 7) (E.2.1 1) n.toNatClampNeg b.toNatClampNeg (defaultValue .long) n.toNatClampNeg j hj
        rw [hF, hTh] at this
        exact this
      have hRel : zm_Rel E (h ++ (.inl (7, n.toNatClampNeg, .inr (.inr (fun i => if i < n.toNatClampNeg then some (h.length + 1 + i) else none))) :: List.replicate n.toNatClampNeg (.inl (1, b.toNatClampNeg, .inr (.inl (fun _ => 0)))))) F.heap := by
        refine hR.pushes (fun j c0 hj => ?_) (by rw [f1, List.length_cons, List.length_replicate]; omega) hold
        cases j with
        | zero =>
          simp only [List.getElem?_cons_zero, Option.some.injEq] at hj
          subst hj
          refine ⟨by omega, ?_⟩
          rw [Nat.add_zero, f2, zm_outer]
          congr 2
          funext i
          show va_rf (if i < n.toNatClampNeg then some (H.size + 1 + i) else none) = zm_t E (va_rf (if i < n.toNatClampNeg then some (h.length + 1 + i) else none))
          rw [hR.1]
          split
          · exact congrArg Value.ref (show E.2.2.2.size + h.length + 1 + i = E.2.2.2.size + (h.length + 1 + i) by omega)
          · rfl
        | succ j =>
          rw [List.getElem?_cons_succ, List.getElem?_replicate] at hj
          split at hj
          · rename_i hjn
            cases hj
            refine ⟨by omega, ?_⟩
            rw [show H.size + (j + 1) = H.size + 1 + j by omega, hrow j hjn]
            show some ({ cls := E.2.1 1, slots := Array.replicate b.toNatClampNeg (defaultValue .long), vm := .none } : Cell) = _
            rw [arrV_new]
            rfl
          · cases hj
      have k1 := kk F.heap hRel
      simp only [List.map_cons, ← zm_top hR] at k1
      obtain ⟨t, a1, b1⟩ := k1 F rfl (by rw [show cells + (n.toNatClampNeg + 1) = cells + 1 + n.toNatClampNeg by omega, show slots + (n.toNatClampNeg + n.toNatClampNeg * b.toNatClampNeg) = slots + n.toNatClampNeg + n.toNatClampNeg * b.toNatClampNeg by omega]; exact X')
      refine ⟨t, step t ?_, b1⟩
      have e : T.heap.size = H.size := by rw [hT]
      rw [e]
      exact a1
  · cases hp
end ZMN
end
section
/-! All of the heap's instructions -/
theorem zm_cat_tr (ba : Nat) (ao : Nat → Nat) (vs : List Value) : zm_cat (vs.map (zm_tr ba ao)) = zm_cat vs := by
  unfold zm_cat
  rw [List.map_map]
  congr 1
  apply List.map_congr_left
  intro v _
  exact zm_tr_cat ba ao v
theorem zm_bif {α : Type} {c : Bool} {a q : α} (h : (bif c then some a else none) = some q) : c = true ∧ a = q := by
  cases c with
  | false => cases h
  | true => exact ⟨rfl, Option.some.inj h⟩
section ZMO
variable {og : Nat → Option zm_C} {df : Nat → List Value} {x : zm_X} {st : List Value} {h : zm_H} {q : List Value × zm_H}
theorem zm_k_get {k : Nat} (hp : zm_hp df og (.getfield k) x st h = some q) : q.2 = h := by
  simp only [zm_hp] at hp
  split at hp
  · split at hp
    · unfold zm_geto at hp
      split at hp
      · rename_i ci fs _
        cases hb : Nat.beq ci x.1 with
        | false => rw [hb] at hp; cases hp
        | true =>
          rw [hb] at hp
          simp only [cond_true] at hp
          split at hp
          · cases hp; rfl
          · cases hp
      · cases hp
    · cases hp
  · cases hp
theorem zm_k_alen (hp : zm_hp df og .arraylength x st h = some q) : q.2 = h := by
  simp only [zm_hp] at hp
  split at hp
  · split at hp
    · cases hp; rfl
    · cases hp
  · cases hp
theorem zm_k_ald {i : Jvm.ClassFile.Instr} (hp : zm_ald og i st h = some q) : q.2 = h := by
  unfold zm_ald at hp
  split at hp
  · split at hp
    · obtain ⟨-, rfl⟩ := zm_bif hp; rfl
    · cases hp
  · cases hp
theorem zm_k_put {k : Nat} (hp : zm_hp df og (.putfield k) x st h = some q) : q.2.length = h.length ∧ zm_szs q.2 = zm_szs h := by
  simp only [zm_hp] at hp
  split at hp
  · split at hp
    · rename_i hc1
      unfold zm_puto at hp
      split at hp
      · obtain ⟨-, rfl⟩ := zm_bif hp
        exact zm_set_sz hc1 (show (List.set _ _ _).length = _ from List.length_set)
      · cases hp
    · cases hp
  · cases hp
theorem zm_k_iast (hp : zm_iast st h = some q) : q.2.length = h.length ∧ zm_szs q.2 = zm_szs h := by
  unfold zm_iast at hp
  split at hp
  · split at hp
    · rename_i hc1
      obtain ⟨-, rfl⟩ := zm_bif hp
      exact zm_set_sz hc1 rfl
    · cases hp
  · cases hp
theorem zm_k_last (hp : zm_last st h = some q) : q.2.length = h.length ∧ zm_szs q.2 = zm_szs h := by
  unfold zm_last at hp
  split at hp
  · split at hp
    · rename_i hc1
      obtain ⟨-, rfl⟩ := zm_bif hp
      exact zm_set_sz hc1 rfl
    · cases hp
  · cases hp
theorem zm_k_bast (hp : zm_bast st h = some q) : q.2.length = h.length ∧ zm_szs q.2 = zm_szs h := by
  unfold zm_bast at hp
  split at hp
  · rename_i v j a st2
    split at hp
    · rename_i t n f hc1
      cases hcc : zm_in j n with
      | false => rw [hcc] at hp; cases hp
      | true =>
        rw [hcc] at hp
        simp only [cond_true] at hp
        cases h2 : Nat.beq t 2 with
        | true =>
          rw [h2] at hp
          simp only [cond_true, Option.some.injEq] at hp
          subst hp
          exact zm_set_sz hc1 rfl
        | false =>
          rw [h2] at hp
          simp only [cond_false] at hp
          obtain ⟨-, rfl⟩ := zm_bif hp
          exact zm_set_sz hc1 rfl
    · cases hp
  · cases hp
theorem zm_k_aast (hp : zm_aast st h = some q) : q.2.length = h.length ∧ zm_szs q.2 = zm_szs h := by
  unfold zm_aast at hp
  split at hp
  · split at hp
    · rename_i hc1 hc2
      obtain ⟨-, rfl⟩ := zm_bif hp
      exact zm_set_sz hc1 rfl
    · cases hp
  · cases hp
theorem zm_k_init {k : Nat} (hp : zm_hp df og (.invokespecial k) x st h = some q) : ∃ a : Nat, Nat.beq x.2.2.1 1 = true ∧ st = [.ref a] ∧ q = ([], h) := by
  simp only [zm_hp] at hp
  cases hb : Nat.beq x.2.2.1 1 with
  | false => rw [hb] at hp; cases hp
  | true =>
    rw [hb] at hp
    simp only [cond_true] at hp
    split at hp
    · cases hp; exact ⟨_, rfl, rfl, rfl⟩
    · cases hp
theorem zm_k_math {k : Nat} (hp : zm_hp df og (.invokestatic k) x st h = some q) : zm_math x.2.2.1 st = some q.1 ∧ zm_cat q.1 ≤ 8 ∧ q.2 = h := by
  simp only [zm_hp] at hp
  split at hp
  · rename_i st2 hm
    obtain ⟨hb, rfl⟩ := zm_bif hp
    exact ⟨hm, Nat.le_of_ble_eq_true hb, rfl⟩
  · cases hp
theorem zm_k_newa (hp : zm_newa x st h = some q) : h.length ≤ q.2.length ∧ zm_szs h ≤ zm_szs q.2 := by
  unfold zm_newa at hp
  split at hp
  · obtain ⟨-, rfl⟩ := zm_bif hp
    exact ⟨by simp, by rw [zm_szs_app]; omega⟩
  · cases hp
theorem zm_k_anew (hp : zm_anew x st h = some q) : h.length ≤ q.2.length ∧ zm_szs h ≤ zm_szs q.2 := by
  unfold zm_anew at hp
  split at hp
  · obtain ⟨-, rfl⟩ := zm_bif hp
    exact ⟨by simp, by rw [zm_szs_app]; omega⟩
  · cases hp
theorem zm_k_mnew (hp : zm_mnew st h = some q) : h.length ≤ q.2.length ∧ zm_szs h ≤ zm_szs q.2 := by
  unfold zm_mnew at hp
  split at hp
  · obtain ⟨-, rfl⟩ := zm_bif hp
    exact ⟨by simp, by rw [zm_szs_app2]; omega⟩
  · cases hp
theorem zm_hp_mono {i : Jvm.ClassFile.Instr} (hp : zm_hp df og i x st h = some q) : h.length ≤ q.2.length ∧ zm_szs h ≤ zm_szs q.2 := by
  have re : q.2 = h → h.length ≤ q.2.length ∧ zm_szs h ≤ zm_szs q.2 := fun e => by rw [e]; exact ⟨Nat.le_refl _, Nat.le_refl _⟩
  have we : q.2.length = h.length ∧ zm_szs q.2 = zm_szs h → h.length ≤ q.2.length ∧ zm_szs h ≤ zm_szs q.2 := fun e => ⟨Nat.le_of_eq e.1.symm, Nat.le_of_eq e.2.symm⟩
  cases i with
  | getfield k => exact re (zm_k_get hp)
  | putfield k => exact we (zm_k_put hp)
  | getstatic k => simp only [zm_hp, Option.some.injEq] at hp; subst hp; exact re rfl
  | arraylength => exact re (zm_k_alen hp)
  | iaload => exact re (zm_k_ald hp)
  | laload => exact re (zm_k_ald hp)
  | baload => exact re (zm_k_ald hp)
  | aaload => exact re (zm_k_ald hp)
  | iastore => exact we (zm_k_iast hp)
  | bastore => exact we (zm_k_bast hp)
  | lastore => exact we (zm_k_last hp)
  | aastore => exact we (zm_k_aast hp)
  | newarray k => exact zm_k_newa hp
  | anewarray k => exact zm_k_anew hp
  | multianewarray k d => exact zm_k_mnew hp
  | new k =>
    simp only [zm_hp, Option.some.injEq] at hp
    subst hp
    exact ⟨by simp, by rw [zm_szs_app]; omega⟩
  | invokespecial k => obtain ⟨a, -, -, rfl⟩ := zm_k_init hp; exact re rfl
  | invokestatic k => exact re (zm_k_math hp).2.2
  | _ => cases hp
end ZMO
section ZMQ
variable {p : Program} {l : Launch} {e : Env} {R : Room} {s : State} {m : MethodId} {args : Array Value} {below : List Frame} {meth : Method} {c : Code} {H : Heap} {locs : List Loc} {cells slots : Nat} {Q : State → Prop}
variable {cc : ByteArray} {pc : Nat} {lsA : Array Slot} {rest : List Value}
variable {E : zm_E} {SS : zm_SS} {ST : zm_ST} {NW : zm_NW} {og : Nat → Option zm_C} {df : Nat → List Value} {cls mname : String} {len : Nat} {x : zm_X} {st : List Value} {h : zm_H} {q : List Value × zm_H}
theorem zm_hp_ok {i : Jvm.ClassFile.Instr} (C : zm_Ch p s m args meth c cc E zm_W SS ST NW og df cls mname) (hd : decode cc pc = .ok (i, len)) (hk : zm_hok zm_W ST cls mname i len x = true) (hfr : 1 ≤ R.frames) (hlo : 24 ≤ R.locals) (hsz : lsA.size = c.maxLocals) (hR : zm_Rel E h H) (hl : ∀ z ∈ locs, E.2.2.2.size ≤ z.base) (hp : zm_hp df og i x st h = some q) (hc : cells + (q.2.length - h.length) ≤ R.cells) (hs : slots + (zm_szs q.2 - zm_szs h) ≤ R.slots)
    (kk : ∀ (H : Heap) (locs : List Loc), zm_Rel E q.2 H → (∀ z ∈ locs, E.2.2.2.size ≤ z.base) → W p l e R s m args below meth c H locs (cells + (q.2.length - h.length)) (slots + (zm_szs q.2 - zm_szs h)) Q (F0 m (pc + len) lsA (q.1.map (zm_t E)))) : W p l e R s m args below meth c H locs cells slots Q (F0 m pc lsA (st.map (zm_t E))) := by
  have re : q.2 = h → ∀ (H : Heap) (locs : List Loc), zm_Rel E q.2 H → (∀ z ∈ locs, E.2.2.2.size ≤ z.base) → W p l e R s m args below meth c H locs cells slots Q (F0 m (pc + len) lsA (q.1.map (zm_t E))) := fun e H locs a b => by
    have k1 := kk H locs a b
    rw [e, Nat.sub_self, Nat.sub_self] at k1
    exact k1
  have we : q.2.length = h.length ∧ zm_szs q.2 = zm_szs h → ∀ (H : Heap) (locs : List Loc), zm_Rel E q.2 H → (∀ z ∈ locs, E.2.2.2.size ≤ z.base) → W p l e R s m args below meth c H locs cells slots Q (F0 m (pc + len) lsA (q.1.map (zm_t E))) := fun e H locs a b => by
    have k1 := kk H locs a b
    rw [e.1, e.2, Nat.sub_self, Nat.sub_self] at k1
    exact k1
  have h1 : (decide (len = 1) = true) → len = 1 := fun z => by simpa using z
  cases i with
  | getfield k => exact (zm_h_get C hd hk hR hp (fun H1 a => re (zm_k_get hp) H1 locs a hl)).2
  | putfield k => exact (zm_h_put C hd hk hR hl hp (we (zm_k_put hp))).2
  | getstatic k => exact (zm_h_gets C hd hk hR hp (fun H1 a => re (by simp only [zm_hp, Option.some.injEq] at hp; rw [← hp]) H1 locs a hl)).2
  | arraylength => exact (zm_h_alen C hd hk hR hp (fun H1 a => re (zm_k_alen hp) H1 locs a hl)).2
  | iaload => have z := h1 hk; subst z; exact (zm_h_ald (Or.inl rfl) C hd hR hp (fun H1 a => re (zm_k_ald hp) H1 locs a hl)).2
  | laload => have z := h1 hk; subst z; exact (zm_h_ald (Or.inr (Or.inl rfl)) C hd hR hp (fun H1 a => re (zm_k_ald hp) H1 locs a hl)).2
  | baload => have z := h1 hk; subst z; exact (zm_h_ald (Or.inr (Or.inr (Or.inl rfl))) C hd hR hp (fun H1 a => re (zm_k_ald hp) H1 locs a hl)).2
  | aaload => have z := h1 hk; subst z; exact (zm_h_ald (Or.inr (Or.inr (Or.inr rfl))) C hd hR hp (fun H1 a => re (zm_k_ald hp) H1 locs a hl)).2
  | iastore => have z := h1 hk; subst z; exact (zm_h_iast C hd hR hl hp (we (zm_k_iast hp))).2
  | bastore => have z := h1 hk; subst z; exact (zm_h_bast C hd hR hl hp (we (zm_k_bast hp))).2
  | lastore => have z := h1 hk; subst z; exact (zm_h_last C hd hR hl hp (we (zm_k_last hp))).2
  | aastore => have z := h1 hk; subst z; exact (zm_h_aast C hd hR hl hp (we (zm_k_aast hp))).2
  | newarray k => exact zm_h_newa C hd hk hR hp hc hs (fun H1 a => kk H1 locs a hl)
  | anewarray k => exact zm_h_anew C hd hk hR hp hc hs (fun H1 a => kk H1 locs a hl)
  | multianewarray k d => exact zm_h_mnew C hd hk hR hp hc hs (fun H1 a => kk H1 locs a hl)
  | new k => exact zm_h_new C hd hk hR hp hc hs (fun H1 a => kk H1 locs a hl)
  | invokespecial k =>
    obtain ⟨a, -, rfl, rfl⟩ := zm_k_init hp
    obtain ⟨hx, hb, hown, hts, hG, hT0, hnm⟩ := C
    simp only [zm_hok, Bool.and_eq_true, decide_eq_true_eq] at hk
    obtain ⟨rfl, w1, w2, w3⟩ := hk
    exact W.objInit hx hb hown (hts _ (zm_m_in w1)) (hts _ (zm_m_in w2)) (hts _ (zm_m_in w3)) (g := F0 m pc lsA [zm_t E (.ref a)]) rfl hsz rfl hd hfr (by show 2 * 0 + 0 + 12 ≤ R.locals; omega) (re rfl H locs hR hl)
  | invokestatic k =>
    obtain ⟨hm, h8, hq2⟩ := zm_k_math hp
    obtain ⟨hx, hb, hown, hts, hG, hT0, hnm⟩ := C
    simp only [zm_hok, Bool.and_eq_true, decide_eq_true_eq] at hk
    obtain ⟨rfl, w1, w2, w3, w4⟩ := hk
    have w1 := hts _ (zm_m_in w1)
    have w2 := hts _ (zm_m_in w2)
    have w3 := hts _ (zm_m_in w3)
    have w4 := hts _ (zm_m_in w4)
    have k1 := re hq2 H locs (by rw [hq2]; exact hR) hl
    rw [hq2, Nat.sub_self] at hc hs
    have hsum : ∀ (v : Value) (rest : List Value), zm_cat (v :: rest) ≤ 8 → ((rest.map (zm_t E)).map fun v => v.category).sum ≤ 8 := by
      intro v rest hv
      show zm_cat (rest.map (zm_t E)) ≤ 8
      rw [zm_cat_tr]
      unfold zm_cat at hv ⊢
      rw [List.map_cons, List.sum_cons] at hv
      omega
    unfold zm_math at hm
    split at hm
    · rename_i hcd
      split at hm
      · simp only [Option.some.injEq] at hm
        rw [← hm] at k1 h8
        rw [hcd] at w1 w2 w4
        exact va_mmax hx hb hsz.symm hown w1 w2 w3 w4 hfr (by have := hsum _ _ h8; omega) (by omega) (by omega) hd k1
      · cases hm
    · rename_i hcd
      split at hm
      · simp only [Option.some.injEq] at hm
        rw [← hm] at k1 h8
        rw [hcd] at w1 w2 w4
        exact va_mmin hx hb hsz.symm hown w1 w2 w3 w4 hfr (by have := hsum _ _ h8; omega) (by omega) (by omega) hd k1
      · cases hm
    · rename_i hcd
      split at hm
      · simp only [Option.some.injEq] at hm
        rw [← hm] at k1 h8
        rw [hcd] at w1 w2 w4
        exact va_mabs hx hb hsz.symm hown w1 w2 w3 w4 hfr (by have := hsum _ _ h8; omega) (by omega) (by omega) hd k1
      · cases hm
    · rename_i hcd
      split at hm
      · simp only [Option.some.injEq] at hm
        rw [← hm] at k1 h8
        rw [hcd] at w1 w2 w4
        exact va_mmax_long hx hb hsz.symm hown w1 w2 w3 w4 hfr (by have := hsum _ _ h8; omega) (by omega) (by omega) hd k1
      · cases hm
    · rename_i hcd
      split at hm
      · simp only [Option.some.injEq] at hm
        rw [← hm] at k1 h8
        rw [hcd] at w1 w2 w4
        exact va_mmin_long hx hb hsz.symm hown w1 w2 w3 w4 hfr (by have := hsum _ _ h8; omega) (by omega) (by omega) hd k1
      · cases hm
    · rename_i hcd
      split at hm
      · simp only [Option.some.injEq] at hm
        rw [← hm] at k1 h8
        rw [hcd] at w1 w2 w4
        exact va_mabs_long hx hb hsz.symm hown w1 w2 w3 w4 hfr (by have := hsum _ _ h8; omega) (by omega) (by omega) hd k1
      · cases hm
    · cases hm
  | _ => cases hp
end ZMQ
end
section
/-! Calls, returns, and the whole: the machine goes as the small machine goes -/
def zm_isP (i : Jvm.ClassFile.Instr) : Bool := match i with
  | .iconst _ | .bipush _ | .sipush _ | .lconst _ | .ldc _ | .ldc_w _ | .ldc2_w _ | .aconst_null | .iload _ | .iload_n _ | .lload _ | .lload_n _ | .aload _ | .aload_n _ | .istore _ | .istore_n _ | .lstore _ | .lstore_n _ | .astore _ | .astore_n _ | .iinc _ _ | .iadd | .isub | .imul | .iand | .ior | .ixor | .ishl | .ishr | .iushr | .idiv | .irem | .ineg | .i2b | .i2s | .i2c | .ladd | .lsub | .lmul | .land | .lor | .ldiv | .lneg | .i2l | .l2i | .lcmp | .lshl | .dup | .dup_x1 | .dup2 | .pop | .pop2 => true
  | _ => false
def zm_isB (i : Jvm.ClassFile.Instr) : Bool := match i with
  | .goto _ | .ifCond _ _ | .if_icmp _ _ | .if_acmp _ _ | .ifnull _ | .ifnonnull _ | .tableswitch _ _ _ _ => true
  | _ => false
def zm_isH (i : Jvm.ClassFile.Instr) (x : zm_X) : Bool := match i with
  | .getfield _ | .putfield _ | .getstatic _ | .arraylength | .iaload | .laload | .baload | .aaload | .iastore | .bastore | .lastore | .aastore | .newarray _ | .anewarray _ | .multianewarray _ _ | .new _ => true
  | .invokespecial _ => Nat.beq x.2.2.1 1
  | .invokestatic _ => !(Nat.beq x.2.2.1 0)
  | _ => false
def zm_isC (i : Jvm.ClassFile.Instr) (x : zm_X) : Bool := match i with
  | .invokevirtual _ => true
  | .invokestatic _ => Nat.beq x.2.2.1 0
  | .invokespecial _ => !(Nat.beq x.2.2.1 1)
  | _ => false
theorem zm_isP_of {i : Jvm.ClassFile.Instr} {x : zm_X} {ls : zm_L} {st : List Value} {q : zm_L × List Value} (h : zm_pure i x ls st = some q) : zm_isP i = true := by
  cases i <;> first | rfl | cases h
theorem zm_isB_of {i : Jvm.ClassFile.Instr} {x : zm_X} {pc : Nat} {st : List Value} {q : Nat × List Value} (h : zm_br i x pc st = some q) : zm_isB i = true := by
  cases i <;> first | rfl | cases h
theorem zm_isH_of {i : Jvm.ClassFile.Instr} {x : zm_X} {df : Nat → List Value} {og : Nat → Option zm_C} {st : List Value} {h : zm_H} {q : List Value × zm_H} (hp : zm_hp df og i x st h = some q) : zm_isH i x = true := by
  cases i with
  | invokespecial k => exact (zm_k_init hp).choose_spec.1
  | invokestatic k =>
    have hm := (zm_k_math hp).1
    cases hb : Nat.beq x.2.2.1 0 with
    | false => simp [zm_isH, hb]
    | true =>
      rw [Nat.eq_of_beq_eq_true hb] at hm
      cases hm
  | _ => first | rfl | cases hp
theorem zm_isC_of {i : Jvm.ClassFile.Instr} {x : zm_X} {st : List Value} {h : zm_H} {q : Nat × List Value × List Value} (hp : zm_call i x st h = some q) : zm_isC i x = true := by
  cases i with
  | invokespecial k =>
    simp only [zm_call] at hp
    cases hb : Nat.beq x.2.2.1 1 with
    | true => rw [hb] at hp; cases hp
    | false => simp [zm_isC, hb]
  | invokestatic k =>
    simp only [zm_call] at hp
    obtain ⟨hb, -⟩ := zm_bif hp
    simp only [Bool.and_eq_true] at hb
    exact hb.1
  | _ => first | rfl | cases hp
/-- what the row of a call must hold -/
def zm_cok (P : Nat → Option zm_M) (TW : List Cond) (NW : zm_NW) (cls : String) (i : Jvm.ClassFile.Instr) (len : Nat) (x : zm_X) : Bool := match P x.1 with
  | none => false
  | some mc => decide (len = 3) && (decide ((parseMethodDescriptor mc.1.1.desc).map (fun d => d.parameters.length) = some x.2.1) && (decide (mc.1.1.cls ≠ "java/lang/invoke/MethodHandle") && (decide (mc.1.1.cls ≠ "java/lang/invoke/VarHandle") && (zm_m TW x.2.2.2.2 0 (.code mc.1.1 mc.1.2.1 mc.1.2.2.1 mc.1.2.2.2) && (zm_m TW x.2.2.2.2 1 (.initialized mc.1.1.cls) && (match i with
    | .invokestatic k => zm_m TW x.2.2.2.2 2 (.methodLink cls k mc.1.1) && zm_m TW x.2.2.2.2 3 (.static mc.1.1)
    | .invokevirtual k => zm_m TW x.2.2.2.2 2 (.methodLink cls k mc.1.1) && (zm_m TW x.2.2.2.2 3 (.instanceMethod mc.1.1) && (zm_m TW x.2.2.2.2 4 (.selects mc.1.1.cls mc.1.1 mc.1.1) && (match zm_cl[x.2.2.1]? with
      | some r => decide (r.1 = mc.1.1.cls)
      | none => false)))
    | .invokespecial k => decide (mc.1.1.name = "<init>") && (decide (mc.1.2.2.2 = none) && (zm_m TW x.2.2.2.2 3 (.instanceMethod mc.1.1) && (zm_m TW x.2.2.2.2 2 (.methodLink cls k mc.1.1) || NW.any (fun w => decide (w.1 = cls) && (decide (w.2.1 = k) && decide (w.2.2.1 = mc.1.1))))))
    | _ => false))))))
def zm_rok (P : Nat → Option zm_M) (TW : List Cond) (SS : zm_SS) (ST : zm_ST) (NW : zm_NW) (mr : MethodName × ByteArray × Nat × Option FieldType) (r : zm_Row) : Bool := decide (decode mr.2.1 r.1 = .ok (r.2.1, r.2.2.1)) && (bif zm_isP r.2.1 then zm_pok TW SS mr.1.cls mr.2.2.1 r.2.1 r.2.2.1 r.2.2.2 else bif zm_isB r.2.1 then zm_bok r.1 r.2.1 r.2.2.1 r.2.2.2 else bif zm_isH r.2.1 r.2.2.2 then zm_hok TW ST mr.1.cls mr.1.name r.2.1 r.2.2.1 r.2.2.2 else bif zm_isC r.2.1 r.2.2.2 then zm_cok P TW NW mr.1.cls r.2.1 r.2.2.1 r.2.2.2 else decide (r.2.2.1 = 1))
def zm_mok (P : Nat → Option zm_M) (TW : List Cond) (SS : zm_SS) (ST : zm_ST) (NW : zm_NW) (mr : zm_M) : Prop := plainName mr.1.1.cls = true ∧ mr.1.2.2.1 ≤ 45 ∧ ∀ r ∈ mr.2, zm_rok P TW SS ST NW mr.1 r = true
theorem zm_at_mem {rows : List zm_Row} {pc : Nat} {i : Jvm.ClassFile.Instr × Nat × zm_X} (h : zm_at rows pc = some i) : (pc, i) ∈ rows := by
  induction rows with
  | nil => simp [zm_at] at h
  | cons q t ih =>
    unfold zm_at at h
    cases hb : Nat.beq q.1 pc with
    | true =>
      rw [hb] at h
      have e := Nat.eq_of_beq_eq_true hb
      simp only [cond_true, Option.some.injEq] at h
      subst h
      subst e
      exact List.mem_cons_self
    | false =>
      rw [hb] at h
      exact List.mem_cons_of_mem _ (ih h)
theorem zm_ex_mono {P : Nat → Option zm_M} {df : Nat → List Value} {og : Nat → Option zm_C} : ∀ (n d mi pc : Nat) (ls : zm_L) (st : List Value) (h : zm_H) (r : Option Value) (h' : zm_H), zm_ex P df og n d mi pc ls st h = some (r, h') → h.length ≤ h'.length ∧ zm_szs h ≤ zm_szs h' := by
  intro n
  induction n with
  | zero => intro d mi pc ls st h r h' hx; simp [zm_ex] at hx
  | succ n ih =>
    intro d mi pc ls st h r h' hx
    simp only [zm_ex] at hx
    split at hx
    · cases hx
    · split at hx
      · cases hx
      · split at hx
        · cases hx; exact ⟨Nat.le_refl _, Nat.le_refl _⟩
        · split at hx
          · exact ih _ _ _ _ _ _ _ _ hx
          · split at hx
            · exact ih _ _ _ _ _ _ _ _ hx
            · split at hx
              · rename_i hp
                have a := zm_hp_mono hp
                have b := ih _ _ _ _ _ _ _ _ hx
                omega
              · split at hx
                · cases hx
                · split at hx
                  · cases hx
                  · split at hx
                    · cases hx
                    · rename_i q _ _ _ _ mc _
                      cases hb : Nat.ble (zm_cat q.2.1) mc.1.2.2.1 with
                      | false => rw [hb] at hx; cases hx
                      | true =>
                        rw [hb] at hx
                        simp only [cond_true] at hx
                        split at hx
                        · cases hx
                        · rename_i w hw
                          have a := ih _ _ _ _ _ _ w.1 w.2 hw
                          have b := ih _ _ _ _ _ _ _ _ hx
                          omega
theorem zm_args_tr (ba : Nat) (ao : Nat → Nat) : ∀ (as : List Value) (i : Nat), zm_trl ba ao (lv_args i as) = lv_args i (as.map (zm_tr ba ao))
  | [], i => rfl
  | v :: vs, i => by
    show (i, zm_tr ba ao v) :: zm_trl ba ao (lv_args _ vs) = (i, zm_tr ba ao v) :: lv_args _ _
    rw [zm_args_tr ba ao vs, zm_tr_cat]
theorem zm_sl_len : ∀ vs : List Value, (lg_sl vs).length = zm_cat vs
  | [] => rfl
  | v :: vs => by
    have ih := zm_sl_len vs
    unfold lg_sl zm_cat at ih ⊢
    rw [List.flatMap_cons, List.length_append, ih, List.map_cons, List.sum_cons]
    rcases lv_cat v with h | h
    · rw [if_neg (by omega), h]; rfl
    · rw [if_pos h, h]; rfl
def zm_Pc (E : zm_E) (SS : zm_SS) (ST : zm_ST) (NW : zm_NW) (og : Nat → Option zm_C) (as : List Value) (h : zm_H) : Array Value → State → Prop := fun a U => a = (as.map (zm_t E)).toArray ∧ zm_Rel E h U.heap ∧ zm_G E SS ST NW og U
def zm_Qc (E : zm_E) (r : Option Value) (h : zm_H) : Array Value → State → Outcome → State → Prop := fun _ _ o t => o = .returned (r.map (zm_t E)) ∧ zm_Rel E h t.heap
def zm_rm (d mc ms : Nat) : Room := { frames := d + 1, cells := mc, slots := ms, locals := (d + 1) * 64 }
theorem zm_Pc_blind {E : zm_E} {SS : zm_SS} {ST : zm_ST} {NW : zm_NW} {og : Nat → Option zm_C} {as : List Value} {h : zm_H} : FrameBlind (zm_Pc E SS ST NW og as h) := fun a U g mk hq => ⟨hq.1, hq.2.1, hq.2.2.same rfl⟩
section ZMR
variable {p : Program} {l : Launch} {e : Env} {R : Room} {s : State} {m : MethodId} {args : Array Value} {below : List Frame} {meth : Method} {c : Code} {H : Heap} {locs : List Loc} {cells slots : Nat} {Q : State → Prop}
variable {cc : ByteArray} {pc : Nat} {lsA : Array Slot} {rest : List Value}
variable {E : zm_E} {SS : zm_SS} {ST : zm_ST} {NW : zm_NW} {og : Nat → Option zm_C} {df : Nat → List Value} {cls mname : String} {len : Nat} {x : zm_X} {st : List Value} {h : zm_H}
theorem zm_ret_ok {ret : Option FieldType} {i : Jvm.ClassFile.Instr} {r : Option Value} (hx : p.tables.exec = Jvm.exec) (hb : c.code = cc) (hr : meth.sig.returnType = ret) (hlocks : meth.locks = false) (hd : decode cc pc = .ok (i, 1)) (hp : zm_ret ret i st = some r) (hR : zm_Rel E h H) (hl : ∀ z ∈ locs, E.2.2.2.size ≤ z.base) :
    W p l e R s m args below meth c H locs cells slots (MQ below (zm_Qc E r h) args s cells slots (fun q => E.2.2.2.size ≤ q)) (F0 m pc lsA (st.map (zm_t E))) := by
  have hq : ∀ (v : Option Value) (t : State), t.heap = H → s.WarmedH t.vm → v = r.map (zm_t E) → zm_Qc E r h args s (.returned v) t := fun v t ht _ hv => ⟨by rw [hv], by rw [ht]; exact hR⟩
  cases i with
  | return_ =>
    simp only [zm_ret] at hp
    split at hp
    · cases hp
      exact W.vret hx hb hr (fun t a b => hq _ t a b rfl) hl hd hlocks
    · cases hp
  | ireturn =>
    simp only [zm_ret] at hp
    split at hp
    · rename_i ty v
      obtain ⟨ho, rfl⟩ := zm_bif hp
      exact W.zret (ty := ty) hx hb hr (zm_okv_fits (ba := 0) (ao := fun _ => 0) ho).1 (fun t a b => hq _ t a b rfl) hl hd hlocks
    · cases hp
  | lreturn =>
    simp only [zm_ret] at hp
    split at hp
    · cases hp
      exact W.lret hx hb hr (fun t a b => hq _ t a b rfl) hl hd hlocks
    · cases hp
  | areturn =>
    simp only [zm_ret] at hp
    split at hp
    · cases hp
      exact W.aret hx hb hr (Or.inl ⟨_, rfl⟩) (Or.inr ⟨_, rfl⟩) (fun t a b => hq _ t a b rfl) hl hd hlocks
    · cases hp
      exact W.aret hx hb hr (Or.inl ⟨_, rfl⟩) (Or.inl rfl) (fun t a b => hq _ t a b rfl) hl hd hlocks
    · cases hp
      exact W.aret hx hb hr (Or.inl ⟨_, rfl⟩) (Or.inr ⟨_, rfl⟩) (fun t a b => hq _ t a b rfl) hl hd hlocks
    · cases hp
  | _ => cases hp
/-- behind a call -/
theorem zm_go {mc ms : Nat} {r : Option Value} {h1 : zm_H} {stA : List Value} {a : Array Value} (hr : va_Run p l e R s m args below meth c H locs cells slots mc ms (F0 m pc lsA stA) rest (zm_Qc E r h1 a) (fun q => E.2.2.2.size ≤ q)) (hl : ∀ z ∈ locs, E.2.2.2.size ≤ z.base)
    (kk : ∀ (H1 : Heap) (locs1 : List Loc), zm_Rel E h1 H1 → (∀ z ∈ locs1, E.2.2.2.size ≤ z.base) → W p l e R s m args below meth c H1 locs1 (cells + mc) (slots + ms) Q (F0 m (pc + 3) lsA ((r.map (zm_t E)).toList ++ rest))) : W p l e R s m args below meth c H locs cells slots Q (F0 m pc lsA stA) := by
  intro T hT X
  obtain ⟨v, st₀, t, T', L, h0, X', hL, e1, e2, ⟨hv, hR1⟩, st⟩ := hr T hT X
  cases hv
  obtain ⟨t2, a1, b1⟩ := kk T'.heap (locs ++ L) (by rw [e1]; exact hR1) (fun z hz => by
    rcases List.mem_append.mp hz with g | g
    · exact hl z g
    · exact hL z g) T' rfl X'
  exact ⟨t2, st t2 a1, b1⟩
end ZMR
end
section
/-! The whole simulation -/
def zm_Sim (P : Nat → Option zm_M) (TW : List Cond) (SS : zm_SS) (ST : zm_ST) (NW : zm_NW) (og : Nat → Option zm_C) (df : Nat → List Value) (E : zm_E) (l : Launch) (n : Nat) : Prop :=
  ∀ (d mi pc : Nat) (ls : zm_L) (st : List Value) (h : zm_H) (r : Option Value) (h' : zm_H), zm_ex P df og n d mi pc ls st h = some (r, h') → ∀ mr : zm_M, P mi = some mr →
  ∀ (p : Program) (e : Env) (R : Room) (s : State) (m : MethodId) (args : Array Value) (below : List Frame) (meth : Method) (c : Code) (H : Heap) (locs : List Loc) (cells slots : Nat) (Q : State → Prop) (lsA : Array Slot),
  zm_Ch p s m args meth c mr.1.2.1 E TW SS ST NW og df mr.1.1.cls mr.1.1.name → c.maxLocals = mr.1.2.2.1 → lv_has lsA mr.1.2.2.1 (zm_trl E.2.2.2.size E.2.2.1 ls) → zm_Rel E h H → (∀ z ∈ locs, E.2.2.2.size ≤ z.base) → d + 1 ≤ R.frames → (d + 1) * 64 ≤ R.locals → cells + (h'.length - h.length) ≤ R.cells → slots + (zm_szs h' - zm_szs h) ≤ R.slots →
  (∀ (H1 : Heap) (locs1 : List Loc) (pc1 : Nat) (lsA1 : Array Slot) (i1 : Jvm.ClassFile.Instr) (st1 : List Value), zm_Rel E h' H1 → (∀ z ∈ locs1, E.2.2.2.size ≤ z.base) → decode mr.1.2.1 pc1 = .ok (i1, 1) → zm_ret mr.1.2.2.2 i1 st1 = some r → W p l e R s m args below meth c H1 locs1 (cells + (h'.length - h.length)) (slots + (zm_szs h' - zm_szs h)) Q (F0 m pc1 lsA1 (st1.map (zm_t E)))) →
  W p l e R s m args below meth c H locs cells slots Q (F0 m pc lsA (st.map (zm_t E)))
section ZMT
variable {P : Nat → Option zm_M} {SS : zm_SS} {ST : zm_ST} {NW : zm_NW} {og : Nat → Option zm_C} {df : Nat → List Value} {E : zm_E} {l : Launch}
theorem zm_met {n d ci : Nat} {as : List Value} {h h1 : zm_H} {r : Option Value} {mc : zm_M} (hS : zm_Sim P zm_W SS ST NW og df E l n) (hT0 : zm_T0 zm_W df) (hex : zm_ex P df og n d ci 0 (lv_args 0 as) [] h = some (r, h1)) (hP : P ci = some mc) (hok : zm_mok P zm_W SS ST NW mc) (hcat : zm_cat as ≤ mc.1.2.2.1) :
    Met l mc.1.1 (.code mc.1.1 mc.1.2.1 mc.1.2.2.1 mc.1.2.2.2 :: zm_W) (zm_rm d (h1.length - h.length) (zm_szs h1 - zm_szs h)) (zm_Pc E SS ST NW og as h) (zm_Qc E r h1) (h1.length - h.length) (zm_szs h1 - zm_szs h) (fun q => E.2.2.2.size ≤ q) := by
  refine Met.ofW (cc := mc.1.2.1) (maxL := mc.1.2.2.1) (ret := mc.1.2.2.2) hok.1 rfl ?_
  intro p e s m args below meth c s₁ B hml hv
  obtain ⟨rfl, hR, hG⟩ := hv
  have hts := atoms_spec (ws := .code mc.1.1 mc.1.2.1 mc.1.2.2.1 mc.1.2.2.2 :: zm_W) B.pre
  have hown : s.vm.findClass mc.1.1.cls = some m.cls := findClass_of_methodNamed B.named
  have hnm := (name_of_methodNamed B.named B.method).1
  have hl0 := lv_entry (as.map (zm_t E)) (n := mc.1.2.2.1) (by rw [zm_sl_len, zm_cat_tr]; exact hcat)
  rw [lg_entry_eq]
  generalize (lg_sl (as.map (zm_t E)) ++ List.replicate (mc.1.2.2.1 - (lg_sl (as.map (zm_t E))).length) Slot.unset).toArray = ls0 at hl0 ⊢
  rw [← zm_args_tr] at hl0
  refine hS d ci 0 (lv_args 0 as) [] h r h1 hex mc hP p e _ s m _ below meth c s.heap [] 0 0 _ ls0 ⟨B.exec, B.bytes, hown, fun w hw => hts w (List.mem_cons_of_mem _ hw), hG, hT0, hnm⟩ hml hl0 hR (fun z hz => by cases hz) (Nat.le_refl _) (Nat.le_refl _) (by rw [Nat.zero_add]; exact Nat.le_refl _) (by rw [Nat.zero_add]; exact Nat.le_refl _) ?_
  intro H1 locs1 pc1 lsA1 i1 st1 a b dd hr
  rw [Nat.zero_add, Nat.zero_add]
  exact zm_ret_ok B.exec B.bytes B.returns B.notSynchronized dd hr a b
theorem zm_good {a : Cond} (hg : ∀ w ∈ zm_W, goodWord w = true) (ha : a ∈ zm_W) {args : Array Value} {s : State} (hts : ∀ w ∈ zm_W, w.before args s = true) : ∀ w ∈ a :: zm_W, ∀ (a' : Array Value) (U : State), s.WarmedH U.vm → w.before a' U = true :=
  pay_in hts (fun w hw => by
    rcases List.mem_cons.mp hw with rfl | h
    · exact ⟨ha, good_of_word (hg _ ha)⟩
    · exact ⟨h, good_of_word (hg _ h)⟩)
theorem zm_tolist (E : zm_E) (r : Option Value) (rest : List Value) : (r.map (zm_t E)).toList ++ rest.map (zm_t E) = (r.toList ++ rest).map (zm_t E) := by
  cases r <;> simp
theorem zm_stk (E : zm_E) (st : List Value) (n : Nat) : st.map (zm_t E) = ((st.take n).reverse.map (zm_t E)).reverse ++ (st.drop n).map (zm_t E) := by
  rw [← List.map_reverse, List.reverse_reverse, ← List.map_append, List.take_append_drop]
set_option maxHeartbeats 2000000 in
theorem zm_sim (hP : ∀ (mi : Nat) (mr : zm_M), P mi = some mr → zm_mok P zm_W SS ST NW mr) (hg : ∀ w ∈ zm_W, goodWord w = true) (hT0 : zm_T0 zm_W df) : ∀ n : Nat, zm_Sim P zm_W SS ST NW og df E l n := by
  intro n
  induction n with
  | zero => intro d mi pc ls st h r h' hx; simp [zm_ex] at hx
  | succ n ih =>
    intro d mi pc ls st h r h' hex mr hm p e R s m args below meth c H locs cells slots Q lsA C hml hv hR hl hfr hlo hc hs hend
    simp only [zm_ex, hm] at hex
    cases hat : zm_at mr.2 pc with
    | none => rw [hat] at hex; cases hex
    | some i =>
      rw [hat] at hex
      dsimp only at hex
      have hrow := (hP mi mr hm).2.2 _ (zm_at_mem hat)
      unfold zm_rok at hrow
      rw [Bool.and_eq_true] at hrow
      obtain ⟨hdec, hrow⟩ := hrow
      have hdec := of_decide_eq_true hdec
      dsimp only at hdec hrow
      cases hre : zm_ret mr.1.2.2.2 i.1 st with
      | some r0 =>
        rw [hre] at hex
        cases hex
        have hl1 : i.2.1 = 1 := by
          have : zm_isP i.1 = false ∧ zm_isB i.1 = false ∧ zm_isH i.1 i.2.2 = false ∧ zm_isC i.1 i.2.2 = false := by
            obtain ⟨i1, i2⟩ := i
            cases i1 <;> first | exact ⟨rfl, rfl, rfl, rfl⟩ | cases hre
          rw [this.1, this.2.1, this.2.2.1, this.2.2.2] at hrow
          exact of_decide_eq_true hrow
        rw [hl1] at hdec
        have k1 := hend H locs pc lsA i.1 st hR hl hdec hre
        rw [Nat.sub_self, Nat.sub_self] at k1
        exact k1
      | none =>
        rw [hre] at hex
        dsimp only at hex
        cases hpu : zm_pure i.1 i.2.2 ls st with
        | some q =>
          rw [hpu] at hex
          rw [zm_isP_of hpu] at hrow
          obtain ⟨hx, hb, hown, hts, hG, -, hnm⟩ := id C
          exact zm_pure_ok ⟨hx, hb, hown, hts, hG.2.2.2.2.1⟩ hdec hrow hv hpu (fun lsA2 hv2 => ih d mi (pc + i.2.1) q.1 q.2 h r h' hex mr hm p e R s m args below meth c H locs cells slots Q lsA2 C hml hv2 hR hl hfr hlo hc hs hend)
        | none =>
          rw [hpu] at hex
          dsimp only at hex
          cases hbr : zm_br i.1 i.2.2 pc st with
          | some q =>
            rw [hbr] at hex
            have hib := zm_isB_of hbr
            have hip : zm_isP i.1 = false := by
              obtain ⟨i1, i2⟩ := i
              cases i1 <;> first | rfl | cases hib
            rw [hip, hib] at hrow
            exact zm_br_ok C.1 C.2.1 hdec hrow hbr (ih d mi q.1 ls q.2 h r h' hex mr hm p e R s m args below meth c H locs cells slots Q lsA C hml hv hR hl hfr hlo hc hs hend)
          | none =>
            rw [hbr] at hex
            dsimp only at hex
            cases hhp : zm_hp df og i.1 i.2.2 st h with
            | some q =>
              rw [hhp] at hex
              dsimp only at hex
              have hih := zm_isH_of hhp
              have hip : zm_isP i.1 = false ∧ zm_isB i.1 = false := by
                obtain ⟨i1, i2⟩ := i
                cases i1 <;> first | exact ⟨rfl, rfl⟩ | cases hih
              rw [hip.1, hip.2, hih] at hrow
              have m1 := zm_hp_mono hhp
              have m2 := zm_ex_mono _ _ _ _ _ _ _ _ _ hex
              refine zm_hp_ok C hdec hrow (by omega) (by omega) (hv.1.trans hml.symm) hR hl hhp (by omega) (by omega) (fun H1 locs1 hR1 hl1 => ih d mi (pc + i.2.1) ls q.1 q.2 r h' hex mr hm p e R s m args below meth c H1 locs1 _ _ Q lsA C hml hv hR1 hl1 hfr hlo (by omega) (by omega) ?_)
              intro H2 locs2 pc2 lsA2 i2 st2 a b dd hr2
              rw [show cells + (q.2.length - h.length) + (h'.length - q.2.length) = cells + (h'.length - h.length) by omega, show slots + (zm_szs q.2 - zm_szs h) + (zm_szs h' - zm_szs q.2) = slots + (zm_szs h' - zm_szs h) by omega]
              exact hend H2 locs2 pc2 lsA2 i2 st2 a b dd hr2
            | none =>
              rw [hhp] at hex
              dsimp only at hex
              cases hca : zm_call i.1 i.2.2 st h with
              | none => rw [hca] at hex; cases hex
              | some q =>
                rw [hca] at hex
                dsimp only at hex
                have hic := zm_isC_of hca
                have hip : zm_isP i.1 = false ∧ zm_isB i.1 = false ∧ zm_isH i.1 i.2.2 = false := by
                  obtain ⟨i1, i2⟩ := i
                  cases i1 with
                  | invokespecial k => exact ⟨rfl, rfl, by simpa [zm_isC, zm_isH] using hic⟩
                  | invokestatic k => exact ⟨rfl, rfl, by simpa [zm_isC, zm_isH] using hic⟩
                  | _ => first | exact ⟨rfl, rfl, rfl⟩ | cases hic
                rw [hip.1, hip.2.1, hip.2.2, hic] at hrow
                simp only [cond_false, cond_true] at hrow
                cases d with
                | zero => cases hex
                | succ d =>
                  dsimp only at hex
                  cases hmc : P q.1 with
                  | none => rw [hmc] at hex; cases hex
                  | some mc =>
                    rw [hmc] at hex
                    dsimp only at hex
                    cases hcat : Nat.ble (zm_cat q.2.1) mc.1.2.2.1 with
                    | false => rw [hcat] at hex; cases hex
                    | true =>
                      rw [hcat] at hex
                      simp only [cond_true] at hex
                      cases hw : zm_ex P df og n d q.1 0 (lv_args 0 q.2.1) [] h with
                      | none => rw [hw] at hex; cases hex
                      | some w =>
                        rw [hw] at hex
                        dsimp only at hex
                        obtain ⟨wr, wh⟩ := w
                        dsimp only at hex
                        have m1 := zm_ex_mono _ _ _ _ _ _ _ _ _ hw
                        have m2 := zm_ex_mono _ _ _ _ _ _ _ _ _ hex
                        have hok := hP q.1 mc hmc
                        have hM := zm_met (l := l) (E := E) ih hT0 hw hmc hok (Nat.le_of_ble_eq_true hcat)
                        obtain ⟨hx, hb, hown, hts, hG, -, hnm⟩ := id C
                        have hgo : ∀ stA : List Value, va_Run p l e R s m args below meth c H locs cells slots (wh.length - h.length) (zm_szs wh - zm_szs h) (F0 m pc lsA stA) (q.2.2.map (zm_t E)) (zm_Qc E wr wh #[]) (fun z => E.2.2.2.size ≤ z) → W p l e R s m args below meth c H locs cells slots Q (F0 m pc lsA stA) := by
                          intro stA hrun
                          refine zm_go hrun hl (fun H1 locs1 hR1 hl1 => ?_)
                          rw [zm_tolist]
                          refine ih (d + 1) mi (pc + 3) ls (wr.toList ++ q.2.2) wh r h' hex mr hm p e R s m args below meth c H1 locs1 _ _ Q lsA C hml hv hR1 hl1 hfr hlo (by omega) (by omega) ?_
                          intro H2 locs2 pc2 lsA2 i2 st2 a b dd hr2
                          rw [show cells + (wh.length - h.length) + (h'.length - wh.length) = cells + (h'.length - h.length) by omega, show slots + (zm_szs wh - zm_szs h) + (zm_szs h' - zm_szs wh) = slots + (zm_szs h' - zm_szs h) by omega]
                          exact hend H2 locs2 pc2 lsA2 i2 st2 a b dd hr2
                        have hxq : q.1 = i.2.2.1 := by
                          obtain ⟨i1, i2, i3⟩ := i
                          cases i1 with
                          | invokestatic k =>
                            simp only [zm_call] at hca
                            obtain ⟨-, rfl⟩ := zm_bif hca
                            rfl
                          | invokevirtual k =>
                            simp only [zm_call] at hca
                            split at hca
                            · split at hca
                              · obtain ⟨-, rfl⟩ := zm_bif hca
                                rfl
                              · cases hca
                            · cases hca
                          | invokespecial k =>
                            simp only [zm_call] at hca
                            cases hb1 : Nat.beq i3.2.2.1 1 with
                            | true => rw [hb1] at hca; cases hca
                            | false =>
                              rw [hb1] at hca
                              simp only [cond_false] at hca
                              split at hca
                              · obtain ⟨-, rfl⟩ := zm_bif hca
                                rfl
                              · cases hca
                          | _ => cases hic
                        unfold zm_cok at hrow
                        rw [← hxq, hmc] at hrow
                        simp only [Bool.and_eq_true, decide_eq_true_eq] at hrow
                        obtain ⟨hlen, hpar, hn1, hn2, hcode, hini, hrow⟩ := hrow
                        have hcode1 := zm_m_in hcode
                        have hini1 := hts _ (zm_m_in hini)
                        have hfr2 : (zm_rm d (wh.length - h.length) (zm_szs wh - zm_szs h)).frames + 1 ≤ R.frames := hfr
                        have hlo2 : 8 + (mc.1.2.2.1 + 11) + (zm_rm d (wh.length - h.length) (zm_szs wh - zm_szs h)).locals ≤ R.locals := by
                          have := hok.2.1
                          show 8 + (mc.1.2.2.1 + 11) + (d + 1) * 64 ≤ R.locals
                          omega
                        have hlenp : ∀ sig, parseMethodDescriptor mc.1.1.desc = some sig → i.2.2.2.1 = sig.parameters.length := fun sig hsig => by
                          rw [hsig] at hpar
                          simpa using hpar.symm
                        have hroom : cells + (wh.length - h.length) ≤ R.cells ∧ slots + (zm_szs wh - zm_szs h) ≤ R.slots := ⟨by omega, by omega⟩
                        rw [hlen] at hdec
                        clear hend ih
                        obtain ⟨i1, i2, i3⟩ := i
                        dsimp only at hdec hrow hlenp hca
                        cases i1 with
                        | invokestatic k =>
                          simp only [zm_call] at hca
                          obtain ⟨hcb, rfl⟩ := zm_bif hca
                          simp only [Bool.and_eq_true] at hcb hrow
                          have hnl := Nat.le_of_ble_eq_true hcb.2.1
                          have h8 := Nat.le_of_ble_eq_true hcb.2.2
                          dsimp only at hgo hM
                          rw [zm_stk E st i3.2.1]
                          exact hgo _ (va_runS (As := ((st.take i3.2.1).reverse.map (zm_t E))) (rest := (st.drop i3.2.1).map (zm_t E)) ⟨hx, hb, hml, hown, hts⟩ hM ⟨⟨rfl, rfl, hfr2, hlo2, zm_good hg hcode1 hts, List.mem_cons_self, hts _ hcode1, hini1, ⟨hn1, hn2⟩, hlenp, hts _ (zm_m_in hrow.1)⟩, hts _ (zm_m_in hrow.2)⟩ ⟨zm_Pc_blind, fun U hU hW => ⟨rfl, by rw [hU]; exact hR, hG.moved hW⟩⟩ rfl (by rw [List.length_map, List.length_reverse, List.length_take]; omega) hv.1 rfl (lv_room (by show zm_cat _ ≤ 8; rw [zm_cat_tr]; exact h8)) hdec hroom)
                        | invokevirtual k =>
                          simp only [zm_call] at hca
                          split at hca
                          · rename_i b rest hdrop
                            split at hca
                            · rename_i ci fs hcb
                              obtain ⟨hcc, rfl⟩ := zm_bif hca
                              simp only [Bool.and_eq_true] at hcc hrow
                              obtain ⟨w1, w2, w3, w4⟩ := hrow
                              have h8 := Nat.le_of_ble_eq_true hcc.2
                              have hci := Nat.eq_of_beq_eq_true hcc.1
                              split at w4
                              · rename_i r0 hr0
                                simp only [decide_eq_true_eq] at w4
                                dsimp only at hgo hM
                                rw [zm_stk E st i3.2.1, hdrop]
                                have hnl : i3.2.1 ≤ st.length := by
                                  rcases Nat.le_total i3.2.1 st.length with z | z
                                  · exact z
                                  · rw [List.drop_eq_nil_of_le z] at hdrop; cases hdrop
                                obtain ⟨r2, g1, g2, cellB, g3, g4, g5, -⟩ := hR.2.2 b _ hcb
                                have hr2 : r2 = r0 := by rw [hci] at g1; exact Option.some.inj (g1.symm.trans hr0)
                                have hcls := (hG.1.1 ci r2 g1).2.1
                                exact hgo _ (va_runV (C := mc.1.1.cls) (b := E.2.2.2.size + b) (As := ((st.take i3.2.1).reverse.map (zm_t E))) (rest := rest.map (zm_t E)) ⟨hx, hb, hml, hown, hts⟩ hM ⟨⟨rfl, rfl, hfr2, hlo2, zm_good hg hcode1 hts, List.mem_cons_self, hts _ hcode1, hini1, ⟨hn1, hn2⟩, hlenp, hts _ (zm_m_in w1)⟩, hts _ (zm_m_in w2), hts _ (zm_m_in w3)⟩ ⟨zm_Pc_blind, ⟨cellB, g3, by rw [g5]; rfl, by rw [g4, ← w4, ← hr2]; exact hcls⟩, fun U hU hW => ⟨rfl, by rw [hU]; exact hR, hG.moved hW⟩⟩ rfl (by rw [List.length_map, List.length_reverse, List.length_take]; omega) hv.1 rfl (lv_room (by show zm_cat _ ≤ 8; rw [zm_cat_tr]; exact h8)) hdec hroom)
                              · cases w4
                            · cases hca
                          · cases hca
                        | invokespecial k =>
                          simp only [zm_call] at hca
                          cases hb1 : Nat.beq i3.2.2.1 1 with
                          | true => rw [hb1] at hca; cases hca
                          | false =>
                            rw [hb1] at hca
                            simp only [cond_false] at hca
                            split at hca
                            · rename_i b rest hdrop
                              obtain ⟨hcc, rfl⟩ := zm_bif hca
                              simp only [Bool.and_eq_true, decide_eq_true_eq, Bool.or_eq_true] at hrow
                              obtain ⟨w1, w2, w3, w4⟩ := hrow
                              have h8 := Nat.le_of_ble_eq_true hcc
                              dsimp only at hgo hM
                              rw [zm_stk E st i3.2.1, hdrop]
                              have hnl : i3.2.1 ≤ st.length := by
                                rcases Nat.le_total i3.2.1 st.length with z | z
                                · exact z
                                · rw [List.drop_eq_nil_of_le z] at hdrop; cases hdrop
                              rw [w2] at hM hcode1
                              rcases w4 with w4 | w4
                              · exact hgo _ (va_runI (b := E.2.2.2.size + b) (As := ((st.take i3.2.1).reverse.map (zm_t E))) (rest := rest.map (zm_t E)) ⟨hx, hb, hml, hown, hts⟩ hM ⟨⟨rfl, rfl, hfr2, hlo2, zm_good hg hcode1 hts, List.mem_cons_self, hts _ hcode1, hini1, ⟨hn1, hn2⟩, hlenp, hts _ (zm_m_in w4)⟩, w1, hts _ (zm_m_in w3)⟩ ⟨zm_Pc_blind, fun U hU hW => ⟨rfl, by rw [hU]; exact hR, hG.moved hW⟩⟩ rfl (by rw [List.length_map, List.length_reverse, List.length_take]; omega) hv.1 rfl (lv_room (by show zm_cat _ ≤ 8; rw [zm_cat_tr]; exact h8)) hdec hroom)
                              · obtain ⟨nw, hnw, w5⟩ := List.any_eq_true.mp w4
                                simp only [Bool.and_eq_true, decide_eq_true_eq] at w5
                                obtain ⟨u1, u2, u3⟩ := w5
                                have hnest := hG.2.2.2.1 nw hnw
                                rw [u1, u2, u3] at hnest
                                exact hgo _ (va_runIN (host := nw.2.2.2) (b := E.2.2.2.size + b) (As := ((st.take i3.2.1).reverse.map (zm_t E))) (rest := rest.map (zm_t E)) ⟨hx, hb, hml, hown, hts⟩ hM ⟨⟨⟨rfl, rfl, hfr2, hlo2, zm_good hg hcode1 hts, List.mem_cons_self⟩, hts _ hcode1, hini1, ⟨hn1, hn2⟩, hlenp, va_Nw.use rfl hnest⟩, w1, hts _ (zm_m_in w3)⟩ ⟨zm_Pc_blind, fun U hU hW => ⟨rfl, by rw [hU]; exact hR, hG.moved hW⟩⟩ rfl (by rw [List.length_map, List.length_reverse, List.length_take]; omega) hv.1 rfl (lv_room (by show zm_cat _ ≤ 8; rw [zm_cat_tr]; exact h8)) hdec hroom)
                            · cases hca
                        | _ => cases hic
end ZMT
end
section
/-! Strings, statics, nest mates, defaults -/
def zm_S : zm_SS := [("WindowRollModel", 452, "from", 38), ("WindowRollModel", 454, "counts", 39), ("WindowRollModel", 456, "part", 40), ("WindowRollModel", 458, "spare", 41), ("WindowRollModel", 463, "apart", 42), ("WindowRollModel", 465, "pay", 43), ("WindowRollModel", 467, "add", 44), ("WindowRollModel", 389, "lesser", 45), ("WindowRollModel", 395, "greater", 46), ("WindowRollModel", 415, "house street year count known how collector worth tax ", 47), ("WindowRollModel", 417, "worth families street rooms openings year count panes kind floor back lattice ", 48), ("WindowRollModel", 469, "when", 49), ("WindowRollModel", 436, "not", 50), ("WindowRollModel", 445, "and", 51), ("WindowRollModel", 450, "or", 52), ("WindowRollModel", 612, "number", 53), ("WindowRollModel", 613, "sum", 54), ("WindowRollModel", 614, "least", 55), ("WindowRollModel", 616, "greatest", 56), ("WindowRollModel", 629, "where", 57), ("WindowRollModel", 631, "by", 58), ("WindowRoll$Word", 203, "from", 59), ("WindowRoll$Word", 209, "pay", 60), ("WindowRoll$Word", 212, "add", 61), ("WindowRoll$Word", 239, "lesser", 62), ("WindowRoll$Word", 242, "greater", 63), ("WindowRoll$Word", 215, "counts", 64), ("WindowRoll$Word", 218, "part", 65), ("WindowRoll$Word", 221, "spare", 66), ("WindowRoll$Word", 224, "apart", 67), ("WindowRoll$Word", 227, "when", 68), ("WindowRoll$Word", 236, "not", 69), ("WindowRoll$Word", 233, "and", 70), ("WindowRoll$Word", 230, "or", 71), ("WindowRoll$Word", 149, "worth", 72), ("WindowRoll$Word", 155, "families", 73), ("WindowRoll$Word", 158, "street", 74), ("WindowRoll$Word", 161, "rooms", 75), ("WindowRoll$Word", 164, "openings", 76), ("WindowRoll$Word", 167, "year", 77), ("WindowRoll$Word", 173, "panes", 78), ("WindowRoll$Word", 176, "kind", 79), ("WindowRoll$Word", 179, "floor", 80), ("WindowRoll$Word", 182, "back", 81), ("WindowRoll$Word", 185, "lattice", 82), ("WindowRoll$Word", 170, "count", 83), ("WindowRoll$Word", 245, "number", 84), ("WindowRoll$Word", 248, "sum", 85), ("WindowRoll$Word", 251, "least", 86), ("WindowRoll$Word", 254, "greatest", 87), ("WindowRoll$Word", 257, "where", 88), ("WindowRoll$Word", 260, "by", 89), ("WindowRoll$Word", 188, "house", 90), ("WindowRoll$Word", 191, "known", 91), ("WindowRoll$Word", 194, "how", 92), ("WindowRoll$Word", 197, "collector", 93), ("WindowRoll$Word", 200, "tax", 94)]
def zm_St : zm_ST := [("WindowRoll$Reader", "WORDS", "[LWindowRoll$Word;", 1), ("WindowRoll$Word", "FROM", "LWindowRoll$Word;", 2), ("WindowRoll$Word", "PAY", "LWindowRoll$Word;", 3), ("WindowRoll$Word", "ADD", "LWindowRoll$Word;", 4), ("WindowRoll$Word", "LESSER", "LWindowRoll$Word;", 5), ("WindowRoll$Word", "GREATER", "LWindowRoll$Word;", 6), ("WindowRoll$Word", "COUNTS", "LWindowRoll$Word;", 7), ("WindowRoll$Word", "PART", "LWindowRoll$Word;", 8), ("WindowRoll$Word", "SPARE", "LWindowRoll$Word;", 9), ("WindowRoll$Word", "APART", "LWindowRoll$Word;", 10), ("WindowRoll$Word", "WHEN", "LWindowRoll$Word;", 11), ("WindowRoll$Word", "NOT", "LWindowRoll$Word;", 12), ("WindowRoll$Word", "AND", "LWindowRoll$Word;", 13), ("WindowRoll$Word", "OR", "LWindowRoll$Word;", 14), ("WindowRoll$Word", "WORTH", "LWindowRoll$Word;", 15), ("WindowRoll$Word", "FAMILIES", "LWindowRoll$Word;", 16), ("WindowRoll$Word", "STREET", "LWindowRoll$Word;", 17), ("WindowRoll$Word", "ROOMS", "LWindowRoll$Word;", 18), ("WindowRoll$Word", "OPENINGS", "LWindowRoll$Word;", 19), ("WindowRoll$Word", "YEAR", "LWindowRoll$Word;", 20), ("WindowRoll$Word", "PANES", "LWindowRoll$Word;", 21), ("WindowRoll$Word", "KIND", "LWindowRoll$Word;", 22), ("WindowRoll$Word", "FLOOR", "LWindowRoll$Word;", 23), ("WindowRoll$Word", "BACK", "LWindowRoll$Word;", 24), ("WindowRoll$Word", "LATTICE", "LWindowRoll$Word;", 25), ("WindowRoll$Word", "COUNT", "LWindowRoll$Word;", 26), ("WindowRoll$Word", "NUMBER", "LWindowRoll$Word;", 27), ("WindowRoll$Word", "SUM", "LWindowRoll$Word;", 28), ("WindowRoll$Word", "LEAST", "LWindowRoll$Word;", 29), ("WindowRoll$Word", "GREATEST", "LWindowRoll$Word;", 30), ("WindowRoll$Word", "WHERE", "LWindowRoll$Word;", 31), ("WindowRoll$Word", "BY", "LWindowRoll$Word;", 32), ("WindowRoll$Word", "HOUSE", "LWindowRoll$Word;", 33), ("WindowRoll$Word", "KNOWN", "LWindowRoll$Word;", 34), ("WindowRoll$Word", "HOW", "LWindowRoll$Word;", 35), ("WindowRoll$Word", "COLLECTOR", "LWindowRoll$Word;", 36), ("WindowRoll$Word", "TAX", "LWindowRoll$Word;", 37)]
def zm_N : zm_NW := [("WindowRoll", 33, ⟨"WindowRoll$Reader", "<init>", "()V"⟩, "WindowRoll"), ("WindowRoll", 40, ⟨"WindowRoll$Law", "<init>", "()V"⟩, "WindowRoll"), ("WindowRoll", 47, ⟨"WindowRoll$Court", "<init>", "()V"⟩, "WindowRoll"), ("WindowRoll", 54, ⟨"WindowRoll$Lines", "<init>", "()V"⟩, "WindowRoll"), ("WindowRoll", 70, ⟨"WindowRoll$Answers", "<init>", "()V"⟩, "WindowRoll"), ("WindowRoll", 77, ⟨"WindowRoll$Rows", "<init>", "()V"⟩, "WindowRoll")]
def zm_df : Nat → List Value := fun c => match c with
  | 0 => [.null, .null, .null, .int 0, .int 0]
  | 1 => [.int 0, .int 0, .null]
  | 2 => [.int 0, .int 0, .int 0, .int 0, .int 0, .int 0, .null, .int 0, .null, .int 0, .long 0]
  | 3 => [.null, .int 0, .null, .null, .null, .null]
  | 4 => [.null, .null, .null, .null, .null, .null, .int 0, .null, .null]
  | 5 => [.int 0, .int 0, .int 0, .int 0, .int 0, .int 0, .int 0, .int 0]
  | 6 => [.null, .null, .null, .int 0, .int 0, .null, .null, .int 0, .null, .int 0, .null, .null, .null, .null, .null]
  | 7 => [.null, .int 0, .null, .null, .null, .int 0, .int 0, .null, .int 0, .int 0]
  | 8 => [.null, .null, .null, .null, .int 0, .null]
  | 9 => [.null, .int 0, .null, .null, .null, .null, .null, .int 0, .int 0, .null]
  | 10 => [.null, .int 0, .int 0, .int 0, .int 0, .int 0, .null, .null, .null, .null, .null, .null, .null, .null, .null, .null]
  | _ => [.int 0, .null, .null, .null, .null, .int 0, .int 0, .int 0, .int 0, .int 0, .int 0, .int 0, .int 0, .int 0, .int 0, .null, .null, .null, .null, .null, .null, .null, .null, .null, .null, .null, .null, .null, .null, .null, .null, .null, .null, .null, .null, .null, .null, .null, .null, .null, .null, .null, .null, .null, .null, .null, .null, .null, .null, .null, .int 0, .int 0, .null, .null, .null, .null, .int 0, .int 0, .int 0, .int 0, .int 0, .int 0, .int 0, .int 0, .int 0, .int 0, .int 0, .int 0, .int 0, .long 0, .int 0, .int 0, .int 0, .long 0, .long 0, .long 0, .long 0, .int 0, .int 0, .int 0, .int 0, .null, .int 0, .int 0, .int 0, .null, .null, .null, .null, .null, .null, .null, .null, .null, .null, .null, .null, .null, .null, .null, .int 0, .int 0, .int 0, .long 0, .long 0, .int 0, .null, .null, .int 0]
theorem zm_uws {C : String} {T : u_T} {N : Nat} (ps : List Nat) (h : (List.range N).all (fun k => match ps[k]? with
  | some p => zm_m zm_W [p] 0 (u_lay C T k)
  | none => false) = true) : ∀ w ∈ u_ws C T N, w ∈ zm_W := by
  intro w hw
  unfold u_ws at hw
  obtain ⟨k, hk, rfl⟩ := List.mem_map.mp hw
  have h1 := List.all_eq_true.mp h k hk
  split at h1
  · exact zm_m_in h1
  · cases h1
theorem zm_T0_0 : (∀ w ∈ u_ws RX0 TX0 5, w ∈ zm_W) ∧ (∀ j : Nat, j < 5 → defaultValue (zm_ft 0 j) = vp_V (zm_df 0) j) := ⟨zm_uws [2049, 2051, 2053, 2055, 2057] (by decide +kernel), by decide +kernel⟩
theorem zm_T0_1 : (∀ w ∈ u_ws RX1 TX1 3, w ∈ zm_W) ∧ (∀ j : Nat, j < 3 → defaultValue (zm_ft 1 j) = vp_V (zm_df 1) j) := ⟨zm_uws [1164, 1166, 1168] (by decide +kernel), by decide +kernel⟩
theorem zm_T0_2 : (∀ w ∈ u_ws RX2 TX2 11, w ∈ zm_W) ∧ (∀ j : Nat, j < 11 → defaultValue (zm_ft 2 j) = vp_V (zm_df 2) j) := ⟨zm_uws [2200, 2202, 2204, 2206, 2208, 2210, 2212, 2214, 2216, 2218, 2220] (by decide +kernel), by decide +kernel⟩
theorem zm_T0_3 : (∀ w ∈ u_ws RX3 TX3 6, w ∈ zm_W) ∧ (∀ j : Nat, j < 6 → defaultValue (zm_ft 3 j) = vp_V (zm_df 3) j) := ⟨zm_uws [1138, 1140, 1142, 1144, 1146, 1148] (by decide +kernel), by decide +kernel⟩
theorem zm_T0_4 : (∀ w ∈ u_ws RX4 TX4 9, w ∈ zm_W) ∧ (∀ j : Nat, j < 9 → defaultValue (zm_ft 4 j) = vp_V (zm_df 4) j) := ⟨zm_uws [1195, 1197, 1199, 1201, 1203, 1205, 1207, 1209, 1211] (by decide +kernel), by decide +kernel⟩
theorem zm_T0_5 : (∀ w ∈ u_ws RX5 TX5 8, w ∈ zm_W) ∧ (∀ j : Nat, j < 8 → defaultValue (zm_ft 5 j) = vp_V (zm_df 5) j) := ⟨zm_uws [3051, 3053, 3055, 3057, 3059, 3061, 3063, 3065] (by decide +kernel), by decide +kernel⟩
theorem zm_T0_6 : (∀ w ∈ u_ws RX6 TX6 15, w ∈ zm_W) ∧ (∀ j : Nat, j < 15 → defaultValue (zm_ft 6 j) = vp_V (zm_df 6) j) := ⟨zm_uws [2003, 2005, 2007, 2009, 2011, 2013, 2015, 2017, 2019, 2021, 2023, 2025, 2027, 2029, 2031] (by decide +kernel), by decide +kernel⟩
theorem zm_T0_7 : (∀ w ∈ u_ws RX7 TX7 10, w ∈ zm_W) ∧ (∀ j : Nat, j < 10 → defaultValue (zm_ft 7 j) = vp_V (zm_df 7) j) := ⟨zm_uws [1051, 1053, 1055, 1057, 1059, 1061, 1063, 1065, 1067, 1069] (by decide +kernel), by decide +kernel⟩
theorem zm_T0_8 : (∀ w ∈ u_ws RX8 TX8 6, w ∈ zm_W) ∧ (∀ j : Nat, j < 6 → defaultValue (zm_ft 8 j) = vp_V (zm_df 8) j) := ⟨zm_uws [2079, 2081, 2083, 2085, 2087, 2089] (by decide +kernel), by decide +kernel⟩
theorem zm_T0_9 : (∀ w ∈ u_ws RX9 TX9 10, w ∈ zm_W) ∧ (∀ j : Nat, j < 10 → defaultValue (zm_ft 9 j) = vp_V (zm_df 9) j) := ⟨zm_uws [1109, 1111, 1113, 1115, 1117, 1119, 1121, 1123, 1125, 1127] (by decide +kernel), by decide +kernel⟩
theorem zm_T0_10 : (∀ w ∈ u_ws RX11 TX11 16, w ∈ zm_W) ∧ (∀ j : Nat, j < 16 → defaultValue (zm_ft 10 j) = vp_V (zm_df 10) j) := ⟨zm_uws [2108, 2110, 2112, 2114, 2116, 2118, 2120, 2122, 2124, 2126, 2128, 2130, 2132, 2134, 2136, 2138] (by decide +kernel), by decide +kernel⟩
theorem zm_T0_11 : (∀ w ∈ u_ws RX12 TX12 109, w ∈ zm_W) ∧ (∀ j : Nat, j < 109 → defaultValue (zm_ft 11 j) = vp_V (zm_df 11) j) := ⟨zm_uws [7021, 7023, 7025, 7027, 7029, 7031, 7033, 7035, 7037, 7039, 7041, 7043, 7045, 7047, 7049, 7051, 7053, 7055, 7057, 7059, 7061, 7063, 7065, 7067, 7069, 7071, 7073, 7075, 7077, 7079, 7081, 7083, 7085, 7087, 7089, 7091, 7093, 7095, 7097, 7099, 7101, 7103, 7105, 7107, 7109, 7111, 7113, 7115, 7117, 7119, 7121, 7123, 7125, 7127, 7129, 7131, 7133, 7135, 7137, 7139, 7141, 7143, 7145, 7147, 7149, 7151, 7153, 7155, 7157, 7159, 7161, 7163, 7165, 7167, 7169, 7171, 7173, 7175, 7177, 7179, 7181, 7183, 7185, 7187, 7189, 7191, 7193, 7195, 7197, 7199, 7201, 7203, 7205, 7207, 7209, 7211, 7213, 7215, 7217, 7219, 7221, 7223, 7225, 7227, 7229, 7231, 7233, 7235, 7237] (by decide +kernel), by decide +kernel⟩
theorem zm_tr_df : ∀ c j : Nat, zm_tr 0 (fun _ => 0) (vp_V (zm_df c) j) = vp_V (zm_df c) j := by
  intro c j
  have h : ∀ (l : List Value), (∀ v ∈ l, zm_tr 0 (fun _ => 0) v = v) → zm_tr 0 (fun _ => 0) (vp_V l j) = vp_V l j := by
    intro l hl
    unfold vp_V
    rw [List.getD_eq_getElem?_getD]
    cases hv : l[j]? with
    | none => rfl
    | some v => exact hl v (List.mem_of_getElem? hv)
  apply h
  match c with
  | 0 => exact (by decide +kernel : ∀ v ∈ zm_df 0, zm_tr 0 (fun _ => 0) v = v)
  | 1 => exact (by decide +kernel : ∀ v ∈ zm_df 1, zm_tr 0 (fun _ => 0) v = v)
  | 2 => exact (by decide +kernel : ∀ v ∈ zm_df 2, zm_tr 0 (fun _ => 0) v = v)
  | 3 => exact (by decide +kernel : ∀ v ∈ zm_df 3, zm_tr 0 (fun _ => 0) v = v)
  | 4 => exact (by decide +kernel : ∀ v ∈ zm_df 4, zm_tr 0 (fun _ => 0) v = v)
  | 5 => exact (by decide +kernel : ∀ v ∈ zm_df 5, zm_tr 0 (fun _ => 0) v = v)
  | 6 => exact (by decide +kernel : ∀ v ∈ zm_df 6, zm_tr 0 (fun _ => 0) v = v)
  | 7 => exact (by decide +kernel : ∀ v ∈ zm_df 7, zm_tr 0 (fun _ => 0) v = v)
  | 8 => exact (by decide +kernel : ∀ v ∈ zm_df 8, zm_tr 0 (fun _ => 0) v = v)
  | 9 => exact (by decide +kernel : ∀ v ∈ zm_df 9, zm_tr 0 (fun _ => 0) v = v)
  | 10 => exact (by decide +kernel : ∀ v ∈ zm_df 10, zm_tr 0 (fun _ => 0) v = v)
  | c + 11 => exact (by decide +kernel : ∀ v ∈ zm_df (11), zm_tr 0 (fun _ => 0) v = v)
theorem zm_T0_ok : zm_T0 zm_W zm_df := by
  intro ci r hr
  match ci, hr with
  | 0, hr => cases hr; exact ⟨zm_T0_0.1, tyX0_ok, nmX0, zm_T0_0.2, rfl, zm_tr_df 0⟩
  | 1, hr => cases hr; exact ⟨zm_T0_1.1, tyX1_ok, nmX1, zm_T0_1.2, rfl, zm_tr_df 1⟩
  | 2, hr => cases hr; exact ⟨zm_T0_2.1, tyX2_ok, nmX2, zm_T0_2.2, rfl, zm_tr_df 2⟩
  | 3, hr => cases hr; exact ⟨zm_T0_3.1, tyX3_ok, nmX3, zm_T0_3.2, rfl, zm_tr_df 3⟩
  | 4, hr => cases hr; exact ⟨zm_T0_4.1, tyX4_ok, nmX4, zm_T0_4.2, rfl, zm_tr_df 4⟩
  | 5, hr => cases hr; exact ⟨zm_T0_5.1, tyX5_ok, nmX5, zm_T0_5.2, rfl, zm_tr_df 5⟩
  | 6, hr => cases hr; exact ⟨zm_T0_6.1, tyX6_ok, nmX6, zm_T0_6.2, rfl, zm_tr_df 6⟩
  | 7, hr => cases hr; exact ⟨zm_T0_7.1, tyX7_ok, nmX7, zm_T0_7.2, rfl, zm_tr_df 7⟩
  | 8, hr => cases hr; exact ⟨zm_T0_8.1, tyX8_ok, nmX8, zm_T0_8.2, rfl, zm_tr_df 8⟩
  | 9, hr => cases hr; exact ⟨zm_T0_9.1, tyX9_ok, nmX9, zm_T0_9.2, rfl, zm_tr_df 9⟩
  | 10, hr => cases hr; exact ⟨zm_T0_10.1, tyX11_ok, nmX11, zm_T0_10.2, rfl, zm_tr_df 10⟩
  | 11, hr => cases hr; exact ⟨zm_T0_11.1, tyX12_ok, nmX12, zm_T0_11.2, rfl, zm_tr_df 11⟩
  | ci + 12, hr => simp [zm_cl] at hr
end
