-- ===== PART A: goes FIRST, ahead of the names: the tables' words, and 'selects' of the private methods out of them =====
/-- a private method of a class that the tables say can be made, by its rows of tables_1 -/
def lw_okq (q : MethodName × Nat) : Prop := (q.1.cls ≠ "java/lang/invoke/MethodHandle" ∧ q.1.cls ≠ "java/lang/invoke/VarHandle") ∧ Cond.instantiable q.1.cls q.2 ∈ tables_1 ∧ Cond.privateMethod q.1 ∈ tables_1 ∧ Cond.instanceMethod q.1 ∈ tables_1
theorem lw_p0 : lw_okq (⟨"ThreeDoors", "joinsCome", "(LThreeDoors$Shelf;II)I"⟩, 7) := ⟨⟨by decide +kernel, by decide +kernel⟩, List.mem_of_getElem? (i := 13) (by decide +kernel), List.mem_of_getElem? (i := 317) (by decide +kernel), List.mem_of_getElem? (i := 318) (by decide +kernel)⟩
theorem lw_p1 : lw_okq (⟨"ThreeDoors$Changes", "forgetFirst", "()V"⟩, 6) := ⟨⟨by decide +kernel, by decide +kernel⟩, List.mem_of_getElem? (i := 172) (by decide +kernel), List.mem_of_getElem? (i := 366) (by decide +kernel), List.mem_of_getElem? (i := 367) (by decide +kernel)⟩
theorem lw_p2 : lw_okq (⟨"ThreeDoors", "ofDoor", "(II)I"⟩, 7) := ⟨⟨by decide +kernel, by decide +kernel⟩, List.mem_of_getElem? (i := 13) (by decide +kernel), List.mem_of_getElem? (i := 378) (by decide +kernel), List.mem_of_getElem? (i := 379) (by decide +kernel)⟩
theorem lw_p3 : lw_okq (⟨"ThreeDoors$Law", "worked", "([BI)I"⟩, 13) := ⟨⟨by decide +kernel, by decide +kernel⟩, List.mem_of_getElem? (i := 76) (by decide +kernel), List.mem_of_getElem? (i := 394) (by decide +kernel), List.mem_of_getElem? (i := 395) (by decide +kernel)⟩
theorem lw_p4 : lw_okq (⟨"ThreeDoors$Law", "ranked", "(II)I"⟩, 13) := ⟨⟨by decide +kernel, by decide +kernel⟩, List.mem_of_getElem? (i := 76) (by decide +kernel), List.mem_of_getElem? (i := 398) (by decide +kernel), List.mem_of_getElem? (i := 399) (by decide +kernel)⟩
theorem lw_p5 : lw_okq (⟨"ThreeDoors$Law", "operand", "(I)I"⟩, 13) := ⟨⟨by decide +kernel, by decide +kernel⟩, List.mem_of_getElem? (i := 76) (by decide +kernel), List.mem_of_getElem? (i := 402) (by decide +kernel), List.mem_of_getElem? (i := 403) (by decide +kernel)⟩
theorem lw_p6 : lw_okq (⟨"ThreeDoors$Law", "next", "()I"⟩, 13) := ⟨⟨by decide +kernel, by decide +kernel⟩, List.mem_of_getElem? (i := 76) (by decide +kernel), List.mem_of_getElem? (i := 406) (by decide +kernel), List.mem_of_getElem? (i := 407) (by decide +kernel)⟩
theorem lw_p7 : lw_okq (⟨"ThreeDoors$Law", "number", "()I"⟩, 13) := ⟨⟨by decide +kernel, by decide +kernel⟩, List.mem_of_getElem? (i := 76) (by decide +kernel), List.mem_of_getElem? (i := 413) (by decide +kernel), List.mem_of_getElem? (i := 414) (by decide +kernel)⟩
theorem lw_p8 : lw_okq (⟨"ThreeDoors$Law", "named", "(I)I"⟩, 13) := ⟨⟨by decide +kernel, by decide +kernel⟩, List.mem_of_getElem? (i := 76) (by decide +kernel), List.mem_of_getElem? (i := 417) (by decide +kernel), List.mem_of_getElem? (i := 418) (by decide +kernel)⟩
theorem lw_p9 : lw_okq (⟨"ThreeDoors$Law", "broken", "()I"⟩, 13) := ⟨⟨by decide +kernel, by decide +kernel⟩, List.mem_of_getElem? (i := 76) (by decide +kernel), List.mem_of_getElem? (i := 421) (by decide +kernel), List.mem_of_getElem? (i := 422) (by decide +kernel)⟩
theorem lw_p10 : lw_okq (⟨"ThreeDoors", "settle", "()V"⟩, 7) := ⟨⟨by decide +kernel, by decide +kernel⟩, List.mem_of_getElem? (i := 13) (by decide +kernel), List.mem_of_getElem? (i := 459) (by decide +kernel), List.mem_of_getElem? (i := 460) (by decide +kernel)⟩
theorem lw_p11 : lw_okq (⟨"ThreeDoors$Plan", "isThere", "(I)Z"⟩, 12) := ⟨⟨by decide +kernel, by decide +kernel⟩, List.mem_of_getElem? (i := 124) (by decide +kernel), List.mem_of_getElem? (i := 472) (by decide +kernel), List.mem_of_getElem? (i := 473) (by decide +kernel)⟩
theorem lw_p12 : lw_okq (⟨"ThreeDoors$Plan", "link", "(I)V"⟩, 12) := ⟨⟨by decide +kernel, by decide +kernel⟩, List.mem_of_getElem? (i := 124) (by decide +kernel), List.mem_of_getElem? (i := 477) (by decide +kernel), List.mem_of_getElem? (i := 478) (by decide +kernel)⟩
theorem lw_p13 : lw_okq (⟨"ThreeDoors$Plan", "walk", "(I)V"⟩, 12) := ⟨⟨by decide +kernel, by decide +kernel⟩, List.mem_of_getElem? (i := 124) (by decide +kernel), List.mem_of_getElem? (i := 482) (by decide +kernel), List.mem_of_getElem? (i := 483) (by decide +kernel)⟩
theorem lw_p14 : lw_okq (⟨"ThreeDoors$Plan", "measure", "(II)V"⟩, 12) := ⟨⟨by decide +kernel, by decide +kernel⟩, List.mem_of_getElem? (i := 124) (by decide +kernel), List.mem_of_getElem? (i := 486) (by decide +kernel), List.mem_of_getElem? (i := 487) (by decide +kernel)⟩
theorem lw_p15 : lw_okq (⟨"ThreeDoors$Plan", "served", "(I)I"⟩, 12) := ⟨⟨by decide +kernel, by decide +kernel⟩, List.mem_of_getElem? (i := 124) (by decide +kernel), List.mem_of_getElem? (i := 505) (by decide +kernel), List.mem_of_getElem? (i := 506) (by decide +kernel)⟩
def lw_privs_1 : List (MethodName × Nat) := [(⟨"ThreeDoors", "joinsCome", "(LThreeDoors$Shelf;II)I"⟩, 7), (⟨"ThreeDoors$Changes", "forgetFirst", "()V"⟩, 6), (⟨"ThreeDoors", "ofDoor", "(II)I"⟩, 7), (⟨"ThreeDoors$Law", "worked", "([BI)I"⟩, 13), (⟨"ThreeDoors$Law", "ranked", "(II)I"⟩, 13), (⟨"ThreeDoors$Law", "operand", "(I)I"⟩, 13), (⟨"ThreeDoors$Law", "next", "()I"⟩, 13), (⟨"ThreeDoors$Law", "number", "()I"⟩, 13), (⟨"ThreeDoors$Law", "named", "(I)I"⟩, 13), (⟨"ThreeDoors$Law", "broken", "()I"⟩, 13), (⟨"ThreeDoors", "settle", "()V"⟩, 7), (⟨"ThreeDoors$Plan", "isThere", "(I)Z"⟩, 12), (⟨"ThreeDoors$Plan", "link", "(I)V"⟩, 12), (⟨"ThreeDoors$Plan", "walk", "(I)V"⟩, 12), (⟨"ThreeDoors$Plan", "measure", "(II)V"⟩, 12), (⟨"ThreeDoors$Plan", "served", "(I)I"⟩, 12)]
theorem lw_r1 : ∀ q ∈ lw_privs_1, lw_okq q := List.forall_mem_cons.mpr ⟨lw_p0, List.forall_mem_cons.mpr ⟨lw_p1, List.forall_mem_cons.mpr ⟨lw_p2, List.forall_mem_cons.mpr ⟨lw_p3, List.forall_mem_cons.mpr ⟨lw_p4, List.forall_mem_cons.mpr ⟨lw_p5, List.forall_mem_cons.mpr ⟨lw_p6, List.forall_mem_cons.mpr ⟨lw_p7, List.forall_mem_cons.mpr ⟨lw_p8, List.forall_mem_cons.mpr ⟨lw_p9, List.forall_mem_cons.mpr ⟨lw_p10, List.forall_mem_cons.mpr ⟨lw_p11, List.forall_mem_cons.mpr ⟨lw_p12, List.forall_mem_cons.mpr ⟨lw_p13, List.forall_mem_cons.mpr ⟨lw_p14, List.forall_mem_cons.mpr ⟨lw_p15, fun _ h => absurd h List.not_mem_nil⟩⟩⟩⟩⟩⟩⟩⟩⟩⟩⟩⟩⟩⟩⟩⟩
theorem lw_p16 : lw_okq (⟨"ThreeDoors$Plan", "crowded", "(I)I"⟩, 12) := ⟨⟨by decide +kernel, by decide +kernel⟩, List.mem_of_getElem? (i := 124) (by decide +kernel), List.mem_of_getElem? (i := 525) (by decide +kernel), List.mem_of_getElem? (i := 526) (by decide +kernel)⟩
theorem lw_p17 : lw_okq (⟨"ThreeDoors$Plan", "weight", "(LThreeDoors$Town;III)I"⟩, 12) := ⟨⟨by decide +kernel, by decide +kernel⟩, List.mem_of_getElem? (i := 124) (by decide +kernel), List.mem_of_getElem? (i := 529) (by decide +kernel), List.mem_of_getElem? (i := 530) (by decide +kernel)⟩
theorem lw_p18 : lw_okq (⟨"ThreeDoors", "hasWell", "(II)Z"⟩, 7) := ⟨⟨by decide +kernel, by decide +kernel⟩, List.mem_of_getElem? (i := 13) (by decide +kernel), List.mem_of_getElem? (i := 568) (by decide +kernel), List.mem_of_getElem? (i := 569) (by decide +kernel)⟩
theorem lw_p19 : lw_okq (⟨"ThreeDoors", "growLonger", "(I)V"⟩, 7) := ⟨⟨by decide +kernel, by decide +kernel⟩, List.mem_of_getElem? (i := 13) (by decide +kernel), List.mem_of_getElem? (i := 581) (by decide +kernel), List.mem_of_getElem? (i := 582) (by decide +kernel)⟩
theorem lw_p20 : lw_okq (⟨"ThreeDoors", "fewestGrown", "(I)I"⟩, 7) := ⟨⟨by decide +kernel, by decide +kernel⟩, List.mem_of_getElem? (i := 13) (by decide +kernel), List.mem_of_getElem? (i := 585) (by decide +kernel), List.mem_of_getElem? (i := 586) (by decide +kernel)⟩
theorem lw_p21 : lw_okq (⟨"ThreeDoors", "isToldFrom", "(IILThreeDoors$Shelf;)Z"⟩, 7) := ⟨⟨by decide +kernel, by decide +kernel⟩, List.mem_of_getElem? (i := 13) (by decide +kernel), List.mem_of_getElem? (i := 619) (by decide +kernel), List.mem_of_getElem? (i := 620) (by decide +kernel)⟩
theorem lw_p22 : lw_okq (⟨"ThreeDoors$Acts", "run", "(IIII)I"⟩, 6) := ⟨⟨by decide +kernel, by decide +kernel⟩, List.mem_of_getElem? (i := 199) (by decide +kernel), List.mem_of_getElem? (i := 663) (by decide +kernel), List.mem_of_getElem? (i := 664) (by decide +kernel)⟩
theorem lw_p23 : lw_okq (⟨"ThreeDoors$Acts", "note", "(I)V"⟩, 6) := ⟨⟨by decide +kernel, by decide +kernel⟩, List.mem_of_getElem? (i := 199) (by decide +kernel), List.mem_of_getElem? (i := 674) (by decide +kernel), List.mem_of_getElem? (i := 675) (by decide +kernel)⟩
theorem lw_p24 : lw_okq (⟨"ThreeDoors", "refusalOf", "(II)I"⟩, 7) := ⟨⟨by decide +kernel, by decide +kernel⟩, List.mem_of_getElem? (i := 13) (by decide +kernel), List.mem_of_getElem? (i := 698) (by decide +kernel), List.mem_of_getElem? (i := 699) (by decide +kernel)⟩
theorem lw_p25 : lw_okq (⟨"ThreeDoorsModel", "areTwo", "(I)Z"⟩, 47) := ⟨⟨by decide +kernel, by decide +kernel⟩, List.mem_of_getElem? (i := 731) (by decide +kernel), List.mem_of_getElem? (i := 890) (by decide +kernel), List.mem_of_getElem? (i := 891) (by decide +kernel)⟩
theorem lw_p26 : lw_okq (⟨"ThreeDoorsModel", "isDoor", "(I)Z"⟩, 47) := ⟨⟨by decide +kernel, by decide +kernel⟩, List.mem_of_getElem? (i := 731) (by decide +kernel), List.mem_of_getElem? (i := 894) (by decide +kernel), List.mem_of_getElem? (i := 895) (by decide +kernel)⟩
theorem lw_p27 : lw_okq (⟨"ThreeDoorsModel", "addJoin", "(II)I"⟩, 47) := ⟨⟨by decide +kernel, by decide +kernel⟩, List.mem_of_getElem? (i := 731) (by decide +kernel), List.mem_of_getElem? (i := 898) (by decide +kernel), List.mem_of_getElem? (i := 899) (by decide +kernel)⟩
theorem lw_p28 : lw_okq (⟨"ThreeDoorsModel", "isLaying", "(I)Z"⟩, 47) := ⟨⟨by decide +kernel, by decide +kernel⟩, List.mem_of_getElem? (i := 731) (by decide +kernel), List.mem_of_getElem? (i := 917) (by decide +kernel), List.mem_of_getElem? (i := 918) (by decide +kernel)⟩
theorem lw_p29 : lw_okq (⟨"ThreeDoorsModel", "lays", "(III)V"⟩, 47) := ⟨⟨by decide +kernel, by decide +kernel⟩, List.mem_of_getElem? (i := 731) (by decide +kernel), List.mem_of_getElem? (i := 929) (by decide +kernel), List.mem_of_getElem? (i := 930) (by decide +kernel)⟩
theorem lw_p30 : lw_okq (⟨"ThreeDoorsModel", "changes", "(III)I"⟩, 47) := ⟨⟨by decide +kernel, by decide +kernel⟩, List.mem_of_getElem? (i := 731) (by decide +kernel), List.mem_of_getElem? (i := 941) (by decide +kernel), List.mem_of_getElem? (i := 942) (by decide +kernel)⟩
theorem lw_p31 : lw_okq (⟨"ThreeDoorsModel", "valueAt", "(II)I"⟩, 47) := ⟨⟨by decide +kernel, by decide +kernel⟩, List.mem_of_getElem? (i := 731) (by decide +kernel), List.mem_of_getElem? (i := 945) (by decide +kernel), List.mem_of_getElem? (i := 946) (by decide +kernel)⟩
def lw_privs_2 : List (MethodName × Nat) := [(⟨"ThreeDoors$Plan", "crowded", "(I)I"⟩, 12), (⟨"ThreeDoors$Plan", "weight", "(LThreeDoors$Town;III)I"⟩, 12), (⟨"ThreeDoors", "hasWell", "(II)Z"⟩, 7), (⟨"ThreeDoors", "growLonger", "(I)V"⟩, 7), (⟨"ThreeDoors", "fewestGrown", "(I)I"⟩, 7), (⟨"ThreeDoors", "isToldFrom", "(IILThreeDoors$Shelf;)Z"⟩, 7), (⟨"ThreeDoors$Acts", "run", "(IIII)I"⟩, 6), (⟨"ThreeDoors$Acts", "note", "(I)V"⟩, 6), (⟨"ThreeDoors", "refusalOf", "(II)I"⟩, 7), (⟨"ThreeDoorsModel", "areTwo", "(I)Z"⟩, 47), (⟨"ThreeDoorsModel", "isDoor", "(I)Z"⟩, 47), (⟨"ThreeDoorsModel", "addJoin", "(II)I"⟩, 47), (⟨"ThreeDoorsModel", "isLaying", "(I)Z"⟩, 47), (⟨"ThreeDoorsModel", "lays", "(III)V"⟩, 47), (⟨"ThreeDoorsModel", "changes", "(III)I"⟩, 47), (⟨"ThreeDoorsModel", "valueAt", "(II)I"⟩, 47)]
theorem lw_r2 : ∀ q ∈ lw_privs_2, lw_okq q := List.forall_mem_cons.mpr ⟨lw_p16, List.forall_mem_cons.mpr ⟨lw_p17, List.forall_mem_cons.mpr ⟨lw_p18, List.forall_mem_cons.mpr ⟨lw_p19, List.forall_mem_cons.mpr ⟨lw_p20, List.forall_mem_cons.mpr ⟨lw_p21, List.forall_mem_cons.mpr ⟨lw_p22, List.forall_mem_cons.mpr ⟨lw_p23, List.forall_mem_cons.mpr ⟨lw_p24, List.forall_mem_cons.mpr ⟨lw_p25, List.forall_mem_cons.mpr ⟨lw_p26, List.forall_mem_cons.mpr ⟨lw_p27, List.forall_mem_cons.mpr ⟨lw_p28, List.forall_mem_cons.mpr ⟨lw_p29, List.forall_mem_cons.mpr ⟨lw_p30, List.forall_mem_cons.mpr ⟨lw_p31, fun _ h => absurd h List.not_mem_nil⟩⟩⟩⟩⟩⟩⟩⟩⟩⟩⟩⟩⟩⟩⟩⟩
theorem lw_p32 : lw_okq (⟨"ThreeDoorsModel", "joinsOf", "(I)I"⟩, 47) := ⟨⟨by decide +kernel, by decide +kernel⟩, List.mem_of_getElem? (i := 731) (by decide +kernel), List.mem_of_getElem? (i := 953) (by decide +kernel), List.mem_of_getElem? (i := 954) (by decide +kernel)⟩
theorem lw_p33 : lw_okq (⟨"ThreeDoorsModel", "reachOf", "(I)I"⟩, 47) := ⟨⟨by decide +kernel, by decide +kernel⟩, List.mem_of_getElem? (i := 731) (by decide +kernel), List.mem_of_getElem? (i := 957) (by decide +kernel), List.mem_of_getElem? (i := 958) (by decide +kernel)⟩
theorem lw_p34 : lw_okq (⟨"ThreeDoorsModel", "gives", "(I)I"⟩, 47) := ⟨⟨by decide +kernel, by decide +kernel⟩, List.mem_of_getElem? (i := 731) (by decide +kernel), List.mem_of_getElem? (i := 961) (by decide +kernel), List.mem_of_getElem? (i := 962) (by decide +kernel)⟩
theorem lw_p35 : lw_okq (⟨"ThreeDoorsModel", "worked", "(III)I"⟩, 47) := ⟨⟨by decide +kernel, by decide +kernel⟩, List.mem_of_getElem? (i := 731) (by decide +kernel), List.mem_of_getElem? (i := 965) (by decide +kernel), List.mem_of_getElem? (i := 966) (by decide +kernel)⟩
theorem lw_p36 : lw_okq (⟨"ThreeDoorsModel", "readText", "(I)I"⟩, 47) := ⟨⟨by decide +kernel, by decide +kernel⟩, List.mem_of_getElem? (i := 731) (by decide +kernel), List.mem_of_getElem? (i := 983) (by decide +kernel), List.mem_of_getElem? (i := 984) (by decide +kernel)⟩
theorem lw_p37 : lw_okq (⟨"ThreeDoorsModel", "line", "()V"⟩, 47) := ⟨⟨by decide +kernel, by decide +kernel⟩, List.mem_of_getElem? (i := 731) (by decide +kernel), List.mem_of_getElem? (i := 987) (by decide +kernel), List.mem_of_getElem? (i := 988) (by decide +kernel)⟩
theorem lw_p38 : lw_okq (⟨"ThreeDoorsModel", "either", "()V"⟩, 47) := ⟨⟨by decide +kernel, by decide +kernel⟩, List.mem_of_getElem? (i := 731) (by decide +kernel), List.mem_of_getElem? (i := 991) (by decide +kernel), List.mem_of_getElem? (i := 992) (by decide +kernel)⟩
theorem lw_p39 : lw_okq (⟨"ThreeDoorsModel", "both", "()V"⟩, 47) := ⟨⟨by decide +kernel, by decide +kernel⟩, List.mem_of_getElem? (i := 731) (by decide +kernel), List.mem_of_getElem? (i := 995) (by decide +kernel), List.mem_of_getElem? (i := 996) (by decide +kernel)⟩
theorem lw_p40 : lw_okq (⟨"ThreeDoorsModel", "compared", "()V"⟩, 47) := ⟨⟨by decide +kernel, by decide +kernel⟩, List.mem_of_getElem? (i := 731) (by decide +kernel), List.mem_of_getElem? (i := 999) (by decide +kernel), List.mem_of_getElem? (i := 1000) (by decide +kernel)⟩
theorem lw_p41 : lw_okq (⟨"ThreeDoorsModel", "sum", "()V"⟩, 47) := ⟨⟨by decide +kernel, by decide +kernel⟩, List.mem_of_getElem? (i := 731) (by decide +kernel), List.mem_of_getElem? (i := 1003) (by decide +kernel), List.mem_of_getElem? (i := 1004) (by decide +kernel)⟩
theorem lw_p42 : lw_okq (⟨"ThreeDoorsModel", "product", "()V"⟩, 47) := ⟨⟨by decide +kernel, by decide +kernel⟩, List.mem_of_getElem? (i := 731) (by decide +kernel), List.mem_of_getElem? (i := 1007) (by decide +kernel), List.mem_of_getElem? (i := 1008) (by decide +kernel)⟩
theorem lw_p43 : lw_okq (⟨"ThreeDoorsModel", "operand", "()V"⟩, 47) := ⟨⟨by decide +kernel, by decide +kernel⟩, List.mem_of_getElem? (i := 731) (by decide +kernel), List.mem_of_getElem? (i := 1011) (by decide +kernel), List.mem_of_getElem? (i := 1012) (by decide +kernel)⟩
theorem lw_p44 : lw_okq (⟨"ThreeDoorsModel", "look", "()I"⟩, 47) := ⟨⟨by decide +kernel, by decide +kernel⟩, List.mem_of_getElem? (i := 731) (by decide +kernel), List.mem_of_getElem? (i := 1015) (by decide +kernel), List.mem_of_getElem? (i := 1016) (by decide +kernel)⟩
theorem lw_p45 : lw_okq (⟨"ThreeDoorsModel", "addStep", "(II)V"⟩, 47) := ⟨⟨by decide +kernel, by decide +kernel⟩, List.mem_of_getElem? (i := 731) (by decide +kernel), List.mem_of_getElem? (i := 1022) (by decide +kernel), List.mem_of_getElem? (i := 1023) (by decide +kernel)⟩
theorem lw_p46 : lw_okq (⟨"ThreeDoorsModel", "opens", "()Z"⟩, 47) := ⟨⟨by decide +kernel, by decide +kernel⟩, List.mem_of_getElem? (i := 731) (by decide +kernel), List.mem_of_getElem? (i := 1026) (by decide +kernel), List.mem_of_getElem? (i := 1027) (by decide +kernel)⟩
theorem lw_p47 : lw_okq (⟨"ThreeDoorsModel", "faulty", "()V"⟩, 47) := ⟨⟨by decide +kernel, by decide +kernel⟩, List.mem_of_getElem? (i := 731) (by decide +kernel), List.mem_of_getElem? (i := 1030) (by decide +kernel), List.mem_of_getElem? (i := 1031) (by decide +kernel)⟩
def lw_privs_3 : List (MethodName × Nat) := [(⟨"ThreeDoorsModel", "joinsOf", "(I)I"⟩, 47), (⟨"ThreeDoorsModel", "reachOf", "(I)I"⟩, 47), (⟨"ThreeDoorsModel", "gives", "(I)I"⟩, 47), (⟨"ThreeDoorsModel", "worked", "(III)I"⟩, 47), (⟨"ThreeDoorsModel", "readText", "(I)I"⟩, 47), (⟨"ThreeDoorsModel", "line", "()V"⟩, 47), (⟨"ThreeDoorsModel", "either", "()V"⟩, 47), (⟨"ThreeDoorsModel", "both", "()V"⟩, 47), (⟨"ThreeDoorsModel", "compared", "()V"⟩, 47), (⟨"ThreeDoorsModel", "sum", "()V"⟩, 47), (⟨"ThreeDoorsModel", "product", "()V"⟩, 47), (⟨"ThreeDoorsModel", "operand", "()V"⟩, 47), (⟨"ThreeDoorsModel", "look", "()I"⟩, 47), (⟨"ThreeDoorsModel", "addStep", "(II)V"⟩, 47), (⟨"ThreeDoorsModel", "opens", "()Z"⟩, 47), (⟨"ThreeDoorsModel", "faulty", "()V"⟩, 47)]
theorem lw_r3 : ∀ q ∈ lw_privs_3, lw_okq q := List.forall_mem_cons.mpr ⟨lw_p32, List.forall_mem_cons.mpr ⟨lw_p33, List.forall_mem_cons.mpr ⟨lw_p34, List.forall_mem_cons.mpr ⟨lw_p35, List.forall_mem_cons.mpr ⟨lw_p36, List.forall_mem_cons.mpr ⟨lw_p37, List.forall_mem_cons.mpr ⟨lw_p38, List.forall_mem_cons.mpr ⟨lw_p39, List.forall_mem_cons.mpr ⟨lw_p40, List.forall_mem_cons.mpr ⟨lw_p41, List.forall_mem_cons.mpr ⟨lw_p42, List.forall_mem_cons.mpr ⟨lw_p43, List.forall_mem_cons.mpr ⟨lw_p44, List.forall_mem_cons.mpr ⟨lw_p45, List.forall_mem_cons.mpr ⟨lw_p46, List.forall_mem_cons.mpr ⟨lw_p47, fun _ h => absurd h List.not_mem_nil⟩⟩⟩⟩⟩⟩⟩⟩⟩⟩⟩⟩⟩⟩⟩⟩
theorem lw_p48 : lw_okq (⟨"ThreeDoorsModel", "figure", "()V"⟩, 47) := ⟨⟨by decide +kernel, by decide +kernel⟩, List.mem_of_getElem? (i := 731) (by decide +kernel), List.mem_of_getElem? (i := 1034) (by decide +kernel), List.mem_of_getElem? (i := 1035) (by decide +kernel)⟩
theorem lw_p49 : lw_okq (⟨"ThreeDoorsModel", "allDoors", "()I"⟩, 47) := ⟨⟨by decide +kernel, by decide +kernel⟩, List.mem_of_getElem? (i := 731) (by decide +kernel), List.mem_of_getElem? (i := 1042) (by decide +kernel), List.mem_of_getElem? (i := 1043) (by decide +kernel)⟩
theorem lw_p50 : lw_okq (⟨"ThreeDoorsModel", "findFar", "(I)V"⟩, 47) := ⟨⟨by decide +kernel, by decide +kernel⟩, List.mem_of_getElem? (i := 731) (by decide +kernel), List.mem_of_getElem? (i := 1046) (by decide +kernel), List.mem_of_getElem? (i := 1047) (by decide +kernel)⟩
theorem lw_p51 : lw_okq (⟨"ThreeDoorsModel", "findAll", "(I)V"⟩, 47) := ⟨⟨by decide +kernel, by decide +kernel⟩, List.mem_of_getElem? (i := 731) (by decide +kernel), List.mem_of_getElem? (i := 1054) (by decide +kernel), List.mem_of_getElem? (i := 1055) (by decide +kernel)⟩
theorem lw_p52 : lw_okq (⟨"ThreeDoorsModel", "bestBy", "(I)I"⟩, 47) := ⟨⟨by decide +kernel, by decide +kernel⟩, List.mem_of_getElem? (i := 731) (by decide +kernel), List.mem_of_getElem? (i := 1062) (by decide +kernel), List.mem_of_getElem? (i := 1063) (by decide +kernel)⟩
theorem lw_p53 : lw_okq (⟨"ThreeDoorsModel", "mayBe", "(I)Z"⟩, 47) := ⟨⟨by decide +kernel, by decide +kernel⟩, List.mem_of_getElem? (i := 731) (by decide +kernel), List.mem_of_getElem? (i := 1066) (by decide +kernel), List.mem_of_getElem? (i := 1067) (by decide +kernel)⟩
theorem lw_p54 : lw_okq (⟨"ThreeDoorsModel", "rock", "()I"⟩, 47) := ⟨⟨by decide +kernel, by decide +kernel⟩, List.mem_of_getElem? (i := 731) (by decide +kernel), List.mem_of_getElem? (i := 1070) (by decide +kernel), List.mem_of_getElem? (i := 1071) (by decide +kernel)⟩
theorem lw_p55 : lw_okq (⟨"ThreeDoorsModel", "isLawful", "(II)Z"⟩, 47) := ⟨⟨by decide +kernel, by decide +kernel⟩, List.mem_of_getElem? (i := 731) (by decide +kernel), List.mem_of_getElem? (i := 1074) (by decide +kernel), List.mem_of_getElem? (i := 1075) (by decide +kernel)⟩
theorem lw_p56 : lw_okq (⟨"ThreeDoorsModel", "rank", "(II)I"⟩, 47) := ⟨⟨by decide +kernel, by decide +kernel⟩, List.mem_of_getElem? (i := 731) (by decide +kernel), List.mem_of_getElem? (i := 1078) (by decide +kernel), List.mem_of_getElem? (i := 1079) (by decide +kernel)⟩
theorem lw_p57 : lw_okq (⟨"ThreeDoorsModel", "priceOf", "(I)I"⟩, 47) := ⟨⟨by decide +kernel, by decide +kernel⟩, List.mem_of_getElem? (i := 731) (by decide +kernel), List.mem_of_getElem? (i := 1085) (by decide +kernel), List.mem_of_getElem? (i := 1086) (by decide +kernel)⟩
theorem lw_p58 : lw_okq (⟨"ThreeDoorsModel", "isEven", "(I)Z"⟩, 47) := ⟨⟨by decide +kernel, by decide +kernel⟩, List.mem_of_getElem? (i := 731) (by decide +kernel), List.mem_of_getElem? (i := 1097) (by decide +kernel), List.mem_of_getElem? (i := 1098) (by decide +kernel)⟩
theorem lw_p59 : lw_okq (⟨"ThreeDoorsModel", "mayDig", "(II)Z"⟩, 47) := ⟨⟨by decide +kernel, by decide +kernel⟩, List.mem_of_getElem? (i := 731) (by decide +kernel), List.mem_of_getElem? (i := 1105) (by decide +kernel), List.mem_of_getElem? (i := 1106) (by decide +kernel)⟩
theorem lw_p60 : lw_okq (⟨"ThreeDoorsModel", "thereIn", "(I)I"⟩, 47) := ⟨⟨by decide +kernel, by decide +kernel⟩, List.mem_of_getElem? (i := 731) (by decide +kernel), List.mem_of_getElem? (i := 1117) (by decide +kernel), List.mem_of_getElem? (i := 1118) (by decide +kernel)⟩
theorem lw_p61 : lw_okq (⟨"ThreeDoorsModel", "comesFrom", "(I)Z"⟩, 47) := ⟨⟨by decide +kernel, by decide +kernel⟩, List.mem_of_getElem? (i := 731) (by decide +kernel), List.mem_of_getElem? (i := 1121) (by decide +kernel), List.mem_of_getElem? (i := 1122) (by decide +kernel)⟩
theorem lw_p62 : lw_okq (⟨"ThreeDoorsModel", "wellOf", "(II)I"⟩, 47) := ⟨⟨by decide +kernel, by decide +kernel⟩, List.mem_of_getElem? (i := 731) (by decide +kernel), List.mem_of_getElem? (i := 1133) (by decide +kernel), List.mem_of_getElem? (i := 1134) (by decide +kernel)⟩
theorem lw_p63 : lw_okq (⟨"ThreeDoorsModel", "isBody", "(I)Z"⟩, 47) := ⟨⟨by decide +kernel, by decide +kernel⟩, List.mem_of_getElem? (i := 731) (by decide +kernel), List.mem_of_getElem? (i := 1169) (by decide +kernel), List.mem_of_getElem? (i := 1170) (by decide +kernel)⟩
def lw_privs_4 : List (MethodName × Nat) := [(⟨"ThreeDoorsModel", "figure", "()V"⟩, 47), (⟨"ThreeDoorsModel", "allDoors", "()I"⟩, 47), (⟨"ThreeDoorsModel", "findFar", "(I)V"⟩, 47), (⟨"ThreeDoorsModel", "findAll", "(I)V"⟩, 47), (⟨"ThreeDoorsModel", "bestBy", "(I)I"⟩, 47), (⟨"ThreeDoorsModel", "mayBe", "(I)Z"⟩, 47), (⟨"ThreeDoorsModel", "rock", "()I"⟩, 47), (⟨"ThreeDoorsModel", "isLawful", "(II)Z"⟩, 47), (⟨"ThreeDoorsModel", "rank", "(II)I"⟩, 47), (⟨"ThreeDoorsModel", "priceOf", "(I)I"⟩, 47), (⟨"ThreeDoorsModel", "isEven", "(I)Z"⟩, 47), (⟨"ThreeDoorsModel", "mayDig", "(II)Z"⟩, 47), (⟨"ThreeDoorsModel", "thereIn", "(I)I"⟩, 47), (⟨"ThreeDoorsModel", "comesFrom", "(I)Z"⟩, 47), (⟨"ThreeDoorsModel", "wellOf", "(II)I"⟩, 47), (⟨"ThreeDoorsModel", "isBody", "(I)Z"⟩, 47)]
theorem lw_r4 : ∀ q ∈ lw_privs_4, lw_okq q := List.forall_mem_cons.mpr ⟨lw_p48, List.forall_mem_cons.mpr ⟨lw_p49, List.forall_mem_cons.mpr ⟨lw_p50, List.forall_mem_cons.mpr ⟨lw_p51, List.forall_mem_cons.mpr ⟨lw_p52, List.forall_mem_cons.mpr ⟨lw_p53, List.forall_mem_cons.mpr ⟨lw_p54, List.forall_mem_cons.mpr ⟨lw_p55, List.forall_mem_cons.mpr ⟨lw_p56, List.forall_mem_cons.mpr ⟨lw_p57, List.forall_mem_cons.mpr ⟨lw_p58, List.forall_mem_cons.mpr ⟨lw_p59, List.forall_mem_cons.mpr ⟨lw_p60, List.forall_mem_cons.mpr ⟨lw_p61, List.forall_mem_cons.mpr ⟨lw_p62, List.forall_mem_cons.mpr ⟨lw_p63, fun _ h => absurd h List.not_mem_nil⟩⟩⟩⟩⟩⟩⟩⟩⟩⟩⟩⟩⟩⟩⟩⟩
theorem lw_p64 : lw_okq (⟨"ThreeDoorsModel", "digs", "(II)I"⟩, 47) := ⟨⟨by decide +kernel, by decide +kernel⟩, List.mem_of_getElem? (i := 731) (by decide +kernel), List.mem_of_getElem? (i := 1173) (by decide +kernel), List.mem_of_getElem? (i := 1174) (by decide +kernel)⟩
theorem lw_p65 : lw_okq (⟨"ThreeDoorsModel", "ran", "(I)V"⟩, 47) := ⟨⟨by decide +kernel, by decide +kernel⟩, List.mem_of_getElem? (i := 731) (by decide +kernel), List.mem_of_getElem? (i := 1180) (by decide +kernel), List.mem_of_getElem? (i := 1181) (by decide +kernel)⟩
theorem lw_p66 : lw_okq (⟨"ThreeDoorsModel", "plainDigs", "(II)I"⟩, 47) := ⟨⟨by decide +kernel, by decide +kernel⟩, List.mem_of_getElem? (i := 731) (by decide +kernel), List.mem_of_getElem? (i := 1184) (by decide +kernel), List.mem_of_getElem? (i := 1185) (by decide +kernel)⟩
theorem lw_p67 : lw_okq (⟨"ThreeDoorsModel", "toldDigs", "(II)I"⟩, 47) := ⟨⟨by decide +kernel, by decide +kernel⟩, List.mem_of_getElem? (i := 731) (by decide +kernel), List.mem_of_getElem? (i := 1188) (by decide +kernel), List.mem_of_getElem? (i := 1189) (by decide +kernel)⟩
theorem lw_p68 : lw_okq (⟨"ThreeDoorsModel", "reaches", "(II)I"⟩, 47) := ⟨⟨by decide +kernel, by decide +kernel⟩, List.mem_of_getElem? (i := 731) (by decide +kernel), List.mem_of_getElem? (i := 1192) (by decide +kernel), List.mem_of_getElem? (i := 1193) (by decide +kernel)⟩
theorem lw_p69 : lw_okq (⟨"ThreeDoorsModel", "evenReaches", "(II)I"⟩, 47) := ⟨⟨by decide +kernel, by decide +kernel⟩, List.mem_of_getElem? (i := 731) (by decide +kernel), List.mem_of_getElem? (i := 1196) (by decide +kernel), List.mem_of_getElem? (i := 1197) (by decide +kernel)⟩
theorem lw_p70 : lw_okq (⟨"ThreeDoorsModel", "plainReaches", "(II)I"⟩, 47) := ⟨⟨by decide +kernel, by decide +kernel⟩, List.mem_of_getElem? (i := 731) (by decide +kernel), List.mem_of_getElem? (i := 1200) (by decide +kernel), List.mem_of_getElem? (i := 1201) (by decide +kernel)⟩
theorem lw_p71 : lw_okq (⟨"ThreeDoorsModel", "nears", "(II)I"⟩, 47) := ⟨⟨by decide +kernel, by decide +kernel⟩, List.mem_of_getElem? (i := 731) (by decide +kernel), List.mem_of_getElem? (i := 1204) (by decide +kernel), List.mem_of_getElem? (i := 1205) (by decide +kernel)⟩
theorem lw_p72 : lw_okq (⟨"ThreeDoorsModel", "plainNears", "(II)I"⟩, 47) := ⟨⟨by decide +kernel, by decide +kernel⟩, List.mem_of_getElem? (i := 731) (by decide +kernel), List.mem_of_getElem? (i := 1208) (by decide +kernel), List.mem_of_getElem? (i := 1209) (by decide +kernel)⟩
theorem lw_p73 : lw_okq (⟨"ThreeDoorsModel", "telling", "(II)I"⟩, 47) := ⟨⟨by decide +kernel, by decide +kernel⟩, List.mem_of_getElem? (i := 731) (by decide +kernel), List.mem_of_getElem? (i := 1212) (by decide +kernel), List.mem_of_getElem? (i := 1213) (by decide +kernel)⟩
theorem lw_p74 : lw_okq (⟨"ThreeDoorsModel", "lineTells", "(II)I"⟩, 47) := ⟨⟨by decide +kernel, by decide +kernel⟩, List.mem_of_getElem? (i := 731) (by decide +kernel), List.mem_of_getElem? (i := 1216) (by decide +kernel), List.mem_of_getElem? (i := 1217) (by decide +kernel)⟩
theorem lw_p75 : lw_okq (⟨"ThreeDoorsModel", "plainTells", "(II)I"⟩, 47) := ⟨⟨by decide +kernel, by decide +kernel⟩, List.mem_of_getElem? (i := 731) (by decide +kernel), List.mem_of_getElem? (i := 1220) (by decide +kernel), List.mem_of_getElem? (i := 1221) (by decide +kernel)⟩
theorem lw_p76 : lw_okq (⟨"ThreeDoorsModel", "whyNoPlace", "(II)I"⟩, 47) := ⟨⟨by decide +kernel, by decide +kernel⟩, List.mem_of_getElem? (i := 731) (by decide +kernel), List.mem_of_getElem? (i := 1240) (by decide +kernel), List.mem_of_getElem? (i := 1241) (by decide +kernel)⟩
def lw_privs_5 : List (MethodName × Nat) := [(⟨"ThreeDoorsModel", "digs", "(II)I"⟩, 47), (⟨"ThreeDoorsModel", "ran", "(I)V"⟩, 47), (⟨"ThreeDoorsModel", "plainDigs", "(II)I"⟩, 47), (⟨"ThreeDoorsModel", "toldDigs", "(II)I"⟩, 47), (⟨"ThreeDoorsModel", "reaches", "(II)I"⟩, 47), (⟨"ThreeDoorsModel", "evenReaches", "(II)I"⟩, 47), (⟨"ThreeDoorsModel", "plainReaches", "(II)I"⟩, 47), (⟨"ThreeDoorsModel", "nears", "(II)I"⟩, 47), (⟨"ThreeDoorsModel", "plainNears", "(II)I"⟩, 47), (⟨"ThreeDoorsModel", "telling", "(II)I"⟩, 47), (⟨"ThreeDoorsModel", "lineTells", "(II)I"⟩, 47), (⟨"ThreeDoorsModel", "plainTells", "(II)I"⟩, 47), (⟨"ThreeDoorsModel", "whyNoPlace", "(II)I"⟩, 47)]
theorem lw_r5 : ∀ q ∈ lw_privs_5, lw_okq q := List.forall_mem_cons.mpr ⟨lw_p64, List.forall_mem_cons.mpr ⟨lw_p65, List.forall_mem_cons.mpr ⟨lw_p66, List.forall_mem_cons.mpr ⟨lw_p67, List.forall_mem_cons.mpr ⟨lw_p68, List.forall_mem_cons.mpr ⟨lw_p69, List.forall_mem_cons.mpr ⟨lw_p70, List.forall_mem_cons.mpr ⟨lw_p71, List.forall_mem_cons.mpr ⟨lw_p72, List.forall_mem_cons.mpr ⟨lw_p73, List.forall_mem_cons.mpr ⟨lw_p74, List.forall_mem_cons.mpr ⟨lw_p75, List.forall_mem_cons.mpr ⟨lw_p76, fun _ h => absurd h List.not_mem_nil⟩⟩⟩⟩⟩⟩⟩⟩⟩⟩⟩⟩⟩
def lw_privs : List (MethodName × Nat) := lw_privs_1 ++ (lw_privs_2 ++ (lw_privs_3 ++ (lw_privs_4 ++ (lw_privs_5))))
def lw_tbl : List Cond := k2_sels lw_privs ++ tables_1
theorem lw_privs_ok : ∀ q ∈ lw_privs, lw_okq q := by
  show ∀ q ∈ lw_privs_1 ++ (lw_privs_2 ++ (lw_privs_3 ++ (lw_privs_4 ++ (lw_privs_5)))), lw_okq q
  exact List.forall_mem_append.mpr ⟨lw_r1, List.forall_mem_append.mpr ⟨lw_r2, List.forall_mem_append.mpr ⟨lw_r3, List.forall_mem_append.mpr ⟨lw_r4, lw_r5⟩⟩⟩⟩

/-! ===== BEGIN words of one list among another's, by their places ===== -/
theorem goodIn_r {big : List Cond} (ws : List Cond) (ps : List Nat) (hp : ws = ps.filterMap (fun i => big[i]?)) (h : ws.all goodWord = true) : GoodIn big ws := by
  intro w hw
  have h1 := List.all_eq_true.mp h w hw
  rw [hp] at hw
  obtain ⟨i, -, hi⟩ := List.mem_filterMap.mp hw
  have hm : w ∈ big := by first | exact List.mem_of_getElem? hi | exact List.getElem?_mem hi
  exact ⟨hm, good_of_word h1⟩
theorem goodIn_app {big a b : List Cond} (ha : GoodIn big a) (hb : GoodIn big b) : GoodIn big (a ++ b) := fun w h => (List.mem_append.mp h).elim (ha w) (hb w)
theorem goodIn_ca {big a b : List Cond} {c : Cond} (ha : GoodIn big (c :: a)) (hb : GoodIn big b) : GoodIn big (c :: (a ++ b)) := fun w h => (List.mem_cons.mp h).elim (fun e => ha w (List.mem_cons.mpr (Or.inl e))) (fun h => (List.mem_append.mp h).elim (fun h => ha w (List.mem_cons.mpr (Or.inr h))) (hb w))
theorem goodIn_sub {big ws : List Cond} (hm : ∀ w ∈ ws, w ∈ big) (h : ws.all goodWord = true) : GoodIn big ws := fun w hw => ⟨hm w hw, good_of_word (List.all_eq_true.mp h w hw)⟩
/-! ===== END ===== -/

/-! ===== BEGIN printed: names, fields, word lists, decode rows ===== -/
def RX0 : String := "ThreeDoors$Acts"
def TX0 : u_T := fun k => match k with
  | 0 => ("ThreeDoors$Acts", "kinds", "[I", true)
  | 1 => ("ThreeDoors$Acts", "traced", "[I", true)
  | 2 => ("ThreeDoors$Acts", "bodies", "I", false)
  | 3 => ("ThreeDoors$Acts", "began", "I", false)
  | 4 => ("ThreeDoors$Acts", "self", "I", false)
  | _ => ("ThreeDoors$Acts", "kindOfSelf", "I", false)
def tyX0 : Nat → FieldType := fun k => match k with
  | 0 => .array .int
  | 1 => .array .int
  | 2 => .int
  | 3 => .int
  | 4 => .int
  | _ => .int
abbrev wsX00 : List Cond := u_ws RX0 TX0 6
theorem nmX0 : ∀ a, a < 6 → ∀ b, b < 6 → a ≠ b → (TX0 a).2.1 ≠ (TX0 b).2.1 := by decide +kernel
theorem tyX0_ok : ∀ k, k < 6 → parseFieldDescriptor (TX0 k).2.2.1 = some (tyX0 k) := by decide +kernel
abbrev cX0_init : ByteArray := prog_2_method_1_code
def yX0_init : MethodName := ⟨RX0, "<init>", "()V"⟩
abbrev cX0_addBody : ByteArray := prog_2_method_2_code
def yX0_addBody : MethodName := ⟨RX0, "addBody", "(I)I"⟩
abbrev cX0_start : ByteArray := prog_2_method_3_code
def yX0_start : MethodName := ⟨RX0, "start", "(III)I"⟩
abbrev cX0_isUnder : ByteArray := prog_2_method_4_code
def yX0_isUnder : MethodName := ⟨RX0, "isUnder", "(II)Z"⟩
abbrev cX0_ownerOf : ByteArray := prog_2_method_5_code
def yX0_ownerOf : MethodName := ⟨RX0, "ownerOf", "(II)I"⟩
abbrev cX0_note : ByteArray := prog_2_method_6_code
def yX0_note : MethodName := ⟨RX0, "note", "(I)V"⟩
abbrev cX0_run : ByteArray := prog_2_method_7_code
def yX0_run : MethodName := ⟨RX0, "run", "(IIII)I"⟩
def RX1 : String := "ThreeDoors$Changes"
def TX1 : u_T := fun k => match k with
  | 0 => ("ThreeDoors$Changes", "what", "[I", true)
  | 1 => ("ThreeDoors$Changes", "number", "[I", true)
  | 2 => ("ThreeDoors$Changes", "before", "[I", true)
  | 3 => ("ThreeDoors$Changes", "after", "[I", true)
  | 4 => ("ThreeDoors$Changes", "done", "I", false)
  | _ => ("ThreeDoors$Changes", "kept", "I", false)
def tyX1 : Nat → FieldType := fun k => match k with
  | 0 => .array .int
  | 1 => .array .int
  | 2 => .array .int
  | 3 => .array .int
  | 4 => .int
  | _ => .int
abbrev wsX10 : List Cond := u_ws RX1 TX1 6
theorem nmX1 : ∀ a, a < 6 → ∀ b, b < 6 → a ≠ b → (TX1 a).2.1 ≠ (TX1 b).2.1 := by decide +kernel
theorem tyX1_ok : ∀ k, k < 6 → parseFieldDescriptor (TX1 k).2.2.1 = some (tyX1 k) := by decide +kernel
abbrev cX1_init : ByteArray := prog_3_method_1_code
def yX1_init : MethodName := ⟨RX1, "<init>", "()V"⟩
abbrev cX1_note : ByteArray := prog_3_method_2_code
def yX1_note : MethodName := ⟨RX1, "note", "(IIII)V"⟩
abbrev cX1_forgetFirst : ByteArray := prog_3_method_3_code
def yX1_forgetFirst : MethodName := ⟨RX1, "forgetFirst", "()V"⟩
abbrev cX1_takeBack : ByteArray := prog_3_method_4_code
def yX1_takeBack : MethodName := ⟨RX1, "takeBack", "(LThreeDoors$Town;)I"⟩
abbrev cX1_doAgain : ByteArray := prog_3_method_5_code
def yX1_doAgain : MethodName := ⟨RX1, "doAgain", "(LThreeDoors$Town;)I"⟩
def RX2 : String := "ThreeDoors$Law"
def TX2 : u_T := fun k => match k with
  | 0 => ("ThreeDoors$Law", "tape", "[B", true)
  | 1 => ("ThreeDoors$Law", "text", "[B", true)
  | 2 => ("ThreeDoors$Law", "fed", "I", false)
  | 3 => ("ThreeDoors$Law", "length", "I", false)
  | 4 => ("ThreeDoors$Law", "read", "[B", false)
  | 5 => ("ThreeDoors$Law", "end", "I", false)
  | 6 => ("ThreeDoors$Law", "at", "I", false)
  | 7 => ("ThreeDoors$Law", "fault", "I", false)
  | 8 => ("ThreeDoors$Law", "d", "I", false)
  | 9 => ("ThreeDoors$Law", "p", "I", false)
  | 10 => ("ThreeDoors$Law", "y", "I", false)
  | 11 => ("ThreeDoors$Law", "j", "I", false)
  | _ => ("ThreeDoors$Law", "o", "I", false)
def tyX2 : Nat → FieldType := fun k => match k with
  | 0 => .array .byte
  | 1 => .array .byte
  | 2 => .int
  | 3 => .int
  | 4 => .array .byte
  | 5 => .int
  | 6 => .int
  | 7 => .int
  | 8 => .int
  | 9 => .int
  | 10 => .int
  | 11 => .int
  | _ => .int
abbrev wsX20 : List Cond := u_ws RX2 TX2 13
theorem nmX2 : ∀ a, a < 13 → ∀ b, b < 13 → a ≠ b → (TX2 a).2.1 ≠ (TX2 b).2.1 := by decide +kernel
theorem tyX2_ok : ∀ k, k < 13 → parseFieldDescriptor (TX2 k).2.2.1 = some (tyX2 k) := by decide +kernel
abbrev cX2_init : ByteArray := prog_4_method_1_code
def yX2_init : MethodName := ⟨RX2, "<init>", "()V"⟩
abbrev cX2_takeByte : ByteArray := prog_4_method_2_code
def yX2_takeByte : MethodName := ⟨RX2, "takeByte", "(I)I"⟩
abbrev cX2_enact : ByteArray := prog_4_method_3_code
def yX2_enact : MethodName := ⟨RX2, "enact", "()I"⟩
abbrev cX2_reachOf : ByteArray := prog_4_method_4_code
def yX2_reachOf : MethodName := ⟨RX2, "reachOf", "(LThreeDoors$Town;III)I"⟩
abbrev cX2_worked : ByteArray := prog_4_method_5_code
def yX2_worked : MethodName := ⟨RX2, "worked", "([BI)I"⟩
abbrev cX2_next : ByteArray := prog_4_method_6_code
def yX2_next : MethodName := ⟨RX2, "next", "()I"⟩
abbrev cX2_broken : ByteArray := prog_4_method_7_code
def yX2_broken : MethodName := ⟨RX2, "broken", "()I"⟩
abbrev cX2_ranked : ByteArray := prog_4_method_8_code
def yX2_ranked : MethodName := ⟨RX2, "ranked", "(II)I"⟩
abbrev cX2_operand : ByteArray := prog_4_method_9_code
def yX2_operand : MethodName := ⟨RX2, "operand", "(I)I"⟩
abbrev cX2_number : ByteArray := prog_4_method_10_code
def yX2_number : MethodName := ⟨RX2, "number", "()I"⟩
abbrev cX2_named : ByteArray := prog_4_method_11_code
def yX2_named : MethodName := ⟨RX2, "named", "(I)I"⟩
abbrev cX2_isDigit : ByteArray := prog_4_method_12_code
def yX2_isDigit : MethodName := ⟨RX2, "isDigit", "(I)Z"⟩
abbrev cX2_rankOf : ByteArray := prog_4_method_13_code
def yX2_rankOf : MethodName := ⟨RX2, "rankOf", "(I)I"⟩
abbrev cX2_joined : ByteArray := prog_4_method_14_code
def yX2_joined : MethodName := ⟨RX2, "joined", "(III)I"⟩
def RX3 : String := "ThreeDoors$Plan"
def TX3 : u_T := fun k => match k with
  | 0 => ("ThreeDoors$Plan", "away", "[[I", true)
  | 1 => ("ThreeDoors$Plan", "beside", "[I", true)
  | 2 => ("ThreeDoors$Plan", "reach", "[I", true)
  | 3 => ("ThreeDoors$Plan", "serves", "[I", true)
  | 4 => ("ThreeDoors$Plan", "crowds", "[I", true)
  | 5 => ("ThreeDoors$Plan", "servedLow", "[I", true)
  | 6 => ("ThreeDoors$Plan", "servedHigh", "[I", true)
  | 7 => ("ThreeDoors$Plan", "crowdedLow", "[I", true)
  | 8 => ("ThreeDoors$Plan", "crowdedHigh", "[I", true)
  | 9 => ("ThreeDoors$Plan", "there", "I", false)
  | 10 => ("ThreeDoors$Plan", "must", "I", false)
  | _ => ("ThreeDoors$Plan", "can", "I", false)
def tyX3 : Nat → FieldType := fun k => match k with
  | 0 => .array (.array .int)
  | 1 => .array .int
  | 2 => .array .int
  | 3 => .array .int
  | 4 => .array .int
  | 5 => .array .int
  | 6 => .array .int
  | 7 => .array .int
  | 8 => .array .int
  | 9 => .int
  | 10 => .int
  | _ => .int
abbrev wsX30 : List Cond := u_ws RX3 TX3 12
theorem nmX3 : ∀ a, a < 12 → ∀ b, b < 12 → a ≠ b → (TX3 a).2.1 ≠ (TX3 b).2.1 := by decide +kernel
theorem tyX3_ok : ∀ k, k < 12 → parseFieldDescriptor (TX3 k).2.2.1 = some (tyX3 k) := by decide +kernel
abbrev cX3_init : ByteArray := prog_5_method_1_code
def yX3_init : MethodName := ⟨RX3, "<init>", "()V"⟩
abbrev cX3_lay : ByteArray := prog_5_method_2_code
def yX3_lay : MethodName := ⟨RX3, "lay", "(LThreeDoors$Town;LThreeDoors$Law;III)V"⟩
abbrev cX3_isThere : ByteArray := prog_5_method_3_code
def yX3_isThere : MethodName := ⟨RX3, "isThere", "(I)Z"⟩
abbrev cX3_link : ByteArray := prog_5_method_4_code
def yX3_link : MethodName := ⟨RX3, "link", "(I)V"⟩
abbrev cX3_walk : ByteArray := prog_5_method_5_code
def yX3_walk : MethodName := ⟨RX3, "walk", "(I)V"⟩
abbrev cX3_measure : ByteArray := prog_5_method_6_code
def yX3_measure : MethodName := ⟨RX3, "measure", "(II)V"⟩
abbrev cX3_gather : ByteArray := prog_5_method_7_code
def yX3_gather : MethodName := ⟨RX3, "gather", "([II[I)V"⟩
abbrev cX3_served : ByteArray := prog_5_method_8_code
def yX3_served : MethodName := ⟨RX3, "served", "(I)I"⟩
abbrev cX3_crowded : ByteArray := prog_5_method_9_code
def yX3_crowded : MethodName := ⟨RX3, "crowded", "(I)I"⟩
abbrev cX3_isServed : ByteArray := prog_5_method_10_code
def yX3_isServed : MethodName := ⟨RX3, "isServed", "(II)Z"⟩
abbrev cX3_isClear : ByteArray := prog_5_method_11_code
def yX3_isClear : MethodName := ⟨RX3, "isClear", "(II)Z"⟩
abbrev cX3_isLawful : ByteArray := prog_5_method_12_code
def yX3_isLawful : MethodName := ⟨RX3, "isLawful", "(I)Z"⟩
abbrev cX3_mayBe : ByteArray := prog_5_method_13_code
def yX3_mayBe : MethodName := ⟨RX3, "mayBe", "(I)Z"⟩
abbrev cX3_isEven : ByteArray := prog_5_method_14_code
def yX3_isEven : MethodName := ⟨RX3, "isEven", "(I)Z"⟩
abbrev cX3_judged : ByteArray := prog_5_method_15_code
def yX3_judged : MethodName := ⟨RX3, "judged", "(I)I"⟩
abbrev cX3_least : ByteArray := prog_5_method_16_code
def yX3_least : MethodName := ⟨RX3, "least", "(LThreeDoors$Town;II)I"⟩
abbrev cX3_weight : ByteArray := prog_5_method_17_code
def yX3_weight : MethodName := ⟨RX3, "weight", "(LThreeDoors$Town;III)I"⟩
abbrev cX3_priceOf : ByteArray := prog_5_method_18_code
def yX3_priceOf : MethodName := ⟨RX3, "priceOf", "(LThreeDoors$Town;I)I"⟩
abbrev cX3_nearest : ByteArray := prog_5_method_19_code
def yX3_nearest : MethodName := ⟨RX3, "nearest", "(II)I"⟩
def RX4 : String := "ThreeDoors$Shelf"
def TX4 : u_T := fun k => match k with
  | 0 => ("ThreeDoors$Shelf", "holds", "I", false)
  | 1 => ("ThreeDoors$Shelf", "body", "I", false)
  | 2 => ("ThreeDoors$Shelf", "sort", "I", false)
  | 3 => ("ThreeDoors$Shelf", "size", "I", false)
  | _ => ("ThreeDoors$Shelf", "elements", "[J", true)
def tyX4 : Nat → FieldType := fun k => match k with
  | 0 => .int
  | 1 => .int
  | 2 => .int
  | 3 => .int
  | _ => .array .long
abbrev wsX40 : List Cond := u_ws RX4 TX4 5
theorem nmX4 : ∀ a, a < 5 → ∀ b, b < 5 → a ≠ b → (TX4 a).2.1 ≠ (TX4 b).2.1 := by decide +kernel
theorem tyX4_ok : ∀ k, k < 5 → parseFieldDescriptor (TX4 k).2.2.1 = some (tyX4 k) := by decide +kernel
abbrev cX4_init : ByteArray := prog_6_method_1_code
def yX4_init : MethodName := ⟨RX4, "<init>", "()V"⟩
abbrev cX4_isRowOf : ByteArray := prog_6_method_2_code
def yX4_isRowOf : MethodName := ⟨RX4, "isRowOf", "(I)Z"⟩
abbrev cX4_becomeRow : ByteArray := prog_6_method_3_code
def yX4_becomeRow : MethodName := ⟨RX4, "becomeRow", "(II)V"⟩
abbrev cX4_hasRun : ByteArray := prog_6_method_4_code
def yX4_hasRun : MethodName := ⟨RX4, "hasRun", "(II)Z"⟩
abbrev cX4_lowestBits : ByteArray := prog_6_method_5_code
def yX4_lowestBits : MethodName := ⟨RX4, "lowestBits", "(J)J"⟩
def RX5 : String := "ThreeDoors$Town"
def TX5 : u_T := fun k => match k with
  | 0 => ("ThreeDoors$Town", "price", "[I", true)
  | 1 => ("ThreeDoors$Town", "year", "[I", true)
  | 2 => ("ThreeDoors$Town", "joinEnds", "[I", true)
  | 3 => ("ThreeDoors$Town", "wallEnds", "[I", true)
  | 4 => ("ThreeDoors$Town", "cost", "[I", true)
  | 5 => ("ThreeDoors$Town", "doors", "I", false)
  | 6 => ("ThreeDoors$Town", "joins", "I", false)
  | 7 => ("ThreeDoors$Town", "walls", "I", false)
  | 8 => ("ThreeDoors$Town", "oldWells", "I", false)
  | _ => ("ThreeDoors$Town", "apart", "I", false)
def tyX5 : Nat → FieldType := fun k => match k with
  | 0 => .array .int
  | 1 => .array .int
  | 2 => .array .int
  | 3 => .array .int
  | 4 => .array .int
  | 5 => .int
  | 6 => .int
  | 7 => .int
  | 8 => .int
  | _ => .int
abbrev wsX50 : List Cond := u_ws RX5 TX5 10
theorem nmX5 : ∀ a, a < 10 → ∀ b, b < 10 → a ≠ b → (TX5 a).2.1 ≠ (TX5 b).2.1 := by decide +kernel
theorem tyX5_ok : ∀ k, k < 10 → parseFieldDescriptor (TX5 k).2.2.1 = some (tyX5 k) := by decide +kernel
abbrev cX5_init : ByteArray := prog_7_method_1_code
def yX5_init : MethodName := ⟨RX5, "<init>", "()V"⟩
abbrev cX5_addDoor : ByteArray := prog_7_method_2_code
def yX5_addDoor : MethodName := ⟨RX5, "addDoor", "(II)I"⟩
abbrev cX5_addJoin : ByteArray := prog_7_method_3_code
def yX5_addJoin : MethodName := ⟨RX5, "addJoin", "(I)I"⟩
abbrev cX5_addWall : ByteArray := prog_7_method_4_code
def yX5_addWall : MethodName := ⟨RX5, "addWall", "(II)I"⟩
abbrev cX5_isDoor : ByteArray := prog_7_method_5_code
def yX5_isDoor : MethodName := ⟨RX5, "isDoor", "(I)Z"⟩
abbrev cX5_isWall : ByteArray := prog_7_method_6_code
def yX5_isWall : MethodName := ⟨RX5, "isWall", "(I)Z"⟩
abbrev cX5_areUnlike : ByteArray := prog_7_method_7_code
def yX5_areUnlike : MethodName := ⟨RX5, "areUnlike", "(II)Z"⟩
abbrev cX5_areDoors : ByteArray := prog_7_method_8_code
def yX5_areDoors : MethodName := ⟨RX5, "areDoors", "(I)Z"⟩
abbrev cX5_everyDoor : ByteArray := prog_7_method_9_code
def yX5_everyDoor : MethodName := ⟨RX5, "everyDoor", "()I"⟩
abbrev cX5_builtBy : ByteArray := prog_7_method_10_code
def yX5_builtBy : MethodName := ⟨RX5, "builtBy", "(I)I"⟩
abbrev cX5_soil : ByteArray := prog_7_method_11_code
def yX5_soil : MethodName := ⟨RX5, "soil", "()I"⟩
abbrev cX5_joinsAt : ByteArray := prog_7_method_12_code
def yX5_joinsAt : MethodName := ⟨RX5, "joinsAt", "(II)I"⟩
abbrev cX5_isEnd : ByteArray := prog_7_method_13_code
def yX5_isEnd : MethodName := ⟨RX5, "isEnd", "(II)Z"⟩
abbrev cX5_canBecome : ByteArray := prog_7_method_14_code
def yX5_canBecome : MethodName := ⟨RX5, "canBecome", "(III)Z"⟩
abbrev cX5_become : ByteArray := prog_7_method_15_code
def yX5_become : MethodName := ⟨RX5, "become", "(III)I"⟩
def RX6 : String := "ThreeDoors"
def TX6 : u_T := fun k => match k with
  | 0 => ("ThreeDoors", "town", "LThreeDoors$Town;", true)
  | 1 => ("ThreeDoors", "rule", "LThreeDoors$Law;", true)
  | 2 => ("ThreeDoors", "plan", "LThreeDoors$Plan;", true)
  | 3 => ("ThreeDoors", "changes", "LThreeDoors$Changes;", true)
  | 4 => ("ThreeDoors", "acts", "LThreeDoors$Acts;", true)
  | 5 => ("ThreeDoors", "shelves", "[LThreeDoors$Shelf;", true)
  | _ => ("ThreeDoors", "grown", "[Z", true)
def tyX6 : Nat → FieldType := fun k => match k with
  | 0 => .object "ThreeDoors$Town"
  | 1 => .object "ThreeDoors$Law"
  | 2 => .object "ThreeDoors$Plan"
  | 3 => .object "ThreeDoors$Changes"
  | 4 => .object "ThreeDoors$Acts"
  | 5 => .array (.object "ThreeDoors$Shelf")
  | _ => .array .boolean
abbrev wsX60 : List Cond := u_ws RX6 TX6 7
theorem nmX6 : ∀ a, a < 7 → ∀ b, b < 7 → a ≠ b → (TX6 a).2.1 ≠ (TX6 b).2.1 := by decide +kernel
theorem tyX6_ok : ∀ k, k < 7 → parseFieldDescriptor (TX6 k).2.2.1 = some (tyX6 k) := by decide +kernel
abbrev cX6_init : ByteArray := prog_1_method_1_code
def yX6_init : MethodName := ⟨RX6, "<init>", "()V"⟩
abbrev cX6_door : ByteArray := prog_1_method_2_code
def yX6_door : MethodName := ⟨RX6, "door", "(II)I"⟩
abbrev cX6_join : ByteArray := prog_1_method_3_code
def yX6_join : MethodName := ⟨RX6, "join", "(I)I"⟩
abbrev cX6_joins : ByteArray := prog_1_method_4_code
def yX6_joins : MethodName := ⟨RX6, "joins", "(III)I"⟩
abbrev cX6_wall : ByteArray := prog_1_method_5_code
def yX6_wall : MethodName := ⟨RX6, "wall", "(II)I"⟩
abbrev cX6_old : ByteArray := prog_1_method_6_code
def yX6_old : MethodName := ⟨RX6, "old", "(I)I"⟩
abbrev cX6_near : ByteArray := prog_1_method_7_code
def yX6_near : MethodName := ⟨RX6, "near", "(I)I"⟩
abbrev cX6_mend : ByteArray := prog_1_method_8_code
def yX6_mend : MethodName := ⟨RX6, "mend", "(III)I"⟩
abbrev cX6_of : ByteArray := prog_1_method_9_code
def yX6_of : MethodName := ⟨RX6, "of", "(II)I"⟩
abbrev cX6_feed : ByteArray := prog_1_method_10_code
def yX6_feed : MethodName := ⟨RX6, "feed", "(I)I"⟩
abbrev cX6_law : ByteArray := prog_1_method_11_code
def yX6_law : MethodName := ⟨RX6, "law", "()I"⟩
abbrev cX6_far : ByteArray := prog_1_method_12_code
def yX6_far : MethodName := ⟨RX6, "far", "(I)I"⟩
abbrev cX6_judge : ByteArray := prog_1_method_13_code
def yX6_judge : MethodName := ⟨RX6, "judge", "(I)I"⟩
abbrev cX6_best : ByteArray := prog_1_method_14_code
def yX6_best : MethodName := ⟨RX6, "best", "(I)I"⟩
abbrev cX6_all : ByteArray := prog_1_method_15_code
def yX6_all : MethodName := ⟨RX6, "all", "(I)I"⟩
abbrev cX6_even : ByteArray := prog_1_method_16_code
def yX6_even : MethodName := ⟨RX6, "even", "()I"⟩
abbrev cX6_greedy : ByteArray := prog_1_method_17_code
def yX6_greedy : MethodName := ⟨RX6, "greedy", "(I)I"⟩
abbrev cX6_dry : ByteArray := prog_1_method_18_code
def yX6_dry : MethodName := ⟨RX6, "dry", "(III)I"⟩
abbrev cX6_grow : ByteArray := prog_1_method_19_code
def yX6_grow : MethodName := ⟨RX6, "grow", "()I"⟩
abbrev cX6_breaks : ByteArray := prog_1_method_20_code
def yX6_breaks : MethodName := ⟨RX6, "breaks", "(I)I"⟩
abbrev cX6_goes : ByteArray := prog_1_method_21_code
def yX6_goes : MethodName := ⟨RX6, "goes", "(II)I"⟩
abbrev cX6_worth : ByteArray := prog_1_method_22_code
def yX6_worth : MethodName := ⟨RX6, "worth", "(II)I"⟩
abbrev cX6_steps : ByteArray := prog_1_method_23_code
def yX6_steps : MethodName := ⟨RX6, "steps", "(II)I"⟩
abbrev cX6_missed : ByteArray := prog_1_method_24_code
def yX6_missed : MethodName := ⟨RX6, "missed", "(I)I"⟩
abbrev cX6_stood : ByteArray := prog_1_method_25_code
def yX6_stood : MethodName := ⟨RX6, "stood", "(II)I"⟩
abbrev cX6_turn : ByteArray := prog_1_method_26_code
def yX6_turn : MethodName := ⟨RX6, "turn", "(II)I"⟩
abbrev cX6_undo : ByteArray := prog_1_method_27_code
def yX6_undo : MethodName := ⟨RX6, "undo", "()I"⟩
abbrev cX6_redo : ByteArray := prog_1_method_28_code
def yX6_redo : MethodName := ⟨RX6, "redo", "()I"⟩
abbrev cX6_body : ByteArray := prog_1_method_29_code
def yX6_body : MethodName := ⟨RX6, "body", "(I)I"⟩
abbrev cX6_act : ByteArray := prog_1_method_30_code
def yX6_act : MethodName := ⟨RX6, "act", "(III)I"⟩
abbrev cX6_trace : ByteArray := prog_1_method_31_code
def yX6_trace : MethodName := ⟨RX6, "trace", "(I)I"⟩
abbrev cX6_keep : ByteArray := prog_1_method_32_code
def yX6_keep : MethodName := ⟨RX6, "keep", "(II)I"⟩
abbrev cX6_row : ByteArray := prog_1_method_33_code
def yX6_row : MethodName := ⟨RX6, "row", "(III)I"⟩
abbrev cX6_put : ByteArray := prog_1_method_34_code
def yX6_put : MethodName := ⟨RX6, "put", "(IIJ)I"⟩
abbrev cX6_element : ByteArray := prog_1_method_35_code
def yX6_element : MethodName := ⟨RX6, "element", "(II)J"⟩
abbrev cX6_shift : ByteArray := prog_1_method_36_code
def yX6_shift : MethodName := ⟨RX6, "shift", "(IIIII)I"⟩
abbrev cX6_taken : ByteArray := prog_1_method_37_code
def yX6_taken : MethodName := ⟨RX6, "taken", "(II)I"⟩
abbrev cX6_count : ByteArray := prog_1_method_38_code
def yX6_count : MethodName := ⟨RX6, "count", "(I)I"⟩
abbrev cX6_isWithin : ByteArray := prog_1_method_39_code
def yX6_isWithin : MethodName := ⟨RX6, "isWithin", "(II)Z"⟩
abbrev cX6_isShelf : ByteArray := prog_1_method_40_code
def yX6_isShelf : MethodName := ⟨RX6, "isShelf", "(I)Z"⟩
abbrev cX6_isKind : ByteArray := prog_1_method_41_code
def yX6_isKind : MethodName := ⟨RX6, "isKind", "(I)Z"⟩
abbrev cX6_hasWell : ByteArray := prog_1_method_42_code
def yX6_hasWell : MethodName := ⟨RX6, "hasWell", "(II)Z"⟩
abbrev cX6_settle : ByteArray := prog_1_method_43_code
def yX6_settle : MethodName := ⟨RX6, "settle", "()V"⟩
abbrev cX6_ofDoor : ByteArray := prog_1_method_44_code
def yX6_ofDoor : MethodName := ⟨RX6, "ofDoor", "(II)I"⟩
abbrev cX6_joinsCome : ByteArray := prog_1_method_45_code
def yX6_joinsCome : MethodName := ⟨RX6, "joinsCome", "(LThreeDoors$Shelf;II)I"⟩
abbrev cX6_growLonger : ByteArray := prog_1_method_46_code
def yX6_growLonger : MethodName := ⟨RX6, "growLonger", "(I)V"⟩
abbrev cX6_fewestGrown : ByteArray := prog_1_method_47_code
def yX6_fewestGrown : MethodName := ⟨RX6, "fewestGrown", "(I)I"⟩
abbrev cX6_isToldFrom : ByteArray := prog_1_method_48_code
def yX6_isToldFrom : MethodName := ⟨RX6, "isToldFrom", "(IILThreeDoors$Shelf;)Z"⟩
abbrev cX6_refusalOf : ByteArray := prog_1_method_49_code
def yX6_refusalOf : MethodName := ⟨RX6, "refusalOf", "(II)I"⟩
def RX7 : String := "ThreeDoorsModel"
def TX7 : u_T := fun k => match k with
  | 0 => ("ThreeDoorsModel", "code", "I", false)
  | 1 => ("ThreeDoorsModel", "doors", "I", false)
  | 2 => ("ThreeDoorsModel", "price", "[I", true)
  | 3 => ("ThreeDoorsModel", "year", "[I", true)
  | 4 => ("ThreeDoorsModel", "joins", "I", false)
  | 5 => ("ThreeDoorsModel", "joinA", "[I", true)
  | 6 => ("ThreeDoorsModel", "joinB", "[I", true)
  | 7 => ("ThreeDoorsModel", "walls", "I", false)
  | 8 => ("ThreeDoorsModel", "wallA", "[I", true)
  | 9 => ("ThreeDoorsModel", "wallB", "[I", true)
  | 10 => ("ThreeDoorsModel", "cost", "[I", true)
  | 11 => ("ThreeDoorsModel", "olds", "I", false)
  | 12 => ("ThreeDoorsModel", "near", "I", false)
  | 13 => ("ThreeDoorsModel", "doneMany", "I", false)
  | 14 => ("ThreeDoorsModel", "undoneMany", "I", false)
  | 15 => ("ThreeDoorsModel", "changeOf", "[I", true)
  | 16 => ("ThreeDoorsModel", "changeAt", "[I", true)
  | 17 => ("ThreeDoorsModel", "before", "[I", true)
  | 18 => ("ThreeDoorsModel", "behind", "[I", true)
  | 19 => ("ThreeDoorsModel", "tape", "[B", true)
  | 20 => ("ThreeDoorsModel", "taped", "I", false)
  | 21 => ("ThreeDoorsModel", "here", "I", false)
  | 22 => ("ThreeDoorsModel", "fault", "I", false)
  | 23 => ("ThreeDoorsModel", "open", "I", false)
  | 24 => ("ThreeDoorsModel", "laid", "I", false)
  | 25 => ("ThreeDoorsModel", "act", "[B", true)
  | 26 => ("ThreeDoorsModel", "with", "[I", true)
  | 27 => ("ThreeDoorsModel", "lineMany", "[I", true)
  | 28 => ("ThreeDoorsModel", "testEnd", "[S", true)
  | 29 => ("ThreeDoorsModel", "lineEnd", "[S", true)
  | 30 => ("ThreeDoorsModel", "facts", "[I", true)
  | 31 => ("ThreeDoorsModel", "pile", "[I", true)
  | 32 => ("ThreeDoorsModel", "hasLaw", "Z", false)
  | 33 => ("ThreeDoorsModel", "far", "[I", true)
  | 34 => ("ThreeDoorsModel", "within", "[I", true)
  | 35 => ("ThreeDoorsModel", "tooNear", "[I", true)
  | 36 => ("ThreeDoorsModel", "dried", "I", false)
  | 37 => ("ThreeDoorsModel", "isOn", "[Z", true)
  | 38 => ("ThreeDoorsModel", "wasOn", "[Z", true)
  | 39 => ("ThreeDoorsModel", "bodies", "I", false)
  | 40 => ("ThreeDoorsModel", "kind", "[I", true)
  | 41 => ("ThreeDoorsModel", "traces", "I", false)
  | 42 => ("ThreeDoorsModel", "traced", "[I", true)
  | 43 => ("ThreeDoorsModel", "holds", "[I", true)
  | 44 => ("ThreeDoorsModel", "size", "[I", true)
  | 45 => ("ThreeDoorsModel", "elements", "[J", true)
  | _ => ("ThreeDoorsModel", "shifted", "[J", true)
def tyX7 : Nat → FieldType := fun k => match k with
  | 0 => .int
  | 1 => .int
  | 2 => .array .int
  | 3 => .array .int
  | 4 => .int
  | 5 => .array .int
  | 6 => .array .int
  | 7 => .int
  | 8 => .array .int
  | 9 => .array .int
  | 10 => .array .int
  | 11 => .int
  | 12 => .int
  | 13 => .int
  | 14 => .int
  | 15 => .array .int
  | 16 => .array .int
  | 17 => .array .int
  | 18 => .array .int
  | 19 => .array .byte
  | 20 => .int
  | 21 => .int
  | 22 => .int
  | 23 => .int
  | 24 => .int
  | 25 => .array .byte
  | 26 => .array .int
  | 27 => .array .int
  | 28 => .array .short
  | 29 => .array .short
  | 30 => .array .int
  | 31 => .array .int
  | 32 => .boolean
  | 33 => .array .int
  | 34 => .array .int
  | 35 => .array .int
  | 36 => .int
  | 37 => .array .boolean
  | 38 => .array .boolean
  | 39 => .int
  | 40 => .array .int
  | 41 => .int
  | 42 => .array .int
  | 43 => .array .int
  | 44 => .array .int
  | 45 => .array .long
  | _ => .array .long
abbrev wsX70 : List Cond := u_ws RX7 TX7 47
theorem nmX7 : ∀ a, a < 47 → ∀ b, b < 47 → a ≠ b → (TX7 a).2.1 ≠ (TX7 b).2.1 := by decide +kernel
theorem tyX7_ok : ∀ k, k < 47 → parseFieldDescriptor (TX7 k).2.2.1 = some (tyX7 k) := by decide +kernel
abbrev cX7_init : ByteArray := prog_9_method_1_code
def yX7_init : MethodName := ⟨RX7, "<init>", "()V"⟩
abbrev cX7_in : ByteArray := prog_9_method_3_code
def yX7_in : MethodName := ⟨RX7, "in", "(III)Z"⟩
abbrev cX7_held : ByteArray := prog_9_method_4_code
def yX7_held : MethodName := ⟨RX7, "held", "(III)I"⟩
abbrev cX7_bitsOf : ByteArray := prog_9_method_5_code
def yX7_bitsOf : MethodName := ⟨RX7, "bitsOf", "(I)I"⟩
abbrev cX7_isDoor : ByteArray := prog_9_method_6_code
def yX7_isDoor : MethodName := ⟨RX7, "isDoor", "(I)Z"⟩
abbrev cX7_areTwo : ByteArray := prog_9_method_7_code
def yX7_areTwo : MethodName := ⟨RX7, "areTwo", "(I)Z"⟩
abbrev cX7_isLaying : ByteArray := prog_9_method_8_code
def yX7_isLaying : MethodName := ⟨RX7, "isLaying", "(I)Z"⟩
abbrev cX7_door : ByteArray := prog_9_method_9_code
def yX7_door : MethodName := ⟨RX7, "door", "(II)I"⟩
abbrev cX7_addJoin : ByteArray := prog_9_method_10_code
def yX7_addJoin : MethodName := ⟨RX7, "addJoin", "(II)I"⟩
abbrev cX7_join : ByteArray := prog_9_method_11_code
def yX7_join : MethodName := ⟨RX7, "join", "(I)I"⟩
abbrev cX7_joins : ByteArray := prog_9_method_12_code
def yX7_joins : MethodName := ⟨RX7, "joins", "(III)I"⟩
abbrev cX7_wall : ByteArray := prog_9_method_13_code
def yX7_wall : MethodName := ⟨RX7, "wall", "(II)I"⟩
abbrev cX7_old : ByteArray := prog_9_method_14_code
def yX7_old : MethodName := ⟨RX7, "old", "(I)I"⟩
abbrev cX7_near : ByteArray := prog_9_method_15_code
def yX7_near : MethodName := ⟨RX7, "near", "(I)I"⟩
abbrev cX7_valueAt : ByteArray := prog_9_method_16_code
def yX7_valueAt : MethodName := ⟨RX7, "valueAt", "(II)I"⟩
abbrev cX7_lays : ByteArray := prog_9_method_17_code
def yX7_lays : MethodName := ⟨RX7, "lays", "(III)V"⟩
abbrev cX7_changes : ByteArray := prog_9_method_18_code
def yX7_changes : MethodName := ⟨RX7, "changes", "(III)I"⟩
abbrev cX7_undo : ByteArray := prog_9_method_19_code
def yX7_undo : MethodName := ⟨RX7, "undo", "()I"⟩
abbrev cX7_redo : ByteArray := prog_9_method_20_code
def yX7_redo : MethodName := ⟨RX7, "redo", "()I"⟩
abbrev cX7_mend : ByteArray := prog_9_method_21_code
def yX7_mend : MethodName := ⟨RX7, "mend", "(III)I"⟩
abbrev cX7_of : ByteArray := prog_9_method_22_code
def yX7_of : MethodName := ⟨RX7, "of", "(II)I"⟩
abbrev cX7_feed : ByteArray := prog_9_method_23_code
def yX7_feed : MethodName := ⟨RX7, "feed", "(I)I"⟩
abbrev cX7_look : ByteArray := prog_9_method_24_code
def yX7_look : MethodName := ⟨RX7, "look", "()I"⟩
abbrev cX7_faulty : ByteArray := prog_9_method_25_code
def yX7_faulty : MethodName := ⟨RX7, "faulty", "()V"⟩
abbrev cX7_addStep : ByteArray := prog_9_method_26_code
def yX7_addStep : MethodName := ⟨RX7, "addStep", "(II)V"⟩
abbrev cX7_nameOf : ByteArray := prog_9_method_27_code
def yX7_nameOf : MethodName := ⟨RX7, "nameOf", "(I)I"⟩
abbrev cX7_opens : ByteArray := prog_9_method_28_code
def yX7_opens : MethodName := ⟨RX7, "opens", "()Z"⟩
abbrev cX7_figure : ByteArray := prog_9_method_29_code
def yX7_figure : MethodName := ⟨RX7, "figure", "()V"⟩
abbrev cX7_operand : ByteArray := prog_9_method_30_code
def yX7_operand : MethodName := ⟨RX7, "operand", "()V"⟩
abbrev cX7_product : ByteArray := prog_9_method_31_code
def yX7_product : MethodName := ⟨RX7, "product", "()V"⟩
abbrev cX7_sum : ByteArray := prog_9_method_32_code
def yX7_sum : MethodName := ⟨RX7, "sum", "()V"⟩
abbrev cX7_compared : ByteArray := prog_9_method_33_code
def yX7_compared : MethodName := ⟨RX7, "compared", "()V"⟩
abbrev cX7_both : ByteArray := prog_9_method_34_code
def yX7_both : MethodName := ⟨RX7, "both", "()V"⟩
abbrev cX7_either : ByteArray := prog_9_method_35_code
def yX7_either : MethodName := ⟨RX7, "either", "()V"⟩
abbrev cX7_line : ByteArray := prog_9_method_36_code
def yX7_line : MethodName := ⟨RX7, "line", "()V"⟩
abbrev cX7_readText : ByteArray := prog_9_method_37_code
def yX7_readText : MethodName := ⟨RX7, "readText", "(I)I"⟩
abbrev cX7_twoOf : ByteArray := prog_9_method_38_code
def yX7_twoOf : MethodName := ⟨RX7, "twoOf", "(III)I"⟩
abbrev cX7_worked : ByteArray := prog_9_method_39_code
def yX7_worked : MethodName := ⟨RX7, "worked", "(III)I"⟩
abbrev cX7_gives : ByteArray := prog_9_method_40_code
def yX7_gives : MethodName := ⟨RX7, "gives", "(I)I"⟩
abbrev cX7_law : ByteArray := prog_9_method_41_code
def yX7_law : MethodName := ⟨RX7, "law", "()I"⟩
abbrev cX7_joinsOf : ByteArray := prog_9_method_42_code
def yX7_joinsOf : MethodName := ⟨RX7, "joinsOf", "(I)I"⟩
abbrev cX7_reachOf : ByteArray := prog_9_method_43_code
def yX7_reachOf : MethodName := ⟨RX7, "reachOf", "(I)I"⟩
abbrev cX7_findFar : ByteArray := prog_9_method_44_code
def yX7_findFar : MethodName := ⟨RX7, "findFar", "(I)V"⟩
abbrev cX7_allDoors : ByteArray := prog_9_method_45_code
def yX7_allDoors : MethodName := ⟨RX7, "allDoors", "()I"⟩
abbrev cX7_findAll : ByteArray := prog_9_method_46_code
def yX7_findAll : MethodName := ⟨RX7, "findAll", "(I)V"⟩
abbrev cX7_far : ByteArray := prog_9_method_47_code
def yX7_far : MethodName := ⟨RX7, "far", "(I)I"⟩
abbrev cX7_isLawful : ByteArray := prog_9_method_48_code
def yX7_isLawful : MethodName := ⟨RX7, "isLawful", "(II)Z"⟩
abbrev cX7_rock : ByteArray := prog_9_method_49_code
def yX7_rock : MethodName := ⟨RX7, "rock", "()I"⟩
abbrev cX7_mayBe : ByteArray := prog_9_method_50_code
def yX7_mayBe : MethodName := ⟨RX7, "mayBe", "(I)Z"⟩
abbrev cX7_judge : ByteArray := prog_9_method_51_code
def yX7_judge : MethodName := ⟨RX7, "judge", "(I)I"⟩
abbrev cX7_priceOf : ByteArray := prog_9_method_52_code
def yX7_priceOf : MethodName := ⟨RX7, "priceOf", "(I)I"⟩
abbrev cX7_rank : ByteArray := prog_9_method_53_code
def yX7_rank : MethodName := ⟨RX7, "rank", "(II)I"⟩
abbrev cX7_bestBy : ByteArray := prog_9_method_54_code
def yX7_bestBy : MethodName := ⟨RX7, "bestBy", "(I)I"⟩
abbrev cX7_best : ByteArray := prog_9_method_55_code
def yX7_best : MethodName := ⟨RX7, "best", "(I)I"⟩
abbrev cX7_all : ByteArray := prog_9_method_56_code
def yX7_all : MethodName := ⟨RX7, "all", "(I)I"⟩
abbrev cX7_isEven : ByteArray := prog_9_method_57_code
def yX7_isEven : MethodName := ⟨RX7, "isEven", "(I)Z"⟩
abbrev cX7_even : ByteArray := prog_9_method_58_code
def yX7_even : MethodName := ⟨RX7, "even", "()I"⟩
abbrev cX7_mayDig : ByteArray := prog_9_method_59_code
def yX7_mayDig : MethodName := ⟨RX7, "mayDig", "(II)Z"⟩
abbrev cX7_greedy : ByteArray := prog_9_method_60_code
def yX7_greedy : MethodName := ⟨RX7, "greedy", "(I)I"⟩
abbrev cX7_dry : ByteArray := prog_9_method_61_code
def yX7_dry : MethodName := ⟨RX7, "dry", "(III)I"⟩
abbrev cX7_thereIn : ByteArray := prog_9_method_62_code
def yX7_thereIn : MethodName := ⟨RX7, "thereIn", "(I)I"⟩
abbrev cX7_comesFrom : ByteArray := prog_9_method_63_code
def yX7_comesFrom : MethodName := ⟨RX7, "comesFrom", "(I)Z"⟩
abbrev cX7_grow : ByteArray := prog_9_method_64_code
def yX7_grow : MethodName := ⟨RX7, "grow", "()I"⟩
abbrev cX7_breaks : ByteArray := prog_9_method_65_code
def yX7_breaks : MethodName := ⟨RX7, "breaks", "(I)I"⟩
abbrev cX7_wellOf : ByteArray := prog_9_method_66_code
def yX7_wellOf : MethodName := ⟨RX7, "wellOf", "(II)I"⟩
abbrev cX7_goes : ByteArray := prog_9_method_67_code
def yX7_goes : MethodName := ⟨RX7, "goes", "(II)I"⟩
abbrev cX7_worth : ByteArray := prog_9_method_68_code
def yX7_worth : MethodName := ⟨RX7, "worth", "(II)I"⟩
abbrev cX7_steps : ByteArray := prog_9_method_69_code
def yX7_steps : MethodName := ⟨RX7, "steps", "(II)I"⟩
abbrev cX7_missed : ByteArray := prog_9_method_70_code
def yX7_missed : MethodName := ⟨RX7, "missed", "(I)I"⟩
abbrev cX7_stood : ByteArray := prog_9_method_71_code
def yX7_stood : MethodName := ⟨RX7, "stood", "(II)I"⟩
abbrev cX7_turn : ByteArray := prog_9_method_72_code
def yX7_turn : MethodName := ⟨RX7, "turn", "(II)I"⟩
abbrev cX7_isBody : ByteArray := prog_9_method_73_code
def yX7_isBody : MethodName := ⟨RX7, "isBody", "(I)Z"⟩
abbrev cX7_ran : ByteArray := prog_9_method_74_code
def yX7_ran : MethodName := ⟨RX7, "ran", "(I)V"⟩
abbrev cX7_trace : ByteArray := prog_9_method_75_code
def yX7_trace : MethodName := ⟨RX7, "trace", "(I)I"⟩
abbrev cX7_body : ByteArray := prog_9_method_76_code
def yX7_body : MethodName := ⟨RX7, "body", "(I)I"⟩
abbrev cX7_isUnder : ByteArray := prog_9_method_77_code
def yX7_isUnder : MethodName := ⟨RX7, "isUnder", "(II)Z"⟩
abbrev cX7_plainDigs : ByteArray := prog_9_method_78_code
def yX7_plainDigs : MethodName := ⟨RX7, "plainDigs", "(II)I"⟩
abbrev cX7_toldDigs : ByteArray := prog_9_method_79_code
def yX7_toldDigs : MethodName := ⟨RX7, "toldDigs", "(II)I"⟩
abbrev cX7_digs : ByteArray := prog_9_method_80_code
def yX7_digs : MethodName := ⟨RX7, "digs", "(II)I"⟩
abbrev cX7_plainReaches : ByteArray := prog_9_method_81_code
def yX7_plainReaches : MethodName := ⟨RX7, "plainReaches", "(II)I"⟩
abbrev cX7_evenReaches : ByteArray := prog_9_method_82_code
def yX7_evenReaches : MethodName := ⟨RX7, "evenReaches", "(II)I"⟩
abbrev cX7_reaches : ByteArray := prog_9_method_83_code
def yX7_reaches : MethodName := ⟨RX7, "reaches", "(II)I"⟩
abbrev cX7_plainNears : ByteArray := prog_9_method_84_code
def yX7_plainNears : MethodName := ⟨RX7, "plainNears", "(II)I"⟩
abbrev cX7_nears : ByteArray := prog_9_method_85_code
def yX7_nears : MethodName := ⟨RX7, "nears", "(II)I"⟩
abbrev cX7_plainTells : ByteArray := prog_9_method_86_code
def yX7_plainTells : MethodName := ⟨RX7, "plainTells", "(II)I"⟩
abbrev cX7_lineTells : ByteArray := prog_9_method_87_code
def yX7_lineTells : MethodName := ⟨RX7, "lineTells", "(II)I"⟩
abbrev cX7_telling : ByteArray := prog_9_method_88_code
def yX7_telling : MethodName := ⟨RX7, "telling", "(II)I"⟩
abbrev cX7_act : ByteArray := prog_9_method_89_code
def yX7_act : MethodName := ⟨RX7, "act", "(III)I"⟩
abbrev cX7_count : ByteArray := prog_9_method_90_code
def yX7_count : MethodName := ⟨RX7, "count", "(I)I"⟩
abbrev cX7_isShelf : ByteArray := prog_9_method_91_code
def yX7_isShelf : MethodName := ⟨RX7, "isShelf", "(I)Z"⟩
abbrev cX7_keep : ByteArray := prog_9_method_92_code
def yX7_keep : MethodName := ⟨RX7, "keep", "(II)I"⟩
abbrev cX7_row : ByteArray := prog_9_method_93_code
def yX7_row : MethodName := ⟨RX7, "row", "(III)I"⟩
abbrev cX7_whyNoPlace : ByteArray := prog_9_method_94_code
def yX7_whyNoPlace : MethodName := ⟨RX7, "whyNoPlace", "(II)I"⟩
abbrev cX7_put : ByteArray := prog_9_method_95_code
def yX7_put : MethodName := ⟨RX7, "put", "(IIJ)I"⟩
abbrev cX7_element : ByteArray := prog_9_method_96_code
def yX7_element : MethodName := ⟨RX7, "element", "(II)J"⟩
abbrev cX7_shift : ByteArray := prog_9_method_97_code
def yX7_shift : MethodName := ⟨RX7, "shift", "(IIIII)I"⟩
abbrev cX7_taken : ByteArray := prog_9_method_98_code
def yX7_taken : MethodName := ⟨RX7, "taken", "(II)I"⟩
def RJ6 : String := "java/lang/Integer"
def TJ6 : u_T := fun k => match k with
  | _ => ("", "", "", false)
def tyJ6 : Nat → FieldType := fun k => match k with
  | _ => .int
abbrev wsJ60 : List Cond := u_ws RJ6 TJ6 0
theorem nmJ6 : ∀ a, a < 0 → ∀ b, b < 0 → a ≠ b → (TJ6 a).2.1 ≠ (TJ6 b).2.1 := by decide +kernel
theorem tyJ6_ok : ∀ k, k < 0 → parseFieldDescriptor (TJ6 k).2.2.1 = some (tyJ6 k) := by decide +kernel
abbrev cJ6_bitCount_0f7a4 : ByteArray := prog_10_method_49_code
def yJ6_bitCount_0f7a4 : MethodName := ⟨RJ6, "bitCount", "(I)I"⟩
def RJ9 : String := "java/lang/Math"
def TJ9 : u_T := fun k => match k with
  | _ => ("", "", "", false)
def tyJ9 : Nat → FieldType := fun k => match k with
  | _ => .int
abbrev wsJ90 : List Cond := u_ws RJ9 TJ9 0
theorem nmJ9 : ∀ a, a < 0 → ∀ b, b < 0 → a ≠ b → (TJ9 a).2.1 ≠ (TJ9 b).2.1 := by decide +kernel
theorem tyJ9_ok : ∀ k, k < 0 → parseFieldDescriptor (TJ9 k).2.2.1 = some (tyJ9 k) := by decide +kernel
abbrev cJ9_max_7cf53 : ByteArray := prog_11_method_65_code
def yJ9_max_7cf53 : MethodName := ⟨RJ9, "max", "(II)I"⟩
abbrev cJ9_min_7cf53 : ByteArray := prog_11_method_69_code
def yJ9_min_7cf53 : MethodName := ⟨RJ9, "min", "(II)I"⟩
def RJ10 : String := "java/lang/System"
def TJ10 : u_T := fun k => match k with
  | _ => ("", "", "", false)
def tyJ10 : Nat → FieldType := fun k => match k with
  | _ => .int
abbrev wsJ100 : List Cond := u_ws RJ10 TJ10 0
theorem nmJ10 : ∀ a, a < 0 → ∀ b, b < 0 → a ≠ b → (TJ10 a).2.1 ≠ (TJ10 b).2.1 := by decide +kernel
theorem tyJ10_ok : ∀ k, k < 0 → parseFieldDescriptor (TJ10 k).2.2.1 = some (tyJ10 k) := by decide +kernel
def RL : String := "ThreeDoorsLaw"
abbrev cL_law : ByteArray := code
def yL_law : MethodName := ⟨RL, "law", "([I)Z"⟩
abbrev vwCl : List vw_C := [(RX0, TX0, 6), (RX1, TX1, 6), (RX2, TX2, 13), (RX3, TX3, 12), (RX4, TX4, 5), (RX5, TX5, 10), (RX6, TX6, 7), (RX7, TX7, 47)]

