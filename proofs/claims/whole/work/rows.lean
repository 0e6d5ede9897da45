section
-- ===== PART A: goes FIRST, ahead of the names: the tables' words, and 'selects' of the private methods out of them =====
/-- a private method of a class that the tables say can be made, by its rows of tables_1 -/
def lw_okq (q : MethodName × Nat) : Prop := (q.1.cls ≠ "java/lang/invoke/MethodHandle" ∧ q.1.cls ≠ "java/lang/invoke/VarHandle") ∧ Cond.instantiable q.1.cls q.2 ∈ tables_1 ∧ Cond.privateMethod q.1 ∈ tables_1 ∧ Cond.instanceMethod q.1 ∈ tables_1
theorem lw_p0 : lw_okq (⟨"MirrorTrue$Bench", "keepAsTold", "()V"⟩, 11) := ⟨⟨by decide +kernel, by decide +kernel⟩, List.mem_of_getElem? (i := 115) (by decide +kernel), List.mem_of_getElem? (i := 308) (by decide +kernel), List.mem_of_getElem? (i := 309) (by decide +kernel)⟩
theorem lw_p1 : lw_okq (⟨"MirrorTrue", "isZone", "(I)Z"⟩, 9) := ⟨⟨by decide +kernel, by decide +kernel⟩, List.mem_of_getElem? (i := 16) (by decide +kernel), List.mem_of_getElem? (i := 350) (by decide +kernel), List.mem_of_getElem? (i := 351) (by decide +kernel)⟩
theorem lw_p2 : lw_okq (⟨"MirrorTrue", "isStep", "(I)Z"⟩, 9) := ⟨⟨by decide +kernel, by decide +kernel⟩, List.mem_of_getElem? (i := 16) (by decide +kernel), List.mem_of_getElem? (i := 373) (by decide +kernel), List.mem_of_getElem? (i := 374) (by decide +kernel)⟩
theorem lw_p3 : lw_okq (⟨"MirrorTrue$Knives", "settle", "()V"⟩, 12) := ⟨⟨by decide +kernel, by decide +kernel⟩, List.mem_of_getElem? (i := 40) (by decide +kernel), List.mem_of_getElem? (i := 397) (by decide +kernel), List.mem_of_getElem? (i := 398) (by decide +kernel)⟩
theorem lw_p4 : lw_okq (⟨"MirrorTrue$Knives", "settleAgreements", "()V"⟩, 12) := ⟨⟨by decide +kernel, by decide +kernel⟩, List.mem_of_getElem? (i := 40) (by decide +kernel), List.mem_of_getElem? (i := 401) (by decide +kernel), List.mem_of_getElem? (i := 402) (by decide +kernel)⟩
theorem lw_p5 : lw_okq (⟨"MirrorTrue$Knives", "stepsOfAgreement", "(III)I"⟩, 12) := ⟨⟨by decide +kernel, by decide +kernel⟩, List.mem_of_getElem? (i := 40) (by decide +kernel), List.mem_of_getElem? (i := 405) (by decide +kernel), List.mem_of_getElem? (i := 406) (by decide +kernel)⟩
theorem lw_p6 : lw_okq (⟨"MirrorTrue$Knives", "settleShifts", "()V"⟩, 12) := ⟨⟨by decide +kernel, by decide +kernel⟩, List.mem_of_getElem? (i := 40) (by decide +kernel), List.mem_of_getElem? (i := 412) (by decide +kernel), List.mem_of_getElem? (i := 413) (by decide +kernel)⟩
theorem lw_p7 : lw_okq (⟨"MirrorTrue$Knives", "keptMore", "(II)I"⟩, 12) := ⟨⟨by decide +kernel, by decide +kernel⟩, List.mem_of_getElem? (i := 40) (by decide +kernel), List.mem_of_getElem? (i := 416) (by decide +kernel), List.mem_of_getElem? (i := 417) (by decide +kernel)⟩
theorem lw_p8 : lw_okq (⟨"MirrorTrue$Knives", "stepsTold", "()I"⟩, 12) := ⟨⟨by decide +kernel, by decide +kernel⟩, List.mem_of_getElem? (i := 40) (by decide +kernel), List.mem_of_getElem? (i := 430) (by decide +kernel), List.mem_of_getElem? (i := 431) (by decide +kernel)⟩
theorem lw_p9 : lw_okq (⟨"MirrorTrue$Knives", "leastStep", "(I)I"⟩, 12) := ⟨⟨by decide +kernel, by decide +kernel⟩, List.mem_of_getElem? (i := 40) (by decide +kernel), List.mem_of_getElem? (i := 434) (by decide +kernel), List.mem_of_getElem? (i := 435) (by decide +kernel)⟩
theorem lw_p10 : lw_okq (⟨"MirrorTrue$Knives", "servedBy", "(II)I"⟩, 12) := ⟨⟨by decide +kernel, by decide +kernel⟩, List.mem_of_getElem? (i := 40) (by decide +kernel), List.mem_of_getElem? (i := 438) (by decide +kernel), List.mem_of_getElem? (i := 439) (by decide +kernel)⟩
theorem lw_p11 : lw_okq (⟨"MirrorTrue$Knives", "settleProfiles", "()V"⟩, 12) := ⟨⟨by decide +kernel, by decide +kernel⟩, List.mem_of_getElem? (i := 40) (by decide +kernel), List.mem_of_getElem? (i := 442) (by decide +kernel), List.mem_of_getElem? (i := 443) (by decide +kernel)⟩
theorem lw_p12 : lw_okq (⟨"MirrorTrue$Bench", "isThere", "(I)Z"⟩, 11) := ⟨⟨by decide +kernel, by decide +kernel⟩, List.mem_of_getElem? (i := 115) (by decide +kernel), List.mem_of_getElem? (i := 527) (by decide +kernel), List.mem_of_getElem? (i := 528) (by decide +kernel)⟩
theorem lw_p13 : lw_okq (⟨"MirrorTrue$Planner", "settle", "(I)V"⟩, 9) := ⟨⟨by decide +kernel, by decide +kernel⟩, List.mem_of_getElem? (i := 156) (by decide +kernel), List.mem_of_getElem? (i := 575) (by decide +kernel), List.mem_of_getElem? (i := 576) (by decide +kernel)⟩
theorem lw_p14 : lw_okq (⟨"MirrorTrue$Planner", "begin", "(I)V"⟩, 9) := ⟨⟨by decide +kernel, by decide +kernel⟩, List.mem_of_getElem? (i := 156) (by decide +kernel), List.mem_of_getElem? (i := 583) (by decide +kernel), List.mem_of_getElem? (i := 584) (by decide +kernel)⟩
theorem lw_p15 : lw_okq (⟨"MirrorTrue$Planner", "costFrom", "(II)I"⟩, 9) := ⟨⟨by decide +kernel, by decide +kernel⟩, List.mem_of_getElem? (i := 156) (by decide +kernel), List.mem_of_getElem? (i := 597) (by decide +kernel), List.mem_of_getElem? (i := 598) (by decide +kernel)⟩
def lw_privs_1 : List (MethodName × Nat) := [(⟨"MirrorTrue$Bench", "keepAsTold", "()V"⟩, 11), (⟨"MirrorTrue", "isZone", "(I)Z"⟩, 9), (⟨"MirrorTrue", "isStep", "(I)Z"⟩, 9), (⟨"MirrorTrue$Knives", "settle", "()V"⟩, 12), (⟨"MirrorTrue$Knives", "settleAgreements", "()V"⟩, 12), (⟨"MirrorTrue$Knives", "stepsOfAgreement", "(III)I"⟩, 12), (⟨"MirrorTrue$Knives", "settleShifts", "()V"⟩, 12), (⟨"MirrorTrue$Knives", "keptMore", "(II)I"⟩, 12), (⟨"MirrorTrue$Knives", "stepsTold", "()I"⟩, 12), (⟨"MirrorTrue$Knives", "leastStep", "(I)I"⟩, 12), (⟨"MirrorTrue$Knives", "servedBy", "(II)I"⟩, 12), (⟨"MirrorTrue$Knives", "settleProfiles", "()V"⟩, 12), (⟨"MirrorTrue$Bench", "isThere", "(I)Z"⟩, 11), (⟨"MirrorTrue$Planner", "settle", "(I)V"⟩, 9), (⟨"MirrorTrue$Planner", "begin", "(I)V"⟩, 9), (⟨"MirrorTrue$Planner", "costFrom", "(II)I"⟩, 9)]
theorem lw_r1 : ∀ q ∈ lw_privs_1, lw_okq q := List.forall_mem_cons.mpr ⟨lw_p0, List.forall_mem_cons.mpr ⟨lw_p1, List.forall_mem_cons.mpr ⟨lw_p2, List.forall_mem_cons.mpr ⟨lw_p3, List.forall_mem_cons.mpr ⟨lw_p4, List.forall_mem_cons.mpr ⟨lw_p5, List.forall_mem_cons.mpr ⟨lw_p6, List.forall_mem_cons.mpr ⟨lw_p7, List.forall_mem_cons.mpr ⟨lw_p8, List.forall_mem_cons.mpr ⟨lw_p9, List.forall_mem_cons.mpr ⟨lw_p10, List.forall_mem_cons.mpr ⟨lw_p11, List.forall_mem_cons.mpr ⟨lw_p12, List.forall_mem_cons.mpr ⟨lw_p13, List.forall_mem_cons.mpr ⟨lw_p14, List.forall_mem_cons.mpr ⟨lw_p15, fun _ h => absurd h List.not_mem_nil⟩⟩⟩⟩⟩⟩⟩⟩⟩⟩⟩⟩⟩⟩⟩⟩
theorem lw_p16 : lw_okq (⟨"MirrorTrue$Planner", "leastCost", "(II)I"⟩, 9) := ⟨⟨by decide +kernel, by decide +kernel⟩, List.mem_of_getElem? (i := 156) (by decide +kernel), List.mem_of_getElem? (i := 601) (by decide +kernel), List.mem_of_getElem? (i := 602) (by decide +kernel)⟩
theorem lw_p17 : lw_okq (⟨"MirrorTrue$Planner", "leftAt", "(II)I"⟩, 9) := ⟨⟨by decide +kernel, by decide +kernel⟩, List.mem_of_getElem? (i := 156) (by decide +kernel), List.mem_of_getElem? (i := 605) (by decide +kernel), List.mem_of_getElem? (i := 606) (by decide +kernel)⟩
theorem lw_p18 : lw_okq (⟨"MirrorTrue$Planner", "costWith", "(IIII)I"⟩, 9) := ⟨⟨by decide +kernel, by decide +kernel⟩, List.mem_of_getElem? (i := 156) (by decide +kernel), List.mem_of_getElem? (i := 609) (by decide +kernel), List.mem_of_getElem? (i := 610) (by decide +kernel)⟩
theorem lw_p19 : lw_okq (⟨"MirrorTrue$Planner", "traceMinutes", "([I)V"⟩, 9) := ⟨⟨by decide +kernel, by decide +kernel⟩, List.mem_of_getElem? (i := 156) (by decide +kernel), List.mem_of_getElem? (i := 619) (by decide +kernel), List.mem_of_getElem? (i := 620) (by decide +kernel)⟩
theorem lw_p20 : lw_okq (⟨"MirrorTrue$Rings", "settle", "()V"⟩, 7) := ⟨⟨by decide +kernel, by decide +kernel⟩, List.mem_of_getElem? (i := 192) (by decide +kernel), List.mem_of_getElem? (i := 668) (by decide +kernel), List.mem_of_getElem? (i := 669) (by decide +kernel)⟩
theorem lw_p21 : lw_okq (⟨"MirrorTrue$Rings", "place", "(III)V"⟩, 7) := ⟨⟨by decide +kernel, by decide +kernel⟩, List.mem_of_getElem? (i := 192) (by decide +kernel), List.mem_of_getElem? (i := 672) (by decide +kernel), List.mem_of_getElem? (i := 673) (by decide +kernel)⟩
theorem lw_p22 : lw_okq (⟨"MirrorTrue$Rings", "keepIfBetter", "(II)V"⟩, 7) := ⟨⟨by decide +kernel, by decide +kernel⟩, List.mem_of_getElem? (i := 192) (by decide +kernel), List.mem_of_getElem? (i := 676) (by decide +kernel), List.mem_of_getElem? (i := 677) (by decide +kernel)⟩
theorem lw_p23 : lw_okq (⟨"MirrorTrue$Rings", "spreadOf", "([I)I"⟩, 7) := ⟨⟨by decide +kernel, by decide +kernel⟩, List.mem_of_getElem? (i := 192) (by decide +kernel), List.mem_of_getElem? (i := 680) (by decide +kernel), List.mem_of_getElem? (i := 681) (by decide +kernel)⟩
theorem lw_p24 : lw_okq (⟨"MirrorTrue$Rings", "placeShare", "(IIII)V"⟩, 7) := ⟨⟨by decide +kernel, by decide +kernel⟩, List.mem_of_getElem? (i := 192) (by decide +kernel), List.mem_of_getElem? (i := 688) (by decide +kernel), List.mem_of_getElem? (i := 689) (by decide +kernel)⟩
theorem lw_p25 : lw_okq (⟨"MirrorTrue$Shells", "goOneMinute", "([I)Z"⟩, 3) := ⟨⟨by decide +kernel, by decide +kernel⟩, List.mem_of_getElem? (i := 221) (by decide +kernel), List.mem_of_getElem? (i := 716) (by decide +kernel), List.mem_of_getElem? (i := 717) (by decide +kernel)⟩
theorem lw_p26 : lw_okq (⟨"MirrorTrue$Grits", "settle", "()V"⟩, 6) := ⟨⟨by decide +kernel, by decide +kernel⟩, List.mem_of_getElem? (i := 237) (by decide +kernel), List.mem_of_getElem? (i := 773) (by decide +kernel), List.mem_of_getElem? (i := 774) (by decide +kernel)⟩
theorem lw_p27 : lw_okq (⟨"MirrorTrue$Grits", "bring", "(II)V"⟩, 6) := ⟨⟨by decide +kernel, by decide +kernel⟩, List.mem_of_getElem? (i := 237) (by decide +kernel), List.mem_of_getElem? (i := 778) (by decide +kernel), List.mem_of_getElem? (i := 779) (by decide +kernel)⟩
theorem lw_p28 : lw_okq (⟨"MirrorTrue$Grits", "bringFrom", "(III)V"⟩, 6) := ⟨⟨by decide +kernel, by decide +kernel⟩, List.mem_of_getElem? (i := 237) (by decide +kernel), List.mem_of_getElem? (i := 782) (by decide +kernel), List.mem_of_getElem? (i := 783) (by decide +kernel)⟩
theorem lw_p29 : lw_okq (⟨"MirrorTrue$Grits", "clears", "(II)Z"⟩, 6) := ⟨⟨by decide +kernel, by decide +kernel⟩, List.mem_of_getElem? (i := 237) (by decide +kernel), List.mem_of_getElem? (i := 786) (by decide +kernel), List.mem_of_getElem? (i := 787) (by decide +kernel)⟩
theorem lw_p30 : lw_okq (⟨"MirrorTrue$Grits", "fewestWithin", "(III)I"⟩, 6) := ⟨⟨by decide +kernel, by decide +kernel⟩, List.mem_of_getElem? (i := 237) (by decide +kernel), List.mem_of_getElem? (i := 791) (by decide +kernel), List.mem_of_getElem? (i := 792) (by decide +kernel)⟩
theorem lw_p31 : lw_okq (⟨"MirrorTrue$Grits", "mostThatServe", "(IIII)I"⟩, 6) := ⟨⟨by decide +kernel, by decide +kernel⟩, List.mem_of_getElem? (i := 237) (by decide +kernel), List.mem_of_getElem? (i := 801) (by decide +kernel), List.mem_of_getElem? (i := 802) (by decide +kernel)⟩
def lw_privs_2 : List (MethodName × Nat) := [(⟨"MirrorTrue$Planner", "leastCost", "(II)I"⟩, 9), (⟨"MirrorTrue$Planner", "leftAt", "(II)I"⟩, 9), (⟨"MirrorTrue$Planner", "costWith", "(IIII)I"⟩, 9), (⟨"MirrorTrue$Planner", "traceMinutes", "([I)V"⟩, 9), (⟨"MirrorTrue$Rings", "settle", "()V"⟩, 7), (⟨"MirrorTrue$Rings", "place", "(III)V"⟩, 7), (⟨"MirrorTrue$Rings", "keepIfBetter", "(II)V"⟩, 7), (⟨"MirrorTrue$Rings", "spreadOf", "([I)I"⟩, 7), (⟨"MirrorTrue$Rings", "placeShare", "(IIII)V"⟩, 7), (⟨"MirrorTrue$Shells", "goOneMinute", "([I)Z"⟩, 3), (⟨"MirrorTrue$Grits", "settle", "()V"⟩, 6), (⟨"MirrorTrue$Grits", "bring", "(II)V"⟩, 6), (⟨"MirrorTrue$Grits", "bringFrom", "(III)V"⟩, 6), (⟨"MirrorTrue$Grits", "clears", "(II)Z"⟩, 6), (⟨"MirrorTrue$Grits", "fewestWithin", "(III)I"⟩, 6), (⟨"MirrorTrue$Grits", "mostThatServe", "(IIII)I"⟩, 6)]
theorem lw_r2 : ∀ q ∈ lw_privs_2, lw_okq q := List.forall_mem_cons.mpr ⟨lw_p16, List.forall_mem_cons.mpr ⟨lw_p17, List.forall_mem_cons.mpr ⟨lw_p18, List.forall_mem_cons.mpr ⟨lw_p19, List.forall_mem_cons.mpr ⟨lw_p20, List.forall_mem_cons.mpr ⟨lw_p21, List.forall_mem_cons.mpr ⟨lw_p22, List.forall_mem_cons.mpr ⟨lw_p23, List.forall_mem_cons.mpr ⟨lw_p24, List.forall_mem_cons.mpr ⟨lw_p25, List.forall_mem_cons.mpr ⟨lw_p26, List.forall_mem_cons.mpr ⟨lw_p27, List.forall_mem_cons.mpr ⟨lw_p28, List.forall_mem_cons.mpr ⟨lw_p29, List.forall_mem_cons.mpr ⟨lw_p30, List.forall_mem_cons.mpr ⟨lw_p31, fun _ h => absurd h List.not_mem_nil⟩⟩⟩⟩⟩⟩⟩⟩⟩⟩⟩⟩⟩⟩⟩⟩
theorem lw_p32 : lw_okq (⟨"MirrorTrueModel", "begins", "(I)V"⟩, 37) := ⟨⟨by decide +kernel, by decide +kernel⟩, List.mem_of_getElem? (i := 814) (by decide +kernel), List.mem_of_getElem? (i := 821) (by decide +kernel), List.mem_of_getElem? (i := 822) (by decide +kernel)⟩
theorem lw_p33 : lw_okq (⟨"MirrorTrueModel", "isZone", "(I)Z"⟩, 37) := ⟨⟨by decide +kernel, by decide +kernel⟩, List.mem_of_getElem? (i := 814) (by decide +kernel), List.mem_of_getElem? (i := 963) (by decide +kernel), List.mem_of_getElem? (i := 964) (by decide +kernel)⟩
theorem lw_p34 : lw_okq (⟨"MirrorTrueModel", "joins", "()I"⟩, 37) := ⟨⟨by decide +kernel, by decide +kernel⟩, List.mem_of_getElem? (i := 814) (by decide +kernel), List.mem_of_getElem? (i := 986) (by decide +kernel), List.mem_of_getElem? (i := 987) (by decide +kernel)⟩
theorem lw_p35 : lw_okq (⟨"MirrorTrueModel", "dropped", "(I)I"⟩, 37) := ⟨⟨by decide +kernel, by decide +kernel⟩, List.mem_of_getElem? (i := 814) (by decide +kernel), List.mem_of_getElem? (i := 990) (by decide +kernel), List.mem_of_getElem? (i := 991) (by decide +kernel)⟩
theorem lw_p36 : lw_okq (⟨"MirrorTrueModel", "isRead", "(II)Z"⟩, 37) := ⟨⟨by decide +kernel, by decide +kernel⟩, List.mem_of_getElem? (i := 814) (by decide +kernel), List.mem_of_getElem? (i := 994) (by decide +kernel), List.mem_of_getElem? (i := 995) (by decide +kernel)⟩
theorem lw_p37 : lw_okq (⟨"MirrorTrueModel", "shifted", "(II)I"⟩, 37) := ⟨⟨by decide +kernel, by decide +kernel⟩, List.mem_of_getElem? (i := 814) (by decide +kernel), List.mem_of_getElem? (i := 998) (by decide +kernel), List.mem_of_getElem? (i := 999) (by decide +kernel)⟩
theorem lw_p38 : lw_okq (⟨"MirrorTrueModel", "holds", "(II)I"⟩, 37) := ⟨⟨by decide +kernel, by decide +kernel⟩, List.mem_of_getElem? (i := 814) (by decide +kernel), List.mem_of_getElem? (i := 1002) (by decide +kernel), List.mem_of_getElem? (i := 1003) (by decide +kernel)⟩
theorem lw_p39 : lw_okq (⟨"MirrorTrueModel", "profileOf", "(I)I"⟩, 37) := ⟨⟨by decide +kernel, by decide +kernel⟩, List.mem_of_getElem? (i := 814) (by decide +kernel), List.mem_of_getElem? (i := 1018) (by decide +kernel), List.mem_of_getElem? (i := 1019) (by decide +kernel)⟩
theorem lw_p40 : lw_okq (⟨"MirrorTrueModel", "offOf", "(I)I"⟩, 37) := ⟨⟨by decide +kernel, by decide +kernel⟩, List.mem_of_getElem? (i := 814) (by decide +kernel), List.mem_of_getElem? (i := 1031) (by decide +kernel), List.mem_of_getElem? (i := 1032) (by decide +kernel)⟩
theorem lw_p41 : lw_okq (⟨"MirrorTrueModel", "pullOf", "(II)I"⟩, 37) := ⟨⟨by decide +kernel, by decide +kernel⟩, List.mem_of_getElem? (i := 814) (by decide +kernel), List.mem_of_getElem? (i := 1047) (by decide +kernel), List.mem_of_getElem? (i := 1048) (by decide +kernel)⟩
theorem lw_p42 : lw_okq (⟨"MirrorTrueModel", "lays", "(III)V"⟩, 37) := ⟨⟨by decide +kernel, by decide +kernel⟩, List.mem_of_getElem? (i := 814) (by decide +kernel), List.mem_of_getElem? (i := 1053) (by decide +kernel), List.mem_of_getElem? (i := 1054) (by decide +kernel)⟩
theorem lw_p43 : lw_okq (⟨"MirrorTrueModel", "plans", "(I)I"⟩, 37) := ⟨⟨by decide +kernel, by decide +kernel⟩, List.mem_of_getElem? (i := 814) (by decide +kernel), List.mem_of_getElem? (i := 1069) (by decide +kernel), List.mem_of_getElem? (i := 1070) (by decide +kernel)⟩
theorem lw_p44 : lw_okq (⟨"MirrorTrueModel", "costs", "(I)V"⟩, 37) := ⟨⟨by decide +kernel, by decide +kernel⟩, List.mem_of_getElem? (i := 814) (by decide +kernel), List.mem_of_getElem? (i := 1073) (by decide +kernel), List.mem_of_getElem? (i := 1074) (by decide +kernel)⟩
theorem lw_p45 : lw_okq (⟨"MirrorTrueModel", "most", "(I)I"⟩, 37) := ⟨⟨by decide +kernel, by decide +kernel⟩, List.mem_of_getElem? (i := 814) (by decide +kernel), List.mem_of_getElem? (i := 1077) (by decide +kernel), List.mem_of_getElem? (i := 1078) (by decide +kernel)⟩
theorem lw_p46 : lw_okq (⟨"MirrorTrueModel", "isRight", "(IIII)Z"⟩, 37) := ⟨⟨by decide +kernel, by decide +kernel⟩, List.mem_of_getElem? (i := 814) (by decide +kernel), List.mem_of_getElem? (i := 1081) (by decide +kernel), List.mem_of_getElem? (i := 1082) (by decide +kernel)⟩
theorem lw_p47 : lw_okq (⟨"MirrorTrueModel", "spreads", "()V"⟩, 37) := ⟨⟨by decide +kernel, by decide +kernel⟩, List.mem_of_getElem? (i := 814) (by decide +kernel), List.mem_of_getElem? (i := 1107) (by decide +kernel), List.mem_of_getElem? (i := 1108) (by decide +kernel)⟩
def lw_privs_3 : List (MethodName × Nat) := [(⟨"MirrorTrueModel", "begins", "(I)V"⟩, 37), (⟨"MirrorTrueModel", "isZone", "(I)Z"⟩, 37), (⟨"MirrorTrueModel", "joins", "()I"⟩, 37), (⟨"MirrorTrueModel", "dropped", "(I)I"⟩, 37), (⟨"MirrorTrueModel", "isRead", "(II)Z"⟩, 37), (⟨"MirrorTrueModel", "shifted", "(II)I"⟩, 37), (⟨"MirrorTrueModel", "holds", "(II)I"⟩, 37), (⟨"MirrorTrueModel", "profileOf", "(I)I"⟩, 37), (⟨"MirrorTrueModel", "offOf", "(I)I"⟩, 37), (⟨"MirrorTrueModel", "pullOf", "(II)I"⟩, 37), (⟨"MirrorTrueModel", "lays", "(III)V"⟩, 37), (⟨"MirrorTrueModel", "plans", "(I)I"⟩, 37), (⟨"MirrorTrueModel", "costs", "(I)V"⟩, 37), (⟨"MirrorTrueModel", "most", "(I)I"⟩, 37), (⟨"MirrorTrueModel", "isRight", "(IIII)Z"⟩, 37), (⟨"MirrorTrueModel", "spreads", "()V"⟩, 37)]
theorem lw_r3 : ∀ q ∈ lw_privs_3, lw_okq q := List.forall_mem_cons.mpr ⟨lw_p32, List.forall_mem_cons.mpr ⟨lw_p33, List.forall_mem_cons.mpr ⟨lw_p34, List.forall_mem_cons.mpr ⟨lw_p35, List.forall_mem_cons.mpr ⟨lw_p36, List.forall_mem_cons.mpr ⟨lw_p37, List.forall_mem_cons.mpr ⟨lw_p38, List.forall_mem_cons.mpr ⟨lw_p39, List.forall_mem_cons.mpr ⟨lw_p40, List.forall_mem_cons.mpr ⟨lw_p41, List.forall_mem_cons.mpr ⟨lw_p42, List.forall_mem_cons.mpr ⟨lw_p43, List.forall_mem_cons.mpr ⟨lw_p44, List.forall_mem_cons.mpr ⟨lw_p45, List.forall_mem_cons.mpr ⟨lw_p46, List.forall_mem_cons.mpr ⟨lw_p47, fun _ h => absurd h List.not_mem_nil⟩⟩⟩⟩⟩⟩⟩⟩⟩⟩⟩⟩⟩⟩⟩⟩
theorem lw_p48 : lw_okq (⟨"MirrorTrueModel", "passes", "()V"⟩, 37) := ⟨⟨by decide +kernel, by decide +kernel⟩, List.mem_of_getElem? (i := 814) (by decide +kernel), List.mem_of_getElem? (i := 1119) (by decide +kernel), List.mem_of_getElem? (i := 1120) (by decide +kernel)⟩
theorem lw_p49 : lw_okq (⟨"MirrorTrueModel", "apart", "(I)I"⟩, 37) := ⟨⟨by decide +kernel, by decide +kernel⟩, List.mem_of_getElem? (i := 814) (by decide +kernel), List.mem_of_getElem? (i := 1126) (by decide +kernel), List.mem_of_getElem? (i := 1127) (by decide +kernel)⟩
theorem lw_p50 : lw_okq (⟨"MirrorTrueModel", "wetsBy", "(I)V"⟩, 37) := ⟨⟨by decide +kernel, by decide +kernel⟩, List.mem_of_getElem? (i := 814) (by decide +kernel), List.mem_of_getElem? (i := 1150) (by decide +kernel), List.mem_of_getElem? (i := 1151) (by decide +kernel)⟩
theorem lw_p51 : lw_okq (⟨"MirrorTrueModel", "with", "(IIIII)I"⟩, 37) := ⟨⟨by decide +kernel, by decide +kernel⟩, List.mem_of_getElem? (i := 814) (by decide +kernel), List.mem_of_getElem? (i := 1154) (by decide +kernel), List.mem_of_getElem? (i := 1155) (by decide +kernel)⟩
def lw_privs_4 : List (MethodName × Nat) := [(⟨"MirrorTrueModel", "passes", "()V"⟩, 37), (⟨"MirrorTrueModel", "apart", "(I)I"⟩, 37), (⟨"MirrorTrueModel", "wetsBy", "(I)V"⟩, 37), (⟨"MirrorTrueModel", "with", "(IIIII)I"⟩, 37)]
theorem lw_r4 : ∀ q ∈ lw_privs_4, lw_okq q := List.forall_mem_cons.mpr ⟨lw_p48, List.forall_mem_cons.mpr ⟨lw_p49, List.forall_mem_cons.mpr ⟨lw_p50, List.forall_mem_cons.mpr ⟨lw_p51, fun _ h => absurd h List.not_mem_nil⟩⟩⟩⟩
def lw_privs : List (MethodName × Nat) := lw_privs_1 ++ (lw_privs_2 ++ (lw_privs_3 ++ (lw_privs_4)))
def lw_tbl : List Cond := k2_sels lw_privs ++ tables_1
theorem lw_privs_ok : ∀ q ∈ lw_privs, lw_okq q := by
  show ∀ q ∈ lw_privs_1 ++ (lw_privs_2 ++ (lw_privs_3 ++ (lw_privs_4))), lw_okq q
  exact List.forall_mem_append.mpr ⟨lw_r1, List.forall_mem_append.mpr ⟨lw_r2, List.forall_mem_append.mpr ⟨lw_r3, lw_r4⟩⟩⟩
-- ===== end of PART A; then your names; then what follows =====
end
section
/-! ===== BEGIN words of one list among another's, by their places ===== -/
theorem goodIn_r {big : List Cond} (ws : List Cond) (ps : List Nat) (hp : ws = ps.filterMap (fun i => big[i]?)) (h : ws.all goodWord = true) : GoodIn big ws := by
  intro w hw
  have h1 := List.all_eq_true.mp h w hw
  rw [hp] at hw
  obtain ⟨i, -, hi⟩ := List.mem_filterMap.mp hw
  have hm : w ∈ big := by first | exact List.mem_of_getElem? hi | exact List.getElem?_mem hi
  exact ⟨hm, good_of_word h1⟩
theorem goodIn_app {big a b : List Cond} (ha : GoodIn big a) (hb : GoodIn big b) : GoodIn big (a ++ b) := fun w h => (List.mem_append.mp h).elim (ha w) (hb w)
theorem goodIn_ca {big a b : List Cond} {c : Cond} (ha : GoodIn big (c :: a)) (hb : GoodIn big b) : GoodIn big (c :: (a ++ b)) := fun w h => (List.mem_cons.mp h).elim (fun e => ha w (List.mem_cons.mpr (Or.inl e))) (fun h => (List.mem_append.mp h).elim (fun h => ha w (List.mem_cons.mpr (Or.inr h))) (hb w))
theorem goodIn_sub {big ws : List Cond} (hm : ∀ w ∈ ws, w ∈ big) (h : ws.all goodWord = true) : GoodIn big ws := fun w hw => ⟨hm w hw, good_of_word (List.all_eq_true.mp h w hw)⟩
/-! ===== END ===== -/

theorem vr_outer (c : ClassId) (N h0 : Nat) : ∀ i : Nat, Jvm.Free.Multi.outerC c N h0 i = arrV c N (fun j => va_rf (if j < i then some (h0 + 1 + j) else none))
  | 0 => by
    show ({ cls := c, slots := Array.replicate N .null, vm := .none } : Cell) = _
    rw [arrV_new]
    refine congrArg (arrV c N) (funext fun j => ?_)
    simp [va_rf]
  | i + 1 => by
    show (Jvm.Free.Multi.outerC c N h0 i).setSlot i (.ref (h0 + 1 + i)) = _
    rw [vr_outer c N h0 i, arrV_store]
    refine congrArg (arrV c N) (funext fun j => ?_)
    by_cases e : j = i
    · subst e
      simp [updV, va_rf]
    · by_cases h : j < i
      · simp [updV, e, h, Nat.lt_succ_of_lt h]
      · simp [updV, e, h, show ¬ j < i + 1 by omega]

def RX0 : String := "MirrorTrue$Bench"
def TX0 : u_T := fun k => match k with
  | 0 => ("MirrorTrue$Bench", "heights", "[I", true)
  | 1 => ("MirrorTrue$Bench", "toldHeights", "[I", true)
  | 2 => ("MirrorTrue$Bench", "pulls", "[[I", true)
  | 3 => ("MirrorTrue$Bench", "strokeTools", "[I", true)
  | 4 => ("MirrorTrue$Bench", "strokeZones", "[I", true)
  | 5 => ("MirrorTrue$Bench", "strokeMinutes", "[I", true)
  | 6 => ("MirrorTrue$Bench", "taken", "[[I", true)
  | 7 => ("MirrorTrue$Bench", "zones", "I", false)
  | 8 => ("MirrorTrue$Bench", "strokes", "I", false)
  | 9 => ("MirrorTrue$Bench", "rest", "I", false)
  | _ => ("MirrorTrue$Bench", "changes", "I", false)
def tyX0 : Nat → FieldType := fun k => match k with
  | 0 => .array .int
  | 1 => .array .int
  | 2 => .array (.array .int)
  | 3 => .array .int
  | 4 => .array .int
  | 5 => .array .int
  | 6 => .array (.array .int)
  | 7 => .int
  | 8 => .int
  | 9 => .int
  | _ => .int
theorem nmX0 : ∀ a, a < 11 → ∀ b, b < 11 → a ≠ b → (TX0 a).2.1 ≠ (TX0 b).2.1 := by decide +kernel
theorem tyX0_ok : ∀ k, k < 11 → parseFieldDescriptor (TX0 k).2.2.1 = some (tyX0 k) := by decide +kernel
abbrev cX0_init : ByteArray := prog_2_method_1_code
def yX0_init : MethodName := ⟨RX0, "<init>", "()V"⟩
abbrev cX0_begin : ByteArray := prog_2_method_2_code
def yX0_begin : MethodName := ⟨RX0, "begin", "(I)V"⟩
abbrev cX0_keepAsTold : ByteArray := prog_2_method_3_code
def yX0_keepAsTold : MethodName := ⟨RX0, "keepAsTold", "()V"⟩
abbrev cX0_tellHeight : ByteArray := prog_2_method_4_code
def yX0_tellHeight : MethodName := ⟨RX0, "tellHeight", "(II)I"⟩
abbrev cX0_tellPull : ByteArray := prog_2_method_5_code
def yX0_tellPull : MethodName := ⟨RX0, "tellPull", "(III)I"⟩
abbrev cX0_tellRest : ByteArray := prog_2_method_6_code
def yX0_tellRest : MethodName := ⟨RX0, "tellRest", "(I)I"⟩
abbrev cX0_howManyZones : ByteArray := prog_2_method_7_code
def yX0_howManyZones : MethodName := ⟨RX0, "howManyZones", "()I"⟩
abbrev cX0_heightOf : ByteArray := prog_2_method_8_code
def yX0_heightOf : MethodName := ⟨RX0, "heightOf", "(I)I"⟩
abbrev cX0_pullOf : ByteArray := prog_2_method_9_code
def yX0_pullOf : MethodName := ⟨RX0, "pullOf", "(II)I"⟩
abbrev cX0_restOf : ByteArray := prog_2_method_10_code
def yX0_restOf : MethodName := ⟨RX0, "restOf", "()I"⟩
abbrev cX0_howManyChanges : ByteArray := prog_2_method_11_code
def yX0_howManyChanges : MethodName := ⟨RX0, "howManyChanges", "()I"⟩
abbrev cX0_howMany : ByteArray := prog_2_method_12_code
def yX0_howMany : MethodName := ⟨RX0, "howMany", "()I"⟩
abbrev cX0_roomLeft : ByteArray := prog_2_method_13_code
def yX0_roomLeft : MethodName := ⟨RX0, "roomLeft", "()I"⟩
abbrev cX0_minutesTogether : ByteArray := prog_2_method_14_code
def yX0_minutesTogether : MethodName := ⟨RX0, "minutesTogether", "()I"⟩
abbrev cX0_wouldSink : ByteArray := prog_2_method_15_code
def yX0_wouldSink : MethodName := ⟨RX0, "wouldSink", "(III)Z"⟩
abbrev cX0_isThere : ByteArray := prog_2_method_16_code
def yX0_isThere : MethodName := ⟨RX0, "isThere", "(I)Z"⟩
abbrev cX0_doStroke : ByteArray := prog_2_method_17_code
def yX0_doStroke : MethodName := ⟨RX0, "doStroke", "(III)V"⟩
abbrev cX0_undoLatest : ByteArray := prog_2_method_18_code
def yX0_undoLatest : MethodName := ⟨RX0, "undoLatest", "()V"⟩
abbrev cX0_replayed : ByteArray := prog_2_method_19_code
def yX0_replayed : MethodName := ⟨RX0, "replayed", "(II)I"⟩
def RX1 : String := "MirrorTrue$Curve"
def TX1 : u_T := fun k => match k with
  | 0 => ("MirrorTrue$Curve", "radius", "I", false)
  | 1 => ("MirrorTrue$Curve", "above", "I", false)
  | _ => ("MirrorTrue$Curve", "below", "I", false)
def tyX1 : Nat → FieldType := fun k => match k with
  | 0 => .int
  | 1 => .int
  | _ => .int
theorem nmX1 : ∀ a, a < 3 → ∀ b, b < 3 → a ≠ b → (TX1 a).2.1 ≠ (TX1 b).2.1 := by decide +kernel
theorem tyX1_ok : ∀ k, k < 3 → parseFieldDescriptor (TX1 k).2.2.1 = some (tyX1 k) := by decide +kernel
abbrev cX1_init : ByteArray := prog_3_method_1_code
def yX1_init : MethodName := ⟨RX1, "<init>", "()V"⟩
abbrev cX1_become : ByteArray := prog_3_method_2_code
def yX1_become : MethodName := ⟨RX1, "become", "(III)V"⟩
abbrev cX1_depthAt : ByteArray := prog_3_method_3_code
def yX1_depthAt : MethodName := ⟨RX1, "depthAt", "(IZ)J"⟩
abbrev cX1_sharedDivisor : ByteArray := prog_3_method_4_code
def yX1_sharedDivisor : MethodName := ⟨RX1, "sharedDivisor", "(JJ)J"⟩
def RX2 : String := "MirrorTrue$Grits"
def TX2 : u_T := fun k => match k with
  | 0 => ("MirrorTrue$Grits", "takes", "[I", true)
  | 1 => ("MirrorTrue$Grits", "pits", "[I", true)
  | 2 => ("MirrorTrue$Grits", "fewest", "[[I", true)
  | 3 => ("MirrorTrue$Grits", "many", "I", false)
  | 4 => ("MirrorTrue$Grits", "slack", "I", false)
  | _ => ("MirrorTrue$Grits", "settled", "Z", false)
def tyX2 : Nat → FieldType := fun k => match k with
  | 0 => .array .int
  | 1 => .array .int
  | 2 => .array (.array .int)
  | 3 => .int
  | 4 => .int
  | _ => .boolean
theorem nmX2 : ∀ a, a < 6 → ∀ b, b < 6 → a ≠ b → (TX2 a).2.1 ≠ (TX2 b).2.1 := by decide +kernel
theorem tyX2_ok : ∀ k, k < 6 → parseFieldDescriptor (TX2 k).2.2.1 = some (tyX2 k) := by decide +kernel
abbrev cX2_init : ByteArray := prog_4_method_1_code
def yX2_init : MethodName := ⟨RX2, "<init>", "()V"⟩
abbrev cX2_howMany : ByteArray := prog_4_method_2_code
def yX2_howMany : MethodName := ⟨RX2, "howMany", "()I"⟩
abbrev cX2_come : ByteArray := prog_4_method_3_code
def yX2_come : MethodName := ⟨RX2, "come", "(II)I"⟩
abbrev cX2_tellSlack : ByteArray := prog_4_method_4_code
def yX2_tellSlack : MethodName := ⟨RX2, "tellSlack", "(I)I"⟩
abbrev cX2_fewestFor : ByteArray := prog_4_method_5_code
def yX2_fewestFor : MethodName := ⟨RX2, "fewestFor", "(I)I"⟩
abbrev cX2_wetsOf : ByteArray := prog_4_method_6_code
def yX2_wetsOf : MethodName := ⟨RX2, "wetsOf", "(II)I"⟩
abbrev cX2_mostThatServe : ByteArray := prog_4_method_7_code
def yX2_mostThatServe : MethodName := ⟨RX2, "mostThatServe", "(IIII)I"⟩
abbrev cX2_clears : ByteArray := prog_4_method_8_code
def yX2_clears : MethodName := ⟨RX2, "clears", "(II)Z"⟩
abbrev cX2_fewestWithin : ByteArray := prog_4_method_9_code
def yX2_fewestWithin : MethodName := ⟨RX2, "fewestWithin", "(III)I"⟩
abbrev cX2_settle : ByteArray := prog_4_method_10_code
def yX2_settle : MethodName := ⟨RX2, "settle", "()V"⟩
abbrev cX2_bring : ByteArray := prog_4_method_11_code
def yX2_bring : MethodName := ⟨RX2, "bring", "(II)V"⟩
abbrev cX2_bringFrom : ByteArray := prog_4_method_12_code
def yX2_bringFrom : MethodName := ⟨RX2, "bringFrom", "(III)V"⟩
def RX3 : String := "MirrorTrue$Knives"
def TX3 : u_T := fun k => match k with
  | 0 => ("MirrorTrue$Knives", "readings", "[[I", true)
  | 1 => ("MirrorTrue$Knives", "shifts", "[I", true)
  | 2 => ("MirrorTrue$Knives", "steps", "[I", true)
  | 3 => ("MirrorTrue$Knives", "profiles", "[I", true)
  | 4 => ("MirrorTrue$Knives", "firstSecond", "[I", true)
  | 5 => ("MirrorTrue$Knives", "firstThird", "[I", true)
  | 6 => ("MirrorTrue$Knives", "secondThird", "[I", true)
  | 7 => ("MirrorTrue$Knives", "lie", "I", false)
  | 8 => ("MirrorTrue$Knives", "zones", "I", false)
  | 9 => ("MirrorTrue$Knives", "dropped", "I", false)
  | 10 => ("MirrorTrue$Knives", "profiled", "I", false)
  | _ => ("MirrorTrue$Knives", "settled", "Z", false)
def tyX3 : Nat → FieldType := fun k => match k with
  | 0 => .array (.array .int)
  | 1 => .array .int
  | 2 => .array .int
  | 3 => .array .int
  | 4 => .array .int
  | 5 => .array .int
  | 6 => .array .int
  | 7 => .int
  | 8 => .int
  | 9 => .int
  | 10 => .int
  | _ => .boolean
theorem nmX3 : ∀ a, a < 12 → ∀ b, b < 12 → a ≠ b → (TX3 a).2.1 ≠ (TX3 b).2.1 := by decide +kernel
theorem tyX3_ok : ∀ k, k < 12 → parseFieldDescriptor (TX3 k).2.2.1 = some (tyX3 k) := by decide +kernel
abbrev cX3_init : ByteArray := prog_5_method_1_code
def yX3_init : MethodName := ⟨RX3, "<init>", "()V"⟩
abbrev cX3_begin : ByteArray := prog_5_method_2_code
def yX3_begin : MethodName := ⟨RX3, "begin", "(I)V"⟩
abbrev cX3_tellReading : ByteArray := prog_5_method_3_code
def yX3_tellReading : MethodName := ⟨RX3, "tellReading", "(III)I"⟩
abbrev cX3_tellLie : ByteArray := prog_5_method_4_code
def yX3_tellLie : MethodName := ⟨RX3, "tellLie", "(I)I"⟩
abbrev cX3_howManyTold : ByteArray := prog_5_method_5_code
def yX3_howManyTold : MethodName := ⟨RX3, "howManyTold", "()I"⟩
abbrev cX3_howManyDropped : ByteArray := prog_5_method_6_code
def yX3_howManyDropped : MethodName := ⟨RX3, "howManyDropped", "()I"⟩
abbrev cX3_shiftOf : ByteArray := prog_5_method_7_code
def yX3_shiftOf : MethodName := ⟨RX3, "shiftOf", "(I)I"⟩
abbrev cX3_stepOf : ByteArray := prog_5_method_8_code
def yX3_stepOf : MethodName := ⟨RX3, "stepOf", "(I)I"⟩
abbrev cX3_profileOf : ByteArray := prog_5_method_9_code
def yX3_profileOf : MethodName := ⟨RX3, "profileOf", "(I)I"⟩
abbrev cX3_lieOf : ByteArray := prog_5_method_10_code
def yX3_lieOf : MethodName := ⟨RX3, "lieOf", "()I"⟩
abbrev cX3_settle : ByteArray := prog_5_method_11_code
def yX3_settle : MethodName := ⟨RX3, "settle", "()V"⟩
abbrev cX3_settleAgreements : ByteArray := prog_5_method_12_code
def yX3_settleAgreements : MethodName := ⟨RX3, "settleAgreements", "()V"⟩
abbrev cX3_stepsOfAgreement : ByteArray := prog_5_method_13_code
def yX3_stepsOfAgreement : MethodName := ⟨RX3, "stepsOfAgreement", "(III)I"⟩
abbrev cX3_settleShifts : ByteArray := prog_5_method_14_code
def yX3_settleShifts : MethodName := ⟨RX3, "settleShifts", "()V"⟩
abbrev cX3_keptMore : ByteArray := prog_5_method_15_code
def yX3_keptMore : MethodName := ⟨RX3, "keptMore", "(II)I"⟩
abbrev cX3_stepsTold : ByteArray := prog_5_method_16_code
def yX3_stepsTold : MethodName := ⟨RX3, "stepsTold", "()I"⟩
abbrev cX3_leastStep : ByteArray := prog_5_method_17_code
def yX3_leastStep : MethodName := ⟨RX3, "leastStep", "(I)I"⟩
abbrev cX3_servedBy : ByteArray := prog_5_method_18_code
def yX3_servedBy : MethodName := ⟨RX3, "servedBy", "(II)I"⟩
abbrev cX3_settleProfiles : ByteArray := prog_5_method_19_code
def yX3_settleProfiles : MethodName := ⟨RX3, "settleProfiles", "()V"⟩
def RX4 : String := "MirrorTrue$Planner"
def TX4 : u_T := fun k => match k with
  | 0 => ("MirrorTrue$Planner", "bench", "LMirrorTrue$Bench;", true)
  | 1 => ("MirrorTrue$Planner", "costs", "[I", true)
  | 2 => ("MirrorTrue$Planner", "minutes", "[[I", true)
  | 3 => ("MirrorTrue$Planner", "planCosts", "[I", true)
  | 4 => ("MirrorTrue$Planner", "settledAt", "[I", true)
  | 5 => ("MirrorTrue$Planner", "heights", "[I", true)
  | 6 => ("MirrorTrue$Planner", "pulls", "[I", true)
  | 7 => ("MirrorTrue$Planner", "rest", "I", false)
  | _ => ("MirrorTrue$Planner", "zones", "I", false)
def tyX4 : Nat → FieldType := fun k => match k with
  | 0 => .object "MirrorTrue$Bench"
  | 1 => .array .int
  | 2 => .array (.array .int)
  | 3 => .array .int
  | 4 => .array .int
  | 5 => .array .int
  | 6 => .array .int
  | 7 => .int
  | _ => .int
theorem nmX4 : ∀ a, a < 9 → ∀ b, b < 9 → a ≠ b → (TX4 a).2.1 ≠ (TX4 b).2.1 := by decide +kernel
theorem tyX4_ok : ∀ k, k < 9 → parseFieldDescriptor (TX4 k).2.2.1 = some (tyX4 k) := by decide +kernel
abbrev cX4_init : ByteArray := prog_6_method_1_code
def yX4_init : MethodName := ⟨RX4, "<init>", "(LMirrorTrue$Bench;)V"⟩
abbrev cX4_hasPlan : ByteArray := prog_6_method_2_code
def yX4_hasPlan : MethodName := ⟨RX4, "hasPlan", "(I)Z"⟩
abbrev cX4_together : ByteArray := prog_6_method_3_code
def yX4_together : MethodName := ⟨RX4, "together", "(I)I"⟩
abbrev cX4_minutesAt : ByteArray := prog_6_method_4_code
def yX4_minutesAt : MethodName := ⟨RX4, "minutesAt", "(II)I"⟩
abbrev cX4_rightZones : ByteArray := prog_6_method_5_code
def yX4_rightZones : MethodName := ⟨RX4, "rightZones", "(I)I"⟩
abbrev cX4_strokesOf : ByteArray := prog_6_method_6_code
def yX4_strokesOf : MethodName := ⟨RX4, "strokesOf", "(I)I"⟩
abbrev cX4_carryOut : ByteArray := prog_6_method_7_code
def yX4_carryOut : MethodName := ⟨RX4, "carryOut", "(I)V"⟩
abbrev cX4_settle : ByteArray := prog_6_method_8_code
def yX4_settle : MethodName := ⟨RX4, "settle", "(I)V"⟩
abbrev cX4_begin : ByteArray := prog_6_method_9_code
def yX4_begin : MethodName := ⟨RX4, "begin", "(I)V"⟩
abbrev cX4_traceMinutes : ByteArray := prog_6_method_10_code
def yX4_traceMinutes : MethodName := ⟨RX4, "traceMinutes", "([I)V"⟩
abbrev cX4_costFrom : ByteArray := prog_6_method_11_code
def yX4_costFrom : MethodName := ⟨RX4, "costFrom", "(II)I"⟩
abbrev cX4_leastCost : ByteArray := prog_6_method_12_code
def yX4_leastCost : MethodName := ⟨RX4, "leastCost", "(II)I"⟩
abbrev cX4_costWith : ByteArray := prog_6_method_13_code
def yX4_costWith : MethodName := ⟨RX4, "costWith", "(IIII)I"⟩
abbrev cX4_stateBehind : ByteArray := prog_6_method_14_code
def yX4_stateBehind : MethodName := ⟨RX4, "stateBehind", "(II)I"⟩
abbrev cX4_leftAt : ByteArray := prog_6_method_15_code
def yX4_leftAt : MethodName := ⟨RX4, "leftAt", "(II)I"⟩
def RX5 : String := "MirrorTrue$Rings"
def TX5 : u_T := fun k => match k with
  | 0 => ("MirrorTrue$Rings", "bends", "[[I", true)
  | 1 => ("MirrorTrue$Rings", "bent", "[[I", true)
  | 2 => ("MirrorTrue$Rings", "shares", "[I", true)
  | 3 => ("MirrorTrue$Rings", "best", "[I", true)
  | 4 => ("MirrorTrue$Rings", "zones", "I", false)
  | 5 => ("MirrorTrue$Rings", "spread", "I", false)
  | _ => ("MirrorTrue$Rings", "settled", "Z", false)
def tyX5 : Nat → FieldType := fun k => match k with
  | 0 => .array (.array .int)
  | 1 => .array (.array .int)
  | 2 => .array .int
  | 3 => .array .int
  | 4 => .int
  | 5 => .int
  | _ => .boolean
theorem nmX5 : ∀ a, a < 7 → ∀ b, b < 7 → a ≠ b → (TX5 a).2.1 ≠ (TX5 b).2.1 := by decide +kernel
theorem tyX5_ok : ∀ k, k < 7 → parseFieldDescriptor (TX5 k).2.2.1 = some (tyX5 k) := by decide +kernel
abbrev cX5_init : ByteArray := prog_7_method_1_code
def yX5_init : MethodName := ⟨RX5, "<init>", "()V"⟩
abbrev cX5_begin : ByteArray := prog_7_method_2_code
def yX5_begin : MethodName := ⟨RX5, "begin", "(I)V"⟩
abbrev cX5_tellBend : ByteArray := prog_7_method_3_code
def yX5_tellBend : MethodName := ⟨RX5, "tellBend", "(III)I"⟩
abbrev cX5_leastSpread : ByteArray := prog_7_method_4_code
def yX5_leastSpread : MethodName := ⟨RX5, "leastSpread", "()I"⟩
abbrev cX5_shareOf : ByteArray := prog_7_method_5_code
def yX5_shareOf : MethodName := ⟨RX5, "shareOf", "(I)I"⟩
abbrev cX5_settle : ByteArray := prog_7_method_6_code
def yX5_settle : MethodName := ⟨RX5, "settle", "()V"⟩
abbrev cX5_place : ByteArray := prog_7_method_7_code
def yX5_place : MethodName := ⟨RX5, "place", "(III)V"⟩
abbrev cX5_placeShare : ByteArray := prog_7_method_8_code
def yX5_placeShare : MethodName := ⟨RX5, "placeShare", "(IIII)V"⟩
abbrev cX5_keepIfBetter : ByteArray := prog_7_method_9_code
def yX5_keepIfBetter : MethodName := ⟨RX5, "keepIfBetter", "(II)V"⟩
abbrev cX5_spreadOf : ByteArray := prog_7_method_10_code
def yX5_spreadOf : MethodName := ⟨RX5, "spreadOf", "([I)I"⟩
def RX6 : String := "MirrorTrue$Shells"
def TX6 : u_T := fun k => match k with
  | 0 => ("MirrorTrue$Shells", "shells", "[I", true)
  | 1 => ("MirrorTrue$Shells", "tried", "[I", true)
  | _ => ("MirrorTrue$Shells", "air", "I", false)
def tyX6 : Nat → FieldType := fun k => match k with
  | 0 => .array .int
  | 1 => .array .int
  | _ => .int
theorem nmX6 : ∀ a, a < 3 → ∀ b, b < 3 → a ≠ b → (TX6 a).2.1 ≠ (TX6 b).2.1 := by decide +kernel
theorem tyX6_ok : ∀ k, k < 3 → parseFieldDescriptor (TX6 k).2.2.1 = some (tyX6 k) := by decide +kernel
abbrev cX6_init : ByteArray := prog_8_method_1_code
def yX6_init : MethodName := ⟨RX6, "<init>", "()V"⟩
abbrev cX6_tellWarmth : ByteArray := prog_8_method_2_code
def yX6_tellWarmth : MethodName := ⟨RX6, "tellWarmth", "(II)I"⟩
abbrev cX6_warmthOf : ByteArray := prog_8_method_3_code
def yX6_warmthOf : MethodName := ⟨RX6, "warmthOf", "(I)I"⟩
abbrev cX6_letGoBy : ByteArray := prog_8_method_4_code
def yX6_letGoBy : MethodName := ⟨RX6, "letGoBy", "(I)I"⟩
abbrev cX6_minutesTillStill : ByteArray := prog_8_method_5_code
def yX6_minutesTillStill : MethodName := ⟨RX6, "minutesTillStill", "(I)I"⟩
abbrev cX6_goOneMinute : ByteArray := prog_8_method_6_code
def yX6_goOneMinute : MethodName := ⟨RX6, "goOneMinute", "([I)Z"⟩
abbrev cX6_greatest : ByteArray := prog_8_method_7_code
def yX6_greatest : MethodName := ⟨RX6, "greatest", "([II)I"⟩
abbrev cX6_least : ByteArray := prog_8_method_8_code
def yX6_least : MethodName := ⟨RX6, "least", "([II)I"⟩
def RX7 : String := "MirrorTrue$Wires"
def TX7 : u_T := fun k => match k with
  | 0 => ("MirrorTrue$Wires", "knives", "LMirrorTrue$Knives;", true)
  | 1 => ("MirrorTrue$Wires", "from", "[I", true)
  | 2 => ("MirrorTrue$Wires", "to", "[I", true)
  | 3 => ("MirrorTrue$Wires", "told", "[I", true)
  | _ => ("MirrorTrue$Wires", "many", "I", false)
def tyX7 : Nat → FieldType := fun k => match k with
  | 0 => .object "MirrorTrue$Knives"
  | 1 => .array .int
  | 2 => .array .int
  | 3 => .array .int
  | _ => .int
theorem nmX7 : ∀ a, a < 5 → ∀ b, b < 5 → a ≠ b → (TX7 a).2.1 ≠ (TX7 b).2.1 := by decide +kernel
theorem tyX7_ok : ∀ k, k < 5 → parseFieldDescriptor (TX7 k).2.2.1 = some (tyX7 k) := by decide +kernel
abbrev cX7_init : ByteArray := prog_9_method_1_code
def yX7_init : MethodName := ⟨RX7, "<init>", "(LMirrorTrue$Knives;)V"⟩
abbrev cX7_begin : ByteArray := prog_9_method_2_code
def yX7_begin : MethodName := ⟨RX7, "begin", "()V"⟩
abbrev cX7_howMany : ByteArray := prog_9_method_3_code
def yX7_howMany : MethodName := ⟨RX7, "howMany", "()I"⟩
abbrev cX7_hold : ByteArray := prog_9_method_4_code
def yX7_hold : MethodName := ⟨RX7, "hold", "(III)I"⟩
abbrev cX7_howManyOf : ByteArray := prog_9_method_5_code
def yX7_howManyOf : MethodName := ⟨RX7, "howManyOf", "(I)I"⟩
abbrev cX7_offBy : ByteArray := prog_9_method_6_code
def yX7_offBy : MethodName := ⟨RX7, "offBy", "(I)I"⟩
def RX8 : String := "MirrorTrue"
def TX8 : u_T := fun k => match k with
  | 0 => ("MirrorTrue", "curve", "LMirrorTrue$Curve;", true)
  | 1 => ("MirrorTrue", "knives", "LMirrorTrue$Knives;", true)
  | 2 => ("MirrorTrue", "held", "LMirrorTrue$Wires;", true)
  | 3 => ("MirrorTrue", "bench", "LMirrorTrue$Bench;", true)
  | 4 => ("MirrorTrue", "planner", "LMirrorTrue$Planner;", true)
  | 5 => ("MirrorTrue", "pads", "LMirrorTrue$Rings;", true)
  | 6 => ("MirrorTrue", "glass", "LMirrorTrue$Shells;", true)
  | 7 => ("MirrorTrue", "grits", "LMirrorTrue$Grits;", true)
  | _ => ("MirrorTrue", "zones", "I", false)
def tyX8 : Nat → FieldType := fun k => match k with
  | 0 => .object "MirrorTrue$Curve"
  | 1 => .object "MirrorTrue$Knives"
  | 2 => .object "MirrorTrue$Wires"
  | 3 => .object "MirrorTrue$Bench"
  | 4 => .object "MirrorTrue$Planner"
  | 5 => .object "MirrorTrue$Rings"
  | 6 => .object "MirrorTrue$Shells"
  | 7 => .object "MirrorTrue$Grits"
  | _ => .int
theorem nmX8 : ∀ a, a < 9 → ∀ b, b < 9 → a ≠ b → (TX8 a).2.1 ≠ (TX8 b).2.1 := by decide +kernel
theorem tyX8_ok : ∀ k, k < 9 → parseFieldDescriptor (TX8 k).2.2.1 = some (tyX8 k) := by decide +kernel
abbrev cX8_init : ByteArray := prog_1_method_1_code
def yX8_init : MethodName := ⟨RX8, "<init>", "()V"⟩
abbrev cX8_disc : ByteArray := prog_1_method_2_code
def yX8_disc : MethodName := ⟨RX8, "disc", "(I)I"⟩
abbrev cX8_aim : ByteArray := prog_1_method_3_code
def yX8_aim : MethodName := ⟨RX8, "aim", "(III)I"⟩
abbrev cX8_depth : ByteArray := prog_1_method_4_code
def yX8_depth : MethodName := ⟨RX8, "depth", "(II)J"⟩
abbrev cX8_height : ByteArray := prog_1_method_5_code
def yX8_height : MethodName := ⟨RX8, "height", "(II)I"⟩
abbrev cX8_at : ByteArray := prog_1_method_6_code
def yX8_at : MethodName := ⟨RX8, "at", "(I)I"⟩
abbrev cX8_read : ByteArray := prog_1_method_7_code
def yX8_read : MethodName := ⟨RX8, "read", "(III)I"⟩
abbrev cX8_lie : ByteArray := prog_1_method_8_code
def yX8_lie : MethodName := ⟨RX8, "lie", "(I)I"⟩
abbrev cX8_joined : ByteArray := prog_1_method_9_code
def yX8_joined : MethodName := ⟨RX8, "joined", "(I)I"⟩
abbrev cX8_step : ByteArray := prog_1_method_10_code
def yX8_step : MethodName := ⟨RX8, "step", "(I)I"⟩
abbrev cX8_profile : ByteArray := prog_1_method_11_code
def yX8_profile : MethodName := ⟨RX8, "profile", "(I)I"⟩
abbrev cX8_wire : ByteArray := prog_1_method_12_code
def yX8_wire : MethodName := ⟨RX8, "wire", "(III)I"⟩
abbrev cX8_wires : ByteArray := prog_1_method_13_code
def yX8_wires : MethodName := ⟨RX8, "wires", "(I)I"⟩
abbrev cX8_pull : ByteArray := prog_1_method_14_code
def yX8_pull : MethodName := ⟨RX8, "pull", "(III)I"⟩
abbrev cX8_rest : ByteArray := prog_1_method_15_code
def yX8_rest : MethodName := ⟨RX8, "rest", "(I)I"⟩
abbrev cX8_stroke : ByteArray := prog_1_method_16_code
def yX8_stroke : MethodName := ⟨RX8, "stroke", "(III)I"⟩
abbrev cX8_undo : ByteArray := prog_1_method_17_code
def yX8_undo : MethodName := ⟨RX8, "undo", "()I"⟩
abbrev cX8_replay : ByteArray := prog_1_method_18_code
def yX8_replay : MethodName := ⟨RX8, "replay", "(II)I"⟩
abbrev cX8_plan : ByteArray := prog_1_method_19_code
def yX8_plan : MethodName := ⟨RX8, "plan", "(II)I"⟩
abbrev cX8_right : ByteArray := prog_1_method_20_code
def yX8_right : MethodName := ⟨RX8, "right", "(I)I"⟩
abbrev cX8_work : ByteArray := prog_1_method_21_code
def yX8_work : MethodName := ⟨RX8, "work", "(I)I"⟩
abbrev cX8_bend : ByteArray := prog_1_method_22_code
def yX8_bend : MethodName := ⟨RX8, "bend", "(III)I"⟩
abbrev cX8_bear : ByteArray := prog_1_method_23_code
def yX8_bear : MethodName := ⟨RX8, "bear", "(I)I"⟩
abbrev cX8_warm : ByteArray := prog_1_method_24_code
def yX8_warm : MethodName := ⟨RX8, "warm", "(II)I"⟩
abbrev cX8_cool : ByteArray := prog_1_method_25_code
def yX8_cool : MethodName := ⟨RX8, "cool", "(I)I"⟩
abbrev cX8_still : ByteArray := prog_1_method_26_code
def yX8_still : MethodName := ⟨RX8, "still", "(I)I"⟩
abbrev cX8_warmth : ByteArray := prog_1_method_27_code
def yX8_warmth : MethodName := ⟨RX8, "warmth", "(I)I"⟩
abbrev cX8_grit : ByteArray := prog_1_method_28_code
def yX8_grit : MethodName := ⟨RX8, "grit", "(II)I"⟩
abbrev cX8_slack : ByteArray := prog_1_method_29_code
def yX8_slack : MethodName := ⟨RX8, "slack", "(I)I"⟩
abbrev cX8_wets : ByteArray := prog_1_method_30_code
def yX8_wets : MethodName := ⟨RX8, "wets", "(II)I"⟩
abbrev cX8_count : ByteArray := prog_1_method_31_code
def yX8_count : MethodName := ⟨RX8, "count", "(I)I"⟩
abbrev cX8_within : ByteArray := prog_1_method_32_code
def yX8_within : MethodName := ⟨RX8, "within", "(III)Z"⟩
abbrev cX8_isTool : ByteArray := prog_1_method_33_code
def yX8_isTool : MethodName := ⟨RX8, "isTool", "(I)Z"⟩
abbrev cX8_isZone : ByteArray := prog_1_method_34_code
def yX8_isZone : MethodName := ⟨RX8, "isZone", "(I)Z"⟩
abbrev cX8_isStep : ByteArray := prog_1_method_35_code
def yX8_isStep : MethodName := ⟨RX8, "isStep", "(I)Z"⟩
def RX9 : String := "MirrorTrueModel"
def TX9 : u_T := fun k => match k with
  | 0 => ("MirrorTrueModel", "n", "I", false)
  | 1 => ("MirrorTrueModel", "heights", "[I", true)
  | 2 => ("MirrorTrueModel", "base", "[I", true)
  | 3 => ("MirrorTrueModel", "radius", "I", false)
  | 4 => ("MirrorTrueModel", "upper", "I", false)
  | 5 => ("MirrorTrueModel", "lowerPart", "I", false)
  | 6 => ("MirrorTrueModel", "readings", "[I", true)
  | 7 => ("MirrorTrueModel", "lie", "I", false)
  | 8 => ("MirrorTrueModel", "wires", "I", false)
  | 9 => ("MirrorTrueModel", "wireI", "[I", true)
  | 10 => ("MirrorTrueModel", "wireJ", "[I", true)
  | 11 => ("MirrorTrueModel", "wireV", "[I", true)
  | 12 => ("MirrorTrueModel", "pulls", "[I", true)
  | 13 => ("MirrorTrueModel", "rest", "I", false)
  | 14 => ("MirrorTrueModel", "strokes", "I", false)
  | 15 => ("MirrorTrueModel", "strokeTool", "[I", true)
  | 16 => ("MirrorTrueModel", "strokeZone", "[I", true)
  | 17 => ("MirrorTrueModel", "strokeMinutes", "[I", true)
  | 18 => ("MirrorTrueModel", "took", "[I", true)
  | 19 => ("MirrorTrueModel", "bends", "[I", true)
  | 20 => ("MirrorTrueModel", "shells", "[I", true)
  | 21 => ("MirrorTrueModel", "grits", "I", false)
  | 22 => ("MirrorTrueModel", "takes", "[I", true)
  | 23 => ("MirrorTrueModel", "pits", "[I", true)
  | 24 => ("MirrorTrueModel", "slack", "I", false)
  | 25 => ("MirrorTrueModel", "shift", "[I", true)
  | 26 => ("MirrorTrueModel", "best", "[I", true)
  | 27 => ("MirrorTrueModel", "found", "I", false)
  | 28 => ("MirrorTrueModel", "cost", "[I", true)
  | 29 => ("MirrorTrueModel", "minutes", "[I", true)
  | 30 => ("MirrorTrueModel", "can", "[Z", true)
  | 31 => ("MirrorTrueModel", "share", "[I", true)
  | 32 => ("MirrorTrueModel", "bestShare", "[I", true)
  | 33 => ("MirrorTrueModel", "spread", "I", false)
  | 34 => ("MirrorTrueModel", "before", "[I", true)
  | 35 => ("MirrorTrueModel", "aside", "[I", true)
  | _ => ("MirrorTrueModel", "fewest", "[I", true)
def tyX9 : Nat → FieldType := fun k => match k with
  | 0 => .int
  | 1 => .array .int
  | 2 => .array .int
  | 3 => .int
  | 4 => .int
  | 5 => .int
  | 6 => .array .int
  | 7 => .int
  | 8 => .int
  | 9 => .array .int
  | 10 => .array .int
  | 11 => .array .int
  | 12 => .array .int
  | 13 => .int
  | 14 => .int
  | 15 => .array .int
  | 16 => .array .int
  | 17 => .array .int
  | 18 => .array .int
  | 19 => .array .int
  | 20 => .array .int
  | 21 => .int
  | 22 => .array .int
  | 23 => .array .int
  | 24 => .int
  | 25 => .array .int
  | 26 => .array .int
  | 27 => .int
  | 28 => .array .int
  | 29 => .array .int
  | 30 => .array .boolean
  | 31 => .array .int
  | 32 => .array .int
  | 33 => .int
  | 34 => .array .int
  | 35 => .array .int
  | _ => .array .int
theorem nmX9 : ∀ a, a < 37 → ∀ b, b < 37 → a ≠ b → (TX9 a).2.1 ≠ (TX9 b).2.1 := by decide +kernel
theorem tyX9_ok : ∀ k, k < 37 → parseFieldDescriptor (TX9 k).2.2.1 = some (tyX9 k) := by decide +kernel
abbrev cX9_init : ByteArray := prog_11_method_1_code
def yX9_init : MethodName := ⟨RX9, "<init>", "()V"⟩
abbrev cX9_in : ByteArray := prog_11_method_2_code
def yX9_in : MethodName := ⟨RX9, "in", "(III)Z"⟩
abbrev cX9_size : ByteArray := prog_11_method_3_code
def yX9_size : MethodName := ⟨RX9, "size", "(I)I"⟩
abbrev cX9_begins : ByteArray := prog_11_method_4_code
def yX9_begins : MethodName := ⟨RX9, "begins", "(I)V"⟩
abbrev cX9_disc : ByteArray := prog_11_method_5_code
def yX9_disc : MethodName := ⟨RX9, "disc", "(I)I"⟩
abbrev cX9_aim : ByteArray := prog_11_method_6_code
def yX9_aim : MethodName := ⟨RX9, "aim", "(III)I"⟩
abbrev cX9_common : ByteArray := prog_11_method_7_code
def yX9_common : MethodName := ⟨RX9, "common", "(JJ)J"⟩
abbrev cX9_depth : ByteArray := prog_11_method_8_code
def yX9_depth : MethodName := ⟨RX9, "depth", "(II)J"⟩
abbrev cX9_isZone : ByteArray := prog_11_method_9_code
def yX9_isZone : MethodName := ⟨RX9, "isZone", "(I)Z"⟩
abbrev cX9_height : ByteArray := prog_11_method_10_code
def yX9_height : MethodName := ⟨RX9, "height", "(II)I"⟩
abbrev cX9_at : ByteArray := prog_11_method_11_code
def yX9_at : MethodName := ⟨RX9, "at", "(I)I"⟩
abbrev cX9_read : ByteArray := prog_11_method_12_code
def yX9_read : MethodName := ⟨RX9, "read", "(III)I"⟩
abbrev cX9_lie : ByteArray := prog_11_method_13_code
def yX9_lie : MethodName := ⟨RX9, "lie", "(I)I"⟩
abbrev cX9_isRead : ByteArray := prog_11_method_14_code
def yX9_isRead : MethodName := ⟨RX9, "isRead", "(II)Z"⟩
abbrev cX9_shifted : ByteArray := prog_11_method_15_code
def yX9_shifted : MethodName := ⟨RX9, "shifted", "(II)I"⟩
abbrev cX9_holds : ByteArray := prog_11_method_16_code
def yX9_holds : MethodName := ⟨RX9, "holds", "(II)I"⟩
abbrev cX9_dropped : ByteArray := prog_11_method_17_code
def yX9_dropped : MethodName := ⟨RX9, "dropped", "(I)I"⟩
abbrev cX9_joins : ByteArray := prog_11_method_18_code
def yX9_joins : MethodName := ⟨RX9, "joins", "()I"⟩
abbrev cX9_joined : ByteArray := prog_11_method_19_code
def yX9_joined : MethodName := ⟨RX9, "joined", "(I)I"⟩
abbrev cX9_step : ByteArray := prog_11_method_20_code
def yX9_step : MethodName := ⟨RX9, "step", "(I)I"⟩
abbrev cX9_profileOf : ByteArray := prog_11_method_21_code
def yX9_profileOf : MethodName := ⟨RX9, "profileOf", "(I)I"⟩
abbrev cX9_profile : ByteArray := prog_11_method_22_code
def yX9_profile : MethodName := ⟨RX9, "profile", "(I)I"⟩
abbrev cX9_wire : ByteArray := prog_11_method_23_code
def yX9_wire : MethodName := ⟨RX9, "wire", "(III)I"⟩
abbrev cX9_offOf : ByteArray := prog_11_method_24_code
def yX9_offOf : MethodName := ⟨RX9, "offOf", "(I)I"⟩
abbrev cX9_wires : ByteArray := prog_11_method_25_code
def yX9_wires : MethodName := ⟨RX9, "wires", "(I)I"⟩
abbrev cX9_pull : ByteArray := prog_11_method_26_code
def yX9_pull : MethodName := ⟨RX9, "pull", "(III)I"⟩
abbrev cX9_rest : ByteArray := prog_11_method_27_code
def yX9_rest : MethodName := ⟨RX9, "rest", "(I)I"⟩
abbrev cX9_pullOf : ByteArray := prog_11_method_28_code
def yX9_pullOf : MethodName := ⟨RX9, "pullOf", "(II)I"⟩
abbrev cX9_lays : ByteArray := prog_11_method_29_code
def yX9_lays : MethodName := ⟨RX9, "lays", "(III)V"⟩
abbrev cX9_stroke : ByteArray := prog_11_method_30_code
def yX9_stroke : MethodName := ⟨RX9, "stroke", "(III)I"⟩
abbrev cX9_undo : ByteArray := prog_11_method_31_code
def yX9_undo : MethodName := ⟨RX9, "undo", "()I"⟩
abbrev cX9_replay : ByteArray := prog_11_method_32_code
def yX9_replay : MethodName := ⟨RX9, "replay", "(II)I"⟩
abbrev cX9_back : ByteArray := prog_11_method_33_code
def yX9_back : MethodName := ⟨RX9, "back", "(II)I"⟩
abbrev cX9_isRight : ByteArray := prog_11_method_34_code
def yX9_isRight : MethodName := ⟨RX9, "isRight", "(IIII)Z"⟩
abbrev cX9_next : ByteArray := prog_11_method_35_code
def yX9_next : MethodName := ⟨RX9, "next", "(II)I"⟩
abbrev cX9_most : ByteArray := prog_11_method_36_code
def yX9_most : MethodName := ⟨RX9, "most", "(I)I"⟩
abbrev cX9_costs : ByteArray := prog_11_method_37_code
def yX9_costs : MethodName := ⟨RX9, "costs", "(I)V"⟩
abbrev cX9_plans : ByteArray := prog_11_method_38_code
def yX9_plans : MethodName := ⟨RX9, "plans", "(I)I"⟩
abbrev cX9_plan : ByteArray := prog_11_method_39_code
def yX9_plan : MethodName := ⟨RX9, "plan", "(II)I"⟩
abbrev cX9_right : ByteArray := prog_11_method_40_code
def yX9_right : MethodName := ⟨RX9, "right", "(I)I"⟩
abbrev cX9_work : ByteArray := prog_11_method_41_code
def yX9_work : MethodName := ⟨RX9, "work", "(I)I"⟩
abbrev cX9_bend : ByteArray := prog_11_method_42_code
def yX9_bend : MethodName := ⟨RX9, "bend", "(III)I"⟩
abbrev cX9_spreads : ByteArray := prog_11_method_43_code
def yX9_spreads : MethodName := ⟨RX9, "spreads", "()V"⟩
abbrev cX9_bear : ByteArray := prog_11_method_44_code
def yX9_bear : MethodName := ⟨RX9, "bear", "(I)I"⟩
abbrev cX9_warm : ByteArray := prog_11_method_45_code
def yX9_warm : MethodName := ⟨RX9, "warm", "(II)I"⟩
abbrev cX9_down : ByteArray := prog_11_method_46_code
def yX9_down : MethodName := ⟨RX9, "down", "(II)I"⟩
abbrev cX9_passes : ByteArray := prog_11_method_47_code
def yX9_passes : MethodName := ⟨RX9, "passes", "()V"⟩
abbrev cX9_apart : ByteArray := prog_11_method_48_code
def yX9_apart : MethodName := ⟨RX9, "apart", "(I)I"⟩
abbrev cX9_cool : ByteArray := prog_11_method_49_code
def yX9_cool : MethodName := ⟨RX9, "cool", "(I)I"⟩
abbrev cX9_still : ByteArray := prog_11_method_50_code
def yX9_still : MethodName := ⟨RX9, "still", "(I)I"⟩
abbrev cX9_warmth : ByteArray := prog_11_method_51_code
def yX9_warmth : MethodName := ⟨RX9, "warmth", "(I)I"⟩
abbrev cX9_grit : ByteArray := prog_11_method_52_code
def yX9_grit : MethodName := ⟨RX9, "grit", "(II)I"⟩
abbrev cX9_slack : ByteArray := prog_11_method_53_code
def yX9_slack : MethodName := ⟨RX9, "slack", "(I)I"⟩
abbrev cX9_cell : ByteArray := prog_11_method_54_code
def yX9_cell : MethodName := ⟨RX9, "cell", "(III)I"⟩
abbrev cX9_with : ByteArray := prog_11_method_55_code
def yX9_with : MethodName := ⟨RX9, "with", "(IIIII)I"⟩
abbrev cX9_wetsBy : ByteArray := prog_11_method_56_code
def yX9_wetsBy : MethodName := ⟨RX9, "wetsBy", "(I)V"⟩
abbrev cX9_wets : ByteArray := prog_11_method_57_code
def yX9_wets : MethodName := ⟨RX9, "wets", "(II)I"⟩
abbrev cX9_count : ByteArray := prog_11_method_58_code
def yX9_count : MethodName := ⟨RX9, "count", "(I)I"⟩
def RJ6 : String := "java/lang/Integer"
def TJ6 : u_T := fun k => match k with
  | _ => ("", "", "", false)
def tyJ6 : Nat → FieldType := fun k => match k with
  | _ => .int
theorem nmJ6 : ∀ a, a < 0 → ∀ b, b < 0 → a ≠ b → (TJ6 a).2.1 ≠ (TJ6 b).2.1 := by decide +kernel
theorem tyJ6_ok : ∀ k, k < 0 → parseFieldDescriptor (TJ6 k).2.2.1 = some (tyJ6 k) := by decide +kernel
abbrev cJ6_bitCount_0f7a4 : ByteArray := prog_12_method_49_code
def yJ6_bitCount_0f7a4 : MethodName := ⟨RJ6, "bitCount", "(I)I"⟩
def RJ9 : String := "java/lang/Math"
def TJ9 : u_T := fun k => match k with
  | _ => ("", "", "", false)
def tyJ9 : Nat → FieldType := fun k => match k with
  | _ => .int
theorem nmJ9 : ∀ a, a < 0 → ∀ b, b < 0 → a ≠ b → (TJ9 a).2.1 ≠ (TJ9 b).2.1 := by decide +kernel
theorem tyJ9_ok : ∀ k, k < 0 → parseFieldDescriptor (TJ9 k).2.2.1 = some (tyJ9 k) := by decide +kernel
abbrev cJ9_floorDiv_7cf53 : ByteArray := prog_13_method_47_code
def yJ9_floorDiv_7cf53 : MethodName := ⟨RJ9, "floorDiv", "(II)I"⟩
abbrev cJ9_abs_0f7a4 : ByteArray := prog_13_method_59_code
def yJ9_abs_0f7a4 : MethodName := ⟨RJ9, "abs", "(I)I"⟩
abbrev cJ9_abs_067f4 : ByteArray := prog_13_method_61_code
def yJ9_abs_067f4 : MethodName := ⟨RJ9, "abs", "(J)J"⟩
abbrev cJ9_max_7cf53 : ByteArray := prog_13_method_65_code
def yJ9_max_7cf53 : MethodName := ⟨RJ9, "max", "(II)I"⟩
abbrev cJ9_min_7cf53 : ByteArray := prog_13_method_69_code
def yJ9_min_7cf53 : MethodName := ⟨RJ9, "min", "(II)I"⟩
def RJ10 : String := "java/lang/System"
def TJ10 : u_T := fun k => match k with
  | _ => ("", "", "", false)
def tyJ10 : Nat → FieldType := fun k => match k with
  | _ => .int
theorem nmJ10 : ∀ a, a < 0 → ∀ b, b < 0 → a ≠ b → (TJ10 a).2.1 ≠ (TJ10 b).2.1 := by decide +kernel
theorem tyJ10_ok : ∀ k, k < 0 → parseFieldDescriptor (TJ10 k).2.2.1 = some (tyJ10 k) := by decide +kernel
def RJ7 : String := "java/util/Arrays"
def TJ7 : u_T := fun k => match k with
  | _ => ("", "", "", false)
def tyJ7 : Nat → FieldType := fun k => match k with
  | _ => .int
theorem nmJ7 : ∀ a, a < 0 → ∀ b, b < 0 → a ≠ b → (TJ7 a).2.1 ≠ (TJ7 b).2.1 := by decide +kernel
theorem tyJ7_ok : ∀ k, k < 0 → parseFieldDescriptor (TJ7 k).2.2.1 = some (tyJ7 k) := by decide +kernel
abbrev cJ7_fill_53178 : ByteArray := prog_15_method_103_code
def yJ7_fill_53178 : MethodName := ⟨RJ7, "fill", "([II)V"⟩
def RL : String := "MirrorTrueLaw"
abbrev cL_law : ByteArray := code
abbrev vwCl : List vw_C := [(RX0, TX0, 11), (RX1, TX1, 3), (RX2, TX2, 6), (RX3, TX3, 12), (RX4, TX4, 9), (RX5, TX5, 7), (RX6, TX6, 3), (RX7, TX7, 5), (RX8, TX8, 9), (RX9, TX9, 37)]
end
section
/-! the small machine: cells by number; a reference is the number of its cell, the script is null -/
abbrev zM : Type := Nat → Nat → Int32
abbrev zR : Type := Nat → Nat → Option Nat
abbrev zS : Type := Nat × zR × zM
abbrev zX : Type := Nat × Nat × va_G × ClassId × ClassId × ClassId
abbrev zMt : Type := MethodName × ByteArray × Nat × Option FieldType × Nat × Nat
def zKl : List (Nat × Nat) := [(8, 0), (1, 0), (3, 0), (12, 3), (10, 15), (10, 15), (10, 15), (10, 3), (10, 15), (10, 16), (10, 41), (10, 41), (10, 81), (7, 0), (10, 12), (10, 12), (10, 12), (0, 0), (10, 16), (10, 16), (12, 3), (10, 5), (10, 5), (10, 5), (10, 60), (10, 60), (10, 60), (12, 60), (10, 5), (10, 5), (10, 5), (10, 5), (10, 5), (10, 5), (10, 5), (10, 5), (10, 5), (10, 5), (10, 5), (10, 5), (10, 5), (10, 5), (10, 5), (10, 5), (10, 5), (10, 5), (10, 5), (10, 5), (10, 5), (10, 5), (10, 5), (10, 5), (10, 5), (10, 5), (10, 5), (10, 5), (10, 5), (10, 5), (10, 5), (10, 5), (10, 5), (10, 5), (10, 5), (10, 5), (10, 5), (10, 5), (10, 5), (10, 5), (10, 5), (10, 5), (10, 5), (10, 5), (10, 5), (10, 5), (10, 5), (10, 5), (10, 5), (10, 5), (10, 5), (10, 5), (10, 5), (10, 5), (10, 5), (10, 5), (10, 5), (10, 5), (10, 5), (10, 5), (4, 0), (10, 23328), (12, 3), (10, 16), (10, 16), (10, 16), (10, 3), (10, 3), (10, 16), (10, 5), (5, 0), (12, 7), (10, 16), (10, 16), (10, 16), (10, 16), (10, 16), (10, 16), (10, 16), (12, 4), (10, 16), (10, 16), (10, 16), (10, 16), (10, 6), (10, 6), (6, 0), (10, 8), (10, 8), (2, 0), (10, 6), (10, 6), (12, 7), (10, 2101), (10, 2101), (10, 2101), (10, 2101), (10, 2101), (10, 2101), (10, 2101), (9, 0), (10, 16), (10, 16), (10, 45), (10, 12), (10, 12), (10, 12), (10, 15), (10, 60), (10, 60), (10, 60), (10, 300), (10, 112), (10, 9), (10, 6), (10, 6), (10, 3), (10, 3), (10, 24624), (10, 16), (11, 2592), (10, 6), (10, 6), (10, 10), (10, 9), (10, 102949)]
def zK (k : Nat) : Nat × Nat := zKl.getD k (14, 0)
def zNl : List Nat := [11, 3, 6, 12, 9, 7, 3, 5, 9, 37]
def zN (c : Nat) : Nat := zNl.getD c 0
def zIl : List (List Bool) := [[true, true, true, true, true, true, true, false, false, false, false], [false, false, false], [true, true, true, false, false, false], [true, true, true, true, true, true, true, false, false, false, false, false], [true, true, true, true, true, true, true, false, false], [true, true, true, true, false, false, false], [true, true, false], [true, true, true, true, false], [true, true, true, true, true, true, true, true, false], [false, true, true, false, false, false, true, false, false, true, true, true, true, false, false, true, true, true, true, true, true, false, true, true, false, true, true, false, true, true, true, true, true, false, true, true, true]]
def zIR (c j : Nat) : Bool := (zIl.getD c []).getD j false
def zSz (k : Nat) : Nat := if (zK k).1 < 10 then zN (zK k).1 else (zK k).2
def zSum : Nat → Nat
  | 0 => 0
  | n + 1 => zSum n + zSz n
def zRl : List (Nat × List (Option Nat)) := [(0, [some 1, some 2, some 13, some 17, some 88, some 98, some 114, some 117, none]), (1, [none, none, none]), (2, [some 3, some 7, some 8, some 9, some 10, some 11, some 12, none, none, none, none, none]), (13, [some 2, some 14, some 15, some 16, none]), (17, [some 18, some 19, some 20, some 24, some 25, some 26, some 27, none, none, none, none]), (88, [some 17, some 89, some 90, some 94, some 95, some 96, some 97, none, none]), (98, [some 99, some 107, some 112, some 113, none, none, none]), (114, [some 115, some 116, none]), (117, [some 118, some 119, some 120, none, none, none]), (128, [none, some 129, some 130, none, none, none, some 131, none, none, some 132, some 133, some 134, some 135, none, none, some 136, some 137, some 138, some 139, some 140, some 141, none, some 142, some 143, none, some 144, some 145, none, some 146, some 147, some 148, some 149, some 150, none, some 151, some 152, some 153])]
/-- the references once all is made -/
def zRF : zR := fun k i => if k < 154 then (if (zK k).1 = 12 then (if i < (zK k).2 then some (k + 1 + i) else none) else ((zRl.lookup k).getD []).getD i none) else none

def zV (X : zX) (v : Value) : Value := match v with
  | .ref k => .ref (X.2.1 + k)
  | .null => .ref X.1
  | v => v
def zFs (X : zX) (rf : zR) (mm : zM) (c k : Nat) : List Value := (List.range (zN c)).map (fun j => if zIR c j then va_rf ((rf k j).map (fun t => X.2.1 + t)) else .int (mm k j))
def zE (X : zX) (rf : zR) (mm : zM) (k : Nat) : va_E :=
  if (zK k).1 < 10 then .inr ((zK k).1, zFs X rf mm (zK k).1 k)
  else if (zK k).1 = 10 then .inl (X.2.2.2.1, (zK k).2, .inl (mm k))
  else if (zK k).1 = 11 then .inl (X.2.2.2.2.2, (zK k).2, .inl (mm k))
  else .inl (X.2.2.2.2.1, (zK k).2, .inr (.inr (.inr (.inr (fun i => (rf k i).map (fun t => X.2.1 + t))))))
def zWs (X : zX) (σ : zS) : va_W := (List.range σ.1).map (fun k => (X.2.1 + k, zE X σ.2.1 σ.2.2 k))
def zAp (X : zX) : Nat → Prop := fun q => X.2.1 ≤ q
def zWX (X : zX) (s : State) (σ : zS) (H : Heap) : Prop := H.size = X.2.1 + σ.1 ∧ σ.1 ≤ 154 ∧ X.1 < X.2.1 ∧ va_P X.2.2.1 vwCl (zWs X σ) H ∧ va_X X.1 (σ.2.2 155 0).toNatClampNeg (σ.2.2 154) s H
def zT : List Cond := lw_tbl.filter goodWord
def zNest : List Cond := [.methodLinkNest RX8 11 yX1_init RX8, .methodLinkNest RX8 34 yX0_init RX8, .methodLinkNest RX8 50 yX5_init RX8, .methodLinkNest RX8 57 yX6_init RX8, .methodLinkNest RX8 64 yX2_init RX8, .methodLinkNest RX0 63 yX8_within RX8]
def zNw (s : State) : Prop := (∀ w ∈ zNest, va_Nw w s) ∧ (Cond.arrayOver (.array .int)).before #[] s = true
def zTy (X : zX) : List (ClassId × FieldType) := [(X.2.2.2.1, .int), (X.2.2.2.2.1, .array .int), (X.2.2.2.2.2, .boolean)]
def zcc (M : zMt) (n : Nat) : Nat := if M.2.2.2.2.2 = 0 then 0 else n - M.2.2.2.2.1
def zss (M : zMt) (n : Nat) : Nat := if M.2.2.2.2.2 = 0 then 0 else zSum n - zSum M.2.2.2.2.1
def zRm (d : Nat) (M : zMt) : Room := { frames := d, cells := zcc M M.2.2.2.2.2, slots := zss M M.2.2.2.2.2, locals := 40 * d }
def zWd (M : zMt) : List Cond := Cond.code M.1 M.2.1 M.2.2.1 M.2.2.2.1 :: zT
def zPairs (X : zX) (L : List (Option Value)) : List (Nat × Value) := (List.range L.length).filterMap (fun i => (L[i]?.join).map (fun v => (i, zV X v)))
def zL (X : zX) (ls : Array Slot) (nL : Nat) (L : List (Option Value)) : Prop := lv_has ls nL (zPairs X L)
def zC (X : zX) (d : Nat) (M : zMt) (p : Program) (R : Room) (s : State) (m : MethodId) (args : Array Value) (meth : Method) (c : Code) : Prop :=
  p.tables.exec = Jvm.exec ∧ c.code = M.2.1 ∧ c.maxLocals = M.2.2.1 ∧ s.vm.findClass M.1.cls = some m.cls ∧ (∀ w ∈ zT, w.before args s = true) ∧ meth.sig.returnType = M.2.2.2.1 ∧ meth.locks = false ∧ va_K X.2.2.1 vwCl (zTy X) s ∧ zNw s ∧ (M.1.name = "<init>" → meth.name = M.1.name) ∧ d ≤ R.frames ∧ 40 * d ≤ R.locals ∧ zcc M M.2.2.2.2.2 ≤ R.cells ∧ zss M M.2.2.2.2.2 ≤ R.slots
def zRet (M : zMt) (pc : Nat) (r : List Value) : Prop := match r with
  | [] => decode M.2.1 pc = .ok (.return_, 1) ∧ M.2.2.2.1 = none
  | [.int v] => decode M.2.1 pc = .ok (.ireturn, 1) ∧ ∃ ty, M.2.2.2.1 = some ty ∧ narrow ty (.int v) = .int v
  | [.long _] => decode M.2.1 pc = .ok (.lreturn, 1) ∧ M.2.2.2.1 = some .long
  | _ => False
def zEnd (M : zMt) (nn : Nat) (σ : zS) : Prop := σ.1 = if M.2.2.2.2.2 = 0 then nn else M.2.2.2.2.2
def zH (X : zX) (M : zMt) (p : Program) (l : Launch) (e : Env) (R : Room) (s : State) (m : MethodId) (args : Array Value) (below : List Frame) (meth : Method) (c : Code) (Q : State → Prop) (nn : Nat) (K : List Value → zS → Prop) : Prop :=
  ∀ (r : List Value) (σ' : zS) (H' : Heap) (locs' : List Loc) (pc' : Nat) (ls' : Array Slot), K r σ' → zEnd M nn σ' → zWX X s σ' H' → va_S (zAp X) s.heap H' locs' → zRet M pc' r →
    W p l e R s m args below meth c H' locs' (zcc M σ'.1) (zss M σ'.1) Q (F0 m pc' ls' (r.map (zV X)))
/-- the method M stands at pc, with these numbers in its places, on its stack and in the cells: it comes to an end that K holds of -/
def wx (d : Nat) (M : zMt) (pc : Nat) (L : List (Option Value)) (st : List Value) (σ : zS) (K : List Value → zS → Prop) : Prop :=
  ∀ (X : zX) (p : Program) (l : Launch) (e : Env) (R : Room) (s : State) (m : MethodId) (args : Array Value) (below : List Frame) (meth : Method) (c : Code) (Q : State → Prop) (nn : Nat),
    zC X d M p R s m args meth c → (M.2.2.2.2.2 = 0 → σ.1 = nn) → zH X M p l e R s m args below meth c Q nn K →
    ∀ (H : Heap) (locs : List Loc) (ls : Array Slot), zWX X s σ H → va_S (zAp X) s.heap H locs → zL X ls M.2.2.1 L →
      W p l e R s m args below meth c H locs (zcc M σ.1) (zss M σ.1) Q (F0 m pc ls (st.map (zV X)))
def zPc (X : zX) (av : List Value) (σ : zS) : Array Value → State → Prop := va_Pc (av.map (zV X)) (fun U => zWX X U σ U.heap ∧ va_K X.2.2.1 vwCl (zTy X) U ∧ zNw U)
def zQc (X : zX) (M : zMt) (nn : Nat) (K : List Value → zS → Prop) : Array Value → State → Outcome → State → Prop := fun _ st oc t =>
  ∃ (r : List Value) (σ' : zS), K r σ' ∧ zEnd M nn σ' ∧ r.length ≤ 1 ∧ oc = .returned ((r.map (zV X)).head?) ∧ zWX X t σ' t.heap ∧ va_F (zAp X) st t
/-- the method M, called with these, comes to an end that K holds of -/
def wm (d : Nat) (M : zMt) (av : List Value) (σ : zS) (K : List Value → zS → Prop) : Prop :=
  ∀ (X : zX) (l : Launch), Met l M.1 (zWd M) (zRm d M) (zPc X av σ) (zQc X M σ.1 K) (zcc M M.2.2.2.2.2) (zss M M.2.2.2.2.2) (zAp X)
end
section
/-! facts of the words, the world as a list, the places -/
theorem zT_good {w : Cond} (h : w ∈ zT) : goodWord w = true := (List.mem_filter.mp h).2
theorem zT_of {w : Cond} (i : Nat) (h : lw_tbl[i]? = some w) (g : goodWord w = true) : w ∈ zT := List.mem_filter.mpr ⟨List.mem_of_getElem? h, g⟩
theorem zT_pay {args : Array Value} {s : State} (hts : ∀ w ∈ zT, w.before args s = true) {M : zMt} (hc : Cond.code M.1 M.2.1 M.2.2.1 M.2.2.2.1 ∈ zT) : ∀ w ∈ zWd M, ∀ (a' : Array Value) (U : State), s.WarmedH U.vm → w.before a' U = true :=
  pay_in hts (fun w hw => by
    have h : w ∈ zT := by
      rcases List.mem_cons.mp hw with e | h
      · rw [e]; exact hc
      · exact h
    exact ⟨h, good_of_word (zT_good h)⟩)
theorem zAO_moved {u U : State} (hvm : u.vm.Alike U.vm) (h : (Cond.arrayOver (.array .int)).before #[] u = true) : (Cond.arrayOver (.array .int)).before #[] U = true := by
  have h1 : (Cond.arrayOver (.array .int)).before #[] (u.setVm U.vm) = true := Cond.overAtom_setVm hvm _ rfl h
  exact h1
theorem zNw_warm {s U : State} (hW : s.WarmedH U.vm) (h : zNw s) : zNw U := by
  refine ⟨fun w hw => ?_, zAO_moved hW.alike h.2⟩
  have h1 := h.1 w hw
  simp only [zNest, List.mem_cons, List.not_mem_nil, or_false] at hw
  rcases hw with rfl | rfl | rfl | rfl | rfl | rfl <;> exact va_Nw.warmM hW h1
theorem zNw_same {s U : State} (e : s.vm = U.vm) (h : zNw s) : zNw U := by
  refine ⟨fun w hw => ?_, zAO_moved (by rw [e]; exact Vm.Alike.refl U.vm) h.2⟩
  have h1 := h.1 w hw
  refine va_Nw.same ?_ e h1
  simp only [zNest, List.mem_cons, List.not_mem_nil, or_false] at hw
  rcases hw with rfl | rfl | rfl | rfl | rfl | rfl <;> rfl
theorem zWs_get {X : zX} {σ : zS} {k : Nat} (h : k < σ.1) : (zWs X σ)[k]? = some (X.2.1 + k, zE X σ.2.1 σ.2.2 k) := by
  simp [zWs, h]
theorem zWs_none {X : zX} {σ : zS} {k : Nat} (h : σ.1 ≤ k) : (zWs X σ)[k]? = none := by
  simp [zWs, h]
theorem zWs_of {X : zX} {σ : zS} {k : Nat} {q : Nat × va_E} (h : (zWs X σ)[k]? = some q) : k < σ.1 ∧ q = (X.2.1 + k, zE X σ.2.1 σ.2.2 k) := by
  rcases Nat.lt_or_ge k σ.1 with h1 | h1
  · exact ⟨h1, (Option.some.inj ((zWs_get h1).symm.trans h)).symm⟩
  · rw [zWs_none h1] at h; cases h
theorem zWs_D {X : zX} {σ : zS} : va_D (zAp X) (zWs X σ) := by
  refine ⟨fun i j p q hi hj h => ?_, fun k q hk => ?_⟩
  · obtain ⟨-, rfl⟩ := zWs_of hi
    obtain ⟨-, rfl⟩ := zWs_of hj
    exact Nat.add_left_cancel h
  · obtain ⟨-, rfl⟩ := zWs_of hk
    exact Nat.le_add_right _ _
theorem zWs_set {X : zX} {n : Nat} {rf rf' : zR} {mm mm' : zM} {k : Nat} {e : va_E} (h : k < n) (he : e = zE X rf' mm' k) (ho : ∀ a, a ≠ k → zE X rf' mm' a = zE X rf mm a) : (zWs X (n, rf, mm)).set k (X.2.1 + k, e) = zWs X (n, rf', mm') := by
  subst he
  have hl : k < (zWs X (n, rf, mm)).length := (List.getElem?_eq_some_iff.mp (zWs_get (σ := (n, rf, mm)) h)).1
  apply List.ext_getElem?
  intro i
  by_cases e : i = k
  · subst e
    rw [List.getElem?_set_self hl]
    exact (zWs_get (σ := (n, rf', mm')) h).symm
  · rw [List.getElem?_set_ne (Ne.symm e)]
    by_cases hi : i < n
    · rw [zWs_get (σ := (n, rf, mm)) hi, zWs_get (σ := (n, rf', mm')) hi]
      show some (_, zE X rf mm i) = some (_, zE X rf' mm' i)
      rw [ho i e]
    · rw [zWs_none (σ := (n, rf, mm)) (Nat.not_lt.mp hi), zWs_none (σ := (n, rf', mm')) (Nat.not_lt.mp hi)]
theorem zE_obj {X : zX} {rf : zR} {mm : zM} {k ci : Nat} (h : (zK k).1 = ci) (hc : ci < 10) : zE X rf mm k = .inr (ci, zFs X rf mm ci k) := by
  subst h
  unfold zE
  rw [if_pos hc]
theorem zE_int {X : zX} {rf : zR} {mm : zM} {k n : Nat} (h : zK k = (10, n)) : zE X rf mm k = .inl (X.2.2.2.1, n, .inl (mm k)) := by
  unfold zE
  rw [h, if_neg (show ¬ (10 : Nat) < 10 by decide), if_pos rfl]
theorem zE_bool {X : zX} {rf : zR} {mm : zM} {k n : Nat} (h : zK k = (11, n)) : zE X rf mm k = .inl (X.2.2.2.2.2, n, .inl (mm k)) := by
  unfold zE
  rw [h, if_neg (show ¬ (11 : Nat) < 10 by decide), if_neg (show ¬ (11 : Nat) = 10 by decide), if_pos rfl]
theorem zE_out {X : zX} {rf : zR} {mm : zM} {k n : Nat} (h : zK k = (12, n)) : zE X rf mm k = .inl (X.2.2.2.2.1, n, .inr (.inr (.inr (.inr (fun i => (rf k i).map (fun t => X.2.1 + t)))))) := by
  unfold zE
  rw [h, if_neg (show ¬ (12 : Nat) < 10 by decide), if_neg (show ¬ (12 : Nat) = 10 by decide), if_neg (show ¬ (12 : Nat) = 11 by decide)]
theorem zE_cong {X : zX} {rf rf' : zR} {mm mm' : zM} {a : Nat} (h1 : rf' a = rf a) (h2 : mm' a = mm a) : zE X rf' mm' a = zE X rf mm a := by
  unfold zE zFs
  rw [h1, h2]
theorem zFs_len {X : zX} {rf : zR} {mm : zM} {c k : Nat} : (zFs X rf mm c k).length = zN c := by simp [zFs]
theorem zFs_int {X : zX} {rf : zR} {mm : zM} {c k j : Nat} (hj : j < zN c) (h : zIR c j = false) : (zFs X rf mm c k)[j]? = some (.int (mm k j)) := by
  simp [zFs, hj, h]
theorem zFs_ref {X : zX} {rf : zR} {mm : zM} {c k j t : Nat} (hj : j < zN c) (h : zIR c j = true) (hr : rf k j = some t) : (zFs X rf mm c k)[j]? = some (.ref (X.2.1 + t)) := by
  simp [zFs, hj, h, hr, va_rf]
/-- the numbers, but v at place j of cell k -/
def zU (mm : zM) (k j : Nat) (v : Int32) : zM := va_up mm k (upd (mm k) j v)
/-- the references, but t at place j of cell k -/
def zUr (rf : zR) (k j t : Nat) : zR := va_up rf k (va_up (rf k) j (some t))
theorem zU_ne {mm : zM} {k j a : Nat} {v : Int32} (h : a ≠ k) : zU mm k j v a = mm a := if_neg h
theorem zU_at (mm : zM) (k j : Nat) (v : Int32) : zU mm k j v k = upd (mm k) j v := if_pos rfl
theorem zU_same (mm : zM) (k j : Nat) (v : Int32) : zU mm k j v k j = v := by rw [zU_at]; exact if_pos rfl
theorem zU_off {mm : zM} {k j a i : Nat} {v : Int32} (h : ¬ (a = k ∧ i = j)) : zU mm k j v a i = mm a i := by
  by_cases e : a = k
  · subst e
    rw [zU_at]
    exact if_neg (fun q => h ⟨rfl, q⟩)
  · rw [zU_ne e]
theorem zUr_ne {rf : zR} {k j t a : Nat} (h : a ≠ k) : zUr rf k j t a = rf a := if_neg h
theorem zFs_set {X : zX} {rf : zR} {mm : zM} {c k j : Nat} {v : Int32} (h : zIR c j = false) : (zFs X rf mm c k).set j (.int v) = zFs X rf (zU mm k j v) c k := by
  apply List.ext_getElem?
  intro i
  by_cases hi : i < zN c
  · by_cases e : i = j
    · subst e
      rw [List.getElem?_set_self (by rw [zFs_len]; exact hi), zFs_int hi h, zU_same]
    · rw [List.getElem?_set_ne (Ne.symm e)]
      simp only [zFs, List.getElem?_map, List.getElem?_range hi, Option.map_some]
      rw [zU_off (fun q => e q.2)]
  · rw [List.getElem?_eq_none (by rw [List.length_set, zFs_len]; omega), List.getElem?_eq_none (by rw [zFs_len]; omega)]
theorem zFs_setr {X : zX} {rf : zR} {mm : zM} {c k j t : Nat} (h : zIR c j = true) : (zFs X rf mm c k).set j (.ref (X.2.1 + t)) = zFs X (zUr rf k j t) mm c k := by
  apply List.ext_getElem?
  intro i
  by_cases hi : i < zN c
  · by_cases e : i = j
    · subst e
      rw [List.getElem?_set_self (by rw [zFs_len]; exact hi), zFs_ref hi h (by show va_up rf k (va_up (rf k) i (some t)) k i = some t; simp [va_up])]
    · rw [List.getElem?_set_ne (Ne.symm e)]
      simp only [zFs, List.getElem?_map, List.getElem?_range hi, Option.map_some]
      have : zUr rf k j t k i = rf k i := by simp [zUr, va_up, e]
      rw [this]
  · rw [List.getElem?_eq_none (by rw [List.length_set, zFs_len]; omega), List.getElem?_eq_none (by rw [zFs_len]; omega)]
theorem zWX_moved {X : zX} {s t : State} {σ : zS} {H : Heap} (hvm : s.vm.Alike t.vm) (h : zWX X s σ H) : zWX X t σ H := ⟨h.1, h.2.1, h.2.2.1, h.2.2.2.1, h.2.2.2.2.moved hvm⟩
theorem zL_get {X : zX} {ls : Array Slot} {nL i : Nat} {L : List (Option Value)} {v : Value} (h : zL X ls nL L) (hi : L[i]? = some (some v)) : ls[i]? = some (.val (zV X v)) := by
  refine h.2.2 (i, zV X v) (List.mem_filterMap.mpr ⟨i, List.mem_range.mpr ?_, ?_⟩)
  · exact (List.getElem?_eq_some_iff.mp hi).1
  · rw [hi]; rfl
theorem zPairs_mem {X : zX} {L : List (Option Value)} {q : Nat × Value} (h : q ∈ zPairs X L) : ∃ v, L[q.1]? = some (some v) ∧ q.2 = zV X v := by
  obtain ⟨i, -, h1⟩ := List.mem_filterMap.mp h
  cases hL : L[i]? with
  | none => rw [hL] at h1; cases h1
  | some o =>
    cases o with
    | none => rw [hL] at h1; cases h1
    | some v => rw [hL] at h1; cases h1; exact ⟨v, hL, rfl⟩
theorem zPairs_in {X : zX} {L : List (Option Value)} {i : Nat} {v : Value} (h : L[i]? = some (some v)) : (i, zV X v) ∈ zPairs X L := by
  refine List.mem_filterMap.mpr ⟨i, List.mem_range.mpr (List.getElem?_eq_some_iff.mp h).1, ?_⟩
  rw [h]; rfl
theorem zV_cat {X : zX} {v : Value} : (zV X v).category = v.category := by cases v <;> rfl
/-- no long begins just ahead of place i -/
def zNoL (L : List (Option Value)) (i : Nat) : Bool := match i with
  | 0 => true
  | j + 1 => match L[j]? with
    | some (some v) => v.category != 2
    | _ => true
theorem zNoL_of {L : List (Option Value)} {i j : Nat} {v : Value} (h : zNoL L i = true) (hj : L[j]? = some (some v)) (e : j + 1 = i) : v.category ≠ 2 := by
  subst e
  simp only [zNoL, hj] at h
  simpa using h
theorem zL_st1 {X : zX} {ls : Array Slot} {nL i : Nat} {L : List (Option Value)} {v : Value} (hn : zNoL L i = true) (h : lv_has ls nL ((i, zV X v) :: (zPairs X L).filter (fun q => !(q.1 == i) && !(q.1 + 1 == i && q.2.category == 2)))) : zL X ls nL (L.set i (some v)) := by
  refine ⟨h.1, h.2.1, fun q hq => ?_⟩
  obtain ⟨w, h1, h2⟩ := zPairs_mem hq
  by_cases e : q.1 = i
  · have hw : w = v := by
      rw [e] at h1
      have hlt : i < L.length := by have := (List.getElem?_eq_some_iff.mp h1).1; rwa [List.length_set] at this
      rw [List.getElem?_set_self hlt] at h1
      exact (Option.some.inj (Option.some.inj h1)).symm
    subst hw
    have := h.2.2 (i, zV X w) List.mem_cons_self
    rw [h2, e]; exact this
  · rw [List.getElem?_set_ne (fun z => e z.symm)] at h1
    refine h.2.2 q (List.mem_cons_of_mem _ (List.mem_filter.mpr ⟨?_, ?_⟩))
    · have := zPairs_in (X := X) h1
      rw [← h2] at this; exact this
    · have h3 := fun z => zNoL_of hn h1 z
      rw [h2, zV_cat]
      simp only [Bool.and_eq_true, Bool.not_eq_true', beq_eq_false_iff_ne, ne_eq, Bool.and_eq_false_iff]
      refine ⟨e, ?_⟩
      by_cases z : q.1 + 1 = i
      · exact Or.inr (h3 z)
      · exact Or.inl z
theorem zL_st2 {X : zX} {ls : Array Slot} {nL i : Nat} {L : List (Option Value)} {v : Value} (hn : zNoL L i = true) (h : lv_has ls nL ((i, zV X v) :: (zPairs X L).filter (fun q => !(q.1 == i) && (!(q.1 == i + 1) && !(q.1 + 1 == i && q.2.category == 2))))) : zL X ls nL ((L.set i (some v)).set (i + 1) none) := by
  refine ⟨h.1, h.2.1, fun q hq => ?_⟩
  obtain ⟨w, h1, h2⟩ := zPairs_mem hq
  have e1 : q.1 ≠ i + 1 := by
    intro z
    rw [z] at h1
    have hlt := (List.getElem?_eq_some_iff.mp h1).1
    rw [List.length_set] at hlt
    rw [List.getElem?_set_self hlt] at h1
    cases h1
  rw [List.getElem?_set_ne (fun z => e1 z.symm)] at h1
  by_cases e : q.1 = i
  · have hw : w = v := by
      rw [e] at h1
      have hlt : i < L.length := by have := (List.getElem?_eq_some_iff.mp h1).1; rwa [List.length_set] at this
      rw [List.getElem?_set_self hlt] at h1
      exact (Option.some.inj (Option.some.inj h1)).symm
    subst hw
    have := h.2.2 (i, zV X w) List.mem_cons_self
    rw [h2, e]; exact this
  · rw [List.getElem?_set_ne (fun z => e z.symm)] at h1
    refine h.2.2 q (List.mem_cons_of_mem _ (List.mem_filter.mpr ⟨?_, ?_⟩))
    · have := zPairs_in (X := X) h1
      rw [← h2] at this; exact this
    · have h3 := fun z => zNoL_of hn h1 z
      rw [h2, zV_cat]
      simp only [Bool.and_eq_true, Bool.not_eq_true', beq_eq_false_iff_ne, ne_eq, Bool.and_eq_false_iff]
      refine ⟨e, e1, ?_⟩
      by_cases z : q.1 + 1 = i
      · exact Or.inr (h3 z)
      · exact Or.inl z
/-- the places with which a method begins -/
def zArgs : List Value → List (Option Value)
  | [] => []
  | v :: vs => if v.category = 2 then some v :: none :: zArgs vs else some v :: zArgs vs
theorem zArgs_len : ∀ (X : zX) (vs : List Value), (lg_sl (vs.map (zV X))).length = (zArgs vs).length
  | X, [] => rfl
  | X, v :: vs => by
    have ih := zArgs_len X vs
    simp only [lg_sl, List.map_cons, List.flatMap_cons, List.length_append, zArgs, zV_cat] at ih ⊢
    by_cases h : v.category = 2 <;> simp [h, ih] <;> omega
theorem zArgs_in : ∀ (X : zX) (vs : List Value) (o i : Nat) (v : Value), (zArgs vs)[i]? = some (some v) → (o + i, zV X v) ∈ lv_args o (vs.map (zV X))
  | X, [], o, i, v, h => by simp [zArgs] at h
  | X, w :: vs, o, i, v, h => by
    simp only [List.map_cons, lv_args, zV_cat]
    by_cases hc : w.category = 2
    · simp only [zArgs, if_pos hc] at h ⊢
      match i, h with
      | 0, h => simp at h; subst h; exact List.mem_cons_self
      | 1, h => simp at h
      | i + 2, h =>
        have h' : (zArgs vs)[i]? = some (some v) := by simpa using h
        have := zArgs_in X vs (o + 2) i v h'
        exact List.mem_cons_of_mem _ (by rw [show o + (i + 2) = o + 2 + i by omega]; exact this)
    · simp only [zArgs, if_neg hc] at h ⊢
      match i, h with
      | 0, h => simp at h; subst h; exact List.mem_cons_self
      | i + 1, h =>
        have h' : (zArgs vs)[i]? = some (some v) := by simpa using h
        have := zArgs_in X vs (o + 1) i v h'
        exact List.mem_cons_of_mem _ (by rw [show o + (i + 1) = o + 1 + i by omega]; exact this)
theorem zL_entry {X : zX} {av : List Value} {nL : Nat} (h : (zArgs av).length ≤ nL) : zL X ((lg_sl (av.map (zV X)) ++ List.replicate (nL - (lg_sl (av.map (zV X))).length) Slot.unset).toArray) nL (zArgs av ++ List.replicate (nL - (zArgs av).length) none) := by
  have h0 := lv_entry (av.map (zV X)) (n := nL) (by rw [zArgs_len]; exact h)
  refine ⟨h0.1, h0.2.1, fun q hq => ?_⟩
  obtain ⟨v, h1, h2⟩ := zPairs_mem hq
  rcases Nat.lt_or_ge q.1 (zArgs av).length with hl | hl
  · rw [List.getElem?_append_left hl] at h1
    have := zArgs_in X av 0 q.1 v h1
    rw [Nat.zero_add, ← h2] at this
    exact h0.2.2 q this
  · rw [List.getElem?_append_right hl, List.getElem?_replicate] at h1
    split at h1 <;> cases h1
theorem zSum_mono : ∀ {a b : Nat}, a ≤ b → zSum a ≤ zSum b := by
  intro a b h
  induction h with
  | refl => exact Nat.le_refl _
  | step _ ih => exact Nat.le_trans ih (Nat.le_add_right _ _)
end
section
/-! one row an instruction, of the small machine -/
section ZST
variable {d : Nat} {M : zMt} {pc : Nat} {L : List (Option Value)} {st : List Value} {σ : zS} {K : List Value → zS → Prop}
theorem wx_iload_n {k : Fin 4} {i : Nat} {v : Int32} (hd : decode M.2.1 pc = .ok (.iload_n k, 1)) (hi : (k : Nat) = i) (hl0 : L[i]? = some (some (.int v))) (kk : wx d M (pc + 1) L (.int v :: st) σ K) : wx d M pc L st σ K := by
  intro X p l e R s m args below meth c Q nn hC hn hr H locs ls hW hS hl
  obtain ⟨hx, hb, hml, hown, hts, hret, hlk, hK, hNw, hnm, hdR, hlR, hcR, hsR⟩ := id hC
  exact lv_iload_n hx hb hd hi (zL_get hl hl0) (kk X p l e R s m args below meth c Q nn hC hn hr H locs ls hW hS hl)
theorem wx_iload {i : Nat} {v : Int32} (hd : decode M.2.1 pc = .ok (.iload i, 2)) (hl0 : L[i]? = some (some (.int v))) (kk : wx d M (pc + 2) L (.int v :: st) σ K) : wx d M pc L st σ K := by
  intro X p l e R s m args below meth c Q nn hC hn hr H locs ls hW hS hl
  obtain ⟨hx, hb, hml, hown, hts, hret, hlk, hK, hNw, hnm, hdR, hlR, hcR, hsR⟩ := id hC
  exact lv_iload hx hb hd (zL_get hl hl0) (kk X p l e R s m args below meth c Q nn hC hn hr H locs ls hW hS hl)
theorem wx_lload_n {k : Fin 4} {i : Nat} {v : Int64} (hd : decode M.2.1 pc = .ok (.lload_n k, 1)) (hi : (k : Nat) = i) (hl0 : L[i]? = some (some (.long v))) (kk : wx d M (pc + 1) L (.long v :: st) σ K) : wx d M pc L st σ K := by
  intro X p l e R s m args below meth c Q nn hC hn hr H locs ls hW hS hl
  obtain ⟨hx, hb, hml, hown, hts, hret, hlk, hK, hNw, hnm, hdR, hlR, hcR, hsR⟩ := id hC
  exact lv_lload_n hx hb hd hi (zL_get hl hl0) (kk X p l e R s m args below meth c Q nn hC hn hr H locs ls hW hS hl)
theorem wx_lload {i : Nat} {v : Int64} (hd : decode M.2.1 pc = .ok (.lload i, 2)) (hl0 : L[i]? = some (some (.long v))) (kk : wx d M (pc + 2) L (.long v :: st) σ K) : wx d M pc L st σ K := by
  intro X p l e R s m args below meth c Q nn hC hn hr H locs ls hW hS hl
  obtain ⟨hx, hb, hml, hown, hts, hret, hlk, hK, hNw, hnm, hdR, hlR, hcR, hsR⟩ := id hC
  exact lv_lload hx hb hd (zL_get hl hl0) (kk X p l e R s m args below meth c Q nn hC hn hr H locs ls hW hS hl)
theorem wx_aload_n {k : Fin 4} {i : Nat} {v : Nat} (hd : decode M.2.1 pc = .ok (.aload_n k, 1)) (hi : (k : Nat) = i) (hl0 : L[i]? = some (some (.ref v))) (kk : wx d M (pc + 1) L (.ref v :: st) σ K) : wx d M pc L st σ K := by
  intro X p l e R s m args below meth c Q nn hC hn hr H locs ls hW hS hl
  obtain ⟨hx, hb, hml, hown, hts, hret, hlk, hK, hNw, hnm, hdR, hlR, hcR, hsR⟩ := id hC
  exact lv_aload_n hx hb hd hi (zL_get hl hl0) (kk X p l e R s m args below meth c Q nn hC hn hr H locs ls hW hS hl)
theorem wx_aload {i : Nat} {v : Nat} (hd : decode M.2.1 pc = .ok (.aload i, 2)) (hl0 : L[i]? = some (some (.ref v))) (kk : wx d M (pc + 2) L (.ref v :: st) σ K) : wx d M pc L st σ K := by
  intro X p l e R s m args below meth c Q nn hC hn hr H locs ls hW hS hl
  obtain ⟨hx, hb, hml, hown, hts, hret, hlk, hK, hNw, hnm, hdR, hlR, hcR, hsR⟩ := id hC
  exact lv_aload hx hb hd (zL_get hl hl0) (kk X p l e R s m args below meth c Q nn hC hn hr H locs ls hW hS hl)
theorem wx_aloads_n {k : Fin 4} {i : Nat} (hd : decode M.2.1 pc = .ok (.aload_n k, 1)) (hi : (k : Nat) = i) (hl0 : L[i]? = some (some .null)) (kk : wx d M (pc + 1) L (.null :: st) σ K) : wx d M pc L st σ K := by
  intro X p l e R s m args below meth c Q nn hC hn hr H locs ls hW hS hl
  obtain ⟨hx, hb, hml, hown, hts, hret, hlk, hK, hNw, hnm, hdR, hlR, hcR, hsR⟩ := id hC
  exact lv_aload_n hx hb hd hi (zL_get hl hl0) (kk X p l e R s m args below meth c Q nn hC hn hr H locs ls hW hS hl)
theorem wx_iconst {n : Int} {v : Int32} (hd : decode M.2.1 pc = .ok (.iconst n, 1)) (hv : Int32.ofInt n = v) (kk : wx d M (pc + 1) L (.int v :: st) σ K) : wx d M pc L st σ K := by
  intro X p l e R s m args below meth c Q nn hC hn hr H locs ls hW hS hl
  obtain ⟨hx, hb, hml, hown, hts, hret, hlk, hK, hNw, hnm, hdR, hlR, hcR, hsR⟩ := id hC
  exact lv_iconst hx hb hd hv (kk X p l e R s m args below meth c Q nn hC hn hr H locs ls hW hS hl)
theorem wx_bipush {n : Int} {v : Int32} (hd : decode M.2.1 pc = .ok (.bipush n, 2)) (hv : (Int8.ofInt n).toInt32 = v) (kk : wx d M (pc + 2) L (.int v :: st) σ K) : wx d M pc L st σ K := by
  intro X p l e R s m args below meth c Q nn hC hn hr H locs ls hW hS hl
  obtain ⟨hx, hb, hml, hown, hts, hret, hlk, hK, hNw, hnm, hdR, hlR, hcR, hsR⟩ := id hC
  exact lv_bipush hx hb hd hv (kk X p l e R s m args below meth c Q nn hC hn hr H locs ls hW hS hl)
theorem wx_sipush {n : Int} {v : Int32} (hd : decode M.2.1 pc = .ok (.sipush n, 3)) (hv : (Int16.ofInt n).toInt32 = v) (kk : wx d M (pc + 3) L (.int v :: st) σ K) : wx d M pc L st σ K := by
  intro X p l e R s m args below meth c Q nn hC hn hr H locs ls hW hS hl
  obtain ⟨hx, hb, hml, hown, hts, hret, hlk, hK, hNw, hnm, hdR, hlR, hcR, hsR⟩ := id hC
  exact lv_sipush hx hb hd hv (kk X p l e R s m args below meth c Q nn hC hn hr H locs ls hW hS hl)
theorem wx_lconst {n : Fin 2} {v : Int64} (hd : decode M.2.1 pc = .ok (.lconst n, 1)) (hv : Int64.ofNat (n : Nat) = v) (kk : wx d M (pc + 1) L (.long v :: st) σ K) : wx d M pc L st σ K := by
  intro X p l e R s m args below meth c Q nn hC hn hr H locs ls hW hS hl
  obtain ⟨hx, hb, hml, hown, hts, hret, hlk, hK, hNw, hnm, hdR, hlR, hcR, hsR⟩ := id hC
  exact lv_lconst hx hb hd hv (kk X p l e R s m args below meth c Q nn hC hn hr H locs ls hW hS hl)
theorem wx_ldc {i : Nat} {v : Int32} (hd : decode M.2.1 pc = .ok (.ldc i, 2)) (hv : Cond.constant M.1.cls i v ∈ zT) (kk : wx d M (pc + 2) L (.int v :: st) σ K) : wx d M pc L st σ K := by
  intro X p l e R s m args below meth c Q nn hC hn hr H locs ls hW hS hl
  obtain ⟨hx, hb, hml, hown, hts, hret, hlk, hK, hNw, hnm, hdR, hlR, hcR, hsR⟩ := id hC
  exact lv_ldc hx hb hown (hts _ hv) hd (kk X p l e R s m args below meth c Q nn hC hn hr H locs ls hW hS hl)
theorem wx_ldcw {i : Nat} {v : Int32} (hd : decode M.2.1 pc = .ok (.ldc_w i, 3)) (hv : Cond.constant M.1.cls i v ∈ zT) (kk : wx d M (pc + 3) L (.int v :: st) σ K) : wx d M pc L st σ K := by
  intro X p l e R s m args below meth c Q nn hC hn hr H locs ls hW hS hl
  obtain ⟨hx, hb, hml, hown, hts, hret, hlk, hK, hNw, hnm, hdR, hlR, hcR, hsR⟩ := id hC
  exact lv_ldcw hx hb hown (hts _ hv) hd (kk X p l e R s m args below meth c Q nn hC hn hr H locs ls hW hS hl)
theorem wx_ldc2 {i : Nat} {v : Int64} (hd : decode M.2.1 pc = .ok (.ldc2_w i, 3)) (hv : Cond.constantLong M.1.cls i v ∈ zT) (kk : wx d M (pc + 3) L (.long v :: st) σ K) : wx d M pc L st σ K := by
  intro X p l e R s m args below meth c Q nn hC hn hr H locs ls hW hS hl
  obtain ⟨hx, hb, hml, hown, hts, hret, hlk, hK, hNw, hnm, hdR, hlR, hcR, hsR⟩ := id hC
  exact lv_ldc2 hx hb hown (hts _ hv) hd (kk X p l e R s m args below meth c Q nn hC hn hr H locs ls hW hS hl)
theorem wx_istore_n {k : Fin 4} {i : Nat} {v : Int32} (hd : decode M.2.1 pc = .ok (.istore_n k, 1)) (hi : (k : Nat) = i) (hin : i < M.2.2.1) (hno : zNoL L i = true) (kk : wx d M (pc + 1) (L.set i (some (.int v))) st σ K) : wx d M pc L (.int v :: st) σ K := by
  intro X p l e R s m args below meth c Q nn hC hn hr H locs ls hW hS hl
  obtain ⟨hx, hb, hml, hown, hts, hret, hlk, hK, hNw, hnm, hdR, hlR, hcR, hsR⟩ := id hC
  exact lv_istore_n hx hb hd hi hl hin rfl (fun ls2 hl2 => kk X p l e R s m args below meth c Q nn hC hn hr H locs ls2 hW hS (zL_st1 (v := .int v) hno hl2))
theorem wx_istore {i : Nat} {v : Int32} (hd : decode M.2.1 pc = .ok (.istore i, 2)) (hin : i < M.2.2.1) (hno : zNoL L i = true) (kk : wx d M (pc + 2) (L.set i (some (.int v))) st σ K) : wx d M pc L (.int v :: st) σ K := by
  intro X p l e R s m args below meth c Q nn hC hn hr H locs ls hW hS hl
  obtain ⟨hx, hb, hml, hown, hts, hret, hlk, hK, hNw, hnm, hdR, hlR, hcR, hsR⟩ := id hC
  exact lv_istore hx hb hd hl hin rfl (fun ls2 hl2 => kk X p l e R s m args below meth c Q nn hC hn hr H locs ls2 hW hS (zL_st1 (v := .int v) hno hl2))
theorem wx_astore_n {k : Fin 4} {i : Nat} {v : Nat} (hd : decode M.2.1 pc = .ok (.astore_n k, 1)) (hi : (k : Nat) = i) (hin : i < M.2.2.1) (hno : zNoL L i = true) (kk : wx d M (pc + 1) (L.set i (some (.ref v))) st σ K) : wx d M pc L (.ref v :: st) σ K := by
  intro X p l e R s m args below meth c Q nn hC hn hr H locs ls hW hS hl
  obtain ⟨hx, hb, hml, hown, hts, hret, hlk, hK, hNw, hnm, hdR, hlR, hcR, hsR⟩ := id hC
  exact lv_astore_n hx hb hd hi hl hin rfl (fun ls2 hl2 => kk X p l e R s m args below meth c Q nn hC hn hr H locs ls2 hW hS (zL_st1 (v := .ref v) hno hl2))
theorem wx_astore {i : Nat} {v : Nat} (hd : decode M.2.1 pc = .ok (.astore i, 2)) (hin : i < M.2.2.1) (hno : zNoL L i = true) (kk : wx d M (pc + 2) (L.set i (some (.ref v))) st σ K) : wx d M pc L (.ref v :: st) σ K := by
  intro X p l e R s m args below meth c Q nn hC hn hr H locs ls hW hS hl
  obtain ⟨hx, hb, hml, hown, hts, hret, hlk, hK, hNw, hnm, hdR, hlR, hcR, hsR⟩ := id hC
  exact lv_astore hx hb hd hl hin rfl (fun ls2 hl2 => kk X p l e R s m args below meth c Q nn hC hn hr H locs ls2 hW hS (zL_st1 (v := .ref v) hno hl2))
theorem wx_lstore_n {k : Fin 4} {i : Nat} {v : Int64} (hd : decode M.2.1 pc = .ok (.lstore_n k, 1)) (hi : (k : Nat) = i) (hin : i + 1 < M.2.2.1) (hno : zNoL L i = true) (kk : wx d M (pc + 1) ((L.set i (some (.long v))).set (i + 1) none) st σ K) : wx d M pc L (.long v :: st) σ K := by
  intro X p l e R s m args below meth c Q nn hC hn hr H locs ls hW hS hl
  obtain ⟨hx, hb, hml, hown, hts, hret, hlk, hK, hNw, hnm, hdR, hlR, hcR, hsR⟩ := id hC
  exact lv_lstore_n hx hb hd hi hl hin rfl (fun ls2 hl2 => kk X p l e R s m args below meth c Q nn hC hn hr H locs ls2 hW hS (zL_st2 (v := .long v) hno hl2))
theorem wx_lstore {i : Nat} {v : Int64} (hd : decode M.2.1 pc = .ok (.lstore i, 2)) (hin : i + 1 < M.2.2.1) (hno : zNoL L i = true) (kk : wx d M (pc + 2) ((L.set i (some (.long v))).set (i + 1) none) st σ K) : wx d M pc L (.long v :: st) σ K := by
  intro X p l e R s m args below meth c Q nn hC hn hr H locs ls hW hS hl
  obtain ⟨hx, hb, hml, hown, hts, hret, hlk, hK, hNw, hnm, hdR, hlR, hcR, hsR⟩ := id hC
  exact lv_lstore hx hb hd hl hin rfl (fun ls2 hl2 => kk X p l e R s m args below meth c Q nn hC hn hr H locs ls2 hW hS (zL_st2 (v := .long v) hno hl2))
theorem wx_iinc {i : Nat} {n : Int} {v u : Int32} (hd : decode M.2.1 pc = .ok (.iinc i n, 3)) (hl0 : L[i]? = some (some (.int v))) (hu : v + Int32.ofInt n = u) (hin : i < M.2.2.1) (hno : zNoL L i = true) (kk : wx d M (pc + 3) (L.set i (some (.int u))) st σ K) : wx d M pc L st σ K := by
  intro X p l e R s m args below meth c Q nn hC hn hr H locs ls hW hS hl
  obtain ⟨hx, hb, hml, hown, hts, hret, hlk, hK, hNw, hnm, hdR, hlR, hcR, hsR⟩ := id hC
  obtain ⟨kp, hkp⟩ := List.getElem?_of_mem (zPairs_in (X := X) hl0)
  exact lv_iinc hx hb hd hl hkp hu hin rfl (fun ls2 hl2 => kk X p l e R s m args below meth c Q nn hC hn hr H locs ls2 hW hS (zL_st1 (v := .int u) hno hl2))
theorem wx_iadd {a b : Int32} (hd : decode M.2.1 pc = .ok (.iadd, 1)) (kk : wx d M (pc + 1) L (.int (a + b) :: st) σ K) : wx d M pc L (.int b :: .int a :: st) σ K := by
  intro X p l e R s m args below meth c Q nn hC hn hr H locs ls hW hS hl
  obtain ⟨hx, hb, hml, hown, hts, hret, hlk, hK, hNw, hnm, hdR, hlR, hcR, hsR⟩ := id hC
  exact lv_iadd hx hb hd (kk X p l e R s m args below meth c Q nn hC hn hr H locs ls hW hS hl)
theorem wx_isub {a b : Int32} (hd : decode M.2.1 pc = .ok (.isub, 1)) (kk : wx d M (pc + 1) L (.int (a - b) :: st) σ K) : wx d M pc L (.int b :: .int a :: st) σ K := by
  intro X p l e R s m args below meth c Q nn hC hn hr H locs ls hW hS hl
  obtain ⟨hx, hb, hml, hown, hts, hret, hlk, hK, hNw, hnm, hdR, hlR, hcR, hsR⟩ := id hC
  exact lv_isub hx hb hd (kk X p l e R s m args below meth c Q nn hC hn hr H locs ls hW hS hl)
theorem wx_imul {a b : Int32} (hd : decode M.2.1 pc = .ok (.imul, 1)) (kk : wx d M (pc + 1) L (.int (a * b) :: st) σ K) : wx d M pc L (.int b :: .int a :: st) σ K := by
  intro X p l e R s m args below meth c Q nn hC hn hr H locs ls hW hS hl
  obtain ⟨hx, hb, hml, hown, hts, hret, hlk, hK, hNw, hnm, hdR, hlR, hcR, hsR⟩ := id hC
  exact lv_imul hx hb hd (kk X p l e R s m args below meth c Q nn hC hn hr H locs ls hW hS hl)
theorem wx_iand {a b : Int32} (hd : decode M.2.1 pc = .ok (.iand, 1)) (kk : wx d M (pc + 1) L (.int (a &&& b) :: st) σ K) : wx d M pc L (.int b :: .int a :: st) σ K := by
  intro X p l e R s m args below meth c Q nn hC hn hr H locs ls hW hS hl
  obtain ⟨hx, hb, hml, hown, hts, hret, hlk, hK, hNw, hnm, hdR, hlR, hcR, hsR⟩ := id hC
  exact lv_iand hx hb hd (kk X p l e R s m args below meth c Q nn hC hn hr H locs ls hW hS hl)
theorem wx_ior {a b : Int32} (hd : decode M.2.1 pc = .ok (.ior, 1)) (kk : wx d M (pc + 1) L (.int (a ||| b) :: st) σ K) : wx d M pc L (.int b :: .int a :: st) σ K := by
  intro X p l e R s m args below meth c Q nn hC hn hr H locs ls hW hS hl
  obtain ⟨hx, hb, hml, hown, hts, hret, hlk, hK, hNw, hnm, hdR, hlR, hcR, hsR⟩ := id hC
  exact lv_ior hx hb hd (kk X p l e R s m args below meth c Q nn hC hn hr H locs ls hW hS hl)
theorem wx_ixor {a b : Int32} (hd : decode M.2.1 pc = .ok (.ixor, 1)) (kk : wx d M (pc + 1) L (.int (a ^^^ b) :: st) σ K) : wx d M pc L (.int b :: .int a :: st) σ K := by
  intro X p l e R s m args below meth c Q nn hC hn hr H locs ls hW hS hl
  obtain ⟨hx, hb, hml, hown, hts, hret, hlk, hK, hNw, hnm, hdR, hlR, hcR, hsR⟩ := id hC
  exact lv_ixor hx hb hd (kk X p l e R s m args below meth c Q nn hC hn hr H locs ls hW hS hl)
theorem wx_ishl {a b : Int32} (hd : decode M.2.1 pc = .ok (.ishl, 1)) (kk : wx d M (pc + 1) L (.int (a <<< (b &&& 31)) :: st) σ K) : wx d M pc L (.int b :: .int a :: st) σ K := by
  intro X p l e R s m args below meth c Q nn hC hn hr H locs ls hW hS hl
  obtain ⟨hx, hb, hml, hown, hts, hret, hlk, hK, hNw, hnm, hdR, hlR, hcR, hsR⟩ := id hC
  exact lv_ishl hx hb hd (kk X p l e R s m args below meth c Q nn hC hn hr H locs ls hW hS hl)
theorem wx_idiv {a b : Int32} (hd : decode M.2.1 pc = .ok (.idiv, 1)) (hne : ¬ b = 0) (kk : wx d M (pc + 1) L (.int (a / b) :: st) σ K) : wx d M pc L (.int b :: .int a :: st) σ K := by
  intro X p l e R s m args below meth c Q nn hC hn hr H locs ls hW hS hl
  obtain ⟨hx, hb, hml, hown, hts, hret, hlk, hK, hNw, hnm, hdR, hlR, hcR, hsR⟩ := id hC
  exact lv_idiv hx hb hd hne (kk X p l e R s m args below meth c Q nn hC hn hr H locs ls hW hS hl)
theorem wx_irem {a b : Int32} (hd : decode M.2.1 pc = .ok (.irem, 1)) (hne : ¬ b = 0) (kk : wx d M (pc + 1) L (.int (a - a / b * b) :: st) σ K) : wx d M pc L (.int b :: .int a :: st) σ K := by
  intro X p l e R s m args below meth c Q nn hC hn hr H locs ls hW hS hl
  obtain ⟨hx, hb, hml, hown, hts, hret, hlk, hK, hNw, hnm, hdR, hlR, hcR, hsR⟩ := id hC
  exact lv_irem hx hb hd hne (kk X p l e R s m args below meth c Q nn hC hn hr H locs ls hW hS hl)
theorem wx_iushr {a b : Int32} (hd : decode M.2.1 pc = .ok (.iushr, 1)) (kk : wx d M (pc + 1) L (.int ((a.toUInt32 >>> (b.toUInt32 &&& Int32.toUInt32 31)).toInt32) :: st) σ K) : wx d M pc L (.int b :: .int a :: st) σ K := by
  intro X p l e R s m args below meth c Q nn hC hn hr H locs ls hW hS hl
  obtain ⟨hx, hb, hml, hown, hts, hret, hlk, hK, hNw, hnm, hdR, hlR, hcR, hsR⟩ := id hC
  exact lv_iushr hx hb hd rfl (kk X p l e R s m args below meth c Q nn hC hn hr H locs ls hW hS hl)
theorem wx_ladd {a b : Int64} (hd : decode M.2.1 pc = .ok (.ladd, 1)) (kk : wx d M (pc + 1) L (.long (a + b) :: st) σ K) : wx d M pc L (.long b :: .long a :: st) σ K := by
  intro X p l e R s m args below meth c Q nn hC hn hr H locs ls hW hS hl
  obtain ⟨hx, hb, hml, hown, hts, hret, hlk, hK, hNw, hnm, hdR, hlR, hcR, hsR⟩ := id hC
  exact lv_ladd hx hb hd (kk X p l e R s m args below meth c Q nn hC hn hr H locs ls hW hS hl)
theorem wx_lmul {a b : Int64} (hd : decode M.2.1 pc = .ok (.lmul, 1)) (kk : wx d M (pc + 1) L (.long (a * b) :: st) σ K) : wx d M pc L (.long b :: .long a :: st) σ K := by
  intro X p l e R s m args below meth c Q nn hC hn hr H locs ls hW hS hl
  obtain ⟨hx, hb, hml, hown, hts, hret, hlk, hK, hNw, hnm, hdR, hlR, hcR, hsR⟩ := id hC
  exact lv_lmul hx hb hd (kk X p l e R s m args below meth c Q nn hC hn hr H locs ls hW hS hl)
theorem wx_ldiv {a b : Int64} (hd : decode M.2.1 pc = .ok (.ldiv, 1)) (hne : ¬ b = 0) (kk : wx d M (pc + 1) L (.long (a / b) :: st) σ K) : wx d M pc L (.long b :: .long a :: st) σ K := by
  intro X p l e R s m args below meth c Q nn hC hn hr H locs ls hW hS hl
  obtain ⟨hx, hb, hml, hown, hts, hret, hlk, hK, hNw, hnm, hdR, hlR, hcR, hsR⟩ := id hC
  exact lv_ldiv hx hb hd hne (kk X p l e R s m args below meth c Q nn hC hn hr H locs ls hW hS hl)
theorem wx_lrem {a b : Int64} (hd : decode M.2.1 pc = .ok (.lrem, 1)) (hne : ¬ b = 0) (kk : wx d M (pc + 1) L (.long (a - a / b * b) :: st) σ K) : wx d M pc L (.long b :: .long a :: st) σ K := by
  intro X p l e R s m args below meth c Q nn hC hn hr H locs ls hW hS hl
  obtain ⟨hx, hb, hml, hown, hts, hret, hlk, hK, hNw, hnm, hdR, hlR, hcR, hsR⟩ := id hC
  exact lv_lrem hx hb hd hne (kk X p l e R s m args below meth c Q nn hC hn hr H locs ls hW hS hl)
theorem wx_lcmp {a b : Int64} (hd : decode M.2.1 pc = .ok (.lcmp, 1)) (kk : wx d M (pc + 1) L (.int (lg_cmp a b) :: st) σ K) : wx d M pc L (.long b :: .long a :: st) σ K := by
  intro X p l e R s m args below meth c Q nn hC hn hr H locs ls hW hS hl
  obtain ⟨hx, hb, hml, hown, hts, hret, hlk, hK, hNw, hnm, hdR, hlR, hcR, hsR⟩ := id hC
  exact W.lcmp hx hb hd (kk X p l e R s m args below meth c Q nn hC hn hr H locs ls hW hS hl)
theorem wx_ineg {a : Int32} (hd : decode M.2.1 pc = .ok (.ineg, 1)) (kk : wx d M (pc + 1) L (.int (-a) :: st) σ K) : wx d M pc L (.int a :: st) σ K := by
  intro X p l e R s m args below meth c Q nn hC hn hr H locs ls hW hS hl
  obtain ⟨hx, hb, hml, hown, hts, hret, hlk, hK, hNw, hnm, hdR, hlR, hcR, hsR⟩ := id hC
  exact lv_ineg hx hb hd (kk X p l e R s m args below meth c Q nn hC hn hr H locs ls hW hS hl)
theorem wx_lneg {a : Int64} (hd : decode M.2.1 pc = .ok (.lneg, 1)) (kk : wx d M (pc + 1) L (.long (-a) :: st) σ K) : wx d M pc L (.long a :: st) σ K := by
  intro X p l e R s m args below meth c Q nn hC hn hr H locs ls hW hS hl
  obtain ⟨hx, hb, hml, hown, hts, hret, hlk, hK, hNw, hnm, hdR, hlR, hcR, hsR⟩ := id hC
  exact lv_lneg hx hb hd (kk X p l e R s m args below meth c Q nn hC hn hr H locs ls hW hS hl)
theorem wx_i2l {a : Int32} (hd : decode M.2.1 pc = .ok (.i2l, 1)) (kk : wx d M (pc + 1) L (.long a.toInt64 :: st) σ K) : wx d M pc L (.int a :: st) σ K := by
  intro X p l e R s m args below meth c Q nn hC hn hr H locs ls hW hS hl
  obtain ⟨hx, hb, hml, hown, hts, hret, hlk, hK, hNw, hnm, hdR, hlR, hcR, hsR⟩ := id hC
  exact lv_i2l hx hb hd rfl (kk X p l e R s m args below meth c Q nn hC hn hr H locs ls hW hS hl)
theorem wx_dup {v : Value} (hd : decode M.2.1 pc = .ok (.dup, 1)) (hv : v.category = 1) (kk : wx d M (pc + 1) L (v :: v :: st) σ K) : wx d M pc L (v :: st) σ K := by
  intro X p l e R s m args below meth c Q nn hC hn hr H locs ls hW hS hl
  obtain ⟨hx, hb, hml, hown, hts, hret, hlk, hK, hNw, hnm, hdR, hlR, hcR, hsR⟩ := id hC
  exact lv_dup hx hb hd (by rw [zV_cat]; exact hv) (kk X p l e R s m args below meth c Q nn hC hn hr H locs ls hW hS hl)
theorem wx_dup2 {v u : Value} (hd : decode M.2.1 pc = .ok (.dup2, 1)) (hv : v.category = 1) (hu : u.category = 1) (kk : wx d M (pc + 1) L (v :: u :: v :: u :: st) σ K) : wx d M pc L (v :: u :: st) σ K := by
  intro X p l e R s m args below meth c Q nn hC hn hr H locs ls hW hS hl
  obtain ⟨hx, hb, hml, hown, hts, hret, hlk, hK, hNw, hnm, hdR, hlR, hcR, hsR⟩ := id hC
  exact lv_dup2_11 hx hb hd (by rw [zV_cat]; exact hv) (by rw [zV_cat]; exact hu) (kk X p l e R s m args below meth c Q nn hC hn hr H locs ls hW hS hl)
theorem wx_pop {v : Value} (hd : decode M.2.1 pc = .ok (.pop, 1)) (hv : v.category = 1) (kk : wx d M (pc + 1) L st σ K) : wx d M pc L (v :: st) σ K := by
  intro X p l e R s m args below meth c Q nn hC hn hr H locs ls hW hS hl
  obtain ⟨hx, hb, hml, hown, hts, hret, hlk, hK, hNw, hnm, hdR, hlR, hcR, hsR⟩ := id hC
  exact lv_pop hx hb hd (by rw [zV_cat]; exact hv) (kk X p l e R s m args below meth c Q nn hC hn hr H locs ls hW hS hl)
theorem wx_icmp_eq {a b : Int32} {off : Int} {tgt : Nat} (hd : decode M.2.1 pc = .ok (.if_icmp .eq off, 3)) (ht : (pc : Int) + off = (tgt : Int)) (kt : a = b → wx d M tgt L st σ K) (kf : ¬ a = b → wx d M (pc + 3) L st σ K) : wx d M pc L (.int b :: .int a :: st) σ K := by
  intro X p l e R s m args below meth c Q nn hC hn hr H locs ls hW hS hl
  obtain ⟨hx, hb, hml, hown, hts, hret, hlk, hK, hNw, hnm, hdR, hlR, hcR, hsR⟩ := id hC
  exact lv_icmp_eq hx hb hd ht (fun q => kt q X p l e R s m args below meth c Q nn hC hn hr H locs ls hW hS hl) (fun q => kf q X p l e R s m args below meth c Q nn hC hn hr H locs ls hW hS hl)
theorem wx_icmp_ne {a b : Int32} {off : Int} {tgt : Nat} (hd : decode M.2.1 pc = .ok (.if_icmp .ne off, 3)) (ht : (pc : Int) + off = (tgt : Int)) (kt : ¬ a = b → wx d M tgt L st σ K) (kf : a = b → wx d M (pc + 3) L st σ K) : wx d M pc L (.int b :: .int a :: st) σ K := by
  intro X p l e R s m args below meth c Q nn hC hn hr H locs ls hW hS hl
  obtain ⟨hx, hb, hml, hown, hts, hret, hlk, hK, hNw, hnm, hdR, hlR, hcR, hsR⟩ := id hC
  exact lv_icmp_ne hx hb hd ht (fun q => kt q X p l e R s m args below meth c Q nn hC hn hr H locs ls hW hS hl) (fun q => kf q X p l e R s m args below meth c Q nn hC hn hr H locs ls hW hS hl)
theorem wx_icmp_lt {a b : Int32} {off : Int} {tgt : Nat} (hd : decode M.2.1 pc = .ok (.if_icmp .lt off, 3)) (ht : (pc : Int) + off = (tgt : Int)) (kt : a < b → wx d M tgt L st σ K) (kf : ¬ a < b → wx d M (pc + 3) L st σ K) : wx d M pc L (.int b :: .int a :: st) σ K := by
  intro X p l e R s m args below meth c Q nn hC hn hr H locs ls hW hS hl
  obtain ⟨hx, hb, hml, hown, hts, hret, hlk, hK, hNw, hnm, hdR, hlR, hcR, hsR⟩ := id hC
  exact lv_icmp_lt hx hb hd ht (fun q => kt q X p l e R s m args below meth c Q nn hC hn hr H locs ls hW hS hl) (fun q => kf q X p l e R s m args below meth c Q nn hC hn hr H locs ls hW hS hl)
theorem wx_icmp_ge {a b : Int32} {off : Int} {tgt : Nat} (hd : decode M.2.1 pc = .ok (.if_icmp .ge off, 3)) (ht : (pc : Int) + off = (tgt : Int)) (kt : b ≤ a → wx d M tgt L st σ K) (kf : ¬ b ≤ a → wx d M (pc + 3) L st σ K) : wx d M pc L (.int b :: .int a :: st) σ K := by
  intro X p l e R s m args below meth c Q nn hC hn hr H locs ls hW hS hl
  obtain ⟨hx, hb, hml, hown, hts, hret, hlk, hK, hNw, hnm, hdR, hlR, hcR, hsR⟩ := id hC
  exact lv_icmp_ge hx hb hd ht (fun q => kt q X p l e R s m args below meth c Q nn hC hn hr H locs ls hW hS hl) (fun q => kf q X p l e R s m args below meth c Q nn hC hn hr H locs ls hW hS hl)
theorem wx_icmp_gt {a b : Int32} {off : Int} {tgt : Nat} (hd : decode M.2.1 pc = .ok (.if_icmp .gt off, 3)) (ht : (pc : Int) + off = (tgt : Int)) (kt : b < a → wx d M tgt L st σ K) (kf : ¬ b < a → wx d M (pc + 3) L st σ K) : wx d M pc L (.int b :: .int a :: st) σ K := by
  intro X p l e R s m args below meth c Q nn hC hn hr H locs ls hW hS hl
  obtain ⟨hx, hb, hml, hown, hts, hret, hlk, hK, hNw, hnm, hdR, hlR, hcR, hsR⟩ := id hC
  exact lv_icmp_gt hx hb hd ht (fun q => kt q X p l e R s m args below meth c Q nn hC hn hr H locs ls hW hS hl) (fun q => kf q X p l e R s m args below meth c Q nn hC hn hr H locs ls hW hS hl)
theorem wx_icmp_le {a b : Int32} {off : Int} {tgt : Nat} (hd : decode M.2.1 pc = .ok (.if_icmp .le off, 3)) (ht : (pc : Int) + off = (tgt : Int)) (kt : a ≤ b → wx d M tgt L st σ K) (kf : ¬ a ≤ b → wx d M (pc + 3) L st σ K) : wx d M pc L (.int b :: .int a :: st) σ K := by
  intro X p l e R s m args below meth c Q nn hC hn hr H locs ls hW hS hl
  obtain ⟨hx, hb, hml, hown, hts, hret, hlk, hK, hNw, hnm, hdR, hlR, hcR, hsR⟩ := id hC
  exact lv_icmp_le hx hb hd ht (fun q => kt q X p l e R s m args below meth c Q nn hC hn hr H locs ls hW hS hl) (fun q => kf q X p l e R s m args below meth c Q nn hC hn hr H locs ls hW hS hl)
theorem wx_if_eq {a : Int32} {off : Int} {tgt : Nat} (hd : decode M.2.1 pc = .ok (.ifCond .eq off, 3)) (ht : (pc : Int) + off = (tgt : Int)) (kt : a = 0 → wx d M tgt L st σ K) (kf : ¬ a = 0 → wx d M (pc + 3) L st σ K) : wx d M pc L (.int a :: st) σ K := by
  intro X p l e R s m args below meth c Q nn hC hn hr H locs ls hW hS hl
  obtain ⟨hx, hb, hml, hown, hts, hret, hlk, hK, hNw, hnm, hdR, hlR, hcR, hsR⟩ := id hC
  exact lv_if_eq hx hb hd ht (fun q => kt q X p l e R s m args below meth c Q nn hC hn hr H locs ls hW hS hl) (fun q => kf q X p l e R s m args below meth c Q nn hC hn hr H locs ls hW hS hl)
theorem wx_if_ne {a : Int32} {off : Int} {tgt : Nat} (hd : decode M.2.1 pc = .ok (.ifCond .ne off, 3)) (ht : (pc : Int) + off = (tgt : Int)) (kt : ¬ a = 0 → wx d M tgt L st σ K) (kf : a = 0 → wx d M (pc + 3) L st σ K) : wx d M pc L (.int a :: st) σ K := by
  intro X p l e R s m args below meth c Q nn hC hn hr H locs ls hW hS hl
  obtain ⟨hx, hb, hml, hown, hts, hret, hlk, hK, hNw, hnm, hdR, hlR, hcR, hsR⟩ := id hC
  exact lv_if_ne hx hb hd ht (fun q => kt q X p l e R s m args below meth c Q nn hC hn hr H locs ls hW hS hl) (fun q => kf q X p l e R s m args below meth c Q nn hC hn hr H locs ls hW hS hl)
theorem wx_if_lt {a : Int32} {off : Int} {tgt : Nat} (hd : decode M.2.1 pc = .ok (.ifCond .lt off, 3)) (ht : (pc : Int) + off = (tgt : Int)) (kt : a < 0 → wx d M tgt L st σ K) (kf : ¬ a < 0 → wx d M (pc + 3) L st σ K) : wx d M pc L (.int a :: st) σ K := by
  intro X p l e R s m args below meth c Q nn hC hn hr H locs ls hW hS hl
  obtain ⟨hx, hb, hml, hown, hts, hret, hlk, hK, hNw, hnm, hdR, hlR, hcR, hsR⟩ := id hC
  exact lv_if_lt hx hb hd ht (fun q => kt q X p l e R s m args below meth c Q nn hC hn hr H locs ls hW hS hl) (fun q => kf q X p l e R s m args below meth c Q nn hC hn hr H locs ls hW hS hl)
theorem wx_if_ge {a : Int32} {off : Int} {tgt : Nat} (hd : decode M.2.1 pc = .ok (.ifCond .ge off, 3)) (ht : (pc : Int) + off = (tgt : Int)) (kt : 0 ≤ a → wx d M tgt L st σ K) (kf : ¬ 0 ≤ a → wx d M (pc + 3) L st σ K) : wx d M pc L (.int a :: st) σ K := by
  intro X p l e R s m args below meth c Q nn hC hn hr H locs ls hW hS hl
  obtain ⟨hx, hb, hml, hown, hts, hret, hlk, hK, hNw, hnm, hdR, hlR, hcR, hsR⟩ := id hC
  exact lv_if_ge hx hb hd ht (fun q => kt q X p l e R s m args below meth c Q nn hC hn hr H locs ls hW hS hl) (fun q => kf q X p l e R s m args below meth c Q nn hC hn hr H locs ls hW hS hl)
theorem wx_if_gt {a : Int32} {off : Int} {tgt : Nat} (hd : decode M.2.1 pc = .ok (.ifCond .gt off, 3)) (ht : (pc : Int) + off = (tgt : Int)) (kt : 0 < a → wx d M tgt L st σ K) (kf : ¬ 0 < a → wx d M (pc + 3) L st σ K) : wx d M pc L (.int a :: st) σ K := by
  intro X p l e R s m args below meth c Q nn hC hn hr H locs ls hW hS hl
  obtain ⟨hx, hb, hml, hown, hts, hret, hlk, hK, hNw, hnm, hdR, hlR, hcR, hsR⟩ := id hC
  exact lv_if_gt hx hb hd ht (fun q => kt q X p l e R s m args below meth c Q nn hC hn hr H locs ls hW hS hl) (fun q => kf q X p l e R s m args below meth c Q nn hC hn hr H locs ls hW hS hl)
theorem wx_if_le {a : Int32} {off : Int} {tgt : Nat} (hd : decode M.2.1 pc = .ok (.ifCond .le off, 3)) (ht : (pc : Int) + off = (tgt : Int)) (kt : a ≤ 0 → wx d M tgt L st σ K) (kf : ¬ a ≤ 0 → wx d M (pc + 3) L st σ K) : wx d M pc L (.int a :: st) σ K := by
  intro X p l e R s m args below meth c Q nn hC hn hr H locs ls hW hS hl
  obtain ⟨hx, hb, hml, hown, hts, hret, hlk, hK, hNw, hnm, hdR, hlR, hcR, hsR⟩ := id hC
  exact lv_if_le hx hb hd ht (fun q => kt q X p l e R s m args below meth c Q nn hC hn hr H locs ls hW hS hl) (fun q => kf q X p l e R s m args below meth c Q nn hC hn hr H locs ls hW hS hl)
theorem wx_goto {off : Int} {tgt : Nat} (hd : decode M.2.1 pc = .ok (.goto off, 3)) (ht : (pc : Int) + off = (tgt : Int)) (kk : wx d M tgt L st σ K) : wx d M pc L st σ K := by
  intro X p l e R s m args below meth c Q nn hC hn hr H locs ls hW hS hl
  obtain ⟨hx, hb, hml, hown, hts, hret, hlk, hK, hNw, hnm, hdR, hlR, hcR, hsR⟩ := id hC
  exact lv_goto hx hb hd ht (kk X p l e R s m args below meth c Q nn hC hn hr H locs ls hW hS hl)
theorem wx_tableIn {dflt lo hi : Int} {offs : Array Int} {len : Nat} {a : Int32} {off : Int} {tgt : Nat} (hd : decode M.2.1 pc = .ok (.tableswitch dflt lo hi offs, len)) (h1 : ¬ a.toInt < lo) (h2 : ¬ hi < a.toInt) (ho : offs[(a.toInt - lo).toNat]? = some off) (ht : (pc : Int) + off = (tgt : Int)) (kk : wx d M tgt L st σ K) : wx d M pc L (.int a :: st) σ K := by
  intro X p l e R s m args below meth c Q nn hC hn hr H locs ls hW hS hl
  obtain ⟨hx, hb, hml, hown, hts, hret, hlk, hK, hNw, hnm, hdR, hlR, hcR, hsR⟩ := id hC
  exact lv_tableIn hx hb hd h1 h2 ho ht (kk X p l e R s m args below meth c Q nn hC hn hr H locs ls hW hS hl)
theorem wx_tableOut {dflt lo hi : Int} {offs : Array Int} {len : Nat} {a : Int32} {tgt : Nat} (hd : decode M.2.1 pc = .ok (.tableswitch dflt lo hi offs, len)) (h : a.toInt < lo ∨ hi < a.toInt) (ht : (pc : Int) + dflt = (tgt : Int)) (kk : wx d M tgt L st σ K) : wx d M pc L (.int a :: st) σ K := by
  intro X p l e R s m args below meth c Q nn hC hn hr H locs ls hW hS hl
  obtain ⟨hx, hb, hml, hown, hts, hret, hlk, hK, hNw, hnm, hdR, hlR, hcR, hsR⟩ := id hC
  exact lv_tableOut hx hb hd h ht (kk X p l e R s m args below meth c Q nn hC hn hr H locs ls hW hS hl)
end ZST
end
section
/-! cells: fields and arrays -/
def zCl (ci : Nat) (C : String) (T : u_T) (ty : Nat → FieldType) : Prop := vwCl[ci]? = some (C, T, zN ci) ∧ ci < 10 ∧ (∀ w ∈ u_ws C T (zN ci), w ∈ zT) ∧ (∀ k, k < zN ci → parseFieldDescriptor (T k).2.2.1 = some (ty k)) ∧ (∀ a, a < zN ci → ∀ b, b < zN ci → a ≠ b → (T a).2.1 ≠ (T b).2.1) ∧ (∀ k, k < zN ci → (T k).1 = C) ∧ (∀ k, k < zN ci → defaultValue (ty k) = if zIR ci k then .null else .int 0)
/-- entry idx of own's pool is field j of the objects of kind ci -/
def zF (own : String) (idx ci j : Nat) (fin : Bool) (ty0 : FieldType) : Prop := ∃ (C : String) (T : u_T) (ty : Nat → FieldType), zCl ci C T ty ∧ j < zN ci ∧ Cond.fieldLink own idx C (T j).2.1 (T j).2.2.1 ∈ zT ∧ (T j).2.2.2 = fin ∧ ty j = ty0
section ZME
variable {d : Nat} {M : zMt} {pc : Nat} {L : List (Option Value)} {st : List Value} {σ : zS} {K : List Value → zS → Prop}
theorem wx_getI {idx ci j k : Nat} {fin : Bool} {ty0 : FieldType} (hd : decode M.2.1 pc = .ok (.getfield idx, 3)) (hf : zF M.1.cls idx ci j fin ty0) (hk : (zK k).1 = ci) (hj : zIR ci j = false) (hkn : k < σ.1) (kk : wx d M (pc + 3) L (.int (σ.2.2 k j) :: st) σ K) : wx d M pc L (.ref k :: st) σ K := by
  intro X p l e R s m args below meth c Q nn hC hn hr H locs ls hW hS hl
  obtain ⟨hx, hb, hml, hown, hts, hret, hlk, hK, hNw, hnm, hdR, hlR, hcR, hsR⟩ := id hC
  obtain ⟨C, T, ty, ⟨c1, c2, c3, c4, c5, c6, c7⟩, hjn, hlink, hfi, hty⟩ := hf
  have he : (zWs X σ)[k]? = some (X.2.1 + k, .inr (ci, zFs X σ.2.1 σ.2.2 ci k)) := by rw [zWs_get hkn, zE_obj hk c2]
  exact va_get (D := X.2.2.1) (ci := ci) (v := .int (σ.2.2 k j)) (C := C) (T := T) (N := zN ci) hx hb hts c3 hown hK hW.2.2.2.1 k he c1 j hjn (hts _ hlink) (fun x h => by rw [c6 j hjn] at h; exact h) (zFs_int hjn hj) hd (kk X p l e R s m args below meth c Q nn hC hn hr H locs ls hW hS hl)
theorem wx_getR {idx ci j k t : Nat} {fin : Bool} {ty0 : FieldType} (hd : decode M.2.1 pc = .ok (.getfield idx, 3)) (hf : zF M.1.cls idx ci j fin ty0) (hk : (zK k).1 = ci) (hj : zIR ci j = true) (hkn : k < σ.1) (ht : σ.2.1 k j = some t) (kk : wx d M (pc + 3) L (.ref t :: st) σ K) : wx d M pc L (.ref k :: st) σ K := by
  intro X p l e R s m args below meth c Q nn hC hn hr H locs ls hW hS hl
  obtain ⟨hx, hb, hml, hown, hts, hret, hlk, hK, hNw, hnm, hdR, hlR, hcR, hsR⟩ := id hC
  obtain ⟨C, T, ty, ⟨c1, c2, c3, c4, c5, c6, c7⟩, hjn, hlink, hfi, hty⟩ := hf
  have he : (zWs X σ)[k]? = some (X.2.1 + k, .inr (ci, zFs X σ.2.1 σ.2.2 ci k)) := by rw [zWs_get hkn, zE_obj hk c2]
  exact va_get (D := X.2.2.1) (ci := ci) (v := .ref (X.2.1 + t)) (C := C) (T := T) (N := zN ci) hx hb hts c3 hown hK hW.2.2.2.1 k he c1 j hjn (hts _ hlink) (fun x h => by rw [c6 j hjn] at h; exact h) (zFs_ref hjn hj ht) hd (kk X p l e R s m args below meth c Q nn hC hn hr H locs ls hW hS hl)
theorem zWX_put {X : zX} {s : State} {σ : zS} {H H1 : Heap} {rf' : zR} {mm' : zM} {k : Nat} {e : va_E} (hW : zWX X s σ H) (hz : H1.size = H.size) (hX : H1[X.1]? = H[X.1]?) (hk : k < σ.1) (he : e = zE X rf' mm' k) (h1 : ∀ a, a ≠ k → rf' a = σ.2.1 a) (h2 : ∀ a, a ≠ k → mm' a = σ.2.2 a)
    (hP : va_P X.2.2.1 vwCl ((zWs X σ).set k (X.2.1 + k, e)) H1) : zWX X s (σ.1, rf', mm') H1 := by
  obtain ⟨n, rf, mm⟩ := σ
  have hn : n ≤ 154 := hW.2.1
  have h154 : 154 ≠ k := fun q => by have : k < n := hk; omega
  refine ⟨by rw [hz]; exact hW.1, hW.2.1, hW.2.2.1, ?_, ?_⟩
  · rw [zWs_set (rf' := rf') (mm' := mm') hk he (fun a ha => zE_cong (h1 a ha) (h2 a ha))] at hP
    exact hP
  · show va_X X.1 (mm' 155 0).toNatClampNeg (mm' 154) s H1
    rw [h2 154 h154, h2 155 (fun q => by have : k < n := hk; omega)]
    exact hW.2.2.2.2.kept hX
theorem zNX {X : zX} {s : State} {σ : zS} {H : Heap} {k : Nat} (hW : zWX X s σ H) : X.1 ≠ X.2.1 + k := by have := hW.2.2.1; omega
/-- a put changes nothing that isn't at its own address -/
theorem zOff {A : Nat → Prop} {H0 H H1 : Heap} {locs locs1 : List Loc} : va_S A H0 H1 locs1 → H0.size ≤ H1.size := fun h => h.1
theorem wx_putI {idx ci j k : Nat} {ty0 : FieldType} {v : Int32} (hd : decode M.2.1 pc = .ok (.putfield idx, 3)) (hf : zF M.1.cls idx ci j false ty0) (hk : (zK k).1 = ci) (hj : zIR ci j = false) (hkn : k < σ.1) (hnar : narrow ty0 (.int v) = .int v) (hfit : fits ty0 (.int v) = true) (kk : wx d M (pc + 3) L st (σ.1, σ.2.1, zU σ.2.2 k j v) K) : wx d M pc L (.int v :: .ref k :: st) σ K := by
  intro X p l e R s m args below meth c Q nn hC hn hr H locs ls hW hS hl
  obtain ⟨hx, hb, hml, hown, hts, hret, hlk, hK, hNw, hnm, hdR, hlR, hcR, hsR⟩ := id hC
  obtain ⟨C, T, ty, ⟨c1, c2, c3, c4, c5, c6, c7⟩, hjn, hlink, hfi, hty⟩ := hf
  have he : (zWs X σ)[k]? = some (X.2.1 + k, .inr (ci, zFs X σ.2.1 σ.2.2 ci k)) := by rw [zWs_get hkn, zE_obj hk c2]
  have hap := va_apart (own := M.1.cls) hts c3 ty c4 c5 hK c1
  obtain ⟨r, h1, cell, q1, q2, q3, q4⟩ := hW.2.2.2.1 k _ he
  have hrr : r = (C, T, zN ci) := Option.some.inj (h1.symm.trans c1)
  subst hrr
  obtain ⟨hSl, hfc, kC, hkC, hkind⟩ := hK.1 ci _ c1
  obtain ⟨cf, kf, fi, f, hi, hsl⟩ := hSl j hjn
  have hlay := hts _ (c3 _ (u_in_lay hjn))
  unfold u_lay at hlay
  rw [if_neg (by rw [hfi]; decide)] at hlay
  have hst := (u_facts hfc hkC (u_lays hts c3 hjn) hi).1
  have h6 := u_store hfc hkC hkind hlay hi (c4 j hjn) (by rw [hty]; exact hnar) (by rw [hty]; exact hfit)
  refine W.putK hx hb (f := f) ⟨hown, hts _ hlink, ⟨_, _, _, by rw [← c6 j hjn]; exact hi⟩, hst⟩ (by rw [q2]; exact h6) q1 q3 (by rw [hsl]; exact k2_hasslot (q4 j hjn)) rfl rfl hd fun H' e1 e2 e3 => ?_
  rw [hsl] at e1 ⊢
  have hP' := va_P.set (e := .inr (ci, (zFs X σ.2.1 σ.2.2 ci k).set j (.int v))) hW.2.2.2.1 zWs_D he ⟨_, c1, t_OB.to (V := updV (vp_V (zFs X σ.2.1 σ.2.2 ci k)) j (.int v)) ⟨_, e1, q2, q3, t_set q4 hap hjn (.int v)⟩ (fun i _ => vp_updV_set (by rw [zFs_len]; exact hjn) (.int v) i)⟩ e3
  have hW' := zWX_put (rf' := σ.2.1) (mm' := zU σ.2.2 k j v) hW e2 (e3 _ (zNX hW)) hkn (by rw [zE_obj hk c2, zFs_set hj]) (fun _ _ => rfl) (fun a ha => zU_ne ha) hP'
  exact kk X p l e R s m args below meth c Q nn hC hn hr H' _ ls hW' (hS.put e2 e3 (Nat.le_add_right _ _)) hl
theorem wx_putR {idx ci j k t : Nat} {ty0 : FieldType} (hd : decode M.2.1 pc = .ok (.putfield idx, 3)) (hf : zF M.1.cls idx ci j true ty0) (hk : (zK k).1 = ci) (hj : zIR ci j = true) (hkn : k < σ.1) (hin : M.1.name = "<init>") (hcl : vwCl[ci]?.map (fun q => q.1) = some M.1.cls) (hnar : ∀ q : Nat, narrow ty0 (.ref q) = .ref q) (hfit : ∀ q : Nat, fits ty0 (.ref q) = true) (kk : wx d M (pc + 3) L st (σ.1, zUr σ.2.1 k j t, σ.2.2) K) : wx d M pc L (.ref t :: .ref k :: st) σ K := by
  intro X p l e R s m args below meth c Q nn hC hn hr H locs ls hW hS hl
  obtain ⟨hx, hb, hml, hown, hts, hret, hlk, hK, hNw, hnm, hdR, hlR, hcR, hsR⟩ := id hC
  obtain ⟨C, T, ty, ⟨c1, c2, c3, c4, c5, c6, c7⟩, hjn, hlink, hfi, hty⟩ := hf
  have hCo : C = M.1.cls := by rw [c1] at hcl; exact Option.some.inj hcl
  have he : (zWs X σ)[k]? = some (X.2.1 + k, .inr (ci, zFs X σ.2.1 σ.2.2 ci k)) := by rw [zWs_get hkn, zE_obj hk c2]
  have hap := va_apart (own := M.1.cls) hts c3 ty c4 c5 hK c1
  obtain ⟨r, h1, cell, q1, q2, q3, q4⟩ := hW.2.2.2.1 k _ he
  have hrr : r = (C, T, zN ci) := Option.some.inj (h1.symm.trans c1)
  subst hrr
  obtain ⟨hSl, hfc, kC, hkC, hkind⟩ := hK.1 ci _ c1
  obtain ⟨cf, kf, fi, f, hi, hsl⟩ := hSl j hjn
  have hlay := hts _ (c3 _ (u_in_lay hjn))
  unfold u_lay at hlay
  rw [if_pos hfi] at hlay
  have hst := (u_facts hfc hkC (u_lays hts c3 hjn) hi).1
  have hcf : m.cls = cf := by
    obtain ⟨_, _, c', _, _, _, -, -, hf', -, -, -, hown2, -⟩ := Cond.laysFinal_spec hlay
    have e1 : c' = cf := by have := hi.symm.trans hf'; simp at this; exact this.1.symm
    rw [c6 j hjn, hCo] at hown2
    rw [← e1]; exact Option.some.inj (hown.symm.trans hown2)
  have h6 := u_fits hfc hkC hkind (Or.inr hlay) hi (c4 j hjn) (v := .ref (X.2.1 + t)) (by rw [hty]; exact hnar _) (by rw [hty]; exact hfit _)
  refine W.putFinK hx hb hown (hts _ hlink) (by rw [← c6 j hjn]; exact hi) hst hcf ((hnm hin).trans hin) (by rw [q2]; exact h6) q1 q3 (by rw [hsl]; exact k2_hasslot (q4 j hjn)) rfl rfl hd fun H' e1 e2 e3 => ?_
  rw [hsl] at e1 ⊢
  have hP' := va_P.set (e := .inr (ci, (zFs X σ.2.1 σ.2.2 ci k).set j (.ref (X.2.1 + t)))) hW.2.2.2.1 zWs_D he ⟨_, c1, t_OB.to (V := updV (vp_V (zFs X σ.2.1 σ.2.2 ci k)) j (.ref (X.2.1 + t))) ⟨_, e1, q2, q3, t_set q4 hap hjn (.ref (X.2.1 + t))⟩ (fun i _ => vp_updV_set (by rw [zFs_len]; exact hjn) (.ref (X.2.1 + t)) i)⟩ e3
  have hW' := zWX_put (rf' := zUr σ.2.1 k j t) (mm' := σ.2.2) hW e2 (e3 _ (zNX hW)) hkn (by rw [zE_obj hk c2, zFs_setr hj]) (fun a ha => zUr_ne ha) (fun _ _ => rfl) hP'
  exact kk X p l e R s m args below meth c Q nn hC hn hr H' _ ls hW' (hS.put e2 e3 (Nat.le_add_right _ _)) hl
theorem wx_iald {k n : Nat} {i : Int32} (hd : decode M.2.1 pc = .ok (.iaload, 1)) (hk : zK k = (10, n)) (hkn : k < σ.1) (hin : vp_in i n) (kk : wx d M (pc + 1) L (.int (σ.2.2 k i.toNatClampNeg) :: st) σ K) : wx d M pc L (.int i :: .ref k :: st) σ K := by
  intro X p l e R s m args below meth c Q nn hC hn hr H locs ls hW hS hl
  obtain ⟨hx, hb, hml, hown, hts, hret, hlk, hK, hNw, hnm, hdR, hlR, hcR, hsR⟩ := id hC
  have he : (zWs X σ)[k]? = some (X.2.1 + k, .inl (X.2.2.2.1, n, .inl (σ.2.2 k))) := by rw [zWs_get hkn, zE_int hk]
  exact va_iald hx hb hK hW.2.2.2.1 k 0 he rfl hin hd (kk X p l e R s m args below meth c Q nn hC hn hr H locs ls hW hS hl)
theorem wx_zald {k n : Nat} {i : Int32} (hd : decode M.2.1 pc = .ok (.baload, 1)) (hk : zK k = (11, n)) (hkn : k < σ.1) (hin : vp_in i n) (kk : wx d M (pc + 1) L (.int (σ.2.2 k i.toNatClampNeg) :: st) σ K) : wx d M pc L (.int i :: .ref k :: st) σ K := by
  intro X p l e R s m args below meth c Q nn hC hn hr H locs ls hW hS hl
  obtain ⟨hx, hb, hml, hown, hts, hret, hlk, hK, hNw, hnm, hdR, hlR, hcR, hsR⟩ := id hC
  have he : (zWs X σ)[k]? = some (X.2.1 + k, .inl (X.2.2.2.2.2, n, .inl (σ.2.2 k))) := by rw [zWs_get hkn, zE_bool hk]
  exact va_zald hx hb hK hW.2.2.2.1 k 2 he rfl hin hd (kk X p l e R s m args below meth c Q nn hC hn hr H locs ls hW hS hl)
theorem wx_aald {k n t : Nat} {i : Int32} (hd : decode M.2.1 pc = .ok (.aaload, 1)) (hk : zK k = (12, n)) (hkn : k < σ.1) (hin : vp_in i n) (ht : σ.2.1 k i.toNatClampNeg = some t) (kk : wx d M (pc + 1) L (.ref t :: st) σ K) : wx d M pc L (.int i :: .ref k :: st) σ K := by
  intro X p l e R s m args below meth c Q nn hC hn hr H locs ls hW hS hl
  obtain ⟨hx, hb, hml, hown, hts, hret, hlk, hK, hNw, hnm, hdR, hlR, hcR, hsR⟩ := id hC
  have he : (zWs X σ)[k]? = some (X.2.1 + k, .inl (X.2.2.2.2.1, n, .inr (.inr (.inr (.inr (fun i => (σ.2.1 k i).map (fun t => X.2.1 + t))))))) := by rw [zWs_get hkn, zE_out hk]
  have hlt : i.toNatClampNeg < n := Nat.not_le.mp fun q => hin (Or.inr q)
  exact W.aald (v := .ref (X.2.1 + t)) (ty := .array .int) hx hb (hW.2.2.2.1 k _ he) ((hK.2 1 (X.2.2.2.2.1, .array .int) rfl).1 n (fun j => va_rf ((σ.2.1 k j).map (fun t => X.2.1 + t)))) rfl (fun q => by cases q) (by show ¬ (i < 0 ∨ (arrV _ _ _).slots.size ≤ _); rw [arrV_size]; exact hin) (by show (arrV _ _ _).slots[_]? = _; rw [arrV_read _ _ hlt]; show some (va_rf ((σ.2.1 k i.toNatClampNeg).map (fun t => X.2.1 + t))) = _; rw [ht]; rfl) rfl rfl hd (kk X p l e R s m args below meth c Q nn hC hn hr H locs ls hW hS hl)
theorem wx_alen {k n : Nat} (hd : decode M.2.1 pc = .ok (.arraylength, 1)) (hk : zK k = (10, n)) (hkn : k < σ.1) (kk : wx d M (pc + 1) L (.int (Int32.ofNat n) :: st) σ K) : wx d M pc L (.ref k :: st) σ K := by
  intro X p l e R s m args below meth c Q nn hC hn hr H locs ls hW hS hl
  obtain ⟨hx, hb, hml, hown, hts, hret, hlk, hK, hNw, hnm, hdR, hlR, hcR, hsR⟩ := id hC
  have he : (zWs X σ)[k]? = some (X.2.1 + k, .inl (X.2.2.2.1, n, .inl (σ.2.2 k))) := by rw [zWs_get hkn, zE_int hk]
  exact va_alen hx hb hK hW.2.2.2.1 k 0 he rfl rfl hd (kk X p l e R s m args below meth c Q nn hC hn hr H locs ls hW hS hl)
theorem wx_alenA {k n : Nat} (hd : decode M.2.1 pc = .ok (.arraylength, 1)) (hk : zK k = (12, n)) (hkn : k < σ.1) (kk : wx d M (pc + 1) L (.int (Int32.ofNat n) :: st) σ K) : wx d M pc L (.ref k :: st) σ K := by
  intro X p l e R s m args below meth c Q nn hC hn hr H locs ls hW hS hl
  obtain ⟨hx, hb, hml, hown, hts, hret, hlk, hK, hNw, hnm, hdR, hlR, hcR, hsR⟩ := id hC
  have he : (zWs X σ)[k]? = some (X.2.1 + k, .inl (X.2.2.2.2.1, n, .inr (.inr (.inr (.inr (fun i => (σ.2.1 k i).map (fun t => X.2.1 + t))))))) := by rw [zWs_get hkn, zE_out hk]
  exact va_alen hx hb hK hW.2.2.2.1 k 1 he rfl rfl hd (kk X p l e R s m args below meth c Q nn hC hn hr H locs ls hW hS hl)
theorem wx_slen (hd : decode M.2.1 pc = .ok (.arraylength, 1)) (kk : wx d M (pc + 1) L (.int (Int32.ofNat (σ.2.2 155 0).toNatClampNeg) :: st) σ K) : wx d M pc L (.null :: st) σ K := by
  intro X p l e R s m args below meth c Q nn hC hn hr H locs ls hW hS hl
  obtain ⟨hx, hb, hml, hown, hts, hret, hlk, hK, hNw, hnm, hdR, hlR, hcR, hsR⟩ := id hC
  obtain ⟨scr, h1, h2, h3, h4, h5⟩ := hW.2.2.2.2
  exact W.alen (n := Int32.ofNat (σ.2.2 155 0).toNatClampNeg) hx hb h1 h2 (by rw [h4] <;> rfl) rfl rfl hd (kk X p l e R s m args below meth c Q nn hC hn hr H locs ls hW hS hl)
theorem wx_sld {i : Int32} (hd : decode M.2.1 pc = .ok (.iaload, 1)) (hin : vp_in i (σ.2.2 155 0).toNatClampNeg) (kk : wx d M (pc + 1) L (.int (σ.2.2 154 i.toNatClampNeg) :: st) σ K) : wx d M pc L (.int i :: .null :: st) σ K := by
  intro X p l e R s m args below meth c Q nn hC hn hr H locs ls hW hS hl
  obtain ⟨hx, hb, hml, hown, hts, hret, hlk, hK, hNw, hnm, hdR, hlR, hcR, hsR⟩ := id hC
  obtain ⟨scr, h1, h2, h3, h4, h5⟩ := hW.2.2.2.2
  have hlt : i.toNatClampNeg < (σ.2.2 155 0).toNatClampNeg := Nat.not_le.mp fun q => hin (Or.inr q)
  exact W.iald (v := .int (σ.2.2 154 i.toNatClampNeg)) hx hb h1 h2 h3 (by rw [h4]; exact hin) (h5 _ hlt) rfl rfl hd (kk X p l e R s m args below meth c Q nn hC hn hr H locs ls hW hS hl)
theorem wx_iast {k n : Nat} {i v : Int32} (hd : decode M.2.1 pc = .ok (.iastore, 1)) (hk : zK k = (10, n)) (hkn : k < σ.1) (hin : vp_in i n) (kk : wx d M (pc + 1) L st (σ.1, σ.2.1, zU σ.2.2 k i.toNatClampNeg v) K) : wx d M pc L (.int v :: .int i :: .ref k :: st) σ K := by
  intro X p l e R s m args below meth c Q nn hC hn hr H locs ls hW hS hl
  obtain ⟨hx, hb, hml, hown, hts, hret, hlk, hK, hNw, hnm, hdR, hlR, hcR, hsR⟩ := id hC
  have he : (zWs X σ)[k]? = some (X.2.1 + k, .inl (X.2.2.2.1, n, .inl (σ.2.2 k))) := by rw [zWs_get hkn, zE_int hk]
  refine W.iast hx hb (hW.2.2.2.1 k _ he) ((hK.2 0 (X.2.2.2.1, .int) rfl).1 n (fun j => .int (σ.2.2 k j))) (fun q => by cases q) (by show ¬ (i < 0 ∨ (arrV _ _ _).slots.size ≤ _); rw [arrV_size]; exact hin) rfl rfl hd fun H1 e1 z oq => ?_
  have hat : va_at X.2.2.1 vwCl (X.2.1 + k, .inl (X.2.2.2.1, n, .inl (upd (σ.2.2 k) i.toNatClampNeg v))) H1 := by
    show H1[X.2.1 + k]? = some (vp_cell _ _)
    rw [e1]
    rw [vp_cell_i, vp_cell_i, arrV_store]
    congr 2
    funext q
    by_cases hq : q = i.toNatClampNeg
    · subst hq
      simp [updV, upd]
    · simp [updV, upd, hq]
  have hP' := va_P.set hW.2.2.2.1 zWs_D he hat oq
  have hW' := zWX_put (rf' := σ.2.1) (mm' := zU σ.2.2 k i.toNatClampNeg v) hW z (oq _ (zNX hW)) hkn (by rw [zE_int hk, zU_at]) (fun _ _ => rfl) (fun a ha => zU_ne ha) hP'
  exact kk X p l e R s m args below meth c Q nn hC hn hr H1 _ ls hW' (hS.put z oq (Nat.le_add_right _ _)) hl
theorem wx_zast {k n : Nat} {i v : Int32} (hd : decode M.2.1 pc = .ok (.bastore, 1)) (hk : zK k = (11, n)) (hkn : k < σ.1) (hin : vp_in i n) (hv : vp_nar .boolean v = v) (kk : wx d M (pc + 1) L st (σ.1, σ.2.1, zU σ.2.2 k i.toNatClampNeg v) K) : wx d M pc L (.int v :: .int i :: .ref k :: st) σ K := by
  intro X p l e R s m args below meth c Q nn hC hn hr H locs ls hW hS hl
  obtain ⟨hx, hb, hml, hown, hts, hret, hlk, hK, hNw, hnm, hdR, hlR, hcR, hsR⟩ := id hC
  have he : (zWs X σ)[k]? = some (X.2.1 + k, .inl (X.2.2.2.2.2, n, .inl (σ.2.2 k))) := by rw [zWs_get hkn, zE_bool hk]
  refine W.zast hx hb (hW.2.2.2.1 k _ he) ((hK.2 2 (X.2.2.2.2.2, .boolean) rfl).1 n (fun j => .int (σ.2.2 k j))) (fun q => by cases q) (by show ¬ (i < 0 ∨ (arrV _ _ _).slots.size ≤ _); rw [arrV_size]; exact hin) rfl rfl hd fun H1 e1 z oq => ?_
  have hat : va_at X.2.2.1 vwCl (X.2.1 + k, .inl (X.2.2.2.2.2, n, .inl (upd (σ.2.2 k) i.toNatClampNeg (vp_nar .boolean v)))) H1 := by
    show H1[X.2.1 + k]? = some (vp_cell _ _)
    rw [e1]
    rw [vp_cell_i, vp_cell_i, arrV_store]
    congr 2
    funext q
    by_cases hq : q = i.toNatClampNeg
    · subst hq
      simp [updV, upd]
      rfl
    · simp [updV, upd, hq]
  rw [hv] at hat
  have hP' := va_P.set hW.2.2.2.1 zWs_D he hat oq
  have hW' := zWX_put (rf' := σ.2.1) (mm' := zU σ.2.2 k i.toNatClampNeg v) hW z (oq _ (zNX hW)) hkn (by rw [zE_bool hk, zU_at]) (fun _ _ => rfl) (fun a ha => zU_ne ha) hP'
  exact kk X p l e R s m args below meth c Q nn hC hn hr H1 _ ls hW' (hS.put z oq (Nat.le_add_right _ _)) hl
theorem wx_iret {v : Int32} {ty : FieldType} (hd : decode M.2.1 pc = .ok (.ireturn, 1)) (hty : M.2.2.2.1 = some ty) (hnar : narrow ty (.int v) = .int v) (hz : M.2.2.2.2.2 = 0 ∨ σ.1 = M.2.2.2.2.2) (hK0 : K [.int v] σ) : wx d M pc L [.int v] σ K := by
  intro X p l e R s m args below meth c Q nn hC hn hr H locs ls hW hS hl
  refine hr [.int v] σ H locs pc ls hK0 ?_ hW hS ⟨hd, ty, hty, hnar⟩
  unfold zEnd
  by_cases h : M.2.2.2.2.2 = 0
  · rw [if_pos h]; exact hn h
  · rw [if_neg h]; exact hz.resolve_left h
theorem wx_lret {v : Int64} (hd : decode M.2.1 pc = .ok (.lreturn, 1)) (hty : M.2.2.2.1 = some .long) (hz : M.2.2.2.2.2 = 0 ∨ σ.1 = M.2.2.2.2.2) (hK0 : K [.long v] σ) : wx d M pc L [.long v] σ K := by
  intro X p l e R s m args below meth c Q nn hC hn hr H locs ls hW hS hl
  refine hr [.long v] σ H locs pc ls hK0 ?_ hW hS ⟨hd, hty⟩
  unfold zEnd
  by_cases h : M.2.2.2.2.2 = 0
  · rw [if_pos h]; exact hn h
  · rw [if_neg h]; exact hz.resolve_left h
theorem wx_vret (hd : decode M.2.1 pc = .ok (.return_, 1)) (hty : M.2.2.2.1 = none) (hz : M.2.2.2.2.2 = 0 ∨ σ.1 = M.2.2.2.2.2) (hK0 : K [] σ) : wx d M pc L [] σ K := by
  intro X p l e R s m args below meth c Q nn hC hn hr H locs ls hW hS hl
  refine hr [] σ H locs pc ls hK0 ?_ hW hS ⟨hd, hty⟩
  unfold zEnd
  by_cases h : M.2.2.2.2.2 = 0
  · rw [if_pos h]; exact hn h
  · rw [if_neg h]; exact hz.resolve_left h
end ZME
end
section
/-! calls, a method's contract, making cells -/
def zCm (M' : zMt) : Prop := Cond.code M'.1 M'.2.1 M'.2.2.1 M'.2.2.2.1 ∈ zT ∧ Cond.initialized M'.1.cls ∈ zT ∧ (M'.1.cls ≠ "java/lang/invoke/MethodHandle" ∧ M'.1.cls ≠ "java/lang/invoke/VarHandle") ∧ M'.2.2.1 ≤ 21 ∧ plainFor M'.1 = true
def zNp (M' : zMt) (n : Nat) : Prop := (parseMethodDescriptor M'.1.desc).map (fun d => d.parameters.length) = some n
def zIV (M' : zMt) : Prop := Cond.instanceMethod M'.1 ∈ zT ∧ Cond.selects M'.1.cls M'.1 M'.1 ∈ zT
theorem zCat {X : zX} {rest : List Value} : ((rest.map (zV X)).map fun v => v.category).sum = (rest.map fun v => v.category).sum := by
  rw [List.map_map]
  exact congrArg List.sum (List.map_congr_left (fun v _ => zV_cat))
theorem zMet_back {X : zX} {p : Program} {l : Launch} {e : Env} {R : Room} {s : State} {m : MethodId} {args : Array Value} {below : List Frame} {meth : Method} {c : Code} {Q : State → Prop} {H : Heap} {locs : List Loc} {cells slots mc ms pc n : Nat} {ls : Array Slot} {rest : List Value} {st0 : List Value} {M' : zMt} {K' : List Value → zS → Prop} {a : Array Value}
    (hr : va_Run p l e R s m args below meth c H locs cells slots mc ms (F0 m pc ls st0) rest (zQc X M' n K' a) (zAp X)) (hS : va_S (zAp X) s.heap H locs)
    (kk : ∀ (r : List Value) (σ' : zS) (H1 : Heap) (locs1 : List Loc), K' r σ' → zEnd M' n σ' → zWX X s σ' H1 → va_S (zAp X) s.heap H1 locs1 → W p l e R s m args below meth c H1 locs1 (cells + mc) (slots + ms) Q (F0 m (pc + 3) ls (r.map (zV X) ++ rest))) : W p l e R s m args below meth c H locs cells slots Q (F0 m pc ls st0) := by
  intro T hT X0
  obtain ⟨v, st₀, t, T', L, h0, X', hL, e1, e2, ⟨r, σ', hK', hEnd, hlen, hoc, hWX, hz, hk⟩, st⟩ := hr T hT X0
  rw [h0] at hz hk
  have hvm : s.vm.Alike t.vm := by rw [← e2]; exact X'.warmed.alike
  have hv : v.toList = r.map (zV X) := by
    cases hoc
    match r, hlen with
    | [], _ => rfl
    | [x], _ => rfl
  have hWX' : zWX X s σ' T'.heap := by rw [e1]; exact zWX_moved (hvm.symm) hWX
  obtain ⟨t2, a1, b1⟩ := kk r σ' T'.heap (locs ++ L) hK' hEnd hWX'
    ⟨Nat.le_trans hS.1 (by rw [e1]; exact hz), fun q h1 h2 => by rw [e1, hk q (Nat.lt_of_lt_of_le h1 hS.1) h2]; exact hS.2.1 q h1 h2, fun q hq => by
      rcases List.mem_append.mp hq with h | h
      · exact hS.2.2 q h
      · exact hL q h⟩ T' rfl X'
  refine ⟨t2, ?_, b1⟩
  rw [← hv] at a1
  exact st t2 a1
theorem zPc_blind {X : zX} {av : List Value} {σ : zS} : FrameBlind (zPc X av σ) := by
  intro a U g mk q
  obtain ⟨q0, q1, q2, q3⟩ := q
  exact ⟨q0, zWX_moved (s := U) (t := U.calling g mk a) (Vm.Alike.refl U.vm) q1, va_K.moved (u := U) (U := U.calling g mk a) (Vm.Alike.refl U.vm) q2, zNw_same (s := U) (U := U.calling g mk a) rfl q3⟩
theorem zPc_at {X : zX} {av : List Value} {σ : zS} {s : State} {H : Heap} (hW : zWX X s σ H) (hK : va_K X.2.2.1 vwCl (zTy X) s) (hN : zNw s) : ∀ U : State, U.heap = H → s.WarmedH U.vm → zPc X av σ (av.map (zV X)).toArray U := by
  intro U hU hw
  exact ⟨rfl, by rw [hU]; exact zWX_moved hw.alike hW, va_K.moved hw.alike hK, zNw_warm hw hN⟩
theorem zWd_code {M : zMt} : Cond.code M.1 M.2.1 M.2.2.1 M.2.2.2.1 ∈ zWd M := List.mem_cons_self
section ZCA
variable {d : Nat} {M M' : zMt} {pc idx : Nat} {L : List (Option Value)} {rest av : List Value} {σ : zS} {K : List Value → zS → Prop}
/-- the room of a caller for a callee: no new cells, or a made part of the caller's own -/
def zRoom (M M' : zMt) (n : Nat) : Prop := M'.2.2.2.2.2 = 0 ∨ (M.2.2.2.2.2 ≠ 0 ∧ M'.2.2.2.2.2 ≠ 0 ∧ n = M'.2.2.2.2.1 ∧ M.2.2.2.2.1 ≤ M'.2.2.2.2.1 ∧ M'.2.2.2.2.1 ≤ M'.2.2.2.2.2 ∧ M'.2.2.2.2.2 ≤ M.2.2.2.2.2)
theorem zRoom_cells {M M' : zMt} {R : Room} {n : Nat} (h : zRoom M M' n) (h1 : zcc M M.2.2.2.2.2 ≤ R.cells) (h2 : zss M M.2.2.2.2.2 ≤ R.slots) (hn : n ≤ M.2.2.2.2.2 ∨ M.2.2.2.2.2 = 0) : zcc M n + zcc M' M'.2.2.2.2.2 ≤ R.cells ∧ zss M n + zss M' M'.2.2.2.2.2 ≤ R.slots := by
  unfold zcc zss at *
  rcases h with h | ⟨a1, a2, a3, a4, a5, a6⟩
  · rw [if_pos h, if_pos h]
    by_cases hm : M.2.2.2.2.2 = 0
    · rw [if_pos hm, if_pos hm]; omega
    · rw [if_neg hm] at h1 h2 ⊢
      rw [if_neg hm]
      have := zSum_mono (hn.resolve_right hm)
      have := hn.resolve_right hm
      omega
  · rw [if_neg a1] at h1 h2 ⊢
    rw [if_neg a1, if_neg a2, if_neg a2]
    subst a3
    have s1 := zSum_mono a4
    have s2 := zSum_mono a5
    have s3 := zSum_mono a6
    omega
theorem zRoom_end {M M' : zMt} {n : Nat} {σ' : zS} (h : zRoom M M' n) (he : zEnd M' n σ') : zcc M n + zcc M' M'.2.2.2.2.2 = zcc M σ'.1 ∧ zss M n + zss M' M'.2.2.2.2.2 = zss M σ'.1 ∧ (M.2.2.2.2.2 = 0 → σ'.1 = n) ∧ (σ'.1 = n ∨ σ'.1 ≤ M.2.2.2.2.2) := by
  unfold zcc zss zEnd at *
  rcases h with h | ⟨a1, a2, a3, a4, a5, a6⟩
  · rw [if_pos h] at he
    rw [if_pos h, if_pos h, he]
    exact ⟨rfl, rfl, fun _ => rfl, Or.inl rfl⟩
  · rw [if_neg a2] at he
    rw [if_neg a1, if_neg a1, if_neg a1, if_neg a1, if_neg a2, if_neg a2, he]
    subst a3
    have s1 := zSum_mono a4
    have s2 := zSum_mono a5
    exact ⟨by omega, by omega, fun h => absurd h a1, Or.inr a6⟩
theorem wx_callV {ci k n : Nat} (hd : decode M.2.1 pc = .ok (.invokevirtual idx, 3)) (hm : zCm M') (hi : zIV M') (hlink : Cond.methodLink M.1.cls idx M'.1 ∈ zT) (hnp : zNp M' n) (hn0 : av.length = n) (hk : (zK k).1 = ci) (hci : ci < 10) (hcl : vwCl[ci]?.map (fun q => q.1) = some M'.1.cls) (hkn : k < σ.1) (hrest : (rest.map fun v => v.category).sum ≤ 8) (hrm : zRoom M M' σ.1) (hnn : σ.1 ≤ M.2.2.2.2.2 ∨ M.2.2.2.2.2 = 0)
    (kk : wm d M' (.ref k :: av) σ (fun r σ' => wx (d + 1) M (pc + 3) L (r ++ rest) σ' K)) : wx (d + 1) M pc L (av.reverse ++ .ref k :: rest) σ K := by
  intro X p l e R s m args below meth c Q nn hC hn hr H locs ls hW hS hl
  obtain ⟨hx, hb, hml, hown, hts, hret, hlk, hK, hNw, hnm, hdR, hlR, hcR, hsR⟩ := id hC
  obtain ⟨m1, m2, m3, m4, m5⟩ := hm
  obtain ⟨q, hq⟩ : ∃ q, vwCl[ci]? = some q := by
    cases h : vwCl[ci]? with
    | none => rw [h] at hcl; cases hcl
    | some q => exact ⟨q, rfl⟩
  have hqn : q.1 = M'.1.cls := by rw [hq] at hcl; exact Option.some.inj hcl
  have he : (zWs X σ)[k]? = some (X.2.1 + k, .inr (ci, zFs X σ.2.1 σ.2.2 ci k)) := by rw [zWs_get hkn, zE_obj hk hci]
  have hrecv := va_recv hK hW.2.2.2.1 hq he
  rw [hqn] at hrecv
  have cb : CallW R s args M.1.cls M'.1.cls idx M'.1 M'.2.1 M'.2.2.1 M'.2.2.2.1 (zWd M') (zRm d M') (zcc M' M'.2.2.2.2.2) (zss M' M'.2.2.2.2.2) n :=
    ⟨⟨rfl, rfl, hdR, by show 8 + (M'.2.2.1 + 11) + 40 * d ≤ R.locals; omega, zT_pay hts m1, zWd_code, hts _ m1, hts _ m2, m3, fun sig h => by rw [zNp, h] at hnp; exact (Option.some.inj hnp).symm, hts _ hlink⟩, hts _ hi.1, hts _ hi.2⟩
  have hrun := va_runV (cells := zcc M σ.1) (slots := zss M σ.1) (locs := locs) (l := l) (e := e) (below := below) (meth := meth) (As := av.map (zV X)) (rest := rest.map (zV X)) (g := F0 m pc ls ((av.reverse ++ .ref k :: rest).map (zV X))) (b := X.2.1 + k)
    ⟨hx, hb, hml, hown, hts⟩ (kk X l) cb ⟨zPc_blind, hrecv, zPc_at hW hK hNw⟩ rfl (by rw [List.length_map]; exact hn0) hl.1 (by simp [zV]) (lv_room (by rw [zCat]; exact hrest)) hd (zRoom_cells hrm hcR hsR hnn)
  refine zMet_back hrun hS fun r σ' H1 locs1 hK1 hEnd hW1 hS1 => ?_
  obtain ⟨g1, g2, g3, -⟩ := zRoom_end hrm hEnd
  have := hK1 X p l e R s m args below meth c Q nn hC (fun q => (g3 q).trans (hn q)) hr H1 locs1 ls hW1 hS1 hl
  rw [g1, g2]
  rw [List.map_append] at this
  exact this
theorem wx_callS {n : Nat} (hd : decode M.2.1 pc = .ok (.invokestatic idx, 3)) (hm : zCm M') (hi : Cond.static M'.1 ∈ zT) (hlink : Cond.methodLink M.1.cls idx M'.1 ∈ zT) (hnp : zNp M' n) (hn0 : av.length = n) (hrest : (rest.map fun v => v.category).sum ≤ 8) (hrm : zRoom M M' σ.1) (hnn : σ.1 ≤ M.2.2.2.2.2 ∨ M.2.2.2.2.2 = 0)
    (kk : wm d M' av σ (fun r σ' => wx (d + 1) M (pc + 3) L (r ++ rest) σ' K)) : wx (d + 1) M pc L (av.reverse ++ rest) σ K := by
  intro X p l e R s m args below meth c Q nn hC hn hr H locs ls hW hS hl
  obtain ⟨hx, hb, hml, hown, hts, hret, hlk, hK, hNw, hnm, hdR, hlR, hcR, hsR⟩ := id hC
  obtain ⟨m1, m2, m3, m4, m5⟩ := hm
  have cb : CallB R s args M.1.cls idx M'.1 M'.2.1 M'.2.2.1 M'.2.2.2.1 (zWd M') (zRm d M') (zcc M' M'.2.2.2.2.2) (zss M' M'.2.2.2.2.2) n ∧ (Cond.static M'.1).before args s = true :=
    ⟨⟨rfl, rfl, hdR, by show 8 + (M'.2.2.1 + 11) + 40 * d ≤ R.locals; omega, zT_pay hts m1, zWd_code, hts _ m1, hts _ m2, m3, fun sig h => by rw [zNp, h] at hnp; exact (Option.some.inj hnp).symm, hts _ hlink⟩, hts _ hi⟩
  have hrun := va_runS (cells := zcc M σ.1) (slots := zss M σ.1) (locs := locs) (l := l) (e := e) (below := below) (meth := meth) (As := av.map (zV X)) (rest := rest.map (zV X)) (g := F0 m pc ls ((av.reverse ++ rest).map (zV X)))
    ⟨hx, hb, hml, hown, hts⟩ (kk X l) cb ⟨zPc_blind, zPc_at hW hK hNw⟩ rfl (by rw [List.length_map]; exact hn0) hl.1 (by simp) (lv_room (by rw [zCat]; exact hrest)) hd (zRoom_cells hrm hcR hsR hnn)
  refine zMet_back hrun hS fun r σ' H1 locs1 hK1 hEnd hW1 hS1 => ?_
  obtain ⟨g1, g2, g3, -⟩ := zRoom_end hrm hEnd
  have := hK1 X p l e R s m args below meth c Q nn hC (fun q => (g3 q).trans (hn q)) hr H1 locs1 ls hW1 hS1 hl
  rw [g1, g2]
  rw [List.map_append] at this
  exact this
theorem wx_callSN {n : Nat} {host : String} (hd : decode M.2.1 pc = .ok (.invokestatic idx, 3)) (hm : zCm M') (hi : Cond.static M'.1 ∈ zT) (hlink : Cond.methodLinkNest M.1.cls idx M'.1 host ∈ zNest) (hnp : zNp M' n) (hn0 : av.length = n) (hrest : (rest.map fun v => v.category).sum ≤ 8) (hrm : zRoom M M' σ.1) (hnn : σ.1 ≤ M.2.2.2.2.2 ∨ M.2.2.2.2.2 = 0)
    (kk : wm d M' av σ (fun r σ' => wx (d + 1) M (pc + 3) L (r ++ rest) σ' K)) : wx (d + 1) M pc L (av.reverse ++ rest) σ K := by
  intro X p l e R s m args below meth c Q nn hC hn hr H locs ls hW hS hl
  obtain ⟨hx, hb, hml, hown, hts, hret, hlk, hK, hNw, hnm, hdR, hlR, hcR, hsR⟩ := id hC
  obtain ⟨m1, m2, m3, m4, m5⟩ := hm
  have cb : va_CN R s args M.1.cls idx M'.1 host M'.2.1 M'.2.2.1 M'.2.2.2.1 (zWd M') (zRm d M') (zcc M' M'.2.2.2.2.2) (zss M' M'.2.2.2.2.2) n ∧ (Cond.static M'.1).before args s = true ∧ True :=
    ⟨⟨⟨rfl, rfl, hdR, by show 8 + (M'.2.2.1 + 11) + 40 * d ≤ R.locals; omega, zT_pay hts m1, zWd_code⟩, hts _ m1, hts _ m2, m3, fun sig h => by rw [zNp, h] at hnp; exact (Option.some.inj hnp).symm, va_Nw.use rfl (hNw.1 _ hlink)⟩, hts _ hi, trivial⟩
  have hrun := va_runSN (cells := zcc M σ.1) (slots := zss M σ.1) (locs := locs) (l := l) (e := e) (below := below) (meth := meth) (As := av.map (zV X)) (rest := rest.map (zV X)) (g := F0 m pc ls ((av.reverse ++ rest).map (zV X)))
    ⟨hx, hb, hml, hown, hts⟩ (kk X l) cb ⟨zPc_blind, zPc_at hW hK hNw⟩ rfl (by rw [List.length_map]; exact hn0) hl.1 (by simp) (lv_room (by rw [zCat]; exact hrest)) hd (zRoom_cells hrm hcR hsR hnn)
  refine zMet_back hrun hS fun r σ' H1 locs1 hK1 hEnd hW1 hS1 => ?_
  obtain ⟨g1, g2, g3, -⟩ := zRoom_end hrm hEnd
  have := hK1 X p l e R s m args below meth c Q nn hC (fun q => (g3 q).trans (hn q)) hr H1 locs1 ls hW1 hS1 hl
  rw [g1, g2]
  rw [List.map_append] at this
  exact this
theorem wx_callI {n k : Nat} (hd : decode M.2.1 pc = .ok (.invokespecial idx, 3)) (hm : zCm M') (hi : Cond.instanceMethod M'.1 ∈ zT) (hlink : Cond.methodLink M.1.cls idx M'.1 ∈ zT) (hnp : zNp M' n) (hin : M'.1.name = "<init>") (hvo : M'.2.2.2.1 = none) (hn0 : av.length = n) (hrest : (rest.map fun v => v.category).sum ≤ 8) (hrm : zRoom M M' σ.1) (hnn : σ.1 ≤ M.2.2.2.2.2 ∨ M.2.2.2.2.2 = 0)
    (kk : wm d M' (.ref k :: av) σ (fun r σ' => wx (d + 1) M (pc + 3) L (r ++ rest) σ' K)) : wx (d + 1) M pc L (av.reverse ++ .ref k :: rest) σ K := by
  intro X p l e R s m args below meth c Q nn hC hn hr H locs ls hW hS hl
  obtain ⟨hx, hb, hml, hown, hts, hret, hlk, hK, hNw, hnm, hdR, hlR, hcR, hsR⟩ := id hC
  obtain ⟨m1, m2, m3, m4, m5⟩ := hm
  have cb : CallB R s args M.1.cls idx M'.1 M'.2.1 M'.2.2.1 none (zWd M') (zRm d M') (zcc M' M'.2.2.2.2.2) (zss M' M'.2.2.2.2.2) n ∧ M'.1.name = "<init>" ∧ (Cond.instanceMethod M'.1).before args s = true :=
    ⟨⟨rfl, rfl, hdR, by show 8 + (M'.2.2.1 + 11) + 40 * d ≤ R.locals; omega, zT_pay hts m1, by rw [← hvo]; exact zWd_code, by rw [← hvo]; exact hts _ m1, hts _ m2, m3, fun sig h => by rw [zNp, h] at hnp; exact (Option.some.inj hnp).symm, hts _ hlink⟩, hin, hts _ hi⟩
  have hrun := va_runI (cells := zcc M σ.1) (slots := zss M σ.1) (locs := locs) (l := l) (e := e) (below := below) (meth := meth) (As := av.map (zV X)) (rest := rest.map (zV X)) (g := F0 m pc ls ((av.reverse ++ .ref k :: rest).map (zV X))) (b := X.2.1 + k)
    ⟨hx, hb, hml, hown, hts⟩ (kk X l) cb ⟨zPc_blind, zPc_at hW hK hNw⟩ rfl (by rw [List.length_map]; exact hn0) hl.1 (by simp [zV]) (lv_room (by rw [zCat]; exact hrest)) hd (zRoom_cells hrm hcR hsR hnn)
  refine zMet_back hrun hS fun r σ' H1 locs1 hK1 hEnd hW1 hS1 => ?_
  obtain ⟨g1, g2, g3, -⟩ := zRoom_end hrm hEnd
  have := hK1 X p l e R s m args below meth c Q nn hC (fun q => (g3 q).trans (hn q)) hr H1 locs1 ls hW1 hS1 hl
  rw [g1, g2]
  rw [List.map_append] at this
  exact this
theorem wx_callIN {n k : Nat} {host : String} (hd : decode M.2.1 pc = .ok (.invokespecial idx, 3)) (hm : zCm M') (hi : Cond.instanceMethod M'.1 ∈ zT) (hlink : Cond.methodLinkNest M.1.cls idx M'.1 host ∈ zNest) (hnp : zNp M' n) (hin : M'.1.name = "<init>") (hvo : M'.2.2.2.1 = none) (hn0 : av.length = n) (hrest : (rest.map fun v => v.category).sum ≤ 8) (hrm : zRoom M M' σ.1) (hnn : σ.1 ≤ M.2.2.2.2.2 ∨ M.2.2.2.2.2 = 0)
    (kk : wm d M' (.ref k :: av) σ (fun r σ' => wx (d + 1) M (pc + 3) L (r ++ rest) σ' K)) : wx (d + 1) M pc L (av.reverse ++ .ref k :: rest) σ K := by
  intro X p l e R s m args below meth c Q nn hC hn hr H locs ls hW hS hl
  obtain ⟨hx, hb, hml, hown, hts, hret, hlk, hK, hNw, hnm, hdR, hlR, hcR, hsR⟩ := id hC
  obtain ⟨m1, m2, m3, m4, m5⟩ := hm
  have cb : va_CN R s args M.1.cls idx M'.1 host M'.2.1 M'.2.2.1 none (zWd M') (zRm d M') (zcc M' M'.2.2.2.2.2) (zss M' M'.2.2.2.2.2) n ∧ M'.1.name = "<init>" ∧ (Cond.instanceMethod M'.1).before args s = true :=
    ⟨⟨⟨rfl, rfl, hdR, by show 8 + (M'.2.2.1 + 11) + 40 * d ≤ R.locals; omega, zT_pay hts m1, by rw [← hvo]; exact zWd_code⟩, by rw [← hvo]; exact hts _ m1, hts _ m2, m3, fun sig h => by rw [zNp, h] at hnp; exact (Option.some.inj hnp).symm, va_Nw.use rfl (hNw.1 _ hlink)⟩, hin, hts _ hi⟩
  have hrun := va_runIN (cells := zcc M σ.1) (slots := zss M σ.1) (locs := locs) (l := l) (e := e) (below := below) (meth := meth) (As := av.map (zV X)) (rest := rest.map (zV X)) (g := F0 m pc ls ((av.reverse ++ .ref k :: rest).map (zV X))) (b := X.2.1 + k)
    ⟨hx, hb, hml, hown, hts⟩ (kk X l) cb ⟨zPc_blind, zPc_at hW hK hNw⟩ rfl (by rw [List.length_map]; exact hn0) hl.1 (by simp [zV]) (lv_room (by rw [zCat]; exact hrest)) hd (zRoom_cells hrm hcR hsR hnn)
  refine zMet_back hrun hS fun r σ' H1 locs1 hK1 hEnd hW1 hS1 => ?_
  obtain ⟨g1, g2, g3, -⟩ := zRoom_end hrm hEnd
  have := hK1 X p l e R s m args below meth c Q nn hC (fun q => (g3 q).trans (hn q)) hr H1 locs1 ls hW1 hS1 hl
  rw [g1, g2]
  rw [List.map_append] at this
  exact this
theorem wx_objInit {k : Nat} (hd : decode M.2.1 pc = .ok (.invokespecial idx, 3)) (h1 : Cond.methodLink M.1.cls idx objectInit ∈ zT) (h2 : Cond.instanceMethod objectInit ∈ zT) (h3 : Cond.code objectInit ⟨#[0xb1]⟩ 1 none ∈ zT) (hrest : (rest.map fun v => v.category).sum ≤ 8) (kk : wx (d + 1) M (pc + 3) L rest σ K) : wx (d + 1) M pc L (.ref k :: rest) σ K := by
  intro X p l e R s m args below meth c Q nn hC hn hr H locs ls hW hS hl
  obtain ⟨hx, hb, hml, hown, hts, hret, hlk, hK, hNw, hnm, hdR, hlR, hcR, hsR⟩ := id hC
  have hcs : ((rest.map (zV X)).map fun v => v.category).sum ≤ 8 := by rw [zCat]; exact hrest
  exact W.objInit hx hb hown (hts _ h1) (hts _ h2) (hts _ h3) rfl (by rw [hml]; exact hl.1) rfl hd (by omega) (by show 2 * 0 + ((rest.map (zV X)).map fun v => v.category).sum + 12 ≤ R.locals; omega) (kk X p l e R s m args below meth c Q nn hC hn hr H locs ls hW hS hl)
theorem zMet_ofW {l : Launch} {y : MethodName} {ws ws' : List Cond} {rm : Room} {Pc : Array Value → State → Prop} {Qc : Array Value → State → Outcome → State → Prop} {mc ms : Nat} {free : Addr → Prop} {cc : ByteArray} {maxL : Nat} {ret : Option FieldType}
    (hy : plainFor y = true) (hw : ws = Cond.code y cc maxL ret :: ws')
    (body : ∀ p e s m args below meth c s₁, BodyLoose p l y (headSpec ws rm) cc maxL ret e s m args below meth c s₁ → c.maxLocals = maxL → Pc args s →
      W p l e (headSpec ws rm).room s m args below meth c s.heap [] 0 0 (MQ below Qc args s mc ms free) (entryFrame m args maxL)) : Met l y ws rm Pc Qc mc ms free := by
  refine MetFree.of_bodyRF (code := cc) (maxLocals := maxL) (ret := ret) hy ?_ ?_
  · intro args s m h hn
    obtain ⟨meth, c, h1, h2, h3, h4, h5, h6, -, -⟩ := Cond.code_spec hn (atoms_spec (ws := ws) h _ (by rw [hw]; exact List.mem_cons_self))
    exact ⟨meth, c, h1, h2, h3, h4, h5, h6⟩
  · intro p e s m args below meth c s₁ B hml hP _ hst
    have hh0 : s₁.heap = s.heap := by rw [B.state]; rfl
    obtain ⟨t, a1, o, b1, b2, b3⟩ := body p e s m args below meth c s₁ B hml hP s₁ hh0 (Stand.of_body B)
    exact ⟨t, o, hst.trans a1, b1, b2, ⟨b3.1, b3.2⟩⟩
/-- a method's contract out of its walk -/
theorem wm_of {nL : Nat} {L0 : List (Option Value)} (hm : zCm M) (hz : M.2.2.2.2.2 = 0 ∨ σ.1 = M.2.2.2.2.1) (hlen : (zArgs av).length ≤ M.2.2.1) (hL : zArgs av ++ List.replicate (M.2.2.1 - (zArgs av).length) none = L0) (h : wx d M 0 L0 [] σ K) : wm d M av σ K := by
  intro X l
  obtain ⟨m1, m2, m3, m4, m5⟩ := hm
  refine zMet_ofW (cc := M.2.1) (maxL := M.2.2.1) (ret := M.2.2.2.1) m5 rfl ?_
  intro p e s m args below meth c s₁ B hml hv
  obtain ⟨rfl, hW, hK, hN⟩ := hv
  have hts0 := atoms_spec (ws := zWd M) B.pre
  have hC : zC X d M p (headSpec (zWd M) (zRm d M)).room s m (av.map (zV X)).toArray meth c :=
    ⟨B.exec, B.bytes, hml, findClass_of_methodNamed B.named, fun w hw => hts0 w (List.mem_cons_of_mem _ hw), B.returns, B.notSynchronized, hK, hN, fun _ => (name_of_methodNamed B.named B.method).1, Nat.le_refl _, Nat.le_refl _, Nat.le_refl _, Nat.le_refl _⟩
  rw [lg_entry_eq]
  have hl := zL_entry (X := X) hlen
  rw [hL] at hl
  have key := h X p l e (headSpec (zWd M) (zRm d M)).room s m (av.map (zV X)).toArray below meth c (MQ below (zQc X M σ.1 K) (av.map (zV X)).toArray s (zcc M M.2.2.2.2.2) (zss M M.2.2.2.2.2) (zAp X)) σ.1 hC (fun _ => rfl) ?_ s.heap [] _ hW va_S.rf hl
  · have e0 : zcc M σ.1 = 0 ∧ zss M σ.1 = 0 := by
      unfold zcc zss
      rcases hz with hz | hz
      · rw [if_pos hz, if_pos hz]; exact ⟨rfl, rfl⟩
      · by_cases q : M.2.2.2.2.2 = 0
        · rw [if_pos q, if_pos q]; exact ⟨rfl, rfl⟩
        · rw [if_neg q, if_neg q, hz, Nat.sub_self, Nat.sub_self]; exact ⟨rfl, rfl⟩
    rw [e0.1, e0.2] at key
    exact key
  · intro r σ' H' locs' pc' ls' hK' hEnd hW' hS' hret
    have e1 : zcc M σ'.1 = zcc M M.2.2.2.2.2 ∧ zss M σ'.1 = zss M M.2.2.2.2.2 := by
      unfold zcc zss
      unfold zEnd at hEnd
      by_cases q : M.2.2.2.2.2 = 0
      · rw [if_pos q, if_pos q, if_pos q, if_pos q]; exact ⟨rfl, rfl⟩
      · rw [if_neg q] at hEnd; rw [if_neg q, if_neg q, if_neg q, if_neg q, hEnd]; exact ⟨rfl, rfl⟩
    rw [e1.1, e1.2]
    have hq : ∀ t : State, t.heap = H' → s.WarmedH t.vm → ∀ o : Option Value, o = (r.map (zV X)).head? → r.length ≤ 1 → zQc X M σ.1 K (av.map (zV X)).toArray s (.returned o) t := fun t ht hw o ho hlen1 =>
      ⟨r, σ', hK', hEnd, hlen1, by rw [ho], by rw [ht]; exact zWX_moved hw.alike hW', hS'.F ht⟩
    match r, hret, hq with
    | [], hret, hq => exact W.vret B.exec B.bytes (B.returns.trans hret.2) (fun t ht hw => hq t ht hw none rfl (by simp)) hS'.2.2 hret.1 B.notSynchronized
    | [.int v], hret, hq =>
      obtain ⟨h1, ty, h2, h3⟩ := hret
      exact W.zret (ty := ty) B.exec B.bytes (B.returns.trans h2) h3 (fun t ht hw => hq t ht hw (some (.int v)) rfl (by simp)) hS'.2.2 h1 B.notSynchronized
    | [.long v], hret, hq => exact W.lret B.exec B.bytes (B.returns.trans hret.2) (fun t ht hw => hq t ht hw (some (.long v)) rfl (by simp)) hS'.2.2 hret.1 B.notSynchronized
end ZCA
end
section
/-! copying, making cells -/
theorem zAcopy_words : nativeFrameWords "java/lang/System" "arraycopy" 5 ≤ 21 := by decide +kernel
theorem zWs_succ {X : zX} {n : Nat} {rf : zR} {mm : zM} : zWs X (n + 1, rf, mm) = zWs X (n, rf, mm) ++ [(X.2.1 + n, zE X rf mm n)] := by
  simp [zWs, List.range_succ]
theorem zSlots {M : zMt} {n : Nat} (h : M.2.2.2.2.1 ≤ n) (h0 : M.2.2.2.2.2 ≠ 0) : zcc M (n + 1) = zcc M n + 1 ∧ zss M (n + 1) = zss M n + zSz n := by
  unfold zcc zss
  rw [if_neg h0, if_neg h0, if_neg h0, if_neg h0]
  have := zSum_mono h
  have e : zSum (n + 1) = zSum n + zSz n := rfl
  omega
theorem zSlots_le {M : zMt} {n : Nat} {R : Room} (h : M.2.2.2.2.1 ≤ n) (h0 : M.2.2.2.2.2 ≠ 0) (h1 : n + 1 ≤ M.2.2.2.2.2) (hcR : zcc M M.2.2.2.2.2 ≤ R.cells) (hsR : zss M M.2.2.2.2.2 ≤ R.slots) : zcc M n + 1 ≤ R.cells ∧ zss M n + zSz n ≤ R.slots := by
  unfold zcc zss at *
  rw [if_neg h0] at hcR hsR
  rw [if_neg h0, if_neg h0]
  have := zSum_mono h1
  have e : zSum (n + 1) = zSum n + zSz n := rfl
  have := zSum_mono h
  omega
theorem zWX_push {X : zX} {s : State} {σ : zS} {H H1 : Heap} (hW : zWX X s σ H) (hn : σ.1 + 1 ≤ 154) (hz : H1.size = X.2.1 + σ.1 + 1) (o1 : ∀ q : Nat, q < X.2.1 + σ.1 → H1[q]? = H[q]?) (hat : va_at X.2.2.1 vwCl (X.2.1 + σ.1, zE X σ.2.1 σ.2.2 σ.1) H1) : zWX X s (σ.1 + 1, σ.2.1, σ.2.2) H1 := by
  refine ⟨by rw [hz]; omega, hn, hW.2.2.1, ?_, ?_⟩
  · rw [zWs_succ]
    refine (hW.2.2.2.1.kept (fun k x hx => o1 x.1 (by rw [← hW.1]; exact (hW.2.2.2.1 k x hx).lt))).app (fun k x hx => ?_)
    have hz0 : k < 1 := (List.getElem?_eq_some_iff.mp hx).1
    rw [show k = 0 by omega] at hx
    cases hx
    exact hat
  · exact hW.2.2.2.2.kept (o1 _ (by have := hW.2.2.1; omega))
theorem zS_push {X : zX} {s : State} {σ : zS} {H H1 : Heap} {locs : List Loc} (hW : zWX X s σ H) (hS : va_S (zAp X) s.heap H locs) (hz : X.2.1 + σ.1 ≤ H1.size) (o1 : ∀ q : Nat, q < X.2.1 + σ.1 → H1[q]? = H[q]?) : va_S (zAp X) s.heap H1 locs :=
  ⟨Nat.le_trans hS.1 (by rw [hW.1]; exact hz), fun q h1 h2 => by rw [o1 q (by rw [← hW.1]; exact Nat.lt_of_lt_of_le h1 hS.1)]; exact hS.2.1 q h1 h2, hS.2.2⟩
section ZMK
variable {d : Nat} {M : zMt} {pc idx : Nat} {L : List (Option Value)} {rest st : List Value} {σ : zS} {K : List Value → zS → Prop}
theorem wx_acopy {ka kb na nb : Nat} {sp dp n : Int32} (hd : decode M.2.1 pc = .ok (.invokestatic idx, 3)) (w1 : Cond.methodLink M.1.cls idx arraycopyName ∈ zT) (w2 : Cond.native arraycopyName ∈ zT) (w3 : Cond.static arraycopyName ∈ zT) (w4 : Cond.initialized "java/lang/System" ∈ zT) (hka : zK ka = (10, na)) (hkb : zK kb = (10, nb)) (ha : ka < σ.1) (hkn : kb < σ.1)
    (h1 : ¬ sp < 0) (h2 : ¬ dp < 0) (h3 : ¬ n < 0) (h4 : sp.toNatClampNeg + n.toNatClampNeg ≤ na) (h5 : dp.toNatClampNeg + n.toNatClampNeg ≤ nb) (hrest : (rest.map fun v => v.category).sum ≤ 8)
    (kk : wx (d + 1) M (pc + 3) L rest (σ.1, σ.2.1, va_up σ.2.2 kb (va_cpy (σ.2.2 ka) (σ.2.2 kb) sp.toNatClampNeg dp.toNatClampNeg n.toNatClampNeg)) K) : wx (d + 1) M pc L (.int n :: .int dp :: .ref kb :: .int sp :: .ref ka :: rest) σ K := by
  intro X p l e R s m args below meth c Q nn hC hn hr H locs ls hW hS hl
  obtain ⟨hx, hb, hml, hown, hts, hret, hlk, hK, hNw, hnm, hdR, hlR, hcR, hsR⟩ := id hC
  have nn0 : ∀ z : Int32, ¬ z < 0 → z.toInt = (z.toNatClampNeg : Int) := by
    intro z hz
    have hz0 : (0 : Int) ≤ z.toInt := by
      have := Int32.not_lt.mp hz
      simpa using Int32.le_iff_toInt_le.mp this
    show z.toInt = ((z.toInt.toNat : Nat) : Int)
    omega
  have he1 : (zWs X σ)[kb]? = some (X.2.1 + kb, .inl (X.2.2.2.1, nb, .inl (σ.2.2 kb))) := by rw [zWs_get hkn, zE_int hkb]
  have hc0 : H[X.2.1 + ka]? = some (vp_cell X.2.2.2.1 (na, .inl (σ.2.2 ka))) := hW.2.2.2.1 ka (X.2.1 + ka, .inl (X.2.2.2.1, na, .inl (σ.2.2 ka))) (by rw [zWs_get ha, zE_int hka])
  have hc1 : H[X.2.1 + kb]? = some (vp_cell X.2.2.2.1 (nb, .inl (σ.2.2 kb))) := hW.2.2.2.1 kb _ he1
  have hKa := (hK.2 0 (X.2.2.2.1, .int) rfl).1
  have hwords := zAcopy_words
  intro T hT X0
  obtain ⟨-, k0, hk0, cm0, hkk0⟩ := hKa na (fun j => .int (σ.2.2 ka j))
  obtain ⟨-, k1, hk1, cm1, hkk1⟩ := hKa nb (fun j => .int (σ.2.2 kb j))
  obtain ⟨vm', X', step⟩ := X0.arraycopy hx hown (hts _ w1) (hts _ w2) (hts _ w3) (hts _ w4) (src := X.2.1 + ka) (dst := X.2.1 + kb) (cs := vp_cell X.2.2.2.1 (na, .inl (σ.2.2 ka))) (cd := vp_cell X.2.2.2.1 (nb, .inl (σ.2.2 kb))) (srcPos := sp) (destPos := dp) (n := n) (by rw [hT]; exact hc0) (by rw [hT]; exact hc1)
    (fun _ h => by cases h) (fun _ h => by cases h) (fun h => by cases h) (fun h => by cases h) hk0 hk1 hkk0 hkk1 (by rfl) h1 h2 h3
    (by rw [nn0 sp h1, nn0 n h3]; show ¬ _ > ((arrV X.2.2.2.1 na (fun j => .int (σ.2.2 ka j))).slots.size : Int); rw [arrV_size]; omega)
    (by rw [nn0 dp h2, nn0 n h3]; show ¬ _ > ((arrV X.2.2.2.1 nb (fun j => .int (σ.2.2 kb j))).slots.size : Int); rw [arrV_size]; omega)
    (fun vm₁ _ i hi => by
      have e : (vp_cell X.2.2.2.1 (na, .inl (σ.2.2 ka))).slots.getD (sp.toNatClampNeg + i) .null = .int (σ.2.2 ka (sp.toNatClampNeg + i)) := by
        show (arrV X.2.2.2.1 na (fun j => .int (σ.2.2 ka j))).slots.getD _ _ = _
        rw [Array.getD_eq_getD_getElem?, arrV_read _ _ (by omega)]
        rfl
      refine ⟨?_, ?_⟩
      · rw [e]; rfl
      · rw [e]
        exact trivial)
    (g := F0 m pc ls (.int n :: .int dp :: .ref (X.2.1 + kb) :: .int sp :: .ref (X.2.1 + ka) :: rest.map (zV X))) rfl (by rw [hml]; exact hl.1) (rest := rest.map (zV X)) rfl (by rw [hb]; exact hd) (by omega) (by show 2 * 0 + _ + _ ≤ _; rw [zCat]; omega)
  have e1 : copied (vp_cell X.2.2.2.1 (na, .inl (σ.2.2 ka))) (vp_cell X.2.2.2.1 (nb, .inl (σ.2.2 kb))) sp dp n = vp_cell X.2.2.2.1 (nb, .inl (va_cpy (σ.2.2 ka) (σ.2.2 kb) sp.toNatClampNeg dp.toNatClampNeg n.toNatClampNeg)) := va_copied (fun z => .int z) X.2.2.2.1 X.2.2.2.1 (σ.2.2 ka) (σ.2.2 kb) h4
  rw [e1] at X' step
  generalize hcell : vp_cell X.2.2.2.1 (nb, .inl (va_cpy (σ.2.2 ka) (σ.2.2 kb) sp.toNatClampNeg dp.toNatClampNeg n.toNatClampNeg)) = cell at X' step
  have hlt : X.2.1 + kb < H.size := (Array.getElem?_eq_some_iff.mp hc1).1
  have hheap : ((T.setVm vm').setCell (X.2.1 + kb) cell).heap = H.setIfInBounds (X.2.1 + kb) cell := by rw [← hT]; rfl
  have oq : ∀ q : Nat, q ≠ X.2.1 + kb → (H.setIfInBounds (X.2.1 + kb) cell)[q]? = H[q]? := fun q hq => by simp [Array.getElem?_setIfInBounds, Ne.symm hq]
  have hat : va_at X.2.2.1 vwCl (X.2.1 + kb, .inl (X.2.2.2.1, nb, .inl (va_cpy (σ.2.2 ka) (σ.2.2 kb) sp.toNatClampNeg dp.toNatClampNeg n.toNatClampNeg))) (H.setIfInBounds (X.2.1 + kb) cell) := by
    show (H.setIfInBounds (X.2.1 + kb) cell)[X.2.1 + kb]? = some (vp_cell _ _)
    rw [hcell]
    simp [Array.getElem?_setIfInBounds, hlt]
  have hP' := va_P.set hW.2.2.2.1 zWs_D he1 hat oq
  have hW' := zWX_put (rf' := σ.2.1) (mm' := va_up σ.2.2 kb (va_cpy (σ.2.2 ka) (σ.2.2 kb) sp.toNatClampNeg dp.toNatClampNeg n.toNatClampNeg)) hW (by simp) (oq _ (zNX hW)) hkn (by rw [zE_int hkb]; simp [va_up]) (fun _ _ => rfl) (fun a ha => if_neg ha) hP'
  obtain ⟨t, a1, b1⟩ := kk X p l e R s m args below meth c Q nn hC hn hr (H.setIfInBounds (X.2.1 + kb) cell) _ ls hW' ⟨by simp; exact hS.1, fun q g1 g2 => by
      rw [oq q (fun e => g2 (by rw [e]; exact Nat.le_add_right _ _))]
      exact hS.2.1 q g1 g2, fun q hq => by
      rcases List.mem_append.mp hq with h | h
      · exact hS.2.2 q h
      · obtain ⟨z, -, hz⟩ := List.mem_map.mp h
        rw [← hz]
        exact Nat.le_add_right _ _⟩ hl _ hheap X'
  exact ⟨t, step t a1, b1⟩
/-- the method makes the cells n0 to n1 - 1, and n is among them -/
def zMk (M : zMt) (n : Nat) : Prop := M.2.2.2.2.2 ≠ 0 ∧ M.2.2.2.2.1 ≤ n ∧ n + 1 ≤ M.2.2.2.2.2 ∧ M.2.2.2.2.2 ≤ 154
/-- entry idx of own's pool is a class whose objects are of kind ci -/
def zNc (own : String) (idx ci : Nat) : Prop := ∃ (C : String) (T : u_T) (ty : Nat → FieldType), zCl ci C T ty ∧ Cond.classLink own idx C ∈ zT ∧ Cond.instantiable C (zN ci) ∈ zT ∧ Cond.initialized C ∈ zT
theorem wx_new {ci : Nat} (hd : decode M.2.1 pc = .ok (.new idx, 3)) (hc : zNc M.1.cls idx ci) (hk : (zK σ.1).1 = ci) (hrf : σ.2.1 σ.1 = fun _ => none) (hmm : σ.2.2 σ.1 = fun _ => 0) (hal : zMk M σ.1) (kk : wx d M (pc + 3) L (.ref σ.1 :: st) (σ.1 + 1, σ.2.1, σ.2.2) K) : wx d M pc L st σ K := by
  intro X p l e R s m args below meth c Q nn hC hn hr H locs ls hW hS hl
  obtain ⟨hx, hb, hml, hown, hts, hret, hlk, hK, hNw, hnm, hdR, hlR, hcR, hsR⟩ := id hC
  obtain ⟨C, T, ty, ⟨c1, c2, c3, c4, c5, c6, c7⟩, hlink, hins, hini⟩ := hc
  obtain ⟨a1, a2, a3, a4⟩ := hal
  have hKn := hK.1 ci _ c1
  have hsz : zSz σ.1 = zN ci := by unfold zSz; rw [hk, if_pos c2]
  obtain ⟨z1, z2⟩ := zSlots_le a2 a1 a3 hcR hsR
  obtain ⟨y1, y2⟩ := zSlots (M := M) a2 a1
  rw [hsz] at z2 y2
  refine W.newcK hx hb hown (hts _ hlink) (hts _ hins) (hts _ hini) rfl hd z1 z2 hKn.2.1 hW.1 fun H1 kC hkC e1 zz o1 => ?_
  have hat : va_at X.2.2.1 vwCl (X.2.1 + σ.1, zE X σ.2.1 σ.2.2 σ.1) H1 := by
    rw [zE_obj hk c2]
    refine ⟨_, c1, (u_born ty hts c3 hKn hkC e1 c4).to (fun j hj => ?_)⟩
    show defaultValue (ty j) = (zFs X σ.2.1 σ.2.2 ci σ.1).getD j .null
    rw [c7 j hj]
    have hj' : j < zN ci := hj
    simp [zFs, hj', hrf, hmm, va_rf]
  have := kk X p l e R s m args below meth c Q nn hC (fun q => absurd q a1) hr H1 locs ls (zWX_push hW (Nat.le_trans a3 a4) zz o1 hat) (zS_push hW hS (by rw [zz]; omega) o1) hl
  rw [← y1, ← y2]
  exact this
theorem wx_newI {n : Int32} {N : Nat} (hd : decode M.2.1 pc = .ok (.newarray .int, 2)) (hw : Cond.arrayClass .int ∈ zT) (hk : zK σ.1 = (10, N)) (hmm : σ.2.2 σ.1 = fun _ => 0) (hal : zMk M σ.1) (hn0 : ¬ n < 0) (hN : n.toNatClampNeg = N) (hby : N * 4 ≤ 536870912) (kk : wx d M (pc + 2) L (.ref σ.1 :: st) (σ.1 + 1, σ.2.1, σ.2.2) K) : wx d M pc L (.int n :: st) σ K := by
  intro X p l e R s m args below meth c Q nn hC hn hr H locs ls hW hS hl
  obtain ⟨hx, hb, hml, hown, hts, hret, hlk, hK, hNw, hnm, hdR, hlR, hcR, hsR⟩ := id hC
  obtain ⟨a1, a2, a3, a4⟩ := hal
  have hsz : zSz σ.1 = N := by unfold zSz; rw [hk, if_neg (show ¬ (10 : Nat) < 10 by decide)]
  obtain ⟨z1, z2⟩ := zSlots_le a2 a1 a3 hcR hsR
  obtain ⟨y1, y2⟩ := zSlots (M := M) a2 a1
  rw [hsz] at z2 y2
  refine va_newaK (atype := .int) hx hb (hts _ hw) rfl hd rfl hn0 hN hby z1 z2 hW.1 fun H1 cA e1 zz o1 hAr hNm => ?_
  have hcA : cA = X.2.2.2.1 := Option.some.inj (hNm.symm.trans (hK.2 0 (X.2.2.2.1, .int) rfl).2)
  have hat : va_at X.2.2.1 vwCl (X.2.1 + σ.1, zE X σ.2.1 σ.2.2 σ.1) H1 := by
    rw [zE_int hk, hmm]
    show H1[X.2.1 + σ.1]? = some (vp_cell _ _)
    rw [e1, hcA]
    rfl
  have := kk X p l e R s m args below meth c Q nn hC (fun q => absurd q a1) hr H1 locs ls (zWX_push hW (Nat.le_trans a3 a4) zz o1 hat) (zS_push hW hS (by rw [zz]; omega) o1) hl
  rw [← y1, ← y2]
  exact this
theorem wx_newZ {n : Int32} {N : Nat} (hd : decode M.2.1 pc = .ok (.newarray .boolean, 2)) (hw : Cond.arrayClass .boolean ∈ zT) (hk : zK σ.1 = (11, N)) (hmm : σ.2.2 σ.1 = fun _ => 0) (hal : zMk M σ.1) (hn0 : ¬ n < 0) (hN : n.toNatClampNeg = N) (hby : N * 4 ≤ 536870912) (kk : wx d M (pc + 2) L (.ref σ.1 :: st) (σ.1 + 1, σ.2.1, σ.2.2) K) : wx d M pc L (.int n :: st) σ K := by
  intro X p l e R s m args below meth c Q nn hC hn hr H locs ls hW hS hl
  obtain ⟨hx, hb, hml, hown, hts, hret, hlk, hK, hNw, hnm, hdR, hlR, hcR, hsR⟩ := id hC
  obtain ⟨a1, a2, a3, a4⟩ := hal
  have hsz : zSz σ.1 = N := by unfold zSz; rw [hk, if_neg (show ¬ (11 : Nat) < 10 by decide)]
  obtain ⟨z1, z2⟩ := zSlots_le a2 a1 a3 hcR hsR
  obtain ⟨y1, y2⟩ := zSlots (M := M) a2 a1
  rw [hsz] at z2 y2
  refine va_newaK (atype := .boolean) hx hb (hts _ hw) rfl hd rfl hn0 hN (by show N * 1 ≤ _; omega) z1 z2 hW.1 fun H1 cA e1 zz o1 hAr hNm => ?_
  have hcA : cA = X.2.2.2.2.2 := Option.some.inj (hNm.symm.trans (hK.2 2 (X.2.2.2.2.2, .boolean) rfl).2)
  have hat : va_at X.2.2.1 vwCl (X.2.1 + σ.1, zE X σ.2.1 σ.2.2 σ.1) H1 := by
    rw [zE_bool hk, hmm]
    show H1[X.2.1 + σ.1]? = some (vp_cell _ _)
    rw [e1, hcA]
    rfl
  have := kk X p l e R s m args below meth c Q nn hC (fun q => absurd q a1) hr H1 locs ls (zWX_push hW (Nat.le_trans a3 a4) zz o1 hat) (zS_push hW hS (by rw [zz]; omega) o1) hl
  rw [← y1, ← y2]
  exact this
theorem zWs_add {X : zX} {n : Nat} {rf : zR} {mm : zM} : ∀ j : Nat, zWs X (n + j, rf, mm) = zWs X (n, rf, mm) ++ (List.range j).map (fun i => (X.2.1 + (n + i), zE X rf mm (n + i)))
  | 0 => by simp
  | j + 1 => by
    rw [show n + (j + 1) = (n + j) + 1 by omega, zWs_succ, zWs_add j, List.range_succ, List.map_append, List.append_assoc]
    rfl
theorem zSum_add {n N K1 : Nat} : ∀ j : Nat, j ≤ N → (∀ i, i < N → zSz (n + i) = K1) → zSum (n + j) = zSum n + j * K1
  | 0, _, _ => by simp
  | j + 1, hj, h => by
    have ih := zSum_add (n := n) j (by omega) h
    show zSum (n + j) + zSz (n + j) = _
    rw [ih, h j (by omega), Nat.succ_mul, Nat.add_assoc]
theorem wx_new2 {n k : Int32} {N K1 : Nat} (hd : decode M.2.1 pc = .ok (.multianewarray idx 2, 4)) (hlink : Cond.classLink M.1.cls idx ("[" ++ (FieldType.array .int).toString) ∈ zT) (hw : Cond.arrayClass .int ∈ zT) (hk : zK σ.1 = (12, N)) (hki : ∀ i, i < N → zK (σ.1 + 1 + i) = (10, K1)) (hrf : σ.2.1 σ.1 = fun _ => none) (hmm : ∀ i, i < N → σ.2.2 (σ.1 + 1 + i) = fun _ => 0)
    (hal : M.2.2.2.2.2 ≠ 0 ∧ M.2.2.2.2.1 ≤ σ.1 ∧ σ.1 + 1 + N ≤ M.2.2.2.2.2 ∧ M.2.2.2.2.2 ≤ 154) (hn0 : ¬ n < 0) (hk0 : ¬ k < 0) (hN : n.toNatClampNeg = N) (hM : k.toNatClampNeg = K1) (hb1 : N * 4 ≤ 536870912) (hb2 : K1 * 4 ≤ 536870912)
    (kk : wx d M (pc + 4) L (.ref σ.1 :: st) (σ.1 + 1 + N, va_up σ.2.1 σ.1 (fun i => if i < N then some (σ.1 + 1 + i) else none), σ.2.2) K) : wx d M pc L (.int k :: .int n :: st) σ K := by
  intro X p l e R s m args below meth c Q nn hC hn hr H locs ls hW hS hl
  obtain ⟨hx, hb, hml, hown, hts, hret, hlk, hK, hNw, hnm, hdR, hlR, hcR, hsR⟩ := id hC
  obtain ⟨a1, a2, a3, a4⟩ := hal
  have hsz0 : zSz σ.1 = N := by unfold zSz; rw [hk, if_neg (show ¬ (12 : Nat) < 10 by decide)]
  have hszi : ∀ i, i < N → zSz (σ.1 + 1 + i) = K1 := fun i hi => by unfold zSz; rw [hki i hi, if_neg (show ¬ (10 : Nat) < 10 by decide)]
  have hsum : zSum (σ.1 + 1 + N) = zSum σ.1 + N + N * K1 := by
    rw [zSum_add (n := σ.1 + 1) N (Nat.le_refl _) hszi]
    show zSum σ.1 + zSz σ.1 + N * K1 = _
    rw [hsz0]
  have hmono := zSum_mono a2
  have hmono2 := zSum_mono a3
  have hcells : zcc M σ.1 + (1 + N) ≤ R.cells ∧ zss M σ.1 + (N + N * K1) ≤ R.slots ∧ zcc M (σ.1 + 1 + N) = zcc M σ.1 + 1 + N ∧ zss M (σ.1 + 1 + N) = zss M σ.1 + N + N * K1 := by
    unfold zcc zss at *
    rw [if_neg a1] at hcR hsR
    rw [if_neg a1, if_neg a1, if_neg a1, if_neg a1]
    omega
  subst hN
  subst hM
  intro T hT X0
  obtain ⟨vm₁, cA, comp, -, fA, fC, hO, -, X', step⟩ := X0.multianewarray2F hx hown (hts _ hlink) (by exact hNw.2) (hts _ hw) (g := F0 m pc ls ((Value.int k :: Value.int n :: st).map (zV X))) rfl (by rw [hb]; exact hd) rfl hn0 hk0 hb1 hb2 (by omega) (by rfl) (by rfl) hcells.1 hcells.2.1
  have hcA : cA = X.2.2.2.2.1 := Option.some.inj (fA.symm.trans (hK.2 1 (X.2.2.2.2.1, .array .int) rfl).2)
  have hcI : comp = X.2.2.2.1 := Option.some.inj (fC.symm.trans (hK.2 0 (X.2.2.2.1, .int) rfl).2)
  subst hcA
  subst hcI
  generalize hF : Jvm.Free.Multi.fill (T.setVm vm₁) X.2.2.2.2.1 X.2.2.2.1 n.toNatClampNeg k.toNatClampNeg (defaultValue .int) n.toNatClampNeg = F at X' step
  have hTh : (T.setVm vm₁).heap = H := hT
  obtain ⟨f1, f2, -, -⟩ := Jvm.Free.Multi.fill_facts (T.setVm vm₁) X.2.2.2.2.1 X.2.2.2.1 n.toNatClampNeg k.toNatClampNeg (defaultValue .int) n.toNatClampNeg
  rw [hF, hTh, hW.1] at f1 f2
  have hold : ∀ x : Nat, x < X.2.1 + σ.1 → F.heap[x]? = H[x]? := fun x hx => by
    have := Jvm.Free.Multi.fill_old (T.setVm vm₁) X.2.2.2.2.1 X.2.2.2.1 n.toNatClampNeg k.toNatClampNeg (defaultValue .int) (a := x) (by rw [hTh, hW.1]; exact hx) n.toNatClampNeg
    rw [hF, hTh] at this
    exact this
  have hrow : ∀ j : Nat, j < n.toNatClampNeg → F.heap[X.2.1 + σ.1 + 1 + j]? = some (vp_cell X.2.2.2.1 (k.toNatClampNeg, .inl (fun _ => 0))) := fun j hj => by
    have := Jvm.Free.Multi.fill_inner (T.setVm vm₁) X.2.2.2.2.1 X.2.2.2.1 n.toNatClampNeg k.toNatClampNeg (defaultValue .int) n.toNatClampNeg j hj
    rw [hF, hTh, hW.1] at this
    rw [this]
    show some (Jvm.Free.Multi.innerC _ _ _) = _
    rw [vp_cell_i, ← arrV_new]
    rfl
  rw [vr_outer] at f2
  obtain ⟨nS, rf, mm⟩ := σ
  have hW' : zWX X s (nS + 1 + n.toNatClampNeg, va_up rf nS (fun i => if i < n.toNatClampNeg then some (nS + 1 + i) else none), mm) F.heap := by
    refine ⟨by rw [f1]; show X.2.1 + nS + 1 + n.toNatClampNeg = X.2.1 + (nS + 1 + n.toNatClampNeg); omega, Nat.le_trans a3 a4, hW.2.2.1, ?_, ?_⟩
    · rw [show nS + 1 + n.toNatClampNeg = (nS + 1) + n.toNatClampNeg by omega, zWs_add, zWs_succ]
      have hP0 : va_P X.2.2.1 vwCl (zWs X (nS, va_up rf nS (fun i => if i < n.toNatClampNeg then some (nS + 1 + i) else none), mm)) F.heap := by
        intro q x hx
        obtain ⟨h1, rfl⟩ := zWs_of hx
        have h2 := hW.2.2.2.1 q (X.2.1 + q, zE X rf mm q) (zWs_get (σ := (nS, rf, mm)) h1)
        rw [zE_cong (rf := rf) (mm := mm) (if_neg (Nat.ne_of_lt h1)) rfl]
        exact h2.kept (hold _ (Nat.add_lt_add_left h1 _))
      refine (hP0.app (fun q x hx => ?_)).app (fun q x hx => ?_)
      · have h0 : q < 1 := (List.getElem?_eq_some_iff.mp hx).1
        rw [show q = 0 by omega] at hx
        cases hx
        rw [zE_out hk]
        show F.heap[X.2.1 + nS]? = some (vp_cell _ _)
        rw [f2, vp_cell_q]
        congr 2
        funext j
        simp only [va_up, if_pos]
        by_cases hj : j < n.toNatClampNeg
        · rw [if_pos hj, if_pos hj]
          show va_rf (some _) = va_rf (some _)
          congr 2
          show X.2.1 + nS + 1 + j = X.2.1 + (nS + 1 + j)
          omega
        · rw [if_neg hj, if_neg hj]
          rfl
      · obtain ⟨i, hi, rfl⟩ := List.mem_map.mp (List.mem_of_getElem? hx)
        have hi' := List.mem_range.mp hi
        have hzi := hki i hi'
        have hmi := hmm i hi'
        rw [zE_int hzi]
        show F.heap[X.2.1 + (nS + 1 + i)]? = some (vp_cell _ _)
        rw [show X.2.1 + (nS + 1 + i) = X.2.1 + nS + 1 + i by omega, hrow i hi']
        show _ = some (vp_cell _ (_, .inl (mm (nS + 1 + i))))
        rw [show mm (nS + 1 + i) = fun _ => 0 from hmi]
    · have h154 : 154 ≠ nS := by
        have : nS + 1 + n.toNatClampNeg ≤ 154 := Nat.le_trans a3 a4
        omega
      show va_X X.1 (mm 155 0).toNatClampNeg (mm 154) s F.heap
      exact hW.2.2.2.2.kept (hold _ (by have := hW.2.2.1; show X.1 < X.2.1 + nS; omega))
  have key := kk X p l e R s m args below meth c Q nn hC (fun q => absurd q a1) hr F.heap locs ls hW' (zS_push hW hS (by rw [f1]; omega) hold) hl
  rw [show zcc M (nS + 1 + n.toNatClampNeg, va_up rf nS (fun i => if i < n.toNatClampNeg then some (nS + 1 + i) else none), mm).1 = zcc M nS + 1 + n.toNatClampNeg from hcells.2.2.1, show zss M (nS + 1 + n.toNatClampNeg, va_up rf nS (fun i => if i < n.toNatClampNeg then some (nS + 1 + i) else none), mm).1 = zss M nS + n.toNatClampNeg + n.toNatClampNeg * k.toNatClampNeg from hcells.2.2.2] at key
  obtain ⟨t, b1, b2⟩ := key F rfl X'
  refine ⟨t, step t ?_, b2⟩
  have hTs : T.heap.size = X.2.1 + nS := by rw [hT]; exact hW.1
  rw [hTs]
  exact b1
end ZMK
end
section
/-! calls by how many they take; arrays by a number -/
def zPV (M' : zMt) (n ci : Nat) : Prop := zCm M' ∧ zIV M' ∧ zNp M' n ∧ ci < 10 ∧ vwCl[ci]?.map (fun q => q.1) = some M'.1.cls ∧ M'.2.2.2.2.2 = 0
def zPS (M' : zMt) (n : Nat) : Prop := zCm M' ∧ Cond.static M'.1 ∈ zT ∧ zNp M' n ∧ M'.2.2.2.2.2 = 0
theorem zRF_out {k n i : Nat} (hk : zK k = (12, n)) (hkn : k < 154) (hi : i < n) : zRF k i = some (k + 1 + i) := by
  unfold zRF
  rw [if_pos hkn, hk, if_pos rfl, if_pos hi]
section ZAR
variable {d : Nat} {M M' : zMt} {pc idx : Nat} {L : List (Option Value)} {rest st av : List Value} {σ : zS} {K : List Value → zS → Prop} {mm : zM}
theorem wx_r0 (h : wx d M pc L rest σ K) : wx d M pc L ([] ++ rest) σ K := h
theorem wx_r1 {v : Value} (h : wx d M pc L (v :: rest) σ K) : wx d M pc L ([v] ++ rest) σ K := h
theorem wx_inc {i : Nat} {n : Int} {v c : Int32} (hd : decode M.2.1 pc = .ok (.iinc i n, 3)) (hl0 : L[i]? = some (some (.int v))) (hc : Int32.ofInt n = c) (hin : i < M.2.2.1) (hno : zNoL L i = true) (kk : wx d M (pc + 3) (L.set i (some (.int (v + c)))) st σ K) : wx d M pc L st σ K := wx_iinc hd hl0 (by rw [hc]) hin hno kk
theorem wx_ialdN {k n j : Nat} {i : Int32} (hd : decode M.2.1 pc = .ok (.iaload, 1)) (hk : zK k = (10, n)) (hkn : k < σ.1) (hi : i = nI j) (hj : j < n ∧ n < 2 ^ 31) (kk : wx d M (pc + 1) L (.int (σ.2.2 k j) :: st) σ K) : wx d M pc L (.int i :: .ref k :: st) σ K := by
  subst hi
  refine wx_iald hd hk hkn (vp_in_nI hj.1 hj.2) ?_
  rw [nI_clamp (Nat.lt_trans hj.1 hj.2)]
  exact kk
theorem wx_zaldN {k n j : Nat} {i : Int32} (hd : decode M.2.1 pc = .ok (.baload, 1)) (hk : zK k = (11, n)) (hkn : k < σ.1) (hi : i = nI j) (hj : j < n ∧ n < 2 ^ 31) (kk : wx d M (pc + 1) L (.int (σ.2.2 k j) :: st) σ K) : wx d M pc L (.int i :: .ref k :: st) σ K := by
  subst hi
  refine wx_zald hd hk hkn (vp_in_nI hj.1 hj.2) ?_
  rw [nI_clamp (Nat.lt_trans hj.1 hj.2)]
  exact kk
theorem wx_iastN {k n j : Nat} {i v : Int32} (hd : decode M.2.1 pc = .ok (.iastore, 1)) (hk : zK k = (10, n)) (hkn : k < σ.1) (hi : i = nI j) (hj : j < n ∧ n < 2 ^ 31) (kk : wx d M (pc + 1) L st (σ.1, σ.2.1, zU σ.2.2 k j v) K) : wx d M pc L (.int v :: .int i :: .ref k :: st) σ K := by
  subst hi
  refine wx_iast hd hk hkn (vp_in_nI hj.1 hj.2) ?_
  rw [nI_clamp (Nat.lt_trans hj.1 hj.2)]
  exact kk
theorem wx_zastN {k n j : Nat} {i v : Int32} (hd : decode M.2.1 pc = .ok (.bastore, 1)) (hk : zK k = (11, n)) (hkn : k < σ.1) (hi : i = nI j) (hj : j < n ∧ n < 2 ^ 31) (hv : vp_nar .boolean v = v) (kk : wx d M (pc + 1) L st (σ.1, σ.2.1, zU σ.2.2 k j v) K) : wx d M pc L (.int v :: .int i :: .ref k :: st) σ K := by
  subst hi
  refine wx_zast hd hk hkn (vp_in_nI hj.1 hj.2) hv ?_
  rw [nI_clamp (Nat.lt_trans hj.1 hj.2)]
  exact kk
theorem wx_aaldN {k n j : Nat} {i : Int32} (hd : decode M.2.1 pc = .ok (.aaload, 1)) (hk : zK k = (12, n)) (hkn : k < σ.1) (hi : i = nI j) (hj : j < n ∧ n < 2 ^ 31) (hr : σ.2.1 k j = some (k + 1 + j)) (kk : wx d M (pc + 1) L (.ref (k + 1 + j) :: st) σ K) : wx d M pc L (.int i :: .ref k :: st) σ K := by
  subst hi
  refine wx_aald hd hk hkn (vp_in_nI hj.1 hj.2) ?_ kk
  rw [nI_clamp (Nat.lt_trans hj.1 hj.2)]
  exact hr
theorem wx_V0 {ci k : Nat} (hd : decode M.2.1 pc = .ok (.invokevirtual idx, 3)) (hp : zPV M' 0 ci) (hlink : Cond.methodLink M.1.cls idx M'.1 ∈ zT) (hk : (zK k).1 = ci) (hkn : k < σ.1) (hrest : (rest.map fun v => v.category).sum ≤ 8) (hnn : σ.1 ≤ M.2.2.2.2.2 ∨ M.2.2.2.2.2 = 0) (kk : wm d M' [.ref k] σ (fun r σ' => wx (d + 1) M (pc + 3) L (r ++ rest) σ' K)) : wx (d + 1) M pc L (.ref k :: rest) σ K :=
  wx_callV (av := []) hd hp.1 hp.2.1 hlink hp.2.2.1 rfl hk hp.2.2.2.1 hp.2.2.2.2.1 hkn hrest (Or.inl hp.2.2.2.2.2) hnn kk
theorem wx_V1 {ci k : Nat} {a1 : Value} (hd : decode M.2.1 pc = .ok (.invokevirtual idx, 3)) (hp : zPV M' 1 ci) (hlink : Cond.methodLink M.1.cls idx M'.1 ∈ zT) (hk : (zK k).1 = ci) (hkn : k < σ.1) (hrest : (rest.map fun v => v.category).sum ≤ 8) (hnn : σ.1 ≤ M.2.2.2.2.2 ∨ M.2.2.2.2.2 = 0) (kk : wm d M' [.ref k, a1] σ (fun r σ' => wx (d + 1) M (pc + 3) L (r ++ rest) σ' K)) : wx (d + 1) M pc L (a1 :: .ref k :: rest) σ K :=
  wx_callV (av := [a1]) hd hp.1 hp.2.1 hlink hp.2.2.1 rfl hk hp.2.2.2.1 hp.2.2.2.2.1 hkn hrest (Or.inl hp.2.2.2.2.2) hnn kk
theorem wx_V2 {ci k : Nat} {a1 a2 : Value} (hd : decode M.2.1 pc = .ok (.invokevirtual idx, 3)) (hp : zPV M' 2 ci) (hlink : Cond.methodLink M.1.cls idx M'.1 ∈ zT) (hk : (zK k).1 = ci) (hkn : k < σ.1) (hrest : (rest.map fun v => v.category).sum ≤ 8) (hnn : σ.1 ≤ M.2.2.2.2.2 ∨ M.2.2.2.2.2 = 0) (kk : wm d M' [.ref k, a1, a2] σ (fun r σ' => wx (d + 1) M (pc + 3) L (r ++ rest) σ' K)) : wx (d + 1) M pc L (a2 :: a1 :: .ref k :: rest) σ K :=
  wx_callV (av := [a1, a2]) hd hp.1 hp.2.1 hlink hp.2.2.1 rfl hk hp.2.2.2.1 hp.2.2.2.2.1 hkn hrest (Or.inl hp.2.2.2.2.2) hnn kk
theorem wx_V3 {ci k : Nat} {a1 a2 a3 : Value} (hd : decode M.2.1 pc = .ok (.invokevirtual idx, 3)) (hp : zPV M' 3 ci) (hlink : Cond.methodLink M.1.cls idx M'.1 ∈ zT) (hk : (zK k).1 = ci) (hkn : k < σ.1) (hrest : (rest.map fun v => v.category).sum ≤ 8) (hnn : σ.1 ≤ M.2.2.2.2.2 ∨ M.2.2.2.2.2 = 0) (kk : wm d M' [.ref k, a1, a2, a3] σ (fun r σ' => wx (d + 1) M (pc + 3) L (r ++ rest) σ' K)) : wx (d + 1) M pc L (a3 :: a2 :: a1 :: .ref k :: rest) σ K :=
  wx_callV (av := [a1, a2, a3]) hd hp.1 hp.2.1 hlink hp.2.2.1 rfl hk hp.2.2.2.1 hp.2.2.2.2.1 hkn hrest (Or.inl hp.2.2.2.2.2) hnn kk
theorem wx_V4 {ci k : Nat} {a1 a2 a3 a4 : Value} (hd : decode M.2.1 pc = .ok (.invokevirtual idx, 3)) (hp : zPV M' 4 ci) (hlink : Cond.methodLink M.1.cls idx M'.1 ∈ zT) (hk : (zK k).1 = ci) (hkn : k < σ.1) (hrest : (rest.map fun v => v.category).sum ≤ 8) (hnn : σ.1 ≤ M.2.2.2.2.2 ∨ M.2.2.2.2.2 = 0) (kk : wm d M' [.ref k, a1, a2, a3, a4] σ (fun r σ' => wx (d + 1) M (pc + 3) L (r ++ rest) σ' K)) : wx (d + 1) M pc L (a4 :: a3 :: a2 :: a1 :: .ref k :: rest) σ K :=
  wx_callV (av := [a1, a2, a3, a4]) hd hp.1 hp.2.1 hlink hp.2.2.1 rfl hk hp.2.2.2.1 hp.2.2.2.2.1 hkn hrest (Or.inl hp.2.2.2.2.2) hnn kk
theorem wx_V5 {ci k : Nat} {a1 a2 a3 a4 a5 : Value} (hd : decode M.2.1 pc = .ok (.invokevirtual idx, 3)) (hp : zPV M' 5 ci) (hlink : Cond.methodLink M.1.cls idx M'.1 ∈ zT) (hk : (zK k).1 = ci) (hkn : k < σ.1) (hrest : (rest.map fun v => v.category).sum ≤ 8) (hnn : σ.1 ≤ M.2.2.2.2.2 ∨ M.2.2.2.2.2 = 0) (kk : wm d M' [.ref k, a1, a2, a3, a4, a5] σ (fun r σ' => wx (d + 1) M (pc + 3) L (r ++ rest) σ' K)) : wx (d + 1) M pc L (a5 :: a4 :: a3 :: a2 :: a1 :: .ref k :: rest) σ K :=
  wx_callV (av := [a1, a2, a3, a4, a5]) hd hp.1 hp.2.1 hlink hp.2.2.1 rfl hk hp.2.2.2.1 hp.2.2.2.2.1 hkn hrest (Or.inl hp.2.2.2.2.2) hnn kk
theorem wx_S1 {a1 : Value} (hd : decode M.2.1 pc = .ok (.invokestatic idx, 3)) (hp : zPS M' 1) (hlink : Cond.methodLink M.1.cls idx M'.1 ∈ zT) (hrest : (rest.map fun v => v.category).sum ≤ 8) (hnn : σ.1 ≤ M.2.2.2.2.2 ∨ M.2.2.2.2.2 = 0) (kk : wm d M' [a1] σ (fun r σ' => wx (d + 1) M (pc + 3) L (r ++ rest) σ' K)) : wx (d + 1) M pc L (a1 :: rest) σ K :=
  wx_callS (av := [a1]) hd hp.1 hp.2.1 hlink hp.2.2.1 rfl hrest (Or.inl hp.2.2.2) hnn kk
theorem wx_S2 {a1 a2 : Value} (hd : decode M.2.1 pc = .ok (.invokestatic idx, 3)) (hp : zPS M' 2) (hlink : Cond.methodLink M.1.cls idx M'.1 ∈ zT) (hrest : (rest.map fun v => v.category).sum ≤ 8) (hnn : σ.1 ≤ M.2.2.2.2.2 ∨ M.2.2.2.2.2 = 0) (kk : wm d M' [a1, a2] σ (fun r σ' => wx (d + 1) M (pc + 3) L (r ++ rest) σ' K)) : wx (d + 1) M pc L (a2 :: a1 :: rest) σ K :=
  wx_callS (av := [a1, a2]) hd hp.1 hp.2.1 hlink hp.2.2.1 rfl hrest (Or.inl hp.2.2.2) hnn kk
theorem wx_S3 {a1 a2 a3 : Value} (hd : decode M.2.1 pc = .ok (.invokestatic idx, 3)) (hp : zPS M' 3) (hlink : Cond.methodLink M.1.cls idx M'.1 ∈ zT) (hrest : (rest.map fun v => v.category).sum ≤ 8) (hnn : σ.1 ≤ M.2.2.2.2.2 ∨ M.2.2.2.2.2 = 0) (kk : wm d M' [a1, a2, a3] σ (fun r σ' => wx (d + 1) M (pc + 3) L (r ++ rest) σ' K)) : wx (d + 1) M pc L (a3 :: a2 :: a1 :: rest) σ K :=
  wx_callS (av := [a1, a2, a3]) hd hp.1 hp.2.1 hlink hp.2.2.1 rfl hrest (Or.inl hp.2.2.2) hnn kk
theorem wx_SN3 {host : String} {a1 a2 a3 : Value} (hd : decode M.2.1 pc = .ok (.invokestatic idx, 3)) (hp : zPS M' 3) (hlink : Cond.methodLinkNest M.1.cls idx M'.1 host ∈ zNest) (hrest : (rest.map fun v => v.category).sum ≤ 8) (hnn : σ.1 ≤ M.2.2.2.2.2 ∨ M.2.2.2.2.2 = 0) (kk : wm d M' [a1, a2, a3] σ (fun r σ' => wx (d + 1) M (pc + 3) L (r ++ rest) σ' K)) : wx (d + 1) M pc L (a3 :: a2 :: a1 :: rest) σ K :=
  wx_callSN (av := [a1, a2, a3]) hd hp.1 hp.2.1 hlink hp.2.2.1 rfl hrest (Or.inl hp.2.2.2) hnn kk
theorem wx_S4 {a1 a2 a3 a4 : Value} (hd : decode M.2.1 pc = .ok (.invokestatic idx, 3)) (hp : zPS M' 4) (hlink : Cond.methodLink M.1.cls idx M'.1 ∈ zT) (hrest : (rest.map fun v => v.category).sum ≤ 8) (hnn : σ.1 ≤ M.2.2.2.2.2 ∨ M.2.2.2.2.2 = 0) (kk : wm d M' [a1, a2, a3, a4] σ (fun r σ' => wx (d + 1) M (pc + 3) L (r ++ rest) σ' K)) : wx (d + 1) M pc L (a4 :: a3 :: a2 :: a1 :: rest) σ K :=
  wx_callS (av := [a1, a2, a3, a4]) hd hp.1 hp.2.1 hlink hp.2.2.1 rfl hrest (Or.inl hp.2.2.2) hnn kk
theorem wx_I0 {k : Nat} (hd : decode M.2.1 pc = .ok (.invokespecial idx, 3)) (hm : zCm M') (hi : Cond.instanceMethod M'.1 ∈ zT) (hlink : Cond.methodLink M.1.cls idx M'.1 ∈ zT) (hnp : zNp M' 0) (hin : M'.1.name = "<init>") (hvo : M'.2.2.2.1 = none) (hrest : (rest.map fun v => v.category).sum ≤ 8) (hrm : zRoom M M' σ.1) (hnn : σ.1 ≤ M.2.2.2.2.2 ∨ M.2.2.2.2.2 = 0) (kk : wm d M' [.ref k] σ (fun r σ' => wx (d + 1) M (pc + 3) L (r ++ rest) σ' K)) : wx (d + 1) M pc L (.ref k :: rest) σ K :=
  wx_callI (av := []) hd hm hi hlink hnp hin hvo rfl hrest hrm hnn kk
theorem wx_IN0 {k : Nat} {host : String} (hd : decode M.2.1 pc = .ok (.invokespecial idx, 3)) (hm : zCm M') (hi : Cond.instanceMethod M'.1 ∈ zT) (hlink : Cond.methodLinkNest M.1.cls idx M'.1 host ∈ zNest) (hnp : zNp M' 0) (hin : M'.1.name = "<init>") (hvo : M'.2.2.2.1 = none) (hrest : (rest.map fun v => v.category).sum ≤ 8) (hrm : zRoom M M' σ.1) (hnn : σ.1 ≤ M.2.2.2.2.2 ∨ M.2.2.2.2.2 = 0) (kk : wm d M' [.ref k] σ (fun r σ' => wx (d + 1) M (pc + 3) L (r ++ rest) σ' K)) : wx (d + 1) M pc L (.ref k :: rest) σ K :=
  wx_callIN (av := []) hd hm hi hlink hnp hin hvo rfl hrest hrm hnn kk
theorem wx_I1 {k : Nat} {a1 : Value} (hd : decode M.2.1 pc = .ok (.invokespecial idx, 3)) (hm : zCm M') (hi : Cond.instanceMethod M'.1 ∈ zT) (hlink : Cond.methodLink M.1.cls idx M'.1 ∈ zT) (hnp : zNp M' 1) (hin : M'.1.name = "<init>") (hvo : M'.2.2.2.1 = none) (hrest : (rest.map fun v => v.category).sum ≤ 8) (hrm : zRoom M M' σ.1) (hnn : σ.1 ≤ M.2.2.2.2.2 ∨ M.2.2.2.2.2 = 0) (kk : wm d M' [.ref k, a1] σ (fun r σ' => wx (d + 1) M (pc + 3) L (r ++ rest) σ' K)) : wx (d + 1) M pc L (a1 :: .ref k :: rest) σ K :=
  wx_callI (av := [a1]) hd hm hi hlink hnp hin hvo rfl hrest hrm hnn kk
theorem wx_IN1 {k : Nat} {host : String} {a1 : Value} (hd : decode M.2.1 pc = .ok (.invokespecial idx, 3)) (hm : zCm M') (hi : Cond.instanceMethod M'.1 ∈ zT) (hlink : Cond.methodLinkNest M.1.cls idx M'.1 host ∈ zNest) (hnp : zNp M' 1) (hin : M'.1.name = "<init>") (hvo : M'.2.2.2.1 = none) (hrest : (rest.map fun v => v.category).sum ≤ 8) (hrm : zRoom M M' σ.1) (hnn : σ.1 ≤ M.2.2.2.2.2 ∨ M.2.2.2.2.2 = 0) (kk : wm d M' [.ref k, a1] σ (fun r σ' => wx (d + 1) M (pc + 3) L (r ++ rest) σ' K)) : wx (d + 1) M pc L (a1 :: .ref k :: rest) σ K :=
  wx_callIN (av := [a1]) hd hm hi hlink hnp hin hvo rfl hrest hrm hnn kk
end ZAR
end
