section
-- ===== PART A: goes FIRST, ahead of the names: the tables' words, and 'selects' of the private methods out of them =====
/-- a private method of a class that the tables say can be made, by its rows of tables_1 -/
def lw_okq (q : MethodName × Nat) : Prop := (q.1.cls ≠ "java/lang/invoke/MethodHandle" ∧ q.1.cls ≠ "java/lang/invoke/VarHandle") ∧ Cond.instantiable q.1.cls q.2 ∈ tables_1 ∧ Cond.privateMethod q.1 ∈ tables_1 ∧ Cond.instanceMethod q.1 ∈ tables_1
theorem lw_p0 : lw_okq (⟨"MirrorTrue$Bench", "keepAsTold", "()V"⟩, 11) := ⟨⟨by decide +kernel, by decide +kernel⟩, List.mem_of_getElem? (i := 115) (by decide +kernel), List.mem_of_getElem? (i := 308) (by decide +kernel), List.mem_of_getElem? (i := 309) (by decide +kernel)⟩
theorem lw_p1 : lw_okq (⟨"MirrorTrue", "isZone", "(I)Z"⟩, 9) := ⟨⟨by decide +kernel, by decide +kernel⟩, List.mem_of_getElem? (i := 16) (by decide +kernel), List.mem_of_getElem? (i := 350) (by decide +kernel), List.mem_of_getElem? (i := 351) (by decide +kernel)⟩
theorem lw_p2 : lw_okq (⟨"MirrorTrue", "isStep", "(I)Z"⟩, 9) := ⟨⟨by decide +kernel, by decide +kernel⟩, List.mem_of_getElem? (i := 16) (by decide +kernel), List.mem_of_getElem? (i := 373) (by decide +kernel), List.mem_of_getElem? (i := 374) (by decide +kernel)⟩
theorem lw_p3 : lw_okq (⟨"MirrorTrue$Knives", "settle", "()V"⟩, 12) := ⟨⟨by decide +kernel, by decide +kernel⟩, List.mem_of_getElem? (i := 40) (by decide +kernel), List.mem_of_getElem? (i := 397) (by decide +kernel), List.mem_of_getElem? (i := 398) (by decide +kernel)⟩
theorem lw_p4 : lw_okq (⟨"MirrorTrue$Knives", "settleAgreements", "()V"⟩, 12) := ⟨⟨by decide +kernel, by decide +kernel⟩, List.mem_of_getElem? (i := 40) (by decide +kernel), List.mem_of_getElem? (i := 401) (by decide +kernel), List.mem_of_getElem? (i := 402) (by decide +kernel)⟩
theorem lw_p5 : lw_okq (⟨"MirrorTrue$Knives", "stepsOfAgreement", "(III)I"⟩, 12) := ⟨⟨by decide +kernel, by decide +kernel⟩, List.mem_of_getElem? (i := 40) (by decide +kernel), List.mem_of_getElem? (i := 405) (by decide +kernel), List.mem_of_getElem? (i := 406) (by decide +kernel)⟩
theorem lw_p6 : lw_okq (⟨"MirrorTrue$Knives", "settleShifts", "()V"⟩, 12) := ⟨⟨by decide +kernel, by decide +kernel⟩, List.mem_of_getElem? (i := 40) (by decide +kernel), List.mem_of_getElem? (i := 412) (by decide +kernel), List.mem_of_getElem? (i := 413) (by decide +kernel)⟩
theorem lw_p7 : lw_okq (⟨"MirrorTrue$Knives", "keptMore", "(II)I"⟩, 12) := ⟨⟨by decide +kernel, by decide +kernel⟩, List.mem_of_getElem? (i := 40) (by decide +kernel), List.mem_of_getElem? (i := 416) (by decide +kernel), List.mem_of_getElem? (i := 417) (by decide +kernel)⟩
theorem lw_p8 : lw_okq (⟨"MirrorTrue$Knives", "stepsTold", "()I"⟩, 12) := ⟨⟨by decide +kernel, by decide +kernel⟩, List.mem_of_getElem? (i := 40) (by decide +kernel), List.mem_of_getElem? (i := 430) (by decide +kernel), List.mem_of_getElem? (i := 431) (by decide +kernel)⟩
theorem lw_p9 : lw_okq (⟨"MirrorTrue$Knives", "leastStep", "(I)I"⟩, 12) := ⟨⟨by decide +kernel, by decide +kernel⟩, List.mem_of_getElem? (i := 40) (by decide +kernel), List.mem_of_getElem? (i := 434) (by decide +kernel), List.mem_of_getElem? (i := 435) (by decide +kernel)⟩
theorem lw_p10 : lw_okq (⟨"MirrorTrue$Knives", "servedBy", "(II)I"⟩, 12) := ⟨⟨by decide +kernel, by decide +kernel⟩, List.mem_of_getElem? (i := 40) (by decide +kernel), List.mem_of_getElem? (i := 438) (by decide +kernel), List.mem_of_getElem? (i := 439) (by decide +kernel)⟩
theorem lw_p11 : lw_okq (⟨"MirrorTrue$Knives", "settleProfiles", "()V"⟩, 12) := ⟨⟨by decide +kernel, by decide +kernel⟩, List.mem_of_getElem? (i := 40) (by decide +kernel), List.mem_of_getElem? (i := 442) (by decide +kernel), List.mem_of_getElem? (i := 443) (by decide +kernel)⟩
theorem lw_p12 : lw_okq (⟨"MirrorTrue$Bench", "isThere", "(I)Z"⟩, 11) := ⟨⟨by decide +kernel, by decide +kernel⟩, List.mem_of_getElem? (i := 115) (by decide +kernel), List.mem_of_getElem? (i := 527) (by decide +kernel), List.mem_of_getElem? (i := 528) (by decide +kernel)⟩
theorem lw_p13 : lw_okq (⟨"MirrorTrue$Planner", "settle", "(I)V"⟩, 9) := ⟨⟨by decide +kernel, by decide +kernel⟩, List.mem_of_getElem? (i := 156) (by decide +kernel), List.mem_of_getElem? (i := 575) (by decide +kernel), List.mem_of_getElem? (i := 576) (by decide +kernel)⟩
theorem lw_p14 : lw_okq (⟨"MirrorTrue$Planner", "begin", "(I)V"⟩, 9) := ⟨⟨by decide +kernel, by decide +kernel⟩, List.mem_of_getElem? (i := 156) (by decide +kernel), List.mem_of_getElem? (i := 583) (by decide +kernel), List.mem_of_getElem? (i := 584) (by decide +kernel)⟩
theorem lw_p15 : lw_okq (⟨"MirrorTrue$Planner", "costFrom", "(II)I"⟩, 9) := ⟨⟨by decide +kernel, by decide +kernel⟩, List.mem_of_getElem? (i := 156) (by decide +kernel), List.mem_of_getElem? (i := 597) (by decide +kernel), List.mem_of_getElem? (i := 598) (by decide +kernel)⟩
def lw_privs_1 : List (MethodName × Nat) := [(⟨"MirrorTrue$Bench", "keepAsTold", "()V"⟩, 11), (⟨"MirrorTrue", "isZone", "(I)Z"⟩, 9), (⟨"MirrorTrue", "isStep", "(I)Z"⟩, 9), (⟨"MirrorTrue$Knives", "settle", "()V"⟩, 12), (⟨"MirrorTrue$Knives", "settleAgreements", "()V"⟩, 12), (⟨"MirrorTrue$Knives", "stepsOfAgreement", "(III)I"⟩, 12), (⟨"MirrorTrue$Knives", "settleShifts", "()V"⟩, 12), (⟨"MirrorTrue$Knives", "keptMore", "(II)I"⟩, 12), (⟨"MirrorTrue$Knives", "stepsTold", "()I"⟩, 12), (⟨"MirrorTrue$Knives", "leastStep", "(I)I"⟩, 12), (⟨"MirrorTrue$Knives", "servedBy", "(II)I"⟩, 12), (⟨"MirrorTrue$Knives", "settleProfiles", "()V"⟩, 12), (⟨"MirrorTrue$Bench", "isThere", "(I)Z"⟩, 11), (⟨"MirrorTrue$Planner", "settle", "(I)V"⟩, 9), (⟨"MirrorTrue$Planner", "begin", "(I)V"⟩, 9), (⟨"MirrorTrue$Planner", "costFrom", "(II)I"⟩, 9)]
theorem lw_r1 : ∀ q ∈ lw_privs_1, lw_okq q := List.forall_mem_cons.mpr ⟨lw_p0, List.forall_mem_cons.mpr ⟨lw_p1, List.forall_mem_cons.mpr ⟨lw_p2, List.forall_mem_cons.mpr ⟨lw_p3, List.forall_mem_cons.mpr ⟨lw_p4, List.forall_mem_cons.mpr ⟨lw_p5, List.forall_mem_cons.mpr ⟨lw_p6, List.forall_mem_cons.mpr ⟨lw_p7, List.forall_mem_cons.mpr ⟨lw_p8, List.forall_mem_cons.mpr ⟨lw_p9, List.forall_mem_cons.mpr ⟨lw_p10, List.forall_mem_cons.mpr ⟨lw_p11, List.forall_mem_cons.mpr ⟨lw_p12, List.forall_mem_cons.mpr ⟨lw_p13, List.forall_mem_cons.mpr ⟨lw_p14, List.forall_mem_cons.mpr ⟨lw_p15, fun _ h => absurd h List.not_mem_nil⟩⟩⟩⟩⟩⟩⟩⟩⟩⟩⟩⟩⟩⟩⟩⟩
theorem lw_p16 : lw_okq (⟨"MirrorTrue$Planner", "leastCost", "(II)I"⟩, 9) := ⟨⟨by decide +kernel, by decide +kernel⟩, List.mem_of_getElem? (i := 156) (by decide +kernel), List.mem_of_getElem? (i := 601) (by decide +kernel), List.mem_of_getElem? (i := 602) (by decide +kernel)⟩
theorem lw_p17 : lw_okq (⟨"MirrorTrue$Planner", "leftAt", "(II)I"⟩, 9) := ⟨⟨by decide +kernel, by decide +kernel⟩, List.mem_of_getElem? (i := 156) (by decide +kernel), List.mem_of_getElem? (i := 605) (by decide +kernel), List.mem_of_getElem? (i := 606) (by decide +kernel)⟩
theorem lw_p18 : lw_okq (⟨"MirrorTrue$Planner", "costWith", "(IIII)I"⟩, 9) := ⟨⟨by decide +kernel, by decide +kernel⟩, List.mem_of_getElem? (i := 156) (by decide +kernel), List.mem_of_getElem? (i := 609) (by decide +kernel), List.mem_of_getElem? (i := 610) (by decide +kernel)⟩
theorem lw_p19 : lw_okq (⟨"MirrorTrue$Planner", "traceMinutes", "([I)V"⟩, 9) := ⟨⟨by decide +kernel, by decide +kernel⟩, List.mem_of_getElem? (i := 156) (by decide +kernel), List.mem_of_getElem? (i := 619) (by decide +kernel), List.mem_of_getElem? (i := 620) (by decide +kernel)⟩
theorem lw_p20 : lw_okq (⟨"MirrorTrue$Rings", "settle", "()V"⟩, 7) := ⟨⟨by decide +kernel, by decide +kernel⟩, List.mem_of_getElem? (i := 192) (by decide +kernel), List.mem_of_getElem? (i := 668) (by decide +kernel), List.mem_of_getElem? (i := 669) (by decide +kernel)⟩
theorem lw_p21 : lw_okq (⟨"MirrorTrue$Rings", "place", "(III)V"⟩, 7) := ⟨⟨by decide +kernel, by decide +kernel⟩, List.mem_of_getElem? (i := 192) (by decide +kernel), List.mem_of_getElem? (i := 672) (by decide +kernel), List.mem_of_getElem? (i := 673) (by decide +kernel)⟩
theorem lw_p22 : lw_okq (⟨"MirrorTrue$Rings", "keepIfBetter", "(II)V"⟩, 7) := ⟨⟨by decide +kernel, by decide +kernel⟩, List.mem_of_getElem? (i := 192) (by decide +kernel), List.mem_of_getElem? (i := 676) (by decide +kernel), List.mem_of_getElem? (i := 677) (by decide +kernel)⟩
theorem lw_p23 : lw_okq (⟨"MirrorTrue$Rings", "spreadOf", "([I)I"⟩, 7) := ⟨⟨by decide +kernel, by decide +kernel⟩, List.mem_of_getElem? (i := 192) (by decide +kernel), List.mem_of_getElem? (i := 680) (by decide +kernel), List.mem_of_getElem? (i := 681) (by decide +kernel)⟩
theorem lw_p24 : lw_okq (⟨"MirrorTrue$Rings", "placeShare", "(IIII)V"⟩, 7) := ⟨⟨by decide +kernel, by decide +kernel⟩, List.mem_of_getElem? (i := 192) (by decide +kernel), List.mem_of_getElem? (i := 688) (by decide +kernel), List.mem_of_getElem? (i := 689) (by decide +kernel)⟩
theorem lw_p25 : lw_okq (⟨"MirrorTrue$Shells", "goOneMinute", "([I)Z"⟩, 3) := ⟨⟨by decide +kernel, by decide +kernel⟩, List.mem_of_getElem? (i := 221) (by decide +kernel), List.mem_of_getElem? (i := 716) (by decide +kernel), List.mem_of_getElem? (i := 717) (by decide +kernel)⟩
theorem lw_p26 : lw_okq (⟨"MirrorTrue$Grits", "settle", "()V"⟩, 6) := ⟨⟨by decide +kernel, by decide +kernel⟩, List.mem_of_getElem? (i := 237) (by decide +kernel), List.mem_of_getElem? (i := 773) (by decide +kernel), List.mem_of_getElem? (i := 774) (by decide +kernel)⟩
theorem lw_p27 : lw_okq (⟨"MirrorTrue$Grits", "bring", "(II)V"⟩, 6) := ⟨⟨by decide +kernel, by decide +kernel⟩, List.mem_of_getElem? (i := 237) (by decide +kernel), List.mem_of_getElem? (i := 778) (by decide +kernel), List.mem_of_getElem? (i := 779) (by decide +kernel)⟩
theorem lw_p28 : lw_okq (⟨"MirrorTrue$Grits", "bringFrom", "(III)V"⟩, 6) := ⟨⟨by decide +kernel, by decide +kernel⟩, List.mem_of_getElem? (i := 237) (by decide +kernel), List.mem_of_getElem? (i := 782) (by decide +kernel), List.mem_of_getElem? (i := 783) (by decide +kernel)⟩
theorem lw_p29 : lw_okq (⟨"MirrorTrue$Grits", "clears", "(II)Z"⟩, 6) := ⟨⟨by decide +kernel, by decide +kernel⟩, List.mem_of_getElem? (i := 237) (by decide +kernel), List.mem_of_getElem? (i := 786) (by decide +kernel), List.mem_of_getElem? (i := 787) (by decide +kernel)⟩
theorem lw_p30 : lw_okq (⟨"MirrorTrue$Grits", "fewestWithin", "(III)I"⟩, 6) := ⟨⟨by decide +kernel, by decide +kernel⟩, List.mem_of_getElem? (i := 237) (by decide +kernel), List.mem_of_getElem? (i := 791) (by decide +kernel), List.mem_of_getElem? (i := 792) (by decide +kernel)⟩
theorem lw_p31 : lw_okq (⟨"MirrorTrue$Grits", "mostThatServe", "(IIII)I"⟩, 6) := ⟨⟨by decide +kernel, by decide +kernel⟩, List.mem_of_getElem? (i := 237) (by decide +kernel), List.mem_of_getElem? (i := 801) (by decide +kernel), List.mem_of_getElem? (i := 802) (by decide +kernel)⟩
def lw_privs_2 : List (MethodName × Nat) := [(⟨"MirrorTrue$Planner", "leastCost", "(II)I"⟩, 9), (⟨"MirrorTrue$Planner", "leftAt", "(II)I"⟩, 9), (⟨"MirrorTrue$Planner", "costWith", "(IIII)I"⟩, 9), (⟨"MirrorTrue$Planner", "traceMinutes", "([I)V"⟩, 9), (⟨"MirrorTrue$Rings", "settle", "()V"⟩, 7), (⟨"MirrorTrue$Rings", "place", "(III)V"⟩, 7), (⟨"MirrorTrue$Rings", "keepIfBetter", "(II)V"⟩, 7), (⟨"MirrorTrue$Rings", "spreadOf", "([I)I"⟩, 7), (⟨"MirrorTrue$Rings", "placeShare", "(IIII)V"⟩, 7), (⟨"MirrorTrue$Shells", "goOneMinute", "([I)Z"⟩, 3), (⟨"MirrorTrue$Grits", "settle", "()V"⟩, 6), (⟨"MirrorTrue$Grits", "bring", "(II)V"⟩, 6), (⟨"MirrorTrue$Grits", "bringFrom", "(III)V"⟩, 6), (⟨"MirrorTrue$Grits", "clears", "(II)Z"⟩, 6), (⟨"MirrorTrue$Grits", "fewestWithin", "(III)I"⟩, 6), (⟨"MirrorTrue$Grits", "mostThatServe", "(IIII)I"⟩, 6)]
theorem lw_r2 : ∀ q ∈ lw_privs_2, lw_okq q := List.forall_mem_cons.mpr ⟨lw_p16, List.forall_mem_cons.mpr ⟨lw_p17, List.forall_mem_cons.mpr ⟨lw_p18, List.forall_mem_cons.mpr ⟨lw_p19, List.forall_mem_cons.mpr ⟨lw_p20, List.forall_mem_cons.mpr ⟨lw_p21, List.forall_mem_cons.mpr ⟨lw_p22, List.forall_mem_cons.mpr ⟨lw_p23, List.forall_mem_cons.mpr ⟨lw_p24, List.forall_mem_cons.mpr ⟨lw_p25, List.forall_mem_cons.mpr ⟨lw_p26, List.forall_mem_cons.mpr ⟨lw_p27, List.forall_mem_cons.mpr ⟨lw_p28, List.forall_mem_cons.mpr ⟨lw_p29, List.forall_mem_cons.mpr ⟨lw_p30, List.forall_mem_cons.mpr ⟨lw_p31, fun _ h => absurd h List.not_mem_nil⟩⟩⟩⟩⟩⟩⟩⟩⟩⟩⟩⟩⟩⟩⟩⟩
theorem lw_p32 : lw_okq (⟨"MirrorTrueModel", "begins", "(I)V"⟩, 37) := ⟨⟨by decide +kernel, by decide +kernel⟩, List.mem_of_getElem? (i := 814) (by decide +kernel), List.mem_of_getElem? (i := 821) (by decide +kernel), List.mem_of_getElem? (i := 822) (by decide +kernel)⟩
theorem lw_p33 : lw_okq (⟨"MirrorTrueModel", "isZone", "(I)Z"⟩, 37) := ⟨⟨by decide +kernel, by decide +kernel⟩, List.mem_of_getElem? (i := 814) (by decide +kernel), List.mem_of_getElem? (i := 963) (by decide +kernel), List.mem_of_getElem? (i := 964) (by decide +kernel)⟩
theorem lw_p34 : lw_okq (⟨"MirrorTrueModel", "joins", "()I"⟩, 37) := ⟨⟨by decide +kernel, by decide +kernel⟩, List.mem_of_getElem? (i := 814) (by decide +kernel), List.mem_of_getElem? (i := 986) (by decide +kernel), List.mem_of_getElem? (i := 987) (by decide +kernel)⟩
theorem lw_p35 : lw_okq (⟨"MirrorTrueModel", "dropped", "(I)I"⟩, 37) := ⟨⟨by decide +kernel, by decide +kernel⟩, List.mem_of_getElem? (i := 814) (by decide +kernel), List.mem_of_getElem? (i := 990) (by decide +kernel), List.mem_of_getElem? (i := 991) (by decide +kernel)⟩
theorem lw_p36 : lw_okq (⟨"MirrorTrueModel", "isRead", "(II)Z"⟩, 37) := ⟨⟨by decide +kernel, by decide +kernel⟩, List.mem_of_getElem? (i := 814) (by decide +kernel), List.mem_of_getElem? (i := 994) (by decide +kernel), List.mem_of_getElem? (i := 995) (by decide +kernel)⟩
theorem lw_p37 : lw_okq (⟨"MirrorTrueModel", "shifted", "(II)I"⟩, 37) := ⟨⟨by decide +kernel, by decide +kernel⟩, List.mem_of_getElem? (i := 814) (by decide +kernel), List.mem_of_getElem? (i := 998) (by decide +kernel), List.mem_of_getElem? (i := 999) (by decide +kernel)⟩
theorem lw_p38 : lw_okq (⟨"MirrorTrueModel", "holds", "(II)I"⟩, 37) := ⟨⟨by decide +kernel, by decide +kernel⟩, List.mem_of_getElem? (i := 814) (by decide +kernel), List.mem_of_getElem? (i := 1002) (by decide +kernel), List.mem_of_getElem? (i := 1003) (by decide +kernel)⟩
theorem lw_p39 : lw_okq (⟨"MirrorTrueModel", "profileOf", "(I)I"⟩, 37) := ⟨⟨by decide +kernel, by decide +kernel⟩, List.mem_of_getElem? (i := 814) (by decide +kernel), List.mem_of_getElem? (i := 1018) (by decide +kernel), List.mem_of_getElem? (i := 1019) (by decide +kernel)⟩
theorem lw_p40 : lw_okq (⟨"MirrorTrueModel", "offOf", "(I)I"⟩, 37) := ⟨⟨by decide +kernel, by decide +kernel⟩, List.mem_of_getElem? (i := 814) (by decide +kernel), List.mem_of_getElem? (i := 1031) (by decide +kernel), List.mem_of_getElem? (i := 1032) (by decide +kernel)⟩
theorem lw_p41 : lw_okq (⟨"MirrorTrueModel", "pullOf", "(II)I"⟩, 37) := ⟨⟨by decide +kernel, by decide +kernel⟩, List.mem_of_getElem? (i := 814) (by decide +kernel), List.mem_of_getElem? (i := 1047) (by decide +kernel), List.mem_of_getElem? (i := 1048) (by decide +kernel)⟩
theorem lw_p42 : lw_okq (⟨"MirrorTrueModel", "lays", "(III)V"⟩, 37) := ⟨⟨by decide +kernel, by decide +kernel⟩, List.mem_of_getElem? (i := 814) (by decide +kernel), List.mem_of_getElem? (i := 1053) (by decide +kernel), List.mem_of_getElem? (i := 1054) (by decide +kernel)⟩
theorem lw_p43 : lw_okq (⟨"MirrorTrueModel", "plans", "(I)I"⟩, 37) := ⟨⟨by decide +kernel, by decide +kernel⟩, List.mem_of_getElem? (i := 814) (by decide +kernel), List.mem_of_getElem? (i := 1069) (by decide +kernel), List.mem_of_getElem? (i := 1070) (by decide +kernel)⟩
theorem lw_p44 : lw_okq (⟨"MirrorTrueModel", "costs", "(I)V"⟩, 37) := ⟨⟨by decide +kernel, by decide +kernel⟩, List.mem_of_getElem? (i := 814) (by decide +kernel), List.mem_of_getElem? (i := 1073) (by decide +kernel), List.mem_of_getElem? (i := 1074) (by decide +kernel)⟩
theorem lw_p45 : lw_okq (⟨"MirrorTrueModel", "most", "(I)I"⟩, 37) := ⟨⟨by decide +kernel, by decide +kernel⟩, List.mem_of_getElem? (i := 814) (by decide +kernel), List.mem_of_getElem? (i := 1077) (by decide +kernel), List.mem_of_getElem? (i := 1078) (by decide +kernel)⟩
theorem lw_p46 : lw_okq (⟨"MirrorTrueModel", "isRight", "(IIII)Z"⟩, 37) := ⟨⟨by decide +kernel, by decide +kernel⟩, List.mem_of_getElem? (i := 814) (by decide +kernel), List.mem_of_getElem? (i := 1081) (by decide +kernel), List.mem_of_getElem? (i := 1082) (by decide +kernel)⟩
theorem lw_p47 : lw_okq (⟨"MirrorTrueModel", "spreads", "()V"⟩, 37) := ⟨⟨by decide +kernel, by decide +kernel⟩, List.mem_of_getElem? (i := 814) (by decide +kernel), List.mem_of_getElem? (i := 1107) (by decide +kernel), List.mem_of_getElem? (i := 1108) (by decide +kernel)⟩
def lw_privs_3 : List (MethodName × Nat) := [(⟨"MirrorTrueModel", "begins", "(I)V"⟩, 37), (⟨"MirrorTrueModel", "isZone", "(I)Z"⟩, 37), (⟨"MirrorTrueModel", "joins", "()I"⟩, 37), (⟨"MirrorTrueModel", "dropped", "(I)I"⟩, 37), (⟨"MirrorTrueModel", "isRead", "(II)Z"⟩, 37), (⟨"MirrorTrueModel", "shifted", "(II)I"⟩, 37), (⟨"MirrorTrueModel", "holds", "(II)I"⟩, 37), (⟨"MirrorTrueModel", "profileOf", "(I)I"⟩, 37), (⟨"MirrorTrueModel", "offOf", "(I)I"⟩, 37), (⟨"MirrorTrueModel", "pullOf", "(II)I"⟩, 37), (⟨"MirrorTrueModel", "lays", "(III)V"⟩, 37), (⟨"MirrorTrueModel", "plans", "(I)I"⟩, 37), (⟨"MirrorTrueModel", "costs", "(I)V"⟩, 37), (⟨"MirrorTrueModel", "most", "(I)I"⟩, 37), (⟨"MirrorTrueModel", "isRight", "(IIII)Z"⟩, 37), (⟨"MirrorTrueModel", "spreads", "()V"⟩, 37)]
theorem lw_r3 : ∀ q ∈ lw_privs_3, lw_okq q := List.forall_mem_cons.mpr ⟨lw_p32, List.forall_mem_cons.mpr ⟨lw_p33, List.forall_mem_cons.mpr ⟨lw_p34, List.forall_mem_cons.mpr ⟨lw_p35, List.forall_mem_cons.mpr ⟨lw_p36, List.forall_mem_cons.mpr ⟨lw_p37, List.forall_mem_cons.mpr ⟨lw_p38, List.forall_mem_cons.mpr ⟨lw_p39, List.forall_mem_cons.mpr ⟨lw_p40, List.forall_mem_cons.mpr ⟨lw_p41, List.forall_mem_cons.mpr ⟨lw_p42, List.forall_mem_cons.mpr ⟨lw_p43, List.forall_mem_cons.mpr ⟨lw_p44, List.forall_mem_cons.mpr ⟨lw_p45, List.forall_mem_cons.mpr ⟨lw_p46, List.forall_mem_cons.mpr ⟨lw_p47, fun _ h => absurd h List.not_mem_nil⟩⟩⟩⟩⟩⟩⟩⟩⟩⟩⟩⟩⟩⟩⟩⟩
theorem lw_p48 : lw_okq (⟨"MirrorTrueModel", "passes", "()V"⟩, 37) := ⟨⟨by decide +kernel, by decide +kernel⟩, List.mem_of_getElem? (i := 814) (by decide +kernel), List.mem_of_getElem? (i := 1119) (by decide +kernel), List.mem_of_getElem? (i := 1120) (by decide +kernel)⟩
theorem lw_p49 : lw_okq (⟨"MirrorTrueModel", "apart", "(I)I"⟩, 37) := ⟨⟨by decide +kernel, by decide +kernel⟩, List.mem_of_getElem? (i := 814) (by decide +kernel), List.mem_of_getElem? (i := 1126) (by decide +kernel), List.mem_of_getElem? (i := 1127) (by decide +kernel)⟩
theorem lw_p50 : lw_okq (⟨"MirrorTrueModel", "wetsBy", "(I)V"⟩, 37) := ⟨⟨by decide +kernel, by decide +kernel⟩, List.mem_of_getElem? (i := 814) (by decide +kernel), List.mem_of_getElem? (i := 1150) (by decide +kernel), List.mem_of_getElem? (i := 1151) (by decide +kernel)⟩
theorem lw_p51 : lw_okq (⟨"MirrorTrueModel", "with", "(IIIII)I"⟩, 37) := ⟨⟨by decide +kernel, by decide +kernel⟩, List.mem_of_getElem? (i := 814) (by decide +kernel), List.mem_of_getElem? (i := 1154) (by decide +kernel), List.mem_of_getElem? (i := 1155) (by decide +kernel)⟩
def lw_privs_4 : List (MethodName × Nat) := [(⟨"MirrorTrueModel", "passes", "()V"⟩, 37), (⟨"MirrorTrueModel", "apart", "(I)I"⟩, 37), (⟨"MirrorTrueModel", "wetsBy", "(I)V"⟩, 37), (⟨"MirrorTrueModel", "with", "(IIIII)I"⟩, 37)]
theorem lw_r4 : ∀ q ∈ lw_privs_4, lw_okq q := List.forall_mem_cons.mpr ⟨lw_p48, List.forall_mem_cons.mpr ⟨lw_p49, List.forall_mem_cons.mpr ⟨lw_p50, List.forall_mem_cons.mpr ⟨lw_p51, fun _ h => absurd h List.not_mem_nil⟩⟩⟩⟩
def lw_privs : List (MethodName × Nat) := lw_privs_1 ++ (lw_privs_2 ++ (lw_privs_3 ++ (lw_privs_4)))
def lw_tbl : List Cond := k2_sels lw_privs ++ tables_1
theorem lw_privs_ok : ∀ q ∈ lw_privs, lw_okq q := by
  show ∀ q ∈ lw_privs_1 ++ (lw_privs_2 ++ (lw_privs_3 ++ (lw_privs_4))), lw_okq q
  exact List.forall_mem_append.mpr ⟨lw_r1, List.forall_mem_append.mpr ⟨lw_r2, List.forall_mem_append.mpr ⟨lw_r3, lw_r4⟩⟩⟩
-- ===== end of PART A; then your names; then what follows =====
end
section
/-! ===== BEGIN words of one list among another's, by their places ===== -/
theorem goodIn_r {big : List Cond} (ws : List Cond) (ps : List Nat) (hp : ws = ps.filterMap (fun i => big[i]?)) (h : ws.all goodWord = true) : GoodIn big ws := by
  intro w hw
  have h1 := List.all_eq_true.mp h w hw
  rw [hp] at hw
  obtain ⟨i, -, hi⟩ := List.mem_filterMap.mp hw
  have hm : w ∈ big := by first | exact List.mem_of_getElem? hi | exact List.getElem?_mem hi
  exact ⟨hm, good_of_word h1⟩
theorem goodIn_app {big a b : List Cond} (ha : GoodIn big a) (hb : GoodIn big b) : GoodIn big (a ++ b) := fun w h => (List.mem_append.mp h).elim (ha w) (hb w)
theorem goodIn_ca {big a b : List Cond} {c : Cond} (ha : GoodIn big (c :: a)) (hb : GoodIn big b) : GoodIn big (c :: (a ++ b)) := fun w h => (List.mem_cons.mp h).elim (fun e => ha w (List.mem_cons.mpr (Or.inl e))) (fun h => (List.mem_append.mp h).elim (fun h => ha w (List.mem_cons.mpr (Or.inr h))) (hb w))
theorem goodIn_sub {big ws : List Cond} (hm : ∀ w ∈ ws, w ∈ big) (h : ws.all goodWord = true) : GoodIn big ws := fun w hw => ⟨hm w hw, good_of_word (List.all_eq_true.mp h w hw)⟩
/-! ===== END ===== -/

theorem vr_outer (c : ClassId) (N h0 : Nat) : ∀ i : Nat, Jvm.Free.Multi.outerC c N h0 i = arrV c N (fun j => va_rf (if j < i then some (h0 + 1 + j) else none))
  | 0 => by
    show ({ cls := c, slots := Array.replicate N .null, vm := .none } : Cell) = _
    rw [arrV_new]
    refine congrArg (arrV c N) (funext fun j => ?_)
    simp [va_rf]
  | i + 1 => by
    show (Jvm.Free.Multi.outerC c N h0 i).setSlot i (.ref (h0 + 1 + i)) = _
    rw [vr_outer c N h0 i, arrV_store]
    refine congrArg (arrV c N) (funext fun j => ?_)
    by_cases e : j = i
    · subst e
      simp [updV, va_rf]
    · by_cases h : j < i
      · simp [updV, e, h, Nat.lt_succ_of_lt h]
      · simp [updV, e, h, show ¬ j < i + 1 by omega]

def RX0 : String := "MirrorTrue$Bench"
def TX0 : u_T := fun k => match k with
  | 0 => ("MirrorTrue$Bench", "heights", "[I", true)
  | 1 => ("MirrorTrue$Bench", "toldHeights", "[I", true)
  | 2 => ("MirrorTrue$Bench", "pulls", "[[I", true)
  | 3 => ("MirrorTrue$Bench", "strokeTools", "[I", true)
  | 4 => ("MirrorTrue$Bench", "strokeZones", "[I", true)
  | 5 => ("MirrorTrue$Bench", "strokeMinutes", "[I", true)
  | 6 => ("MirrorTrue$Bench", "taken", "[[I", true)
  | 7 => ("MirrorTrue$Bench", "zones", "I", false)
  | 8 => ("MirrorTrue$Bench", "strokes", "I", false)
  | 9 => ("MirrorTrue$Bench", "rest", "I", false)
  | _ => ("MirrorTrue$Bench", "changes", "I", false)
def tyX0 : Nat → FieldType := fun k => match k with
  | 0 => .array .int
  | 1 => .array .int
  | 2 => .array (.array .int)
  | 3 => .array .int
  | 4 => .array .int
  | 5 => .array .int
  | 6 => .array (.array .int)
  | 7 => .int
  | 8 => .int
  | 9 => .int
  | _ => .int
theorem nmX0 : ∀ a, a < 11 → ∀ b, b < 11 → a ≠ b → (TX0 a).2.1 ≠ (TX0 b).2.1 := by decide +kernel
theorem tyX0_ok : ∀ k, k < 11 → parseFieldDescriptor (TX0 k).2.2.1 = some (tyX0 k) := by decide +kernel
abbrev cX0_init : ByteArray := prog_2_method_1_code
def yX0_init : MethodName := ⟨RX0, "<init>", "()V"⟩
abbrev cX0_begin : ByteArray := prog_2_method_2_code
def yX0_begin : MethodName := ⟨RX0, "begin", "(I)V"⟩
abbrev cX0_keepAsTold : ByteArray := prog_2_method_3_code
def yX0_keepAsTold : MethodName := ⟨RX0, "keepAsTold", "()V"⟩
abbrev cX0_tellHeight : ByteArray := prog_2_method_4_code
def yX0_tellHeight : MethodName := ⟨RX0, "tellHeight", "(II)I"⟩
abbrev cX0_tellPull : ByteArray := prog_2_method_5_code
def yX0_tellPull : MethodName := ⟨RX0, "tellPull", "(III)I"⟩
abbrev cX0_tellRest : ByteArray := prog_2_method_6_code
def yX0_tellRest : MethodName := ⟨RX0, "tellRest", "(I)I"⟩
abbrev cX0_howManyZones : ByteArray := prog_2_method_7_code
def yX0_howManyZones : MethodName := ⟨RX0, "howManyZones", "()I"⟩
abbrev cX0_heightOf : ByteArray := prog_2_method_8_code
def yX0_heightOf : MethodName := ⟨RX0, "heightOf", "(I)I"⟩
abbrev cX0_pullOf : ByteArray := prog_2_method_9_code
def yX0_pullOf : MethodName := ⟨RX0, "pullOf", "(II)I"⟩
abbrev cX0_restOf : ByteArray := prog_2_method_10_code
def yX0_restOf : MethodName := ⟨RX0, "restOf", "()I"⟩
abbrev cX0_howManyChanges : ByteArray := prog_2_method_11_code
def yX0_howManyChanges : MethodName := ⟨RX0, "howManyChanges", "()I"⟩
abbrev cX0_howMany : ByteArray := prog_2_method_12_code
def yX0_howMany : MethodName := ⟨RX0, "howMany", "()I"⟩
abbrev cX0_roomLeft : ByteArray := prog_2_method_13_code
def yX0_roomLeft : MethodName := ⟨RX0, "roomLeft", "()I"⟩
abbrev cX0_minutesTogether : ByteArray := prog_2_method_14_code
def yX0_minutesTogether : MethodName := ⟨RX0, "minutesTogether", "()I"⟩
abbrev cX0_wouldSink : ByteArray := prog_2_method_15_code
def yX0_wouldSink : MethodName := ⟨RX0, "wouldSink", "(III)Z"⟩
abbrev cX0_isThere : ByteArray := prog_2_method_16_code
def yX0_isThere : MethodName := ⟨RX0, "isThere", "(I)Z"⟩
abbrev cX0_doStroke : ByteArray := prog_2_method_17_code
def yX0_doStroke : MethodName := ⟨RX0, "doStroke", "(III)V"⟩
abbrev cX0_undoLatest : ByteArray := prog_2_method_18_code
def yX0_undoLatest : MethodName := ⟨RX0, "undoLatest", "()V"⟩
abbrev cX0_replayed : ByteArray := prog_2_method_19_code
def yX0_replayed : MethodName := ⟨RX0, "replayed", "(II)I"⟩
def RX1 : String := "MirrorTrue$Curve"
def TX1 : u_T := fun k => match k with
  | 0 => ("MirrorTrue$Curve", "radius", "I", false)
  | 1 => ("MirrorTrue$Curve", "above", "I", false)
  | _ => ("MirrorTrue$Curve", "below", "I", false)
def tyX1 : Nat → FieldType := fun k => match k with
  | 0 => .int
  | 1 => .int
  | _ => .int
theorem nmX1 : ∀ a, a < 3 → ∀ b, b < 3 → a ≠ b → (TX1 a).2.1 ≠ (TX1 b).2.1 := by decide +kernel
theorem tyX1_ok : ∀ k, k < 3 → parseFieldDescriptor (TX1 k).2.2.1 = some (tyX1 k) := by decide +kernel
abbrev cX1_init : ByteArray := prog_3_method_1_code
def yX1_init : MethodName := ⟨RX1, "<init>", "()V"⟩
abbrev cX1_become : ByteArray := prog_3_method_2_code
def yX1_become : MethodName := ⟨RX1, "become", "(III)V"⟩
abbrev cX1_depthAt : ByteArray := prog_3_method_3_code
def yX1_depthAt : MethodName := ⟨RX1, "depthAt", "(IZ)J"⟩
abbrev cX1_sharedDivisor : ByteArray := prog_3_method_4_code
def yX1_sharedDivisor : MethodName := ⟨RX1, "sharedDivisor", "(JJ)J"⟩
def RX2 : String := "MirrorTrue$Grits"
def TX2 : u_T := fun k => match k with
  | 0 => ("MirrorTrue$Grits", "takes", "[I", true)
  | 1 => ("MirrorTrue$Grits", "pits", "[I", true)
  | 2 => ("MirrorTrue$Grits", "fewest", "[[I", true)
  | 3 => ("MirrorTrue$Grits", "many", "I", false)
  | 4 => ("MirrorTrue$Grits", "slack", "I", false)
  | _ => ("MirrorTrue$Grits", "settled", "Z", false)
def tyX2 : Nat → FieldType := fun k => match k with
  | 0 => .array .int
  | 1 => .array .int
  | 2 => .array (.array .int)
  | 3 => .int
  | 4 => .int
  | _ => .boolean
theorem nmX2 : ∀ a, a < 6 → ∀ b, b < 6 → a ≠ b → (TX2 a).2.1 ≠ (TX2 b).2.1 := by decide +kernel
theorem tyX2_ok : ∀ k, k < 6 → parseFieldDescriptor (TX2 k).2.2.1 = some (tyX2 k) := by decide +kernel
abbrev cX2_init : ByteArray := prog_4_method_1_code
def yX2_init : MethodName := ⟨RX2, "<init>", "()V"⟩
abbrev cX2_howMany : ByteArray := prog_4_method_2_code
def yX2_howMany : MethodName := ⟨RX2, "howMany", "()I"⟩
abbrev cX2_come : ByteArray := prog_4_method_3_code
def yX2_come : MethodName := ⟨RX2, "come", "(II)I"⟩
abbrev cX2_tellSlack : ByteArray := prog_4_method_4_code
def yX2_tellSlack : MethodName := ⟨RX2, "tellSlack", "(I)I"⟩
abbrev cX2_fewestFor : ByteArray := prog_4_method_5_code
def yX2_fewestFor : MethodName := ⟨RX2, "fewestFor", "(I)I"⟩
abbrev cX2_wetsOf : ByteArray := prog_4_method_6_code
def yX2_wetsOf : MethodName := ⟨RX2, "wetsOf", "(II)I"⟩
abbrev cX2_mostThatServe : ByteArray := prog_4_method_7_code
def yX2_mostThatServe : MethodName := ⟨RX2, "mostThatServe", "(IIII)I"⟩
abbrev cX2_clears : ByteArray := prog_4_method_8_code
def yX2_clears : MethodName := ⟨RX2, "clears", "(II)Z"⟩
abbrev cX2_fewestWithin : ByteArray := prog_4_method_9_code
def yX2_fewestWithin : MethodName := ⟨RX2, "fewestWithin", "(III)I"⟩
abbrev cX2_settle : ByteArray := prog_4_method_10_code
def yX2_settle : MethodName := ⟨RX2, "settle", "()V"⟩
abbrev cX2_bring : ByteArray := prog_4_method_11_code
def yX2_bring : MethodName := ⟨RX2, "bring", "(II)V"⟩
abbrev cX2_bringFrom : ByteArray := prog_4_method_12_code
def yX2_bringFrom : MethodName := ⟨RX2, "bringFrom", "(III)V"⟩
def RX3 : String := "MirrorTrue$Knives"
def TX3 : u_T := fun k => match k with
  | 0 => ("MirrorTrue$Knives", "readings", "[[I", true)
  | 1 => ("MirrorTrue$Knives", "shifts", "[I", true)
  | 2 => ("MirrorTrue$Knives", "steps", "[I", true)
  | 3 => ("MirrorTrue$Knives", "profiles", "[I", true)
  | 4 => ("MirrorTrue$Knives", "firstSecond", "[I", true)
  | 5 => ("MirrorTrue$Knives", "firstThird", "[I", true)
  | 6 => ("MirrorTrue$Knives", "secondThird", "[I", true)
  | 7 => ("MirrorTrue$Knives", "lie", "I", false)
  | 8 => ("MirrorTrue$Knives", "zones", "I", false)
  | 9 => ("MirrorTrue$Knives", "dropped", "I", false)
  | 10 => ("MirrorTrue$Knives", "profiled", "I", false)
  | _ => ("MirrorTrue$Knives", "settled", "Z", false)
def tyX3 : Nat → FieldType := fun k => match k with
  | 0 => .array (.array .int)
  | 1 => .array .int
  | 2 => .array .int
  | 3 => .array .int
  | 4 => .array .int
  | 5 => .array .int
  | 6 => .array .int
  | 7 => .int
  | 8 => .int
  | 9 => .int
  | 10 => .int
  | _ => .boolean
theorem nmX3 : ∀ a, a < 12 → ∀ b, b < 12 → a ≠ b → (TX3 a).2.1 ≠ (TX3 b).2.1 := by decide +kernel
theorem tyX3_ok : ∀ k, k < 12 → parseFieldDescriptor (TX3 k).2.2.1 = some (tyX3 k) := by decide +kernel
abbrev cX3_init : ByteArray := prog_5_method_1_code
def yX3_init : MethodName := ⟨RX3, "<init>", "()V"⟩
abbrev cX3_begin : ByteArray := prog_5_method_2_code
def yX3_begin : MethodName := ⟨RX3, "begin", "(I)V"⟩
abbrev cX3_tellReading : ByteArray := prog_5_method_3_code
def yX3_tellReading : MethodName := ⟨RX3, "tellReading", "(III)I"⟩
abbrev cX3_tellLie : ByteArray := prog_5_method_4_code
def yX3_tellLie : MethodName := ⟨RX3, "tellLie", "(I)I"⟩
abbrev cX3_howManyTold : ByteArray := prog_5_method_5_code
def yX3_howManyTold : MethodName := ⟨RX3, "howManyTold", "()I"⟩
abbrev cX3_howManyDropped : ByteArray := prog_5_method_6_code
def yX3_howManyDropped : MethodName := ⟨RX3, "howManyDropped", "()I"⟩
abbrev cX3_shiftOf : ByteArray := prog_5_method_7_code
def yX3_shiftOf : MethodName := ⟨RX3, "shiftOf", "(I)I"⟩
abbrev cX3_stepOf : ByteArray := prog_5_method_8_code
def yX3_stepOf : MethodName := ⟨RX3, "stepOf", "(I)I"⟩
abbrev cX3_profileOf : ByteArray := prog_5_method_9_code
def yX3_profileOf : MethodName := ⟨RX3, "profileOf", "(I)I"⟩
abbrev cX3_lieOf : ByteArray := prog_5_method_10_code
def yX3_lieOf : MethodName := ⟨RX3, "lieOf", "()I"⟩
abbrev cX3_settle : ByteArray := prog_5_method_11_code
def yX3_settle : MethodName := ⟨RX3, "settle", "()V"⟩
abbrev cX3_settleAgreements : ByteArray := prog_5_method_12_code
def yX3_settleAgreements : MethodName := ⟨RX3, "settleAgreements", "()V"⟩
abbrev cX3_stepsOfAgreement : ByteArray := prog_5_method_13_code
def yX3_stepsOfAgreement : MethodName := ⟨RX3, "stepsOfAgreement", "(III)I"⟩
abbrev cX3_settleShifts : ByteArray := prog_5_method_14_code
def yX3_settleShifts : MethodName := ⟨RX3, "settleShifts", "()V"⟩
abbrev cX3_keptMore : ByteArray := prog_5_method_15_code
def yX3_keptMore : MethodName := ⟨RX3, "keptMore", "(II)I"⟩
abbrev cX3_stepsTold : ByteArray := prog_5_method_16_code
def yX3_stepsTold : MethodName := ⟨RX3, "stepsTold", "()I"⟩
abbrev cX3_leastStep : ByteArray := prog_5_method_17_code
def yX3_leastStep : MethodName := ⟨RX3, "leastStep", "(I)I"⟩
abbrev cX3_servedBy : ByteArray := prog_5_method_18_code
def yX3_servedBy : MethodName := ⟨RX3, "servedBy", "(II)I"⟩
abbrev cX3_settleProfiles : ByteArray := prog_5_method_19_code
def yX3_settleProfiles : MethodName := ⟨RX3, "settleProfiles", "()V"⟩
def RX4 : String := "MirrorTrue$Planner"
def TX4 : u_T := fun k => match k with
  | 0 => ("MirrorTrue$Planner", "bench", "LMirrorTrue$Bench;", true)
  | 1 => ("MirrorTrue$Planner", "costs", "[I", true)
  | 2 => ("MirrorTrue$Planner", "minutes", "[[I", true)
  | 3 => ("MirrorTrue$Planner", "planCosts", "[I", true)
  | 4 => ("MirrorTrue$Planner", "settledAt", "[I", true)
  | 5 => ("MirrorTrue$Planner", "heights", "[I", true)
  | 6 => ("MirrorTrue$Planner", "pulls", "[I", true)
  | 7 => ("MirrorTrue$Planner", "rest", "I", false)
  | _ => ("MirrorTrue$Planner", "zones", "I", false)
def tyX4 : Nat → FieldType := fun k => match k with
  | 0 => .object "MirrorTrue$Bench"
  | 1 => .array .int
  | 2 => .array (.array .int)
  | 3 => .array .int
  | 4 => .array .int
  | 5 => .array .int
  | 6 => .array .int
  | 7 => .int
  | _ => .int
theorem nmX4 : ∀ a, a < 9 → ∀ b, b < 9 → a ≠ b → (TX4 a).2.1 ≠ (TX4 b).2.1 := by decide +kernel
theorem tyX4_ok : ∀ k, k < 9 → parseFieldDescriptor (TX4 k).2.2.1 = some (tyX4 k) := by decide +kernel
abbrev cX4_init : ByteArray := prog_6_method_1_code
def yX4_init : MethodName := ⟨RX4, "<init>", "(LMirrorTrue$Bench;)V"⟩
abbrev cX4_hasPlan : ByteArray := prog_6_method_2_code
def yX4_hasPlan : MethodName := ⟨RX4, "hasPlan", "(I)Z"⟩
abbrev cX4_together : ByteArray := prog_6_method_3_code
def yX4_together : MethodName := ⟨RX4, "together", "(I)I"⟩
abbrev cX4_minutesAt : ByteArray := prog_6_method_4_code
def yX4_minutesAt : MethodName := ⟨RX4, "minutesAt", "(II)I"⟩
abbrev cX4_rightZones : ByteArray := prog_6_method_5_code
def yX4_rightZones : MethodName := ⟨RX4, "rightZones", "(I)I"⟩
abbrev cX4_strokesOf : ByteArray := prog_6_method_6_code
def yX4_strokesOf : MethodName := ⟨RX4, "strokesOf", "(I)I"⟩
abbrev cX4_carryOut : ByteArray := prog_6_method_7_code
def yX4_carryOut : MethodName := ⟨RX4, "carryOut", "(I)V"⟩
abbrev cX4_settle : ByteArray := prog_6_method_8_code
def yX4_settle : MethodName := ⟨RX4, "settle", "(I)V"⟩
abbrev cX4_begin : ByteArray := prog_6_method_9_code
def yX4_begin : MethodName := ⟨RX4, "begin", "(I)V"⟩
abbrev cX4_traceMinutes : ByteArray := prog_6_method_10_code
def yX4_traceMinutes : MethodName := ⟨RX4, "traceMinutes", "([I)V"⟩
abbrev cX4_costFrom : ByteArray := prog_6_method_11_code
def yX4_costFrom : MethodName := ⟨RX4, "costFrom", "(II)I"⟩
abbrev cX4_leastCost : ByteArray := prog_6_method_12_code
def yX4_leastCost : MethodName := ⟨RX4, "leastCost", "(II)I"⟩
abbrev cX4_costWith : ByteArray := prog_6_method_13_code
def yX4_costWith : MethodName := ⟨RX4, "costWith", "(IIII)I"⟩
abbrev cX4_stateBehind : ByteArray := prog_6_method_14_code
def yX4_stateBehind : MethodName := ⟨RX4, "stateBehind", "(II)I"⟩
abbrev cX4_leftAt : ByteArray := prog_6_method_15_code
def yX4_leftAt : MethodName := ⟨RX4, "leftAt", "(II)I"⟩
def RX5 : String := "MirrorTrue$Rings"
def TX5 : u_T := fun k => match k with
  | 0 => ("MirrorTrue$Rings", "bends", "[[I", true)
  | 1 => ("MirrorTrue$Rings", "bent", "[[I", true)
  | 2 => ("MirrorTrue$Rings", "shares", "[I", true)
  | 3 => ("MirrorTrue$Rings", "best", "[I", true)
  | 4 => ("MirrorTrue$Rings", "zones", "I", false)
  | 5 => ("MirrorTrue$Rings", "spread", "I", false)
  | _ => ("MirrorTrue$Rings", "settled", "Z", false)
def tyX5 : Nat → FieldType := fun k => match k with
  | 0 => .array (.array .int)
  | 1 => .array (.array .int)
  | 2 => .array .int
  | 3 => .array .int
  | 4 => .int
  | 5 => .int
  | _ => .boolean
theorem nmX5 : ∀ a, a < 7 → ∀ b, b < 7 → a ≠ b → (TX5 a).2.1 ≠ (TX5 b).2.1 := by decide +kernel
theorem tyX5_ok : ∀ k, k < 7 → parseFieldDescriptor (TX5 k).2.2.1 = some (tyX5 k) := by decide +kernel
abbrev cX5_init : ByteArray := prog_7_method_1_code
def yX5_init : MethodName := ⟨RX5, "<init>", "()V"⟩
abbrev cX5_begin : ByteArray := prog_7_method_2_code
def yX5_begin : MethodName := ⟨RX5, "begin", "(I)V"⟩
abbrev cX5_tellBend : ByteArray := prog_7_method_3_code
def yX5_tellBend : MethodName := ⟨RX5, "tellBend", "(III)I"⟩
abbrev cX5_leastSpread : ByteArray := prog_7_method_4_code
def yX5_leastSpread : MethodName := ⟨RX5, "leastSpread", "()I"⟩
abbrev cX5_shareOf : ByteArray := prog_7_method_5_code
def yX5_shareOf : MethodName := ⟨RX5, "shareOf", "(I)I"⟩
abbrev cX5_settle : ByteArray := prog_7_method_6_code
def yX5_settle : MethodName := ⟨RX5, "settle", "()V"⟩
abbrev cX5_place : ByteArray := prog_7_method_7_code
def yX5_place : MethodName := ⟨RX5, "place", "(III)V"⟩
abbrev cX5_placeShare : ByteArray := prog_7_method_8_code
def yX5_placeShare : MethodName := ⟨RX5, "placeShare", "(IIII)V"⟩
abbrev cX5_keepIfBetter : ByteArray := prog_7_method_9_code
def yX5_keepIfBetter : MethodName := ⟨RX5, "keepIfBetter", "(II)V"⟩
abbrev cX5_spreadOf : ByteArray := prog_7_method_10_code
def yX5_spreadOf : MethodName := ⟨RX5, "spreadOf", "([I)I"⟩
def RX6 : String := "MirrorTrue$Shells"
def TX6 : u_T := fun k => match k with
  | 0 => ("MirrorTrue$Shells", "shells", "[I", true)
  | 1 => ("MirrorTrue$Shells", "tried", "[I", true)
  | _ => ("MirrorTrue$Shells", "air", "I", false)
def tyX6 : Nat → FieldType := fun k => match k with
  | 0 => .array .int
  | 1 => .array .int
  | _ => .int
theorem nmX6 : ∀ a, a < 3 → ∀ b, b < 3 → a ≠ b → (TX6 a).2.1 ≠ (TX6 b).2.1 := by decide +kernel
theorem tyX6_ok : ∀ k, k < 3 → parseFieldDescriptor (TX6 k).2.2.1 = some (tyX6 k) := by decide +kernel
abbrev cX6_init : ByteArray := prog_8_method_1_code
def yX6_init : MethodName := ⟨RX6, "<init>", "()V"⟩
abbrev cX6_tellWarmth : ByteArray := prog_8_method_2_code
def yX6_tellWarmth : MethodName := ⟨RX6, "tellWarmth", "(II)I"⟩
abbrev cX6_warmthOf : ByteArray := prog_8_method_3_code
def yX6_warmthOf : MethodName := ⟨RX6, "warmthOf", "(I)I"⟩
abbrev cX6_letGoBy : ByteArray := prog_8_method_4_code
def yX6_letGoBy : MethodName := ⟨RX6, "letGoBy", "(I)I"⟩
abbrev cX6_minutesTillStill : ByteArray := prog_8_method_5_code
def yX6_minutesTillStill : MethodName := ⟨RX6, "minutesTillStill", "(I)I"⟩
abbrev cX6_goOneMinute : ByteArray := prog_8_method_6_code
def yX6_goOneMinute : MethodName := ⟨RX6, "goOneMinute", "([I)Z"⟩
abbrev cX6_greatest : ByteArray := prog_8_method_7_code
def yX6_greatest : MethodName := ⟨RX6, "greatest", "([II)I"⟩
abbrev cX6_least : ByteArray := prog_8_method_8_code
def yX6_least : MethodName := ⟨RX6, "least", "([II)I"⟩
def RX7 : String := "MirrorTrue$Wires"
def TX7 : u_T := fun k => match k with
  | 0 => ("MirrorTrue$Wires", "knives", "LMirrorTrue$Knives;", true)
  | 1 => ("MirrorTrue$Wires", "from", "[I", true)
  | 2 => ("MirrorTrue$Wires", "to", "[I", true)
  | 3 => ("MirrorTrue$Wires", "told", "[I", true)
  | _ => ("MirrorTrue$Wires", "many", "I", false)
def tyX7 : Nat → FieldType := fun k => match k with
  | 0 => .object "MirrorTrue$Knives"
  | 1 => .array .int
  | 2 => .array .int
  | 3 => .array .int
  | _ => .int
theorem nmX7 : ∀ a, a < 5 → ∀ b, b < 5 → a ≠ b → (TX7 a).2.1 ≠ (TX7 b).2.1 := by decide +kernel
theorem tyX7_ok : ∀ k, k < 5 → parseFieldDescriptor (TX7 k).2.2.1 = some (tyX7 k) := by decide +kernel
abbrev cX7_init : ByteArray := prog_9_method_1_code
def yX7_init : MethodName := ⟨RX7, "<init>", "(LMirrorTrue$Knives;)V"⟩
abbrev cX7_begin : ByteArray := prog_9_method_2_code
def yX7_begin : MethodName := ⟨RX7, "begin", "()V"⟩
abbrev cX7_howMany : ByteArray := prog_9_method_3_code
def yX7_howMany : MethodName := ⟨RX7, "howMany", "()I"⟩
abbrev cX7_hold : ByteArray := prog_9_method_4_code
def yX7_hold : MethodName := ⟨RX7, "hold", "(III)I"⟩
abbrev cX7_howManyOf : ByteArray := prog_9_method_5_code
def yX7_howManyOf : MethodName := ⟨RX7, "howManyOf", "(I)I"⟩
abbrev cX7_offBy : ByteArray := prog_9_method_6_code
def yX7_offBy : MethodName := ⟨RX7, "offBy", "(I)I"⟩
def RX8 : String := "MirrorTrue"
def TX8 : u_T := fun k => match k with
  | 0 => ("MirrorTrue", "curve", "LMirrorTrue$Curve;", true)
  | 1 => ("MirrorTrue", "knives", "LMirrorTrue$Knives;", true)
  | 2 => ("MirrorTrue", "held", "LMirrorTrue$Wires;", true)
  | 3 => ("MirrorTrue", "bench", "LMirrorTrue$Bench;", true)
  | 4 => ("MirrorTrue", "planner", "LMirrorTrue$Planner;", true)
  | 5 => ("MirrorTrue", "pads", "LMirrorTrue$Rings;", true)
  | 6 => ("MirrorTrue", "glass", "LMirrorTrue$Shells;", true)
  | 7 => ("MirrorTrue", "grits", "LMirrorTrue$Grits;", true)
  | _ => ("MirrorTrue", "zones", "I", false)
def tyX8 : Nat → FieldType := fun k => match k with
  | 0 => .object "MirrorTrue$Curve"
  | 1 => .object "MirrorTrue$Knives"
  | 2 => .object "MirrorTrue$Wires"
  | 3 => .object "MirrorTrue$Bench"
  | 4 => .object "MirrorTrue$Planner"
  | 5 => .object "MirrorTrue$Rings"
  | 6 => .object "MirrorTrue$Shells"
  | 7 => .object "MirrorTrue$Grits"
  | _ => .int
theorem nmX8 : ∀ a, a < 9 → ∀ b, b < 9 → a ≠ b → (TX8 a).2.1 ≠ (TX8 b).2.1 := by decide +kernel
theorem tyX8_ok : ∀ k, k < 9 → parseFieldDescriptor (TX8 k).2.2.1 = some (tyX8 k) := by decide +kernel
abbrev cX8_init : ByteArray := prog_1_method_1_code
def yX8_init : MethodName := ⟨RX8, "<init>", "()V"⟩
abbrev cX8_disc : ByteArray := prog_1_method_2_code
def yX8_disc : MethodName := ⟨RX8, "disc", "(I)I"⟩
abbrev cX8_aim : ByteArray := prog_1_method_3_code
def yX8_aim : MethodName := ⟨RX8, "aim", "(III)I"⟩
abbrev cX8_depth : ByteArray := prog_1_method_4_code
def yX8_depth : MethodName := ⟨RX8, "depth", "(II)J"⟩
abbrev cX8_height : ByteArray := prog_1_method_5_code
def yX8_height : MethodName := ⟨RX8, "height", "(II)I"⟩
abbrev cX8_at : ByteArray := prog_1_method_6_code
def yX8_at : MethodName := ⟨RX8, "at", "(I)I"⟩
abbrev cX8_read : ByteArray := prog_1_method_7_code
def yX8_read : MethodName := ⟨RX8, "read", "(III)I"⟩
abbrev cX8_lie : ByteArray := prog_1_method_8_code
def yX8_lie : MethodName := ⟨RX8, "lie", "(I)I"⟩
abbrev cX8_joined : ByteArray := prog_1_method_9_code
def yX8_joined : MethodName := ⟨RX8, "joined", "(I)I"⟩
abbrev cX8_step : ByteArray := prog_1_method_10_code
def yX8_step : MethodName := ⟨RX8, "step", "(I)I"⟩
abbrev cX8_profile : ByteArray := prog_1_method_11_code
def yX8_profile : MethodName := ⟨RX8, "profile", "(I)I"⟩
abbrev cX8_wire : ByteArray := prog_1_method_12_code
def yX8_wire : MethodName := ⟨RX8, "wire", "(III)I"⟩
abbrev cX8_wires : ByteArray := prog_1_method_13_code
def yX8_wires : MethodName := ⟨RX8, "wires", "(I)I"⟩
abbrev cX8_pull : ByteArray := prog_1_method_14_code
def yX8_pull : MethodName := ⟨RX8, "pull", "(III)I"⟩
abbrev cX8_rest : ByteArray := prog_1_method_15_code
def yX8_rest : MethodName := ⟨RX8, "rest", "(I)I"⟩
abbrev cX8_stroke : ByteArray := prog_1_method_16_code
def yX8_stroke : MethodName := ⟨RX8, "stroke", "(III)I"⟩
abbrev cX8_undo : ByteArray := prog_1_method_17_code
def yX8_undo : MethodName := ⟨RX8, "undo", "()I"⟩
abbrev cX8_replay : ByteArray := prog_1_method_18_code
def yX8_replay : MethodName := ⟨RX8, "replay", "(II)I"⟩
abbrev cX8_plan : ByteArray := prog_1_method_19_code
def yX8_plan : MethodName := ⟨RX8, "plan", "(II)I"⟩
abbrev cX8_right : ByteArray := prog_1_method_20_code
def yX8_right : MethodName := ⟨RX8, "right", "(I)I"⟩
abbrev cX8_work : ByteArray := prog_1_method_21_code
def yX8_work : MethodName := ⟨RX8, "work", "(I)I"⟩
abbrev cX8_bend : ByteArray := prog_1_method_22_code
def yX8_bend : MethodName := ⟨RX8, "bend", "(III)I"⟩
abbrev cX8_bear : ByteArray := prog_1_method_23_code
def yX8_bear : MethodName := ⟨RX8, "bear", "(I)I"⟩
abbrev cX8_warm : ByteArray := prog_1_method_24_code
def yX8_warm : MethodName := ⟨RX8, "warm", "(II)I"⟩
abbrev cX8_cool : ByteArray := prog_1_method_25_code
def yX8_cool : MethodName := ⟨RX8, "cool", "(I)I"⟩
abbrev cX8_still : ByteArray := prog_1_method_26_code
def yX8_still : MethodName := ⟨RX8, "still", "(I)I"⟩
abbrev cX8_warmth : ByteArray := prog_1_method_27_code
def yX8_warmth : MethodName := ⟨RX8, "warmth", "(I)I"⟩
abbrev cX8_grit : ByteArray := prog_1_method_28_code
def yX8_grit : MethodName := ⟨RX8, "grit", "(II)I"⟩
abbrev cX8_slack : ByteArray := prog_1_method_29_code
def yX8_slack : MethodName := ⟨RX8, "slack", "(I)I"⟩
abbrev cX8_wets : ByteArray := prog_1_method_30_code
def yX8_wets : MethodName := ⟨RX8, "wets", "(II)I"⟩
abbrev cX8_count : ByteArray := prog_1_method_31_code
def yX8_count : MethodName := ⟨RX8, "count", "(I)I"⟩
abbrev cX8_within : ByteArray := prog_1_method_32_code
def yX8_within : MethodName := ⟨RX8, "within", "(III)Z"⟩
abbrev cX8_isTool : ByteArray := prog_1_method_33_code
def yX8_isTool : MethodName := ⟨RX8, "isTool", "(I)Z"⟩
abbrev cX8_isZone : ByteArray := prog_1_method_34_code
def yX8_isZone : MethodName := ⟨RX8, "isZone", "(I)Z"⟩
abbrev cX8_isStep : ByteArray := prog_1_method_35_code
def yX8_isStep : MethodName := ⟨RX8, "isStep", "(I)Z"⟩
def RX9 : String := "MirrorTrueModel"
def TX9 : u_T := fun k => match k with
  | 0 => ("MirrorTrueModel", "n", "I", false)
  | 1 => ("MirrorTrueModel", "heights", "[I", true)
  | 2 => ("MirrorTrueModel", "base", "[I", true)
  | 3 => ("MirrorTrueModel", "radius", "I", false)
  | 4 => ("MirrorTrueModel", "upper", "I", false)
  | 5 => ("MirrorTrueModel", "lowerPart", "I", false)
  | 6 => ("MirrorTrueModel", "readings", "[I", true)
  | 7 => ("MirrorTrueModel", "lie", "I", false)
  | 8 => ("MirrorTrueModel", "wires", "I", false)
  | 9 => ("MirrorTrueModel", "wireI", "[I", true)
  | 10 => ("MirrorTrueModel", "wireJ", "[I", true)
  | 11 => ("MirrorTrueModel", "wireV", "[I", true)
  | 12 => ("MirrorTrueModel", "pulls", "[I", true)
  | 13 => ("MirrorTrueModel", "rest", "I", false)
  | 14 => ("MirrorTrueModel", "strokes", "I", false)
  | 15 => ("MirrorTrueModel", "strokeTool", "[I", true)
  | 16 => ("MirrorTrueModel", "strokeZone", "[I", true)
  | 17 => ("MirrorTrueModel", "strokeMinutes", "[I", true)
  | 18 => ("MirrorTrueModel", "took", "[I", true)
  | 19 => ("MirrorTrueModel", "bends", "[I", true)
  | 20 => ("MirrorTrueModel", "shells", "[I", true)
  | 21 => ("MirrorTrueModel", "grits", "I", false)
  | 22 => ("MirrorTrueModel", "takes", "[I", true)
  | 23 => ("MirrorTrueModel", "pits", "[I", true)
  | 24 => ("MirrorTrueModel", "slack", "I", false)
  | 25 => ("MirrorTrueModel", "shift", "[I", true)
  | 26 => ("MirrorTrueModel", "best", "[I", true)
  | 27 => ("MirrorTrueModel", "found", "I", false)
  | 28 => ("MirrorTrueModel", "cost", "[I", true)
  | 29 => ("MirrorTrueModel", "minutes", "[I", true)
  | 30 => ("MirrorTrueModel", "can", "[Z", true)
  | 31 => ("MirrorTrueModel", "share", "[I", true)
  | 32 => ("MirrorTrueModel", "bestShare", "[I", true)
  | 33 => ("MirrorTrueModel", "spread", "I", false)
  | 34 => ("MirrorTrueModel", "before", "[I", true)
  | 35 => ("MirrorTrueModel", "aside", "[I", true)
  | _ => ("MirrorTrueModel", "fewest", "[I", true)
def tyX9 : Nat → FieldType := fun k => match k with
  | 0 => .int
  | 1 => .array .int
  | 2 => .array .int
  | 3 => .int
  | 4 => .int
  | 5 => .int
  | 6 => .array .int
  | 7 => .int
  | 8 => .int
  | 9 => .array .int
  | 10 => .array .int
  | 11 => .array .int
  | 12 => .array .int
  | 13 => .int
  | 14 => .int
  | 15 => .array .int
  | 16 => .array .int
  | 17 => .array .int
  | 18 => .array .int
  | 19 => .array .int
  | 20 => .array .int
  | 21 => .int
  | 22 => .array .int
  | 23 => .array .int
  | 24 => .int
  | 25 => .array .int
  | 26 => .array .int
  | 27 => .int
  | 28 => .array .int
  | 29 => .array .int
  | 30 => .array .boolean
  | 31 => .array .int
  | 32 => .array .int
  | 33 => .int
  | 34 => .array .int
  | 35 => .array .int
  | _ => .array .int
theorem nmX9 : ∀ a, a < 37 → ∀ b, b < 37 → a ≠ b → (TX9 a).2.1 ≠ (TX9 b).2.1 := by decide +kernel
theorem tyX9_ok : ∀ k, k < 37 → parseFieldDescriptor (TX9 k).2.2.1 = some (tyX9 k) := by decide +kernel
abbrev cX9_init : ByteArray := prog_11_method_1_code
def yX9_init : MethodName := ⟨RX9, "<init>", "()V"⟩
abbrev cX9_in : ByteArray := prog_11_method_2_code
def yX9_in : MethodName := ⟨RX9, "in", "(III)Z"⟩
abbrev cX9_size : ByteArray := prog_11_method_3_code
def yX9_size : MethodName := ⟨RX9, "size", "(I)I"⟩
abbrev cX9_begins : ByteArray := prog_11_method_4_code
def yX9_begins : MethodName := ⟨RX9, "begins", "(I)V"⟩
abbrev cX9_disc : ByteArray := prog_11_method_5_code
def yX9_disc : MethodName := ⟨RX9, "disc", "(I)I"⟩
abbrev cX9_aim : ByteArray := prog_11_method_6_code
def yX9_aim : MethodName := ⟨RX9, "aim", "(III)I"⟩
abbrev cX9_common : ByteArray := prog_11_method_7_code
def yX9_common : MethodName := ⟨RX9, "common", "(JJ)J"⟩
abbrev cX9_depth : ByteArray := prog_11_method_8_code
def yX9_depth : MethodName := ⟨RX9, "depth", "(II)J"⟩
abbrev cX9_isZone : ByteArray := prog_11_method_9_code
def yX9_isZone : MethodName := ⟨RX9, "isZone", "(I)Z"⟩
abbrev cX9_height : ByteArray := prog_11_method_10_code
def yX9_height : MethodName := ⟨RX9, "height", "(II)I"⟩
abbrev cX9_at : ByteArray := prog_11_method_11_code
def yX9_at : MethodName := ⟨RX9, "at", "(I)I"⟩
abbrev cX9_read : ByteArray := prog_11_method_12_code
def yX9_read : MethodName := ⟨RX9, "read", "(III)I"⟩
abbrev cX9_lie : ByteArray := prog_11_method_13_code
def yX9_lie : MethodName := ⟨RX9, "lie", "(I)I"⟩
abbrev cX9_isRead : ByteArray := prog_11_method_14_code
def yX9_isRead : MethodName := ⟨RX9, "isRead", "(II)Z"⟩
abbrev cX9_shifted : ByteArray := prog_11_method_15_code
def yX9_shifted : MethodName := ⟨RX9, "shifted", "(II)I"⟩
abbrev cX9_holds : ByteArray := prog_11_method_16_code
def yX9_holds : MethodName := ⟨RX9, "holds", "(II)I"⟩
abbrev cX9_dropped : ByteArray := prog_11_method_17_code
def yX9_dropped : MethodName := ⟨RX9, "dropped", "(I)I"⟩
abbrev cX9_joins : ByteArray := prog_11_method_18_code
def yX9_joins : MethodName := ⟨RX9, "joins", "()I"⟩
abbrev cX9_joined : ByteArray := prog_11_method_19_code
def yX9_joined : MethodName := ⟨RX9, "joined", "(I)I"⟩
abbrev cX9_step : ByteArray := prog_11_method_20_code
def yX9_step : MethodName := ⟨RX9, "step", "(I)I"⟩
abbrev cX9_profileOf : ByteArray := prog_11_method_21_code
def yX9_profileOf : MethodName := ⟨RX9, "profileOf", "(I)I"⟩
abbrev cX9_profile : ByteArray := prog_11_method_22_code
def yX9_profile : MethodName := ⟨RX9, "profile", "(I)I"⟩
abbrev cX9_wire : ByteArray := prog_11_method_23_code
def yX9_wire : MethodName := ⟨RX9, "wire", "(III)I"⟩
abbrev cX9_offOf : ByteArray := prog_11_method_24_code
def yX9_offOf : MethodName := ⟨RX9, "offOf", "(I)I"⟩
abbrev cX9_wires : ByteArray := prog_11_method_25_code
def yX9_wires : MethodName := ⟨RX9, "wires", "(I)I"⟩
abbrev cX9_pull : ByteArray := prog_11_method_26_code
def yX9_pull : MethodName := ⟨RX9, "pull", "(III)I"⟩
abbrev cX9_rest : ByteArray := prog_11_method_27_code
def yX9_rest : MethodName := ⟨RX9, "rest", "(I)I"⟩
abbrev cX9_pullOf : ByteArray := prog_11_method_28_code
def yX9_pullOf : MethodName := ⟨RX9, "pullOf", "(II)I"⟩
abbrev cX9_lays : ByteArray := prog_11_method_29_code
def yX9_lays : MethodName := ⟨RX9, "lays", "(III)V"⟩
abbrev cX9_stroke : ByteArray := prog_11_method_30_code
def yX9_stroke : MethodName := ⟨RX9, "stroke", "(III)I"⟩
abbrev cX9_undo : ByteArray := prog_11_method_31_code
def yX9_undo : MethodName := ⟨RX9, "undo", "()I"⟩
abbrev cX9_replay : ByteArray := prog_11_method_32_code
def yX9_replay : MethodName := ⟨RX9, "replay", "(II)I"⟩
abbrev cX9_back : ByteArray := prog_11_method_33_code
def yX9_back : MethodName := ⟨RX9, "back", "(II)I"⟩
abbrev cX9_isRight : ByteArray := prog_11_method_34_code
def yX9_isRight : MethodName := ⟨RX9, "isRight", "(IIII)Z"⟩
abbrev cX9_next : ByteArray := prog_11_method_35_code
def yX9_next : MethodName := ⟨RX9, "next", "(II)I"⟩
abbrev cX9_most : ByteArray := prog_11_method_36_code
def yX9_most : MethodName := ⟨RX9, "most", "(I)I"⟩
abbrev cX9_costs : ByteArray := prog_11_method_37_code
def yX9_costs : MethodName := ⟨RX9, "costs", "(I)V"⟩
abbrev cX9_plans : ByteArray := prog_11_method_38_code
def yX9_plans : MethodName := ⟨RX9, "plans", "(I)I"⟩
abbrev cX9_plan : ByteArray := prog_11_method_39_code
def yX9_plan : MethodName := ⟨RX9, "plan", "(II)I"⟩
abbrev cX9_right : ByteArray := prog_11_method_40_code
def yX9_right : MethodName := ⟨RX9, "right", "(I)I"⟩
abbrev cX9_work : ByteArray := prog_11_method_41_code
def yX9_work : MethodName := ⟨RX9, "work", "(I)I"⟩
abbrev cX9_bend : ByteArray := prog_11_method_42_code
def yX9_bend : MethodName := ⟨RX9, "bend", "(III)I"⟩
abbrev cX9_spreads : ByteArray := prog_11_method_43_code
def yX9_spreads : MethodName := ⟨RX9, "spreads", "()V"⟩
abbrev cX9_bear : ByteArray := prog_11_method_44_code
def yX9_bear : MethodName := ⟨RX9, "bear", "(I)I"⟩
abbrev cX9_warm : ByteArray := prog_11_method_45_code
def yX9_warm : MethodName := ⟨RX9, "warm", "(II)I"⟩
abbrev cX9_down : ByteArray := prog_11_method_46_code
def yX9_down : MethodName := ⟨RX9, "down", "(II)I"⟩
abbrev cX9_passes : ByteArray := prog_11_method_47_code
def yX9_passes : MethodName := ⟨RX9, "passes", "()V"⟩
abbrev cX9_apart : ByteArray := prog_11_method_48_code
def yX9_apart : MethodName := ⟨RX9, "apart", "(I)I"⟩
abbrev cX9_cool : ByteArray := prog_11_method_49_code
def yX9_cool : MethodName := ⟨RX9, "cool", "(I)I"⟩
abbrev cX9_still : ByteArray := prog_11_method_50_code
def yX9_still : MethodName := ⟨RX9, "still", "(I)I"⟩
abbrev cX9_warmth : ByteArray := prog_11_method_51_code
def yX9_warmth : MethodName := ⟨RX9, "warmth", "(I)I"⟩
abbrev cX9_grit : ByteArray := prog_11_method_52_code
def yX9_grit : MethodName := ⟨RX9, "grit", "(II)I"⟩
abbrev cX9_slack : ByteArray := prog_11_method_53_code
def yX9_slack : MethodName := ⟨RX9, "slack", "(I)I"⟩
abbrev cX9_cell : ByteArray := prog_11_method_54_code
def yX9_cell : MethodName := ⟨RX9, "cell", "(III)I"⟩
abbrev cX9_with : ByteArray := prog_11_method_55_code
def yX9_with : MethodName := ⟨RX9, "with", "(IIIII)I"⟩
abbrev cX9_wetsBy : ByteArray := prog_11_method_56_code
def yX9_wetsBy : MethodName := ⟨RX9, "wetsBy", "(I)V"⟩
abbrev cX9_wets : ByteArray := prog_11_method_57_code
def yX9_wets : MethodName := ⟨RX9, "wets", "(II)I"⟩
abbrev cX9_count : ByteArray := prog_11_method_58_code
def yX9_count : MethodName := ⟨RX9, "count", "(I)I"⟩
def RJ6 : String := "java/lang/Integer"
def TJ6 : u_T := fun k => match k with
  | _ => ("", "", "", false)
def tyJ6 : Nat → FieldType := fun k => match k with
  | _ => .int
theorem nmJ6 : ∀ a, a < 0 → ∀ b, b < 0 → a ≠ b → (TJ6 a).2.1 ≠ (TJ6 b).2.1 := by decide +kernel
theorem tyJ6_ok : ∀ k, k < 0 → parseFieldDescriptor (TJ6 k).2.2.1 = some (tyJ6 k) := by decide +kernel
abbrev cJ6_bitCount_0f7a4 : ByteArray := prog_12_method_49_code
def yJ6_bitCount_0f7a4 : MethodName := ⟨RJ6, "bitCount", "(I)I"⟩
def RJ9 : String := "java/lang/Math"
def TJ9 : u_T := fun k => match k with
  | _ => ("", "", "", false)
def tyJ9 : Nat → FieldType := fun k => match k with
  | _ => .int
theorem nmJ9 : ∀ a, a < 0 → ∀ b, b < 0 → a ≠ b → (TJ9 a).2.1 ≠ (TJ9 b).2.1 := by decide +kernel
theorem tyJ9_ok : ∀ k, k < 0 → parseFieldDescriptor (TJ9 k).2.2.1 = some (tyJ9 k) := by decide +kernel
abbrev cJ9_floorDiv_7cf53 : ByteArray := prog_13_method_47_code
def yJ9_floorDiv_7cf53 : MethodName := ⟨RJ9, "floorDiv", "(II)I"⟩
abbrev cJ9_abs_0f7a4 : ByteArray := prog_13_method_59_code
def yJ9_abs_0f7a4 : MethodName := ⟨RJ9, "abs", "(I)I"⟩
abbrev cJ9_abs_067f4 : ByteArray := prog_13_method_61_code
def yJ9_abs_067f4 : MethodName := ⟨RJ9, "abs", "(J)J"⟩
abbrev cJ9_max_7cf53 : ByteArray := prog_13_method_65_code
def yJ9_max_7cf53 : MethodName := ⟨RJ9, "max", "(II)I"⟩
abbrev cJ9_min_7cf53 : ByteArray := prog_13_method_69_code
def yJ9_min_7cf53 : MethodName := ⟨RJ9, "min", "(II)I"⟩
def RJ10 : String := "java/lang/System"
def TJ10 : u_T := fun k => match k with
  | _ => ("", "", "", false)
def tyJ10 : Nat → FieldType := fun k => match k with
  | _ => .int
theorem nmJ10 : ∀ a, a < 0 → ∀ b, b < 0 → a ≠ b → (TJ10 a).2.1 ≠ (TJ10 b).2.1 := by decide +kernel
theorem tyJ10_ok : ∀ k, k < 0 → parseFieldDescriptor (TJ10 k).2.2.1 = some (tyJ10 k) := by decide +kernel
def RJ7 : String := "java/util/Arrays"
def TJ7 : u_T := fun k => match k with
  | _ => ("", "", "", false)
def tyJ7 : Nat → FieldType := fun k => match k with
  | _ => .int
theorem nmJ7 : ∀ a, a < 0 → ∀ b, b < 0 → a ≠ b → (TJ7 a).2.1 ≠ (TJ7 b).2.1 := by decide +kernel
theorem tyJ7_ok : ∀ k, k < 0 → parseFieldDescriptor (TJ7 k).2.2.1 = some (tyJ7 k) := by decide +kernel
abbrev cJ7_fill_53178 : ByteArray := prog_15_method_103_code
def yJ7_fill_53178 : MethodName := ⟨RJ7, "fill", "([II)V"⟩
def RL : String := "MirrorTrueLaw"
abbrev cL_law : ByteArray := code
abbrev vwCl : List vw_C := [(RX0, TX0, 11), (RX1, TX1, 3), (RX2, TX2, 6), (RX3, TX3, 12), (RX4, TX4, 9), (RX5, TX5, 7), (RX6, TX6, 3), (RX7, TX7, 5), (RX8, TX8, 9), (RX9, TX9, 37)]
end
section
/-! the small machine: cells by number; a reference is the number of its cell, the script is null -/
abbrev zM : Type := Nat → Nat → Int32
abbrev zR : Type := Nat → Nat → Option Nat
abbrev zS : Type := Nat × zR × zM
abbrev zX : Type := Nat × Nat × va_G × ClassId × ClassId × ClassId
abbrev zMt : Type := MethodName × ByteArray × Nat × Option FieldType × Nat × Nat
def zKl : List (Nat × Nat) := [(8, 0), (1, 0), (3, 0), (12, 3), (10, 15), (10, 15), (10, 15), (10, 3), (10, 15), (10, 16), (10, 41), (10, 41), (10, 81), (7, 0), (10, 12), (10, 12), (10, 12), (0, 0), (10, 16), (10, 16), (12, 3), (10, 5), (10, 5), (10, 5), (10, 60), (10, 60), (10, 60), (12, 60), (10, 5), (10, 5), (10, 5), (10, 5), (10, 5), (10, 5), (10, 5), (10, 5), (10, 5), (10, 5), (10, 5), (10, 5), (10, 5), (10, 5), (10, 5), (10, 5), (10, 5), (10, 5), (10, 5), (10, 5), (10, 5), (10, 5), (10, 5), (10, 5), (10, 5), (10, 5), (10, 5), (10, 5), (10, 5), (10, 5), (10, 5), (10, 5), (10, 5), (10, 5), (10, 5), (10, 5), (10, 5), (10, 5), (10, 5), (10, 5), (10, 5), (10, 5), (10, 5), (10, 5), (10, 5), (10, 5), (10, 5), (10, 5), (10, 5), (10, 5), (10, 5), (10, 5), (10, 5), (10, 5), (10, 5), (10, 5), (10, 5), (10, 5), (10, 5), (10, 5), (4, 0), (10, 23328), (12, 3), (10, 16), (10, 16), (10, 16), (10, 3), (10, 3), (10, 16), (10, 5), (5, 0), (12, 7), (10, 16), (10, 16), (10, 16), (10, 16), (10, 16), (10, 16), (10, 16), (12, 4), (10, 16), (10, 16), (10, 16), (10, 16), (10, 6), (10, 6), (6, 0), (10, 8), (10, 8), (2, 0), (10, 6), (10, 6), (12, 7), (10, 2101), (10, 2101), (10, 2101), (10, 2101), (10, 2101), (10, 2101), (10, 2101), (9, 0), (10, 16), (10, 16), (10, 45), (10, 12), (10, 12), (10, 12), (10, 15), (10, 60), (10, 60), (10, 60), (10, 300), (10, 112), (10, 9), (10, 6), (10, 6), (10, 3), (10, 3), (10, 24624), (10, 16), (11, 2592), (10, 6), (10, 6), (10, 10), (10, 9), (10, 102949)]
def zK (k : Nat) : Nat × Nat := zKl.getD k (14, 0)
def zNl : List Nat := [11, 3, 6, 12, 9, 7, 3, 5, 9, 37]
def zN (c : Nat) : Nat := zNl.getD c 0
def zIl : List (List Bool) := [[true, true, true, true, true, true, true, false, false, false, false], [false, false, false], [true, true, true, false, false, false], [true, true, true, true, true, true, true, false, false, false, false, false], [true, true, true, true, true, true, true, false, false], [true, true, true, true, false, false, false], [true, true, false], [true, true, true, true, false], [true, true, true, true, true, true, true, true, false], [false, true, true, false, false, false, true, false, false, true, true, true, true, false, false, true, true, true, true, true, true, false, true, true, false, true, true, false, true, true, true, true, true, false, true, true, true]]
def zIR (c j : Nat) : Bool := (zIl.getD c []).getD j false
def zSz (k : Nat) : Nat := if (zK k).1 < 10 then zN (zK k).1 else (zK k).2
def zSum : Nat → Nat
  | 0 => 0
  | n + 1 => zSum n + zSz n
def zRl : List (Nat × List (Option Nat)) := [(0, [some 1, some 2, some 13, some 17, some 88, some 98, some 114, some 117, none]), (1, [none, none, none]), (2, [some 3, some 7, some 8, some 9, some 10, some 11, some 12, none, none, none, none, none]), (13, [some 2, some 14, some 15, some 16, none]), (17, [some 18, some 19, some 20, some 24, some 25, some 26, some 27, none, none, none, none]), (88, [some 17, some 89, some 90, some 94, some 95, some 96, some 97, none, none]), (98, [some 99, some 107, some 112, some 113, none, none, none]), (114, [some 115, some 116, none]), (117, [some 118, some 119, some 120, none, none, none]), (128, [none, some 129, some 130, none, none, none, some 131, none, none, some 132, some 133, some 134, some 135, none, none, some 136, some 137, some 138, some 139, some 140, some 141, none, some 142, some 143, none, some 144, some 145, none, some 146, some 147, some 148, some 149, some 150, none, some 151, some 152, some 153])]
/-- the references once all is made -/
def zRF : zR := fun k i => if k < 154 then (if (zK k).1 = 12 then (if i < (zK k).2 then some (k + 1 + i) else none) else ((zRl.lookup k).getD []).getD i none) else none

def zV (X : zX) (v : Value) : Value := match v with
  | .ref k => .ref (X.2.1 + k)
  | .null => .ref X.1
  | v => v
def zFs (X : zX) (rf : zR) (mm : zM) (c k : Nat) : List Value := (List.range (zN c)).map (fun j => if zIR c j then va_rf ((rf k j).map (fun t => X.2.1 + t)) else .int (mm k j))
def zE (X : zX) (rf : zR) (mm : zM) (k : Nat) : va_E :=
  if (zK k).1 < 10 then .inr ((zK k).1, zFs X rf mm (zK k).1 k)
  else if (zK k).1 = 10 then .inl (X.2.2.2.1, (zK k).2, .inl (mm k))
  else if (zK k).1 = 11 then .inl (X.2.2.2.2.2, (zK k).2, .inl (mm k))
  else .inl (X.2.2.2.2.1, (zK k).2, .inr (.inr (.inr (.inr (fun i => (rf k i).map (fun t => X.2.1 + t))))))
def zWs (X : zX) (σ : zS) : va_W := (List.range σ.1).map (fun k => (X.2.1 + k, zE X σ.2.1 σ.2.2 k))
def zAp (X : zX) : Nat → Prop := fun q => X.2.1 ≤ q
def zWX (X : zX) (s : State) (σ : zS) (H : Heap) : Prop := H.size = X.2.1 + σ.1 ∧ σ.1 ≤ 154 ∧ X.1 < X.2.1 ∧ va_P X.2.2.1 vwCl (zWs X σ) H ∧ va_X X.1 ((σ.2.1 154 0).getD 0) (σ.2.2 154) s H
def zT : List Cond := lw_tbl.filter goodWord
def zNest : List Cond := [.methodLinkNest RX8 11 yX1_init RX8, .methodLinkNest RX8 34 yX0_init RX8, .methodLinkNest RX8 50 yX5_init RX8, .methodLinkNest RX8 57 yX6_init RX8, .methodLinkNest RX8 64 yX2_init RX8, .methodLinkNest RX0 63 yX8_within RX8]
def zNw (s : State) : Prop := (∀ w ∈ zNest, va_Nw w s) ∧ (Cond.arrayOver (.array .int)).before #[] s = true
def zTy (X : zX) : List (ClassId × FieldType) := [(X.2.2.2.1, .int), (X.2.2.2.2.1, .array .int), (X.2.2.2.2.2, .boolean)]
def zcc (M : zMt) (n : Nat) : Nat := if M.2.2.2.2.2 = 0 then 0 else n - M.2.2.2.2.1
def zss (M : zMt) (n : Nat) : Nat := if M.2.2.2.2.2 = 0 then 0 else zSum n - zSum M.2.2.2.2.1
def zRm (d : Nat) (M : zMt) : Room := { frames := d, cells := zcc M M.2.2.2.2.2, slots := zss M M.2.2.2.2.2, locals := 40 * d }
def zWd (M : zMt) : List Cond := Cond.code M.1 M.2.1 M.2.2.1 M.2.2.2.1 :: zT
def zPairs (X : zX) (L : List (Option Value)) : List (Nat × Value) := (List.range L.length).filterMap (fun i => (L[i]?.join).map (fun v => (i, zV X v)))
def zL (X : zX) (ls : Array Slot) (nL : Nat) (L : List (Option Value)) : Prop := lv_has ls nL (zPairs X L)
def zC (X : zX) (d : Nat) (M : zMt) (p : Program) (R : Room) (s : State) (m : MethodId) (args : Array Value) (meth : Method) (c : Code) : Prop :=
  p.tables.exec = Jvm.exec ∧ c.code = M.2.1 ∧ c.maxLocals = M.2.2.1 ∧ s.vm.findClass M.1.cls = some m.cls ∧ (∀ w ∈ zT, w.before args s = true) ∧ meth.sig.returnType = M.2.2.2.1 ∧ meth.locks = false ∧ va_K X.2.2.1 vwCl (zTy X) s ∧ zNw s ∧ meth.name = M.1.name ∧ d ≤ R.frames ∧ 40 * d ≤ R.locals ∧ zcc M M.2.2.2.2.2 ≤ R.cells ∧ zss M M.2.2.2.2.2 ≤ R.slots
def zRet (M : zMt) (pc : Nat) (r : List Value) : Prop := match r with
  | [] => decode M.2.1 pc = .ok (.return_, 1) ∧ M.2.2.2.1 = none
  | [.int v] => decode M.2.1 pc = .ok (.ireturn, 1) ∧ ∃ ty, M.2.2.2.1 = some ty ∧ narrow ty (.int v) = .int v
  | [.long _] => decode M.2.1 pc = .ok (.lreturn, 1) ∧ M.2.2.2.1 = some .long
  | _ => False
def zEnd (M : zMt) (nn : Nat) (σ : zS) : Prop := σ.1 = if M.2.2.2.2.2 = 0 then nn else M.2.2.2.2.2
def zH (X : zX) (M : zMt) (p : Program) (l : Launch) (e : Env) (R : Room) (s : State) (m : MethodId) (args : Array Value) (below : List Frame) (meth : Method) (c : Code) (Q : State → Prop) (nn : Nat) (K : List Value → zS → Prop) : Prop :=
  ∀ (r : List Value) (σ' : zS) (H' : Heap) (locs' : List Loc) (pc' : Nat) (ls' : Array Slot), K r σ' → zEnd M nn σ' → zWX X s σ' H' → va_S (zAp X) s.heap H' locs' → zRet M pc' r →
    W p l e R s m args below meth c H' locs' (zcc M σ'.1) (zss M σ'.1) Q (F0 m pc' ls' (r.map (zV X)))
/-- the method M stands at pc, with these numbers in its places, on its stack and in the cells: it comes to an end that K holds of -/
def wx (d : Nat) (M : zMt) (pc : Nat) (L : List (Option Value)) (st : List Value) (σ : zS) (K : List Value → zS → Prop) : Prop :=
  ∀ (X : zX) (p : Program) (l : Launch) (e : Env) (R : Room) (s : State) (m : MethodId) (args : Array Value) (below : List Frame) (meth : Method) (c : Code) (Q : State → Prop) (nn : Nat),
    zC X d M p R s m args meth c → (M.2.2.2.2.2 = 0 → σ.1 = nn) → zH X M p l e R s m args below meth c Q nn K →
    ∀ (H : Heap) (locs : List Loc) (ls : Array Slot), zWX X s σ H → va_S (zAp X) s.heap H locs → zL X ls M.2.2.1 L →
      W p l e R s m args below meth c H locs (zcc M σ.1) (zss M σ.1) Q (F0 m pc ls (st.map (zV X)))
def zPc (X : zX) (av : List Value) (σ : zS) : Array Value → State → Prop := va_Pc (av.map (zV X)) (fun U => zWX X U σ U.heap ∧ va_K X.2.2.1 vwCl (zTy X) U ∧ zNw U)
def zQc (X : zX) (M : zMt) (nn : Nat) (K : List Value → zS → Prop) : Array Value → State → Outcome → State → Prop := fun _ st oc t =>
  ∃ (r : List Value) (σ' : zS), K r σ' ∧ zEnd M nn σ' ∧ r.length ≤ 1 ∧ oc = .returned ((r.map (zV X)).head?) ∧ zWX X t σ' t.heap ∧ va_F (zAp X) st t
/-- the method M, called with these, comes to an end that K holds of -/
def wm (d : Nat) (M : zMt) (av : List Value) (σ : zS) (K : List Value → zS → Prop) : Prop :=
  ∀ (X : zX) (l : Launch), Met l M.1 (zWd M) (zRm d M) (zPc X av σ) (zQc X M σ.1 K) (zcc M M.2.2.2.2.2) (zss M M.2.2.2.2.2) (zAp X)
end
section
/-! facts of the words, the world as a list, the places -/
theorem zT_good {w : Cond} (h : w ∈ zT) : goodWord w = true := (List.mem_filter.mp h).2
theorem zT_of {w : Cond} (i : Nat) (h : lw_tbl[i]? = some w) (g : goodWord w = true) : w ∈ zT := List.mem_filter.mpr ⟨List.mem_of_getElem? h, g⟩
theorem zT_pay {args : Array Value} {s : State} (hts : ∀ w ∈ zT, w.before args s = true) {M : zMt} (hc : Cond.code M.1 M.2.1 M.2.2.1 M.2.2.2.1 ∈ zT) : ∀ w ∈ zWd M, ∀ (a' : Array Value) (U : State), s.WarmedH U.vm → w.before a' U = true :=
  pay_in hts (fun w hw => by
    have h : w ∈ zT := by
      rcases List.mem_cons.mp hw with e | h
      · rw [e]; exact hc
      · exact h
    exact ⟨h, good_of_word (zT_good h)⟩)
theorem zAO_moved {u U : State} (hvm : u.vm.Alike U.vm) (h : (Cond.arrayOver (.array .int)).before #[] u = true) : (Cond.arrayOver (.array .int)).before #[] U = true := by
  have h1 : (Cond.arrayOver (.array .int)).before #[] (u.setVm U.vm) = true := Cond.overAtom_setVm hvm _ rfl h
  exact h1
theorem zNw_warm {s U : State} (hW : s.WarmedH U.vm) (h : zNw s) : zNw U := by
  refine ⟨fun w hw => ?_, zAO_moved hW.alike h.2⟩
  have h1 := h.1 w hw
  simp only [zNest, List.mem_cons, List.not_mem_nil, or_false] at hw
  rcases hw with rfl | rfl | rfl | rfl | rfl | rfl <;> exact va_Nw.warmM hW h1
theorem zNw_same {s U : State} (e : s.vm = U.vm) (h : zNw s) : zNw U := by
  refine ⟨fun w hw => ?_, zAO_moved (by rw [e]; exact Vm.Alike.refl U.vm) h.2⟩
  have h1 := h.1 w hw
  refine va_Nw.same ?_ e h1
  simp only [zNest, List.mem_cons, List.not_mem_nil, or_false] at hw
  rcases hw with rfl | rfl | rfl | rfl | rfl | rfl <;> rfl
theorem zWs_get {X : zX} {σ : zS} {k : Nat} (h : k < σ.1) : (zWs X σ)[k]? = some (X.2.1 + k, zE X σ.2.1 σ.2.2 k) := by
  simp [zWs, h]
theorem zWs_none {X : zX} {σ : zS} {k : Nat} (h : σ.1 ≤ k) : (zWs X σ)[k]? = none := by
  simp [zWs, h]
theorem zWs_of {X : zX} {σ : zS} {k : Nat} {q : Nat × va_E} (h : (zWs X σ)[k]? = some q) : k < σ.1 ∧ q = (X.2.1 + k, zE X σ.2.1 σ.2.2 k) := by
  rcases Nat.lt_or_ge k σ.1 with h1 | h1
  · exact ⟨h1, (Option.some.inj ((zWs_get h1).symm.trans h)).symm⟩
  · rw [zWs_none h1] at h; cases h
theorem zWs_D {X : zX} {σ : zS} : va_D (zAp X) (zWs X σ) := by
  refine ⟨fun i j p q hi hj h => ?_, fun k q hk => ?_⟩
  · obtain ⟨-, rfl⟩ := zWs_of hi
    obtain ⟨-, rfl⟩ := zWs_of hj
    exact Nat.add_left_cancel h
  · obtain ⟨-, rfl⟩ := zWs_of hk
    exact Nat.le_add_right _ _
theorem zWs_set {X : zX} {n : Nat} {rf rf' : zR} {mm mm' : zM} {k : Nat} {e : va_E} (h : k < n) (he : e = zE X rf' mm' k) (ho : ∀ a, a ≠ k → zE X rf' mm' a = zE X rf mm a) : (zWs X (n, rf, mm)).set k (X.2.1 + k, e) = zWs X (n, rf', mm') := by
  subst he
  have hl : k < (zWs X (n, rf, mm)).length := (List.getElem?_eq_some_iff.mp (zWs_get (σ := (n, rf, mm)) h)).1
  apply List.ext_getElem?
  intro i
  by_cases e : i = k
  · subst e
    rw [List.getElem?_set_self hl]
    exact (zWs_get (σ := (n, rf', mm')) h).symm
  · rw [List.getElem?_set_ne (Ne.symm e)]
    by_cases hi : i < n
    · rw [zWs_get (σ := (n, rf, mm)) hi, zWs_get (σ := (n, rf', mm')) hi]
      show some (_, zE X rf mm i) = some (_, zE X rf' mm' i)
      rw [ho i e]
    · rw [zWs_none (σ := (n, rf, mm)) (Nat.not_lt.mp hi), zWs_none (σ := (n, rf', mm')) (Nat.not_lt.mp hi)]
theorem zE_obj {X : zX} {rf : zR} {mm : zM} {k ci : Nat} (h : (zK k).1 = ci) (hc : ci < 10) : zE X rf mm k = .inr (ci, zFs X rf mm ci k) := by
  subst h
  unfold zE
  rw [if_pos hc]
theorem zE_int {X : zX} {rf : zR} {mm : zM} {k n : Nat} (h : zK k = (10, n)) : zE X rf mm k = .inl (X.2.2.2.1, n, .inl (mm k)) := by
  unfold zE
  rw [h, if_neg (show ¬ (10 : Nat) < 10 by decide), if_pos rfl]
theorem zE_bool {X : zX} {rf : zR} {mm : zM} {k n : Nat} (h : zK k = (11, n)) : zE X rf mm k = .inl (X.2.2.2.2.2, n, .inl (mm k)) := by
  unfold zE
  rw [h, if_neg (show ¬ (11 : Nat) < 10 by decide), if_neg (show ¬ (11 : Nat) = 10 by decide), if_pos rfl]
theorem zE_out {X : zX} {rf : zR} {mm : zM} {k n : Nat} (h : zK k = (12, n)) : zE X rf mm k = .inl (X.2.2.2.2.1, n, .inr (.inr (.inr (.inr (fun i => (rf k i).map (fun t => X.2.1 + t)))))) := by
  unfold zE
  rw [h, if_neg (show ¬ (12 : Nat) < 10 by decide), if_neg (show ¬ (12 : Nat) = 10 by decide), if_neg (show ¬ (12 : Nat) = 11 by decide)]
theorem zE_cong {X : zX} {rf rf' : zR} {mm mm' : zM} {a : Nat} (h1 : rf' a = rf a) (h2 : mm' a = mm a) : zE X rf' mm' a = zE X rf mm a := by
  unfold zE zFs
  rw [h1, h2]
theorem zFs_len {X : zX} {rf : zR} {mm : zM} {c k : Nat} : (zFs X rf mm c k).length = zN c := by simp [zFs]
theorem zFs_int {X : zX} {rf : zR} {mm : zM} {c k j : Nat} (hj : j < zN c) (h : zIR c j = false) : (zFs X rf mm c k)[j]? = some (.int (mm k j)) := by
  simp [zFs, hj, h]
theorem zFs_ref {X : zX} {rf : zR} {mm : zM} {c k j t : Nat} (hj : j < zN c) (h : zIR c j = true) (hr : rf k j = some t) : (zFs X rf mm c k)[j]? = some (.ref (X.2.1 + t)) := by
  simp [zFs, hj, h, hr, va_rf]
/-- the numbers, but v at place j of cell k -/
def zU (mm : zM) (k j : Nat) (v : Int32) : zM := va_up mm k (upd (mm k) j v)
/-- the references, but t at place j of cell k -/
def zUr (rf : zR) (k j t : Nat) : zR := va_up rf k (va_up (rf k) j (some t))
theorem zU_ne {mm : zM} {k j a : Nat} {v : Int32} (h : a ≠ k) : zU mm k j v a = mm a := if_neg h
theorem zU_at (mm : zM) (k j : Nat) (v : Int32) : zU mm k j v k = upd (mm k) j v := if_pos rfl
theorem zU_same (mm : zM) (k j : Nat) (v : Int32) : zU mm k j v k j = v := by rw [zU_at]; exact if_pos rfl
theorem zU_off {mm : zM} {k j a i : Nat} {v : Int32} (h : ¬ (a = k ∧ i = j)) : zU mm k j v a i = mm a i := by
  by_cases e : a = k
  · subst e
    rw [zU_at]
    exact if_neg (fun q => h ⟨rfl, q⟩)
  · rw [zU_ne e]
theorem zUr_ne {rf : zR} {k j t a : Nat} (h : a ≠ k) : zUr rf k j t a = rf a := if_neg h
theorem zFs_set {X : zX} {rf : zR} {mm : zM} {c k j : Nat} {v : Int32} (h : zIR c j = false) : (zFs X rf mm c k).set j (.int v) = zFs X rf (zU mm k j v) c k := by
  apply List.ext_getElem?
  intro i
  by_cases hi : i < zN c
  · by_cases e : i = j
    · subst e
      rw [List.getElem?_set_self (by rw [zFs_len]; exact hi), zFs_int hi h, zU_same]
    · rw [List.getElem?_set_ne (Ne.symm e)]
      simp only [zFs, List.getElem?_map, List.getElem?_range hi, Option.map_some]
      rw [zU_off (fun q => e q.2)]
  · rw [List.getElem?_eq_none (by rw [List.length_set, zFs_len]; omega), List.getElem?_eq_none (by rw [zFs_len]; omega)]
theorem zFs_setr {X : zX} {rf : zR} {mm : zM} {c k j t : Nat} (h : zIR c j = true) : (zFs X rf mm c k).set j (.ref (X.2.1 + t)) = zFs X (zUr rf k j t) mm c k := by
  apply List.ext_getElem?
  intro i
  by_cases hi : i < zN c
  · by_cases e : i = j
    · subst e
      rw [List.getElem?_set_self (by rw [zFs_len]; exact hi), zFs_ref hi h (by show va_up rf k (va_up (rf k) i (some t)) k i = some t; simp [va_up])]
    · rw [List.getElem?_set_ne (Ne.symm e)]
      simp only [zFs, List.getElem?_map, List.getElem?_range hi, Option.map_some]
      have : zUr rf k j t k i = rf k i := by simp [zUr, va_up, e]
      rw [this]
  · rw [List.getElem?_eq_none (by rw [List.length_set, zFs_len]; omega), List.getElem?_eq_none (by rw [zFs_len]; omega)]
theorem zWX_moved {X : zX} {s t : State} {σ : zS} {H : Heap} (hvm : s.vm.Alike t.vm) (h : zWX X s σ H) : zWX X t σ H := ⟨h.1, h.2.1, h.2.2.1, h.2.2.2.1, h.2.2.2.2.moved hvm⟩
theorem zL_get {X : zX} {ls : Array Slot} {nL i : Nat} {L : List (Option Value)} {v : Value} (h : zL X ls nL L) (hi : L[i]? = some (some v)) : ls[i]? = some (.val (zV X v)) := by
  refine h.2.2 (i, zV X v) (List.mem_filterMap.mpr ⟨i, List.mem_range.mpr ?_, ?_⟩)
  · exact (List.getElem?_eq_some_iff.mp hi).1
  · rw [hi]; rfl
theorem zPairs_mem {X : zX} {L : List (Option Value)} {q : Nat × Value} (h : q ∈ zPairs X L) : ∃ v, L[q.1]? = some (some v) ∧ q.2 = zV X v := by
  obtain ⟨i, -, h1⟩ := List.mem_filterMap.mp h
  cases hL : L[i]? with
  | none => rw [hL] at h1; cases h1
  | some o =>
    cases o with
    | none => rw [hL] at h1; cases h1
    | some v => rw [hL] at h1; cases h1; exact ⟨v, hL, rfl⟩
theorem zPairs_in {X : zX} {L : List (Option Value)} {i : Nat} {v : Value} (h : L[i]? = some (some v)) : (i, zV X v) ∈ zPairs X L := by
  refine List.mem_filterMap.mpr ⟨i, List.mem_range.mpr (List.getElem?_eq_some_iff.mp h).1, ?_⟩
  rw [h]; rfl
theorem zV_cat {X : zX} {v : Value} : (zV X v).category = v.category := by cases v <;> rfl
/-- no long begins just ahead of place i -/
def zNoL (L : List (Option Value)) (i : Nat) : Bool := match i with
  | 0 => true
  | j + 1 => match L[j]? with
    | some (some v) => v.category != 2
    | _ => true
theorem zNoL_of {L : List (Option Value)} {i j : Nat} {v : Value} (h : zNoL L i = true) (hj : L[j]? = some (some v)) (e : j + 1 = i) : v.category ≠ 2 := by
  subst e
  simp only [zNoL, hj] at h
  simpa using h
theorem zL_st1 {X : zX} {ls : Array Slot} {nL i : Nat} {L : List (Option Value)} {v : Value} (hn : zNoL L i = true) (h : lv_has ls nL ((i, zV X v) :: (zPairs X L).filter (fun q => !(q.1 == i) && !(q.1 + 1 == i && q.2.category == 2)))) : zL X ls nL (L.set i (some v)) := by
  refine ⟨h.1, h.2.1, fun q hq => ?_⟩
  obtain ⟨w, h1, h2⟩ := zPairs_mem hq
  by_cases e : q.1 = i
  · have hw : w = v := by
      rw [e] at h1
      have hlt : i < L.length := by have := (List.getElem?_eq_some_iff.mp h1).1; rwa [List.length_set] at this
      rw [List.getElem?_set_self hlt] at h1
      exact (Option.some.inj (Option.some.inj h1)).symm
    subst hw
    have := h.2.2 (i, zV X w) List.mem_cons_self
    rw [h2, e]; exact this
  · rw [List.getElem?_set_ne (fun z => e z.symm)] at h1
    refine h.2.2 q (List.mem_cons_of_mem _ (List.mem_filter.mpr ⟨?_, ?_⟩))
    · have := zPairs_in (X := X) h1
      rw [← h2] at this; exact this
    · have h3 := fun z => zNoL_of hn h1 z
      rw [h2, zV_cat]
      simp only [Bool.and_eq_true, Bool.not_eq_true', beq_eq_false_iff_ne, ne_eq, Bool.and_eq_false_iff]
      refine ⟨e, ?_⟩
      by_cases z : q.1 + 1 = i
      · exact Or.inr (h3 z)
      · exact Or.inl z
theorem zL_st2 {X : zX} {ls : Array Slot} {nL i : Nat} {L : List (Option Value)} {v : Value} (hn : zNoL L i = true) (h : lv_has ls nL ((i, zV X v) :: (zPairs X L).filter (fun q => !(q.1 == i) && (!(q.1 == i + 1) && !(q.1 + 1 == i && q.2.category == 2))))) : zL X ls nL ((L.set i (some v)).set (i + 1) none) := by
  refine ⟨h.1, h.2.1, fun q hq => ?_⟩
  obtain ⟨w, h1, h2⟩ := zPairs_mem hq
  have e1 : q.1 ≠ i + 1 := by
    intro z
    rw [z] at h1
    have hlt := (List.getElem?_eq_some_iff.mp h1).1
    rw [List.length_set] at hlt
    rw [List.getElem?_set_self hlt] at h1
    cases h1
  rw [List.getElem?_set_ne (fun z => e1 z.symm)] at h1
  by_cases e : q.1 = i
  · have hw : w = v := by
      rw [e] at h1
      have hlt : i < L.length := by have := (List.getElem?_eq_some_iff.mp h1).1; rwa [List.length_set] at this
      rw [List.getElem?_set_self hlt] at h1
      exact (Option.some.inj (Option.some.inj h1)).symm
    subst hw
    have := h.2.2 (i, zV X w) List.mem_cons_self
    rw [h2, e]; exact this
  · rw [List.getElem?_set_ne (fun z => e z.symm)] at h1
    refine h.2.2 q (List.mem_cons_of_mem _ (List.mem_filter.mpr ⟨?_, ?_⟩))
    · have := zPairs_in (X := X) h1
      rw [← h2] at this; exact this
    · have h3 := fun z => zNoL_of hn h1 z
      rw [h2, zV_cat]
      simp only [Bool.and_eq_true, Bool.not_eq_true', beq_eq_false_iff_ne, ne_eq, Bool.and_eq_false_iff]
      refine ⟨e, e1, ?_⟩
      by_cases z : q.1 + 1 = i
      · exact Or.inr (h3 z)
      · exact Or.inl z
/-- the places with which a method begins -/
def zArgs : List Value → List (Option Value)
  | [] => []
  | v :: vs => if v.category = 2 then some v :: none :: zArgs vs else some v :: zArgs vs
theorem zArgs_len : ∀ (X : zX) (vs : List Value), (lg_sl (vs.map (zV X))).length = (zArgs vs).length
  | X, [] => rfl
  | X, v :: vs => by
    have ih := zArgs_len X vs
    simp only [lg_sl, List.map_cons, List.flatMap_cons, List.length_append, zArgs, zV_cat] at ih ⊢
    by_cases h : v.category = 2 <;> simp [h, ih] <;> omega
theorem zArgs_in : ∀ (X : zX) (vs : List Value) (o i : Nat) (v : Value), (zArgs vs)[i]? = some (some v) → (o + i, zV X v) ∈ lv_args o (vs.map (zV X))
  | X, [], o, i, v, h => by simp [zArgs] at h
  | X, w :: vs, o, i, v, h => by
    simp only [List.map_cons, lv_args, zV_cat]
    by_cases hc : w.category = 2
    · simp only [zArgs, if_pos hc] at h ⊢
      match i, h with
      | 0, h => simp at h; subst h; exact List.mem_cons_self
      | 1, h => simp at h
      | i + 2, h =>
        have h' : (zArgs vs)[i]? = some (some v) := by simpa using h
        have := zArgs_in X vs (o + 2) i v h'
        exact List.mem_cons_of_mem _ (by rw [show o + (i + 2) = o + 2 + i by omega]; exact this)
    · simp only [zArgs, if_neg hc] at h ⊢
      match i, h with
      | 0, h => simp at h; subst h; exact List.mem_cons_self
      | i + 1, h =>
        have h' : (zArgs vs)[i]? = some (some v) := by simpa using h
        have := zArgs_in X vs (o + 1) i v h'
        exact List.mem_cons_of_mem _ (by rw [show o + (i + 1) = o + 1 + i by omega]; exact this)
theorem zL_entry {X : zX} {av : List Value} {nL : Nat} (h : (zArgs av).length ≤ nL) : zL X ((lg_sl (av.map (zV X)) ++ List.replicate (nL - (lg_sl (av.map (zV X))).length) Slot.unset).toArray) nL (zArgs av ++ List.replicate (nL - (zArgs av).length) none) := by
  have h0 := lv_entry (av.map (zV X)) (n := nL) (by rw [zArgs_len]; exact h)
  refine ⟨h0.1, h0.2.1, fun q hq => ?_⟩
  obtain ⟨v, h1, h2⟩ := zPairs_mem hq
  rcases Nat.lt_or_ge q.1 (zArgs av).length with hl | hl
  · rw [List.getElem?_append_left hl] at h1
    have := zArgs_in X av 0 q.1 v h1
    rw [Nat.zero_add, ← h2] at this
    exact h0.2.2 q this
  · rw [List.getElem?_append_right hl, List.getElem?_replicate] at h1
    split at h1 <;> cases h1
theorem zSum_mono : ∀ {a b : Nat}, a ≤ b → zSum a ≤ zSum b := by
  intro a b h
  induction h with
  | refl => exact Nat.le_refl _
  | step _ ih => exact Nat.le_trans ih (Nat.le_add_right _ _)
end
section
/-! one row an instruction, of the small machine -/
section ZST
variable {d : Nat} {M : zMt} {pc : Nat} {L : List (Option Value)} {st : List Value} {σ : zS} {K : List Value → zS → Prop}
theorem wx_iload_n {k : Fin 4} {i : Nat} {v : Int32} (hd : decode M.2.1 pc = .ok (.iload_n k, 1)) (hi : (k : Nat) = i) (hl0 : L[i]? = some (some (.int v))) (kk : wx d M (pc + 1) L (.int v :: st) σ K) : wx d M pc L st σ K := by
  intro X p l e R s m args below meth c Q nn hC hn hr H locs ls hW hS hl
  obtain ⟨hx, hb, hml, hown, hts, hret, hlk, hK, hNw, hnm, hdR, hlR, hcR, hsR⟩ := id hC
  exact lv_iload_n hx hb hd hi (zL_get hl hl0) (kk X p l e R s m args below meth c Q nn hC hn hr H locs ls hW hS hl)
theorem wx_iload {i : Nat} {v : Int32} (hd : decode M.2.1 pc = .ok (.iload i, 2)) (hl0 : L[i]? = some (some (.int v))) (kk : wx d M (pc + 2) L (.int v :: st) σ K) : wx d M pc L st σ K := by
  intro X p l e R s m args below meth c Q nn hC hn hr H locs ls hW hS hl
  obtain ⟨hx, hb, hml, hown, hts, hret, hlk, hK, hNw, hnm, hdR, hlR, hcR, hsR⟩ := id hC
  exact lv_iload hx hb hd (zL_get hl hl0) (kk X p l e R s m args below meth c Q nn hC hn hr H locs ls hW hS hl)
theorem wx_lload_n {k : Fin 4} {i : Nat} {v : Int64} (hd : decode M.2.1 pc = .ok (.lload_n k, 1)) (hi : (k : Nat) = i) (hl0 : L[i]? = some (some (.long v))) (kk : wx d M (pc + 1) L (.long v :: st) σ K) : wx d M pc L st σ K := by
  intro X p l e R s m args below meth c Q nn hC hn hr H locs ls hW hS hl
  obtain ⟨hx, hb, hml, hown, hts, hret, hlk, hK, hNw, hnm, hdR, hlR, hcR, hsR⟩ := id hC
  exact lv_lload_n hx hb hd hi (zL_get hl hl0) (kk X p l e R s m args below meth c Q nn hC hn hr H locs ls hW hS hl)
theorem wx_lload {i : Nat} {v : Int64} (hd : decode M.2.1 pc = .ok (.lload i, 2)) (hl0 : L[i]? = some (some (.long v))) (kk : wx d M (pc + 2) L (.long v :: st) σ K) : wx d M pc L st σ K := by
  intro X p l e R s m args below meth c Q nn hC hn hr H locs ls hW hS hl
  obtain ⟨hx, hb, hml, hown, hts, hret, hlk, hK, hNw, hnm, hdR, hlR, hcR, hsR⟩ := id hC
  exact lv_lload hx hb hd (zL_get hl hl0) (kk X p l e R s m args below meth c Q nn hC hn hr H locs ls hW hS hl)
theorem wx_aload_n {k : Fin 4} {i : Nat} {v : Nat} (hd : decode M.2.1 pc = .ok (.aload_n k, 1)) (hi : (k : Nat) = i) (hl0 : L[i]? = some (some (.ref v))) (kk : wx d M (pc + 1) L (.ref v :: st) σ K) : wx d M pc L st σ K := by
  intro X p l e R s m args below meth c Q nn hC hn hr H locs ls hW hS hl
  obtain ⟨hx, hb, hml, hown, hts, hret, hlk, hK, hNw, hnm, hdR, hlR, hcR, hsR⟩ := id hC
  exact lv_aload_n hx hb hd hi (zL_get hl hl0) (kk X p l e R s m args below meth c Q nn hC hn hr H locs ls hW hS hl)
theorem wx_aload {i : Nat} {v : Nat} (hd : decode M.2.1 pc = .ok (.aload i, 2)) (hl0 : L[i]? = some (some (.ref v))) (kk : wx d M (pc + 2) L (.ref v :: st) σ K) : wx d M pc L st σ K := by
  intro X p l e R s m args below meth c Q nn hC hn hr H locs ls hW hS hl
  obtain ⟨hx, hb, hml, hown, hts, hret, hlk, hK, hNw, hnm, hdR, hlR, hcR, hsR⟩ := id hC
  exact lv_aload hx hb hd (zL_get hl hl0) (kk X p l e R s m args below meth c Q nn hC hn hr H locs ls hW hS hl)
theorem wx_aloads_n {k : Fin 4} {i : Nat} (hd : decode M.2.1 pc = .ok (.aload_n k, 1)) (hi : (k : Nat) = i) (hl0 : L[i]? = some (some .null)) (kk : wx d M (pc + 1) L (.null :: st) σ K) : wx d M pc L st σ K := by
  intro X p l e R s m args below meth c Q nn hC hn hr H locs ls hW hS hl
  obtain ⟨hx, hb, hml, hown, hts, hret, hlk, hK, hNw, hnm, hdR, hlR, hcR, hsR⟩ := id hC
  exact lv_aload_n hx hb hd hi (zL_get hl hl0) (kk X p l e R s m args below meth c Q nn hC hn hr H locs ls hW hS hl)
theorem wx_iconst {n : Int} {v : Int32} (hd : decode M.2.1 pc = .ok (.iconst n, 1)) (hv : Int32.ofInt n = v) (kk : wx d M (pc + 1) L (.int v :: st) σ K) : wx d M pc L st σ K := by
  intro X p l e R s m args below meth c Q nn hC hn hr H locs ls hW hS hl
  obtain ⟨hx, hb, hml, hown, hts, hret, hlk, hK, hNw, hnm, hdR, hlR, hcR, hsR⟩ := id hC
  exact lv_iconst hx hb hd hv (kk X p l e R s m args below meth c Q nn hC hn hr H locs ls hW hS hl)
theorem wx_bipush {n : Int} {v : Int32} (hd : decode M.2.1 pc = .ok (.bipush n, 2)) (hv : (Int8.ofInt n).toInt32 = v) (kk : wx d M (pc + 2) L (.int v :: st) σ K) : wx d M pc L st σ K := by
  intro X p l e R s m args below meth c Q nn hC hn hr H locs ls hW hS hl
  obtain ⟨hx, hb, hml, hown, hts, hret, hlk, hK, hNw, hnm, hdR, hlR, hcR, hsR⟩ := id hC
  exact lv_bipush hx hb hd hv (kk X p l e R s m args below meth c Q nn hC hn hr H locs ls hW hS hl)
theorem wx_sipush {n : Int} {v : Int32} (hd : decode M.2.1 pc = .ok (.sipush n, 3)) (hv : (Int16.ofInt n).toInt32 = v) (kk : wx d M (pc + 3) L (.int v :: st) σ K) : wx d M pc L st σ K := by
  intro X p l e R s m args below meth c Q nn hC hn hr H locs ls hW hS hl
  obtain ⟨hx, hb, hml, hown, hts, hret, hlk, hK, hNw, hnm, hdR, hlR, hcR, hsR⟩ := id hC
  exact lv_sipush hx hb hd hv (kk X p l e R s m args below meth c Q nn hC hn hr H locs ls hW hS hl)
theorem wx_lconst {n : Fin 2} {v : Int64} (hd : decode M.2.1 pc = .ok (.lconst n, 1)) (hv : Int64.ofNat (n : Nat) = v) (kk : wx d M (pc + 1) L (.long v :: st) σ K) : wx d M pc L st σ K := by
  intro X p l e R s m args below meth c Q nn hC hn hr H locs ls hW hS hl
  obtain ⟨hx, hb, hml, hown, hts, hret, hlk, hK, hNw, hnm, hdR, hlR, hcR, hsR⟩ := id hC
  exact lv_lconst hx hb hd hv (kk X p l e R s m args below meth c Q nn hC hn hr H locs ls hW hS hl)
theorem wx_ldc {i : Nat} {v : Int32} (hd : decode M.2.1 pc = .ok (.ldc i, 2)) (hv : Cond.constant M.1.cls i v ∈ zT) (kk : wx d M (pc + 2) L (.int v :: st) σ K) : wx d M pc L st σ K := by
  intro X p l e R s m args below meth c Q nn hC hn hr H locs ls hW hS hl
  obtain ⟨hx, hb, hml, hown, hts, hret, hlk, hK, hNw, hnm, hdR, hlR, hcR, hsR⟩ := id hC
  exact lv_ldc hx hb hown (hts _ hv) hd (kk X p l e R s m args below meth c Q nn hC hn hr H locs ls hW hS hl)
theorem wx_ldcw {i : Nat} {v : Int32} (hd : decode M.2.1 pc = .ok (.ldc_w i, 3)) (hv : Cond.constant M.1.cls i v ∈ zT) (kk : wx d M (pc + 3) L (.int v :: st) σ K) : wx d M pc L st σ K := by
  intro X p l e R s m args below meth c Q nn hC hn hr H locs ls hW hS hl
  obtain ⟨hx, hb, hml, hown, hts, hret, hlk, hK, hNw, hnm, hdR, hlR, hcR, hsR⟩ := id hC
  exact lv_ldcw hx hb hown (hts _ hv) hd (kk X p l e R s m args below meth c Q nn hC hn hr H locs ls hW hS hl)
theorem wx_ldc2 {i : Nat} {v : Int64} (hd : decode M.2.1 pc = .ok (.ldc2_w i, 3)) (hv : Cond.constantLong M.1.cls i v ∈ zT) (kk : wx d M (pc + 3) L (.long v :: st) σ K) : wx d M pc L st σ K := by
  intro X p l e R s m args below meth c Q nn hC hn hr H locs ls hW hS hl
  obtain ⟨hx, hb, hml, hown, hts, hret, hlk, hK, hNw, hnm, hdR, hlR, hcR, hsR⟩ := id hC
  exact lv_ldc2 hx hb hown (hts _ hv) hd (kk X p l e R s m args below meth c Q nn hC hn hr H locs ls hW hS hl)
theorem wx_istore_n {k : Fin 4} {i : Nat} {v : Int32} (hd : decode M.2.1 pc = .ok (.istore_n k, 1)) (hi : (k : Nat) = i) (hin : i < M.2.2.1) (hno : zNoL L i = true) (kk : wx d M (pc + 1) (L.set i (some (.int v))) st σ K) : wx d M pc L (.int v :: st) σ K := by
  intro X p l e R s m args below meth c Q nn hC hn hr H locs ls hW hS hl
  obtain ⟨hx, hb, hml, hown, hts, hret, hlk, hK, hNw, hnm, hdR, hlR, hcR, hsR⟩ := id hC
  exact lv_istore_n hx hb hd hi hl hin rfl (fun ls2 hl2 => kk X p l e R s m args below meth c Q nn hC hn hr H locs ls2 hW hS (zL_st1 (v := .int v) hno hl2))
theorem wx_istore {i : Nat} {v : Int32} (hd : decode M.2.1 pc = .ok (.istore i, 2)) (hin : i < M.2.2.1) (hno : zNoL L i = true) (kk : wx d M (pc + 2) (L.set i (some (.int v))) st σ K) : wx d M pc L (.int v :: st) σ K := by
  intro X p l e R s m args below meth c Q nn hC hn hr H locs ls hW hS hl
  obtain ⟨hx, hb, hml, hown, hts, hret, hlk, hK, hNw, hnm, hdR, hlR, hcR, hsR⟩ := id hC
  exact lv_istore hx hb hd hl hin rfl (fun ls2 hl2 => kk X p l e R s m args below meth c Q nn hC hn hr H locs ls2 hW hS (zL_st1 (v := .int v) hno hl2))
theorem wx_astore_n {k : Fin 4} {i : Nat} {v : Nat} (hd : decode M.2.1 pc = .ok (.astore_n k, 1)) (hi : (k : Nat) = i) (hin : i < M.2.2.1) (hno : zNoL L i = true) (kk : wx d M (pc + 1) (L.set i (some (.ref v))) st σ K) : wx d M pc L (.ref v :: st) σ K := by
  intro X p l e R s m args below meth c Q nn hC hn hr H locs ls hW hS hl
  obtain ⟨hx, hb, hml, hown, hts, hret, hlk, hK, hNw, hnm, hdR, hlR, hcR, hsR⟩ := id hC
  exact lv_astore_n hx hb hd hi hl hin rfl (fun ls2 hl2 => kk X p l e R s m args below meth c Q nn hC hn hr H locs ls2 hW hS (zL_st1 (v := .ref v) hno hl2))
theorem wx_astore {i : Nat} {v : Nat} (hd : decode M.2.1 pc = .ok (.astore i, 2)) (hin : i < M.2.2.1) (hno : zNoL L i = true) (kk : wx d M (pc + 2) (L.set i (some (.ref v))) st σ K) : wx d M pc L (.ref v :: st) σ K := by
  intro X p l e R s m args below meth c Q nn hC hn hr H locs ls hW hS hl
  obtain ⟨hx, hb, hml, hown, hts, hret, hlk, hK, hNw, hnm, hdR, hlR, hcR, hsR⟩ := id hC
  exact lv_astore hx hb hd hl hin rfl (fun ls2 hl2 => kk X p l e R s m args below meth c Q nn hC hn hr H locs ls2 hW hS (zL_st1 (v := .ref v) hno hl2))
theorem wx_lstore_n {k : Fin 4} {i : Nat} {v : Int64} (hd : decode M.2.1 pc = .ok (.lstore_n k, 1)) (hi : (k : Nat) = i) (hin : i + 1 < M.2.2.1) (hno : zNoL L i = true) (kk : wx d M (pc + 1) ((L.set i (some (.long v))).set (i + 1) none) st σ K) : wx d M pc L (.long v :: st) σ K := by
  intro X p l e R s m args below meth c Q nn hC hn hr H locs ls hW hS hl
  obtain ⟨hx, hb, hml, hown, hts, hret, hlk, hK, hNw, hnm, hdR, hlR, hcR, hsR⟩ := id hC
  exact lv_lstore_n hx hb hd hi hl hin rfl (fun ls2 hl2 => kk X p l e R s m args below meth c Q nn hC hn hr H locs ls2 hW hS (zL_st2 (v := .long v) hno hl2))
theorem wx_lstore {i : Nat} {v : Int64} (hd : decode M.2.1 pc = .ok (.lstore i, 2)) (hin : i + 1 < M.2.2.1) (hno : zNoL L i = true) (kk : wx d M (pc + 2) ((L.set i (some (.long v))).set (i + 1) none) st σ K) : wx d M pc L (.long v :: st) σ K := by
  intro X p l e R s m args below meth c Q nn hC hn hr H locs ls hW hS hl
  obtain ⟨hx, hb, hml, hown, hts, hret, hlk, hK, hNw, hnm, hdR, hlR, hcR, hsR⟩ := id hC
  exact lv_lstore hx hb hd hl hin rfl (fun ls2 hl2 => kk X p l e R s m args below meth c Q nn hC hn hr H locs ls2 hW hS (zL_st2 (v := .long v) hno hl2))
theorem wx_iinc {i : Nat} {n : Int} {v u : Int32} (hd : decode M.2.1 pc = .ok (.iinc i n, 3)) (hl0 : L[i]? = some (some (.int v))) (hu : v + Int32.ofInt n = u) (hin : i < M.2.2.1) (hno : zNoL L i = true) (kk : wx d M (pc + 3) (L.set i (some (.int u))) st σ K) : wx d M pc L st σ K := by
  intro X p l e R s m args below meth c Q nn hC hn hr H locs ls hW hS hl
  obtain ⟨hx, hb, hml, hown, hts, hret, hlk, hK, hNw, hnm, hdR, hlR, hcR, hsR⟩ := id hC
  obtain ⟨kp, hkp⟩ := List.getElem?_of_mem (zPairs_in (X := X) hl0)
  exact lv_iinc hx hb hd hl hkp hu hin rfl (fun ls2 hl2 => kk X p l e R s m args below meth c Q nn hC hn hr H locs ls2 hW hS (zL_st1 (v := .int u) hno hl2))
theorem wx_iadd {a b : Int32} (hd : decode M.2.1 pc = .ok (.iadd, 1)) (kk : wx d M (pc + 1) L (.int (a + b) :: st) σ K) : wx d M pc L (.int b :: .int a :: st) σ K := by
  intro X p l e R s m args below meth c Q nn hC hn hr H locs ls hW hS hl
  obtain ⟨hx, hb, hml, hown, hts, hret, hlk, hK, hNw, hnm, hdR, hlR, hcR, hsR⟩ := id hC
  exact lv_iadd hx hb hd (kk X p l e R s m args below meth c Q nn hC hn hr H locs ls hW hS hl)
theorem wx_isub {a b : Int32} (hd : decode M.2.1 pc = .ok (.isub, 1)) (kk : wx d M (pc + 1) L (.int (a - b) :: st) σ K) : wx d M pc L (.int b :: .int a :: st) σ K := by
  intro X p l e R s m args below meth c Q nn hC hn hr H locs ls hW hS hl
  obtain ⟨hx, hb, hml, hown, hts, hret, hlk, hK, hNw, hnm, hdR, hlR, hcR, hsR⟩ := id hC
  exact lv_isub hx hb hd (kk X p l e R s m args below meth c Q nn hC hn hr H locs ls hW hS hl)
theorem wx_imul {a b : Int32} (hd : decode M.2.1 pc = .ok (.imul, 1)) (kk : wx d M (pc + 1) L (.int (a * b) :: st) σ K) : wx d M pc L (.int b :: .int a :: st) σ K := by
  intro X p l e R s m args below meth c Q nn hC hn hr H locs ls hW hS hl
  obtain ⟨hx, hb, hml, hown, hts, hret, hlk, hK, hNw, hnm, hdR, hlR, hcR, hsR⟩ := id hC
  exact lv_imul hx hb hd (kk X p l e R s m args below meth c Q nn hC hn hr H locs ls hW hS hl)
theorem wx_iand {a b : Int32} (hd : decode M.2.1 pc = .ok (.iand, 1)) (kk : wx d M (pc + 1) L (.int (a &&& b) :: st) σ K) : wx d M pc L (.int b :: .int a :: st) σ K := by
  intro X p l e R s m args below meth c Q nn hC hn hr H locs ls hW hS hl
  obtain ⟨hx, hb, hml, hown, hts, hret, hlk, hK, hNw, hnm, hdR, hlR, hcR, hsR⟩ := id hC
  exact lv_iand hx hb hd (kk X p l e R s m args below meth c Q nn hC hn hr H locs ls hW hS hl)
theorem wx_ior {a b : Int32} (hd : decode M.2.1 pc = .ok (.ior, 1)) (kk : wx d M (pc + 1) L (.int (a ||| b) :: st) σ K) : wx d M pc L (.int b :: .int a :: st) σ K := by
  intro X p l e R s m args below meth c Q nn hC hn hr H locs ls hW hS hl
  obtain ⟨hx, hb, hml, hown, hts, hret, hlk, hK, hNw, hnm, hdR, hlR, hcR, hsR⟩ := id hC
  exact lv_ior hx hb hd (kk X p l e R s m args below meth c Q nn hC hn hr H locs ls hW hS hl)
theorem wx_ixor {a b : Int32} (hd : decode M.2.1 pc = .ok (.ixor, 1)) (kk : wx d M (pc + 1) L (.int (a ^^^ b) :: st) σ K) : wx d M pc L (.int b :: .int a :: st) σ K := by
  intro X p l e R s m args below meth c Q nn hC hn hr H locs ls hW hS hl
  obtain ⟨hx, hb, hml, hown, hts, hret, hlk, hK, hNw, hnm, hdR, hlR, hcR, hsR⟩ := id hC
  exact lv_ixor hx hb hd (kk X p l e R s m args below meth c Q nn hC hn hr H locs ls hW hS hl)
theorem wx_ishl {a b : Int32} (hd : decode M.2.1 pc = .ok (.ishl, 1)) (kk : wx d M (pc + 1) L (.int (a <<< (b &&& 31)) :: st) σ K) : wx d M pc L (.int b :: .int a :: st) σ K := by
  intro X p l e R s m args below meth c Q nn hC hn hr H locs ls hW hS hl
  obtain ⟨hx, hb, hml, hown, hts, hret, hlk, hK, hNw, hnm, hdR, hlR, hcR, hsR⟩ := id hC
  exact lv_ishl hx hb hd (kk X p l e R s m args below meth c Q nn hC hn hr H locs ls hW hS hl)
theorem wx_idiv {a b : Int32} (hd : decode M.2.1 pc = .ok (.idiv, 1)) (hne : ¬ b = 0) (kk : wx d M (pc + 1) L (.int (a / b) :: st) σ K) : wx d M pc L (.int b :: .int a :: st) σ K := by
  intro X p l e R s m args below meth c Q nn hC hn hr H locs ls hW hS hl
  obtain ⟨hx, hb, hml, hown, hts, hret, hlk, hK, hNw, hnm, hdR, hlR, hcR, hsR⟩ := id hC
  exact lv_idiv hx hb hd hne (kk X p l e R s m args below meth c Q nn hC hn hr H locs ls hW hS hl)
theorem wx_irem {a b : Int32} (hd : decode M.2.1 pc = .ok (.irem, 1)) (hne : ¬ b = 0) (kk : wx d M (pc + 1) L (.int (a - a / b * b) :: st) σ K) : wx d M pc L (.int b :: .int a :: st) σ K := by
  intro X p l e R s m args below meth c Q nn hC hn hr H locs ls hW hS hl
  obtain ⟨hx, hb, hml, hown, hts, hret, hlk, hK, hNw, hnm, hdR, hlR, hcR, hsR⟩ := id hC
  exact lv_irem hx hb hd hne (kk X p l e R s m args below meth c Q nn hC hn hr H locs ls hW hS hl)
theorem wx_iushr {a b : Int32} (hd : decode M.2.1 pc = .ok (.iushr, 1)) (kk : wx d M (pc + 1) L (.int ((a.toUInt32 >>> (b.toUInt32 &&& Int32.toUInt32 31)).toInt32) :: st) σ K) : wx d M pc L (.int b :: .int a :: st) σ K := by
  intro X p l e R s m args below meth c Q nn hC hn hr H locs ls hW hS hl
  obtain ⟨hx, hb, hml, hown, hts, hret, hlk, hK, hNw, hnm, hdR, hlR, hcR, hsR⟩ := id hC
  exact lv_iushr hx hb hd rfl (kk X p l e R s m args below meth c Q nn hC hn hr H locs ls hW hS hl)
theorem wx_ladd {a b : Int64} (hd : decode M.2.1 pc = .ok (.ladd, 1)) (kk : wx d M (pc + 1) L (.long (a + b) :: st) σ K) : wx d M pc L (.long b :: .long a :: st) σ K := by
  intro X p l e R s m args below meth c Q nn hC hn hr H locs ls hW hS hl
  obtain ⟨hx, hb, hml, hown, hts, hret, hlk, hK, hNw, hnm, hdR, hlR, hcR, hsR⟩ := id hC
  exact lv_ladd hx hb hd (kk X p l e R s m args below meth c Q nn hC hn hr H locs ls hW hS hl)
theorem wx_lmul {a b : Int64} (hd : decode M.2.1 pc = .ok (.lmul, 1)) (kk : wx d M (pc + 1) L (.long (a * b) :: st) σ K) : wx d M pc L (.long b :: .long a :: st) σ K := by
  intro X p l e R s m args below meth c Q nn hC hn hr H locs ls hW hS hl
  obtain ⟨hx, hb, hml, hown, hts, hret, hlk, hK, hNw, hnm, hdR, hlR, hcR, hsR⟩ := id hC
  exact lv_lmul hx hb hd (kk X p l e R s m args below meth c Q nn hC hn hr H locs ls hW hS hl)
theorem wx_ldiv {a b : Int64} (hd : decode M.2.1 pc = .ok (.ldiv, 1)) (hne : ¬ b = 0) (kk : wx d M (pc + 1) L (.long (a / b) :: st) σ K) : wx d M pc L (.long b :: .long a :: st) σ K := by
  intro X p l e R s m args below meth c Q nn hC hn hr H locs ls hW hS hl
  obtain ⟨hx, hb, hml, hown, hts, hret, hlk, hK, hNw, hnm, hdR, hlR, hcR, hsR⟩ := id hC
  exact lv_ldiv hx hb hd hne (kk X p l e R s m args below meth c Q nn hC hn hr H locs ls hW hS hl)
theorem wx_lrem {a b : Int64} (hd : decode M.2.1 pc = .ok (.lrem, 1)) (hne : ¬ b = 0) (kk : wx d M (pc + 1) L (.long (a - a / b * b) :: st) σ K) : wx d M pc L (.long b :: .long a :: st) σ K := by
  intro X p l e R s m args below meth c Q nn hC hn hr H locs ls hW hS hl
  obtain ⟨hx, hb, hml, hown, hts, hret, hlk, hK, hNw, hnm, hdR, hlR, hcR, hsR⟩ := id hC
  exact lv_lrem hx hb hd hne (kk X p l e R s m args below meth c Q nn hC hn hr H locs ls hW hS hl)
theorem wx_lcmp {a b : Int64} (hd : decode M.2.1 pc = .ok (.lcmp, 1)) (kk : wx d M (pc + 1) L (.int (lg_cmp a b) :: st) σ K) : wx d M pc L (.long b :: .long a :: st) σ K := by
  intro X p l e R s m args below meth c Q nn hC hn hr H locs ls hW hS hl
  obtain ⟨hx, hb, hml, hown, hts, hret, hlk, hK, hNw, hnm, hdR, hlR, hcR, hsR⟩ := id hC
  exact W.lcmp hx hb hd (kk X p l e R s m args below meth c Q nn hC hn hr H locs ls hW hS hl)
theorem wx_ineg {a : Int32} (hd : decode M.2.1 pc = .ok (.ineg, 1)) (kk : wx d M (pc + 1) L (.int (-a) :: st) σ K) : wx d M pc L (.int a :: st) σ K := by
  intro X p l e R s m args below meth c Q nn hC hn hr H locs ls hW hS hl
  obtain ⟨hx, hb, hml, hown, hts, hret, hlk, hK, hNw, hnm, hdR, hlR, hcR, hsR⟩ := id hC
  exact lv_ineg hx hb hd (kk X p l e R s m args below meth c Q nn hC hn hr H locs ls hW hS hl)
theorem wx_lneg {a : Int64} (hd : decode M.2.1 pc = .ok (.lneg, 1)) (kk : wx d M (pc + 1) L (.long (-a) :: st) σ K) : wx d M pc L (.long a :: st) σ K := by
  intro X p l e R s m args below meth c Q nn hC hn hr H locs ls hW hS hl
  obtain ⟨hx, hb, hml, hown, hts, hret, hlk, hK, hNw, hnm, hdR, hlR, hcR, hsR⟩ := id hC
  exact lv_lneg hx hb hd (kk X p l e R s m args below meth c Q nn hC hn hr H locs ls hW hS hl)
theorem wx_i2l {a : Int32} (hd : decode M.2.1 pc = .ok (.i2l, 1)) (kk : wx d M (pc + 1) L (.long a.toInt64 :: st) σ K) : wx d M pc L (.int a :: st) σ K := by
  intro X p l e R s m args below meth c Q nn hC hn hr H locs ls hW hS hl
  obtain ⟨hx, hb, hml, hown, hts, hret, hlk, hK, hNw, hnm, hdR, hlR, hcR, hsR⟩ := id hC
  exact lv_i2l hx hb hd rfl (kk X p l e R s m args below meth c Q nn hC hn hr H locs ls hW hS hl)
theorem wx_dup {v : Value} (hd : decode M.2.1 pc = .ok (.dup, 1)) (hv : v.category = 1) (kk : wx d M (pc + 1) L (v :: v :: st) σ K) : wx d M pc L (v :: st) σ K := by
  intro X p l e R s m args below meth c Q nn hC hn hr H locs ls hW hS hl
  obtain ⟨hx, hb, hml, hown, hts, hret, hlk, hK, hNw, hnm, hdR, hlR, hcR, hsR⟩ := id hC
  exact lv_dup hx hb hd (by rw [zV_cat]; exact hv) (kk X p l e R s m args below meth c Q nn hC hn hr H locs ls hW hS hl)
theorem wx_dup2 {v u : Value} (hd : decode M.2.1 pc = .ok (.dup2, 1)) (hv : v.category = 1) (hu : u.category = 1) (kk : wx d M (pc + 1) L (v :: u :: v :: u :: st) σ K) : wx d M pc L (v :: u :: st) σ K := by
  intro X p l e R s m args below meth c Q nn hC hn hr H locs ls hW hS hl
  obtain ⟨hx, hb, hml, hown, hts, hret, hlk, hK, hNw, hnm, hdR, hlR, hcR, hsR⟩ := id hC
  exact lv_dup2_11 hx hb hd (by rw [zV_cat]; exact hv) (by rw [zV_cat]; exact hu) (kk X p l e R s m args below meth c Q nn hC hn hr H locs ls hW hS hl)
theorem wx_pop {v : Value} (hd : decode M.2.1 pc = .ok (.pop, 1)) (hv : v.category = 1) (kk : wx d M (pc + 1) L st σ K) : wx d M pc L (v :: st) σ K := by
  intro X p l e R s m args below meth c Q nn hC hn hr H locs ls hW hS hl
  obtain ⟨hx, hb, hml, hown, hts, hret, hlk, hK, hNw, hnm, hdR, hlR, hcR, hsR⟩ := id hC
  exact lv_pop hx hb hd (by rw [zV_cat]; exact hv) (kk X p l e R s m args below meth c Q nn hC hn hr H locs ls hW hS hl)
theorem wx_icmp_eq {a b : Int32} {off : Int} {tgt : Nat} (hd : decode M.2.1 pc = .ok (.if_icmp .eq off, 3)) (ht : (pc : Int) + off = (tgt : Int)) (kt : a = b → wx d M tgt L st σ K) (kf : ¬ a = b → wx d M (pc + 3) L st σ K) : wx d M pc L (.int b :: .int a :: st) σ K := by
  intro X p l e R s m args below meth c Q nn hC hn hr H locs ls hW hS hl
  obtain ⟨hx, hb, hml, hown, hts, hret, hlk, hK, hNw, hnm, hdR, hlR, hcR, hsR⟩ := id hC
  exact lv_icmp_eq hx hb hd ht (fun q => kt q X p l e R s m args below meth c Q nn hC hn hr H locs ls hW hS hl) (fun q => kf q X p l e R s m args below meth c Q nn hC hn hr H locs ls hW hS hl)
theorem wx_icmp_ne {a b : Int32} {off : Int} {tgt : Nat} (hd : decode M.2.1 pc = .ok (.if_icmp .ne off, 3)) (ht : (pc : Int) + off = (tgt : Int)) (kt : ¬ a = b → wx d M tgt L st σ K) (kf : a = b → wx d M (pc + 3) L st σ K) : wx d M pc L (.int b :: .int a :: st) σ K := by
  intro X p l e R s m args below meth c Q nn hC hn hr H locs ls hW hS hl
  obtain ⟨hx, hb, hml, hown, hts, hret, hlk, hK, hNw, hnm, hdR, hlR, hcR, hsR⟩ := id hC
  exact lv_icmp_ne hx hb hd ht (fun q => kt q X p l e R s m args below meth c Q nn hC hn hr H locs ls hW hS hl) (fun q => kf q X p l e R s m args below meth c Q nn hC hn hr H locs ls hW hS hl)
theorem wx_icmp_lt {a b : Int32} {off : Int} {tgt : Nat} (hd : decode M.2.1 pc = .ok (.if_icmp .lt off, 3)) (ht : (pc : Int) + off = (tgt : Int)) (kt : a < b → wx d M tgt L st σ K) (kf : ¬ a < b → wx d M (pc + 3) L st σ K) : wx d M pc L (.int b :: .int a :: st) σ K := by
  intro X p l e R s m args below meth c Q nn hC hn hr H locs ls hW hS hl
  obtain ⟨hx, hb, hml, hown, hts, hret, hlk, hK, hNw, hnm, hdR, hlR, hcR, hsR⟩ := id hC
  exact lv_icmp_lt hx hb hd ht (fun q => kt q X p l e R s m args below meth c Q nn hC hn hr H locs ls hW hS hl) (fun q => kf q X p l e R s m args below meth c Q nn hC hn hr H locs ls hW hS hl)
theorem wx_icmp_ge {a b : Int32} {off : Int} {tgt : Nat} (hd : decode M.2.1 pc = .ok (.if_icmp .ge off, 3)) (ht : (pc : Int) + off = (tgt : Int)) (kt : b ≤ a → wx d M tgt L st σ K) (kf : ¬ b ≤ a → wx d M (pc + 3) L st σ K) : wx d M pc L (.int b :: .int a :: st) σ K := by
  intro X p l e R s m args below meth c Q nn hC hn hr H locs ls hW hS hl
  obtain ⟨hx, hb, hml, hown, hts, hret, hlk, hK, hNw, hnm, hdR, hlR, hcR, hsR⟩ := id hC
  exact lv_icmp_ge hx hb hd ht (fun q => kt q X p l e R s m args below meth c Q nn hC hn hr H locs ls hW hS hl) (fun q => kf q X p l e R s m args below meth c Q nn hC hn hr H locs ls hW hS hl)
theorem wx_icmp_gt {a b : Int32} {off : Int} {tgt : Nat} (hd : decode M.2.1 pc = .ok (.if_icmp .gt off, 3)) (ht : (pc : Int) + off = (tgt : Int)) (kt : b < a → wx d M tgt L st σ K) (kf : ¬ b < a → wx d M (pc + 3) L st σ K) : wx d M pc L (.int b :: .int a :: st) σ K := by
  intro X p l e R s m args below meth c Q nn hC hn hr H locs ls hW hS hl
  obtain ⟨hx, hb, hml, hown, hts, hret, hlk, hK, hNw, hnm, hdR, hlR, hcR, hsR⟩ := id hC
  exact lv_icmp_gt hx hb hd ht (fun q => kt q X p l e R s m args below meth c Q nn hC hn hr H locs ls hW hS hl) (fun q => kf q X p l e R s m args below meth c Q nn hC hn hr H locs ls hW hS hl)
theorem wx_icmp_le {a b : Int32} {off : Int} {tgt : Nat} (hd : decode M.2.1 pc = .ok (.if_icmp .le off, 3)) (ht : (pc : Int) + off = (tgt : Int)) (kt : a ≤ b → wx d M tgt L st σ K) (kf : ¬ a ≤ b → wx d M (pc + 3) L st σ K) : wx d M pc L (.int b :: .int a :: st) σ K := by
  intro X p l e R s m args below meth c Q nn hC hn hr H locs ls hW hS hl
  obtain ⟨hx, hb, hml, hown, hts, hret, hlk, hK, hNw, hnm, hdR, hlR, hcR, hsR⟩ := id hC
  exact lv_icmp_le hx hb hd ht (fun q => kt q X p l e R s m args below meth c Q nn hC hn hr H locs ls hW hS hl) (fun q => kf q X p l e R s m args below meth c Q nn hC hn hr H locs ls hW hS hl)
theorem wx_if_eq {a : Int32} {off : Int} {tgt : Nat} (hd : decode M.2.1 pc = .ok (.ifCond .eq off, 3)) (ht : (pc : Int) + off = (tgt : Int)) (kt : a = 0 → wx d M tgt L st σ K) (kf : ¬ a = 0 → wx d M (pc + 3) L st σ K) : wx d M pc L (.int a :: st) σ K := by
  intro X p l e R s m args below meth c Q nn hC hn hr H locs ls hW hS hl
  obtain ⟨hx, hb, hml, hown, hts, hret, hlk, hK, hNw, hnm, hdR, hlR, hcR, hsR⟩ := id hC
  exact lv_if_eq hx hb hd ht (fun q => kt q X p l e R s m args below meth c Q nn hC hn hr H locs ls hW hS hl) (fun q => kf q X p l e R s m args below meth c Q nn hC hn hr H locs ls hW hS hl)
theorem wx_if_ne {a : Int32} {off : Int} {tgt : Nat} (hd : decode M.2.1 pc = .ok (.ifCond .ne off, 3)) (ht : (pc : Int) + off = (tgt : Int)) (kt : ¬ a = 0 → wx d M tgt L st σ K) (kf : a = 0 → wx d M (pc + 3) L st σ K) : wx d M pc L (.int a :: st) σ K := by
  intro X p l e R s m args below meth c Q nn hC hn hr H locs ls hW hS hl
  obtain ⟨hx, hb, hml, hown, hts, hret, hlk, hK, hNw, hnm, hdR, hlR, hcR, hsR⟩ := id hC
  exact lv_if_ne hx hb hd ht (fun q => kt q X p l e R s m args below meth c Q nn hC hn hr H locs ls hW hS hl) (fun q => kf q X p l e R s m args below meth c Q nn hC hn hr H locs ls hW hS hl)
theorem wx_if_lt {a : Int32} {off : Int} {tgt : Nat} (hd : decode M.2.1 pc = .ok (.ifCond .lt off, 3)) (ht : (pc : Int) + off = (tgt : Int)) (kt : a < 0 → wx d M tgt L st σ K) (kf : ¬ a < 0 → wx d M (pc + 3) L st σ K) : wx d M pc L (.int a :: st) σ K := by
  intro X p l e R s m args below meth c Q nn hC hn hr H locs ls hW hS hl
  obtain ⟨hx, hb, hml, hown, hts, hret, hlk, hK, hNw, hnm, hdR, hlR, hcR, hsR⟩ := id hC
  exact lv_if_lt hx hb hd ht (fun q => kt q X p l e R s m args below meth c Q nn hC hn hr H locs ls hW hS hl) (fun q => kf q X p l e R s m args below meth c Q nn hC hn hr H locs ls hW hS hl)
theorem wx_if_ge {a : Int32} {off : Int} {tgt : Nat} (hd : decode M.2.1 pc = .ok (.ifCond .ge off, 3)) (ht : (pc : Int) + off = (tgt : Int)) (kt : 0 ≤ a → wx d M tgt L st σ K) (kf : ¬ 0 ≤ a → wx d M (pc + 3) L st σ K) : wx d M pc L (.int a :: st) σ K := by
  intro X p l e R s m args below meth c Q nn hC hn hr H locs ls hW hS hl
  obtain ⟨hx, hb, hml, hown, hts, hret, hlk, hK, hNw, hnm, hdR, hlR, hcR, hsR⟩ := id hC
  exact lv_if_ge hx hb hd ht (fun q => kt q X p l e R s m args below meth c Q nn hC hn hr H locs ls hW hS hl) (fun q => kf q X p l e R s m args below meth c Q nn hC hn hr H locs ls hW hS hl)
theorem wx_if_gt {a : Int32} {off : Int} {tgt : Nat} (hd : decode M.2.1 pc = .ok (.ifCond .gt off, 3)) (ht : (pc : Int) + off = (tgt : Int)) (kt : 0 < a → wx d M tgt L st σ K) (kf : ¬ 0 < a → wx d M (pc + 3) L st σ K) : wx d M pc L (.int a :: st) σ K := by
  intro X p l e R s m args below meth c Q nn hC hn hr H locs ls hW hS hl
  obtain ⟨hx, hb, hml, hown, hts, hret, hlk, hK, hNw, hnm, hdR, hlR, hcR, hsR⟩ := id hC
  exact lv_if_gt hx hb hd ht (fun q => kt q X p l e R s m args below meth c Q nn hC hn hr H locs ls hW hS hl) (fun q => kf q X p l e R s m args below meth c Q nn hC hn hr H locs ls hW hS hl)
theorem wx_if_le {a : Int32} {off : Int} {tgt : Nat} (hd : decode M.2.1 pc = .ok (.ifCond .le off, 3)) (ht : (pc : Int) + off = (tgt : Int)) (kt : a ≤ 0 → wx d M tgt L st σ K) (kf : ¬ a ≤ 0 → wx d M (pc + 3) L st σ K) : wx d M pc L (.int a :: st) σ K := by
  intro X p l e R s m args below meth c Q nn hC hn hr H locs ls hW hS hl
  obtain ⟨hx, hb, hml, hown, hts, hret, hlk, hK, hNw, hnm, hdR, hlR, hcR, hsR⟩ := id hC
  exact lv_if_le hx hb hd ht (fun q => kt q X p l e R s m args below meth c Q nn hC hn hr H locs ls hW hS hl) (fun q => kf q X p l e R s m args below meth c Q nn hC hn hr H locs ls hW hS hl)
theorem wx_goto {off : Int} {tgt : Nat} (hd : decode M.2.1 pc = .ok (.goto off, 3)) (ht : (pc : Int) + off = (tgt : Int)) (kk : wx d M tgt L st σ K) : wx d M pc L st σ K := by
  intro X p l e R s m args below meth c Q nn hC hn hr H locs ls hW hS hl
  obtain ⟨hx, hb, hml, hown, hts, hret, hlk, hK, hNw, hnm, hdR, hlR, hcR, hsR⟩ := id hC
  exact lv_goto hx hb hd ht (kk X p l e R s m args below meth c Q nn hC hn hr H locs ls hW hS hl)
theorem wx_tableIn {dflt lo hi : Int} {offs : Array Int} {len : Nat} {a : Int32} {off : Int} {tgt : Nat} (hd : decode M.2.1 pc = .ok (.tableswitch dflt lo hi offs, len)) (h1 : ¬ a.toInt < lo) (h2 : ¬ hi < a.toInt) (ho : offs[(a.toInt - lo).toNat]? = some off) (ht : (pc : Int) + off = (tgt : Int)) (kk : wx d M tgt L st σ K) : wx d M pc L (.int a :: st) σ K := by
  intro X p l e R s m args below meth c Q nn hC hn hr H locs ls hW hS hl
  obtain ⟨hx, hb, hml, hown, hts, hret, hlk, hK, hNw, hnm, hdR, hlR, hcR, hsR⟩ := id hC
  exact lv_tableIn hx hb hd h1 h2 ho ht (kk X p l e R s m args below meth c Q nn hC hn hr H locs ls hW hS hl)
theorem wx_tableOut {dflt lo hi : Int} {offs : Array Int} {len : Nat} {a : Int32} {tgt : Nat} (hd : decode M.2.1 pc = .ok (.tableswitch dflt lo hi offs, len)) (h : a.toInt < lo ∨ hi < a.toInt) (ht : (pc : Int) + dflt = (tgt : Int)) (kk : wx d M tgt L st σ K) : wx d M pc L (.int a :: st) σ K := by
  intro X p l e R s m args below meth c Q nn hC hn hr H locs ls hW hS hl
  obtain ⟨hx, hb, hml, hown, hts, hret, hlk, hK, hNw, hnm, hdR, hlR, hcR, hsR⟩ := id hC
  exact lv_tableOut hx hb hd h ht (kk X p l e R s m args below meth c Q nn hC hn hr H locs ls hW hS hl)
end ZST
end
section
/-! cells: fields and arrays -/
def zCl (ci : Nat) (C : String) (T : u_T) (ty : Nat → FieldType) : Prop := vwCl[ci]? = some (C, T, zN ci) ∧ ci < 10 ∧ (∀ w ∈ u_ws C T (zN ci), w ∈ zT) ∧ (∀ k, k < zN ci → parseFieldDescriptor (T k).2.2.1 = some (ty k)) ∧ (∀ a, a < zN ci → ∀ b, b < zN ci → a ≠ b → (T a).2.1 ≠ (T b).2.1) ∧ (∀ k, k < zN ci → (T k).1 = C) ∧ (∀ k, k < zN ci → defaultValue (ty k) = if zIR ci k then .null else .int 0)
/-- entry idx of own's pool is field j of the objects of kind ci -/
def zF (own : String) (idx ci j : Nat) (fin : Bool) (ty0 : FieldType) : Prop := ∃ (C : String) (T : u_T) (ty : Nat → FieldType), zCl ci C T ty ∧ j < zN ci ∧ Cond.fieldLink own idx C (T j).2.1 (T j).2.2.1 ∈ zT ∧ (T j).2.2.2 = fin ∧ ty j = ty0
section ZME
variable {d : Nat} {M : zMt} {pc : Nat} {L : List (Option Value)} {st : List Value} {σ : zS} {K : List Value → zS → Prop}
theorem wx_getI {idx ci j k : Nat} {fin : Bool} {ty0 : FieldType} (hd : decode M.2.1 pc = .ok (.getfield idx, 3)) (hf : zF M.1.cls idx ci j fin ty0) (hk : (zK k).1 = ci) (hj : zIR ci j = false) (hkn : k < σ.1) (kk : wx d M (pc + 3) L (.int (σ.2.2 k j) :: st) σ K) : wx d M pc L (.ref k :: st) σ K := by
  intro X p l e R s m args below meth c Q nn hC hn hr H locs ls hW hS hl
  obtain ⟨hx, hb, hml, hown, hts, hret, hlk, hK, hNw, hnm, hdR, hlR, hcR, hsR⟩ := id hC
  obtain ⟨C, T, ty, ⟨c1, c2, c3, c4, c5, c6, c7⟩, hjn, hlink, hfi, hty⟩ := hf
  have he : (zWs X σ)[k]? = some (X.2.1 + k, .inr (ci, zFs X σ.2.1 σ.2.2 ci k)) := by rw [zWs_get hkn, zE_obj hk c2]
  exact va_get (D := X.2.2.1) (ci := ci) (v := .int (σ.2.2 k j)) (C := C) (T := T) (N := zN ci) hx hb hts c3 hown hK hW.2.2.2.1 k he c1 j hjn (hts _ hlink) (fun x h => by rw [c6 j hjn] at h; exact h) (zFs_int hjn hj) hd (kk X p l e R s m args below meth c Q nn hC hn hr H locs ls hW hS hl)
theorem wx_getR {idx ci j k t : Nat} {fin : Bool} {ty0 : FieldType} (hd : decode M.2.1 pc = .ok (.getfield idx, 3)) (hf : zF M.1.cls idx ci j fin ty0) (hk : (zK k).1 = ci) (hj : zIR ci j = true) (hkn : k < σ.1) (ht : σ.2.1 k j = some t) (kk : wx d M (pc + 3) L (.ref t :: st) σ K) : wx d M pc L (.ref k :: st) σ K := by
  intro X p l e R s m args below meth c Q nn hC hn hr H locs ls hW hS hl
  obtain ⟨hx, hb, hml, hown, hts, hret, hlk, hK, hNw, hnm, hdR, hlR, hcR, hsR⟩ := id hC
  obtain ⟨C, T, ty, ⟨c1, c2, c3, c4, c5, c6, c7⟩, hjn, hlink, hfi, hty⟩ := hf
  have he : (zWs X σ)[k]? = some (X.2.1 + k, .inr (ci, zFs X σ.2.1 σ.2.2 ci k)) := by rw [zWs_get hkn, zE_obj hk c2]
  exact va_get (D := X.2.2.1) (ci := ci) (v := .ref (X.2.1 + t)) (C := C) (T := T) (N := zN ci) hx hb hts c3 hown hK hW.2.2.2.1 k he c1 j hjn (hts _ hlink) (fun x h => by rw [c6 j hjn] at h; exact h) (zFs_ref hjn hj ht) hd (kk X p l e R s m args below meth c Q nn hC hn hr H locs ls hW hS hl)
theorem zWX_put {X : zX} {s : State} {σ : zS} {H H1 : Heap} {rf' : zR} {mm' : zM} {k : Nat} {e : va_E} (hW : zWX X s σ H) (hz : H1.size = H.size) (hX : H1[X.1]? = H[X.1]?) (hk : k < σ.1) (he : e = zE X rf' mm' k) (h1 : ∀ a, a ≠ k → rf' a = σ.2.1 a) (h2 : ∀ a, a ≠ k → mm' a = σ.2.2 a)
    (hP : va_P X.2.2.1 vwCl ((zWs X σ).set k (X.2.1 + k, e)) H1) : zWX X s (σ.1, rf', mm') H1 := by
  obtain ⟨n, rf, mm⟩ := σ
  have hn : n ≤ 154 := hW.2.1
  have h154 : 154 ≠ k := fun q => by have : k < n := hk; omega
  refine ⟨by rw [hz]; exact hW.1, hW.2.1, hW.2.2.1, ?_, ?_⟩
  · rw [zWs_set (rf' := rf') (mm' := mm') hk he (fun a ha => zE_cong (h1 a ha) (h2 a ha))] at hP
    exact hP
  · show va_X X.1 ((rf' 154 0).getD 0) (mm' 154) s H1
    rw [h1 154 h154, h2 154 h154]
    exact hW.2.2.2.2.kept hX
theorem zNX {X : zX} {s : State} {σ : zS} {H : Heap} {k : Nat} (hW : zWX X s σ H) : X.1 ≠ X.2.1 + k := by have := hW.2.2.1; omega
/-- a put changes nothing that isn't at its own address -/
theorem zOff {A : Nat → Prop} {H0 H H1 : Heap} {locs locs1 : List Loc} : va_S A H0 H1 locs1 → H0.size ≤ H1.size := fun h => h.1
theorem wx_putI {idx ci j k : Nat} {ty0 : FieldType} {v : Int32} (hd : decode M.2.1 pc = .ok (.putfield idx, 3)) (hf : zF M.1.cls idx ci j false ty0) (hk : (zK k).1 = ci) (hj : zIR ci j = false) (hkn : k < σ.1) (hnar : narrow ty0 (.int v) = .int v) (hfit : fits ty0 (.int v) = true) (kk : wx d M (pc + 3) L st (σ.1, σ.2.1, zU σ.2.2 k j v) K) : wx d M pc L (.int v :: .ref k :: st) σ K := by
  intro X p l e R s m args below meth c Q nn hC hn hr H locs ls hW hS hl
  obtain ⟨hx, hb, hml, hown, hts, hret, hlk, hK, hNw, hnm, hdR, hlR, hcR, hsR⟩ := id hC
  obtain ⟨C, T, ty, ⟨c1, c2, c3, c4, c5, c6, c7⟩, hjn, hlink, hfi, hty⟩ := hf
  have he : (zWs X σ)[k]? = some (X.2.1 + k, .inr (ci, zFs X σ.2.1 σ.2.2 ci k)) := by rw [zWs_get hkn, zE_obj hk c2]
  have hap := va_apart (own := M.1.cls) hts c3 ty c4 c5 hK c1
  obtain ⟨r, h1, cell, q1, q2, q3, q4⟩ := hW.2.2.2.1 k _ he
  have hrr : r = (C, T, zN ci) := Option.some.inj (h1.symm.trans c1)
  subst hrr
  obtain ⟨hSl, hfc, kC, hkC, hkind⟩ := hK.1 ci _ c1
  obtain ⟨cf, kf, fi, f, hi, hsl⟩ := hSl j hjn
  have hlay := hts _ (c3 _ (u_in_lay hjn))
  unfold u_lay at hlay
  rw [if_neg (by rw [hfi]; decide)] at hlay
  have hst := (u_facts hfc hkC (u_lays hts c3 hjn) hi).1
  have h6 := u_store hfc hkC hkind hlay hi (c4 j hjn) (by rw [hty]; exact hnar) (by rw [hty]; exact hfit)
  refine W.putK hx hb (f := f) ⟨hown, hts _ hlink, ⟨_, _, _, by rw [← c6 j hjn]; exact hi⟩, hst⟩ (by rw [q2]; exact h6) q1 q3 (by rw [hsl]; exact k2_hasslot (q4 j hjn)) rfl rfl hd fun H' e1 e2 e3 => ?_
  rw [hsl] at e1 ⊢
  have hP' := va_P.set (e := .inr (ci, (zFs X σ.2.1 σ.2.2 ci k).set j (.int v))) hW.2.2.2.1 zWs_D he ⟨_, c1, t_OB.to (V := updV (vp_V (zFs X σ.2.1 σ.2.2 ci k)) j (.int v)) ⟨_, e1, q2, q3, t_set q4 hap hjn (.int v)⟩ (fun i _ => vp_updV_set (by rw [zFs_len]; exact hjn) (.int v) i)⟩ e3
  have hW' := zWX_put (rf' := σ.2.1) (mm' := zU σ.2.2 k j v) hW e2 (e3 _ (zNX hW)) hkn (by rw [zE_obj hk c2, zFs_set hj]) (fun _ _ => rfl) (fun a ha => zU_ne ha) hP'
  exact kk X p l e R s m args below meth c Q nn hC hn hr H' _ ls hW' (hS.put e2 e3 (Nat.le_add_right _ _)) hl
theorem wx_putR {idx ci j k t : Nat} {ty0 : FieldType} (hd : decode M.2.1 pc = .ok (.putfield idx, 3)) (hf : zF M.1.cls idx ci j true ty0) (hk : (zK k).1 = ci) (hj : zIR ci j = true) (hkn : k < σ.1) (hin : M.1.name = "<init>") (hcl : vwCl[ci]?.map (fun q => q.1) = some M.1.cls) (hnar : ∀ q : Nat, narrow ty0 (.ref q) = .ref q) (hfit : ∀ q : Nat, fits ty0 (.ref q) = true) (kk : wx d M (pc + 3) L st (σ.1, zUr σ.2.1 k j t, σ.2.2) K) : wx d M pc L (.ref t :: .ref k :: st) σ K := by
  intro X p l e R s m args below meth c Q nn hC hn hr H locs ls hW hS hl
  obtain ⟨hx, hb, hml, hown, hts, hret, hlk, hK, hNw, hnm, hdR, hlR, hcR, hsR⟩ := id hC
  obtain ⟨C, T, ty, ⟨c1, c2, c3, c4, c5, c6, c7⟩, hjn, hlink, hfi, hty⟩ := hf
  have hCo : C = M.1.cls := by rw [c1] at hcl; exact Option.some.inj hcl
  have he : (zWs X σ)[k]? = some (X.2.1 + k, .inr (ci, zFs X σ.2.1 σ.2.2 ci k)) := by rw [zWs_get hkn, zE_obj hk c2]
  have hap := va_apart (own := M.1.cls) hts c3 ty c4 c5 hK c1
  obtain ⟨r, h1, cell, q1, q2, q3, q4⟩ := hW.2.2.2.1 k _ he
  have hrr : r = (C, T, zN ci) := Option.some.inj (h1.symm.trans c1)
  subst hrr
  obtain ⟨hSl, hfc, kC, hkC, hkind⟩ := hK.1 ci _ c1
  obtain ⟨cf, kf, fi, f, hi, hsl⟩ := hSl j hjn
  have hlay := hts _ (c3 _ (u_in_lay hjn))
  unfold u_lay at hlay
  rw [if_pos hfi] at hlay
  have hst := (u_facts hfc hkC (u_lays hts c3 hjn) hi).1
  have hcf : m.cls = cf := by
    obtain ⟨_, _, c', _, _, _, -, -, hf', -, -, -, hown2, -⟩ := Cond.laysFinal_spec hlay
    have e1 : c' = cf := by have := hi.symm.trans hf'; simp at this; exact this.1.symm
    rw [c6 j hjn, hCo] at hown2
    rw [← e1]; exact Option.some.inj (hown.symm.trans hown2)
  have h6 := u_fits hfc hkC hkind (Or.inr hlay) hi (c4 j hjn) (v := .ref (X.2.1 + t)) (by rw [hty]; exact hnar _) (by rw [hty]; exact hfit _)
  refine W.putFinK hx hb hown (hts _ hlink) (by rw [← c6 j hjn]; exact hi) hst hcf (hnm.trans hin) (by rw [q2]; exact h6) q1 q3 (by rw [hsl]; exact k2_hasslot (q4 j hjn)) rfl rfl hd fun H' e1 e2 e3 => ?_
  rw [hsl] at e1 ⊢
  have hP' := va_P.set (e := .inr (ci, (zFs X σ.2.1 σ.2.2 ci k).set j (.ref (X.2.1 + t)))) hW.2.2.2.1 zWs_D he ⟨_, c1, t_OB.to (V := updV (vp_V (zFs X σ.2.1 σ.2.2 ci k)) j (.ref (X.2.1 + t))) ⟨_, e1, q2, q3, t_set q4 hap hjn (.ref (X.2.1 + t))⟩ (fun i _ => vp_updV_set (by rw [zFs_len]; exact hjn) (.ref (X.2.1 + t)) i)⟩ e3
  have hW' := zWX_put (rf' := zUr σ.2.1 k j t) (mm' := σ.2.2) hW e2 (e3 _ (zNX hW)) hkn (by rw [zE_obj hk c2, zFs_setr hj]) (fun a ha => zUr_ne ha) (fun _ _ => rfl) hP'
  exact kk X p l e R s m args below meth c Q nn hC hn hr H' _ ls hW' (hS.put e2 e3 (Nat.le_add_right _ _)) hl
theorem wx_iald {k n : Nat} {i : Int32} (hd : decode M.2.1 pc = .ok (.iaload, 1)) (hk : zK k = (10, n)) (hkn : k < σ.1) (hin : vp_in i n) (kk : wx d M (pc + 1) L (.int (σ.2.2 k i.toNatClampNeg) :: st) σ K) : wx d M pc L (.int i :: .ref k :: st) σ K := by
  intro X p l e R s m args below meth c Q nn hC hn hr H locs ls hW hS hl
  obtain ⟨hx, hb, hml, hown, hts, hret, hlk, hK, hNw, hnm, hdR, hlR, hcR, hsR⟩ := id hC
  have he : (zWs X σ)[k]? = some (X.2.1 + k, .inl (X.2.2.2.1, n, .inl (σ.2.2 k))) := by rw [zWs_get hkn, zE_int hk]
  exact va_iald hx hb hK hW.2.2.2.1 k 0 he rfl hin hd (kk X p l e R s m args below meth c Q nn hC hn hr H locs ls hW hS hl)
theorem wx_zald {k n : Nat} {i : Int32} (hd : decode M.2.1 pc = .ok (.baload, 1)) (hk : zK k = (11, n)) (hkn : k < σ.1) (hin : vp_in i n) (kk : wx d M (pc + 1) L (.int (σ.2.2 k i.toNatClampNeg) :: st) σ K) : wx d M pc L (.int i :: .ref k :: st) σ K := by
  intro X p l e R s m args below meth c Q nn hC hn hr H locs ls hW hS hl
  obtain ⟨hx, hb, hml, hown, hts, hret, hlk, hK, hNw, hnm, hdR, hlR, hcR, hsR⟩ := id hC
  have he : (zWs X σ)[k]? = some (X.2.1 + k, .inl (X.2.2.2.2.2, n, .inl (σ.2.2 k))) := by rw [zWs_get hkn, zE_bool hk]
  exact va_zald hx hb hK hW.2.2.2.1 k 2 he rfl hin hd (kk X p l e R s m args below meth c Q nn hC hn hr H locs ls hW hS hl)
theorem wx_aald {k n t : Nat} {i : Int32} (hd : decode M.2.1 pc = .ok (.aaload, 1)) (hk : zK k = (12, n)) (hkn : k < σ.1) (hin : vp_in i n) (ht : σ.2.1 k i.toNatClampNeg = some t) (kk : wx d M (pc + 1) L (.ref t :: st) σ K) : wx d M pc L (.int i :: .ref k :: st) σ K := by
  intro X p l e R s m args below meth c Q nn hC hn hr H locs ls hW hS hl
  obtain ⟨hx, hb, hml, hown, hts, hret, hlk, hK, hNw, hnm, hdR, hlR, hcR, hsR⟩ := id hC
  have he : (zWs X σ)[k]? = some (X.2.1 + k, .inl (X.2.2.2.2.1, n, .inr (.inr (.inr (.inr (fun i => (σ.2.1 k i).map (fun t => X.2.1 + t))))))) := by rw [zWs_get hkn, zE_out hk]
  have hlt : i.toNatClampNeg < n := Nat.not_le.mp fun q => hin (Or.inr q)
  exact W.aald (v := .ref (X.2.1 + t)) (ty := .array .int) hx hb (hW.2.2.2.1 k _ he) ((hK.2 1 (X.2.2.2.2.1, .array .int) rfl).1 n (fun j => va_rf ((σ.2.1 k j).map (fun t => X.2.1 + t)))) rfl (fun q => by cases q) (by show ¬ (i < 0 ∨ (arrV _ _ _).slots.size ≤ _); rw [arrV_size]; exact hin) (by show (arrV _ _ _).slots[_]? = _; rw [arrV_read _ _ hlt]; show some (va_rf ((σ.2.1 k i.toNatClampNeg).map (fun t => X.2.1 + t))) = _; rw [ht]; rfl) rfl rfl hd (kk X p l e R s m args below meth c Q nn hC hn hr H locs ls hW hS hl)
theorem wx_alen {k n : Nat} (hd : decode M.2.1 pc = .ok (.arraylength, 1)) (hk : zK k = (10, n)) (hkn : k < σ.1) (kk : wx d M (pc + 1) L (.int (Int32.ofNat n) :: st) σ K) : wx d M pc L (.ref k :: st) σ K := by
  intro X p l e R s m args below meth c Q nn hC hn hr H locs ls hW hS hl
  obtain ⟨hx, hb, hml, hown, hts, hret, hlk, hK, hNw, hnm, hdR, hlR, hcR, hsR⟩ := id hC
  have he : (zWs X σ)[k]? = some (X.2.1 + k, .inl (X.2.2.2.1, n, .inl (σ.2.2 k))) := by rw [zWs_get hkn, zE_int hk]
  exact va_alen hx hb hK hW.2.2.2.1 k 0 he rfl rfl hd (kk X p l e R s m args below meth c Q nn hC hn hr H locs ls hW hS hl)
theorem wx_alenA {k n : Nat} (hd : decode M.2.1 pc = .ok (.arraylength, 1)) (hk : zK k = (12, n)) (hkn : k < σ.1) (kk : wx d M (pc + 1) L (.int (Int32.ofNat n) :: st) σ K) : wx d M pc L (.ref k :: st) σ K := by
  intro X p l e R s m args below meth c Q nn hC hn hr H locs ls hW hS hl
  obtain ⟨hx, hb, hml, hown, hts, hret, hlk, hK, hNw, hnm, hdR, hlR, hcR, hsR⟩ := id hC
  have he : (zWs X σ)[k]? = some (X.2.1 + k, .inl (X.2.2.2.2.1, n, .inr (.inr (.inr (.inr (fun i => (σ.2.1 k i).map (fun t => X.2.1 + t))))))) := by rw [zWs_get hkn, zE_out hk]
  exact va_alen hx hb hK hW.2.2.2.1 k 1 he rfl rfl hd (kk X p l e R s m args below meth c Q nn hC hn hr H locs ls hW hS hl)
theorem wx_slen (hd : decode M.2.1 pc = .ok (.arraylength, 1)) (kk : wx d M (pc + 1) L (.int (Int32.ofNat ((σ.2.1 154 0).getD 0)) :: st) σ K) : wx d M pc L (.null :: st) σ K := by
  intro X p l e R s m args below meth c Q nn hC hn hr H locs ls hW hS hl
  obtain ⟨hx, hb, hml, hown, hts, hret, hlk, hK, hNw, hnm, hdR, hlR, hcR, hsR⟩ := id hC
  obtain ⟨scr, h1, h2, h3, h4, h5⟩ := hW.2.2.2.2
  exact W.alen (n := Int32.ofNat ((σ.2.1 154 0).getD 0)) hx hb h1 h2 (by rw [h4] <;> rfl) rfl rfl hd (kk X p l e R s m args below meth c Q nn hC hn hr H locs ls hW hS hl)
theorem wx_sld {i : Int32} (hd : decode M.2.1 pc = .ok (.iaload, 1)) (hin : vp_in i ((σ.2.1 154 0).getD 0)) (kk : wx d M (pc + 1) L (.int (σ.2.2 154 i.toNatClampNeg) :: st) σ K) : wx d M pc L (.int i :: .null :: st) σ K := by
  intro X p l e R s m args below meth c Q nn hC hn hr H locs ls hW hS hl
  obtain ⟨hx, hb, hml, hown, hts, hret, hlk, hK, hNw, hnm, hdR, hlR, hcR, hsR⟩ := id hC
  obtain ⟨scr, h1, h2, h3, h4, h5⟩ := hW.2.2.2.2
  have hlt : i.toNatClampNeg < (σ.2.1 154 0).getD 0 := Nat.not_le.mp fun q => hin (Or.inr q)
  exact W.iald (v := .int (σ.2.2 154 i.toNatClampNeg)) hx hb h1 h2 h3 (by rw [h4]; exact hin) (h5 _ hlt) rfl rfl hd (kk X p l e R s m args below meth c Q nn hC hn hr H locs ls hW hS hl)
theorem wx_iast {k n : Nat} {i v : Int32} (hd : decode M.2.1 pc = .ok (.iastore, 1)) (hk : zK k = (10, n)) (hkn : k < σ.1) (hin : vp_in i n) (kk : wx d M (pc + 1) L st (σ.1, σ.2.1, zU σ.2.2 k i.toNatClampNeg v) K) : wx d M pc L (.int v :: .int i :: .ref k :: st) σ K := by
  intro X p l e R s m args below meth c Q nn hC hn hr H locs ls hW hS hl
  obtain ⟨hx, hb, hml, hown, hts, hret, hlk, hK, hNw, hnm, hdR, hlR, hcR, hsR⟩ := id hC
  have he : (zWs X σ)[k]? = some (X.2.1 + k, .inl (X.2.2.2.1, n, .inl (σ.2.2 k))) := by rw [zWs_get hkn, zE_int hk]
  refine W.iast hx hb (hW.2.2.2.1 k _ he) ((hK.2 0 (X.2.2.2.1, .int) rfl).1 n (fun j => .int (σ.2.2 k j))) (fun q => by cases q) (by show ¬ (i < 0 ∨ (arrV _ _ _).slots.size ≤ _); rw [arrV_size]; exact hin) rfl rfl hd fun H1 e1 z oq => ?_
  have hat : va_at X.2.2.1 vwCl (X.2.1 + k, .inl (X.2.2.2.1, n, .inl (upd (σ.2.2 k) i.toNatClampNeg v))) H1 := by
    show H1[X.2.1 + k]? = some (vp_cell _ _)
    rw [e1]
    rw [vp_cell_i, vp_cell_i, arrV_store]
    congr 2
    funext q
    by_cases hq : q = i.toNatClampNeg
    · subst hq
      simp [updV, upd]
    · simp [updV, upd, hq]
  have hP' := va_P.set hW.2.2.2.1 zWs_D he hat oq
  have hW' := zWX_put (rf' := σ.2.1) (mm' := zU σ.2.2 k i.toNatClampNeg v) hW z (oq _ (zNX hW)) hkn (by rw [zE_int hk, zU_at]) (fun _ _ => rfl) (fun a ha => zU_ne ha) hP'
  exact kk X p l e R s m args below meth c Q nn hC hn hr H1 _ ls hW' (hS.put z oq (Nat.le_add_right _ _)) hl
theorem wx_zast {k n : Nat} {i v : Int32} (hd : decode M.2.1 pc = .ok (.bastore, 1)) (hk : zK k = (11, n)) (hkn : k < σ.1) (hin : vp_in i n) (hv : vp_nar .boolean v = v) (kk : wx d M (pc + 1) L st (σ.1, σ.2.1, zU σ.2.2 k i.toNatClampNeg v) K) : wx d M pc L (.int v :: .int i :: .ref k :: st) σ K := by
  intro X p l e R s m args below meth c Q nn hC hn hr H locs ls hW hS hl
  obtain ⟨hx, hb, hml, hown, hts, hret, hlk, hK, hNw, hnm, hdR, hlR, hcR, hsR⟩ := id hC
  have he : (zWs X σ)[k]? = some (X.2.1 + k, .inl (X.2.2.2.2.2, n, .inl (σ.2.2 k))) := by rw [zWs_get hkn, zE_bool hk]
  refine W.zast hx hb (hW.2.2.2.1 k _ he) ((hK.2 2 (X.2.2.2.2.2, .boolean) rfl).1 n (fun j => .int (σ.2.2 k j))) (fun q => by cases q) (by show ¬ (i < 0 ∨ (arrV _ _ _).slots.size ≤ _); rw [arrV_size]; exact hin) rfl rfl hd fun H1 e1 z oq => ?_
  have hat : va_at X.2.2.1 vwCl (X.2.1 + k, .inl (X.2.2.2.2.2, n, .inl (upd (σ.2.2 k) i.toNatClampNeg (vp_nar .boolean v)))) H1 := by
    show H1[X.2.1 + k]? = some (vp_cell _ _)
    rw [e1]
    rw [vp_cell_i, vp_cell_i, arrV_store]
    congr 2
    funext q
    by_cases hq : q = i.toNatClampNeg
    · subst hq
      simp [updV, upd]
      rfl
    · simp [updV, upd, hq]
  rw [hv] at hat
  have hP' := va_P.set hW.2.2.2.1 zWs_D he hat oq
  have hW' := zWX_put (rf' := σ.2.1) (mm' := zU σ.2.2 k i.toNatClampNeg v) hW z (oq _ (zNX hW)) hkn (by rw [zE_bool hk, zU_at]) (fun _ _ => rfl) (fun a ha => zU_ne ha) hP'
  exact kk X p l e R s m args below meth c Q nn hC hn hr H1 _ ls hW' (hS.put z oq (Nat.le_add_right _ _)) hl
theorem wx_iret {v : Int32} {ty : FieldType} (hd : decode M.2.1 pc = .ok (.ireturn, 1)) (hty : M.2.2.2.1 = some ty) (hnar : narrow ty (.int v) = .int v) (hz : M.2.2.2.2.2 = 0 ∨ σ.1 = M.2.2.2.2.2) (hK0 : K [.int v] σ) : wx d M pc L [.int v] σ K := by
  intro X p l e R s m args below meth c Q nn hC hn hr H locs ls hW hS hl
  refine hr [.int v] σ H locs pc ls hK0 ?_ hW hS ⟨hd, ty, hty, hnar⟩
  unfold zEnd
  by_cases h : M.2.2.2.2.2 = 0
  · rw [if_pos h]; exact hn h
  · rw [if_neg h]; exact hz.resolve_left h
theorem wx_lret {v : Int64} (hd : decode M.2.1 pc = .ok (.lreturn, 1)) (hty : M.2.2.2.1 = some .long) (hz : M.2.2.2.2.2 = 0 ∨ σ.1 = M.2.2.2.2.2) (hK0 : K [.long v] σ) : wx d M pc L [.long v] σ K := by
  intro X p l e R s m args below meth c Q nn hC hn hr H locs ls hW hS hl
  refine hr [.long v] σ H locs pc ls hK0 ?_ hW hS ⟨hd, hty⟩
  unfold zEnd
  by_cases h : M.2.2.2.2.2 = 0
  · rw [if_pos h]; exact hn h
  · rw [if_neg h]; exact hz.resolve_left h
theorem wx_vret (hd : decode M.2.1 pc = .ok (.return_, 1)) (hty : M.2.2.2.1 = none) (hz : M.2.2.2.2.2 = 0 ∨ σ.1 = M.2.2.2.2.2) (hK0 : K [] σ) : wx d M pc L [] σ K := by
  intro X p l e R s m args below meth c Q nn hC hn hr H locs ls hW hS hl
  refine hr [] σ H locs pc ls hK0 ?_ hW hS ⟨hd, hty⟩
  unfold zEnd
  by_cases h : M.2.2.2.2.2 = 0
  · rw [if_pos h]; exact hn h
  · rw [if_neg h]; exact hz.resolve_left h
end ZME
end
section
/-! calls, a method's contract, making cells -/
def zCm (M' : zMt) : Prop := Cond.code M'.1 M'.2.1 M'.2.2.1 M'.2.2.2.1 ∈ zT ∧ Cond.initialized M'.1.cls ∈ zT ∧ (M'.1.cls ≠ "java/lang/invoke/MethodHandle" ∧ M'.1.cls ≠ "java/lang/invoke/VarHandle") ∧ M'.2.2.1 ≤ 21 ∧ plainFor M'.1 = true
def zNp (M' : zMt) (n : Nat) : Prop := (parseMethodDescriptor M'.1.desc).map (fun d => d.parameters.length) = some n
def zIV (M' : zMt) : Prop := Cond.instanceMethod M'.1 ∈ zT ∧ Cond.selects M'.1.cls M'.1 M'.1 ∈ zT
theorem zCat {X : zX} {rest : List Value} : ((rest.map (zV X)).map fun v => v.category).sum = (rest.map fun v => v.category).sum := by
  rw [List.map_map]
  exact congrArg List.sum (List.map_congr_left (fun v _ => zV_cat))
theorem zMet_back {X : zX} {p : Program} {l : Launch} {e : Env} {R : Room} {s : State} {m : MethodId} {args : Array Value} {below : List Frame} {meth : Method} {c : Code} {Q : State → Prop} {H : Heap} {locs : List Loc} {cells slots mc ms pc n : Nat} {ls : Array Slot} {rest : List Value} {st0 : List Value} {M' : zMt} {K' : List Value → zS → Prop} {a : Array Value}
    (hr : va_Run p l e R s m args below meth c H locs cells slots mc ms (F0 m pc ls st0) rest (zQc X M' n K' a) (zAp X)) (hS : va_S (zAp X) s.heap H locs)
    (kk : ∀ (r : List Value) (σ' : zS) (H1 : Heap) (locs1 : List Loc), K' r σ' → zEnd M' n σ' → zWX X s σ' H1 → va_S (zAp X) s.heap H1 locs1 → W p l e R s m args below meth c H1 locs1 (cells + mc) (slots + ms) Q (F0 m (pc + 3) ls (r.map (zV X) ++ rest))) : W p l e R s m args below meth c H locs cells slots Q (F0 m pc ls st0) := by
  intro T hT X0
  obtain ⟨v, st₀, t, T', L, h0, X', hL, e1, e2, ⟨r, σ', hK', hEnd, hlen, hoc, hWX, hz, hk⟩, st⟩ := hr T hT X0
  rw [h0] at hz hk
  have hvm : s.vm.Alike t.vm := by rw [← e2]; exact X'.warmed.alike
  have hv : v.toList = r.map (zV X) := by
    cases hoc
    match r, hlen with
    | [], _ => rfl
    | [x], _ => rfl
  have hWX' : zWX X s σ' T'.heap := by rw [e1]; exact zWX_moved (hvm.symm) hWX
  obtain ⟨t2, a1, b1⟩ := kk r σ' T'.heap (locs ++ L) hK' hEnd hWX'
    ⟨Nat.le_trans hS.1 (by rw [e1]; exact hz), fun q h1 h2 => by rw [e1, hk q (Nat.lt_of_lt_of_le h1 hS.1) h2]; exact hS.2.1 q h1 h2, fun q hq => by
      rcases List.mem_append.mp hq with h | h
      · exact hS.2.2 q h
      · exact hL q h⟩ T' rfl X'
  refine ⟨t2, ?_, b1⟩
  rw [← hv] at a1
  exact st t2 a1
theorem zPc_blind {X : zX} {av : List Value} {σ : zS} : FrameBlind (zPc X av σ) := by
  intro a U g mk q
  obtain ⟨q0, q1, q2, q3⟩ := q
  exact ⟨q0, zWX_moved (s := U) (t := U.calling g mk a) (Vm.Alike.refl U.vm) q1, va_K.moved (u := U) (U := U.calling g mk a) (Vm.Alike.refl U.vm) q2, zNw_same (s := U) (U := U.calling g mk a) rfl q3⟩
theorem zPc_at {X : zX} {av : List Value} {σ : zS} {s : State} {H : Heap} (hW : zWX X s σ H) (hK : va_K X.2.2.1 vwCl (zTy X) s) (hN : zNw s) : ∀ U : State, U.heap = H → s.WarmedH U.vm → zPc X av σ (av.map (zV X)).toArray U := by
  intro U hU hw
  exact ⟨rfl, by rw [hU]; exact zWX_moved hw.alike hW, va_K.moved hw.alike hK, zNw_warm hw hN⟩
theorem zWd_code {M : zMt} : Cond.code M.1 M.2.1 M.2.2.1 M.2.2.2.1 ∈ zWd M := List.mem_cons_self
section ZCA
variable {d : Nat} {M M' : zMt} {pc idx : Nat} {L : List (Option Value)} {rest av : List Value} {σ : zS} {K : List Value → zS → Prop}
/-- the room of a caller for a callee: no new cells, or a made part of the caller's own -/
def zRoom (M M' : zMt) (n : Nat) : Prop := M'.2.2.2.2.2 = 0 ∨ (M.2.2.2.2.2 ≠ 0 ∧ M'.2.2.2.2.2 ≠ 0 ∧ n = M'.2.2.2.2.1 ∧ M.2.2.2.2.1 ≤ M'.2.2.2.2.1 ∧ M'.2.2.2.2.1 ≤ M'.2.2.2.2.2 ∧ M'.2.2.2.2.2 ≤ M.2.2.2.2.2)
theorem zRoom_cells {M M' : zMt} {R : Room} {n : Nat} (h : zRoom M M' n) (h1 : zcc M M.2.2.2.2.2 ≤ R.cells) (h2 : zss M M.2.2.2.2.2 ≤ R.slots) (hn : n ≤ M.2.2.2.2.2 ∨ M.2.2.2.2.2 = 0) : zcc M n + zcc M' M'.2.2.2.2.2 ≤ R.cells ∧ zss M n + zss M' M'.2.2.2.2.2 ≤ R.slots := by
  unfold zcc zss at *
  rcases h with h | ⟨a1, a2, a3, a4, a5, a6⟩
  · rw [if_pos h, if_pos h]
    by_cases hm : M.2.2.2.2.2 = 0
    · rw [if_pos hm, if_pos hm]; omega
    · rw [if_neg hm] at h1 h2 ⊢
      rw [if_neg hm]
      have := zSum_mono (hn.resolve_right hm)
      have := hn.resolve_right hm
      omega
  · rw [if_neg a1] at h1 h2 ⊢
    rw [if_neg a1, if_neg a2, if_neg a2]
    subst a3
    have s1 := zSum_mono a4
    have s2 := zSum_mono a5
    have s3 := zSum_mono a6
    omega
theorem zRoom_end {M M' : zMt} {n : Nat} {σ' : zS} (h : zRoom M M' n) (he : zEnd M' n σ') : zcc M n + zcc M' M'.2.2.2.2.2 = zcc M σ'.1 ∧ zss M n + zss M' M'.2.2.2.2.2 = zss M σ'.1 ∧ (M.2.2.2.2.2 = 0 → σ'.1 = n) ∧ (σ'.1 = n ∨ σ'.1 ≤ M.2.2.2.2.2) := by
  unfold zcc zss zEnd at *
  rcases h with h | ⟨a1, a2, a3, a4, a5, a6⟩
  · rw [if_pos h] at he
    rw [if_pos h, if_pos h, he]
    exact ⟨rfl, rfl, fun _ => rfl, Or.inl rfl⟩
  · rw [if_neg a2] at he
    rw [if_neg a1, if_neg a1, if_neg a1, if_neg a1, if_neg a2, if_neg a2, he]
    subst a3
    have s1 := zSum_mono a4
    have s2 := zSum_mono a5
    exact ⟨by omega, by omega, fun h => absurd h a1, Or.inr a6⟩
theorem wx_callV {ci k n : Nat} (hd : decode M.2.1 pc = .ok (.invokevirtual idx, 3)) (hm : zCm M') (hi : zIV M') (hlink : Cond.methodLink M.1.cls idx M'.1 ∈ zT) (hnp : zNp M' n) (hn0 : av.length = n) (hk : (zK k).1 = ci) (hci : ci < 10) (hcl : vwCl[ci]?.map (fun q => q.1) = some M'.1.cls) (hkn : k < σ.1) (hrest : (rest.map fun v => v.category).sum ≤ 8) (hrm : zRoom M M' σ.1) (hnn : σ.1 ≤ M.2.2.2.2.2 ∨ M.2.2.2.2.2 = 0)
    (kk : wm d M' (.ref k :: av) σ (fun r σ' => wx (d + 1) M (pc + 3) L (r ++ rest) σ' K)) : wx (d + 1) M pc L (av.reverse ++ .ref k :: rest) σ K := by
  intro X p l e R s m args below meth c Q nn hC hn hr H locs ls hW hS hl
  obtain ⟨hx, hb, hml, hown, hts, hret, hlk, hK, hNw, hnm, hdR, hlR, hcR, hsR⟩ := id hC
  obtain ⟨m1, m2, m3, m4, m5⟩ := hm
  obtain ⟨q, hq⟩ : ∃ q, vwCl[ci]? = some q := by
    cases h : vwCl[ci]? with
    | none => rw [h] at hcl; cases hcl
    | some q => exact ⟨q, rfl⟩
  have hqn : q.1 = M'.1.cls := by rw [hq] at hcl; exact Option.some.inj hcl
  have he : (zWs X σ)[k]? = some (X.2.1 + k, .inr (ci, zFs X σ.2.1 σ.2.2 ci k)) := by rw [zWs_get hkn, zE_obj hk hci]
  have hrecv := va_recv hK hW.2.2.2.1 hq he
  rw [hqn] at hrecv
  have cb : CallW R s args M.1.cls M'.1.cls idx M'.1 M'.2.1 M'.2.2.1 M'.2.2.2.1 (zWd M') (zRm d M') (zcc M' M'.2.2.2.2.2) (zss M' M'.2.2.2.2.2) n :=
    ⟨⟨rfl, rfl, hdR, by show 8 + (M'.2.2.1 + 11) + 40 * d ≤ R.locals; omega, zT_pay hts m1, zWd_code, hts _ m1, hts _ m2, m3, fun sig h => by rw [zNp, h] at hnp; exact (Option.some.inj hnp).symm, hts _ hlink⟩, hts _ hi.1, hts _ hi.2⟩
  have hrun := va_runV (cells := zcc M σ.1) (slots := zss M σ.1) (locs := locs) (l := l) (e := e) (below := below) (meth := meth) (As := av.map (zV X)) (rest := rest.map (zV X)) (g := F0 m pc ls ((av.reverse ++ .ref k :: rest).map (zV X))) (b := X.2.1 + k)
    ⟨hx, hb, hml, hown, hts⟩ (kk X l) cb ⟨zPc_blind, hrecv, zPc_at hW hK hNw⟩ rfl (by rw [List.length_map]; exact hn0) hl.1 (by simp [zV]) (lv_room (by rw [zCat]; exact hrest)) hd (zRoom_cells hrm hcR hsR hnn)
  refine zMet_back hrun hS fun r σ' H1 locs1 hK1 hEnd hW1 hS1 => ?_
  obtain ⟨g1, g2, g3, -⟩ := zRoom_end hrm hEnd
  have := hK1 X p l e R s m args below meth c Q nn hC (fun q => (g3 q).trans (hn q)) hr H1 locs1 ls hW1 hS1 hl
  rw [g1, g2]
  rw [List.map_append] at this
  exact this
theorem wx_callS {n : Nat} (hd : decode M.2.1 pc = .ok (.invokestatic idx, 3)) (hm : zCm M') (hi : Cond.static M'.1 ∈ zT) (hlink : Cond.methodLink M.1.cls idx M'.1 ∈ zT) (hnp : zNp M' n) (hn0 : av.length = n) (hrest : (rest.map fun v => v.category).sum ≤ 8) (hrm : zRoom M M' σ.1) (hnn : σ.1 ≤ M.2.2.2.2.2 ∨ M.2.2.2.2.2 = 0)
    (kk : wm d M' av σ (fun r σ' => wx (d + 1) M (pc + 3) L (r ++ rest) σ' K)) : wx (d + 1) M pc L (av.reverse ++ rest) σ K := by
  intro X p l e R s m args below meth c Q nn hC hn hr H locs ls hW hS hl
  obtain ⟨hx, hb, hml, hown, hts, hret, hlk, hK, hNw, hnm, hdR, hlR, hcR, hsR⟩ := id hC
  obtain ⟨m1, m2, m3, m4, m5⟩ := hm
  have cb : CallB R s args M.1.cls idx M'.1 M'.2.1 M'.2.2.1 M'.2.2.2.1 (zWd M') (zRm d M') (zcc M' M'.2.2.2.2.2) (zss M' M'.2.2.2.2.2) n ∧ (Cond.static M'.1).before args s = true :=
    ⟨⟨rfl, rfl, hdR, by show 8 + (M'.2.2.1 + 11) + 40 * d ≤ R.locals; omega, zT_pay hts m1, zWd_code, hts _ m1, hts _ m2, m3, fun sig h => by rw [zNp, h] at hnp; exact (Option.some.inj hnp).symm, hts _ hlink⟩, hts _ hi⟩
  have hrun := va_runS (cells := zcc M σ.1) (slots := zss M σ.1) (locs := locs) (l := l) (e := e) (below := below) (meth := meth) (As := av.map (zV X)) (rest := rest.map (zV X)) (g := F0 m pc ls ((av.reverse ++ rest).map (zV X)))
    ⟨hx, hb, hml, hown, hts⟩ (kk X l) cb ⟨zPc_blind, zPc_at hW hK hNw⟩ rfl (by rw [List.length_map]; exact hn0) hl.1 (by simp) (lv_room (by rw [zCat]; exact hrest)) hd (zRoom_cells hrm hcR hsR hnn)
  refine zMet_back hrun hS fun r σ' H1 locs1 hK1 hEnd hW1 hS1 => ?_
  obtain ⟨g1, g2, g3, -⟩ := zRoom_end hrm hEnd
  have := hK1 X p l e R s m args below meth c Q nn hC (fun q => (g3 q).trans (hn q)) hr H1 locs1 ls hW1 hS1 hl
  rw [g1, g2]
  rw [List.map_append] at this
  exact this
theorem wx_callSN {n : Nat} {host : String} (hd : decode M.2.1 pc = .ok (.invokestatic idx, 3)) (hm : zCm M') (hi : Cond.static M'.1 ∈ zT) (hlink : Cond.methodLinkNest M.1.cls idx M'.1 host ∈ zNest) (hnp : zNp M' n) (hn0 : av.length = n) (hrest : (rest.map fun v => v.category).sum ≤ 8) (hrm : zRoom M M' σ.1) (hnn : σ.1 ≤ M.2.2.2.2.2 ∨ M.2.2.2.2.2 = 0)
    (kk : wm d M' av σ (fun r σ' => wx (d + 1) M (pc + 3) L (r ++ rest) σ' K)) : wx (d + 1) M pc L (av.reverse ++ rest) σ K := by
  intro X p l e R s m args below meth c Q nn hC hn hr H locs ls hW hS hl
  obtain ⟨hx, hb, hml, hown, hts, hret, hlk, hK, hNw, hnm, hdR, hlR, hcR, hsR⟩ := id hC
  obtain ⟨m1, m2, m3, m4, m5⟩ := hm
  have cb : va_CN R s args M.1.cls idx M'.1 host M'.2.1 M'.2.2.1 M'.2.2.2.1 (zWd M') (zRm d M') (zcc M' M'.2.2.2.2.2) (zss M' M'.2.2.2.2.2) n ∧ (Cond.static M'.1).before args s = true ∧ True :=
    ⟨⟨⟨rfl, rfl, hdR, by show 8 + (M'.2.2.1 + 11) + 40 * d ≤ R.locals; omega, zT_pay hts m1, zWd_code⟩, hts _ m1, hts _ m2, m3, fun sig h => by rw [zNp, h] at hnp; exact (Option.some.inj hnp).symm, va_Nw.use rfl (hNw.1 _ hlink)⟩, hts _ hi, trivial⟩
  have hrun := va_runSN (cells := zcc M σ.1) (slots := zss M σ.1) (locs := locs) (l := l) (e := e) (below := below) (meth := meth) (As := av.map (zV X)) (rest := rest.map (zV X)) (g := F0 m pc ls ((av.reverse ++ rest).map (zV X)))
    ⟨hx, hb, hml, hown, hts⟩ (kk X l) cb ⟨zPc_blind, zPc_at hW hK hNw⟩ rfl (by rw [List.length_map]; exact hn0) hl.1 (by simp) (lv_room (by rw [zCat]; exact hrest)) hd (zRoom_cells hrm hcR hsR hnn)
  refine zMet_back hrun hS fun r σ' H1 locs1 hK1 hEnd hW1 hS1 => ?_
  obtain ⟨g1, g2, g3, -⟩ := zRoom_end hrm hEnd
  have := hK1 X p l e R s m args below meth c Q nn hC (fun q => (g3 q).trans (hn q)) hr H1 locs1 ls hW1 hS1 hl
  rw [g1, g2]
  rw [List.map_append] at this
  exact this
theorem wx_callI {n k : Nat} (hd : decode M.2.1 pc = .ok (.invokespecial idx, 3)) (hm : zCm M') (hi : Cond.instanceMethod M'.1 ∈ zT) (hlink : Cond.methodLink M.1.cls idx M'.1 ∈ zT) (hnp : zNp M' n) (hin : M'.1.name = "<init>") (hvo : M'.2.2.2.1 = none) (hn0 : av.length = n) (hrest : (rest.map fun v => v.category).sum ≤ 8) (hrm : zRoom M M' σ.1) (hnn : σ.1 ≤ M.2.2.2.2.2 ∨ M.2.2.2.2.2 = 0)
    (kk : wm d M' (.ref k :: av) σ (fun r σ' => wx (d + 1) M (pc + 3) L (r ++ rest) σ' K)) : wx (d + 1) M pc L (av.reverse ++ .ref k :: rest) σ K := by
  intro X p l e R s m args below meth c Q nn hC hn hr H locs ls hW hS hl
  obtain ⟨hx, hb, hml, hown, hts, hret, hlk, hK, hNw, hnm, hdR, hlR, hcR, hsR⟩ := id hC
  obtain ⟨m1, m2, m3, m4, m5⟩ := hm
  have cb : CallB R s args M.1.cls idx M'.1 M'.2.1 M'.2.2.1 none (zWd M') (zRm d M') (zcc M' M'.2.2.2.2.2) (zss M' M'.2.2.2.2.2) n ∧ M'.1.name = "<init>" ∧ (Cond.instanceMethod M'.1).before args s = true :=
    ⟨⟨rfl, rfl, hdR, by show 8 + (M'.2.2.1 + 11) + 40 * d ≤ R.locals; omega, zT_pay hts m1, by rw [← hvo]; exact zWd_code, by rw [← hvo]; exact hts _ m1, hts _ m2, m3, fun sig h => by rw [zNp, h] at hnp; exact (Option.some.inj hnp).symm, hts _ hlink⟩, hin, hts _ hi⟩
  have hrun := va_runI (cells := zcc M σ.1) (slots := zss M σ.1) (locs := locs) (l := l) (e := e) (below := below) (meth := meth) (As := av.map (zV X)) (rest := rest.map (zV X)) (g := F0 m pc ls ((av.reverse ++ .ref k :: rest).map (zV X))) (b := X.2.1 + k)
    ⟨hx, hb, hml, hown, hts⟩ (kk X l) cb ⟨zPc_blind, zPc_at hW hK hNw⟩ rfl (by rw [List.length_map]; exact hn0) hl.1 (by simp [zV]) (lv_room (by rw [zCat]; exact hrest)) hd (zRoom_cells hrm hcR hsR hnn)
  refine zMet_back hrun hS fun r σ' H1 locs1 hK1 hEnd hW1 hS1 => ?_
  obtain ⟨g1, g2, g3, -⟩ := zRoom_end hrm hEnd
  have := hK1 X p l e R s m args below meth c Q nn hC (fun q => (g3 q).trans (hn q)) hr H1 locs1 ls hW1 hS1 hl
  rw [g1, g2]
  rw [List.map_append] at this
  exact this
theorem wx_callIN {n k : Nat} {host : String} (hd : decode M.2.1 pc = .ok (.invokespecial idx, 3)) (hm : zCm M') (hi : Cond.instanceMethod M'.1 ∈ zT) (hlink : Cond.methodLinkNest M.1.cls idx M'.1 host ∈ zNest) (hnp : zNp M' n) (hin : M'.1.name = "<init>") (hvo : M'.2.2.2.1 = none) (hn0 : av.length = n) (hrest : (rest.map fun v => v.category).sum ≤ 8) (hrm : zRoom M M' σ.1) (hnn : σ.1 ≤ M.2.2.2.2.2 ∨ M.2.2.2.2.2 = 0)
    (kk : wm d M' (.ref k :: av) σ (fun r σ' => wx (d + 1) M (pc + 3) L (r ++ rest) σ' K)) : wx (d + 1) M pc L (av.reverse ++ .ref k :: rest) σ K := by
  intro X p l e R s m args below meth c Q nn hC hn hr H locs ls hW hS hl
  obtain ⟨hx, hb, hml, hown, hts, hret, hlk, hK, hNw, hnm, hdR, hlR, hcR, hsR⟩ := id hC
  obtain ⟨m1, m2, m3, m4, m5⟩ := hm
  have cb : va_CN R s args M.1.cls idx M'.1 host M'.2.1 M'.2.2.1 none (zWd M') (zRm d M') (zcc M' M'.2.2.2.2.2) (zss M' M'.2.2.2.2.2) n ∧ M'.1.name = "<init>" ∧ (Cond.instanceMethod M'.1).before args s = true :=
    ⟨⟨⟨rfl, rfl, hdR, by show 8 + (M'.2.2.1 + 11) + 40 * d ≤ R.locals; omega, zT_pay hts m1, by rw [← hvo]; exact zWd_code⟩, by rw [← hvo]; exact hts _ m1, hts _ m2, m3, fun sig h => by rw [zNp, h] at hnp; exact (Option.some.inj hnp).symm, va_Nw.use rfl (hNw.1 _ hlink)⟩, hin, hts _ hi⟩
  have hrun := va_runIN (cells := zcc M σ.1) (slots := zss M σ.1) (locs := locs) (l := l) (e := e) (below := below) (meth := meth) (As := av.map (zV X)) (rest := rest.map (zV X)) (g := F0 m pc ls ((av.reverse ++ .ref k :: rest).map (zV X))) (b := X.2.1 + k)
    ⟨hx, hb, hml, hown, hts⟩ (kk X l) cb ⟨zPc_blind, zPc_at hW hK hNw⟩ rfl (by rw [List.length_map]; exact hn0) hl.1 (by simp [zV]) (lv_room (by rw [zCat]; exact hrest)) hd (zRoom_cells hrm hcR hsR hnn)
  refine zMet_back hrun hS fun r σ' H1 locs1 hK1 hEnd hW1 hS1 => ?_
  obtain ⟨g1, g2, g3, -⟩ := zRoom_end hrm hEnd
  have := hK1 X p l e R s m args below meth c Q nn hC (fun q => (g3 q).trans (hn q)) hr H1 locs1 ls hW1 hS1 hl
  rw [g1, g2]
  rw [List.map_append] at this
  exact this
theorem wx_objInit {k : Nat} (hd : decode M.2.1 pc = .ok (.invokespecial idx, 3)) (h1 : Cond.methodLink M.1.cls idx objectInit ∈ zT) (h2 : Cond.instanceMethod objectInit ∈ zT) (h3 : Cond.code objectInit ⟨#[0xb1]⟩ 1 none ∈ zT) (hrest : (rest.map fun v => v.category).sum ≤ 8) (kk : wx (d + 1) M (pc + 3) L rest σ K) : wx (d + 1) M pc L (.ref k :: rest) σ K := by
  intro X p l e R s m args below meth c Q nn hC hn hr H locs ls hW hS hl
  obtain ⟨hx, hb, hml, hown, hts, hret, hlk, hK, hNw, hnm, hdR, hlR, hcR, hsR⟩ := id hC
  have hcs : ((rest.map (zV X)).map fun v => v.category).sum ≤ 8 := by rw [zCat]; exact hrest
  exact W.objInit hx hb hown (hts _ h1) (hts _ h2) (hts _ h3) rfl (by rw [hml]; exact hl.1) rfl hd (by omega) (by show 2 * 0 + ((rest.map (zV X)).map fun v => v.category).sum + 12 ≤ R.locals; omega) (kk X p l e R s m args below meth c Q nn hC hn hr H locs ls hW hS hl)
theorem zMet_ofW {l : Launch} {y : MethodName} {ws ws' : List Cond} {rm : Room} {Pc : Array Value → State → Prop} {Qc : Array Value → State → Outcome → State → Prop} {mc ms : Nat} {free : Addr → Prop} {cc : ByteArray} {maxL : Nat} {ret : Option FieldType}
    (hy : plainFor y = true) (hw : ws = Cond.code y cc maxL ret :: ws')
    (body : ∀ p e s m args below meth c s₁, BodyLoose p l y (headSpec ws rm) cc maxL ret e s m args below meth c s₁ → c.maxLocals = maxL → Pc args s →
      W p l e (headSpec ws rm).room s m args below meth c s.heap [] 0 0 (MQ below Qc args s mc ms free) (entryFrame m args maxL)) : Met l y ws rm Pc Qc mc ms free := by
  refine MetFree.of_bodyRF (code := cc) (maxLocals := maxL) (ret := ret) hy ?_ ?_
  · intro args s m h hn
    obtain ⟨meth, c, h1, h2, h3, h4, h5, h6, -, -⟩ := Cond.code_spec hn (atoms_spec (ws := ws) h _ (by rw [hw]; exact List.mem_cons_self))
    exact ⟨meth, c, h1, h2, h3, h4, h5, h6⟩
  · intro p e s m args below meth c s₁ B hml hP _ hst
    have hh0 : s₁.heap = s.heap := by rw [B.state]; rfl
    obtain ⟨t, a1, o, b1, b2, b3⟩ := body p e s m args below meth c s₁ B hml hP s₁ hh0 (Stand.of_body B)
    exact ⟨t, o, hst.trans a1, b1, b2, ⟨b3.1, b3.2⟩⟩
/-- a method's contract out of its walk -/
theorem wm_of {nL : Nat} {L0 : List (Option Value)} (hm : zCm M) (hz : M.2.2.2.2.2 = 0 ∨ σ.1 = M.2.2.2.2.1) (hlen : (zArgs av).length ≤ M.2.2.1) (hL : zArgs av ++ List.replicate (M.2.2.1 - (zArgs av).length) none = L0) (h : wx d M 0 L0 [] σ K) : wm d M av σ K := by
  intro X l
  obtain ⟨m1, m2, m3, m4, m5⟩ := hm
  refine zMet_ofW (cc := M.2.1) (maxL := M.2.2.1) (ret := M.2.2.2.1) m5 rfl ?_
  intro p e s m args below meth c s₁ B hml hv
  obtain ⟨rfl, hW, hK, hN⟩ := hv
  have hts0 := atoms_spec (ws := zWd M) B.pre
  have hC : zC X d M p (headSpec (zWd M) (zRm d M)).room s m (av.map (zV X)).toArray meth c :=
    ⟨B.exec, B.bytes, hml, findClass_of_methodNamed B.named, fun w hw => hts0 w (List.mem_cons_of_mem _ hw), B.returns, B.notSynchronized, hK, hN, (name_of_methodNamed B.named B.method).1, Nat.le_refl _, Nat.le_refl _, Nat.le_refl _, Nat.le_refl _⟩
  rw [lg_entry_eq]
  have hl := zL_entry (X := X) hlen
  rw [hL] at hl
  have key := h X p l e (headSpec (zWd M) (zRm d M)).room s m (av.map (zV X)).toArray below meth c (MQ below (zQc X M σ.1 K) (av.map (zV X)).toArray s (zcc M M.2.2.2.2.2) (zss M M.2.2.2.2.2) (zAp X)) σ.1 hC (fun _ => rfl) ?_ s.heap [] _ hW va_S.rf hl
  · have e0 : zcc M σ.1 = 0 ∧ zss M σ.1 = 0 := by
      unfold zcc zss
      rcases hz with hz | hz
      · rw [if_pos hz, if_pos hz]; exact ⟨rfl, rfl⟩
      · by_cases q : M.2.2.2.2.2 = 0
        · rw [if_pos q, if_pos q]; exact ⟨rfl, rfl⟩
        · rw [if_neg q, if_neg q, hz, Nat.sub_self, Nat.sub_self]; exact ⟨rfl, rfl⟩
    rw [e0.1, e0.2] at key
    exact key
  · intro r σ' H' locs' pc' ls' hK' hEnd hW' hS' hret
    have e1 : zcc M σ'.1 = zcc M M.2.2.2.2.2 ∧ zss M σ'.1 = zss M M.2.2.2.2.2 := by
      unfold zcc zss
      unfold zEnd at hEnd
      by_cases q : M.2.2.2.2.2 = 0
      · rw [if_pos q, if_pos q, if_pos q, if_pos q]; exact ⟨rfl, rfl⟩
      · rw [if_neg q] at hEnd; rw [if_neg q, if_neg q, if_neg q, if_neg q, hEnd]; exact ⟨rfl, rfl⟩
    rw [e1.1, e1.2]
    have hq : ∀ t : State, t.heap = H' → s.WarmedH t.vm → ∀ o : Option Value, o = (r.map (zV X)).head? → r.length ≤ 1 → zQc X M σ.1 K (av.map (zV X)).toArray s (.returned o) t := fun t ht hw o ho hlen1 =>
      ⟨r, σ', hK', hEnd, hlen1, by rw [ho], by rw [ht]; exact zWX_moved hw.alike hW', hS'.F ht⟩
    match r, hret, hq with
    | [], hret, hq => exact W.vret B.exec B.bytes (B.returns.trans hret.2) (fun t ht hw => hq t ht hw none rfl (by simp)) hS'.2.2 hret.1 B.notSynchronized
    | [.int v], hret, hq =>
      obtain ⟨h1, ty, h2, h3⟩ := hret
      exact W.zret (ty := ty) B.exec B.bytes (B.returns.trans h2) h3 (fun t ht hw => hq t ht hw (some (.int v)) rfl (by simp)) hS'.2.2 h1 B.notSynchronized
    | [.long v], hret, hq => exact W.lret B.exec B.bytes (B.returns.trans hret.2) (fun t ht hw => hq t ht hw (some (.long v)) rfl (by simp)) hS'.2.2 hret.1 B.notSynchronized
end ZCA
end
section
/-! copying, making cells -/
theorem zAcopy_words : nativeFrameWords "java/lang/System" "arraycopy" 5 ≤ 21 := by decide +kernel
theorem zWs_succ {X : zX} {n : Nat} {rf : zR} {mm : zM} : zWs X (n + 1, rf, mm) = zWs X (n, rf, mm) ++ [(X.2.1 + n, zE X rf mm n)] := by
  simp [zWs, List.range_succ]
theorem zSlots {M : zMt} {n : Nat} (h : M.2.2.2.2.1 ≤ n) (h0 : M.2.2.2.2.2 ≠ 0) : zcc M (n + 1) = zcc M n + 1 ∧ zss M (n + 1) = zss M n + zSz n := by
  unfold zcc zss
  rw [if_neg h0, if_neg h0, if_neg h0, if_neg h0]
  have := zSum_mono h
  have e : zSum (n + 1) = zSum n + zSz n := rfl
  omega
theorem zSlots_le {M : zMt} {n : Nat} {R : Room} (h : M.2.2.2.2.1 ≤ n) (h0 : M.2.2.2.2.2 ≠ 0) (h1 : n + 1 ≤ M.2.2.2.2.2) (hcR : zcc M M.2.2.2.2.2 ≤ R.cells) (hsR : zss M M.2.2.2.2.2 ≤ R.slots) : zcc M n + 1 ≤ R.cells ∧ zss M n + zSz n ≤ R.slots := by
  unfold zcc zss at *
  rw [if_neg h0] at hcR hsR
  rw [if_neg h0, if_neg h0]
  have := zSum_mono h1
  have e : zSum (n + 1) = zSum n + zSz n := rfl
  have := zSum_mono h
  omega
theorem zWX_push {X : zX} {s : State} {σ : zS} {H H1 : Heap} (hW : zWX X s σ H) (hn : σ.1 + 1 ≤ 154) (hz : H1.size = X.2.1 + σ.1 + 1) (o1 : ∀ q : Nat, q < X.2.1 + σ.1 → H1[q]? = H[q]?) (hat : va_at X.2.2.1 vwCl (X.2.1 + σ.1, zE X σ.2.1 σ.2.2 σ.1) H1) : zWX X s (σ.1 + 1, σ.2.1, σ.2.2) H1 := by
  refine ⟨by rw [hz]; omega, hn, hW.2.2.1, ?_, ?_⟩
  · rw [zWs_succ]
    refine (hW.2.2.2.1.kept (fun k x hx => o1 x.1 (by rw [← hW.1]; exact (hW.2.2.2.1 k x hx).lt))).app (fun k x hx => ?_)
    have hz0 : k < 1 := (List.getElem?_eq_some_iff.mp hx).1
    rw [show k = 0 by omega] at hx
    cases hx
    exact hat
  · exact hW.2.2.2.2.kept (o1 _ (by have := hW.2.2.1; omega))
theorem zS_push {X : zX} {s : State} {σ : zS} {H H1 : Heap} {locs : List Loc} (hW : zWX X s σ H) (hS : va_S (zAp X) s.heap H locs) (hz : X.2.1 + σ.1 ≤ H1.size) (o1 : ∀ q : Nat, q < X.2.1 + σ.1 → H1[q]? = H[q]?) : va_S (zAp X) s.heap H1 locs :=
  ⟨Nat.le_trans hS.1 (by rw [hW.1]; exact hz), fun q h1 h2 => by rw [o1 q (by rw [← hW.1]; exact Nat.lt_of_lt_of_le h1 hS.1)]; exact hS.2.1 q h1 h2, hS.2.2⟩
section ZMK
variable {d : Nat} {M : zMt} {pc idx : Nat} {L : List (Option Value)} {rest st : List Value} {σ : zS} {K : List Value → zS → Prop}
theorem wx_acopy {ka kb na nb : Nat} {sp dp n : Int32} (hd : decode M.2.1 pc = .ok (.invokestatic idx, 3)) (w1 : Cond.methodLink M.1.cls idx arraycopyName ∈ zT) (w2 : Cond.native arraycopyName ∈ zT) (w3 : Cond.static arraycopyName ∈ zT) (w4 : Cond.initialized "java/lang/System" ∈ zT) (hka : zK ka = (10, na)) (hkb : zK kb = (10, nb)) (ha : ka < σ.1) (hkn : kb < σ.1)
    (h1 : ¬ sp < 0) (h2 : ¬ dp < 0) (h3 : ¬ n < 0) (h4 : sp.toNatClampNeg + n.toNatClampNeg ≤ na) (h5 : dp.toNatClampNeg + n.toNatClampNeg ≤ nb) (hrest : (rest.map fun v => v.category).sum ≤ 8)
    (kk : wx (d + 1) M (pc + 3) L rest (σ.1, σ.2.1, va_up σ.2.2 kb (va_cpy (σ.2.2 ka) (σ.2.2 kb) sp.toNatClampNeg dp.toNatClampNeg n.toNatClampNeg)) K) : wx (d + 1) M pc L (.int n :: .int dp :: .ref kb :: .int sp :: .ref ka :: rest) σ K := by
  intro X p l e R s m args below meth c Q nn hC hn hr H locs ls hW hS hl
  obtain ⟨hx, hb, hml, hown, hts, hret, hlk, hK, hNw, hnm, hdR, hlR, hcR, hsR⟩ := id hC
  have nn0 : ∀ z : Int32, ¬ z < 0 → z.toInt = (z.toNatClampNeg : Int) := by
    intro z hz
    have hz0 : (0 : Int) ≤ z.toInt := by
      have := Int32.not_lt.mp hz
      simpa using Int32.le_iff_toInt_le.mp this
    show z.toInt = ((z.toInt.toNat : Nat) : Int)
    omega
  have he1 : (zWs X σ)[kb]? = some (X.2.1 + kb, .inl (X.2.2.2.1, nb, .inl (σ.2.2 kb))) := by rw [zWs_get hkn, zE_int hkb]
  have hc0 : H[X.2.1 + ka]? = some (vp_cell X.2.2.2.1 (na, .inl (σ.2.2 ka))) := hW.2.2.2.1 ka (X.2.1 + ka, .inl (X.2.2.2.1, na, .inl (σ.2.2 ka))) (by rw [zWs_get ha, zE_int hka])
  have hc1 : H[X.2.1 + kb]? = some (vp_cell X.2.2.2.1 (nb, .inl (σ.2.2 kb))) := hW.2.2.2.1 kb _ he1
  have hKa := (hK.2 0 (X.2.2.2.1, .int) rfl).1
  have hwords := zAcopy_words
  intro T hT X0
  obtain ⟨-, k0, hk0, cm0, hkk0⟩ := hKa na (fun j => .int (σ.2.2 ka j))
  obtain ⟨-, k1, hk1, cm1, hkk1⟩ := hKa nb (fun j => .int (σ.2.2 kb j))
  obtain ⟨vm', X', step⟩ := X0.arraycopy hx hown (hts _ w1) (hts _ w2) (hts _ w3) (hts _ w4) (src := X.2.1 + ka) (dst := X.2.1 + kb) (cs := vp_cell X.2.2.2.1 (na, .inl (σ.2.2 ka))) (cd := vp_cell X.2.2.2.1 (nb, .inl (σ.2.2 kb))) (srcPos := sp) (destPos := dp) (n := n) (by rw [hT]; exact hc0) (by rw [hT]; exact hc1)
    (fun _ h => by cases h) (fun _ h => by cases h) (fun h => by cases h) (fun h => by cases h) hk0 hk1 hkk0 hkk1 (by rfl) h1 h2 h3
    (by rw [nn0 sp h1, nn0 n h3]; show ¬ _ > ((arrV X.2.2.2.1 na (fun j => .int (σ.2.2 ka j))).slots.size : Int); rw [arrV_size]; omega)
    (by rw [nn0 dp h2, nn0 n h3]; show ¬ _ > ((arrV X.2.2.2.1 nb (fun j => .int (σ.2.2 kb j))).slots.size : Int); rw [arrV_size]; omega)
    (fun vm₁ _ i hi => by
      have e : (vp_cell X.2.2.2.1 (na, .inl (σ.2.2 ka))).slots.getD (sp.toNatClampNeg + i) .null = .int (σ.2.2 ka (sp.toNatClampNeg + i)) := by
        show (arrV X.2.2.2.1 na (fun j => .int (σ.2.2 ka j))).slots.getD _ _ = _
        rw [Array.getD_eq_getD_getElem?, arrV_read _ _ (by omega)]
        rfl
      refine ⟨?_, ?_⟩
      · rw [e]; rfl
      · rw [e]
        exact trivial)
    (g := F0 m pc ls (.int n :: .int dp :: .ref (X.2.1 + kb) :: .int sp :: .ref (X.2.1 + ka) :: rest.map (zV X))) rfl (by rw [hml]; exact hl.1) (rest := rest.map (zV X)) rfl (by rw [hb]; exact hd) (by omega) (by show 2 * 0 + _ + _ ≤ _; rw [zCat]; omega)
  have e1 : copied (vp_cell X.2.2.2.1 (na, .inl (σ.2.2 ka))) (vp_cell X.2.2.2.1 (nb, .inl (σ.2.2 kb))) sp dp n = vp_cell X.2.2.2.1 (nb, .inl (va_cpy (σ.2.2 ka) (σ.2.2 kb) sp.toNatClampNeg dp.toNatClampNeg n.toNatClampNeg)) := va_copied (fun z => .int z) X.2.2.2.1 X.2.2.2.1 (σ.2.2 ka) (σ.2.2 kb) h4
  rw [e1] at X' step
  generalize hcell : vp_cell X.2.2.2.1 (nb, .inl (va_cpy (σ.2.2 ka) (σ.2.2 kb) sp.toNatClampNeg dp.toNatClampNeg n.toNatClampNeg)) = cell at X' step
  have hlt : X.2.1 + kb < H.size := (Array.getElem?_eq_some_iff.mp hc1).1
  have hheap : ((T.setVm vm').setCell (X.2.1 + kb) cell).heap = H.setIfInBounds (X.2.1 + kb) cell := by rw [← hT]; rfl
  have oq : ∀ q : Nat, q ≠ X.2.1 + kb → (H.setIfInBounds (X.2.1 + kb) cell)[q]? = H[q]? := fun q hq => by simp [Array.getElem?_setIfInBounds, Ne.symm hq]
  have hat : va_at X.2.2.1 vwCl (X.2.1 + kb, .inl (X.2.2.2.1, nb, .inl (va_cpy (σ.2.2 ka) (σ.2.2 kb) sp.toNatClampNeg dp.toNatClampNeg n.toNatClampNeg))) (H.setIfInBounds (X.2.1 + kb) cell) := by
    show (H.setIfInBounds (X.2.1 + kb) cell)[X.2.1 + kb]? = some (vp_cell _ _)
    rw [hcell]
    simp [Array.getElem?_setIfInBounds, hlt]
  have hP' := va_P.set hW.2.2.2.1 zWs_D he1 hat oq
  have hW' := zWX_put (rf' := σ.2.1) (mm' := va_up σ.2.2 kb (va_cpy (σ.2.2 ka) (σ.2.2 kb) sp.toNatClampNeg dp.toNatClampNeg n.toNatClampNeg)) hW (by simp) (oq _ (zNX hW)) hkn (by rw [zE_int hkb]; simp [va_up]) (fun _ _ => rfl) (fun a ha => if_neg ha) hP'
  obtain ⟨t, a1, b1⟩ := kk X p l e R s m args below meth c Q nn hC hn hr (H.setIfInBounds (X.2.1 + kb) cell) _ ls hW' ⟨by simp; exact hS.1, fun q g1 g2 => by
      rw [oq q (fun e => g2 (by rw [e]; exact Nat.le_add_right _ _))]
      exact hS.2.1 q g1 g2, fun q hq => by
      rcases List.mem_append.mp hq with h | h
      · exact hS.2.2 q h
      · obtain ⟨z, -, hz⟩ := List.mem_map.mp h
        rw [← hz]
        exact Nat.le_add_right _ _⟩ hl _ hheap X'
  exact ⟨t, step t a1, b1⟩
/-- the method makes the cells n0 to n1 - 1, and n is among them -/
def zMk (M : zMt) (n : Nat) : Prop := M.2.2.2.2.2 ≠ 0 ∧ M.2.2.2.2.1 ≤ n ∧ n + 1 ≤ M.2.2.2.2.2 ∧ M.2.2.2.2.2 ≤ 154
/-- entry idx of own's pool is a class whose objects are of kind ci -/
def zNc (own : String) (idx ci : Nat) : Prop := ∃ (C : String) (T : u_T) (ty : Nat → FieldType), zCl ci C T ty ∧ Cond.classLink own idx C ∈ zT ∧ Cond.instantiable C (zN ci) ∈ zT ∧ Cond.initialized C ∈ zT
theorem wx_new {ci : Nat} (hd : decode M.2.1 pc = .ok (.new idx, 3)) (hc : zNc M.1.cls idx ci) (hk : (zK σ.1).1 = ci) (hrf : σ.2.1 σ.1 = fun _ => none) (hmm : σ.2.2 σ.1 = fun _ => 0) (hal : zMk M σ.1) (kk : wx d M (pc + 3) L (.ref σ.1 :: st) (σ.1 + 1, σ.2.1, σ.2.2) K) : wx d M pc L st σ K := by
  intro X p l e R s m args below meth c Q nn hC hn hr H locs ls hW hS hl
  obtain ⟨hx, hb, hml, hown, hts, hret, hlk, hK, hNw, hnm, hdR, hlR, hcR, hsR⟩ := id hC
  obtain ⟨C, T, ty, ⟨c1, c2, c3, c4, c5, c6, c7⟩, hlink, hins, hini⟩ := hc
  obtain ⟨a1, a2, a3, a4⟩ := hal
  have hKn := hK.1 ci _ c1
  have hsz : zSz σ.1 = zN ci := by unfold zSz; rw [hk, if_pos c2]
  obtain ⟨z1, z2⟩ := zSlots_le a2 a1 a3 hcR hsR
  obtain ⟨y1, y2⟩ := zSlots (M := M) a2 a1
  rw [hsz] at z2 y2
  refine W.newcK hx hb hown (hts _ hlink) (hts _ hins) (hts _ hini) rfl hd z1 z2 hKn.2.1 hW.1 fun H1 kC hkC e1 zz o1 => ?_
  have hat : va_at X.2.2.1 vwCl (X.2.1 + σ.1, zE X σ.2.1 σ.2.2 σ.1) H1 := by
    rw [zE_obj hk c2]
    refine ⟨_, c1, (u_born ty hts c3 hKn hkC e1 c4).to (fun j hj => ?_)⟩
    show defaultValue (ty j) = (zFs X σ.2.1 σ.2.2 ci σ.1).getD j .null
    rw [c7 j hj]
    have hj' : j < zN ci := hj
    simp [zFs, hj', hrf, hmm, va_rf]
  have := kk X p l e R s m args below meth c Q nn hC (fun q => absurd q a1) hr H1 locs ls (zWX_push hW (Nat.le_trans a3 a4) zz o1 hat) (zS_push hW hS (by rw [zz]; omega) o1) hl
  rw [← y1, ← y2]
  exact this
theorem wx_newI {n : Int32} {N : Nat} (hd : decode M.2.1 pc = .ok (.newarray .int, 2)) (hw : Cond.arrayClass .int ∈ zT) (hk : zK σ.1 = (10, N)) (hmm : σ.2.2 σ.1 = fun _ => 0) (hal : zMk M σ.1) (hn0 : ¬ n < 0) (hN : n.toNatClampNeg = N) (hby : N * 4 ≤ 536870912) (kk : wx d M (pc + 2) L (.ref σ.1 :: st) (σ.1 + 1, σ.2.1, σ.2.2) K) : wx d M pc L (.int n :: st) σ K := by
  intro X p l e R s m args below meth c Q nn hC hn hr H locs ls hW hS hl
  obtain ⟨hx, hb, hml, hown, hts, hret, hlk, hK, hNw, hnm, hdR, hlR, hcR, hsR⟩ := id hC
  obtain ⟨a1, a2, a3, a4⟩ := hal
  have hsz : zSz σ.1 = N := by unfold zSz; rw [hk, if_neg (show ¬ (10 : Nat) < 10 by decide)]
  obtain ⟨z1, z2⟩ := zSlots_le a2 a1 a3 hcR hsR
  obtain ⟨y1, y2⟩ := zSlots (M := M) a2 a1
  rw [hsz] at z2 y2
  refine va_newaK (atype := .int) hx hb (hts _ hw) rfl hd rfl hn0 hN hby z1 z2 hW.1 fun H1 cA e1 zz o1 hAr hNm => ?_
  have hcA : cA = X.2.2.2.1 := Option.some.inj (hNm.symm.trans (hK.2 0 (X.2.2.2.1, .int) rfl).2)
  have hat : va_at X.2.2.1 vwCl (X.2.1 + σ.1, zE X σ.2.1 σ.2.2 σ.1) H1 := by
    rw [zE_int hk, hmm]
    show H1[X.2.1 + σ.1]? = some (vp_cell _ _)
    rw [e1, hcA]
    rfl
  have := kk X p l e R s m args below meth c Q nn hC (fun q => absurd q a1) hr H1 locs ls (zWX_push hW (Nat.le_trans a3 a4) zz o1 hat) (zS_push hW hS (by rw [zz]; omega) o1) hl
  rw [← y1, ← y2]
  exact this
theorem wx_newZ {n : Int32} {N : Nat} (hd : decode M.2.1 pc = .ok (.newarray .boolean, 2)) (hw : Cond.arrayClass .boolean ∈ zT) (hk : zK σ.1 = (11, N)) (hmm : σ.2.2 σ.1 = fun _ => 0) (hal : zMk M σ.1) (hn0 : ¬ n < 0) (hN : n.toNatClampNeg = N) (hby : N * 4 ≤ 536870912) (kk : wx d M (pc + 2) L (.ref σ.1 :: st) (σ.1 + 1, σ.2.1, σ.2.2) K) : wx d M pc L (.int n :: st) σ K := by
  intro X p l e R s m args below meth c Q nn hC hn hr H locs ls hW hS hl
  obtain ⟨hx, hb, hml, hown, hts, hret, hlk, hK, hNw, hnm, hdR, hlR, hcR, hsR⟩ := id hC
  obtain ⟨a1, a2, a3, a4⟩ := hal
  have hsz : zSz σ.1 = N := by unfold zSz; rw [hk, if_neg (show ¬ (11 : Nat) < 10 by decide)]
  obtain ⟨z1, z2⟩ := zSlots_le a2 a1 a3 hcR hsR
  obtain ⟨y1, y2⟩ := zSlots (M := M) a2 a1
  rw [hsz] at z2 y2
  refine va_newaK (atype := .boolean) hx hb (hts _ hw) rfl hd rfl hn0 hN (by show N * 1 ≤ _; omega) z1 z2 hW.1 fun H1 cA e1 zz o1 hAr hNm => ?_
  have hcA : cA = X.2.2.2.2.2 := Option.some.inj (hNm.symm.trans (hK.2 2 (X.2.2.2.2.2, .boolean) rfl).2)
  have hat : va_at X.2.2.1 vwCl (X.2.1 + σ.1, zE X σ.2.1 σ.2.2 σ.1) H1 := by
    rw [zE_bool hk, hmm]
    show H1[X.2.1 + σ.1]? = some (vp_cell _ _)
    rw [e1, hcA]
    rfl
  have := kk X p l e R s m args below meth c Q nn hC (fun q => absurd q a1) hr H1 locs ls (zWX_push hW (Nat.le_trans a3 a4) zz o1 hat) (zS_push hW hS (by rw [zz]; omega) o1) hl
  rw [← y1, ← y2]
  exact this
theorem zWs_add {X : zX} {n : Nat} {rf : zR} {mm : zM} : ∀ j : Nat, zWs X (n + j, rf, mm) = zWs X (n, rf, mm) ++ (List.range j).map (fun i => (X.2.1 + (n + i), zE X rf mm (n + i)))
  | 0 => by simp
  | j + 1 => by
    rw [show n + (j + 1) = (n + j) + 1 by omega, zWs_succ, zWs_add j, List.range_succ, List.map_append, List.append_assoc]
    rfl
theorem zSum_add {n N K1 : Nat} : ∀ j : Nat, j ≤ N → (∀ i, i < N → zSz (n + i) = K1) → zSum (n + j) = zSum n + j * K1
  | 0, _, _ => by simp
  | j + 1, hj, h => by
    have ih := zSum_add (n := n) j (by omega) h
    show zSum (n + j) + zSz (n + j) = _
    rw [ih, h j (by omega), Nat.succ_mul, Nat.add_assoc]
theorem wx_new2 {n k : Int32} {N K1 : Nat} (hd : decode M.2.1 pc = .ok (.multianewarray idx 2, 4)) (hlink : Cond.classLink M.1.cls idx ("[" ++ (FieldType.array .int).toString) ∈ zT) (hw : Cond.arrayClass .int ∈ zT) (hk : zK σ.1 = (12, N)) (hki : ∀ i, i < N → zK (σ.1 + 1 + i) = (10, K1)) (hrf : σ.2.1 σ.1 = fun _ => none) (hmm : ∀ i, i < N → σ.2.2 (σ.1 + 1 + i) = fun _ => 0)
    (hal : M.2.2.2.2.2 ≠ 0 ∧ M.2.2.2.2.1 ≤ σ.1 ∧ σ.1 + 1 + N ≤ M.2.2.2.2.2 ∧ M.2.2.2.2.2 ≤ 154) (hn0 : ¬ n < 0) (hk0 : ¬ k < 0) (hN : n.toNatClampNeg = N) (hM : k.toNatClampNeg = K1) (hb1 : N * 4 ≤ 536870912) (hb2 : K1 * 4 ≤ 536870912)
    (kk : wx d M (pc + 4) L (.ref σ.1 :: st) (σ.1 + 1 + N, va_up σ.2.1 σ.1 (fun i => if i < N then some (σ.1 + 1 + i) else none), σ.2.2) K) : wx d M pc L (.int k :: .int n :: st) σ K := by
  intro X p l e R s m args below meth c Q nn hC hn hr H locs ls hW hS hl
  obtain ⟨hx, hb, hml, hown, hts, hret, hlk, hK, hNw, hnm, hdR, hlR, hcR, hsR⟩ := id hC
  obtain ⟨a1, a2, a3, a4⟩ := hal
  have hsz0 : zSz σ.1 = N := by unfold zSz; rw [hk, if_neg (show ¬ (12 : Nat) < 10 by decide)]
  have hszi : ∀ i, i < N → zSz (σ.1 + 1 + i) = K1 := fun i hi => by unfold zSz; rw [hki i hi, if_neg (show ¬ (10 : Nat) < 10 by decide)]
  have hsum : zSum (σ.1 + 1 + N) = zSum σ.1 + N + N * K1 := by
    rw [zSum_add (n := σ.1 + 1) N (Nat.le_refl _) hszi]
    show zSum σ.1 + zSz σ.1 + N * K1 = _
    rw [hsz0]
  have hmono := zSum_mono a2
  have hmono2 := zSum_mono a3
  have hcells : zcc M σ.1 + (1 + N) ≤ R.cells ∧ zss M σ.1 + (N + N * K1) ≤ R.slots ∧ zcc M (σ.1 + 1 + N) = zcc M σ.1 + 1 + N ∧ zss M (σ.1 + 1 + N) = zss M σ.1 + N + N * K1 := by
    unfold zcc zss at *
    rw [if_neg a1] at hcR hsR
    rw [if_neg a1, if_neg a1, if_neg a1, if_neg a1]
    omega
  subst hN
  subst hM
  intro T hT X0
  obtain ⟨vm₁, cA, comp, -, fA, fC, hO, -, X', step⟩ := X0.multianewarray2F hx hown (hts _ hlink) (by exact hNw.2) (hts _ hw) (g := F0 m pc ls ((Value.int k :: Value.int n :: st).map (zV X))) rfl (by rw [hb]; exact hd) rfl hn0 hk0 hb1 hb2 (by omega) (by rfl) (by rfl) hcells.1 hcells.2.1
  have hcA : cA = X.2.2.2.2.1 := Option.some.inj (fA.symm.trans (hK.2 1 (X.2.2.2.2.1, .array .int) rfl).2)
  have hcI : comp = X.2.2.2.1 := Option.some.inj (fC.symm.trans (hK.2 0 (X.2.2.2.1, .int) rfl).2)
  subst hcA
  subst hcI
  generalize hF : Jvm.Free.Multi.fill (T.setVm vm₁) X.2.2.2.2.1 X.2.2.2.1 n.toNatClampNeg k.toNatClampNeg (defaultValue .int) n.toNatClampNeg = F at X' step
  have hTh : (T.setVm vm₁).heap = H := hT
  obtain ⟨f1, f2, -, -⟩ := Jvm.Free.Multi.fill_facts (T.setVm vm₁) X.2.2.2.2.1 X.2.2.2.1 n.toNatClampNeg k.toNatClampNeg (defaultValue .int) n.toNatClampNeg
  rw [hF, hTh, hW.1] at f1 f2
  have hold : ∀ x : Nat, x < X.2.1 + σ.1 → F.heap[x]? = H[x]? := fun x hx => by
    have := Jvm.Free.Multi.fill_old (T.setVm vm₁) X.2.2.2.2.1 X.2.2.2.1 n.toNatClampNeg k.toNatClampNeg (defaultValue .int) (a := x) (by rw [hTh, hW.1]; exact hx) n.toNatClampNeg
    rw [hF, hTh] at this
    exact this
  have hrow : ∀ j : Nat, j < n.toNatClampNeg → F.heap[X.2.1 + σ.1 + 1 + j]? = some (vp_cell X.2.2.2.1 (k.toNatClampNeg, .inl (fun _ => 0))) := fun j hj => by
    have := Jvm.Free.Multi.fill_inner (T.setVm vm₁) X.2.2.2.2.1 X.2.2.2.1 n.toNatClampNeg k.toNatClampNeg (defaultValue .int) n.toNatClampNeg j hj
    rw [hF, hTh, hW.1] at this
    rw [this]
    show some (Jvm.Free.Multi.innerC _ _ _) = _
    rw [vp_cell_i, ← arrV_new]
    rfl
  rw [vr_outer] at f2
  obtain ⟨nS, rf, mm⟩ := σ
  have hW' : zWX X s (nS + 1 + n.toNatClampNeg, va_up rf nS (fun i => if i < n.toNatClampNeg then some (nS + 1 + i) else none), mm) F.heap := by
    refine ⟨by rw [f1]; show X.2.1 + nS + 1 + n.toNatClampNeg = X.2.1 + (nS + 1 + n.toNatClampNeg); omega, Nat.le_trans a3 a4, hW.2.2.1, ?_, ?_⟩
    · rw [show nS + 1 + n.toNatClampNeg = (nS + 1) + n.toNatClampNeg by omega, zWs_add, zWs_succ]
      have hP0 : va_P X.2.2.1 vwCl (zWs X (nS, va_up rf nS (fun i => if i < n.toNatClampNeg then some (nS + 1 + i) else none), mm)) F.heap := by
        intro q x hx
        obtain ⟨h1, rfl⟩ := zWs_of hx
        have h2 := hW.2.2.2.1 q (X.2.1 + q, zE X rf mm q) (zWs_get (σ := (nS, rf, mm)) h1)
        rw [zE_cong (rf := rf) (mm := mm) (if_neg (Nat.ne_of_lt h1)) rfl]
        exact h2.kept (hold _ (Nat.add_lt_add_left h1 _))
      refine (hP0.app (fun q x hx => ?_)).app (fun q x hx => ?_)
      · have h0 : q < 1 := (List.getElem?_eq_some_iff.mp hx).1
        rw [show q = 0 by omega] at hx
        cases hx
        rw [zE_out hk]
        show F.heap[X.2.1 + nS]? = some (vp_cell _ _)
        rw [f2, vp_cell_q]
        congr 2
        funext j
        simp only [va_up, if_pos]
        by_cases hj : j < n.toNatClampNeg
        · rw [if_pos hj, if_pos hj]
          show va_rf (some _) = va_rf (some _)
          congr 2
          show X.2.1 + nS + 1 + j = X.2.1 + (nS + 1 + j)
          omega
        · rw [if_neg hj, if_neg hj]
          rfl
      · obtain ⟨i, hi, rfl⟩ := List.mem_map.mp (List.mem_of_getElem? hx)
        have hi' := List.mem_range.mp hi
        have hzi := hki i hi'
        have hmi := hmm i hi'
        rw [zE_int hzi]
        show F.heap[X.2.1 + (nS + 1 + i)]? = some (vp_cell _ _)
        rw [show X.2.1 + (nS + 1 + i) = X.2.1 + nS + 1 + i by omega, hrow i hi']
        show _ = some (vp_cell _ (_, .inl (mm (nS + 1 + i))))
        rw [show mm (nS + 1 + i) = fun _ => 0 from hmi]
    · have h154 : 154 ≠ nS := by
        have : nS + 1 + n.toNatClampNeg ≤ 154 := Nat.le_trans a3 a4
        omega
      show va_X X.1 ((va_up rf nS _ 154 0).getD 0) (mm 154) s F.heap
      rw [show va_up rf nS (fun i => if i < n.toNatClampNeg then some (nS + 1 + i) else none) 154 = rf 154 from if_neg h154]
      exact hW.2.2.2.2.kept (hold _ (by have := hW.2.2.1; show X.1 < X.2.1 + nS; omega))
  have key := kk X p l e R s m args below meth c Q nn hC (fun q => absurd q a1) hr F.heap locs ls hW' (zS_push hW hS (by rw [f1]; omega) hold) hl
  rw [show zcc M (nS + 1 + n.toNatClampNeg, va_up rf nS (fun i => if i < n.toNatClampNeg then some (nS + 1 + i) else none), mm).1 = zcc M nS + 1 + n.toNatClampNeg from hcells.2.2.1, show zss M (nS + 1 + n.toNatClampNeg, va_up rf nS (fun i => if i < n.toNatClampNeg then some (nS + 1 + i) else none), mm).1 = zss M nS + n.toNatClampNeg + n.toNatClampNeg * k.toNatClampNeg from hcells.2.2.2] at key
  obtain ⟨t, b1, b2⟩ := key F rfl X'
  refine ⟨t, step t ?_, b2⟩
  have hTs : T.heap.size = X.2.1 + nS := by rw [hT]; exact hW.1
  rw [hTs]
  exact b1
end ZMK
end
section
/-! calls by how many they take; arrays by a number -/
def zPV (M' : zMt) (n ci : Nat) : Prop := zCm M' ∧ zIV M' ∧ zNp M' n ∧ ci < 10 ∧ vwCl[ci]?.map (fun q => q.1) = some M'.1.cls ∧ M'.2.2.2.2.2 = 0
def zPS (M' : zMt) (n : Nat) : Prop := zCm M' ∧ Cond.static M'.1 ∈ zT ∧ zNp M' n ∧ M'.2.2.2.2.2 = 0
theorem zRF_out {k n i : Nat} (hk : zK k = (12, n)) (hkn : k < 154) (hi : i < n) : zRF k i = some (k + 1 + i) := by
  unfold zRF
  rw [if_pos hkn, hk, if_pos rfl, if_pos hi]
section ZAR
variable {d : Nat} {M M' : zMt} {pc idx : Nat} {L : List (Option Value)} {rest st av : List Value} {σ : zS} {K : List Value → zS → Prop} {mm : zM}
theorem wx_r0 (h : wx d M pc L rest σ K) : wx d M pc L ([] ++ rest) σ K := h
theorem wx_r1 {v : Value} (h : wx d M pc L (v :: rest) σ K) : wx d M pc L ([v] ++ rest) σ K := h
theorem wx_inc {i : Nat} {n : Int} {v c : Int32} (hd : decode M.2.1 pc = .ok (.iinc i n, 3)) (hl0 : L[i]? = some (some (.int v))) (hc : Int32.ofInt n = c) (hin : i < M.2.2.1) (hno : zNoL L i = true) (kk : wx d M (pc + 3) (L.set i (some (.int (v + c)))) st σ K) : wx d M pc L st σ K := wx_iinc hd hl0 (by rw [hc]) hin hno kk
theorem wx_ialdN {k n j : Nat} {i : Int32} (hd : decode M.2.1 pc = .ok (.iaload, 1)) (hk : zK k = (10, n)) (hkn : k < σ.1) (hi : i = nI j) (hj : j < n ∧ n < 2 ^ 31) (kk : wx d M (pc + 1) L (.int (σ.2.2 k j) :: st) σ K) : wx d M pc L (.int i :: .ref k :: st) σ K := by
  subst hi
  refine wx_iald hd hk hkn (vp_in_nI hj.1 hj.2) ?_
  rw [nI_clamp (Nat.lt_trans hj.1 hj.2)]
  exact kk
theorem wx_zaldN {k n j : Nat} {i : Int32} (hd : decode M.2.1 pc = .ok (.baload, 1)) (hk : zK k = (11, n)) (hkn : k < σ.1) (hi : i = nI j) (hj : j < n ∧ n < 2 ^ 31) (kk : wx d M (pc + 1) L (.int (σ.2.2 k j) :: st) σ K) : wx d M pc L (.int i :: .ref k :: st) σ K := by
  subst hi
  refine wx_zald hd hk hkn (vp_in_nI hj.1 hj.2) ?_
  rw [nI_clamp (Nat.lt_trans hj.1 hj.2)]
  exact kk
theorem wx_iastN {k n j : Nat} {i v : Int32} (hd : decode M.2.1 pc = .ok (.iastore, 1)) (hk : zK k = (10, n)) (hkn : k < σ.1) (hi : i = nI j) (hj : j < n ∧ n < 2 ^ 31) (kk : wx d M (pc + 1) L st (σ.1, σ.2.1, zU σ.2.2 k j v) K) : wx d M pc L (.int v :: .int i :: .ref k :: st) σ K := by
  subst hi
  refine wx_iast hd hk hkn (vp_in_nI hj.1 hj.2) ?_
  rw [nI_clamp (Nat.lt_trans hj.1 hj.2)]
  exact kk
theorem wx_zastN {k n j : Nat} {i v : Int32} (hd : decode M.2.1 pc = .ok (.bastore, 1)) (hk : zK k = (11, n)) (hkn : k < σ.1) (hi : i = nI j) (hj : j < n ∧ n < 2 ^ 31) (hv : vp_nar .boolean v = v) (kk : wx d M (pc + 1) L st (σ.1, σ.2.1, zU σ.2.2 k j v) K) : wx d M pc L (.int v :: .int i :: .ref k :: st) σ K := by
  subst hi
  refine wx_zast hd hk hkn (vp_in_nI hj.1 hj.2) hv ?_
  rw [nI_clamp (Nat.lt_trans hj.1 hj.2)]
  exact kk
theorem wx_aaldN {k n j : Nat} {i : Int32} (hd : decode M.2.1 pc = .ok (.aaload, 1)) (hk : zK k = (12, n)) (hkn : k < σ.1) (hi : i = nI j) (hj : j < n ∧ n < 2 ^ 31) (hr : σ.2.1 k j = some (k + 1 + j)) (kk : wx d M (pc + 1) L (.ref (k + 1 + j) :: st) σ K) : wx d M pc L (.int i :: .ref k :: st) σ K := by
  subst hi
  refine wx_aald hd hk hkn (vp_in_nI hj.1 hj.2) ?_ kk
  rw [nI_clamp (Nat.lt_trans hj.1 hj.2)]
  exact hr
theorem wx_V0 {ci k : Nat} (hd : decode M.2.1 pc = .ok (.invokevirtual idx, 3)) (hp : zPV M' 0 ci) (hlink : Cond.methodLink M.1.cls idx M'.1 ∈ zT) (hk : (zK k).1 = ci) (hkn : k < σ.1) (hrest : (rest.map fun v => v.category).sum ≤ 8) (hnn : σ.1 ≤ M.2.2.2.2.2 ∨ M.2.2.2.2.2 = 0) (kk : wm d M' [.ref k] σ (fun r σ' => wx (d + 1) M (pc + 3) L (r ++ rest) σ' K)) : wx (d + 1) M pc L (.ref k :: rest) σ K :=
  wx_callV (av := []) hd hp.1 hp.2.1 hlink hp.2.2.1 rfl hk hp.2.2.2.1 hp.2.2.2.2.1 hkn hrest (Or.inl hp.2.2.2.2.2) hnn kk
theorem wx_V1 {ci k : Nat} {a1 : Value} (hd : decode M.2.1 pc = .ok (.invokevirtual idx, 3)) (hp : zPV M' 1 ci) (hlink : Cond.methodLink M.1.cls idx M'.1 ∈ zT) (hk : (zK k).1 = ci) (hkn : k < σ.1) (hrest : (rest.map fun v => v.category).sum ≤ 8) (hnn : σ.1 ≤ M.2.2.2.2.2 ∨ M.2.2.2.2.2 = 0) (kk : wm d M' [.ref k, a1] σ (fun r σ' => wx (d + 1) M (pc + 3) L (r ++ rest) σ' K)) : wx (d + 1) M pc L (a1 :: .ref k :: rest) σ K :=
  wx_callV (av := [a1]) hd hp.1 hp.2.1 hlink hp.2.2.1 rfl hk hp.2.2.2.1 hp.2.2.2.2.1 hkn hrest (Or.inl hp.2.2.2.2.2) hnn kk
theorem wx_V2 {ci k : Nat} {a1 a2 : Value} (hd : decode M.2.1 pc = .ok (.invokevirtual idx, 3)) (hp : zPV M' 2 ci) (hlink : Cond.methodLink M.1.cls idx M'.1 ∈ zT) (hk : (zK k).1 = ci) (hkn : k < σ.1) (hrest : (rest.map fun v => v.category).sum ≤ 8) (hnn : σ.1 ≤ M.2.2.2.2.2 ∨ M.2.2.2.2.2 = 0) (kk : wm d M' [.ref k, a1, a2] σ (fun r σ' => wx (d + 1) M (pc + 3) L (r ++ rest) σ' K)) : wx (d + 1) M pc L (a2 :: a1 :: .ref k :: rest) σ K :=
  wx_callV (av := [a1, a2]) hd hp.1 hp.2.1 hlink hp.2.2.1 rfl hk hp.2.2.2.1 hp.2.2.2.2.1 hkn hrest (Or.inl hp.2.2.2.2.2) hnn kk
theorem wx_V3 {ci k : Nat} {a1 a2 a3 : Value} (hd : decode M.2.1 pc = .ok (.invokevirtual idx, 3)) (hp : zPV M' 3 ci) (hlink : Cond.methodLink M.1.cls idx M'.1 ∈ zT) (hk : (zK k).1 = ci) (hkn : k < σ.1) (hrest : (rest.map fun v => v.category).sum ≤ 8) (hnn : σ.1 ≤ M.2.2.2.2.2 ∨ M.2.2.2.2.2 = 0) (kk : wm d M' [.ref k, a1, a2, a3] σ (fun r σ' => wx (d + 1) M (pc + 3) L (r ++ rest) σ' K)) : wx (d + 1) M pc L (a3 :: a2 :: a1 :: .ref k :: rest) σ K :=
  wx_callV (av := [a1, a2, a3]) hd hp.1 hp.2.1 hlink hp.2.2.1 rfl hk hp.2.2.2.1 hp.2.2.2.2.1 hkn hrest (Or.inl hp.2.2.2.2.2) hnn kk
theorem wx_V4 {ci k : Nat} {a1 a2 a3 a4 : Value} (hd : decode M.2.1 pc = .ok (.invokevirtual idx, 3)) (hp : zPV M' 4 ci) (hlink : Cond.methodLink M.1.cls idx M'.1 ∈ zT) (hk : (zK k).1 = ci) (hkn : k < σ.1) (hrest : (rest.map fun v => v.category).sum ≤ 8) (hnn : σ.1 ≤ M.2.2.2.2.2 ∨ M.2.2.2.2.2 = 0) (kk : wm d M' [.ref k, a1, a2, a3, a4] σ (fun r σ' => wx (d + 1) M (pc + 3) L (r ++ rest) σ' K)) : wx (d + 1) M pc L (a4 :: a3 :: a2 :: a1 :: .ref k :: rest) σ K :=
  wx_callV (av := [a1, a2, a3, a4]) hd hp.1 hp.2.1 hlink hp.2.2.1 rfl hk hp.2.2.2.1 hp.2.2.2.2.1 hkn hrest (Or.inl hp.2.2.2.2.2) hnn kk
theorem wx_V5 {ci k : Nat} {a1 a2 a3 a4 a5 : Value} (hd : decode M.2.1 pc = .ok (.invokevirtual idx, 3)) (hp : zPV M' 5 ci) (hlink : Cond.methodLink M.1.cls idx M'.1 ∈ zT) (hk : (zK k).1 = ci) (hkn : k < σ.1) (hrest : (rest.map fun v => v.category).sum ≤ 8) (hnn : σ.1 ≤ M.2.2.2.2.2 ∨ M.2.2.2.2.2 = 0) (kk : wm d M' [.ref k, a1, a2, a3, a4, a5] σ (fun r σ' => wx (d + 1) M (pc + 3) L (r ++ rest) σ' K)) : wx (d + 1) M pc L (a5 :: a4 :: a3 :: a2 :: a1 :: .ref k :: rest) σ K :=
  wx_callV (av := [a1, a2, a3, a4, a5]) hd hp.1 hp.2.1 hlink hp.2.2.1 rfl hk hp.2.2.2.1 hp.2.2.2.2.1 hkn hrest (Or.inl hp.2.2.2.2.2) hnn kk
theorem wx_S1 {a1 : Value} (hd : decode M.2.1 pc = .ok (.invokestatic idx, 3)) (hp : zPS M' 1) (hlink : Cond.methodLink M.1.cls idx M'.1 ∈ zT) (hrest : (rest.map fun v => v.category).sum ≤ 8) (hnn : σ.1 ≤ M.2.2.2.2.2 ∨ M.2.2.2.2.2 = 0) (kk : wm d M' [a1] σ (fun r σ' => wx (d + 1) M (pc + 3) L (r ++ rest) σ' K)) : wx (d + 1) M pc L (a1 :: rest) σ K :=
  wx_callS (av := [a1]) hd hp.1 hp.2.1 hlink hp.2.2.1 rfl hrest (Or.inl hp.2.2.2) hnn kk
theorem wx_S2 {a1 a2 : Value} (hd : decode M.2.1 pc = .ok (.invokestatic idx, 3)) (hp : zPS M' 2) (hlink : Cond.methodLink M.1.cls idx M'.1 ∈ zT) (hrest : (rest.map fun v => v.category).sum ≤ 8) (hnn : σ.1 ≤ M.2.2.2.2.2 ∨ M.2.2.2.2.2 = 0) (kk : wm d M' [a1, a2] σ (fun r σ' => wx (d + 1) M (pc + 3) L (r ++ rest) σ' K)) : wx (d + 1) M pc L (a2 :: a1 :: rest) σ K :=
  wx_callS (av := [a1, a2]) hd hp.1 hp.2.1 hlink hp.2.2.1 rfl hrest (Or.inl hp.2.2.2) hnn kk
theorem wx_S3 {a1 a2 a3 : Value} (hd : decode M.2.1 pc = .ok (.invokestatic idx, 3)) (hp : zPS M' 3) (hlink : Cond.methodLink M.1.cls idx M'.1 ∈ zT) (hrest : (rest.map fun v => v.category).sum ≤ 8) (hnn : σ.1 ≤ M.2.2.2.2.2 ∨ M.2.2.2.2.2 = 0) (kk : wm d M' [a1, a2, a3] σ (fun r σ' => wx (d + 1) M (pc + 3) L (r ++ rest) σ' K)) : wx (d + 1) M pc L (a3 :: a2 :: a1 :: rest) σ K :=
  wx_callS (av := [a1, a2, a3]) hd hp.1 hp.2.1 hlink hp.2.2.1 rfl hrest (Or.inl hp.2.2.2) hnn kk
theorem wx_SN3 {host : String} {a1 a2 a3 : Value} (hd : decode M.2.1 pc = .ok (.invokestatic idx, 3)) (hp : zPS M' 3) (hlink : Cond.methodLinkNest M.1.cls idx M'.1 host ∈ zNest) (hrest : (rest.map fun v => v.category).sum ≤ 8) (hnn : σ.1 ≤ M.2.2.2.2.2 ∨ M.2.2.2.2.2 = 0) (kk : wm d M' [a1, a2, a3] σ (fun r σ' => wx (d + 1) M (pc + 3) L (r ++ rest) σ' K)) : wx (d + 1) M pc L (a3 :: a2 :: a1 :: rest) σ K :=
  wx_callSN (av := [a1, a2, a3]) hd hp.1 hp.2.1 hlink hp.2.2.1 rfl hrest (Or.inl hp.2.2.2) hnn kk
theorem wx_S4 {a1 a2 a3 a4 : Value} (hd : decode M.2.1 pc = .ok (.invokestatic idx, 3)) (hp : zPS M' 4) (hlink : Cond.methodLink M.1.cls idx M'.1 ∈ zT) (hrest : (rest.map fun v => v.category).sum ≤ 8) (hnn : σ.1 ≤ M.2.2.2.2.2 ∨ M.2.2.2.2.2 = 0) (kk : wm d M' [a1, a2, a3, a4] σ (fun r σ' => wx (d + 1) M (pc + 3) L (r ++ rest) σ' K)) : wx (d + 1) M pc L (a4 :: a3 :: a2 :: a1 :: rest) σ K :=
  wx_callS (av := [a1, a2, a3, a4]) hd hp.1 hp.2.1 hlink hp.2.2.1 rfl hrest (Or.inl hp.2.2.2) hnn kk
theorem wx_I0 {k : Nat} (hd : decode M.2.1 pc = .ok (.invokespecial idx, 3)) (hm : zCm M') (hi : Cond.instanceMethod M'.1 ∈ zT) (hlink : Cond.methodLink M.1.cls idx M'.1 ∈ zT) (hnp : zNp M' 0) (hin : M'.1.name = "<init>") (hvo : M'.2.2.2.1 = none) (hrest : (rest.map fun v => v.category).sum ≤ 8) (hrm : zRoom M M' σ.1) (hnn : σ.1 ≤ M.2.2.2.2.2 ∨ M.2.2.2.2.2 = 0) (kk : wm d M' [.ref k] σ (fun r σ' => wx (d + 1) M (pc + 3) L (r ++ rest) σ' K)) : wx (d + 1) M pc L (.ref k :: rest) σ K :=
  wx_callI (av := []) hd hm hi hlink hnp hin hvo rfl hrest hrm hnn kk
theorem wx_IN0 {k : Nat} {host : String} (hd : decode M.2.1 pc = .ok (.invokespecial idx, 3)) (hm : zCm M') (hi : Cond.instanceMethod M'.1 ∈ zT) (hlink : Cond.methodLinkNest M.1.cls idx M'.1 host ∈ zNest) (hnp : zNp M' 0) (hin : M'.1.name = "<init>") (hvo : M'.2.2.2.1 = none) (hrest : (rest.map fun v => v.category).sum ≤ 8) (hrm : zRoom M M' σ.1) (hnn : σ.1 ≤ M.2.2.2.2.2 ∨ M.2.2.2.2.2 = 0) (kk : wm d M' [.ref k] σ (fun r σ' => wx (d + 1) M (pc + 3) L (r ++ rest) σ' K)) : wx (d + 1) M pc L (.ref k :: rest) σ K :=
  wx_callIN (av := []) hd hm hi hlink hnp hin hvo rfl hrest hrm hnn kk
theorem wx_I1 {k : Nat} {a1 : Value} (hd : decode M.2.1 pc = .ok (.invokespecial idx, 3)) (hm : zCm M') (hi : Cond.instanceMethod M'.1 ∈ zT) (hlink : Cond.methodLink M.1.cls idx M'.1 ∈ zT) (hnp : zNp M' 1) (hin : M'.1.name = "<init>") (hvo : M'.2.2.2.1 = none) (hrest : (rest.map fun v => v.category).sum ≤ 8) (hrm : zRoom M M' σ.1) (hnn : σ.1 ≤ M.2.2.2.2.2 ∨ M.2.2.2.2.2 = 0) (kk : wm d M' [.ref k, a1] σ (fun r σ' => wx (d + 1) M (pc + 3) L (r ++ rest) σ' K)) : wx (d + 1) M pc L (a1 :: .ref k :: rest) σ K :=
  wx_callI (av := [a1]) hd hm hi hlink hnp hin hvo rfl hrest hrm hnn kk
theorem wx_IN1 {k : Nat} {host : String} {a1 : Value} (hd : decode M.2.1 pc = .ok (.invokespecial idx, 3)) (hm : zCm M') (hi : Cond.instanceMethod M'.1 ∈ zT) (hlink : Cond.methodLinkNest M.1.cls idx M'.1 host ∈ zNest) (hnp : zNp M' 1) (hin : M'.1.name = "<init>") (hvo : M'.2.2.2.1 = none) (hrest : (rest.map fun v => v.category).sum ≤ 8) (hrm : zRoom M M' σ.1) (hnn : σ.1 ≤ M.2.2.2.2.2 ∨ M.2.2.2.2.2 = 0) (kk : wm d M' [.ref k, a1] σ (fun r σ' => wx (d + 1) M (pc + 3) L (r ++ rest) σ' K)) : wx (d + 1) M pc L (a1 :: .ref k :: rest) σ K :=
  wx_callIN (av := [a1]) hd hm hi hlink hnp hin hvo rfl hrest hrm hnn kk
end ZAR
end
section
/-! the words, by their places in the tables -/
theorem zWl_0 : ∀ k, k < 11 → lw_tbl[([184, 186, 188, 190, 192, 194, 196, 198, 200, 202, 204] : List Nat).getD k 0]? = some (u_lay RX0 TX0 k) := by decide +kernel
theorem zWg_0 : ∀ k, k < 11 → goodWord (u_lay RX0 TX0 k) = true := by decide +kernel
theorem zWd_0 : ∀ k, k < 11 → defaultValue (tyX0 k) = if zIR 0 k then .null else .int 0 := by decide +kernel
theorem zWn_0 : ∀ k, k < 11 → (TX0 k).1 = RX0 := by decide +kernel
theorem zCl_0 : zCl 0 RX0 TX0 tyX0 := by
  refine ⟨rfl, by decide, fun w hw => ?_, tyX0_ok, nmX0, zWn_0, zWd_0⟩
  obtain ⟨k, hk, rfl⟩ := List.mem_map.mp hw
  have hk' := List.mem_range.mp hk
  exact zT_of _ (zWl_0 k hk') (zWg_0 k hk')
theorem zWl_1 : ∀ k, k < 3 → lw_tbl[([84, 86, 88] : List Nat).getD k 0]? = some (u_lay RX1 TX1 k) := by decide +kernel
theorem zWg_1 : ∀ k, k < 3 → goodWord (u_lay RX1 TX1 k) = true := by decide +kernel
theorem zWd_1 : ∀ k, k < 3 → defaultValue (tyX1 k) = if zIR 1 k then .null else .int 0 := by decide +kernel
theorem zWn_1 : ∀ k, k < 3 → (TX1 k).1 = RX1 := by decide +kernel
theorem zCl_1 : zCl 1 RX1 TX1 tyX1 := by
  refine ⟨rfl, by decide, fun w hw => ?_, tyX1_ok, nmX1, zWn_1, zWd_1⟩
  obtain ⟨k, hk, rfl⟩ := List.mem_map.mp hw
  have hk' := List.mem_range.mp hk
  exact zT_of _ (zWl_1 k hk') (zWg_1 k hk')
theorem zWl_2 : ∀ k, k < 6 → lw_tbl[([301, 303, 305, 307, 309, 311] : List Nat).getD k 0]? = some (u_lay RX2 TX2 k) := by decide +kernel
theorem zWg_2 : ∀ k, k < 6 → goodWord (u_lay RX2 TX2 k) = true := by decide +kernel
theorem zWd_2 : ∀ k, k < 6 → defaultValue (tyX2 k) = if zIR 2 k then .null else .int 0 := by decide +kernel
theorem zWn_2 : ∀ k, k < 6 → (TX2 k).1 = RX2 := by decide +kernel
theorem zCl_2 : zCl 2 RX2 TX2 tyX2 := by
  refine ⟨rfl, by decide, fun w hw => ?_, tyX2_ok, nmX2, zWn_2, zWd_2⟩
  obtain ⟨k, hk, rfl⟩ := List.mem_map.mp hw
  have hk' := List.mem_range.mp hk
  exact zT_of _ (zWl_2 k hk') (zWg_2 k hk')
theorem zWl_3 : ∀ k, k < 12 → lw_tbl[([118, 120, 122, 124, 126, 128, 130, 132, 134, 136, 138, 140] : List Nat).getD k 0]? = some (u_lay RX3 TX3 k) := by decide +kernel
theorem zWg_3 : ∀ k, k < 12 → goodWord (u_lay RX3 TX3 k) = true := by decide +kernel
theorem zWd_3 : ∀ k, k < 12 → defaultValue (tyX3 k) = if zIR 3 k then .null else .int 0 := by decide +kernel
theorem zWn_3 : ∀ k, k < 12 → (TX3 k).1 = RX3 := by decide +kernel
theorem zCl_3 : zCl 3 RX3 TX3 tyX3 := by
  refine ⟨rfl, by decide, fun w hw => ?_, tyX3_ok, nmX3, zWn_3, zWd_3⟩
  obtain ⟨k, hk, rfl⟩ := List.mem_map.mp hw
  have hk' := List.mem_range.mp hk
  exact zT_of _ (zWl_3 k hk') (zWg_3 k hk')
theorem zWl_4 : ∀ k, k < 9 → lw_tbl[([224, 226, 228, 230, 232, 234, 236, 238, 240] : List Nat).getD k 0]? = some (u_lay RX4 TX4 k) := by decide +kernel
theorem zWg_4 : ∀ k, k < 9 → goodWord (u_lay RX4 TX4 k) = true := by decide +kernel
theorem zWd_4 : ∀ k, k < 9 → defaultValue (tyX4 k) = if zIR 4 k then .null else .int 0 := by decide +kernel
theorem zWn_4 : ∀ k, k < 9 → (TX4 k).1 = RX4 := by decide +kernel
theorem zCl_4 : zCl 4 RX4 TX4 tyX4 := by
  refine ⟨rfl, by decide, fun w hw => ?_, tyX4_ok, nmX4, zWn_4, zWd_4⟩
  obtain ⟨k, hk, rfl⟩ := List.mem_map.mp hw
  have hk' := List.mem_range.mp hk
  exact zT_of _ (zWl_4 k hk') (zWg_4 k hk')
theorem zWl_5 : ∀ k, k < 7 → lw_tbl[([257, 259, 261, 263, 265, 267, 269] : List Nat).getD k 0]? = some (u_lay RX5 TX5 k) := by decide +kernel
theorem zWg_5 : ∀ k, k < 7 → goodWord (u_lay RX5 TX5 k) = true := by decide +kernel
theorem zWd_5 : ∀ k, k < 7 → defaultValue (tyX5 k) = if zIR 5 k then .null else .int 0 := by decide +kernel
theorem zWn_5 : ∀ k, k < 7 → (TX5 k).1 = RX5 := by decide +kernel
theorem zCl_5 : zCl 5 RX5 TX5 tyX5 := by
  refine ⟨rfl, by decide, fun w hw => ?_, tyX5_ok, nmX5, zWn_5, zWd_5⟩
  obtain ⟨k, hk, rfl⟩ := List.mem_map.mp hw
  have hk' := List.mem_range.mp hk
  exact zT_of _ (zWl_5 k hk') (zWg_5 k hk')
theorem zWl_6 : ∀ k, k < 3 → lw_tbl[([281, 283, 285] : List Nat).getD k 0]? = some (u_lay RX6 TX6 k) := by decide +kernel
theorem zWg_6 : ∀ k, k < 3 → goodWord (u_lay RX6 TX6 k) = true := by decide +kernel
theorem zWd_6 : ∀ k, k < 3 → defaultValue (tyX6 k) = if zIR 6 k then .null else .int 0 := by decide +kernel
theorem zWn_6 : ∀ k, k < 3 → (TX6 k).1 = RX6 := by decide +kernel
theorem zCl_6 : zCl 6 RX6 TX6 tyX6 := by
  refine ⟨rfl, by decide, fun w hw => ?_, tyX6_ok, nmX6, zWn_6, zWd_6⟩
  obtain ⟨k, hk, rfl⟩ := List.mem_map.mp hw
  have hk' := List.mem_range.mp hk
  exact zT_of _ (zWl_6 k hk') (zWg_6 k hk')
theorem zWl_7 : ∀ k, k < 5 → lw_tbl[([155, 157, 159, 161, 163] : List Nat).getD k 0]? = some (u_lay RX7 TX7 k) := by decide +kernel
theorem zWg_7 : ∀ k, k < 5 → goodWord (u_lay RX7 TX7 k) = true := by decide +kernel
theorem zWd_7 : ∀ k, k < 5 → defaultValue (tyX7 k) = if zIR 7 k then .null else .int 0 := by decide +kernel
theorem zWn_7 : ∀ k, k < 5 → (TX7 k).1 = RX7 := by decide +kernel
theorem zCl_7 : zCl 7 RX7 TX7 tyX7 := by
  refine ⟨rfl, by decide, fun w hw => ?_, tyX7_ok, nmX7, zWn_7, zWd_7⟩
  obtain ⟨k, hk, rfl⟩ := List.mem_map.mp hw
  have hk' := List.mem_range.mp hk
  exact zT_of _ (zWl_7 k hk') (zWg_7 k hk')
theorem zWl_8 : ∀ k, k < 9 → lw_tbl[([323, 325, 327, 329, 331, 333, 335, 337, 339] : List Nat).getD k 0]? = some (u_lay RX8 TX8 k) := by decide +kernel
theorem zWg_8 : ∀ k, k < 9 → goodWord (u_lay RX8 TX8 k) = true := by decide +kernel
theorem zWd_8 : ∀ k, k < 9 → defaultValue (tyX8 k) = if zIR 8 k then .null else .int 0 := by decide +kernel
theorem zWn_8 : ∀ k, k < 9 → (TX8 k).1 = RX8 := by decide +kernel
theorem zCl_8 : zCl 8 RX8 TX8 tyX8 := by
  refine ⟨rfl, by decide, fun w hw => ?_, tyX8_ok, nmX8, zWn_8, zWd_8⟩
  obtain ⟨k, hk, rfl⟩ := List.mem_map.mp hw
  have hk' := List.mem_range.mp hk
  exact zT_of _ (zWl_8 k hk') (zWg_8 k hk')
theorem zWl_9 : ∀ k, k < 37 → lw_tbl[([913, 915, 917, 919, 921, 923, 925, 927, 929, 931, 933, 935, 937, 939, 941, 943, 945, 947, 949, 951, 953, 955, 957, 959, 961, 963, 965, 967, 969, 971, 973, 975, 977, 979, 981, 983, 985] : List Nat).getD k 0]? = some (u_lay RX9 TX9 k) := by decide +kernel
theorem zWg_9 : ∀ k, k < 37 → goodWord (u_lay RX9 TX9 k) = true := by decide +kernel
theorem zWd_9 : ∀ k, k < 37 → defaultValue (tyX9 k) = if zIR 9 k then .null else .int 0 := by decide +kernel
theorem zWn_9 : ∀ k, k < 37 → (TX9 k).1 = RX9 := by decide +kernel
theorem zCl_9 : zCl 9 RX9 TX9 tyX9 := by
  refine ⟨rfl, by decide, fun w hw => ?_, tyX9_ok, nmX9, zWn_9, zWd_9⟩
  obtain ⟨k, hk, rfl⟩ := List.mem_map.mp hw
  have hk' := List.mem_range.mp hk
  exact zT_of _ (zWl_9 k hk') (zWg_9 k hk')
theorem zF_X1_9 : zF RX1 9 1 0 false .int := ⟨_, _, _, zCl_1, by decide, zT_of 81 (by decide +kernel) rfl, rfl, rfl⟩
theorem zF_X1_15 : zF RX1 15 1 1 false .int := ⟨_, _, _, zCl_1, by decide, zT_of 82 (by decide +kernel) rfl, rfl, rfl⟩
theorem zF_X1_18 : zF RX1 18 1 2 false .int := ⟨_, _, _, zCl_1, by decide, zT_of 83 (by decide +kernel) rfl, rfl, rfl⟩
theorem zF_X3_11 : zF RX3 11 3 0 true (.array (.array .int)) := ⟨_, _, _, zCl_3, by decide, zT_of 106 (by decide +kernel) rfl, rfl, rfl⟩
theorem zF_X3_16 : zF RX3 16 3 1 true (.array .int) := ⟨_, _, _, zCl_3, by decide, zT_of 107 (by decide +kernel) rfl, rfl, rfl⟩
theorem zF_X3_20 : zF RX3 20 3 2 true (.array .int) := ⟨_, _, _, zCl_3, by decide, zT_of 108 (by decide +kernel) rfl, rfl, rfl⟩
theorem zF_X3_23 : zF RX3 23 3 3 true (.array .int) := ⟨_, _, _, zCl_3, by decide, zT_of 109 (by decide +kernel) rfl, rfl, rfl⟩
theorem zF_X3_26 : zF RX3 26 3 4 true (.array .int) := ⟨_, _, _, zCl_3, by decide, zT_of 110 (by decide +kernel) rfl, rfl, rfl⟩
theorem zF_X3_29 : zF RX3 29 3 5 true (.array .int) := ⟨_, _, _, zCl_3, by decide, zT_of 111 (by decide +kernel) rfl, rfl, rfl⟩
theorem zF_X3_32 : zF RX3 32 3 6 true (.array .int) := ⟨_, _, _, zCl_3, by decide, zT_of 112 (by decide +kernel) rfl, rfl, rfl⟩
theorem zF_X3_35 : zF RX3 35 3 7 false .int := ⟨_, _, _, zCl_3, by decide, zT_of 113 (by decide +kernel) rfl, rfl, rfl⟩
theorem zF_X3_43 : zF RX3 43 3 8 false .int := ⟨_, _, _, zCl_3, by decide, zT_of 114 (by decide +kernel) rfl, rfl, rfl⟩
theorem zF_X3_59 : zF RX3 59 3 9 false .int := ⟨_, _, _, zCl_3, by decide, zT_of 115 (by decide +kernel) rfl, rfl, rfl⟩
theorem zF_X3_62 : zF RX3 62 3 10 false .int := ⟨_, _, _, zCl_3, by decide, zT_of 116 (by decide +kernel) rfl, rfl, rfl⟩
theorem zF_X3_52 : zF RX3 52 3 11 false .boolean := ⟨_, _, _, zCl_3, by decide, zT_of 117 (by decide +kernel) rfl, rfl, rfl⟩
theorem zF_X7_25 : zF RX7 25 7 0 true (.object "MirrorTrue$Knives") := ⟨_, _, _, zCl_7, by decide, zT_of 150 (by decide +kernel) rfl, rfl, rfl⟩
theorem zF_X7_9 : zF RX7 9 7 1 true (.array .int) := ⟨_, _, _, zCl_7, by decide, zT_of 151 (by decide +kernel) rfl, rfl, rfl⟩
theorem zF_X7_15 : zF RX7 15 7 2 true (.array .int) := ⟨_, _, _, zCl_7, by decide, zT_of 152 (by decide +kernel) rfl, rfl, rfl⟩
theorem zF_X7_18 : zF RX7 18 7 3 true (.array .int) := ⟨_, _, _, zCl_7, by decide, zT_of 153 (by decide +kernel) rfl, rfl, rfl⟩
theorem zF_X7_21 : zF RX7 21 7 4 false .int := ⟨_, _, _, zCl_7, by decide, zT_of 154 (by decide +kernel) rfl, rfl, rfl⟩
theorem zF_X0_9 : zF RX0 9 0 0 true (.array .int) := ⟨_, _, _, zCl_0, by decide, zT_of 173 (by decide +kernel) rfl, rfl, rfl⟩
theorem zF_X0_15 : zF RX0 15 0 1 true (.array .int) := ⟨_, _, _, zCl_0, by decide, zT_of 174 (by decide +kernel) rfl, rfl, rfl⟩
theorem zF_X0_20 : zF RX0 20 0 2 true (.array (.array .int)) := ⟨_, _, _, zCl_0, by decide, zT_of 175 (by decide +kernel) rfl, rfl, rfl⟩
theorem zF_X0_23 : zF RX0 23 0 3 true (.array .int) := ⟨_, _, _, zCl_0, by decide, zT_of 176 (by decide +kernel) rfl, rfl, rfl⟩
theorem zF_X0_26 : zF RX0 26 0 4 true (.array .int) := ⟨_, _, _, zCl_0, by decide, zT_of 177 (by decide +kernel) rfl, rfl, rfl⟩
theorem zF_X0_29 : zF RX0 29 0 5 true (.array .int) := ⟨_, _, _, zCl_0, by decide, zT_of 178 (by decide +kernel) rfl, rfl, rfl⟩
theorem zF_X0_32 : zF RX0 32 0 6 true (.array (.array .int)) := ⟨_, _, _, zCl_0, by decide, zT_of 179 (by decide +kernel) rfl, rfl, rfl⟩
theorem zF_X0_35 : zF RX0 35 0 7 false .int := ⟨_, _, _, zCl_0, by decide, zT_of 180 (by decide +kernel) rfl, rfl, rfl⟩
theorem zF_X0_39 : zF RX0 39 0 8 false .int := ⟨_, _, _, zCl_0, by decide, zT_of 181 (by decide +kernel) rfl, rfl, rfl⟩
theorem zF_X0_42 : zF RX0 42 0 9 false .int := ⟨_, _, _, zCl_0, by decide, zT_of 182 (by decide +kernel) rfl, rfl, rfl⟩
theorem zF_X0_45 : zF RX0 45 0 10 false .int := ⟨_, _, _, zCl_0, by decide, zT_of 183 (by decide +kernel) rfl, rfl, rfl⟩
theorem zF_X4_32 : zF RX4 32 4 0 true (.object "MirrorTrue$Bench") := ⟨_, _, _, zCl_4, by decide, zT_of 215 (by decide +kernel) rfl, rfl, rfl⟩
theorem zF_X4_11 : zF RX4 11 4 1 true (.array .int) := ⟨_, _, _, zCl_4, by decide, zT_of 216 (by decide +kernel) rfl, rfl, rfl⟩
theorem zF_X4_17 : zF RX4 17 4 2 true (.array (.array .int)) := ⟨_, _, _, zCl_4, by decide, zT_of 217 (by decide +kernel) rfl, rfl, rfl⟩
theorem zF_X4_20 : zF RX4 20 4 3 true (.array .int) := ⟨_, _, _, zCl_4, by decide, zT_of 218 (by decide +kernel) rfl, rfl, rfl⟩
theorem zF_X4_23 : zF RX4 23 4 4 true (.array .int) := ⟨_, _, _, zCl_4, by decide, zT_of 219 (by decide +kernel) rfl, rfl, rfl⟩
theorem zF_X4_26 : zF RX4 26 4 5 true (.array .int) := ⟨_, _, _, zCl_4, by decide, zT_of 220 (by decide +kernel) rfl, rfl, rfl⟩
theorem zF_X4_29 : zF RX4 29 4 6 true (.array .int) := ⟨_, _, _, zCl_4, by decide, zT_of 221 (by decide +kernel) rfl, rfl, rfl⟩
theorem zF_X4_77 : zF RX4 77 4 7 false .int := ⟨_, _, _, zCl_4, by decide, zT_of 222 (by decide +kernel) rfl, rfl, rfl⟩
theorem zF_X4_46 : zF RX4 46 4 8 false .int := ⟨_, _, _, zCl_4, by decide, zT_of 223 (by decide +kernel) rfl, rfl, rfl⟩
theorem zF_X5_11 : zF RX5 11 5 0 true (.array (.array .int)) := ⟨_, _, _, zCl_5, by decide, zT_of 250 (by decide +kernel) rfl, rfl, rfl⟩
theorem zF_X5_16 : zF RX5 16 5 1 true (.array (.array .int)) := ⟨_, _, _, zCl_5, by decide, zT_of 251 (by decide +kernel) rfl, rfl, rfl⟩
theorem zF_X5_19 : zF RX5 19 5 2 true (.array .int) := ⟨_, _, _, zCl_5, by decide, zT_of 252 (by decide +kernel) rfl, rfl, rfl⟩
theorem zF_X5_23 : zF RX5 23 5 3 true (.array .int) := ⟨_, _, _, zCl_5, by decide, zT_of 253 (by decide +kernel) rfl, rfl, rfl⟩
theorem zF_X5_26 : zF RX5 26 5 4 false .int := ⟨_, _, _, zCl_5, by decide, zT_of 254 (by decide +kernel) rfl, rfl, rfl⟩
theorem zF_X5_43 : zF RX5 43 5 5 false .int := ⟨_, _, _, zCl_5, by decide, zT_of 255 (by decide +kernel) rfl, rfl, rfl⟩
theorem zF_X5_30 : zF RX5 30 5 6 false .boolean := ⟨_, _, _, zCl_5, by decide, zT_of 256 (by decide +kernel) rfl, rfl, rfl⟩
theorem zF_X6_9 : zF RX6 9 6 0 true (.array .int) := ⟨_, _, _, zCl_6, by decide, zT_of 278 (by decide +kernel) rfl, rfl, rfl⟩
theorem zF_X6_15 : zF RX6 15 6 1 true (.array .int) := ⟨_, _, _, zCl_6, by decide, zT_of 279 (by decide +kernel) rfl, rfl, rfl⟩
theorem zF_X6_18 : zF RX6 18 6 2 false .int := ⟨_, _, _, zCl_6, by decide, zT_of 280 (by decide +kernel) rfl, rfl, rfl⟩
theorem zF_X2_9 : zF RX2 9 2 0 true (.array .int) := ⟨_, _, _, zCl_2, by decide, zT_of 295 (by decide +kernel) rfl, rfl, rfl⟩
theorem zF_X2_15 : zF RX2 15 2 1 true (.array .int) := ⟨_, _, _, zCl_2, by decide, zT_of 296 (by decide +kernel) rfl, rfl, rfl⟩
theorem zF_X2_20 : zF RX2 20 2 2 true (.array (.array .int)) := ⟨_, _, _, zCl_2, by decide, zT_of 297 (by decide +kernel) rfl, rfl, rfl⟩
theorem zF_X2_23 : zF RX2 23 2 3 false .int := ⟨_, _, _, zCl_2, by decide, zT_of 298 (by decide +kernel) rfl, rfl, rfl⟩
theorem zF_X2_27 : zF RX2 27 2 4 false .int := ⟨_, _, _, zCl_2, by decide, zT_of 299 (by decide +kernel) rfl, rfl, rfl⟩
theorem zF_X2_30 : zF RX2 30 2 5 false .boolean := ⟨_, _, _, zCl_2, by decide, zT_of 300 (by decide +kernel) rfl, rfl, rfl⟩
theorem zF_X8_12 : zF RX8 12 8 0 true (.object "MirrorTrue$Curve") := ⟨_, _, _, zCl_8, by decide, zT_of 314 (by decide +kernel) rfl, rfl, rfl⟩
theorem zF_X8_19 : zF RX8 19 8 1 true (.object "MirrorTrue$Knives") := ⟨_, _, _, zCl_8, by decide, zT_of 315 (by decide +kernel) rfl, rfl, rfl⟩
theorem zF_X8_28 : zF RX8 28 8 2 true (.object "MirrorTrue$Wires") := ⟨_, _, _, zCl_8, by decide, zT_of 316 (by decide +kernel) rfl, rfl, rfl⟩
theorem zF_X8_35 : zF RX8 35 8 3 true (.object "MirrorTrue$Bench") := ⟨_, _, _, zCl_8, by decide, zT_of 317 (by decide +kernel) rfl, rfl, rfl⟩
theorem zF_X8_44 : zF RX8 44 8 4 true (.object "MirrorTrue$Planner") := ⟨_, _, _, zCl_8, by decide, zT_of 318 (by decide +kernel) rfl, rfl, rfl⟩
theorem zF_X8_51 : zF RX8 51 8 5 true (.object "MirrorTrue$Rings") := ⟨_, _, _, zCl_8, by decide, zT_of 319 (by decide +kernel) rfl, rfl, rfl⟩
theorem zF_X8_58 : zF RX8 58 8 6 true (.object "MirrorTrue$Shells") := ⟨_, _, _, zCl_8, by decide, zT_of 320 (by decide +kernel) rfl, rfl, rfl⟩
theorem zF_X8_65 : zF RX8 65 8 7 true (.object "MirrorTrue$Grits") := ⟨_, _, _, zCl_8, by decide, zT_of 321 (by decide +kernel) rfl, rfl, rfl⟩
theorem zF_X8_69 : zF RX8 69 8 8 false .int := ⟨_, _, _, zCl_8, by decide, zT_of 322 (by decide +kernel) rfl, rfl, rfl⟩
theorem zF_X9_7 : zF RX9 7 9 0 false .int := ⟨_, _, _, zCl_9, by decide, zT_of 876 (by decide +kernel) rfl, rfl, rfl⟩
theorem zF_X9_13 : zF RX9 13 9 1 true (.array .int) := ⟨_, _, _, zCl_9, by decide, zT_of 877 (by decide +kernel) rfl, rfl, rfl⟩
theorem zF_X9_17 : zF RX9 17 9 2 true (.array .int) := ⟨_, _, _, zCl_9, by decide, zT_of 878 (by decide +kernel) rfl, rfl, rfl⟩
theorem zF_X9_20 : zF RX9 20 9 3 false .int := ⟨_, _, _, zCl_9, by decide, zT_of 879 (by decide +kernel) rfl, rfl, rfl⟩
theorem zF_X9_23 : zF RX9 23 9 4 false .int := ⟨_, _, _, zCl_9, by decide, zT_of 880 (by decide +kernel) rfl, rfl, rfl⟩
theorem zF_X9_26 : zF RX9 26 9 5 false .int := ⟨_, _, _, zCl_9, by decide, zT_of 881 (by decide +kernel) rfl, rfl, rfl⟩
theorem zF_X9_29 : zF RX9 29 9 6 true (.array .int) := ⟨_, _, _, zCl_9, by decide, zT_of 882 (by decide +kernel) rfl, rfl, rfl⟩
theorem zF_X9_32 : zF RX9 32 9 7 false .int := ⟨_, _, _, zCl_9, by decide, zT_of 883 (by decide +kernel) rfl, rfl, rfl⟩
theorem zF_X9_110 : zF RX9 110 9 8 false .int := ⟨_, _, _, zCl_9, by decide, zT_of 884 (by decide +kernel) rfl, rfl, rfl⟩
theorem zF_X9_35 : zF RX9 35 9 9 true (.array .int) := ⟨_, _, _, zCl_9, by decide, zT_of 885 (by decide +kernel) rfl, rfl, rfl⟩
theorem zF_X9_38 : zF RX9 38 9 10 true (.array .int) := ⟨_, _, _, zCl_9, by decide, zT_of 886 (by decide +kernel) rfl, rfl, rfl⟩
theorem zF_X9_41 : zF RX9 41 9 11 true (.array .int) := ⟨_, _, _, zCl_9, by decide, zT_of 887 (by decide +kernel) rfl, rfl, rfl⟩
theorem zF_X9_44 : zF RX9 44 9 12 true (.array .int) := ⟨_, _, _, zCl_9, by decide, zT_of 888 (by decide +kernel) rfl, rfl, rfl⟩
theorem zF_X9_47 : zF RX9 47 9 13 false .int := ⟨_, _, _, zCl_9, by decide, zT_of 889 (by decide +kernel) rfl, rfl, rfl⟩
theorem zF_X9_113 : zF RX9 113 9 14 false .int := ⟨_, _, _, zCl_9, by decide, zT_of 890 (by decide +kernel) rfl, rfl, rfl⟩
theorem zF_X9_50 : zF RX9 50 9 15 true (.array .int) := ⟨_, _, _, zCl_9, by decide, zT_of 891 (by decide +kernel) rfl, rfl, rfl⟩
theorem zF_X9_53 : zF RX9 53 9 16 true (.array .int) := ⟨_, _, _, zCl_9, by decide, zT_of 892 (by decide +kernel) rfl, rfl, rfl⟩
theorem zF_X9_56 : zF RX9 56 9 17 true (.array .int) := ⟨_, _, _, zCl_9, by decide, zT_of 893 (by decide +kernel) rfl, rfl, rfl⟩
theorem zF_X9_59 : zF RX9 59 9 18 true (.array .int) := ⟨_, _, _, zCl_9, by decide, zT_of 894 (by decide +kernel) rfl, rfl, rfl⟩
theorem zF_X9_62 : zF RX9 62 9 19 true (.array .int) := ⟨_, _, _, zCl_9, by decide, zT_of 895 (by decide +kernel) rfl, rfl, rfl⟩
theorem zF_X9_65 : zF RX9 65 9 20 true (.array .int) := ⟨_, _, _, zCl_9, by decide, zT_of 896 (by decide +kernel) rfl, rfl, rfl⟩
theorem zF_X9_213 : zF RX9 213 9 21 false .int := ⟨_, _, _, zCl_9, by decide, zT_of 897 (by decide +kernel) rfl, rfl, rfl⟩
theorem zF_X9_68 : zF RX9 68 9 22 true (.array .int) := ⟨_, _, _, zCl_9, by decide, zT_of 898 (by decide +kernel) rfl, rfl, rfl⟩
theorem zF_X9_71 : zF RX9 71 9 23 true (.array .int) := ⟨_, _, _, zCl_9, by decide, zT_of 899 (by decide +kernel) rfl, rfl, rfl⟩
theorem zF_X9_216 : zF RX9 216 9 24 false .int := ⟨_, _, _, zCl_9, by decide, zT_of 900 (by decide +kernel) rfl, rfl, rfl⟩
theorem zF_X9_74 : zF RX9 74 9 25 true (.array .int) := ⟨_, _, _, zCl_9, by decide, zT_of 901 (by decide +kernel) rfl, rfl, rfl⟩
theorem zF_X9_77 : zF RX9 77 9 26 true (.array .int) := ⟨_, _, _, zCl_9, by decide, zT_of 902 (by decide +kernel) rfl, rfl, rfl⟩
theorem zF_X9_149 : zF RX9 149 9 27 false .int := ⟨_, _, _, zCl_9, by decide, zT_of 903 (by decide +kernel) rfl, rfl, rfl⟩
theorem zF_X9_80 : zF RX9 80 9 28 true (.array .int) := ⟨_, _, _, zCl_9, by decide, zT_of 904 (by decide +kernel) rfl, rfl, rfl⟩
theorem zF_X9_83 : zF RX9 83 9 29 true (.array .int) := ⟨_, _, _, zCl_9, by decide, zT_of 905 (by decide +kernel) rfl, rfl, rfl⟩
theorem zF_X9_86 : zF RX9 86 9 30 true (.array .boolean) := ⟨_, _, _, zCl_9, by decide, zT_of 906 (by decide +kernel) rfl, rfl, rfl⟩
theorem zF_X9_90 : zF RX9 90 9 31 true (.array .int) := ⟨_, _, _, zCl_9, by decide, zT_of 907 (by decide +kernel) rfl, rfl, rfl⟩
theorem zF_X9_93 : zF RX9 93 9 32 true (.array .int) := ⟨_, _, _, zCl_9, by decide, zT_of 908 (by decide +kernel) rfl, rfl, rfl⟩
theorem zF_X9_198 : zF RX9 198 9 33 false .int := ⟨_, _, _, zCl_9, by decide, zT_of 909 (by decide +kernel) rfl, rfl, rfl⟩
theorem zF_X9_96 : zF RX9 96 9 34 true (.array .int) := ⟨_, _, _, zCl_9, by decide, zT_of 910 (by decide +kernel) rfl, rfl, rfl⟩
theorem zF_X9_99 : zF RX9 99 9 35 true (.array .int) := ⟨_, _, _, zCl_9, by decide, zT_of 911 (by decide +kernel) rfl, rfl, rfl⟩
theorem zF_X9_103 : zF RX9 103 9 36 true (.array .int) := ⟨_, _, _, zCl_9, by decide, zT_of 912 (by decide +kernel) rfl, rfl, rfl⟩
theorem zKc_X8_89 : Cond.constantLong RX8 89 (-1000000000000000000) ∈ zT := zT_of 383 (by decide +kernel) rfl
theorem zKc_X1_21 : Cond.constantLong RX1 21 (4) ∈ zT := zT_of 388 (by decide +kernel) rfl
theorem zKc_X1_23 : Cond.constantLong RX1 23 (8) ∈ zT := zT_of 389 (by decide +kernel) rfl
theorem zKc_X1_35 : Cond.constantLong RX1 35 (-1000000000000000000) ∈ zT := zT_of 396 (by decide +kernel) rfl
theorem zKc_X8_99 : Cond.constant RX8 99 (-100000) ∈ zT := zT_of 405 (by decide +kernel) rfl
theorem zKc_X8_100 : Cond.constant RX8 100 (100000) ∈ zT := zT_of 406 (by decide +kernel) rfl
theorem zKc_X8_101 : Cond.constant RX8 101 (-1000000) ∈ zT := zT_of 407 (by decide +kernel) rfl
theorem zKc_J6_265 : Cond.constant RJ6 265 (1431655765) ∈ zT := zT_of 474 (by decide +kernel) rfl
theorem zKc_J6_266 : Cond.constant RJ6 266 (858993459) ∈ zT := zT_of 475 (by decide +kernel) rfl
theorem zKc_J6_267 : Cond.constant RJ6 267 (252645135) ∈ zT := zT_of 476 (by decide +kernel) rfl
theorem zKc_X3_65 : Cond.constant RX3 65 (1000000) ∈ zT := zT_of 517 (by decide +kernel) rfl
theorem zKc_X8_133 : Cond.constant RX8 133 (2000000) ∈ zT := zT_of 518 (by decide +kernel) rfl
theorem zKc_X7_44 : Cond.constant RX7 44 (1000000) ∈ zT := zT_of 544 (by decide +kernel) rfl
theorem zKc_X0_75 : Cond.constant RX0 75 (-100000) ∈ zT := zT_of 587 (by decide +kernel) rfl
theorem zKc_X8_158 : Cond.constant RX8 158 (-1000002) ∈ zT := zT_of 588 (by decide +kernel) rfl
theorem zKc_X8_162 : Cond.constant RX8 162 (-1000003) ∈ zT := zT_of 593 (by decide +kernel) rfl
theorem zKc_X9_102 : Cond.constant RX9 102 (102949) ∈ zT := zT_of 871 (by decide +kernel) rfl
theorem zKc_X9_120 : Cond.constantLong RX9 120 (-1000000000000000000) ∈ zT := zT_of 1004 (by decide +kernel) rfl
theorem zKc_X9_122 : Cond.constantLong RX9 122 (4) ∈ zT := zT_of 1005 (by decide +kernel) rfl
theorem zKc_X9_124 : Cond.constantLong RX9 124 (8) ∈ zT := zT_of 1006 (by decide +kernel) rfl
theorem zKc_X9_134 : Cond.constant RX9 134 (-100000) ∈ zT := zT_of 1018 (by decide +kernel) rfl
theorem zKc_X9_135 : Cond.constant RX9 135 (100000) ∈ zT := zT_of 1019 (by decide +kernel) rfl
theorem zKc_X9_136 : Cond.constant RX9 136 (-1000000) ∈ zT := zT_of 1020 (by decide +kernel) rfl
theorem zKc_X9_163 : Cond.constant RX9 163 (2000000) ∈ zT := zT_of 1068 (by decide +kernel) rfl
theorem zKc_X9_162 : Cond.constant RX9 162 (1000000) ∈ zT := zT_of 1073 (by decide +kernel) rfl
theorem zKc_X9_173 : Cond.constant RX9 173 (-1000002) ∈ zT := zT_of 1102 (by decide +kernel) rfl
theorem zKc_X9_174 : Cond.constant RX9 174 (-1000003) ∈ zT := zT_of 1103 (by decide +kernel) rfl
theorem zNc_L_7 : zNc RL 7 8 := ⟨_, _, _, zCl_8, zT_of 67 (by decide +kernel) rfl, zT_of 68 (by decide +kernel) rfl, zT_of 53 (by decide +kernel) rfl⟩
theorem zNc_X8_9 : zNc RX8 9 1 := ⟨_, _, _, zCl_1, zT_of 75 (by decide +kernel) rfl, zT_of 76 (by decide +kernel) rfl, zT_of 54 (by decide +kernel) rfl⟩
theorem zNc_X8_16 : zNc RX8 16 3 := ⟨_, _, _, zCl_3, zT_of 91 (by decide +kernel) rfl, zT_of 92 (by decide +kernel) rfl, zT_of 55 (by decide +kernel) rfl⟩
theorem zNa_X3_9 : Cond.classLink RX3 9 ("[" ++ (FieldType.array .int).toString) ∈ zT := zT_of 97 (by decide +kernel) rfl
theorem zNc_X8_23 : zNc RX8 23 7 := ⟨_, _, _, zCl_7, zT_of 144 (by decide +kernel) rfl, zT_of 145 (by decide +kernel) rfl, zT_of 57 (by decide +kernel) rfl⟩
theorem zNc_X8_32 : zNc RX8 32 0 := ⟨_, _, _, zCl_0, zT_of 166 (by decide +kernel) rfl, zT_of 167 (by decide +kernel) rfl, zT_of 58 (by decide +kernel) rfl⟩
theorem zNa_X0_18 : Cond.classLink RX0 18 ("[" ++ (FieldType.array .int).toString) ∈ zT := zT_of 172 (by decide +kernel) rfl
theorem zNc_X8_39 : zNc RX8 39 4 := ⟨_, _, _, zCl_4, zT_of 207 (by decide +kernel) rfl, zT_of 208 (by decide +kernel) rfl, zT_of 59 (by decide +kernel) rfl⟩
theorem zNa_X4_15 : Cond.classLink RX4 15 ("[" ++ (FieldType.array .int).toString) ∈ zT := zT_of 213 (by decide +kernel) rfl
theorem zNc_X8_48 : zNc RX8 48 5 := ⟨_, _, _, zCl_5, zT_of 243 (by decide +kernel) rfl, zT_of 244 (by decide +kernel) rfl, zT_of 60 (by decide +kernel) rfl⟩
theorem zNa_X5_9 : Cond.classLink RX5 9 ("[" ++ (FieldType.array .int).toString) ∈ zT := zT_of 249 (by decide +kernel) rfl
theorem zNc_X8_55 : zNc RX8 55 6 := ⟨_, _, _, zCl_6, zT_of 272 (by decide +kernel) rfl, zT_of 273 (by decide +kernel) rfl, zT_of 61 (by decide +kernel) rfl⟩
theorem zNc_X8_62 : zNc RX8 62 2 := ⟨_, _, _, zCl_2, zT_of 288 (by decide +kernel) rfl, zT_of 289 (by decide +kernel) rfl, zT_of 62 (by decide +kernel) rfl⟩
theorem zNa_X2_18 : Cond.classLink RX2 18 ("[" ++ (FieldType.array .int).toString) ∈ zT := zT_of 294 (by decide +kernel) rfl
theorem zNc_L_10 : zNc RL 10 9 := ⟨_, _, _, zCl_9, zT_of 865 (by decide +kernel) rfl, zT_of 866 (by decide +kernel) rfl, zT_of 63 (by decide +kernel) rfl⟩
theorem zAi : Cond.arrayClass .int ∈ zT := zT_of 143 (by decide +kernel) rfl
theorem zAz : Cond.arrayClass .boolean ∈ zT := zT_of 988 (by decide +kernel) rfl
abbrev mX0_init : zMt := (yX0_init, cX0_init, 1, none, 18, 88)
theorem zCm_X0_init : zCm mX0_init := ⟨zT_of 170 (by decide +kernel) rfl, zT_of 58 (by decide +kernel) rfl, by decide +kernel, by decide, by decide +kernel⟩
theorem zNp_X0_init : zNp mX0_init 0 := by unfold zNp; decide +kernel
theorem zII_X0_init : Cond.instanceMethod mX0_init.1 ∈ zT := zT_of 169 (by decide +kernel) rfl
abbrev mX0_begin : zMt := (yX0_begin, cX0_begin, 2, none, 0, 0)
theorem zCm_X0_begin : zCm mX0_begin := ⟨zT_of 357 (by decide +kernel) rfl, zT_of 58 (by decide +kernel) rfl, by decide +kernel, by decide, by decide +kernel⟩
theorem zPV_X0_begin : zPV mX0_begin 1 0 := ⟨zCm_X0_begin, ⟨zT_of 355 (by decide +kernel) rfl, zT_of 356 (by decide +kernel) rfl⟩, by unfold zNp; decide +kernel, by decide, rfl, rfl⟩
abbrev mX0_keepAsTold : zMt := (yX0_keepAsTold, cX0_keepAsTold, 1, none, 0, 0)
theorem zCm_X0_keepAsTold : zCm mX0_keepAsTold := ⟨zT_of 362 (by decide +kernel) rfl, zT_of 58 (by decide +kernel) rfl, by decide +kernel, by decide, by decide +kernel⟩
theorem zPV_X0_keepAsTold : zPV mX0_keepAsTold 0 0 := ⟨zCm_X0_keepAsTold, ⟨zT_of 361 (by decide +kernel) rfl, zT_of 0 (by decide +kernel) rfl⟩, by unfold zNp; decide +kernel, by decide, rfl, rfl⟩
abbrev mX0_tellHeight : zMt := (yX0_tellHeight, cX0_tellHeight, 4, (some .int), 0, 0)
theorem zCm_X0_tellHeight : zCm mX0_tellHeight := ⟨zT_of 411 (by decide +kernel) rfl, zT_of 58 (by decide +kernel) rfl, by decide +kernel, by decide, by decide +kernel⟩
theorem zPV_X0_tellHeight : zPV mX0_tellHeight 2 0 := ⟨zCm_X0_tellHeight, ⟨zT_of 409 (by decide +kernel) rfl, zT_of 410 (by decide +kernel) rfl⟩, by unfold zNp; decide +kernel, by decide, rfl, rfl⟩
abbrev mX0_tellPull : zMt := (yX0_tellPull, cX0_tellPull, 5, (some .int), 0, 0)
theorem zCm_X0_tellPull : zCm mX0_tellPull := ⟨zT_of 561 (by decide +kernel) rfl, zT_of 58 (by decide +kernel) rfl, by decide +kernel, by decide, by decide +kernel⟩
theorem zPV_X0_tellPull : zPV mX0_tellPull 3 0 := ⟨zCm_X0_tellPull, ⟨zT_of 559 (by decide +kernel) rfl, zT_of 560 (by decide +kernel) rfl⟩, by unfold zNp; decide +kernel, by decide, rfl, rfl⟩
abbrev mX0_tellRest : zMt := (yX0_tellRest, cX0_tellRest, 3, (some .int), 0, 0)
theorem zCm_X0_tellRest : zCm mX0_tellRest := ⟨zT_of 569 (by decide +kernel) rfl, zT_of 58 (by decide +kernel) rfl, by decide +kernel, by decide, by decide +kernel⟩
theorem zPV_X0_tellRest : zPV mX0_tellRest 1 0 := ⟨zCm_X0_tellRest, ⟨zT_of 567 (by decide +kernel) rfl, zT_of 568 (by decide +kernel) rfl⟩, by unfold zNp; decide +kernel, by decide, rfl, rfl⟩
abbrev mX0_howManyZones : zMt := (yX0_howManyZones, cX0_howManyZones, 1, (some .int), 0, 0)
theorem zCm_X0_howManyZones : zCm mX0_howManyZones := ⟨zT_of 641 (by decide +kernel) rfl, zT_of 58 (by decide +kernel) rfl, by decide +kernel, by decide, by decide +kernel⟩
theorem zPV_X0_howManyZones : zPV mX0_howManyZones 0 0 := ⟨zCm_X0_howManyZones, ⟨zT_of 639 (by decide +kernel) rfl, zT_of 640 (by decide +kernel) rfl⟩, by unfold zNp; decide +kernel, by decide, rfl, rfl⟩
abbrev mX0_heightOf : zMt := (yX0_heightOf, cX0_heightOf, 2, (some .int), 0, 0)
theorem zCm_X0_heightOf : zCm mX0_heightOf := ⟨zT_of 419 (by decide +kernel) rfl, zT_of 58 (by decide +kernel) rfl, by decide +kernel, by decide, by decide +kernel⟩
theorem zPV_X0_heightOf : zPV mX0_heightOf 1 0 := ⟨zCm_X0_heightOf, ⟨zT_of 417 (by decide +kernel) rfl, zT_of 418 (by decide +kernel) rfl⟩, by unfold zNp; decide +kernel, by decide, rfl, rfl⟩
abbrev mX0_pullOf : zMt := (yX0_pullOf, cX0_pullOf, 3, (some .int), 0, 0)
theorem zCm_X0_pullOf : zCm mX0_pullOf := ⟨zT_of 586 (by decide +kernel) rfl, zT_of 58 (by decide +kernel) rfl, by decide +kernel, by decide, by decide +kernel⟩
theorem zPV_X0_pullOf : zPV mX0_pullOf 2 0 := ⟨zCm_X0_pullOf, ⟨zT_of 584 (by decide +kernel) rfl, zT_of 585 (by decide +kernel) rfl⟩, by unfold zNp; decide +kernel, by decide, rfl, rfl⟩
abbrev mX0_restOf : zMt := (yX0_restOf, cX0_restOf, 1, (some .int), 0, 0)
theorem zCm_X0_restOf : zCm mX0_restOf := ⟨zT_of 645 (by decide +kernel) rfl, zT_of 58 (by decide +kernel) rfl, by decide +kernel, by decide, by decide +kernel⟩
theorem zPV_X0_restOf : zPV mX0_restOf 0 0 := ⟨zCm_X0_restOf, ⟨zT_of 643 (by decide +kernel) rfl, zT_of 644 (by decide +kernel) rfl⟩, by unfold zNp; decide +kernel, by decide, rfl, rfl⟩
abbrev mX0_howManyChanges : zMt := (yX0_howManyChanges, cX0_howManyChanges, 1, (some .int), 0, 0)
theorem zCm_X0_howManyChanges : zCm mX0_howManyChanges := ⟨zT_of 633 (by decide +kernel) rfl, zT_of 58 (by decide +kernel) rfl, by decide +kernel, by decide, by decide +kernel⟩
theorem zPV_X0_howManyChanges : zPV mX0_howManyChanges 0 0 := ⟨zCm_X0_howManyChanges, ⟨zT_of 631 (by decide +kernel) rfl, zT_of 632 (by decide +kernel) rfl⟩, by unfold zNp; decide +kernel, by decide, rfl, rfl⟩
abbrev mX0_howMany : zMt := (yX0_howMany, cX0_howMany, 1, (some .int), 0, 0)
theorem zCm_X0_howMany : zCm mX0_howMany := ⟨zT_of 605 (by decide +kernel) rfl, zT_of 58 (by decide +kernel) rfl, by decide +kernel, by decide, by decide +kernel⟩
theorem zPV_X0_howMany : zPV mX0_howMany 0 0 := ⟨zCm_X0_howMany, ⟨zT_of 603 (by decide +kernel) rfl, zT_of 604 (by decide +kernel) rfl⟩, by unfold zNp; decide +kernel, by decide, rfl, rfl⟩
abbrev mX0_roomLeft : zMt := (yX0_roomLeft, cX0_roomLeft, 1, (some .int), 0, 0)
theorem zCm_X0_roomLeft : zCm mX0_roomLeft := ⟨zT_of 592 (by decide +kernel) rfl, zT_of 58 (by decide +kernel) rfl, by decide +kernel, by decide, by decide +kernel⟩
theorem zPV_X0_roomLeft : zPV mX0_roomLeft 0 0 := ⟨zCm_X0_roomLeft, ⟨zT_of 590 (by decide +kernel) rfl, zT_of 591 (by decide +kernel) rfl⟩, by unfold zNp; decide +kernel, by decide, rfl, rfl⟩
abbrev mX0_minutesTogether : zMt := (yX0_minutesTogether, cX0_minutesTogether, 3, (some .int), 0, 0)
theorem zCm_X0_minutesTogether : zCm mX0_minutesTogether := ⟨zT_of 864 (by decide +kernel) rfl, zT_of 58 (by decide +kernel) rfl, by decide +kernel, by decide, by decide +kernel⟩
theorem zPV_X0_minutesTogether : zPV mX0_minutesTogether 0 0 := ⟨zCm_X0_minutesTogether, ⟨zT_of 862 (by decide +kernel) rfl, zT_of 863 (by decide +kernel) rfl⟩, by unfold zNp; decide +kernel, by decide, rfl, rfl⟩
abbrev mX0_wouldSink : zMt := (yX0_wouldSink, cX0_wouldSink, 5, (some .boolean), 0, 0)
theorem zCm_X0_wouldSink : zCm mX0_wouldSink := ⟨zT_of 577 (by decide +kernel) rfl, zT_of 58 (by decide +kernel) rfl, by decide +kernel, by decide, by decide +kernel⟩
theorem zPV_X0_wouldSink : zPV mX0_wouldSink 3 0 := ⟨zCm_X0_wouldSink, ⟨zT_of 575 (by decide +kernel) rfl, zT_of 576 (by decide +kernel) rfl⟩, by unfold zNp; decide +kernel, by decide, rfl, rfl⟩
abbrev mX0_isThere : zMt := (yX0_isThere, cX0_isThere, 2, (some .boolean), 0, 0)
theorem zCm_X0_isThere : zCm mX0_isThere := ⟨zT_of 581 (by decide +kernel) rfl, zT_of 58 (by decide +kernel) rfl, by decide +kernel, by decide, by decide +kernel⟩
theorem zPV_X0_isThere : zPV mX0_isThere 1 0 := ⟨zCm_X0_isThere, ⟨zT_of 580 (by decide +kernel) rfl, zT_of 12 (by decide +kernel) rfl⟩, by unfold zNp; decide +kernel, by decide, rfl, rfl⟩
abbrev mX0_doStroke : zMt := (yX0_doStroke, cX0_doStroke, 6, none, 0, 0)
theorem zCm_X0_doStroke : zCm mX0_doStroke := ⟨zT_of 597 (by decide +kernel) rfl, zT_of 58 (by decide +kernel) rfl, by decide +kernel, by decide, by decide +kernel⟩
theorem zPV_X0_doStroke : zPV mX0_doStroke 3 0 := ⟨zCm_X0_doStroke, ⟨zT_of 595 (by decide +kernel) rfl, zT_of 596 (by decide +kernel) rfl⟩, by unfold zNp; decide +kernel, by decide, rfl, rfl⟩
abbrev mX0_undoLatest : zMt := (yX0_undoLatest, cX0_undoLatest, 3, none, 0, 0)
theorem zCm_X0_undoLatest : zCm mX0_undoLatest := ⟨zT_of 609 (by decide +kernel) rfl, zT_of 58 (by decide +kernel) rfl, by decide +kernel, by decide, by decide +kernel⟩
theorem zPV_X0_undoLatest : zPV mX0_undoLatest 0 0 := ⟨zCm_X0_undoLatest, ⟨zT_of 607 (by decide +kernel) rfl, zT_of 608 (by decide +kernel) rfl⟩, by unfold zNp; decide +kernel, by decide, rfl, rfl⟩
abbrev mX0_replayed : zMt := (yX0_replayed, cX0_replayed, 6, (some .int), 0, 0)
theorem zCm_X0_replayed : zCm mX0_replayed := ⟨zT_of 617 (by decide +kernel) rfl, zT_of 58 (by decide +kernel) rfl, by decide +kernel, by decide, by decide +kernel⟩
theorem zPV_X0_replayed : zPV mX0_replayed 2 0 := ⟨zCm_X0_replayed, ⟨zT_of 615 (by decide +kernel) rfl, zT_of 616 (by decide +kernel) rfl⟩, by unfold zNp; decide +kernel, by decide, rfl, rfl⟩
abbrev mX1_init : zMt := (yX1_init, cX1_init, 1, none, 0, 0)
theorem zCm_X1_init : zCm mX1_init := ⟨zT_of 79 (by decide +kernel) rfl, zT_of 54 (by decide +kernel) rfl, by decide +kernel, by decide, by decide +kernel⟩
theorem zNp_X1_init : zNp mX1_init 0 := by unfold zNp; decide +kernel
theorem zII_X1_init : Cond.instanceMethod mX1_init.1 ∈ zT := zT_of 78 (by decide +kernel) rfl
abbrev mX1_become : zMt := (yX1_become, cX1_become, 4, none, 0, 0)
theorem zCm_X1_become : zCm mX1_become := ⟨zT_of 378 (by decide +kernel) rfl, zT_of 54 (by decide +kernel) rfl, by decide +kernel, by decide, by decide +kernel⟩
theorem zPV_X1_become : zPV mX1_become 3 1 := ⟨zCm_X1_become, ⟨zT_of 376 (by decide +kernel) rfl, zT_of 377 (by decide +kernel) rfl⟩, by unfold zNp; decide +kernel, by decide, rfl, rfl⟩
abbrev mX1_depthAt : zMt := (yX1_depthAt, cX1_depthAt, 11, (some .long), 0, 0)
theorem zCm_X1_depthAt : zCm mX1_depthAt := ⟨zT_of 387 (by decide +kernel) rfl, zT_of 54 (by decide +kernel) rfl, by decide +kernel, by decide, by decide +kernel⟩
theorem zPV_X1_depthAt : zPV mX1_depthAt 2 1 := ⟨zCm_X1_depthAt, ⟨zT_of 385 (by decide +kernel) rfl, zT_of 386 (by decide +kernel) rfl⟩, by unfold zNp; decide +kernel, by decide, rfl, rfl⟩
abbrev mX1_sharedDivisor : zMt := (yX1_sharedDivisor, cX1_sharedDivisor, 7, (some .long), 0, 0)
theorem zCm_X1_sharedDivisor : zCm mX1_sharedDivisor := ⟨zT_of 395 (by decide +kernel) rfl, zT_of 54 (by decide +kernel) rfl, by decide +kernel, by decide, by decide +kernel⟩
theorem zPS_X1_sharedDivisor : zPS mX1_sharedDivisor 2 := ⟨zCm_X1_sharedDivisor, zT_of 394 (by decide +kernel) rfl, by unfold zNp; decide +kernel, rfl⟩
abbrev mX2_init : zMt := (yX2_init, cX2_init, 1, none, 118, 128)
theorem zCm_X2_init : zCm mX2_init := ⟨zT_of 292 (by decide +kernel) rfl, zT_of 62 (by decide +kernel) rfl, by decide +kernel, by decide, by decide +kernel⟩
theorem zNp_X2_init : zNp mX2_init 0 := by unfold zNp; decide +kernel
theorem zII_X2_init : Cond.instanceMethod mX2_init.1 ∈ zT := zT_of 291 (by decide +kernel) rfl
abbrev mX2_howMany : zMt := (yX2_howMany, cX2_howMany, 1, (some .int), 0, 0)
theorem zCm_X2_howMany : zCm mX2_howMany := ⟨zT_of 803 (by decide +kernel) rfl, zT_of 62 (by decide +kernel) rfl, by decide +kernel, by decide, by decide +kernel⟩
theorem zPV_X2_howMany : zPV mX2_howMany 0 2 := ⟨zCm_X2_howMany, ⟨zT_of 801 (by decide +kernel) rfl, zT_of 802 (by decide +kernel) rfl⟩, by unfold zNp; decide +kernel, by decide, rfl, rfl⟩
abbrev mX2_come : zMt := (yX2_come, cX2_come, 3, (some .int), 0, 0)
theorem zCm_X2_come : zCm mX2_come := ⟨zT_of 807 (by decide +kernel) rfl, zT_of 62 (by decide +kernel) rfl, by decide +kernel, by decide, by decide +kernel⟩
theorem zPV_X2_come : zPV mX2_come 2 2 := ⟨zCm_X2_come, ⟨zT_of 805 (by decide +kernel) rfl, zT_of 806 (by decide +kernel) rfl⟩, by unfold zNp; decide +kernel, by decide, rfl, rfl⟩
abbrev mX2_tellSlack : zMt := (yX2_tellSlack, cX2_tellSlack, 3, (some .int), 0, 0)
theorem zCm_X2_tellSlack : zCm mX2_tellSlack := ⟨zT_of 815 (by decide +kernel) rfl, zT_of 62 (by decide +kernel) rfl, by decide +kernel, by decide, by decide +kernel⟩
theorem zPV_X2_tellSlack : zPV mX2_tellSlack 1 2 := ⟨zCm_X2_tellSlack, ⟨zT_of 813 (by decide +kernel) rfl, zT_of 814 (by decide +kernel) rfl⟩, by unfold zNp; decide +kernel, by decide, rfl, rfl⟩
abbrev mX2_fewestFor : zMt := (yX2_fewestFor, cX2_fewestFor, 3, (some .int), 0, 0)
theorem zCm_X2_fewestFor : zCm mX2_fewestFor := ⟨zT_of 823 (by decide +kernel) rfl, zT_of 62 (by decide +kernel) rfl, by decide +kernel, by decide, by decide +kernel⟩
theorem zPV_X2_fewestFor : zPV mX2_fewestFor 1 2 := ⟨zCm_X2_fewestFor, ⟨zT_of 821 (by decide +kernel) rfl, zT_of 822 (by decide +kernel) rfl⟩, by unfold zNp; decide +kernel, by decide, rfl, rfl⟩
abbrev mX2_wetsOf : zMt := (yX2_wetsOf, cX2_wetsOf, 8, (some .int), 0, 0)
theorem zCm_X2_wetsOf : zCm mX2_wetsOf := ⟨zT_of 850 (by decide +kernel) rfl, zT_of 62 (by decide +kernel) rfl, by decide +kernel, by decide, by decide +kernel⟩
theorem zPV_X2_wetsOf : zPV mX2_wetsOf 2 2 := ⟨zCm_X2_wetsOf, ⟨zT_of 848 (by decide +kernel) rfl, zT_of 849 (by decide +kernel) rfl⟩, by unfold zNp; decide +kernel, by decide, rfl, rfl⟩
abbrev mX2_mostThatServe : zMt := (yX2_mostThatServe, cX2_mostThatServe, 7, (some .int), 0, 0)
theorem zCm_X2_mostThatServe : zCm mX2_mostThatServe := ⟨zT_of 855 (by decide +kernel) rfl, zT_of 62 (by decide +kernel) rfl, by decide +kernel, by decide, by decide +kernel⟩
theorem zPV_X2_mostThatServe : zPV mX2_mostThatServe 4 2 := ⟨zCm_X2_mostThatServe, ⟨zT_of 854 (by decide +kernel) rfl, zT_of 31 (by decide +kernel) rfl⟩, by unfold zNp; decide +kernel, by decide, rfl, rfl⟩
abbrev mX2_clears : zMt := (yX2_clears, cX2_clears, 3, (some .boolean), 0, 0)
theorem zCm_X2_clears : zCm mX2_clears := ⟨zT_of 840 (by decide +kernel) rfl, zT_of 62 (by decide +kernel) rfl, by decide +kernel, by decide, by decide +kernel⟩
theorem zPV_X2_clears : zPV mX2_clears 2 2 := ⟨zCm_X2_clears, ⟨zT_of 839 (by decide +kernel) rfl, zT_of 29 (by decide +kernel) rfl⟩, by unfold zNp; decide +kernel, by decide, rfl, rfl⟩
abbrev mX2_fewestWithin : zMt := (yX2_fewestWithin, cX2_fewestWithin, 7, (some .int), 0, 0)
theorem zCm_X2_fewestWithin : zCm mX2_fewestWithin := ⟨zT_of 845 (by decide +kernel) rfl, zT_of 62 (by decide +kernel) rfl, by decide +kernel, by decide, by decide +kernel⟩
theorem zPV_X2_fewestWithin : zPV mX2_fewestWithin 3 2 := ⟨zCm_X2_fewestWithin, ⟨zT_of 844 (by decide +kernel) rfl, zT_of 30 (by decide +kernel) rfl⟩, by unfold zNp; decide +kernel, by decide, rfl, rfl⟩
abbrev mX2_settle : zMt := (yX2_settle, cX2_settle, 3, none, 0, 0)
theorem zCm_X2_settle : zCm mX2_settle := ⟨zT_of 827 (by decide +kernel) rfl, zT_of 62 (by decide +kernel) rfl, by decide +kernel, by decide, by decide +kernel⟩
theorem zPV_X2_settle : zPV mX2_settle 0 2 := ⟨zCm_X2_settle, ⟨zT_of 826 (by decide +kernel) rfl, zT_of 26 (by decide +kernel) rfl⟩, by unfold zNp; decide +kernel, by decide, rfl, rfl⟩
abbrev mX2_bring : zMt := (yX2_bring, cX2_bring, 5, none, 0, 0)
theorem zCm_X2_bring : zCm mX2_bring := ⟨zT_of 832 (by decide +kernel) rfl, zT_of 62 (by decide +kernel) rfl, by decide +kernel, by decide, by decide +kernel⟩
theorem zPV_X2_bring : zPV mX2_bring 2 2 := ⟨zCm_X2_bring, ⟨zT_of 831 (by decide +kernel) rfl, zT_of 27 (by decide +kernel) rfl⟩, by unfold zNp; decide +kernel, by decide, rfl, rfl⟩
abbrev mX2_bringFrom : zMt := (yX2_bringFrom, cX2_bringFrom, 8, none, 0, 0)
theorem zCm_X2_bringFrom : zCm mX2_bringFrom := ⟨zT_of 836 (by decide +kernel) rfl, zT_of 62 (by decide +kernel) rfl, by decide +kernel, by decide, by decide +kernel⟩
theorem zPV_X2_bringFrom : zPV mX2_bringFrom 3 2 := ⟨zCm_X2_bringFrom, ⟨zT_of 835 (by decide +kernel) rfl, zT_of 28 (by decide +kernel) rfl⟩, by unfold zNp; decide +kernel, by decide, rfl, rfl⟩
abbrev mX3_init : zMt := (yX3_init, cX3_init, 1, none, 3, 13)
theorem zCm_X3_init : zCm mX3_init := ⟨zT_of 95 (by decide +kernel) rfl, zT_of 55 (by decide +kernel) rfl, by decide +kernel, by decide, by decide +kernel⟩
theorem zNp_X3_init : zNp mX3_init 0 := by unfold zNp; decide +kernel
theorem zII_X3_init : Cond.instanceMethod mX3_init.1 ∈ zT := zT_of 94 (by decide +kernel) rfl
abbrev mX3_begin : zMt := (yX3_begin, cX3_begin, 6, none, 0, 0)
theorem zCm_X3_begin : zCm mX3_begin := ⟨zT_of 102 (by decide +kernel) rfl, zT_of 55 (by decide +kernel) rfl, by decide +kernel, by decide, by decide +kernel⟩
theorem zPV_X3_begin : zPV mX3_begin 1 3 := ⟨zCm_X3_begin, ⟨zT_of 100 (by decide +kernel) rfl, zT_of 101 (by decide +kernel) rfl⟩, by unfold zNp; decide +kernel, by decide, rfl, rfl⟩
abbrev mX3_tellReading : zMt := (yX3_tellReading, cX3_tellReading, 5, (some .int), 0, 0)
theorem zCm_X3_tellReading : zCm mX3_tellReading := ⟨zT_of 431 (by decide +kernel) rfl, zT_of 55 (by decide +kernel) rfl, by decide +kernel, by decide, by decide +kernel⟩
theorem zPV_X3_tellReading : zPV mX3_tellReading 3 3 := ⟨zCm_X3_tellReading, ⟨zT_of 429 (by decide +kernel) rfl, zT_of 430 (by decide +kernel) rfl⟩, by unfold zNp; decide +kernel, by decide, rfl, rfl⟩
abbrev mX3_tellLie : zMt := (yX3_tellLie, cX3_tellLie, 3, (some .int), 0, 0)
theorem zCm_X3_tellLie : zCm mX3_tellLie := ⟨zT_of 439 (by decide +kernel) rfl, zT_of 55 (by decide +kernel) rfl, by decide +kernel, by decide, by decide +kernel⟩
theorem zPV_X3_tellLie : zPV mX3_tellLie 1 3 := ⟨zCm_X3_tellLie, ⟨zT_of 437 (by decide +kernel) rfl, zT_of 438 (by decide +kernel) rfl⟩, by unfold zNp; decide +kernel, by decide, rfl, rfl⟩
abbrev mX3_howManyTold : zMt := (yX3_howManyTold, cX3_howManyTold, 10, (some .int), 0, 0)
theorem zCm_X3_howManyTold : zCm mX3_howManyTold := ⟨zT_of 480 (by decide +kernel) rfl, zT_of 55 (by decide +kernel) rfl, by decide +kernel, by decide, by decide +kernel⟩
theorem zPV_X3_howManyTold : zPV mX3_howManyTold 0 3 := ⟨zCm_X3_howManyTold, ⟨zT_of 478 (by decide +kernel) rfl, zT_of 479 (by decide +kernel) rfl⟩, by unfold zNp; decide +kernel, by decide, rfl, rfl⟩
abbrev mX3_howManyDropped : zMt := (yX3_howManyDropped, cX3_howManyDropped, 1, (some .int), 0, 0)
theorem zCm_X3_howManyDropped : zCm mX3_howManyDropped := ⟨zT_of 447 (by decide +kernel) rfl, zT_of 55 (by decide +kernel) rfl, by decide +kernel, by decide, by decide +kernel⟩
theorem zPV_X3_howManyDropped : zPV mX3_howManyDropped 0 3 := ⟨zCm_X3_howManyDropped, ⟨zT_of 445 (by decide +kernel) rfl, zT_of 446 (by decide +kernel) rfl⟩, by unfold zNp; decide +kernel, by decide, rfl, rfl⟩
abbrev mX3_shiftOf : zMt := (yX3_shiftOf, cX3_shiftOf, 2, (some .int), 0, 0)
theorem zCm_X3_shiftOf : zCm mX3_shiftOf := ⟨zT_of 500 (by decide +kernel) rfl, zT_of 55 (by decide +kernel) rfl, by decide +kernel, by decide, by decide +kernel⟩
theorem zPV_X3_shiftOf : zPV mX3_shiftOf 1 3 := ⟨zCm_X3_shiftOf, ⟨zT_of 498 (by decide +kernel) rfl, zT_of 499 (by decide +kernel) rfl⟩, by unfold zNp; decide +kernel, by decide, rfl, rfl⟩
abbrev mX3_stepOf : zMt := (yX3_stepOf, cX3_stepOf, 2, (some .int), 0, 0)
theorem zCm_X3_stepOf : zCm mX3_stepOf := ⟨zT_of 508 (by decide +kernel) rfl, zT_of 55 (by decide +kernel) rfl, by decide +kernel, by decide, by decide +kernel⟩
theorem zPV_X3_stepOf : zPV mX3_stepOf 1 3 := ⟨zCm_X3_stepOf, ⟨zT_of 506 (by decide +kernel) rfl, zT_of 507 (by decide +kernel) rfl⟩, by unfold zNp; decide +kernel, by decide, rfl, rfl⟩
abbrev mX3_profileOf : zMt := (yX3_profileOf, cX3_profileOf, 2, (some .int), 0, 0)
theorem zCm_X3_profileOf : zCm mX3_profileOf := ⟨zT_of 516 (by decide +kernel) rfl, zT_of 55 (by decide +kernel) rfl, by decide +kernel, by decide, by decide +kernel⟩
theorem zPV_X3_profileOf : zPV mX3_profileOf 1 3 := ⟨zCm_X3_profileOf, ⟨zT_of 514 (by decide +kernel) rfl, zT_of 515 (by decide +kernel) rfl⟩, by unfold zNp; decide +kernel, by decide, rfl, rfl⟩
abbrev mX3_lieOf : zMt := (yX3_lieOf, cX3_lieOf, 1, (some .int), 0, 0)
theorem zCm_X3_lieOf : zCm mX3_lieOf := ⟨zT_of 549 (by decide +kernel) rfl, zT_of 55 (by decide +kernel) rfl, by decide +kernel, by decide, by decide +kernel⟩
theorem zPV_X3_lieOf : zPV mX3_lieOf 0 3 := ⟨zCm_X3_lieOf, ⟨zT_of 547 (by decide +kernel) rfl, zT_of 548 (by decide +kernel) rfl⟩, by unfold zNp; decide +kernel, by decide, rfl, rfl⟩
abbrev mX3_settle : zMt := (yX3_settle, cX3_settle, 2, none, 0, 0)
theorem zCm_X3_settle : zCm mX3_settle := ⟨zT_of 451 (by decide +kernel) rfl, zT_of 55 (by decide +kernel) rfl, by decide +kernel, by decide, by decide +kernel⟩
theorem zPV_X3_settle : zPV mX3_settle 0 3 := ⟨zCm_X3_settle, ⟨zT_of 450 (by decide +kernel) rfl, zT_of 3 (by decide +kernel) rfl⟩, by unfold zNp; decide +kernel, by decide, rfl, rfl⟩
abbrev mX3_settleAgreements : zMt := (yX3_settleAgreements, cX3_settleAgreements, 2, none, 0, 0)
theorem zCm_X3_settleAgreements : zCm mX3_settleAgreements := ⟨zT_of 455 (by decide +kernel) rfl, zT_of 55 (by decide +kernel) rfl, by decide +kernel, by decide, by decide +kernel⟩
theorem zPV_X3_settleAgreements : zPV mX3_settleAgreements 0 3 := ⟨zCm_X3_settleAgreements, ⟨zT_of 454 (by decide +kernel) rfl, zT_of 4 (by decide +kernel) rfl⟩, by unfold zNp; decide +kernel, by decide, rfl, rfl⟩
abbrev mX3_stepsOfAgreement : zMt := (yX3_stepsOfAgreement, cX3_stepsOfAgreement, 8, (some .int), 0, 0)
theorem zCm_X3_stepsOfAgreement : zCm mX3_stepsOfAgreement := ⟨zT_of 459 (by decide +kernel) rfl, zT_of 55 (by decide +kernel) rfl, by decide +kernel, by decide, by decide +kernel⟩
theorem zPV_X3_stepsOfAgreement : zPV mX3_stepsOfAgreement 3 3 := ⟨zCm_X3_stepsOfAgreement, ⟨zT_of 458 (by decide +kernel) rfl, zT_of 5 (by decide +kernel) rfl⟩, by unfold zNp; decide +kernel, by decide, rfl, rfl⟩
abbrev mX3_settleShifts : zMt := (yX3_settleShifts, cX3_settleShifts, 7, none, 0, 0)
theorem zCm_X3_settleShifts : zCm mX3_settleShifts := ⟨zT_of 466 (by decide +kernel) rfl, zT_of 55 (by decide +kernel) rfl, by decide +kernel, by decide, by decide +kernel⟩
theorem zPV_X3_settleShifts : zPV mX3_settleShifts 0 3 := ⟨zCm_X3_settleShifts, ⟨zT_of 465 (by decide +kernel) rfl, zT_of 6 (by decide +kernel) rfl⟩, by unfold zNp; decide +kernel, by decide, rfl, rfl⟩
abbrev mX3_keptMore : zMt := (yX3_keptMore, cX3_keptMore, 6, (some .int), 0, 0)
theorem zCm_X3_keptMore : zCm mX3_keptMore := ⟨zT_of 470 (by decide +kernel) rfl, zT_of 55 (by decide +kernel) rfl, by decide +kernel, by decide, by decide +kernel⟩
theorem zPV_X3_keptMore : zPV mX3_keptMore 2 3 := ⟨zCm_X3_keptMore, ⟨zT_of 469 (by decide +kernel) rfl, zT_of 7 (by decide +kernel) rfl⟩, by unfold zNp; decide +kernel, by decide, rfl, rfl⟩
abbrev mX3_stepsTold : zMt := (yX3_stepsTold, cX3_stepsTold, 3, (some .int), 0, 0)
theorem zCm_X3_stepsTold : zCm mX3_stepsTold := ⟨zT_of 484 (by decide +kernel) rfl, zT_of 55 (by decide +kernel) rfl, by decide +kernel, by decide, by decide +kernel⟩
theorem zPV_X3_stepsTold : zPV mX3_stepsTold 0 3 := ⟨zCm_X3_stepsTold, ⟨zT_of 483 (by decide +kernel) rfl, zT_of 8 (by decide +kernel) rfl⟩, by unfold zNp; decide +kernel, by decide, rfl, rfl⟩
abbrev mX3_leastStep : zMt := (yX3_leastStep, cX3_leastStep, 7, (some .int), 0, 0)
theorem zCm_X3_leastStep : zCm mX3_leastStep := ⟨zT_of 488 (by decide +kernel) rfl, zT_of 55 (by decide +kernel) rfl, by decide +kernel, by decide, by decide +kernel⟩
theorem zPV_X3_leastStep : zPV mX3_leastStep 1 3 := ⟨zCm_X3_leastStep, ⟨zT_of 487 (by decide +kernel) rfl, zT_of 9 (by decide +kernel) rfl⟩, by unfold zNp; decide +kernel, by decide, rfl, rfl⟩
abbrev mX3_servedBy : zMt := (yX3_servedBy, cX3_servedBy, 6, (some .int), 0, 0)
theorem zCm_X3_servedBy : zCm mX3_servedBy := ⟨zT_of 492 (by decide +kernel) rfl, zT_of 55 (by decide +kernel) rfl, by decide +kernel, by decide, by decide +kernel⟩
theorem zPV_X3_servedBy : zPV mX3_servedBy 2 3 := ⟨zCm_X3_servedBy, ⟨zT_of 491 (by decide +kernel) rfl, zT_of 10 (by decide +kernel) rfl⟩, by unfold zNp; decide +kernel, by decide, rfl, rfl⟩
abbrev mX3_settleProfiles : zMt := (yX3_settleProfiles, cX3_settleProfiles, 2, none, 0, 0)
theorem zCm_X3_settleProfiles : zCm mX3_settleProfiles := ⟨zT_of 496 (by decide +kernel) rfl, zT_of 55 (by decide +kernel) rfl, by decide +kernel, by decide, by decide +kernel⟩
theorem zPV_X3_settleProfiles : zPV mX3_settleProfiles 0 3 := ⟨zCm_X3_settleProfiles, ⟨zT_of 495 (by decide +kernel) rfl, zT_of 11 (by decide +kernel) rfl⟩, by unfold zNp; decide +kernel, by decide, rfl, rfl⟩
abbrev mX4_init : zMt := (yX4_init, cX4_init, 2, none, 89, 98)
theorem zCm_X4_init : zCm mX4_init := ⟨zT_of 211 (by decide +kernel) rfl, zT_of 59 (by decide +kernel) rfl, by decide +kernel, by decide, by decide +kernel⟩
theorem zNp_X4_init : zNp mX4_init 1 := by unfold zNp; decide +kernel
theorem zII_X4_init : Cond.instanceMethod mX4_init.1 ∈ zT := zT_of 210 (by decide +kernel) rfl
abbrev mX4_hasPlan : zMt := (yX4_hasPlan, cX4_hasPlan, 2, (some .boolean), 0, 0)
theorem zCm_X4_hasPlan : zCm mX4_hasPlan := ⟨zT_of 625 (by decide +kernel) rfl, zT_of 59 (by decide +kernel) rfl, by decide +kernel, by decide, by decide +kernel⟩
theorem zPV_X4_hasPlan : zPV mX4_hasPlan 1 4 := ⟨zCm_X4_hasPlan, ⟨zT_of 623 (by decide +kernel) rfl, zT_of 624 (by decide +kernel) rfl⟩, by unfold zNp; decide +kernel, by decide, rfl, rfl⟩
abbrev mX4_together : zMt := (yX4_together, cX4_together, 2, (some .int), 0, 0)
theorem zCm_X4_together : zCm mX4_together := ⟨zT_of 677 (by decide +kernel) rfl, zT_of 59 (by decide +kernel) rfl, by decide +kernel, by decide, by decide +kernel⟩
theorem zPV_X4_together : zPV mX4_together 1 4 := ⟨zCm_X4_together, ⟨zT_of 675 (by decide +kernel) rfl, zT_of 676 (by decide +kernel) rfl⟩, by unfold zNp; decide +kernel, by decide, rfl, rfl⟩
abbrev mX4_minutesAt : zMt := (yX4_minutesAt, cX4_minutesAt, 3, (some .int), 0, 0)
theorem zCm_X4_minutesAt : zCm mX4_minutesAt := ⟨zT_of 681 (by decide +kernel) rfl, zT_of 59 (by decide +kernel) rfl, by decide +kernel, by decide, by decide +kernel⟩
theorem zPV_X4_minutesAt : zPV mX4_minutesAt 2 4 := ⟨zCm_X4_minutesAt, ⟨zT_of 679 (by decide +kernel) rfl, zT_of 680 (by decide +kernel) rfl⟩, by unfold zNp; decide +kernel, by decide, rfl, rfl⟩
abbrev mX4_rightZones : zMt := (yX4_rightZones, cX4_rightZones, 2, (some .int), 0, 0)
theorem zCm_X4_rightZones : zCm mX4_rightZones := ⟨zT_of 689 (by decide +kernel) rfl, zT_of 59 (by decide +kernel) rfl, by decide +kernel, by decide, by decide +kernel⟩
theorem zPV_X4_rightZones : zPV mX4_rightZones 1 4 := ⟨zCm_X4_rightZones, ⟨zT_of 687 (by decide +kernel) rfl, zT_of 688 (by decide +kernel) rfl⟩, by unfold zNp; decide +kernel, by decide, rfl, rfl⟩
abbrev mX4_strokesOf : zMt := (yX4_strokesOf, cX4_strokesOf, 4, (some .int), 0, 0)
theorem zCm_X4_strokesOf : zCm mX4_strokesOf := ⟨zT_of 697 (by decide +kernel) rfl, zT_of 59 (by decide +kernel) rfl, by decide +kernel, by decide, by decide +kernel⟩
theorem zPV_X4_strokesOf : zPV mX4_strokesOf 1 4 := ⟨zCm_X4_strokesOf, ⟨zT_of 695 (by decide +kernel) rfl, zT_of 696 (by decide +kernel) rfl⟩, by unfold zNp; decide +kernel, by decide, rfl, rfl⟩
abbrev mX4_carryOut : zMt := (yX4_carryOut, cX4_carryOut, 3, none, 0, 0)
theorem zCm_X4_carryOut : zCm mX4_carryOut := ⟨zT_of 701 (by decide +kernel) rfl, zT_of 59 (by decide +kernel) rfl, by decide +kernel, by decide, by decide +kernel⟩
theorem zPV_X4_carryOut : zPV mX4_carryOut 1 4 := ⟨zCm_X4_carryOut, ⟨zT_of 699 (by decide +kernel) rfl, zT_of 700 (by decide +kernel) rfl⟩, by unfold zNp; decide +kernel, by decide, rfl, rfl⟩
abbrev mX4_settle : zMt := (yX4_settle, cX4_settle, 2, none, 0, 0)
theorem zCm_X4_settle : zCm mX4_settle := ⟨zT_of 629 (by decide +kernel) rfl, zT_of 59 (by decide +kernel) rfl, by decide +kernel, by decide, by decide +kernel⟩
theorem zPV_X4_settle : zPV mX4_settle 1 4 := ⟨zCm_X4_settle, ⟨zT_of 628 (by decide +kernel) rfl, zT_of 13 (by decide +kernel) rfl⟩, by unfold zNp; decide +kernel, by decide, rfl, rfl⟩
abbrev mX4_begin : zMt := (yX4_begin, cX4_begin, 3, none, 0, 0)
theorem zCm_X4_begin : zCm mX4_begin := ⟨zT_of 637 (by decide +kernel) rfl, zT_of 59 (by decide +kernel) rfl, by decide +kernel, by decide, by decide +kernel⟩
theorem zPV_X4_begin : zPV mX4_begin 1 4 := ⟨zCm_X4_begin, ⟨zT_of 636 (by decide +kernel) rfl, zT_of 14 (by decide +kernel) rfl⟩, by unfold zNp; decide +kernel, by decide, rfl, rfl⟩
abbrev mX4_traceMinutes : zMt := (yX4_traceMinutes, cX4_traceMinutes, 6, none, 0, 0)
theorem zCm_X4_traceMinutes : zCm mX4_traceMinutes := ⟨zT_of 673 (by decide +kernel) rfl, zT_of 59 (by decide +kernel) rfl, by decide +kernel, by decide, by decide +kernel⟩
theorem zPV_X4_traceMinutes : zPV mX4_traceMinutes 1 4 := ⟨zCm_X4_traceMinutes, ⟨zT_of 672 (by decide +kernel) rfl, zT_of 19 (by decide +kernel) rfl⟩, by unfold zNp; decide +kernel, by decide, rfl, rfl⟩
abbrev mX4_costFrom : zMt := (yX4_costFrom, cX4_costFrom, 4, (some .int), 0, 0)
theorem zCm_X4_costFrom : zCm mX4_costFrom := ⟨zT_of 651 (by decide +kernel) rfl, zT_of 59 (by decide +kernel) rfl, by decide +kernel, by decide, by decide +kernel⟩
theorem zPV_X4_costFrom : zPV mX4_costFrom 2 4 := ⟨zCm_X4_costFrom, ⟨zT_of 650 (by decide +kernel) rfl, zT_of 15 (by decide +kernel) rfl⟩, by unfold zNp; decide +kernel, by decide, rfl, rfl⟩
abbrev mX4_leastCost : zMt := (yX4_leastCost, cX4_leastCost, 7, (some .int), 0, 0)
theorem zCm_X4_leastCost : zCm mX4_leastCost := ⟨zT_of 655 (by decide +kernel) rfl, zT_of 59 (by decide +kernel) rfl, by decide +kernel, by decide, by decide +kernel⟩
theorem zPV_X4_leastCost : zPV mX4_leastCost 2 4 := ⟨zCm_X4_leastCost, ⟨zT_of 654 (by decide +kernel) rfl, zT_of 16 (by decide +kernel) rfl⟩, by unfold zNp; decide +kernel, by decide, rfl, rfl⟩
abbrev mX4_costWith : zMt := (yX4_costWith, cX4_costWith, 6, (some .int), 0, 0)
theorem zCm_X4_costWith : zCm mX4_costWith := ⟨zT_of 663 (by decide +kernel) rfl, zT_of 59 (by decide +kernel) rfl, by decide +kernel, by decide, by decide +kernel⟩
theorem zPV_X4_costWith : zPV mX4_costWith 4 4 := ⟨zCm_X4_costWith, ⟨zT_of 662 (by decide +kernel) rfl, zT_of 18 (by decide +kernel) rfl⟩, by unfold zNp; decide +kernel, by decide, rfl, rfl⟩
abbrev mX4_stateBehind : zMt := (yX4_stateBehind, cX4_stateBehind, 2, (some .int), 0, 0)
theorem zCm_X4_stateBehind : zCm mX4_stateBehind := ⟨zT_of 666 (by decide +kernel) rfl, zT_of 59 (by decide +kernel) rfl, by decide +kernel, by decide, by decide +kernel⟩
theorem zPS_X4_stateBehind : zPS mX4_stateBehind 2 := ⟨zCm_X4_stateBehind, zT_of 665 (by decide +kernel) rfl, by unfold zNp; decide +kernel, rfl⟩
abbrev mX4_leftAt : zMt := (yX4_leftAt, cX4_leftAt, 6, (some .int), 0, 0)
theorem zCm_X4_leftAt : zCm mX4_leftAt := ⟨zT_of 659 (by decide +kernel) rfl, zT_of 59 (by decide +kernel) rfl, by decide +kernel, by decide, by decide +kernel⟩
theorem zPV_X4_leftAt : zPV mX4_leftAt 2 4 := ⟨zCm_X4_leftAt, ⟨zT_of 658 (by decide +kernel) rfl, zT_of 17 (by decide +kernel) rfl⟩, by unfold zNp; decide +kernel, by decide, rfl, rfl⟩
abbrev mX5_init : zMt := (yX5_init, cX5_init, 1, none, 99, 114)
theorem zCm_X5_init : zCm mX5_init := ⟨zT_of 247 (by decide +kernel) rfl, zT_of 60 (by decide +kernel) rfl, by decide +kernel, by decide, by decide +kernel⟩
theorem zNp_X5_init : zNp mX5_init 0 := by unfold zNp; decide +kernel
theorem zII_X5_init : Cond.instanceMethod mX5_init.1 ∈ zT := zT_of 246 (by decide +kernel) rfl
abbrev mX5_begin : zMt := (yX5_begin, cX5_begin, 6, none, 0, 0)
theorem zCm_X5_begin : zCm mX5_begin := ⟨zT_of 369 (by decide +kernel) rfl, zT_of 60 (by decide +kernel) rfl, by decide +kernel, by decide, by decide +kernel⟩
theorem zPV_X5_begin : zPV mX5_begin 1 5 := ⟨zCm_X5_begin, ⟨zT_of 367 (by decide +kernel) rfl, zT_of 368 (by decide +kernel) rfl⟩, by unfold zNp; decide +kernel, by decide, rfl, rfl⟩
abbrev mX5_tellBend : zMt := (yX5_tellBend, cX5_tellBend, 5, (some .int), 0, 0)
theorem zCm_X5_tellBend : zCm mX5_tellBend := ⟨zT_of 710 (by decide +kernel) rfl, zT_of 60 (by decide +kernel) rfl, by decide +kernel, by decide, by decide +kernel⟩
theorem zPV_X5_tellBend : zPV mX5_tellBend 3 5 := ⟨zCm_X5_tellBend, ⟨zT_of 708 (by decide +kernel) rfl, zT_of 709 (by decide +kernel) rfl⟩, by unfold zNp; decide +kernel, by decide, rfl, rfl⟩
abbrev mX5_leastSpread : zMt := (yX5_leastSpread, cX5_leastSpread, 1, (some .int), 0, 0)
theorem zCm_X5_leastSpread : zCm mX5_leastSpread := ⟨zT_of 718 (by decide +kernel) rfl, zT_of 60 (by decide +kernel) rfl, by decide +kernel, by decide, by decide +kernel⟩
theorem zPV_X5_leastSpread : zPV mX5_leastSpread 0 5 := ⟨zCm_X5_leastSpread, ⟨zT_of 716 (by decide +kernel) rfl, zT_of 717 (by decide +kernel) rfl⟩, by unfold zNp; decide +kernel, by decide, rfl, rfl⟩
abbrev mX5_shareOf : zMt := (yX5_shareOf, cX5_shareOf, 2, (some .int), 0, 0)
theorem zCm_X5_shareOf : zCm mX5_shareOf := ⟨zT_of 746 (by decide +kernel) rfl, zT_of 60 (by decide +kernel) rfl, by decide +kernel, by decide, by decide +kernel⟩
theorem zPV_X5_shareOf : zPV mX5_shareOf 1 5 := ⟨zCm_X5_shareOf, ⟨zT_of 744 (by decide +kernel) rfl, zT_of 745 (by decide +kernel) rfl⟩, by unfold zNp; decide +kernel, by decide, rfl, rfl⟩
abbrev mX5_settle : zMt := (yX5_settle, cX5_settle, 2, none, 0, 0)
theorem zCm_X5_settle : zCm mX5_settle := ⟨zT_of 722 (by decide +kernel) rfl, zT_of 60 (by decide +kernel) rfl, by decide +kernel, by decide, by decide +kernel⟩
theorem zPV_X5_settle : zPV mX5_settle 0 5 := ⟨zCm_X5_settle, ⟨zT_of 721 (by decide +kernel) rfl, zT_of 20 (by decide +kernel) rfl⟩, by unfold zNp; decide +kernel, by decide, rfl, rfl⟩
abbrev mX5_place : zMt := (yX5_place, cX5_place, 6, none, 0, 0)
theorem zCm_X5_place : zCm mX5_place := ⟨zT_of 726 (by decide +kernel) rfl, zT_of 60 (by decide +kernel) rfl, by decide +kernel, by decide, by decide +kernel⟩
theorem zPV_X5_place : zPV mX5_place 3 5 := ⟨zCm_X5_place, ⟨zT_of 725 (by decide +kernel) rfl, zT_of 21 (by decide +kernel) rfl⟩, by unfold zNp; decide +kernel, by decide, rfl, rfl⟩
abbrev mX5_placeShare : zMt := (yX5_placeShare, cX5_placeShare, 6, none, 0, 0)
theorem zCm_X5_placeShare : zCm mX5_placeShare := ⟨zT_of 742 (by decide +kernel) rfl, zT_of 60 (by decide +kernel) rfl, by decide +kernel, by decide, by decide +kernel⟩
theorem zPV_X5_placeShare : zPV mX5_placeShare 4 5 := ⟨zCm_X5_placeShare, ⟨zT_of 741 (by decide +kernel) rfl, zT_of 24 (by decide +kernel) rfl⟩, by unfold zNp; decide +kernel, by decide, rfl, rfl⟩
abbrev mX5_keepIfBetter : zMt := (yX5_keepIfBetter, cX5_keepIfBetter, 5, none, 0, 0)
theorem zCm_X5_keepIfBetter : zCm mX5_keepIfBetter := ⟨zT_of 730 (by decide +kernel) rfl, zT_of 60 (by decide +kernel) rfl, by decide +kernel, by decide, by decide +kernel⟩
theorem zPV_X5_keepIfBetter : zPV mX5_keepIfBetter 2 5 := ⟨zCm_X5_keepIfBetter, ⟨zT_of 729 (by decide +kernel) rfl, zT_of 22 (by decide +kernel) rfl⟩, by unfold zNp; decide +kernel, by decide, rfl, rfl⟩
abbrev mX5_spreadOf : zMt := (yX5_spreadOf, cX5_spreadOf, 5, (some .int), 0, 0)
theorem zCm_X5_spreadOf : zCm mX5_spreadOf := ⟨zT_of 734 (by decide +kernel) rfl, zT_of 60 (by decide +kernel) rfl, by decide +kernel, by decide, by decide +kernel⟩
theorem zPV_X5_spreadOf : zPV mX5_spreadOf 1 5 := ⟨zCm_X5_spreadOf, ⟨zT_of 733 (by decide +kernel) rfl, zT_of 23 (by decide +kernel) rfl⟩, by unfold zNp; decide +kernel, by decide, rfl, rfl⟩
abbrev mX6_init : zMt := (yX6_init, cX6_init, 1, none, 115, 117)
theorem zCm_X6_init : zCm mX6_init := ⟨zT_of 276 (by decide +kernel) rfl, zT_of 61 (by decide +kernel) rfl, by decide +kernel, by decide, by decide +kernel⟩
theorem zNp_X6_init : zNp mX6_init 0 := by unfold zNp; decide +kernel
theorem zII_X6_init : Cond.instanceMethod mX6_init.1 ∈ zT := zT_of 275 (by decide +kernel) rfl
abbrev mX6_tellWarmth : zMt := (yX6_tellWarmth, cX6_tellWarmth, 4, (some .int), 0, 0)
theorem zCm_X6_tellWarmth : zCm mX6_tellWarmth := ⟨zT_of 754 (by decide +kernel) rfl, zT_of 61 (by decide +kernel) rfl, by decide +kernel, by decide, by decide +kernel⟩
theorem zPV_X6_tellWarmth : zPV mX6_tellWarmth 2 6 := ⟨zCm_X6_tellWarmth, ⟨zT_of 752 (by decide +kernel) rfl, zT_of 753 (by decide +kernel) rfl⟩, by unfold zNp; decide +kernel, by decide, rfl, rfl⟩
abbrev mX6_warmthOf : zMt := (yX6_warmthOf, cX6_warmthOf, 2, (some .int), 0, 0)
theorem zCm_X6_warmthOf : zCm mX6_warmthOf := ⟨zT_of 758 (by decide +kernel) rfl, zT_of 61 (by decide +kernel) rfl, by decide +kernel, by decide, by decide +kernel⟩
theorem zPV_X6_warmthOf : zPV mX6_warmthOf 1 6 := ⟨zCm_X6_warmthOf, ⟨zT_of 756 (by decide +kernel) rfl, zT_of 757 (by decide +kernel) rfl⟩, by unfold zNp; decide +kernel, by decide, rfl, rfl⟩
abbrev mX6_letGoBy : zMt := (yX6_letGoBy, cX6_letGoBy, 4, (some .int), 0, 0)
theorem zCm_X6_letGoBy : zCm mX6_letGoBy := ⟨zT_of 766 (by decide +kernel) rfl, zT_of 61 (by decide +kernel) rfl, by decide +kernel, by decide, by decide +kernel⟩
theorem zPV_X6_letGoBy : zPV mX6_letGoBy 1 6 := ⟨zCm_X6_letGoBy, ⟨zT_of 764 (by decide +kernel) rfl, zT_of 765 (by decide +kernel) rfl⟩, by unfold zNp; decide +kernel, by decide, rfl, rfl⟩
abbrev mX6_minutesTillStill : zMt := (yX6_minutesTillStill, cX6_minutesTillStill, 4, (some .int), 0, 0)
theorem zCm_X6_minutesTillStill : zCm mX6_minutesTillStill := ⟨zT_of 789 (by decide +kernel) rfl, zT_of 61 (by decide +kernel) rfl, by decide +kernel, by decide, by decide +kernel⟩
theorem zPV_X6_minutesTillStill : zPV mX6_minutesTillStill 1 6 := ⟨zCm_X6_minutesTillStill, ⟨zT_of 787 (by decide +kernel) rfl, zT_of 788 (by decide +kernel) rfl⟩, by unfold zNp; decide +kernel, by decide, rfl, rfl⟩
abbrev mX6_goOneMinute : zMt := (yX6_goOneMinute, cX6_goOneMinute, 8, (some .boolean), 0, 0)
theorem zCm_X6_goOneMinute : zCm mX6_goOneMinute := ⟨zT_of 770 (by decide +kernel) rfl, zT_of 61 (by decide +kernel) rfl, by decide +kernel, by decide, by decide +kernel⟩
theorem zPV_X6_goOneMinute : zPV mX6_goOneMinute 1 6 := ⟨zCm_X6_goOneMinute, ⟨zT_of 769 (by decide +kernel) rfl, zT_of 25 (by decide +kernel) rfl⟩, by unfold zNp; decide +kernel, by decide, rfl, rfl⟩
abbrev mX6_greatest : zMt := (yX6_greatest, cX6_greatest, 7, (some .int), 0, 0)
theorem zCm_X6_greatest : zCm mX6_greatest := ⟨zT_of 776 (by decide +kernel) rfl, zT_of 61 (by decide +kernel) rfl, by decide +kernel, by decide, by decide +kernel⟩
theorem zPS_X6_greatest : zPS mX6_greatest 2 := ⟨zCm_X6_greatest, zT_of 775 (by decide +kernel) rfl, by unfold zNp; decide +kernel, rfl⟩
abbrev mX6_least : zMt := (yX6_least, cX6_least, 7, (some .int), 0, 0)
theorem zCm_X6_least : zCm mX6_least := ⟨zT_of 780 (by decide +kernel) rfl, zT_of 61 (by decide +kernel) rfl, by decide +kernel, by decide, by decide +kernel⟩
theorem zPS_X6_least : zPS mX6_least 2 := ⟨zCm_X6_least, zT_of 779 (by decide +kernel) rfl, by unfold zNp; decide +kernel, rfl⟩
abbrev mX7_init : zMt := (yX7_init, cX7_init, 2, none, 14, 17)
theorem zCm_X7_init : zCm mX7_init := ⟨zT_of 148 (by decide +kernel) rfl, zT_of 57 (by decide +kernel) rfl, by decide +kernel, by decide, by decide +kernel⟩
theorem zNp_X7_init : zNp mX7_init 1 := by unfold zNp; decide +kernel
theorem zII_X7_init : Cond.instanceMethod mX7_init.1 ∈ zT := zT_of 147 (by decide +kernel) rfl
abbrev mX7_begin : zMt := (yX7_begin, cX7_begin, 1, none, 0, 0)
theorem zCm_X7_begin : zCm mX7_begin := ⟨zT_of 353 (by decide +kernel) rfl, zT_of 57 (by decide +kernel) rfl, by decide +kernel, by decide, by decide +kernel⟩
theorem zPV_X7_begin : zPV mX7_begin 0 7 := ⟨zCm_X7_begin, ⟨zT_of 351 (by decide +kernel) rfl, zT_of 352 (by decide +kernel) rfl⟩, by unfold zNp; decide +kernel, by decide, rfl, rfl⟩
abbrev mX7_howMany : zMt := (yX7_howMany, cX7_howMany, 1, (some .int), 0, 0)
theorem zCm_X7_howMany : zCm mX7_howMany := ⟨zT_of 526 (by decide +kernel) rfl, zT_of 57 (by decide +kernel) rfl, by decide +kernel, by decide, by decide +kernel⟩
theorem zPV_X7_howMany : zPV mX7_howMany 0 7 := ⟨zCm_X7_howMany, ⟨zT_of 524 (by decide +kernel) rfl, zT_of 525 (by decide +kernel) rfl⟩, by unfold zNp; decide +kernel, by decide, rfl, rfl⟩
abbrev mX7_hold : zMt := (yX7_hold, cX7_hold, 4, (some .int), 0, 0)
theorem zCm_X7_hold : zCm mX7_hold := ⟨zT_of 530 (by decide +kernel) rfl, zT_of 57 (by decide +kernel) rfl, by decide +kernel, by decide, by decide +kernel⟩
theorem zPV_X7_hold : zPV mX7_hold 3 7 := ⟨zCm_X7_hold, ⟨zT_of 528 (by decide +kernel) rfl, zT_of 529 (by decide +kernel) rfl⟩, by unfold zNp; decide +kernel, by decide, rfl, rfl⟩
abbrev mX7_howManyOf : zMt := (yX7_howManyOf, cX7_howManyOf, 7, (some .int), 0, 0)
theorem zCm_X7_howManyOf : zCm mX7_howManyOf := ⟨zT_of 538 (by decide +kernel) rfl, zT_of 57 (by decide +kernel) rfl, by decide +kernel, by decide, by decide +kernel⟩
theorem zPV_X7_howManyOf : zPV mX7_howManyOf 1 7 := ⟨zCm_X7_howManyOf, ⟨zT_of 536 (by decide +kernel) rfl, zT_of 537 (by decide +kernel) rfl⟩, by unfold zNp; decide +kernel, by decide, rfl, rfl⟩
abbrev mX7_offBy : zMt := (yX7_offBy, cX7_offBy, 4, (some .int), 0, 0)
theorem zCm_X7_offBy : zCm mX7_offBy := ⟨zT_of 542 (by decide +kernel) rfl, zT_of 57 (by decide +kernel) rfl, by decide +kernel, by decide, by decide +kernel⟩
theorem zPV_X7_offBy : zPV mX7_offBy 1 7 := ⟨zCm_X7_offBy, ⟨zT_of 540 (by decide +kernel) rfl, zT_of 541 (by decide +kernel) rfl⟩, by unfold zNp; decide +kernel, by decide, rfl, rfl⟩
abbrev mX8_init : zMt := (yX8_init, cX8_init, 1, none, 1, 128)
theorem zCm_X8_init : zCm mX8_init := ⟨zT_of 71 (by decide +kernel) rfl, zT_of 53 (by decide +kernel) rfl, by decide +kernel, by decide, by decide +kernel⟩
theorem zNp_X8_init : zNp mX8_init 0 := by unfold zNp; decide +kernel
theorem zII_X8_init : Cond.instanceMethod mX8_init.1 ∈ zT := zT_of 70 (by decide +kernel) rfl
abbrev mX8_disc : zMt := (yX8_disc, cX8_disc, 2, (some .int), 0, 0)
theorem zCm_X8_disc : zCm mX8_disc := ⟨zT_of 345 (by decide +kernel) rfl, zT_of 53 (by decide +kernel) rfl, by decide +kernel, by decide, by decide +kernel⟩
theorem zPV_X8_disc : zPV mX8_disc 1 8 := ⟨zCm_X8_disc, ⟨zT_of 343 (by decide +kernel) rfl, zT_of 344 (by decide +kernel) rfl⟩, by unfold zNp; decide +kernel, by decide, rfl, rfl⟩
abbrev mX8_aim : zMt := (yX8_aim, cX8_aim, 4, (some .int), 0, 0)
theorem zCm_X8_aim : zCm mX8_aim := ⟨zT_of 374 (by decide +kernel) rfl, zT_of 53 (by decide +kernel) rfl, by decide +kernel, by decide, by decide +kernel⟩
theorem zPV_X8_aim : zPV mX8_aim 3 8 := ⟨zCm_X8_aim, ⟨zT_of 372 (by decide +kernel) rfl, zT_of 373 (by decide +kernel) rfl⟩, by unfold zNp; decide +kernel, by decide, rfl, rfl⟩
abbrev mX8_depth : zMt := (yX8_depth, cX8_depth, 3, (some .long), 0, 0)
theorem zCm_X8_depth : zCm mX8_depth := ⟨zT_of 382 (by decide +kernel) rfl, zT_of 53 (by decide +kernel) rfl, by decide +kernel, by decide, by decide +kernel⟩
theorem zPV_X8_depth : zPV mX8_depth 2 8 := ⟨zCm_X8_depth, ⟨zT_of 380 (by decide +kernel) rfl, zT_of 381 (by decide +kernel) rfl⟩, by unfold zNp; decide +kernel, by decide, rfl, rfl⟩
abbrev mX8_height : zMt := (yX8_height, cX8_height, 3, (some .int), 0, 0)
theorem zCm_X8_height : zCm mX8_height := ⟨zT_of 400 (by decide +kernel) rfl, zT_of 53 (by decide +kernel) rfl, by decide +kernel, by decide, by decide +kernel⟩
theorem zPV_X8_height : zPV mX8_height 2 8 := ⟨zCm_X8_height, ⟨zT_of 398 (by decide +kernel) rfl, zT_of 399 (by decide +kernel) rfl⟩, by unfold zNp; decide +kernel, by decide, rfl, rfl⟩
abbrev mX8_at : zMt := (yX8_at, cX8_at, 2, (some .int), 0, 0)
theorem zCm_X8_at : zCm mX8_at := ⟨zT_of 415 (by decide +kernel) rfl, zT_of 53 (by decide +kernel) rfl, by decide +kernel, by decide, by decide +kernel⟩
theorem zPV_X8_at : zPV mX8_at 1 8 := ⟨zCm_X8_at, ⟨zT_of 413 (by decide +kernel) rfl, zT_of 414 (by decide +kernel) rfl⟩, by unfold zNp; decide +kernel, by decide, rfl, rfl⟩
abbrev mX8_read : zMt := (yX8_read, cX8_read, 4, (some .int), 0, 0)
theorem zCm_X8_read : zCm mX8_read := ⟨zT_of 423 (by decide +kernel) rfl, zT_of 53 (by decide +kernel) rfl, by decide +kernel, by decide, by decide +kernel⟩
theorem zPV_X8_read : zPV mX8_read 3 8 := ⟨zCm_X8_read, ⟨zT_of 421 (by decide +kernel) rfl, zT_of 422 (by decide +kernel) rfl⟩, by unfold zNp; decide +kernel, by decide, rfl, rfl⟩
abbrev mX8_lie : zMt := (yX8_lie, cX8_lie, 2, (some .int), 0, 0)
theorem zCm_X8_lie : zCm mX8_lie := ⟨zT_of 435 (by decide +kernel) rfl, zT_of 53 (by decide +kernel) rfl, by decide +kernel, by decide, by decide +kernel⟩
theorem zPV_X8_lie : zPV mX8_lie 1 8 := ⟨zCm_X8_lie, ⟨zT_of 433 (by decide +kernel) rfl, zT_of 434 (by decide +kernel) rfl⟩, by unfold zNp; decide +kernel, by decide, rfl, rfl⟩
abbrev mX8_joined : zMt := (yX8_joined, cX8_joined, 2, (some .int), 0, 0)
theorem zCm_X8_joined : zCm mX8_joined := ⟨zT_of 443 (by decide +kernel) rfl, zT_of 53 (by decide +kernel) rfl, by decide +kernel, by decide, by decide +kernel⟩
theorem zPV_X8_joined : zPV mX8_joined 1 8 := ⟨zCm_X8_joined, ⟨zT_of 441 (by decide +kernel) rfl, zT_of 442 (by decide +kernel) rfl⟩, by unfold zNp; decide +kernel, by decide, rfl, rfl⟩
abbrev mX8_step : zMt := (yX8_step, cX8_step, 2, (some .int), 0, 0)
theorem zCm_X8_step : zCm mX8_step := ⟨zT_of 504 (by decide +kernel) rfl, zT_of 53 (by decide +kernel) rfl, by decide +kernel, by decide, by decide +kernel⟩
theorem zPV_X8_step : zPV mX8_step 1 8 := ⟨zCm_X8_step, ⟨zT_of 502 (by decide +kernel) rfl, zT_of 503 (by decide +kernel) rfl⟩, by unfold zNp; decide +kernel, by decide, rfl, rfl⟩
abbrev mX8_profile : zMt := (yX8_profile, cX8_profile, 2, (some .int), 0, 0)
theorem zCm_X8_profile : zCm mX8_profile := ⟨zT_of 512 (by decide +kernel) rfl, zT_of 53 (by decide +kernel) rfl, by decide +kernel, by decide, by decide +kernel⟩
theorem zPV_X8_profile : zPV mX8_profile 1 8 := ⟨zCm_X8_profile, ⟨zT_of 510 (by decide +kernel) rfl, zT_of 511 (by decide +kernel) rfl⟩, by unfold zNp; decide +kernel, by decide, rfl, rfl⟩
abbrev mX8_wire : zMt := (yX8_wire, cX8_wire, 4, (some .int), 0, 0)
theorem zCm_X8_wire : zCm mX8_wire := ⟨zT_of 522 (by decide +kernel) rfl, zT_of 53 (by decide +kernel) rfl, by decide +kernel, by decide, by decide +kernel⟩
theorem zPV_X8_wire : zPV mX8_wire 3 8 := ⟨zCm_X8_wire, ⟨zT_of 520 (by decide +kernel) rfl, zT_of 521 (by decide +kernel) rfl⟩, by unfold zNp; decide +kernel, by decide, rfl, rfl⟩
abbrev mX8_wires : zMt := (yX8_wires, cX8_wires, 2, (some .int), 0, 0)
theorem zCm_X8_wires : zCm mX8_wires := ⟨zT_of 534 (by decide +kernel) rfl, zT_of 53 (by decide +kernel) rfl, by decide +kernel, by decide, by decide +kernel⟩
theorem zPV_X8_wires : zPV mX8_wires 1 8 := ⟨zCm_X8_wires, ⟨zT_of 532 (by decide +kernel) rfl, zT_of 533 (by decide +kernel) rfl⟩, by unfold zNp; decide +kernel, by decide, rfl, rfl⟩
abbrev mX8_pull : zMt := (yX8_pull, cX8_pull, 4, (some .int), 0, 0)
theorem zCm_X8_pull : zCm mX8_pull := ⟨zT_of 554 (by decide +kernel) rfl, zT_of 53 (by decide +kernel) rfl, by decide +kernel, by decide, by decide +kernel⟩
theorem zPV_X8_pull : zPV mX8_pull 3 8 := ⟨zCm_X8_pull, ⟨zT_of 552 (by decide +kernel) rfl, zT_of 553 (by decide +kernel) rfl⟩, by unfold zNp; decide +kernel, by decide, rfl, rfl⟩
abbrev mX8_rest : zMt := (yX8_rest, cX8_rest, 2, (some .int), 0, 0)
theorem zCm_X8_rest : zCm mX8_rest := ⟨zT_of 565 (by decide +kernel) rfl, zT_of 53 (by decide +kernel) rfl, by decide +kernel, by decide, by decide +kernel⟩
theorem zPV_X8_rest : zPV mX8_rest 1 8 := ⟨zCm_X8_rest, ⟨zT_of 563 (by decide +kernel) rfl, zT_of 564 (by decide +kernel) rfl⟩, by unfold zNp; decide +kernel, by decide, rfl, rfl⟩
abbrev mX8_stroke : zMt := (yX8_stroke, cX8_stroke, 4, (some .int), 0, 0)
theorem zCm_X8_stroke : zCm mX8_stroke := ⟨zT_of 573 (by decide +kernel) rfl, zT_of 53 (by decide +kernel) rfl, by decide +kernel, by decide, by decide +kernel⟩
theorem zPV_X8_stroke : zPV mX8_stroke 3 8 := ⟨zCm_X8_stroke, ⟨zT_of 571 (by decide +kernel) rfl, zT_of 572 (by decide +kernel) rfl⟩, by unfold zNp; decide +kernel, by decide, rfl, rfl⟩
abbrev mX8_undo : zMt := (yX8_undo, cX8_undo, 1, (some .int), 0, 0)
theorem zCm_X8_undo : zCm mX8_undo := ⟨zT_of 601 (by decide +kernel) rfl, zT_of 53 (by decide +kernel) rfl, by decide +kernel, by decide, by decide +kernel⟩
theorem zPV_X8_undo : zPV mX8_undo 0 8 := ⟨zCm_X8_undo, ⟨zT_of 599 (by decide +kernel) rfl, zT_of 600 (by decide +kernel) rfl⟩, by unfold zNp; decide +kernel, by decide, rfl, rfl⟩
abbrev mX8_replay : zMt := (yX8_replay, cX8_replay, 3, (some .int), 0, 0)
theorem zCm_X8_replay : zCm mX8_replay := ⟨zT_of 613 (by decide +kernel) rfl, zT_of 53 (by decide +kernel) rfl, by decide +kernel, by decide, by decide +kernel⟩
theorem zPV_X8_replay : zPV mX8_replay 2 8 := ⟨zCm_X8_replay, ⟨zT_of 611 (by decide +kernel) rfl, zT_of 612 (by decide +kernel) rfl⟩, by unfold zNp; decide +kernel, by decide, rfl, rfl⟩
abbrev mX8_plan : zMt := (yX8_plan, cX8_plan, 3, (some .int), 0, 0)
theorem zCm_X8_plan : zCm mX8_plan := ⟨zT_of 621 (by decide +kernel) rfl, zT_of 53 (by decide +kernel) rfl, by decide +kernel, by decide, by decide +kernel⟩
theorem zPV_X8_plan : zPV mX8_plan 2 8 := ⟨zCm_X8_plan, ⟨zT_of 619 (by decide +kernel) rfl, zT_of 620 (by decide +kernel) rfl⟩, by unfold zNp; decide +kernel, by decide, rfl, rfl⟩
abbrev mX8_right : zMt := (yX8_right, cX8_right, 2, (some .int), 0, 0)
theorem zCm_X8_right : zCm mX8_right := ⟨zT_of 685 (by decide +kernel) rfl, zT_of 53 (by decide +kernel) rfl, by decide +kernel, by decide, by decide +kernel⟩
theorem zPV_X8_right : zPV mX8_right 1 8 := ⟨zCm_X8_right, ⟨zT_of 683 (by decide +kernel) rfl, zT_of 684 (by decide +kernel) rfl⟩, by unfold zNp; decide +kernel, by decide, rfl, rfl⟩
abbrev mX8_work : zMt := (yX8_work, cX8_work, 3, (some .int), 0, 0)
theorem zCm_X8_work : zCm mX8_work := ⟨zT_of 693 (by decide +kernel) rfl, zT_of 53 (by decide +kernel) rfl, by decide +kernel, by decide, by decide +kernel⟩
theorem zPV_X8_work : zPV mX8_work 1 8 := ⟨zCm_X8_work, ⟨zT_of 691 (by decide +kernel) rfl, zT_of 692 (by decide +kernel) rfl⟩, by unfold zNp; decide +kernel, by decide, rfl, rfl⟩
abbrev mX8_bend : zMt := (yX8_bend, cX8_bend, 4, (some .int), 0, 0)
theorem zCm_X8_bend : zCm mX8_bend := ⟨zT_of 706 (by decide +kernel) rfl, zT_of 53 (by decide +kernel) rfl, by decide +kernel, by decide, by decide +kernel⟩
theorem zPV_X8_bend : zPV mX8_bend 3 8 := ⟨zCm_X8_bend, ⟨zT_of 704 (by decide +kernel) rfl, zT_of 705 (by decide +kernel) rfl⟩, by unfold zNp; decide +kernel, by decide, rfl, rfl⟩
abbrev mX8_bear : zMt := (yX8_bear, cX8_bear, 2, (some .int), 0, 0)
theorem zCm_X8_bear : zCm mX8_bear := ⟨zT_of 714 (by decide +kernel) rfl, zT_of 53 (by decide +kernel) rfl, by decide +kernel, by decide, by decide +kernel⟩
theorem zPV_X8_bear : zPV mX8_bear 1 8 := ⟨zCm_X8_bear, ⟨zT_of 712 (by decide +kernel) rfl, zT_of 713 (by decide +kernel) rfl⟩, by unfold zNp; decide +kernel, by decide, rfl, rfl⟩
abbrev mX8_warm : zMt := (yX8_warm, cX8_warm, 3, (some .int), 0, 0)
theorem zCm_X8_warm : zCm mX8_warm := ⟨zT_of 750 (by decide +kernel) rfl, zT_of 53 (by decide +kernel) rfl, by decide +kernel, by decide, by decide +kernel⟩
theorem zPV_X8_warm : zPV mX8_warm 2 8 := ⟨zCm_X8_warm, ⟨zT_of 748 (by decide +kernel) rfl, zT_of 749 (by decide +kernel) rfl⟩, by unfold zNp; decide +kernel, by decide, rfl, rfl⟩
abbrev mX8_cool : zMt := (yX8_cool, cX8_cool, 2, (some .int), 0, 0)
theorem zCm_X8_cool : zCm mX8_cool := ⟨zT_of 762 (by decide +kernel) rfl, zT_of 53 (by decide +kernel) rfl, by decide +kernel, by decide, by decide +kernel⟩
theorem zPV_X8_cool : zPV mX8_cool 1 8 := ⟨zCm_X8_cool, ⟨zT_of 760 (by decide +kernel) rfl, zT_of 761 (by decide +kernel) rfl⟩, by unfold zNp; decide +kernel, by decide, rfl, rfl⟩
abbrev mX8_still : zMt := (yX8_still, cX8_still, 2, (some .int), 0, 0)
theorem zCm_X8_still : zCm mX8_still := ⟨zT_of 785 (by decide +kernel) rfl, zT_of 53 (by decide +kernel) rfl, by decide +kernel, by decide, by decide +kernel⟩
theorem zPV_X8_still : zPV mX8_still 1 8 := ⟨zCm_X8_still, ⟨zT_of 783 (by decide +kernel) rfl, zT_of 784 (by decide +kernel) rfl⟩, by unfold zNp; decide +kernel, by decide, rfl, rfl⟩
abbrev mX8_warmth : zMt := (yX8_warmth, cX8_warmth, 2, (some .int), 0, 0)
theorem zCm_X8_warmth : zCm mX8_warmth := ⟨zT_of 794 (by decide +kernel) rfl, zT_of 53 (by decide +kernel) rfl, by decide +kernel, by decide, by decide +kernel⟩
theorem zPV_X8_warmth : zPV mX8_warmth 1 8 := ⟨zCm_X8_warmth, ⟨zT_of 792 (by decide +kernel) rfl, zT_of 793 (by decide +kernel) rfl⟩, by unfold zNp; decide +kernel, by decide, rfl, rfl⟩
abbrev mX8_grit : zMt := (yX8_grit, cX8_grit, 3, (some .int), 0, 0)
theorem zCm_X8_grit : zCm mX8_grit := ⟨zT_of 799 (by decide +kernel) rfl, zT_of 53 (by decide +kernel) rfl, by decide +kernel, by decide, by decide +kernel⟩
theorem zPV_X8_grit : zPV mX8_grit 2 8 := ⟨zCm_X8_grit, ⟨zT_of 797 (by decide +kernel) rfl, zT_of 798 (by decide +kernel) rfl⟩, by unfold zNp; decide +kernel, by decide, rfl, rfl⟩
abbrev mX8_slack : zMt := (yX8_slack, cX8_slack, 2, (some .int), 0, 0)
theorem zCm_X8_slack : zCm mX8_slack := ⟨zT_of 811 (by decide +kernel) rfl, zT_of 53 (by decide +kernel) rfl, by decide +kernel, by decide, by decide +kernel⟩
theorem zPV_X8_slack : zPV mX8_slack 1 8 := ⟨zCm_X8_slack, ⟨zT_of 809 (by decide +kernel) rfl, zT_of 810 (by decide +kernel) rfl⟩, by unfold zNp; decide +kernel, by decide, rfl, rfl⟩
abbrev mX8_wets : zMt := (yX8_wets, cX8_wets, 3, (some .int), 0, 0)
theorem zCm_X8_wets : zCm mX8_wets := ⟨zT_of 819 (by decide +kernel) rfl, zT_of 53 (by decide +kernel) rfl, by decide +kernel, by decide, by decide +kernel⟩
theorem zPV_X8_wets : zPV mX8_wets 2 8 := ⟨zCm_X8_wets, ⟨zT_of 817 (by decide +kernel) rfl, zT_of 818 (by decide +kernel) rfl⟩, by unfold zNp; decide +kernel, by decide, rfl, rfl⟩
abbrev mX8_count : zMt := (yX8_count, cX8_count, 2, (some .int), 0, 0)
theorem zCm_X8_count : zCm mX8_count := ⟨zT_of 859 (by decide +kernel) rfl, zT_of 53 (by decide +kernel) rfl, by decide +kernel, by decide, by decide +kernel⟩
theorem zPV_X8_count : zPV mX8_count 1 8 := ⟨zCm_X8_count, ⟨zT_of 857 (by decide +kernel) rfl, zT_of 858 (by decide +kernel) rfl⟩, by unfold zNp; decide +kernel, by decide, rfl, rfl⟩
abbrev mX8_within : zMt := (yX8_within, cX8_within, 3, (some .boolean), 0, 0)
theorem zCm_X8_within : zCm mX8_within := ⟨zT_of 348 (by decide +kernel) rfl, zT_of 53 (by decide +kernel) rfl, by decide +kernel, by decide, by decide +kernel⟩
theorem zPS_X8_within : zPS mX8_within 3 := ⟨zCm_X8_within, zT_of 347 (by decide +kernel) rfl, by unfold zNp; decide +kernel, rfl⟩
abbrev mX8_isTool : zMt := (yX8_isTool, cX8_isTool, 1, (some .boolean), 0, 0)
theorem zCm_X8_isTool : zCm mX8_isTool := ⟨zT_of 557 (by decide +kernel) rfl, zT_of 53 (by decide +kernel) rfl, by decide +kernel, by decide, by decide +kernel⟩
theorem zPS_X8_isTool : zPS mX8_isTool 1 := ⟨zCm_X8_isTool, zT_of 556 (by decide +kernel) rfl, by unfold zNp; decide +kernel, rfl⟩
abbrev mX8_isZone : zMt := (yX8_isZone, cX8_isZone, 2, (some .boolean), 0, 0)
theorem zCm_X8_isZone : zCm mX8_isZone := ⟨zT_of 404 (by decide +kernel) rfl, zT_of 53 (by decide +kernel) rfl, by decide +kernel, by decide, by decide +kernel⟩
theorem zPV_X8_isZone : zPV mX8_isZone 1 8 := ⟨zCm_X8_isZone, ⟨zT_of 403 (by decide +kernel) rfl, zT_of 1 (by decide +kernel) rfl⟩, by unfold zNp; decide +kernel, by decide, rfl, rfl⟩
abbrev mX8_isStep : zMt := (yX8_isStep, cX8_isStep, 2, (some .boolean), 0, 0)
theorem zCm_X8_isStep : zCm mX8_isStep := ⟨zT_of 427 (by decide +kernel) rfl, zT_of 53 (by decide +kernel) rfl, by decide +kernel, by decide, by decide +kernel⟩
theorem zPV_X8_isStep : zPV mX8_isStep 1 8 := ⟨zCm_X8_isStep, ⟨zT_of 426 (by decide +kernel) rfl, zT_of 2 (by decide +kernel) rfl⟩, by unfold zNp; decide +kernel, by decide, rfl, rfl⟩
abbrev mX9_init : zMt := (yX9_init, cX9_init, 1, none, 129, 154)
theorem zCm_X9_init : zCm mX9_init := ⟨zT_of 869 (by decide +kernel) rfl, zT_of 63 (by decide +kernel) rfl, by decide +kernel, by decide, by decide +kernel⟩
theorem zNp_X9_init : zNp mX9_init 0 := by unfold zNp; decide +kernel
theorem zII_X9_init : Cond.instanceMethod mX9_init.1 ∈ zT := zT_of 868 (by decide +kernel) rfl
abbrev mX9_in : zMt := (yX9_in, cX9_in, 3, (some .boolean), 0, 0)
theorem zCm_X9_in : zCm mX9_in := ⟨zT_of 995 (by decide +kernel) rfl, zT_of 63 (by decide +kernel) rfl, by decide +kernel, by decide, by decide +kernel⟩
theorem zPS_X9_in : zPS mX9_in 3 := ⟨zCm_X9_in, zT_of 994 (by decide +kernel) rfl, by unfold zNp; decide +kernel, rfl⟩
abbrev mX9_size : zMt := (yX9_size, cX9_size, 1, (some .int), 0, 0)
theorem zCm_X9_size : zCm mX9_size := ⟨zT_of 1059 (by decide +kernel) rfl, zT_of 63 (by decide +kernel) rfl, by decide +kernel, by decide, by decide +kernel⟩
theorem zPS_X9_size : zPS mX9_size 1 := ⟨zCm_X9_size, zT_of 1058 (by decide +kernel) rfl, by unfold zNp; decide +kernel, rfl⟩
abbrev mX9_begins : zMt := (yX9_begins, cX9_begins, 3, none, 0, 0)
theorem zCm_X9_begins : zCm mX9_begins := ⟨zT_of 875 (by decide +kernel) rfl, zT_of 63 (by decide +kernel) rfl, by decide +kernel, by decide, by decide +kernel⟩
theorem zPV_X9_begins : zPV mX9_begins 1 9 := ⟨zCm_X9_begins, ⟨zT_of 874 (by decide +kernel) rfl, zT_of 32 (by decide +kernel) rfl⟩, by unfold zNp; decide +kernel, by decide, rfl, rfl⟩
abbrev mX9_disc : zMt := (yX9_disc, cX9_disc, 2, (some .int), 0, 0)
theorem zCm_X9_disc : zCm mX9_disc := ⟨zT_of 992 (by decide +kernel) rfl, zT_of 63 (by decide +kernel) rfl, by decide +kernel, by decide, by decide +kernel⟩
theorem zPV_X9_disc : zPV mX9_disc 1 9 := ⟨zCm_X9_disc, ⟨zT_of 990 (by decide +kernel) rfl, zT_of 991 (by decide +kernel) rfl⟩, by unfold zNp; decide +kernel, by decide, rfl, rfl⟩
abbrev mX9_aim : zMt := (yX9_aim, cX9_aim, 4, (some .int), 0, 0)
theorem zCm_X9_aim : zCm mX9_aim := ⟨zT_of 999 (by decide +kernel) rfl, zT_of 63 (by decide +kernel) rfl, by decide +kernel, by decide, by decide +kernel⟩
theorem zPV_X9_aim : zPV mX9_aim 3 9 := ⟨zCm_X9_aim, ⟨zT_of 997 (by decide +kernel) rfl, zT_of 998 (by decide +kernel) rfl⟩, by unfold zNp; decide +kernel, by decide, rfl, rfl⟩
abbrev mX9_common : zMt := (yX9_common, cX9_common, 10, (some .long), 0, 0)
theorem zCm_X9_common : zCm mX9_common := ⟨zT_of 1009 (by decide +kernel) rfl, zT_of 63 (by decide +kernel) rfl, by decide +kernel, by decide, by decide +kernel⟩
theorem zPS_X9_common : zPS mX9_common 2 := ⟨zCm_X9_common, zT_of 1008 (by decide +kernel) rfl, by unfold zNp; decide +kernel, rfl⟩
abbrev mX9_depth : zMt := (yX9_depth, cX9_depth, 11, (some .long), 0, 0)
theorem zCm_X9_depth : zCm mX9_depth := ⟨zT_of 1003 (by decide +kernel) rfl, zT_of 63 (by decide +kernel) rfl, by decide +kernel, by decide, by decide +kernel⟩
theorem zPV_X9_depth : zPV mX9_depth 2 9 := ⟨zCm_X9_depth, ⟨zT_of 1001 (by decide +kernel) rfl, zT_of 1002 (by decide +kernel) rfl⟩, by unfold zNp; decide +kernel, by decide, rfl, rfl⟩
abbrev mX9_isZone : zMt := (yX9_isZone, cX9_isZone, 2, (some .boolean), 0, 0)
theorem zCm_X9_isZone : zCm mX9_isZone := ⟨zT_of 1017 (by decide +kernel) rfl, zT_of 63 (by decide +kernel) rfl, by decide +kernel, by decide, by decide +kernel⟩
theorem zPV_X9_isZone : zPV mX9_isZone 1 9 := ⟨zCm_X9_isZone, ⟨zT_of 1016 (by decide +kernel) rfl, zT_of 33 (by decide +kernel) rfl⟩, by unfold zNp; decide +kernel, by decide, rfl, rfl⟩
abbrev mX9_height : zMt := (yX9_height, cX9_height, 5, (some .int), 0, 0)
theorem zCm_X9_height : zCm mX9_height := ⟨zT_of 1013 (by decide +kernel) rfl, zT_of 63 (by decide +kernel) rfl, by decide +kernel, by decide, by decide +kernel⟩
theorem zPV_X9_height : zPV mX9_height 2 9 := ⟨zCm_X9_height, ⟨zT_of 1011 (by decide +kernel) rfl, zT_of 1012 (by decide +kernel) rfl⟩, by unfold zNp; decide +kernel, by decide, rfl, rfl⟩
abbrev mX9_at : zMt := (yX9_at, cX9_at, 2, (some .int), 0, 0)
theorem zCm_X9_at : zCm mX9_at := ⟨zT_of 1024 (by decide +kernel) rfl, zT_of 63 (by decide +kernel) rfl, by decide +kernel, by decide, by decide +kernel⟩
theorem zPV_X9_at : zPV mX9_at 1 9 := ⟨zCm_X9_at, ⟨zT_of 1022 (by decide +kernel) rfl, zT_of 1023 (by decide +kernel) rfl⟩, by unfold zNp; decide +kernel, by decide, rfl, rfl⟩
abbrev mX9_read : zMt := (yX9_read, cX9_read, 5, (some .int), 0, 0)
theorem zCm_X9_read : zCm mX9_read := ⟨zT_of 1028 (by decide +kernel) rfl, zT_of 63 (by decide +kernel) rfl, by decide +kernel, by decide, by decide +kernel⟩
theorem zPV_X9_read : zPV mX9_read 3 9 := ⟨zCm_X9_read, ⟨zT_of 1026 (by decide +kernel) rfl, zT_of 1027 (by decide +kernel) rfl⟩, by unfold zNp; decide +kernel, by decide, rfl, rfl⟩
abbrev mX9_lie : zMt := (yX9_lie, cX9_lie, 3, (some .int), 0, 0)
theorem zCm_X9_lie : zCm mX9_lie := ⟨zT_of 1032 (by decide +kernel) rfl, zT_of 63 (by decide +kernel) rfl, by decide +kernel, by decide, by decide +kernel⟩
theorem zPV_X9_lie : zPV mX9_lie 1 9 := ⟨zCm_X9_lie, ⟨zT_of 1030 (by decide +kernel) rfl, zT_of 1031 (by decide +kernel) rfl⟩, by unfold zNp; decide +kernel, by decide, rfl, rfl⟩
abbrev mX9_isRead : zMt := (yX9_isRead, cX9_isRead, 3, (some .boolean), 0, 0)
theorem zCm_X9_isRead : zCm mX9_isRead := ⟨zT_of 1048 (by decide +kernel) rfl, zT_of 63 (by decide +kernel) rfl, by decide +kernel, by decide, by decide +kernel⟩
theorem zPV_X9_isRead : zPV mX9_isRead 2 9 := ⟨zCm_X9_isRead, ⟨zT_of 1047 (by decide +kernel) rfl, zT_of 36 (by decide +kernel) rfl⟩, by unfold zNp; decide +kernel, by decide, rfl, rfl⟩
abbrev mX9_shifted : zMt := (yX9_shifted, cX9_shifted, 3, (some .int), 0, 0)
theorem zCm_X9_shifted : zCm mX9_shifted := ⟨zT_of 1052 (by decide +kernel) rfl, zT_of 63 (by decide +kernel) rfl, by decide +kernel, by decide, by decide +kernel⟩
theorem zPV_X9_shifted : zPV mX9_shifted 2 9 := ⟨zCm_X9_shifted, ⟨zT_of 1051 (by decide +kernel) rfl, zT_of 37 (by decide +kernel) rfl⟩, by unfold zNp; decide +kernel, by decide, rfl, rfl⟩
abbrev mX9_holds : zMt := (yX9_holds, cX9_holds, 5, (some .int), 0, 0)
theorem zCm_X9_holds : zCm mX9_holds := ⟨zT_of 1056 (by decide +kernel) rfl, zT_of 63 (by decide +kernel) rfl, by decide +kernel, by decide, by decide +kernel⟩
theorem zPV_X9_holds : zPV mX9_holds 2 9 := ⟨zCm_X9_holds, ⟨zT_of 1055 (by decide +kernel) rfl, zT_of 38 (by decide +kernel) rfl⟩, by unfold zNp; decide +kernel, by decide, rfl, rfl⟩
abbrev mX9_dropped : zMt := (yX9_dropped, cX9_dropped, 7, (some .int), 0, 0)
theorem zCm_X9_dropped : zCm mX9_dropped := ⟨zT_of 1044 (by decide +kernel) rfl, zT_of 63 (by decide +kernel) rfl, by decide +kernel, by decide, by decide +kernel⟩
theorem zPV_X9_dropped : zPV mX9_dropped 1 9 := ⟨zCm_X9_dropped, ⟨zT_of 1043 (by decide +kernel) rfl, zT_of 35 (by decide +kernel) rfl⟩, by unfold zNp; decide +kernel, by decide, rfl, rfl⟩
abbrev mX9_joins : zMt := (yX9_joins, cX9_joins, 7, (some .int), 0, 0)
theorem zCm_X9_joins : zCm mX9_joins := ⟨zT_of 1040 (by decide +kernel) rfl, zT_of 63 (by decide +kernel) rfl, by decide +kernel, by decide, by decide +kernel⟩
theorem zPV_X9_joins : zPV mX9_joins 0 9 := ⟨zCm_X9_joins, ⟨zT_of 1039 (by decide +kernel) rfl, zT_of 34 (by decide +kernel) rfl⟩, by unfold zNp; decide +kernel, by decide, rfl, rfl⟩
abbrev mX9_joined : zMt := (yX9_joined, cX9_joined, 3, (some .int), 0, 0)
theorem zCm_X9_joined : zCm mX9_joined := ⟨zT_of 1036 (by decide +kernel) rfl, zT_of 63 (by decide +kernel) rfl, by decide +kernel, by decide, by decide +kernel⟩
theorem zPV_X9_joined : zPV mX9_joined 1 9 := ⟨zCm_X9_joined, ⟨zT_of 1034 (by decide +kernel) rfl, zT_of 1035 (by decide +kernel) rfl⟩, by unfold zNp; decide +kernel, by decide, rfl, rfl⟩
abbrev mX9_step : zMt := (yX9_step, cX9_step, 2, (some .int), 0, 0)
theorem zCm_X9_step : zCm mX9_step := ⟨zT_of 1063 (by decide +kernel) rfl, zT_of 63 (by decide +kernel) rfl, by decide +kernel, by decide, by decide +kernel⟩
theorem zPV_X9_step : zPV mX9_step 1 9 := ⟨zCm_X9_step, ⟨zT_of 1061 (by decide +kernel) rfl, zT_of 1062 (by decide +kernel) rfl⟩, by unfold zNp; decide +kernel, by decide, rfl, rfl⟩
abbrev mX9_profileOf : zMt := (yX9_profileOf, cX9_profileOf, 4, (some .int), 0, 0)
theorem zCm_X9_profileOf : zCm mX9_profileOf := ⟨zT_of 1072 (by decide +kernel) rfl, zT_of 63 (by decide +kernel) rfl, by decide +kernel, by decide, by decide +kernel⟩
theorem zPV_X9_profileOf : zPV mX9_profileOf 1 9 := ⟨zCm_X9_profileOf, ⟨zT_of 1071 (by decide +kernel) rfl, zT_of 39 (by decide +kernel) rfl⟩, by unfold zNp; decide +kernel, by decide, rfl, rfl⟩
abbrev mX9_profile : zMt := (yX9_profile, cX9_profile, 2, (some .int), 0, 0)
theorem zCm_X9_profile : zCm mX9_profile := ⟨zT_of 1067 (by decide +kernel) rfl, zT_of 63 (by decide +kernel) rfl, by decide +kernel, by decide, by decide +kernel⟩
theorem zPV_X9_profile : zPV mX9_profile 1 9 := ⟨zCm_X9_profile, ⟨zT_of 1065 (by decide +kernel) rfl, zT_of 1066 (by decide +kernel) rfl⟩, by unfold zNp; decide +kernel, by decide, rfl, rfl⟩
abbrev mX9_wire : zMt := (yX9_wire, cX9_wire, 4, (some .int), 0, 0)
theorem zCm_X9_wire : zCm mX9_wire := ⟨zT_of 1077 (by decide +kernel) rfl, zT_of 63 (by decide +kernel) rfl, by decide +kernel, by decide, by decide +kernel⟩
theorem zPV_X9_wire : zPV mX9_wire 3 9 := ⟨zCm_X9_wire, ⟨zT_of 1075 (by decide +kernel) rfl, zT_of 1076 (by decide +kernel) rfl⟩, by unfold zNp; decide +kernel, by decide, rfl, rfl⟩
abbrev mX9_offOf : zMt := (yX9_offOf, cX9_offOf, 4, (some .int), 0, 0)
theorem zCm_X9_offOf : zCm mX9_offOf := ⟨zT_of 1085 (by decide +kernel) rfl, zT_of 63 (by decide +kernel) rfl, by decide +kernel, by decide, by decide +kernel⟩
theorem zPV_X9_offOf : zPV mX9_offOf 1 9 := ⟨zCm_X9_offOf, ⟨zT_of 1084 (by decide +kernel) rfl, zT_of 40 (by decide +kernel) rfl⟩, by unfold zNp; decide +kernel, by decide, rfl, rfl⟩
abbrev mX9_wires : zMt := (yX9_wires, cX9_wires, 6, (some .int), 0, 0)
theorem zCm_X9_wires : zCm mX9_wires := ⟨zT_of 1081 (by decide +kernel) rfl, zT_of 63 (by decide +kernel) rfl, by decide +kernel, by decide, by decide +kernel⟩
theorem zPV_X9_wires : zPV mX9_wires 1 9 := ⟨zCm_X9_wires, ⟨zT_of 1079 (by decide +kernel) rfl, zT_of 1080 (by decide +kernel) rfl⟩, by unfold zNp; decide +kernel, by decide, rfl, rfl⟩
abbrev mX9_pull : zMt := (yX9_pull, cX9_pull, 5, (some .int), 0, 0)
theorem zCm_X9_pull : zCm mX9_pull := ⟨zT_of 1089 (by decide +kernel) rfl, zT_of 63 (by decide +kernel) rfl, by decide +kernel, by decide, by decide +kernel⟩
theorem zPV_X9_pull : zPV mX9_pull 3 9 := ⟨zCm_X9_pull, ⟨zT_of 1087 (by decide +kernel) rfl, zT_of 1088 (by decide +kernel) rfl⟩, by unfold zNp; decide +kernel, by decide, rfl, rfl⟩
abbrev mX9_rest : zMt := (yX9_rest, cX9_rest, 3, (some .int), 0, 0)
theorem zCm_X9_rest : zCm mX9_rest := ⟨zT_of 1093 (by decide +kernel) rfl, zT_of 63 (by decide +kernel) rfl, by decide +kernel, by decide, by decide +kernel⟩
theorem zPV_X9_rest : zPV mX9_rest 1 9 := ⟨zCm_X9_rest, ⟨zT_of 1091 (by decide +kernel) rfl, zT_of 1092 (by decide +kernel) rfl⟩, by unfold zNp; decide +kernel, by decide, rfl, rfl⟩
abbrev mX9_pullOf : zMt := (yX9_pullOf, cX9_pullOf, 3, (some .int), 0, 0)
theorem zCm_X9_pullOf : zCm mX9_pullOf := ⟨zT_of 1101 (by decide +kernel) rfl, zT_of 63 (by decide +kernel) rfl, by decide +kernel, by decide, by decide +kernel⟩
theorem zPV_X9_pullOf : zPV mX9_pullOf 2 9 := ⟨zCm_X9_pullOf, ⟨zT_of 1100 (by decide +kernel) rfl, zT_of 41 (by decide +kernel) rfl⟩, by unfold zNp; decide +kernel, by decide, rfl, rfl⟩
abbrev mX9_lays : zMt := (yX9_lays, cX9_lays, 6, none, 0, 0)
theorem zCm_X9_lays : zCm mX9_lays := ⟨zT_of 1107 (by decide +kernel) rfl, zT_of 63 (by decide +kernel) rfl, by decide +kernel, by decide, by decide +kernel⟩
theorem zPV_X9_lays : zPV mX9_lays 3 9 := ⟨zCm_X9_lays, ⟨zT_of 1106 (by decide +kernel) rfl, zT_of 42 (by decide +kernel) rfl⟩, by unfold zNp; decide +kernel, by decide, rfl, rfl⟩
abbrev mX9_stroke : zMt := (yX9_stroke, cX9_stroke, 5, (some .int), 0, 0)
theorem zCm_X9_stroke : zCm mX9_stroke := ⟨zT_of 1097 (by decide +kernel) rfl, zT_of 63 (by decide +kernel) rfl, by decide +kernel, by decide, by decide +kernel⟩
theorem zPV_X9_stroke : zPV mX9_stroke 3 9 := ⟨zCm_X9_stroke, ⟨zT_of 1095 (by decide +kernel) rfl, zT_of 1096 (by decide +kernel) rfl⟩, by unfold zNp; decide +kernel, by decide, rfl, rfl⟩
abbrev mX9_undo : zMt := (yX9_undo, cX9_undo, 3, (some .int), 0, 0)
theorem zCm_X9_undo : zCm mX9_undo := ⟨zT_of 1111 (by decide +kernel) rfl, zT_of 63 (by decide +kernel) rfl, by decide +kernel, by decide, by decide +kernel⟩
theorem zPV_X9_undo : zPV mX9_undo 0 9 := ⟨zCm_X9_undo, ⟨zT_of 1109 (by decide +kernel) rfl, zT_of 1110 (by decide +kernel) rfl⟩, by unfold zNp; decide +kernel, by decide, rfl, rfl⟩
abbrev mX9_replay : zMt := (yX9_replay, cX9_replay, 6, (some .int), 0, 0)
theorem zCm_X9_replay : zCm mX9_replay := ⟨zT_of 1115 (by decide +kernel) rfl, zT_of 63 (by decide +kernel) rfl, by decide +kernel, by decide, by decide +kernel⟩
theorem zPV_X9_replay : zPV mX9_replay 2 9 := ⟨zCm_X9_replay, ⟨zT_of 1113 (by decide +kernel) rfl, zT_of 1114 (by decide +kernel) rfl⟩, by unfold zNp; decide +kernel, by decide, rfl, rfl⟩
abbrev mX9_back : zMt := (yX9_back, cX9_back, 4, (some .int), 0, 0)
theorem zCm_X9_back : zCm mX9_back := ⟨zT_of 1138 (by decide +kernel) rfl, zT_of 63 (by decide +kernel) rfl, by decide +kernel, by decide, by decide +kernel⟩
theorem zPS_X9_back : zPS mX9_back 2 := ⟨zCm_X9_back, zT_of 1137 (by decide +kernel) rfl, by unfold zNp; decide +kernel, rfl⟩
abbrev mX9_isRight : zMt := (yX9_isRight, cX9_isRight, 8, (some .boolean), 0, 0)
theorem zCm_X9_isRight : zCm mX9_isRight := ⟨zT_of 1135 (by decide +kernel) rfl, zT_of 63 (by decide +kernel) rfl, by decide +kernel, by decide, by decide +kernel⟩
theorem zPV_X9_isRight : zPV mX9_isRight 4 9 := ⟨zCm_X9_isRight, ⟨zT_of 1134 (by decide +kernel) rfl, zT_of 46 (by decide +kernel) rfl⟩, by unfold zNp; decide +kernel, by decide, rfl, rfl⟩
abbrev mX9_next : zMt := (yX9_next, cX9_next, 2, (some .int), 0, 0)
theorem zCm_X9_next : zCm mX9_next := ⟨zT_of 1141 (by decide +kernel) rfl, zT_of 63 (by decide +kernel) rfl, by decide +kernel, by decide, by decide +kernel⟩
theorem zPS_X9_next : zPS mX9_next 2 := ⟨zCm_X9_next, zT_of 1140 (by decide +kernel) rfl, by unfold zNp; decide +kernel, rfl⟩
abbrev mX9_most : zMt := (yX9_most, cX9_most, 2, (some .int), 0, 0)
theorem zCm_X9_most : zCm mX9_most := ⟨zT_of 1131 (by decide +kernel) rfl, zT_of 63 (by decide +kernel) rfl, by decide +kernel, by decide, by decide +kernel⟩
theorem zPV_X9_most : zPV mX9_most 1 9 := ⟨zCm_X9_most, ⟨zT_of 1130 (by decide +kernel) rfl, zT_of 45 (by decide +kernel) rfl⟩, by unfold zNp; decide +kernel, by decide, rfl, rfl⟩
abbrev mX9_costs : zMt := (yX9_costs, cX9_costs, 7, none, 0, 0)
theorem zCm_X9_costs : zCm mX9_costs := ⟨zT_of 1127 (by decide +kernel) rfl, zT_of 63 (by decide +kernel) rfl, by decide +kernel, by decide, by decide +kernel⟩
theorem zPV_X9_costs : zPV mX9_costs 1 9 := ⟨zCm_X9_costs, ⟨zT_of 1126 (by decide +kernel) rfl, zT_of 44 (by decide +kernel) rfl⟩, by unfold zNp; decide +kernel, by decide, rfl, rfl⟩
abbrev mX9_plans : zMt := (yX9_plans, cX9_plans, 7, (some .int), 0, 0)
theorem zCm_X9_plans : zCm mX9_plans := ⟨zT_of 1123 (by decide +kernel) rfl, zT_of 63 (by decide +kernel) rfl, by decide +kernel, by decide, by decide +kernel⟩
theorem zPV_X9_plans : zPV mX9_plans 1 9 := ⟨zCm_X9_plans, ⟨zT_of 1122 (by decide +kernel) rfl, zT_of 43 (by decide +kernel) rfl⟩, by unfold zNp; decide +kernel, by decide, rfl, rfl⟩
abbrev mX9_plan : zMt := (yX9_plan, cX9_plan, 4, (some .int), 0, 0)
theorem zCm_X9_plan : zCm mX9_plan := ⟨zT_of 1119 (by decide +kernel) rfl, zT_of 63 (by decide +kernel) rfl, by decide +kernel, by decide, by decide +kernel⟩
theorem zPV_X9_plan : zPV mX9_plan 2 9 := ⟨zCm_X9_plan, ⟨zT_of 1117 (by decide +kernel) rfl, zT_of 1118 (by decide +kernel) rfl⟩, by unfold zNp; decide +kernel, by decide, rfl, rfl⟩
abbrev mX9_right : zMt := (yX9_right, cX9_right, 8, (some .int), 0, 0)
theorem zCm_X9_right : zCm mX9_right := ⟨zT_of 1145 (by decide +kernel) rfl, zT_of 63 (by decide +kernel) rfl, by decide +kernel, by decide, by decide +kernel⟩
theorem zPV_X9_right : zPV mX9_right 1 9 := ⟨zCm_X9_right, ⟨zT_of 1143 (by decide +kernel) rfl, zT_of 1144 (by decide +kernel) rfl⟩, by unfold zNp; decide +kernel, by decide, rfl, rfl⟩
abbrev mX9_work : zMt := (yX9_work, cX9_work, 4, (some .int), 0, 0)
theorem zCm_X9_work : zCm mX9_work := ⟨zT_of 1149 (by decide +kernel) rfl, zT_of 63 (by decide +kernel) rfl, by decide +kernel, by decide, by decide +kernel⟩
theorem zPV_X9_work : zPV mX9_work 1 9 := ⟨zCm_X9_work, ⟨zT_of 1147 (by decide +kernel) rfl, zT_of 1148 (by decide +kernel) rfl⟩, by unfold zNp; decide +kernel, by decide, rfl, rfl⟩
abbrev mX9_bend : zMt := (yX9_bend, cX9_bend, 5, (some .int), 0, 0)
theorem zCm_X9_bend : zCm mX9_bend := ⟨zT_of 1153 (by decide +kernel) rfl, zT_of 63 (by decide +kernel) rfl, by decide +kernel, by decide, by decide +kernel⟩
theorem zPV_X9_bend : zPV mX9_bend 3 9 := ⟨zCm_X9_bend, ⟨zT_of 1151 (by decide +kernel) rfl, zT_of 1152 (by decide +kernel) rfl⟩, by unfold zNp; decide +kernel, by decide, rfl, rfl⟩
abbrev mX9_spreads : zMt := (yX9_spreads, cX9_spreads, 7, none, 0, 0)
theorem zCm_X9_spreads : zCm mX9_spreads := ⟨zT_of 1161 (by decide +kernel) rfl, zT_of 63 (by decide +kernel) rfl, by decide +kernel, by decide, by decide +kernel⟩
theorem zPV_X9_spreads : zPV mX9_spreads 0 9 := ⟨zCm_X9_spreads, ⟨zT_of 1160 (by decide +kernel) rfl, zT_of 47 (by decide +kernel) rfl⟩, by unfold zNp; decide +kernel, by decide, rfl, rfl⟩
abbrev mX9_bear : zMt := (yX9_bear, cX9_bear, 7, (some .int), 0, 0)
theorem zCm_X9_bear : zCm mX9_bear := ⟨zT_of 1157 (by decide +kernel) rfl, zT_of 63 (by decide +kernel) rfl, by decide +kernel, by decide, by decide +kernel⟩
theorem zPV_X9_bear : zPV mX9_bear 1 9 := ⟨zCm_X9_bear, ⟨zT_of 1155 (by decide +kernel) rfl, zT_of 1156 (by decide +kernel) rfl⟩, by unfold zNp; decide +kernel, by decide, rfl, rfl⟩
abbrev mX9_warm : zMt := (yX9_warm, cX9_warm, 4, (some .int), 0, 0)
theorem zCm_X9_warm : zCm mX9_warm := ⟨zT_of 1165 (by decide +kernel) rfl, zT_of 63 (by decide +kernel) rfl, by decide +kernel, by decide, by decide +kernel⟩
theorem zPV_X9_warm : zPV mX9_warm 2 9 := ⟨zCm_X9_warm, ⟨zT_of 1163 (by decide +kernel) rfl, zT_of 1164 (by decide +kernel) rfl⟩, by unfold zNp; decide +kernel, by decide, rfl, rfl⟩
abbrev mX9_down : zMt := (yX9_down, cX9_down, 2, (some .int), 0, 0)
theorem zCm_X9_down : zCm mX9_down := ⟨zT_of 1176 (by decide +kernel) rfl, zT_of 63 (by decide +kernel) rfl, by decide +kernel, by decide, by decide +kernel⟩
theorem zPS_X9_down : zPS mX9_down 2 := ⟨zCm_X9_down, zT_of 1175 (by decide +kernel) rfl, by unfold zNp; decide +kernel, rfl⟩
abbrev mX9_passes : zMt := (yX9_passes, cX9_passes, 2, none, 0, 0)
theorem zCm_X9_passes : zCm mX9_passes := ⟨zT_of 1173 (by decide +kernel) rfl, zT_of 63 (by decide +kernel) rfl, by decide +kernel, by decide, by decide +kernel⟩
theorem zPV_X9_passes : zPV mX9_passes 0 9 := ⟨zCm_X9_passes, ⟨zT_of 1172 (by decide +kernel) rfl, zT_of 48 (by decide +kernel) rfl⟩, by unfold zNp; decide +kernel, by decide, rfl, rfl⟩
abbrev mX9_apart : zMt := (yX9_apart, cX9_apart, 5, (some .int), 0, 0)
theorem zCm_X9_apart : zCm mX9_apart := ⟨zT_of 1180 (by decide +kernel) rfl, zT_of 63 (by decide +kernel) rfl, by decide +kernel, by decide, by decide +kernel⟩
theorem zPV_X9_apart : zPV mX9_apart 1 9 := ⟨zCm_X9_apart, ⟨zT_of 1179 (by decide +kernel) rfl, zT_of 49 (by decide +kernel) rfl⟩, by unfold zNp; decide +kernel, by decide, rfl, rfl⟩
abbrev mX9_cool : zMt := (yX9_cool, cX9_cool, 3, (some .int), 0, 0)
theorem zCm_X9_cool : zCm mX9_cool := ⟨zT_of 1169 (by decide +kernel) rfl, zT_of 63 (by decide +kernel) rfl, by decide +kernel, by decide, by decide +kernel⟩
theorem zPV_X9_cool : zPV mX9_cool 1 9 := ⟨zCm_X9_cool, ⟨zT_of 1167 (by decide +kernel) rfl, zT_of 1168 (by decide +kernel) rfl⟩, by unfold zNp; decide +kernel, by decide, rfl, rfl⟩
abbrev mX9_still : zMt := (yX9_still, cX9_still, 4, (some .int), 0, 0)
theorem zCm_X9_still : zCm mX9_still := ⟨zT_of 1184 (by decide +kernel) rfl, zT_of 63 (by decide +kernel) rfl, by decide +kernel, by decide, by decide +kernel⟩
theorem zPV_X9_still : zPV mX9_still 1 9 := ⟨zCm_X9_still, ⟨zT_of 1182 (by decide +kernel) rfl, zT_of 1183 (by decide +kernel) rfl⟩, by unfold zNp; decide +kernel, by decide, rfl, rfl⟩
abbrev mX9_warmth : zMt := (yX9_warmth, cX9_warmth, 2, (some .int), 0, 0)
theorem zCm_X9_warmth : zCm mX9_warmth := ⟨zT_of 1188 (by decide +kernel) rfl, zT_of 63 (by decide +kernel) rfl, by decide +kernel, by decide, by decide +kernel⟩
theorem zPV_X9_warmth : zPV mX9_warmth 1 9 := ⟨zCm_X9_warmth, ⟨zT_of 1186 (by decide +kernel) rfl, zT_of 1187 (by decide +kernel) rfl⟩, by unfold zNp; decide +kernel, by decide, rfl, rfl⟩
abbrev mX9_grit : zMt := (yX9_grit, cX9_grit, 3, (some .int), 0, 0)
theorem zCm_X9_grit : zCm mX9_grit := ⟨zT_of 1192 (by decide +kernel) rfl, zT_of 63 (by decide +kernel) rfl, by decide +kernel, by decide, by decide +kernel⟩
theorem zPV_X9_grit : zPV mX9_grit 2 9 := ⟨zCm_X9_grit, ⟨zT_of 1190 (by decide +kernel) rfl, zT_of 1191 (by decide +kernel) rfl⟩, by unfold zNp; decide +kernel, by decide, rfl, rfl⟩
abbrev mX9_slack : zMt := (yX9_slack, cX9_slack, 3, (some .int), 0, 0)
theorem zCm_X9_slack : zCm mX9_slack := ⟨zT_of 1196 (by decide +kernel) rfl, zT_of 63 (by decide +kernel) rfl, by decide +kernel, by decide, by decide +kernel⟩
theorem zPV_X9_slack : zPV mX9_slack 1 9 := ⟨zCm_X9_slack, ⟨zT_of 1194 (by decide +kernel) rfl, zT_of 1195 (by decide +kernel) rfl⟩, by unfold zNp; decide +kernel, by decide, rfl, rfl⟩
abbrev mX9_cell : zMt := (yX9_cell, cX9_cell, 3, (some .int), 0, 0)
theorem zCm_X9_cell : zCm mX9_cell := ⟨zT_of 1211 (by decide +kernel) rfl, zT_of 63 (by decide +kernel) rfl, by decide +kernel, by decide, by decide +kernel⟩
theorem zPS_X9_cell : zPS mX9_cell 3 := ⟨zCm_X9_cell, zT_of 1210 (by decide +kernel) rfl, by unfold zNp; decide +kernel, rfl⟩
abbrev mX9_with : zMt := (yX9_with, cX9_with, 7, (some .int), 0, 0)
theorem zCm_X9_with : zCm mX9_with := ⟨zT_of 1208 (by decide +kernel) rfl, zT_of 63 (by decide +kernel) rfl, by decide +kernel, by decide, by decide +kernel⟩
theorem zPV_X9_with : zPV mX9_with 5 9 := ⟨zCm_X9_with, ⟨zT_of 1207 (by decide +kernel) rfl, zT_of 51 (by decide +kernel) rfl⟩, by unfold zNp; decide +kernel, by decide, rfl, rfl⟩
abbrev mX9_wetsBy : zMt := (yX9_wetsBy, cX9_wetsBy, 9, none, 0, 0)
theorem zCm_X9_wetsBy : zCm mX9_wetsBy := ⟨zT_of 1204 (by decide +kernel) rfl, zT_of 63 (by decide +kernel) rfl, by decide +kernel, by decide, by decide +kernel⟩
theorem zPV_X9_wetsBy : zPV mX9_wetsBy 1 9 := ⟨zCm_X9_wetsBy, ⟨zT_of 1203 (by decide +kernel) rfl, zT_of 50 (by decide +kernel) rfl⟩, by unfold zNp; decide +kernel, by decide, rfl, rfl⟩
abbrev mX9_wets : zMt := (yX9_wets, cX9_wets, 8, (some .int), 0, 0)
theorem zCm_X9_wets : zCm mX9_wets := ⟨zT_of 1200 (by decide +kernel) rfl, zT_of 63 (by decide +kernel) rfl, by decide +kernel, by decide, by decide +kernel⟩
theorem zPV_X9_wets : zPV mX9_wets 2 9 := ⟨zCm_X9_wets, ⟨zT_of 1198 (by decide +kernel) rfl, zT_of 1199 (by decide +kernel) rfl⟩, by unfold zNp; decide +kernel, by decide, rfl, rfl⟩
abbrev mX9_count : zMt := (yX9_count, cX9_count, 5, (some .int), 0, 0)
theorem zCm_X9_count : zCm mX9_count := ⟨zT_of 1215 (by decide +kernel) rfl, zT_of 63 (by decide +kernel) rfl, by decide +kernel, by decide, by decide +kernel⟩
theorem zPV_X9_count : zPV mX9_count 1 9 := ⟨zCm_X9_count, ⟨zT_of 1213 (by decide +kernel) rfl, zT_of 1214 (by decide +kernel) rfl⟩, by unfold zNp; decide +kernel, by decide, rfl, rfl⟩
abbrev mJ6_bitCount_0f7a4 : zMt := (yJ6_bitCount_0f7a4, cJ6_bitCount_0f7a4, 1, (some .int), 0, 0)
theorem zCm_J6_bitCount_0f7a4 : zCm mJ6_bitCount_0f7a4 := ⟨zT_of 473 (by decide +kernel) rfl, zT_of 66 (by decide +kernel) rfl, by decide +kernel, by decide, by decide +kernel⟩
theorem zPS_J6_bitCount_0f7a4 : zPS mJ6_bitCount_0f7a4 1 := ⟨zCm_J6_bitCount_0f7a4, zT_of 472 (by decide +kernel) rfl, by unfold zNp; decide +kernel, rfl⟩
abbrev mJ9_floorDiv_7cf53 : zMt := (yJ9_floorDiv_7cf53, cJ9_floorDiv_7cf53, 3, (some .int), 0, 0)
theorem zCm_J9_floorDiv_7cf53 : zCm mJ9_floorDiv_7cf53 := ⟨zT_of 773 (by decide +kernel) rfl, zT_of 65 (by decide +kernel) rfl, by decide +kernel, by decide, by decide +kernel⟩
theorem zPS_J9_floorDiv_7cf53 : zPS mJ9_floorDiv_7cf53 2 := ⟨zCm_J9_floorDiv_7cf53, zT_of 772 (by decide +kernel) rfl, by unfold zNp; decide +kernel, rfl⟩
abbrev mJ9_abs_0f7a4 : zMt := (yJ9_abs_0f7a4, cJ9_abs_0f7a4, 1, (some .int), 0, 0)
theorem zCm_J9_abs_0f7a4 : zCm mJ9_abs_0f7a4 := ⟨zT_of 462 (by decide +kernel) rfl, zT_of 65 (by decide +kernel) rfl, by decide +kernel, by decide, by decide +kernel⟩
theorem zPS_J9_abs_0f7a4 : zPS mJ9_abs_0f7a4 1 := ⟨zCm_J9_abs_0f7a4, zT_of 461 (by decide +kernel) rfl, by unfold zNp; decide +kernel, rfl⟩
abbrev mJ9_abs_067f4 : zMt := (yJ9_abs_067f4, cJ9_abs_067f4, 2, (some .long), 0, 0)
theorem zCm_J9_abs_067f4 : zCm mJ9_abs_067f4 := ⟨zT_of 392 (by decide +kernel) rfl, zT_of 65 (by decide +kernel) rfl, by decide +kernel, by decide, by decide +kernel⟩
theorem zPS_J9_abs_067f4 : zPS mJ9_abs_067f4 1 := ⟨zCm_J9_abs_067f4, zT_of 391 (by decide +kernel) rfl, by unfold zNp; decide +kernel, rfl⟩
abbrev mJ9_max_7cf53 : zMt := (yJ9_max_7cf53, cJ9_max_7cf53, 2, (some .int), 0, 0)
theorem zCm_J9_max_7cf53 : zCm mJ9_max_7cf53 := ⟨zT_of 738 (by decide +kernel) rfl, zT_of 65 (by decide +kernel) rfl, by decide +kernel, by decide, by decide +kernel⟩
theorem zPS_J9_max_7cf53 : zPS mJ9_max_7cf53 2 := ⟨zCm_J9_max_7cf53, zT_of 737 (by decide +kernel) rfl, by unfold zNp; decide +kernel, rfl⟩
abbrev mJ9_min_7cf53 : zMt := (yJ9_min_7cf53, cJ9_min_7cf53, 2, (some .int), 0, 0)
theorem zCm_J9_min_7cf53 : zCm mJ9_min_7cf53 := ⟨zT_of 669 (by decide +kernel) rfl, zT_of 65 (by decide +kernel) rfl, by decide +kernel, by decide, by decide +kernel⟩
theorem zPS_J9_min_7cf53 : zPS mJ9_min_7cf53 2 := ⟨zCm_J9_min_7cf53, zT_of 668 (by decide +kernel) rfl, by unfold zNp; decide +kernel, rfl⟩
abbrev mJ7_fill_53178 : zMt := (yJ7_fill_53178, cJ7_fill_53178, 4, none, 0, 0)
theorem zCm_J7_fill_53178 : zCm mJ7_fill_53178 := ⟨zT_of 105 (by decide +kernel) rfl, zT_of 56 (by decide +kernel) rfl, by decide +kernel, by decide, by decide +kernel⟩
theorem zPS_J7_fill_53178 : zPS mJ7_fill_53178 2 := ⟨zCm_J7_fill_53178, zT_of 104 (by decide +kernel) rfl, by unfold zNp; decide +kernel, rfl⟩
theorem zLk_L_9 : Cond.methodLink RL 9 mX8_init.1 ∈ zT := zT_of 69 (by decide +kernel) rfl
theorem zLk_X8_3 : Cond.methodLink RX8 3 objectInit ∈ zT := zT_of 72 (by decide +kernel) rfl
theorem zLn_X8_11 : Cond.methodLinkNest RX8 11 mX1_init.1 RX8 ∈ zNest := by decide +kernel
theorem zLk_X1_3 : Cond.methodLink RX1 3 objectInit ∈ zT := zT_of 80 (by decide +kernel) rfl
theorem zLk_X8_18 : Cond.methodLink RX8 18 mX3_init.1 ∈ zT := zT_of 93 (by decide +kernel) rfl
theorem zLk_X3_3 : Cond.methodLink RX3 3 objectInit ∈ zT := zT_of 96 (by decide +kernel) rfl
theorem zLk_X3_39 : Cond.methodLink RX3 39 mX3_begin.1 ∈ zT := zT_of 99 (by decide +kernel) rfl
theorem zLk_X3_46 : Cond.methodLink RX3 46 mJ7_fill_53178.1 ∈ zT := zT_of 103 (by decide +kernel) rfl
theorem zLk_X8_25 : Cond.methodLink RX8 25 mX7_init.1 ∈ zT := zT_of 146 (by decide +kernel) rfl
theorem zLk_X7_3 : Cond.methodLink RX7 3 objectInit ∈ zT := zT_of 149 (by decide +kernel) rfl
theorem zLn_X8_34 : Cond.methodLinkNest RX8 34 mX0_init.1 RX8 ∈ zNest := by decide +kernel
theorem zLk_X0_3 : Cond.methodLink RX0 3 objectInit ∈ zT := zT_of 171 (by decide +kernel) rfl
theorem zLk_X8_41 : Cond.methodLink RX8 41 mX4_init.1 ∈ zT := zT_of 209 (by decide +kernel) rfl
theorem zLk_X4_5 : Cond.methodLink RX4 5 objectInit ∈ zT := zT_of 212 (by decide +kernel) rfl
theorem zLk_X4_36 : Cond.methodLink RX4 36 mJ7_fill_53178.1 ∈ zT := zT_of 214 (by decide +kernel) rfl
theorem zLn_X8_50 : Cond.methodLinkNest RX8 50 mX5_init.1 RX8 ∈ zNest := by decide +kernel
theorem zLk_X5_3 : Cond.methodLink RX5 3 objectInit ∈ zT := zT_of 248 (by decide +kernel) rfl
theorem zLn_X8_57 : Cond.methodLinkNest RX8 57 mX6_init.1 RX8 ∈ zNest := by decide +kernel
theorem zLk_X6_3 : Cond.methodLink RX6 3 objectInit ∈ zT := zT_of 277 (by decide +kernel) rfl
theorem zLn_X8_64 : Cond.methodLinkNest RX8 64 mX2_init.1 RX8 ∈ zNest := by decide +kernel
theorem zLk_X2_3 : Cond.methodLink RX2 3 objectInit ∈ zT := zT_of 293 (by decide +kernel) rfl
theorem zLk_L_13 : Cond.methodLink RL 13 mX8_disc.1 ∈ zT := zT_of 342 (by decide +kernel) rfl
theorem zLk_X8_73 : Cond.methodLink RX8 73 mX8_within.1 ∈ zT := zT_of 346 (by decide +kernel) rfl
theorem zLk_X8_77 : Cond.methodLink RX8 77 mX3_begin.1 ∈ zT := zT_of 349 (by decide +kernel) rfl
theorem zLk_X8_81 : Cond.methodLink RX8 81 mX7_begin.1 ∈ zT := zT_of 350 (by decide +kernel) rfl
theorem zLk_X8_83 : Cond.methodLink RX8 83 mX0_begin.1 ∈ zT := zT_of 354 (by decide +kernel) rfl
theorem zLk_X0_48 : Cond.methodLink RX0 48 mJ7_fill_53178.1 ∈ zT := zT_of 358 (by decide +kernel) rfl
theorem zLk_X0_54 : Cond.methodLink RX0 54 mX0_keepAsTold.1 ∈ zT := zT_of 359 (by decide +kernel) rfl
theorem zLk_X0_57 : Cond.methodLink RX0 57 arraycopyName ∈ zT := zT_of 363 (by decide +kernel) rfl
theorem zLk_X8_84 : Cond.methodLink RX8 84 mX5_begin.1 ∈ zT := zT_of 366 (by decide +kernel) rfl
theorem zLk_X5_34 : Cond.methodLink RX5 34 mJ7_fill_53178.1 ∈ zT := zT_of 370 (by decide +kernel) rfl
theorem zLk_L_18 : Cond.methodLink RL 18 mX8_aim.1 ∈ zT := zT_of 371 (by decide +kernel) rfl
theorem zLk_X8_85 : Cond.methodLink RX8 85 mX1_become.1 ∈ zT := zT_of 375 (by decide +kernel) rfl
theorem zLk_L_23 : Cond.methodLink RL 23 mX8_depth.1 ∈ zT := zT_of 379 (by decide +kernel) rfl
theorem zLk_X8_91 : Cond.methodLink RX8 91 mX1_depthAt.1 ∈ zT := zT_of 384 (by decide +kernel) rfl
theorem zLk_X1_25 : Cond.methodLink RX1 25 mJ9_abs_067f4.1 ∈ zT := zT_of 390 (by decide +kernel) rfl
theorem zLk_X1_31 : Cond.methodLink RX1 31 mX1_sharedDivisor.1 ∈ zT := zT_of 393 (by decide +kernel) rfl
theorem zLk_L_28 : Cond.methodLink RL 28 mX8_height.1 ∈ zT := zT_of 397 (by decide +kernel) rfl
theorem zLk_X8_95 : Cond.methodLink RX8 95 mX8_isZone.1 ∈ zT := zT_of 401 (by decide +kernel) rfl
theorem zLk_X8_102 : Cond.methodLink RX8 102 mX0_tellHeight.1 ∈ zT := zT_of 408 (by decide +kernel) rfl
theorem zLk_L_33 : Cond.methodLink RL 33 mX8_at.1 ∈ zT := zT_of 412 (by decide +kernel) rfl
theorem zLk_X8_106 : Cond.methodLink RX8 106 mX0_heightOf.1 ∈ zT := zT_of 416 (by decide +kernel) rfl
theorem zLk_L_37 : Cond.methodLink RL 37 mX8_read.1 ∈ zT := zT_of 420 (by decide +kernel) rfl
theorem zLk_X8_110 : Cond.methodLink RX8 110 mX8_isStep.1 ∈ zT := zT_of 424 (by decide +kernel) rfl
theorem zLk_X8_113 : Cond.methodLink RX8 113 mX3_tellReading.1 ∈ zT := zT_of 428 (by decide +kernel) rfl
theorem zLk_L_41 : Cond.methodLink RL 41 mX8_lie.1 ∈ zT := zT_of 432 (by decide +kernel) rfl
theorem zLk_X8_117 : Cond.methodLink RX8 117 mX3_tellLie.1 ∈ zT := zT_of 436 (by decide +kernel) rfl
theorem zLk_L_45 : Cond.methodLink RL 45 mX8_joined.1 ∈ zT := zT_of 440 (by decide +kernel) rfl
theorem zLk_X8_120 : Cond.methodLink RX8 120 mX3_howManyDropped.1 ∈ zT := zT_of 444 (by decide +kernel) rfl
theorem zLk_X3_56 : Cond.methodLink RX3 56 mX3_settle.1 ∈ zT := zT_of 448 (by decide +kernel) rfl
theorem zLk_X3_66 : Cond.methodLink RX3 66 mX3_settleAgreements.1 ∈ zT := zT_of 452 (by decide +kernel) rfl
theorem zLk_X3_79 : Cond.methodLink RX3 79 mX3_stepsOfAgreement.1 ∈ zT := zT_of 456 (by decide +kernel) rfl
theorem zLk_X3_83 : Cond.methodLink RX3 83 mJ9_abs_0f7a4.1 ∈ zT := zT_of 460 (by decide +kernel) rfl
theorem zLk_X3_69 : Cond.methodLink RX3 69 mX3_settleShifts.1 ∈ zT := zT_of 463 (by decide +kernel) rfl
theorem zLk_X3_88 : Cond.methodLink RX3 88 mX3_keptMore.1 ∈ zT := zT_of 467 (by decide +kernel) rfl
theorem zLk_X3_99 : Cond.methodLink RX3 99 mJ6_bitCount_0f7a4.1 ∈ zT := zT_of 471 (by decide +kernel) rfl
theorem zLk_X3_92 : Cond.methodLink RX3 92 mX3_howManyTold.1 ∈ zT := zT_of 477 (by decide +kernel) rfl
theorem zLk_X3_96 : Cond.methodLink RX3 96 mX3_stepsTold.1 ∈ zT := zT_of 481 (by decide +kernel) rfl
theorem zLk_X3_72 : Cond.methodLink RX3 72 mX3_leastStep.1 ∈ zT := zT_of 485 (by decide +kernel) rfl
theorem zLk_X3_104 : Cond.methodLink RX3 104 mX3_servedBy.1 ∈ zT := zT_of 489 (by decide +kernel) rfl
theorem zLk_X3_76 : Cond.methodLink RX3 76 mX3_settleProfiles.1 ∈ zT := zT_of 493 (by decide +kernel) rfl
theorem zLk_X8_124 : Cond.methodLink RX8 124 mX3_shiftOf.1 ∈ zT := zT_of 497 (by decide +kernel) rfl
theorem zLk_L_49 : Cond.methodLink RL 49 mX8_step.1 ∈ zT := zT_of 501 (by decide +kernel) rfl
theorem zLk_X8_127 : Cond.methodLink RX8 127 mX3_stepOf.1 ∈ zT := zT_of 505 (by decide +kernel) rfl
theorem zLk_L_53 : Cond.methodLink RL 53 mX8_profile.1 ∈ zT := zT_of 509 (by decide +kernel) rfl
theorem zLk_X8_130 : Cond.methodLink RX8 130 mX3_profileOf.1 ∈ zT := zT_of 513 (by decide +kernel) rfl
theorem zLk_L_57 : Cond.methodLink RL 57 mX8_wire.1 ∈ zT := zT_of 519 (by decide +kernel) rfl
theorem zLk_X8_134 : Cond.methodLink RX8 134 mX7_howMany.1 ∈ zT := zT_of 523 (by decide +kernel) rfl
theorem zLk_X8_137 : Cond.methodLink RX8 137 mX7_hold.1 ∈ zT := zT_of 527 (by decide +kernel) rfl
theorem zLk_L_61 : Cond.methodLink RL 61 mX8_wires.1 ∈ zT := zT_of 531 (by decide +kernel) rfl
theorem zLk_X8_140 : Cond.methodLink RX8 140 mX7_howManyOf.1 ∈ zT := zT_of 535 (by decide +kernel) rfl
theorem zLk_X7_29 : Cond.methodLink RX7 29 mX7_offBy.1 ∈ zT := zT_of 539 (by decide +kernel) rfl
theorem zLk_X7_45 : Cond.methodLink RX7 45 mX3_profileOf.1 ∈ zT := zT_of 543 (by decide +kernel) rfl
theorem zLk_X7_33 : Cond.methodLink RX7 33 mJ9_abs_0f7a4.1 ∈ zT := zT_of 545 (by decide +kernel) rfl
theorem zLk_X7_38 : Cond.methodLink RX7 38 mX3_lieOf.1 ∈ zT := zT_of 546 (by decide +kernel) rfl
theorem zLk_X8_143 : Cond.methodLink RX8 143 mX7_offBy.1 ∈ zT := zT_of 550 (by decide +kernel) rfl
theorem zLk_L_65 : Cond.methodLink RL 65 mX8_pull.1 ∈ zT := zT_of 551 (by decide +kernel) rfl
theorem zLk_X8_146 : Cond.methodLink RX8 146 mX8_isTool.1 ∈ zT := zT_of 555 (by decide +kernel) rfl
theorem zLk_X8_149 : Cond.methodLink RX8 149 mX0_tellPull.1 ∈ zT := zT_of 558 (by decide +kernel) rfl
theorem zLk_L_69 : Cond.methodLink RL 69 mX8_rest.1 ∈ zT := zT_of 562 (by decide +kernel) rfl
theorem zLk_X8_152 : Cond.methodLink RX8 152 mX0_tellRest.1 ∈ zT := zT_of 566 (by decide +kernel) rfl
theorem zLk_L_73 : Cond.methodLink RL 73 mX8_stroke.1 ∈ zT := zT_of 570 (by decide +kernel) rfl
theorem zLk_X8_155 : Cond.methodLink RX8 155 mX0_wouldSink.1 ∈ zT := zT_of 574 (by decide +kernel) rfl
theorem zLk_X0_67 : Cond.methodLink RX0 67 mX0_isThere.1 ∈ zT := zT_of 578 (by decide +kernel) rfl
theorem zLn_X0_63 : Cond.methodLinkNest RX0 63 mX8_within.1 RX8 ∈ zNest := by decide +kernel
theorem zLk_X0_71 : Cond.methodLink RX0 71 mX0_pullOf.1 ∈ zT := zT_of 583 (by decide +kernel) rfl
theorem zLk_X8_159 : Cond.methodLink RX8 159 mX0_roomLeft.1 ∈ zT := zT_of 589 (by decide +kernel) rfl
theorem zLk_X8_163 : Cond.methodLink RX8 163 mX0_doStroke.1 ∈ zT := zT_of 594 (by decide +kernel) rfl
theorem zLk_L_77 : Cond.methodLink RL 77 mX8_undo.1 ∈ zT := zT_of 598 (by decide +kernel) rfl
theorem zLk_X8_166 : Cond.methodLink RX8 166 mX0_howMany.1 ∈ zT := zT_of 602 (by decide +kernel) rfl
theorem zLk_X8_167 : Cond.methodLink RX8 167 mX0_undoLatest.1 ∈ zT := zT_of 606 (by decide +kernel) rfl
theorem zLk_L_82 : Cond.methodLink RL 82 mX8_replay.1 ∈ zT := zT_of 610 (by decide +kernel) rfl
theorem zLk_X8_170 : Cond.methodLink RX8 170 mX0_replayed.1 ∈ zT := zT_of 614 (by decide +kernel) rfl
theorem zLk_L_86 : Cond.methodLink RL 86 mX8_plan.1 ∈ zT := zT_of 618 (by decide +kernel) rfl
theorem zLk_X8_173 : Cond.methodLink RX8 173 mX4_hasPlan.1 ∈ zT := zT_of 622 (by decide +kernel) rfl
theorem zLk_X4_42 : Cond.methodLink RX4 42 mX4_settle.1 ∈ zT := zT_of 626 (by decide +kernel) rfl
theorem zLk_X4_56 : Cond.methodLink RX4 56 mX0_howManyChanges.1 ∈ zT := zT_of 630 (by decide +kernel) rfl
theorem zLk_X4_60 : Cond.methodLink RX4 60 mX4_begin.1 ∈ zT := zT_of 634 (by decide +kernel) rfl
theorem zLk_X4_71 : Cond.methodLink RX4 71 mX0_howManyZones.1 ∈ zT := zT_of 638 (by decide +kernel) rfl
theorem zLk_X4_74 : Cond.methodLink RX4 74 mX0_restOf.1 ∈ zT := zT_of 642 (by decide +kernel) rfl
theorem zLk_X4_80 : Cond.methodLink RX4 80 mX0_heightOf.1 ∈ zT := zT_of 646 (by decide +kernel) rfl
theorem zLk_X4_84 : Cond.methodLink RX4 84 mX0_pullOf.1 ∈ zT := zT_of 647 (by decide +kernel) rfl
theorem zLk_X4_63 : Cond.methodLink RX4 63 mX4_costFrom.1 ∈ zT := zT_of 648 (by decide +kernel) rfl
theorem zLk_X4_97 : Cond.methodLink RX4 97 mX4_leastCost.1 ∈ zT := zT_of 652 (by decide +kernel) rfl
theorem zLk_X4_87 : Cond.methodLink RX4 87 mX4_leftAt.1 ∈ zT := zT_of 656 (by decide +kernel) rfl
theorem zLk_X4_90 : Cond.methodLink RX4 90 mX4_costWith.1 ∈ zT := zT_of 660 (by decide +kernel) rfl
theorem zLk_X4_94 : Cond.methodLink RX4 94 mX4_stateBehind.1 ∈ zT := zT_of 664 (by decide +kernel) rfl
theorem zLk_X4_100 : Cond.methodLink RX4 100 mJ9_min_7cf53.1 ∈ zT := zT_of 667 (by decide +kernel) rfl
theorem zLk_X4_67 : Cond.methodLink RX4 67 mX4_traceMinutes.1 ∈ zT := zT_of 670 (by decide +kernel) rfl
theorem zLk_X8_176 : Cond.methodLink RX8 176 mX4_together.1 ∈ zT := zT_of 674 (by decide +kernel) rfl
theorem zLk_X8_179 : Cond.methodLink RX8 179 mX4_minutesAt.1 ∈ zT := zT_of 678 (by decide +kernel) rfl
theorem zLk_L_90 : Cond.methodLink RL 90 mX8_right.1 ∈ zT := zT_of 682 (by decide +kernel) rfl
theorem zLk_X8_182 : Cond.methodLink RX8 182 mX4_rightZones.1 ∈ zT := zT_of 686 (by decide +kernel) rfl
theorem zLk_L_94 : Cond.methodLink RL 94 mX8_work.1 ∈ zT := zT_of 690 (by decide +kernel) rfl
theorem zLk_X8_185 : Cond.methodLink RX8 185 mX4_strokesOf.1 ∈ zT := zT_of 694 (by decide +kernel) rfl
theorem zLk_X8_188 : Cond.methodLink RX8 188 mX4_carryOut.1 ∈ zT := zT_of 698 (by decide +kernel) rfl
theorem zLk_X4_50 : Cond.methodLink RX4 50 mX0_doStroke.1 ∈ zT := zT_of 702 (by decide +kernel) rfl
theorem zLk_L_98 : Cond.methodLink RL 98 mX8_bend.1 ∈ zT := zT_of 703 (by decide +kernel) rfl
theorem zLk_X8_191 : Cond.methodLink RX8 191 mX5_tellBend.1 ∈ zT := zT_of 707 (by decide +kernel) rfl
theorem zLk_L_102 : Cond.methodLink RL 102 mX8_bear.1 ∈ zT := zT_of 711 (by decide +kernel) rfl
theorem zLk_X8_194 : Cond.methodLink RX8 194 mX5_leastSpread.1 ∈ zT := zT_of 715 (by decide +kernel) rfl
theorem zLk_X5_40 : Cond.methodLink RX5 40 mX5_settle.1 ∈ zT := zT_of 719 (by decide +kernel) rfl
theorem zLk_X5_46 : Cond.methodLink RX5 46 mX5_place.1 ∈ zT := zT_of 723 (by decide +kernel) rfl
theorem zLk_X5_50 : Cond.methodLink RX5 50 mX5_keepIfBetter.1 ∈ zT := zT_of 727 (by decide +kernel) rfl
theorem zLk_X5_58 : Cond.methodLink RX5 58 mX5_spreadOf.1 ∈ zT := zT_of 731 (by decide +kernel) rfl
theorem zLk_X5_62 : Cond.methodLink RX5 62 mJ9_min_7cf53.1 ∈ zT := zT_of 735 (by decide +kernel) rfl
theorem zLk_X5_68 : Cond.methodLink RX5 68 mJ9_max_7cf53.1 ∈ zT := zT_of 736 (by decide +kernel) rfl
theorem zLk_X5_54 : Cond.methodLink RX5 54 mX5_placeShare.1 ∈ zT := zT_of 739 (by decide +kernel) rfl
theorem zLk_X8_197 : Cond.methodLink RX8 197 mX5_shareOf.1 ∈ zT := zT_of 743 (by decide +kernel) rfl
theorem zLk_L_106 : Cond.methodLink RL 106 mX8_warm.1 ∈ zT := zT_of 747 (by decide +kernel) rfl
theorem zLk_X8_200 : Cond.methodLink RX8 200 mX6_tellWarmth.1 ∈ zT := zT_of 751 (by decide +kernel) rfl
theorem zLk_X6_22 : Cond.methodLink RX6 22 mX6_warmthOf.1 ∈ zT := zT_of 755 (by decide +kernel) rfl
theorem zLk_L_110 : Cond.methodLink RL 110 mX8_cool.1 ∈ zT := zT_of 759 (by decide +kernel) rfl
theorem zLk_X8_203 : Cond.methodLink RX8 203 mX6_letGoBy.1 ∈ zT := zT_of 763 (by decide +kernel) rfl
theorem zLk_X6_26 : Cond.methodLink RX6 26 mX6_goOneMinute.1 ∈ zT := zT_of 767 (by decide +kernel) rfl
theorem zLk_X6_43 : Cond.methodLink RX6 43 mJ9_floorDiv_7cf53.1 ∈ zT := zT_of 771 (by decide +kernel) rfl
theorem zLk_X6_30 : Cond.methodLink RX6 30 mX6_greatest.1 ∈ zT := zT_of 774 (by decide +kernel) rfl
theorem zLk_X6_49 : Cond.methodLink RX6 49 mJ9_max_7cf53.1 ∈ zT := zT_of 777 (by decide +kernel) rfl
theorem zLk_X6_34 : Cond.methodLink RX6 34 mX6_least.1 ∈ zT := zT_of 778 (by decide +kernel) rfl
theorem zLk_X6_52 : Cond.methodLink RX6 52 mJ9_min_7cf53.1 ∈ zT := zT_of 781 (by decide +kernel) rfl
theorem zLk_L_114 : Cond.methodLink RL 114 mX8_still.1 ∈ zT := zT_of 782 (by decide +kernel) rfl
theorem zLk_X8_206 : Cond.methodLink RX8 206 mX6_minutesTillStill.1 ∈ zT := zT_of 786 (by decide +kernel) rfl
theorem zLk_X6_37 : Cond.methodLink RX6 37 arraycopyName ∈ zT := zT_of 790 (by decide +kernel) rfl
theorem zLk_L_118 : Cond.methodLink RL 118 mX8_warmth.1 ∈ zT := zT_of 791 (by decide +kernel) rfl
theorem zLk_X8_209 : Cond.methodLink RX8 209 mX6_warmthOf.1 ∈ zT := zT_of 795 (by decide +kernel) rfl
theorem zLk_L_122 : Cond.methodLink RL 122 mX8_grit.1 ∈ zT := zT_of 796 (by decide +kernel) rfl
theorem zLk_X8_212 : Cond.methodLink RX8 212 mX2_howMany.1 ∈ zT := zT_of 800 (by decide +kernel) rfl
theorem zLk_X8_213 : Cond.methodLink RX8 213 mX2_come.1 ∈ zT := zT_of 804 (by decide +kernel) rfl
theorem zLk_L_126 : Cond.methodLink RL 126 mX8_slack.1 ∈ zT := zT_of 808 (by decide +kernel) rfl
theorem zLk_X8_216 : Cond.methodLink RX8 216 mX2_tellSlack.1 ∈ zT := zT_of 812 (by decide +kernel) rfl
theorem zLk_L_130 : Cond.methodLink RL 130 mX8_wets.1 ∈ zT := zT_of 816 (by decide +kernel) rfl
theorem zLk_X8_219 : Cond.methodLink RX8 219 mX2_fewestFor.1 ∈ zT := zT_of 820 (by decide +kernel) rfl
theorem zLk_X2_34 : Cond.methodLink RX2 34 mX2_settle.1 ∈ zT := zT_of 824 (by decide +kernel) rfl
theorem zLk_X2_62 : Cond.methodLink RX2 62 mJ7_fill_53178.1 ∈ zT := zT_of 828 (by decide +kernel) rfl
theorem zLk_X2_68 : Cond.methodLink RX2 68 mX2_bring.1 ∈ zT := zT_of 829 (by decide +kernel) rfl
theorem zLk_X2_72 : Cond.methodLink RX2 72 mX2_bringFrom.1 ∈ zT := zT_of 833 (by decide +kernel) rfl
theorem zLk_X2_49 : Cond.methodLink RX2 49 mX2_clears.1 ∈ zT := zT_of 837 (by decide +kernel) rfl
theorem zLk_X2_59 : Cond.methodLink RX2 59 mJ9_min_7cf53.1 ∈ zT := zT_of 841 (by decide +kernel) rfl
theorem zLk_X2_37 : Cond.methodLink RX2 37 mX2_fewestWithin.1 ∈ zT := zT_of 842 (by decide +kernel) rfl
theorem zLk_X2_53 : Cond.methodLink RX2 53 mJ9_max_7cf53.1 ∈ zT := zT_of 846 (by decide +kernel) rfl
theorem zLk_X8_222 : Cond.methodLink RX8 222 mX2_wetsOf.1 ∈ zT := zT_of 847 (by decide +kernel) rfl
theorem zLk_X2_41 : Cond.methodLink RX2 41 mX2_fewestFor.1 ∈ zT := zT_of 851 (by decide +kernel) rfl
theorem zLk_X2_45 : Cond.methodLink RX2 45 mX2_mostThatServe.1 ∈ zT := zT_of 852 (by decide +kernel) rfl
theorem zLk_L_134 : Cond.methodLink RL 134 mX8_count.1 ∈ zT := zT_of 856 (by decide +kernel) rfl
theorem zLk_X8_225 : Cond.methodLink RX8 225 mX3_howManyTold.1 ∈ zT := zT_of 860 (by decide +kernel) rfl
theorem zLk_X8_228 : Cond.methodLink RX8 228 mX0_minutesTogether.1 ∈ zT := zT_of 861 (by decide +kernel) rfl
theorem zLk_L_12 : Cond.methodLink RL 12 mX9_init.1 ∈ zT := zT_of 867 (by decide +kernel) rfl
theorem zLk_X9_1 : Cond.methodLink RX9 1 objectInit ∈ zT := zT_of 870 (by decide +kernel) rfl
theorem zLk_X9_106 : Cond.methodLink RX9 106 mX9_begins.1 ∈ zT := zT_of 872 (by decide +kernel) rfl
theorem zLk_L_17 : Cond.methodLink RL 17 mX9_disc.1 ∈ zT := zT_of 989 (by decide +kernel) rfl
theorem zLk_X9_116 : Cond.methodLink RX9 116 mX9_in.1 ∈ zT := zT_of 993 (by decide +kernel) rfl
theorem zLk_L_22 : Cond.methodLink RL 22 mX9_aim.1 ∈ zT := zT_of 996 (by decide +kernel) rfl
theorem zLk_L_27 : Cond.methodLink RL 27 mX9_depth.1 ∈ zT := zT_of 1000 (by decide +kernel) rfl
theorem zLk_X9_126 : Cond.methodLink RX9 126 mX9_common.1 ∈ zT := zT_of 1007 (by decide +kernel) rfl
theorem zLk_L_32 : Cond.methodLink RL 32 mX9_height.1 ∈ zT := zT_of 1010 (by decide +kernel) rfl
theorem zLk_X9_130 : Cond.methodLink RX9 130 mX9_isZone.1 ∈ zT := zT_of 1014 (by decide +kernel) rfl
theorem zLk_L_36 : Cond.methodLink RL 36 mX9_at.1 ∈ zT := zT_of 1021 (by decide +kernel) rfl
theorem zLk_L_40 : Cond.methodLink RL 40 mX9_read.1 ∈ zT := zT_of 1025 (by decide +kernel) rfl
theorem zLk_L_44 : Cond.methodLink RL 44 mX9_lie.1 ∈ zT := zT_of 1029 (by decide +kernel) rfl
theorem zLk_L_48 : Cond.methodLink RL 48 mX9_joined.1 ∈ zT := zT_of 1033 (by decide +kernel) rfl
theorem zLk_X9_158 : Cond.methodLink RX9 158 mX9_joins.1 ∈ zT := zT_of 1037 (by decide +kernel) rfl
theorem zLk_X9_155 : Cond.methodLink RX9 155 mX9_dropped.1 ∈ zT := zT_of 1041 (by decide +kernel) rfl
theorem zLk_X9_137 : Cond.methodLink RX9 137 mX9_isRead.1 ∈ zT := zT_of 1045 (by decide +kernel) rfl
theorem zLk_X9_141 : Cond.methodLink RX9 141 mX9_shifted.1 ∈ zT := zT_of 1049 (by decide +kernel) rfl
theorem zLk_X9_152 : Cond.methodLink RX9 152 mX9_holds.1 ∈ zT := zT_of 1053 (by decide +kernel) rfl
theorem zLk_X9_145 : Cond.methodLink RX9 145 mX9_size.1 ∈ zT := zT_of 1057 (by decide +kernel) rfl
theorem zLk_L_52 : Cond.methodLink RL 52 mX9_step.1 ∈ zT := zT_of 1060 (by decide +kernel) rfl
theorem zLk_L_56 : Cond.methodLink RL 56 mX9_profile.1 ∈ zT := zT_of 1064 (by decide +kernel) rfl
theorem zLk_X9_164 : Cond.methodLink RX9 164 mX9_profileOf.1 ∈ zT := zT_of 1069 (by decide +kernel) rfl
theorem zLk_L_60 : Cond.methodLink RL 60 mX9_wire.1 ∈ zT := zT_of 1074 (by decide +kernel) rfl
theorem zLk_L_64 : Cond.methodLink RL 64 mX9_wires.1 ∈ zT := zT_of 1078 (by decide +kernel) rfl
theorem zLk_X9_167 : Cond.methodLink RX9 167 mX9_offOf.1 ∈ zT := zT_of 1082 (by decide +kernel) rfl
theorem zLk_L_68 : Cond.methodLink RL 68 mX9_pull.1 ∈ zT := zT_of 1086 (by decide +kernel) rfl
theorem zLk_L_72 : Cond.methodLink RL 72 mX9_rest.1 ∈ zT := zT_of 1090 (by decide +kernel) rfl
theorem zLk_L_76 : Cond.methodLink RL 76 mX9_stroke.1 ∈ zT := zT_of 1094 (by decide +kernel) rfl
theorem zLk_X9_170 : Cond.methodLink RX9 170 mX9_pullOf.1 ∈ zT := zT_of 1098 (by decide +kernel) rfl
theorem zLk_X9_175 : Cond.methodLink RX9 175 mX9_lays.1 ∈ zT := zT_of 1104 (by decide +kernel) rfl
theorem zLk_L_81 : Cond.methodLink RL 81 mX9_undo.1 ∈ zT := zT_of 1108 (by decide +kernel) rfl
theorem zLk_L_85 : Cond.methodLink RL 85 mX9_replay.1 ∈ zT := zT_of 1112 (by decide +kernel) rfl
theorem zLk_L_89 : Cond.methodLink RL 89 mX9_plan.1 ∈ zT := zT_of 1116 (by decide +kernel) rfl
theorem zLk_X9_195 : Cond.methodLink RX9 195 mX9_plans.1 ∈ zT := zT_of 1120 (by decide +kernel) rfl
theorem zLk_X9_192 : Cond.methodLink RX9 192 mX9_costs.1 ∈ zT := zT_of 1124 (by decide +kernel) rfl
theorem zLk_X9_182 : Cond.methodLink RX9 182 mX9_most.1 ∈ zT := zT_of 1128 (by decide +kernel) rfl
theorem zLk_X9_185 : Cond.methodLink RX9 185 mX9_isRight.1 ∈ zT := zT_of 1132 (by decide +kernel) rfl
theorem zLk_X9_179 : Cond.methodLink RX9 179 mX9_back.1 ∈ zT := zT_of 1136 (by decide +kernel) rfl
theorem zLk_X9_189 : Cond.methodLink RX9 189 mX9_next.1 ∈ zT := zT_of 1139 (by decide +kernel) rfl
theorem zLk_L_93 : Cond.methodLink RL 93 mX9_right.1 ∈ zT := zT_of 1142 (by decide +kernel) rfl
theorem zLk_L_97 : Cond.methodLink RL 97 mX9_work.1 ∈ zT := zT_of 1146 (by decide +kernel) rfl
theorem zLk_L_101 : Cond.methodLink RL 101 mX9_bend.1 ∈ zT := zT_of 1150 (by decide +kernel) rfl
theorem zLk_L_105 : Cond.methodLink RL 105 mX9_bear.1 ∈ zT := zT_of 1154 (by decide +kernel) rfl
theorem zLk_X9_201 : Cond.methodLink RX9 201 mX9_spreads.1 ∈ zT := zT_of 1158 (by decide +kernel) rfl
theorem zLk_L_109 : Cond.methodLink RL 109 mX9_warm.1 ∈ zT := zT_of 1162 (by decide +kernel) rfl
theorem zLk_L_113 : Cond.methodLink RL 113 mX9_cool.1 ∈ zT := zT_of 1166 (by decide +kernel) rfl
theorem zLk_X9_207 : Cond.methodLink RX9 207 mX9_passes.1 ∈ zT := zT_of 1170 (by decide +kernel) rfl
theorem zLk_X9_204 : Cond.methodLink RX9 204 mX9_down.1 ∈ zT := zT_of 1174 (by decide +kernel) rfl
theorem zLk_X9_210 : Cond.methodLink RX9 210 mX9_apart.1 ∈ zT := zT_of 1177 (by decide +kernel) rfl
theorem zLk_L_117 : Cond.methodLink RL 117 mX9_still.1 ∈ zT := zT_of 1181 (by decide +kernel) rfl
theorem zLk_L_121 : Cond.methodLink RL 121 mX9_warmth.1 ∈ zT := zT_of 1185 (by decide +kernel) rfl
theorem zLk_L_125 : Cond.methodLink RL 125 mX9_grit.1 ∈ zT := zT_of 1189 (by decide +kernel) rfl
theorem zLk_L_129 : Cond.methodLink RL 129 mX9_slack.1 ∈ zT := zT_of 1193 (by decide +kernel) rfl
theorem zLk_L_133 : Cond.methodLink RL 133 mX9_wets.1 ∈ zT := zT_of 1197 (by decide +kernel) rfl
theorem zLk_X9_227 : Cond.methodLink RX9 227 mX9_wetsBy.1 ∈ zT := zT_of 1201 (by decide +kernel) rfl
theorem zLk_X9_223 : Cond.methodLink RX9 223 mX9_with.1 ∈ zT := zT_of 1205 (by decide +kernel) rfl
theorem zLk_X9_219 : Cond.methodLink RX9 219 mX9_cell.1 ∈ zT := zT_of 1209 (by decide +kernel) rfl
theorem zLk_L_137 : Cond.methodLink RL 137 mX9_count.1 ∈ zT := zT_of 1212 (by decide +kernel) rfl
theorem zOb_i : Cond.instanceMethod objectInit ∈ zT := zT_of 73 (by decide +kernel) rfl
theorem zOb_c : Cond.code objectInit ⟨#[0xb1]⟩ 1 none ∈ zT := zT_of 74 (by decide +kernel) rfl
theorem zAc_i : Cond.initialized "java/lang/System" ∈ zT := zT_of 64 (by decide +kernel) rfl
theorem zAc_s : Cond.static arraycopyName ∈ zT := zT_of 364 (by decide +kernel) rfl
theorem zAc_n : Cond.native arraycopyName ∈ zT := zT_of 365 (by decide +kernel) rfl
theorem zK_0 : zK 0 = (8, 0) := by decide +kernel
theorem zKo_0 : (zK 0).1 = 8 := by decide +kernel
theorem zK_1 : zK 1 = (1, 0) := by decide +kernel
theorem zKo_1 : (zK 1).1 = 1 := by decide +kernel
theorem zK_2 : zK 2 = (3, 0) := by decide +kernel
theorem zKo_2 : (zK 2).1 = 3 := by decide +kernel
theorem zK_3 : zK 3 = (12, 3) := by decide +kernel
theorem zKin_3 : ∀ i, i < 3 → zK (3 + 1 + i) = (10, 15) := by decide +kernel
theorem zKlt_3 : ∀ i, i < 3 → 3 + 1 + i < 154 := fun i h => by omega
theorem zK_4 : zK 4 = (10, 15) := by decide +kernel
theorem zK_5 : zK 5 = (10, 15) := by decide +kernel
theorem zK_6 : zK 6 = (10, 15) := by decide +kernel
theorem zK_7 : zK 7 = (10, 3) := by decide +kernel
theorem zK_8 : zK 8 = (10, 15) := by decide +kernel
theorem zK_9 : zK 9 = (10, 16) := by decide +kernel
theorem zK_10 : zK 10 = (10, 41) := by decide +kernel
theorem zK_11 : zK 11 = (10, 41) := by decide +kernel
theorem zK_12 : zK 12 = (10, 81) := by decide +kernel
theorem zK_13 : zK 13 = (7, 0) := by decide +kernel
theorem zKo_13 : (zK 13).1 = 7 := by decide +kernel
theorem zK_14 : zK 14 = (10, 12) := by decide +kernel
theorem zK_15 : zK 15 = (10, 12) := by decide +kernel
theorem zK_16 : zK 16 = (10, 12) := by decide +kernel
theorem zK_17 : zK 17 = (0, 0) := by decide +kernel
theorem zKo_17 : (zK 17).1 = 0 := by decide +kernel
theorem zK_18 : zK 18 = (10, 16) := by decide +kernel
theorem zK_19 : zK 19 = (10, 16) := by decide +kernel
theorem zK_20 : zK 20 = (12, 3) := by decide +kernel
theorem zKin_20 : ∀ i, i < 3 → zK (20 + 1 + i) = (10, 5) := by decide +kernel
theorem zKlt_20 : ∀ i, i < 3 → 20 + 1 + i < 154 := fun i h => by omega
theorem zK_21 : zK 21 = (10, 5) := by decide +kernel
theorem zK_22 : zK 22 = (10, 5) := by decide +kernel
theorem zK_23 : zK 23 = (10, 5) := by decide +kernel
theorem zK_24 : zK 24 = (10, 60) := by decide +kernel
theorem zK_25 : zK 25 = (10, 60) := by decide +kernel
theorem zK_26 : zK 26 = (10, 60) := by decide +kernel
theorem zK_27 : zK 27 = (12, 60) := by decide +kernel
theorem zKin_27 : ∀ i, i < 60 → zK (27 + 1 + i) = (10, 5) := by decide +kernel
theorem zKlt_27 : ∀ i, i < 60 → 27 + 1 + i < 154 := fun i h => by omega
theorem zK_28 : zK 28 = (10, 5) := by decide +kernel
theorem zK_29 : zK 29 = (10, 5) := by decide +kernel
theorem zK_30 : zK 30 = (10, 5) := by decide +kernel
theorem zK_31 : zK 31 = (10, 5) := by decide +kernel
theorem zK_32 : zK 32 = (10, 5) := by decide +kernel
theorem zK_33 : zK 33 = (10, 5) := by decide +kernel
theorem zK_34 : zK 34 = (10, 5) := by decide +kernel
theorem zK_35 : zK 35 = (10, 5) := by decide +kernel
theorem zK_36 : zK 36 = (10, 5) := by decide +kernel
theorem zK_37 : zK 37 = (10, 5) := by decide +kernel
theorem zK_38 : zK 38 = (10, 5) := by decide +kernel
theorem zK_39 : zK 39 = (10, 5) := by decide +kernel
theorem zK_40 : zK 40 = (10, 5) := by decide +kernel
theorem zK_41 : zK 41 = (10, 5) := by decide +kernel
theorem zK_42 : zK 42 = (10, 5) := by decide +kernel
theorem zK_43 : zK 43 = (10, 5) := by decide +kernel
theorem zK_44 : zK 44 = (10, 5) := by decide +kernel
theorem zK_45 : zK 45 = (10, 5) := by decide +kernel
theorem zK_46 : zK 46 = (10, 5) := by decide +kernel
theorem zK_47 : zK 47 = (10, 5) := by decide +kernel
theorem zK_48 : zK 48 = (10, 5) := by decide +kernel
theorem zK_49 : zK 49 = (10, 5) := by decide +kernel
theorem zK_50 : zK 50 = (10, 5) := by decide +kernel
theorem zK_51 : zK 51 = (10, 5) := by decide +kernel
theorem zK_52 : zK 52 = (10, 5) := by decide +kernel
theorem zK_53 : zK 53 = (10, 5) := by decide +kernel
theorem zK_54 : zK 54 = (10, 5) := by decide +kernel
theorem zK_55 : zK 55 = (10, 5) := by decide +kernel
theorem zK_56 : zK 56 = (10, 5) := by decide +kernel
theorem zK_57 : zK 57 = (10, 5) := by decide +kernel
theorem zK_58 : zK 58 = (10, 5) := by decide +kernel
theorem zK_59 : zK 59 = (10, 5) := by decide +kernel
theorem zK_60 : zK 60 = (10, 5) := by decide +kernel
theorem zK_61 : zK 61 = (10, 5) := by decide +kernel
theorem zK_62 : zK 62 = (10, 5) := by decide +kernel
theorem zK_63 : zK 63 = (10, 5) := by decide +kernel
theorem zK_64 : zK 64 = (10, 5) := by decide +kernel
theorem zK_65 : zK 65 = (10, 5) := by decide +kernel
theorem zK_66 : zK 66 = (10, 5) := by decide +kernel
theorem zK_67 : zK 67 = (10, 5) := by decide +kernel
theorem zK_68 : zK 68 = (10, 5) := by decide +kernel
theorem zK_69 : zK 69 = (10, 5) := by decide +kernel
theorem zK_70 : zK 70 = (10, 5) := by decide +kernel
theorem zK_71 : zK 71 = (10, 5) := by decide +kernel
theorem zK_72 : zK 72 = (10, 5) := by decide +kernel
theorem zK_73 : zK 73 = (10, 5) := by decide +kernel
theorem zK_74 : zK 74 = (10, 5) := by decide +kernel
theorem zK_75 : zK 75 = (10, 5) := by decide +kernel
theorem zK_76 : zK 76 = (10, 5) := by decide +kernel
theorem zK_77 : zK 77 = (10, 5) := by decide +kernel
theorem zK_78 : zK 78 = (10, 5) := by decide +kernel
theorem zK_79 : zK 79 = (10, 5) := by decide +kernel
theorem zK_80 : zK 80 = (10, 5) := by decide +kernel
theorem zK_81 : zK 81 = (10, 5) := by decide +kernel
theorem zK_82 : zK 82 = (10, 5) := by decide +kernel
theorem zK_83 : zK 83 = (10, 5) := by decide +kernel
theorem zK_84 : zK 84 = (10, 5) := by decide +kernel
theorem zK_85 : zK 85 = (10, 5) := by decide +kernel
theorem zK_86 : zK 86 = (10, 5) := by decide +kernel
theorem zK_87 : zK 87 = (10, 5) := by decide +kernel
theorem zK_88 : zK 88 = (4, 0) := by decide +kernel
theorem zKo_88 : (zK 88).1 = 4 := by decide +kernel
theorem zK_89 : zK 89 = (10, 23328) := by decide +kernel
theorem zK_90 : zK 90 = (12, 3) := by decide +kernel
theorem zKin_90 : ∀ i, i < 3 → zK (90 + 1 + i) = (10, 16) := by decide +kernel
theorem zKlt_90 : ∀ i, i < 3 → 90 + 1 + i < 154 := fun i h => by omega
theorem zK_91 : zK 91 = (10, 16) := by decide +kernel
theorem zK_92 : zK 92 = (10, 16) := by decide +kernel
theorem zK_93 : zK 93 = (10, 16) := by decide +kernel
theorem zK_94 : zK 94 = (10, 3) := by decide +kernel
theorem zK_95 : zK 95 = (10, 3) := by decide +kernel
theorem zK_96 : zK 96 = (10, 16) := by decide +kernel
theorem zK_97 : zK 97 = (10, 5) := by decide +kernel
theorem zK_98 : zK 98 = (5, 0) := by decide +kernel
theorem zKo_98 : (zK 98).1 = 5 := by decide +kernel
theorem zK_99 : zK 99 = (12, 7) := by decide +kernel
theorem zKin_99 : ∀ i, i < 7 → zK (99 + 1 + i) = (10, 16) := by decide +kernel
theorem zKlt_99 : ∀ i, i < 7 → 99 + 1 + i < 154 := fun i h => by omega
theorem zK_100 : zK 100 = (10, 16) := by decide +kernel
theorem zK_101 : zK 101 = (10, 16) := by decide +kernel
theorem zK_102 : zK 102 = (10, 16) := by decide +kernel
theorem zK_103 : zK 103 = (10, 16) := by decide +kernel
theorem zK_104 : zK 104 = (10, 16) := by decide +kernel
theorem zK_105 : zK 105 = (10, 16) := by decide +kernel
theorem zK_106 : zK 106 = (10, 16) := by decide +kernel
theorem zK_107 : zK 107 = (12, 4) := by decide +kernel
theorem zKin_107 : ∀ i, i < 4 → zK (107 + 1 + i) = (10, 16) := by decide +kernel
theorem zKlt_107 : ∀ i, i < 4 → 107 + 1 + i < 154 := fun i h => by omega
theorem zK_108 : zK 108 = (10, 16) := by decide +kernel
theorem zK_109 : zK 109 = (10, 16) := by decide +kernel
theorem zK_110 : zK 110 = (10, 16) := by decide +kernel
theorem zK_111 : zK 111 = (10, 16) := by decide +kernel
theorem zK_112 : zK 112 = (10, 6) := by decide +kernel
theorem zK_113 : zK 113 = (10, 6) := by decide +kernel
theorem zK_114 : zK 114 = (6, 0) := by decide +kernel
theorem zKo_114 : (zK 114).1 = 6 := by decide +kernel
theorem zK_115 : zK 115 = (10, 8) := by decide +kernel
theorem zK_116 : zK 116 = (10, 8) := by decide +kernel
theorem zK_117 : zK 117 = (2, 0) := by decide +kernel
theorem zKo_117 : (zK 117).1 = 2 := by decide +kernel
theorem zK_118 : zK 118 = (10, 6) := by decide +kernel
theorem zK_119 : zK 119 = (10, 6) := by decide +kernel
theorem zK_120 : zK 120 = (12, 7) := by decide +kernel
theorem zKin_120 : ∀ i, i < 7 → zK (120 + 1 + i) = (10, 2101) := by decide +kernel
theorem zKlt_120 : ∀ i, i < 7 → 120 + 1 + i < 154 := fun i h => by omega
theorem zK_121 : zK 121 = (10, 2101) := by decide +kernel
theorem zK_122 : zK 122 = (10, 2101) := by decide +kernel
theorem zK_123 : zK 123 = (10, 2101) := by decide +kernel
theorem zK_124 : zK 124 = (10, 2101) := by decide +kernel
theorem zK_125 : zK 125 = (10, 2101) := by decide +kernel
theorem zK_126 : zK 126 = (10, 2101) := by decide +kernel
theorem zK_127 : zK 127 = (10, 2101) := by decide +kernel
theorem zK_128 : zK 128 = (9, 0) := by decide +kernel
theorem zKo_128 : (zK 128).1 = 9 := by decide +kernel
theorem zK_129 : zK 129 = (10, 16) := by decide +kernel
theorem zK_130 : zK 130 = (10, 16) := by decide +kernel
theorem zK_131 : zK 131 = (10, 45) := by decide +kernel
theorem zK_132 : zK 132 = (10, 12) := by decide +kernel
theorem zK_133 : zK 133 = (10, 12) := by decide +kernel
theorem zK_134 : zK 134 = (10, 12) := by decide +kernel
theorem zK_135 : zK 135 = (10, 15) := by decide +kernel
theorem zK_136 : zK 136 = (10, 60) := by decide +kernel
theorem zK_137 : zK 137 = (10, 60) := by decide +kernel
theorem zK_138 : zK 138 = (10, 60) := by decide +kernel
theorem zK_139 : zK 139 = (10, 300) := by decide +kernel
theorem zK_140 : zK 140 = (10, 112) := by decide +kernel
theorem zK_141 : zK 141 = (10, 9) := by decide +kernel
theorem zK_142 : zK 142 = (10, 6) := by decide +kernel
theorem zK_143 : zK 143 = (10, 6) := by decide +kernel
theorem zK_144 : zK 144 = (10, 3) := by decide +kernel
theorem zK_145 : zK 145 = (10, 3) := by decide +kernel
theorem zK_146 : zK 146 = (10, 24624) := by decide +kernel
theorem zK_147 : zK 147 = (10, 16) := by decide +kernel
theorem zK_148 : zK 148 = (11, 2592) := by decide +kernel
theorem zK_149 : zK 149 = (10, 6) := by decide +kernel
theorem zK_150 : zK 150 = (10, 6) := by decide +kernel
theorem zK_151 : zK 151 = (10, 10) := by decide +kernel
theorem zK_152 : zK 152 = (10, 9) := by decide +kernel
theorem zK_153 : zK 153 = (10, 102949) := by decide +kernel
theorem zRf_0_0 : zRF 0 0 = some 1 := by decide +kernel
theorem zRf_0_1 : zRF 0 1 = some 2 := by decide +kernel
theorem zRf_0_2 : zRF 0 2 = some 13 := by decide +kernel
theorem zRf_0_3 : zRF 0 3 = some 17 := by decide +kernel
theorem zRf_0_4 : zRF 0 4 = some 88 := by decide +kernel
theorem zRf_0_5 : zRF 0 5 = some 98 := by decide +kernel
theorem zRf_0_6 : zRF 0 6 = some 114 := by decide +kernel
theorem zRf_0_7 : zRF 0 7 = some 117 := by decide +kernel
theorem zRf_2_0 : zRF 2 0 = some 3 := by decide +kernel
theorem zRf_2_1 : zRF 2 1 = some 7 := by decide +kernel
theorem zRf_2_2 : zRF 2 2 = some 8 := by decide +kernel
theorem zRf_2_3 : zRF 2 3 = some 9 := by decide +kernel
theorem zRf_2_4 : zRF 2 4 = some 10 := by decide +kernel
theorem zRf_2_5 : zRF 2 5 = some 11 := by decide +kernel
theorem zRf_2_6 : zRF 2 6 = some 12 := by decide +kernel
theorem zRf_13_0 : zRF 13 0 = some 2 := by decide +kernel
theorem zRf_13_1 : zRF 13 1 = some 14 := by decide +kernel
theorem zRf_13_2 : zRF 13 2 = some 15 := by decide +kernel
theorem zRf_13_3 : zRF 13 3 = some 16 := by decide +kernel
theorem zRf_17_0 : zRF 17 0 = some 18 := by decide +kernel
theorem zRf_17_1 : zRF 17 1 = some 19 := by decide +kernel
theorem zRf_17_2 : zRF 17 2 = some 20 := by decide +kernel
theorem zRf_17_3 : zRF 17 3 = some 24 := by decide +kernel
theorem zRf_17_4 : zRF 17 4 = some 25 := by decide +kernel
theorem zRf_17_5 : zRF 17 5 = some 26 := by decide +kernel
theorem zRf_17_6 : zRF 17 6 = some 27 := by decide +kernel
theorem zRf_88_0 : zRF 88 0 = some 17 := by decide +kernel
theorem zRf_88_1 : zRF 88 1 = some 89 := by decide +kernel
theorem zRf_88_2 : zRF 88 2 = some 90 := by decide +kernel
theorem zRf_88_3 : zRF 88 3 = some 94 := by decide +kernel
theorem zRf_88_4 : zRF 88 4 = some 95 := by decide +kernel
theorem zRf_88_5 : zRF 88 5 = some 96 := by decide +kernel
theorem zRf_88_6 : zRF 88 6 = some 97 := by decide +kernel
theorem zRf_98_0 : zRF 98 0 = some 99 := by decide +kernel
theorem zRf_98_1 : zRF 98 1 = some 107 := by decide +kernel
theorem zRf_98_2 : zRF 98 2 = some 112 := by decide +kernel
theorem zRf_98_3 : zRF 98 3 = some 113 := by decide +kernel
theorem zRf_114_0 : zRF 114 0 = some 115 := by decide +kernel
theorem zRf_114_1 : zRF 114 1 = some 116 := by decide +kernel
theorem zRf_117_0 : zRF 117 0 = some 118 := by decide +kernel
theorem zRf_117_1 : zRF 117 1 = some 119 := by decide +kernel
theorem zRf_117_2 : zRF 117 2 = some 120 := by decide +kernel
theorem zRf_128_1 : zRF 128 1 = some 129 := by decide +kernel
theorem zRf_128_2 : zRF 128 2 = some 130 := by decide +kernel
theorem zRf_128_6 : zRF 128 6 = some 131 := by decide +kernel
theorem zRf_128_9 : zRF 128 9 = some 132 := by decide +kernel
theorem zRf_128_10 : zRF 128 10 = some 133 := by decide +kernel
theorem zRf_128_11 : zRF 128 11 = some 134 := by decide +kernel
theorem zRf_128_12 : zRF 128 12 = some 135 := by decide +kernel
theorem zRf_128_15 : zRF 128 15 = some 136 := by decide +kernel
theorem zRf_128_16 : zRF 128 16 = some 137 := by decide +kernel
theorem zRf_128_17 : zRF 128 17 = some 138 := by decide +kernel
theorem zRf_128_18 : zRF 128 18 = some 139 := by decide +kernel
theorem zRf_128_19 : zRF 128 19 = some 140 := by decide +kernel
theorem zRf_128_20 : zRF 128 20 = some 141 := by decide +kernel
theorem zRf_128_22 : zRF 128 22 = some 142 := by decide +kernel
theorem zRf_128_23 : zRF 128 23 = some 143 := by decide +kernel
theorem zRf_128_25 : zRF 128 25 = some 144 := by decide +kernel
theorem zRf_128_26 : zRF 128 26 = some 145 := by decide +kernel
theorem zRf_128_28 : zRF 128 28 = some 146 := by decide +kernel
theorem zRf_128_29 : zRF 128 29 = some 147 := by decide +kernel
theorem zRf_128_30 : zRF 128 30 = some 148 := by decide +kernel
theorem zRf_128_31 : zRF 128 31 = some 149 := by decide +kernel
theorem zRf_128_32 : zRF 128 32 = some 150 := by decide +kernel
theorem zRf_128_34 : zRF 128 34 = some 151 := by decide +kernel
theorem zRf_128_35 : zRF 128 35 = some 152 := by decide +kernel
theorem zRf_128_36 : zRF 128 36 = some 153 := by decide +kernel
end
section
theorem dX0_init_0 : decode cX0_init 0 = .ok (.aload_n 0, 1) := by decide +kernel
theorem dX0_init_1 : decode cX0_init 1 = .ok (.invokespecial 3, 3) := by decide +kernel
theorem dX0_init_4 : decode cX0_init 4 = .ok (.aload_n 0, 1) := by decide +kernel
theorem dX0_init_5 : decode cX0_init 5 = .ok (.bipush 16, 2) := by decide +kernel
theorem dX0_init_7 : decode cX0_init 7 = .ok (.newarray .int, 2) := by decide +kernel
theorem dX0_init_9 : decode cX0_init 9 = .ok (.putfield 9, 3) := by decide +kernel
theorem dX0_init_12 : decode cX0_init 12 = .ok (.aload_n 0, 1) := by decide +kernel
theorem dX0_init_13 : decode cX0_init 13 = .ok (.bipush 16, 2) := by decide +kernel
theorem dX0_init_15 : decode cX0_init 15 = .ok (.newarray .int, 2) := by decide +kernel
theorem dX0_init_17 : decode cX0_init 17 = .ok (.putfield 15, 3) := by decide +kernel
theorem dX0_init_20 : decode cX0_init 20 = .ok (.aload_n 0, 1) := by decide +kernel
theorem dX0_init_21 : decode cX0_init 21 = .ok (.iconst 3, 1) := by decide +kernel
theorem dX0_init_22 : decode cX0_init 22 = .ok (.iconst 5, 1) := by decide +kernel
theorem dX0_init_23 : decode cX0_init 23 = .ok (.multianewarray 18 2, 4) := by decide +kernel
theorem dX0_init_27 : decode cX0_init 27 = .ok (.putfield 20, 3) := by decide +kernel
theorem dX0_init_30 : decode cX0_init 30 = .ok (.aload_n 0, 1) := by decide +kernel
theorem dX0_init_31 : decode cX0_init 31 = .ok (.bipush 60, 2) := by decide +kernel
theorem dX0_init_33 : decode cX0_init 33 = .ok (.newarray .int, 2) := by decide +kernel
theorem dX0_init_35 : decode cX0_init 35 = .ok (.putfield 23, 3) := by decide +kernel
theorem dX0_init_38 : decode cX0_init 38 = .ok (.aload_n 0, 1) := by decide +kernel
theorem dX0_init_39 : decode cX0_init 39 = .ok (.bipush 60, 2) := by decide +kernel
theorem dX0_init_41 : decode cX0_init 41 = .ok (.newarray .int, 2) := by decide +kernel
theorem dX0_init_43 : decode cX0_init 43 = .ok (.putfield 26, 3) := by decide +kernel
theorem dX0_init_46 : decode cX0_init 46 = .ok (.aload_n 0, 1) := by decide +kernel
theorem dX0_init_47 : decode cX0_init 47 = .ok (.bipush 60, 2) := by decide +kernel
theorem dX0_init_49 : decode cX0_init 49 = .ok (.newarray .int, 2) := by decide +kernel
theorem dX0_init_51 : decode cX0_init 51 = .ok (.putfield 29, 3) := by decide +kernel
theorem dX0_init_54 : decode cX0_init 54 = .ok (.aload_n 0, 1) := by decide +kernel
theorem dX0_init_55 : decode cX0_init 55 = .ok (.bipush 60, 2) := by decide +kernel
theorem dX0_init_57 : decode cX0_init 57 = .ok (.iconst 5, 1) := by decide +kernel
theorem dX0_init_58 : decode cX0_init 58 = .ok (.multianewarray 18 2, 4) := by decide +kernel
theorem dX0_init_62 : decode cX0_init 62 = .ok (.putfield 32, 3) := by decide +kernel
theorem dX0_init_65 : decode cX0_init 65 = .ok (.aload_n 0, 1) := by decide +kernel
theorem dX0_init_66 : decode cX0_init 66 = .ok (.bipush 8, 2) := by decide +kernel
theorem dX0_init_68 : decode cX0_init 68 = .ok (.putfield 35, 3) := by decide +kernel
theorem dX0_init_71 : decode cX0_init 71 = .ok (.aload_n 0, 1) := by decide +kernel
theorem dX0_init_72 : decode cX0_init 72 = .ok (.iconst 0, 1) := by decide +kernel
theorem dX0_init_73 : decode cX0_init 73 = .ok (.putfield 39, 3) := by decide +kernel
theorem dX0_init_76 : decode cX0_init 76 = .ok (.aload_n 0, 1) := by decide +kernel
theorem dX0_init_77 : decode cX0_init 77 = .ok (.bipush 10, 2) := by decide +kernel
theorem dX0_init_79 : decode cX0_init 79 = .ok (.putfield 42, 3) := by decide +kernel
theorem dX0_init_82 : decode cX0_init 82 = .ok (.aload_n 0, 1) := by decide +kernel
theorem dX0_init_83 : decode cX0_init 83 = .ok (.iconst 0, 1) := by decide +kernel
theorem dX0_init_84 : decode cX0_init 84 = .ok (.putfield 45, 3) := by decide +kernel
theorem dX0_init_87 : decode cX0_init 87 = .ok (.return_, 1) := by decide +kernel
theorem dX0_begin_0 : decode cX0_begin 0 = .ok (.aload_n 0, 1) := by decide +kernel
theorem dX0_begin_1 : decode cX0_begin 1 = .ok (.iload_n 1, 1) := by decide +kernel
theorem dX0_begin_2 : decode cX0_begin 2 = .ok (.putfield 35, 3) := by decide +kernel
theorem dX0_begin_5 : decode cX0_begin 5 = .ok (.aload_n 0, 1) := by decide +kernel
theorem dX0_begin_6 : decode cX0_begin 6 = .ok (.getfield 9, 3) := by decide +kernel
theorem dX0_begin_9 : decode cX0_begin 9 = .ok (.iconst 0, 1) := by decide +kernel
theorem dX0_begin_10 : decode cX0_begin 10 = .ok (.invokestatic 48, 3) := by decide +kernel
theorem dX0_begin_13 : decode cX0_begin 13 = .ok (.aload_n 0, 1) := by decide +kernel
theorem dX0_begin_14 : decode cX0_begin 14 = .ok (.invokevirtual 54, 3) := by decide +kernel
theorem dX0_begin_17 : decode cX0_begin 17 = .ok (.return_, 1) := by decide +kernel
theorem dX0_keepAsTold_0 : decode cX0_keepAsTold 0 = .ok (.aload_n 0, 1) := by decide +kernel
theorem dX0_keepAsTold_1 : decode cX0_keepAsTold 1 = .ok (.getfield 9, 3) := by decide +kernel
theorem dX0_keepAsTold_4 : decode cX0_keepAsTold 4 = .ok (.iconst 0, 1) := by decide +kernel
theorem dX0_keepAsTold_5 : decode cX0_keepAsTold 5 = .ok (.aload_n 0, 1) := by decide +kernel
theorem dX0_keepAsTold_6 : decode cX0_keepAsTold 6 = .ok (.getfield 15, 3) := by decide +kernel
theorem dX0_keepAsTold_9 : decode cX0_keepAsTold 9 = .ok (.iconst 0, 1) := by decide +kernel
theorem dX0_keepAsTold_10 : decode cX0_keepAsTold 10 = .ok (.bipush 16, 2) := by decide +kernel
theorem dX0_keepAsTold_12 : decode cX0_keepAsTold 12 = .ok (.invokestatic 57, 3) := by decide +kernel
theorem dX0_keepAsTold_15 : decode cX0_keepAsTold 15 = .ok (.aload_n 0, 1) := by decide +kernel
theorem dX0_keepAsTold_16 : decode cX0_keepAsTold 16 = .ok (.iconst 0, 1) := by decide +kernel
theorem dX0_keepAsTold_17 : decode cX0_keepAsTold 17 = .ok (.putfield 39, 3) := by decide +kernel
theorem dX0_keepAsTold_20 : decode cX0_keepAsTold 20 = .ok (.aload_n 0, 1) := by decide +kernel
theorem dX0_keepAsTold_21 : decode cX0_keepAsTold 21 = .ok (.dup, 1) := by decide +kernel
theorem dX0_keepAsTold_22 : decode cX0_keepAsTold 22 = .ok (.getfield 45, 3) := by decide +kernel
theorem dX0_keepAsTold_25 : decode cX0_keepAsTold 25 = .ok (.iconst 1, 1) := by decide +kernel
theorem dX0_keepAsTold_26 : decode cX0_keepAsTold 26 = .ok (.iadd, 1) := by decide +kernel
theorem dX0_keepAsTold_27 : decode cX0_keepAsTold 27 = .ok (.putfield 45, 3) := by decide +kernel
theorem dX0_keepAsTold_30 : decode cX0_keepAsTold 30 = .ok (.return_, 1) := by decide +kernel
theorem dX0_tellHeight_0 : decode cX0_tellHeight 0 = .ok (.aload_n 0, 1) := by decide +kernel
theorem dX0_tellHeight_1 : decode cX0_tellHeight 1 = .ok (.getfield 9, 3) := by decide +kernel
theorem dX0_tellHeight_4 : decode cX0_tellHeight 4 = .ok (.iload_n 1, 1) := by decide +kernel
theorem dX0_tellHeight_5 : decode cX0_tellHeight 5 = .ok (.iaload, 1) := by decide +kernel
theorem dX0_tellHeight_6 : decode cX0_tellHeight 6 = .ok (.istore_n 3, 1) := by decide +kernel
theorem dX0_tellHeight_7 : decode cX0_tellHeight 7 = .ok (.aload_n 0, 1) := by decide +kernel
theorem dX0_tellHeight_8 : decode cX0_tellHeight 8 = .ok (.getfield 9, 3) := by decide +kernel
theorem dX0_tellHeight_11 : decode cX0_tellHeight 11 = .ok (.iload_n 1, 1) := by decide +kernel
theorem dX0_tellHeight_12 : decode cX0_tellHeight 12 = .ok (.iload_n 2, 1) := by decide +kernel
theorem dX0_tellHeight_13 : decode cX0_tellHeight 13 = .ok (.iastore, 1) := by decide +kernel
theorem dX0_tellHeight_14 : decode cX0_tellHeight 14 = .ok (.aload_n 0, 1) := by decide +kernel
theorem dX0_tellHeight_15 : decode cX0_tellHeight 15 = .ok (.invokevirtual 54, 3) := by decide +kernel
theorem dX0_tellHeight_18 : decode cX0_tellHeight 18 = .ok (.iload_n 3, 1) := by decide +kernel
theorem dX0_tellHeight_19 : decode cX0_tellHeight 19 = .ok (.ireturn, 1) := by decide +kernel
theorem dX0_tellPull_0 : decode cX0_tellPull 0 = .ok (.aload_n 0, 1) := by decide +kernel
theorem dX0_tellPull_1 : decode cX0_tellPull 1 = .ok (.getfield 20, 3) := by decide +kernel
theorem dX0_tellPull_4 : decode cX0_tellPull 4 = .ok (.iload_n 1, 1) := by decide +kernel
theorem dX0_tellPull_5 : decode cX0_tellPull 5 = .ok (.aaload, 1) := by decide +kernel
theorem dX0_tellPull_6 : decode cX0_tellPull 6 = .ok (.iload_n 2, 1) := by decide +kernel
theorem dX0_tellPull_7 : decode cX0_tellPull 7 = .ok (.iconst 2, 1) := by decide +kernel
theorem dX0_tellPull_8 : decode cX0_tellPull 8 = .ok (.iadd, 1) := by decide +kernel
theorem dX0_tellPull_9 : decode cX0_tellPull 9 = .ok (.iaload, 1) := by decide +kernel
theorem dX0_tellPull_10 : decode cX0_tellPull 10 = .ok (.istore 4, 2) := by decide +kernel
theorem dX0_tellPull_12 : decode cX0_tellPull 12 = .ok (.aload_n 0, 1) := by decide +kernel
theorem dX0_tellPull_13 : decode cX0_tellPull 13 = .ok (.getfield 20, 3) := by decide +kernel
theorem dX0_tellPull_16 : decode cX0_tellPull 16 = .ok (.iload_n 1, 1) := by decide +kernel
theorem dX0_tellPull_17 : decode cX0_tellPull 17 = .ok (.aaload, 1) := by decide +kernel
theorem dX0_tellPull_18 : decode cX0_tellPull 18 = .ok (.iload_n 2, 1) := by decide +kernel
theorem dX0_tellPull_19 : decode cX0_tellPull 19 = .ok (.iconst 2, 1) := by decide +kernel
theorem dX0_tellPull_20 : decode cX0_tellPull 20 = .ok (.iadd, 1) := by decide +kernel
theorem dX0_tellPull_21 : decode cX0_tellPull 21 = .ok (.iload_n 3, 1) := by decide +kernel
theorem dX0_tellPull_22 : decode cX0_tellPull 22 = .ok (.iastore, 1) := by decide +kernel
theorem dX0_tellPull_23 : decode cX0_tellPull 23 = .ok (.aload_n 0, 1) := by decide +kernel
theorem dX0_tellPull_24 : decode cX0_tellPull 24 = .ok (.dup, 1) := by decide +kernel
theorem dX0_tellPull_25 : decode cX0_tellPull 25 = .ok (.getfield 45, 3) := by decide +kernel
theorem dX0_tellPull_28 : decode cX0_tellPull 28 = .ok (.iconst 1, 1) := by decide +kernel
theorem dX0_tellPull_29 : decode cX0_tellPull 29 = .ok (.iadd, 1) := by decide +kernel
theorem dX0_tellPull_30 : decode cX0_tellPull 30 = .ok (.putfield 45, 3) := by decide +kernel
theorem dX0_tellPull_33 : decode cX0_tellPull 33 = .ok (.iload 4, 2) := by decide +kernel
theorem dX0_tellPull_35 : decode cX0_tellPull 35 = .ok (.ireturn, 1) := by decide +kernel
theorem dX0_tellRest_0 : decode cX0_tellRest 0 = .ok (.aload_n 0, 1) := by decide +kernel
theorem dX0_tellRest_1 : decode cX0_tellRest 1 = .ok (.getfield 42, 3) := by decide +kernel
theorem dX0_tellRest_4 : decode cX0_tellRest 4 = .ok (.istore_n 2, 1) := by decide +kernel
theorem dX0_tellRest_5 : decode cX0_tellRest 5 = .ok (.aload_n 0, 1) := by decide +kernel
theorem dX0_tellRest_6 : decode cX0_tellRest 6 = .ok (.iload_n 1, 1) := by decide +kernel
theorem dX0_tellRest_7 : decode cX0_tellRest 7 = .ok (.putfield 42, 3) := by decide +kernel
theorem dX0_tellRest_10 : decode cX0_tellRest 10 = .ok (.aload_n 0, 1) := by decide +kernel
theorem dX0_tellRest_11 : decode cX0_tellRest 11 = .ok (.dup, 1) := by decide +kernel
theorem dX0_tellRest_12 : decode cX0_tellRest 12 = .ok (.getfield 45, 3) := by decide +kernel
theorem dX0_tellRest_15 : decode cX0_tellRest 15 = .ok (.iconst 1, 1) := by decide +kernel
theorem dX0_tellRest_16 : decode cX0_tellRest 16 = .ok (.iadd, 1) := by decide +kernel
theorem dX0_tellRest_17 : decode cX0_tellRest 17 = .ok (.putfield 45, 3) := by decide +kernel
theorem dX0_tellRest_20 : decode cX0_tellRest 20 = .ok (.iload_n 2, 1) := by decide +kernel
theorem dX0_tellRest_21 : decode cX0_tellRest 21 = .ok (.ireturn, 1) := by decide +kernel
theorem dX0_howManyZones_0 : decode cX0_howManyZones 0 = .ok (.aload_n 0, 1) := by decide +kernel
theorem dX0_howManyZones_1 : decode cX0_howManyZones 1 = .ok (.getfield 35, 3) := by decide +kernel
theorem dX0_howManyZones_4 : decode cX0_howManyZones 4 = .ok (.ireturn, 1) := by decide +kernel
theorem dX0_heightOf_0 : decode cX0_heightOf 0 = .ok (.aload_n 0, 1) := by decide +kernel
theorem dX0_heightOf_1 : decode cX0_heightOf 1 = .ok (.getfield 9, 3) := by decide +kernel
theorem dX0_heightOf_4 : decode cX0_heightOf 4 = .ok (.iload_n 1, 1) := by decide +kernel
theorem dX0_heightOf_5 : decode cX0_heightOf 5 = .ok (.iaload, 1) := by decide +kernel
theorem dX0_heightOf_6 : decode cX0_heightOf 6 = .ok (.ireturn, 1) := by decide +kernel
theorem dX0_pullOf_0 : decode cX0_pullOf 0 = .ok (.iload_n 2, 1) := by decide +kernel
theorem dX0_pullOf_1 : decode cX0_pullOf 1 = .ok (.bipush (-2), 2) := by decide +kernel
theorem dX0_pullOf_3 : decode cX0_pullOf 3 = .ok (.iconst 2, 1) := by decide +kernel
theorem dX0_pullOf_4 : decode cX0_pullOf 4 = .ok (.invokestatic 63, 3) := by decide +kernel
theorem dX0_pullOf_7 : decode cX0_pullOf 7 = .ok (.ifCond .eq 16, 3) := by decide +kernel
theorem dX0_pullOf_10 : decode cX0_pullOf 10 = .ok (.aload_n 0, 1) := by decide +kernel
theorem dX0_pullOf_11 : decode cX0_pullOf 11 = .ok (.getfield 20, 3) := by decide +kernel
theorem dX0_pullOf_14 : decode cX0_pullOf 14 = .ok (.iload_n 1, 1) := by decide +kernel
theorem dX0_pullOf_15 : decode cX0_pullOf 15 = .ok (.aaload, 1) := by decide +kernel
theorem dX0_pullOf_16 : decode cX0_pullOf 16 = .ok (.iload_n 2, 1) := by decide +kernel
theorem dX0_pullOf_17 : decode cX0_pullOf 17 = .ok (.iconst 2, 1) := by decide +kernel
theorem dX0_pullOf_18 : decode cX0_pullOf 18 = .ok (.iadd, 1) := by decide +kernel
theorem dX0_pullOf_19 : decode cX0_pullOf 19 = .ok (.iaload, 1) := by decide +kernel
theorem dX0_pullOf_20 : decode cX0_pullOf 20 = .ok (.goto 4, 3) := by decide +kernel
theorem dX0_pullOf_23 : decode cX0_pullOf 23 = .ok (.iconst 0, 1) := by decide +kernel
theorem dX0_pullOf_24 : decode cX0_pullOf 24 = .ok (.ireturn, 1) := by decide +kernel
theorem dX0_restOf_0 : decode cX0_restOf 0 = .ok (.aload_n 0, 1) := by decide +kernel
theorem dX0_restOf_1 : decode cX0_restOf 1 = .ok (.getfield 42, 3) := by decide +kernel
theorem dX0_restOf_4 : decode cX0_restOf 4 = .ok (.ireturn, 1) := by decide +kernel
theorem dX0_howManyChanges_0 : decode cX0_howManyChanges 0 = .ok (.aload_n 0, 1) := by decide +kernel
theorem dX0_howManyChanges_1 : decode cX0_howManyChanges 1 = .ok (.getfield 45, 3) := by decide +kernel
theorem dX0_howManyChanges_4 : decode cX0_howManyChanges 4 = .ok (.ireturn, 1) := by decide +kernel
theorem dX0_howMany_0 : decode cX0_howMany 0 = .ok (.aload_n 0, 1) := by decide +kernel
theorem dX0_howMany_1 : decode cX0_howMany 1 = .ok (.getfield 39, 3) := by decide +kernel
theorem dX0_howMany_4 : decode cX0_howMany 4 = .ok (.ireturn, 1) := by decide +kernel
theorem dX0_roomLeft_0 : decode cX0_roomLeft 0 = .ok (.bipush 60, 2) := by decide +kernel
theorem dX0_roomLeft_2 : decode cX0_roomLeft 2 = .ok (.aload_n 0, 1) := by decide +kernel
theorem dX0_roomLeft_3 : decode cX0_roomLeft 3 = .ok (.getfield 39, 3) := by decide +kernel
theorem dX0_roomLeft_6 : decode cX0_roomLeft 6 = .ok (.isub, 1) := by decide +kernel
theorem dX0_roomLeft_7 : decode cX0_roomLeft 7 = .ok (.ireturn, 1) := by decide +kernel
theorem dX0_minutesTogether_0 : decode cX0_minutesTogether 0 = .ok (.iconst 0, 1) := by decide +kernel
theorem dX0_minutesTogether_1 : decode cX0_minutesTogether 1 = .ok (.istore_n 1, 1) := by decide +kernel
theorem dX0_minutesTogether_2 : decode cX0_minutesTogether 2 = .ok (.iconst 0, 1) := by decide +kernel
theorem dX0_minutesTogether_3 : decode cX0_minutesTogether 3 = .ok (.istore_n 2, 1) := by decide +kernel
theorem dX0_minutesTogether_4 : decode cX0_minutesTogether 4 = .ok (.iload_n 2, 1) := by decide +kernel
theorem dX0_minutesTogether_5 : decode cX0_minutesTogether 5 = .ok (.aload_n 0, 1) := by decide +kernel
theorem dX0_minutesTogether_6 : decode cX0_minutesTogether 6 = .ok (.getfield 39, 3) := by decide +kernel
theorem dX0_minutesTogether_9 : decode cX0_minutesTogether 9 = .ok (.if_icmp .ge 18, 3) := by decide +kernel
theorem dX0_minutesTogether_12 : decode cX0_minutesTogether 12 = .ok (.iload_n 1, 1) := by decide +kernel
theorem dX0_minutesTogether_13 : decode cX0_minutesTogether 13 = .ok (.aload_n 0, 1) := by decide +kernel
theorem dX0_minutesTogether_14 : decode cX0_minutesTogether 14 = .ok (.getfield 29, 3) := by decide +kernel
theorem dX0_minutesTogether_17 : decode cX0_minutesTogether 17 = .ok (.iload_n 2, 1) := by decide +kernel
theorem dX0_minutesTogether_18 : decode cX0_minutesTogether 18 = .ok (.iaload, 1) := by decide +kernel
theorem dX0_minutesTogether_19 : decode cX0_minutesTogether 19 = .ok (.iadd, 1) := by decide +kernel
theorem dX0_minutesTogether_20 : decode cX0_minutesTogether 20 = .ok (.istore_n 1, 1) := by decide +kernel
theorem dX0_minutesTogether_21 : decode cX0_minutesTogether 21 = .ok (.iinc 2 1, 3) := by decide +kernel
theorem dX0_minutesTogether_24 : decode cX0_minutesTogether 24 = .ok (.goto (-20), 3) := by decide +kernel
theorem dX0_minutesTogether_27 : decode cX0_minutesTogether 27 = .ok (.iload_n 1, 1) := by decide +kernel
theorem dX0_minutesTogether_28 : decode cX0_minutesTogether 28 = .ok (.ireturn, 1) := by decide +kernel
theorem dX0_wouldSink_0 : decode cX0_wouldSink 0 = .ok (.bipush (-2), 2) := by decide +kernel
theorem dX0_wouldSink_2 : decode cX0_wouldSink 2 = .ok (.istore 4, 2) := by decide +kernel
theorem dX0_wouldSink_4 : decode cX0_wouldSink 4 = .ok (.iload 4, 2) := by decide +kernel
theorem dX0_wouldSink_6 : decode cX0_wouldSink 6 = .ok (.iconst 2, 1) := by decide +kernel
theorem dX0_wouldSink_7 : decode cX0_wouldSink 7 = .ok (.if_icmp .gt 46, 3) := by decide +kernel
theorem dX0_wouldSink_10 : decode cX0_wouldSink 10 = .ok (.aload_n 0, 1) := by decide +kernel
theorem dX0_wouldSink_11 : decode cX0_wouldSink 11 = .ok (.iload_n 2, 1) := by decide +kernel
theorem dX0_wouldSink_12 : decode cX0_wouldSink 12 = .ok (.iload 4, 2) := by decide +kernel
theorem dX0_wouldSink_14 : decode cX0_wouldSink 14 = .ok (.iadd, 1) := by decide +kernel
theorem dX0_wouldSink_15 : decode cX0_wouldSink 15 = .ok (.invokevirtual 67, 3) := by decide +kernel
theorem dX0_wouldSink_18 : decode cX0_wouldSink 18 = .ok (.ifCond .eq 29, 3) := by decide +kernel
theorem dX0_wouldSink_21 : decode cX0_wouldSink 21 = .ok (.aload_n 0, 1) := by decide +kernel
theorem dX0_wouldSink_22 : decode cX0_wouldSink 22 = .ok (.getfield 9, 3) := by decide +kernel
theorem dX0_wouldSink_25 : decode cX0_wouldSink 25 = .ok (.iload_n 2, 1) := by decide +kernel
theorem dX0_wouldSink_26 : decode cX0_wouldSink 26 = .ok (.iload 4, 2) := by decide +kernel
theorem dX0_wouldSink_28 : decode cX0_wouldSink 28 = .ok (.iadd, 1) := by decide +kernel
theorem dX0_wouldSink_29 : decode cX0_wouldSink 29 = .ok (.iaload, 1) := by decide +kernel
theorem dX0_wouldSink_30 : decode cX0_wouldSink 30 = .ok (.iload_n 3, 1) := by decide +kernel
theorem dX0_wouldSink_31 : decode cX0_wouldSink 31 = .ok (.aload_n 0, 1) := by decide +kernel
theorem dX0_wouldSink_32 : decode cX0_wouldSink 32 = .ok (.iload_n 1, 1) := by decide +kernel
theorem dX0_wouldSink_33 : decode cX0_wouldSink 33 = .ok (.iload 4, 2) := by decide +kernel
theorem dX0_wouldSink_35 : decode cX0_wouldSink 35 = .ok (.invokevirtual 71, 3) := by decide +kernel
theorem dX0_wouldSink_38 : decode cX0_wouldSink 38 = .ok (.imul, 1) := by decide +kernel
theorem dX0_wouldSink_39 : decode cX0_wouldSink 39 = .ok (.isub, 1) := by decide +kernel
theorem dX0_wouldSink_40 : decode cX0_wouldSink 40 = .ok (.ldc 75, 2) := by decide +kernel
theorem dX0_wouldSink_42 : decode cX0_wouldSink 42 = .ok (.if_icmp .ge 5, 3) := by decide +kernel
theorem dX0_wouldSink_45 : decode cX0_wouldSink 45 = .ok (.iconst 1, 1) := by decide +kernel
theorem dX0_wouldSink_46 : decode cX0_wouldSink 46 = .ok (.ireturn, 1) := by decide +kernel
theorem dX0_wouldSink_47 : decode cX0_wouldSink 47 = .ok (.iinc 4 1, 3) := by decide +kernel
theorem dX0_wouldSink_50 : decode cX0_wouldSink 50 = .ok (.goto (-46), 3) := by decide +kernel
theorem dX0_wouldSink_53 : decode cX0_wouldSink 53 = .ok (.iconst 0, 1) := by decide +kernel
theorem dX0_wouldSink_54 : decode cX0_wouldSink 54 = .ok (.ireturn, 1) := by decide +kernel
theorem dX0_isThere_0 : decode cX0_isThere 0 = .ok (.iload_n 1, 1) := by decide +kernel
theorem dX0_isThere_1 : decode cX0_isThere 1 = .ok (.iconst 0, 1) := by decide +kernel
theorem dX0_isThere_2 : decode cX0_isThere 2 = .ok (.aload_n 0, 1) := by decide +kernel
theorem dX0_isThere_3 : decode cX0_isThere 3 = .ok (.getfield 35, 3) := by decide +kernel
theorem dX0_isThere_6 : decode cX0_isThere 6 = .ok (.iconst 1, 1) := by decide +kernel
theorem dX0_isThere_7 : decode cX0_isThere 7 = .ok (.isub, 1) := by decide +kernel
theorem dX0_isThere_8 : decode cX0_isThere 8 = .ok (.invokestatic 63, 3) := by decide +kernel
theorem dX0_isThere_11 : decode cX0_isThere 11 = .ok (.ireturn, 1) := by decide +kernel
theorem dX0_doStroke_0 : decode cX0_doStroke 0 = .ok (.aload_n 0, 1) := by decide +kernel
theorem dX0_doStroke_1 : decode cX0_doStroke 1 = .ok (.getfield 39, 3) := by decide +kernel
theorem dX0_doStroke_4 : decode cX0_doStroke 4 = .ok (.bipush 60, 2) := by decide +kernel
theorem dX0_doStroke_6 : decode cX0_doStroke 6 = .ok (.if_icmp .lt 4, 3) := by decide +kernel
theorem dX0_doStroke_9 : decode cX0_doStroke 9 = .ok (.return_, 1) := by decide +kernel
theorem dX0_doStroke_10 : decode cX0_doStroke 10 = .ok (.bipush (-2), 2) := by decide +kernel
theorem dX0_doStroke_12 : decode cX0_doStroke 12 = .ok (.istore 4, 2) := by decide +kernel
theorem dX0_doStroke_14 : decode cX0_doStroke 14 = .ok (.iload 4, 2) := by decide +kernel
theorem dX0_doStroke_16 : decode cX0_doStroke 16 = .ok (.iconst 2, 1) := by decide +kernel
theorem dX0_doStroke_17 : decode cX0_doStroke 17 = .ok (.if_icmp .gt 76, 3) := by decide +kernel
theorem dX0_doStroke_20 : decode cX0_doStroke 20 = .ok (.aload_n 0, 1) := by decide +kernel
theorem dX0_doStroke_21 : decode cX0_doStroke 21 = .ok (.iload_n 2, 1) := by decide +kernel
theorem dX0_doStroke_22 : decode cX0_doStroke 22 = .ok (.iload 4, 2) := by decide +kernel
theorem dX0_doStroke_24 : decode cX0_doStroke 24 = .ok (.iadd, 1) := by decide +kernel
theorem dX0_doStroke_25 : decode cX0_doStroke 25 = .ok (.invokevirtual 67, 3) := by decide +kernel
theorem dX0_doStroke_28 : decode cX0_doStroke 28 = .ok (.ifCond .eq 15, 3) := by decide +kernel
theorem dX0_doStroke_31 : decode cX0_doStroke 31 = .ok (.iload_n 3, 1) := by decide +kernel
theorem dX0_doStroke_32 : decode cX0_doStroke 32 = .ok (.aload_n 0, 1) := by decide +kernel
theorem dX0_doStroke_33 : decode cX0_doStroke 33 = .ok (.iload_n 1, 1) := by decide +kernel
theorem dX0_doStroke_34 : decode cX0_doStroke 34 = .ok (.iload 4, 2) := by decide +kernel
theorem dX0_doStroke_36 : decode cX0_doStroke 36 = .ok (.invokevirtual 71, 3) := by decide +kernel
theorem dX0_doStroke_39 : decode cX0_doStroke 39 = .ok (.imul, 1) := by decide +kernel
theorem dX0_doStroke_40 : decode cX0_doStroke 40 = .ok (.goto 4, 3) := by decide +kernel
theorem dX0_doStroke_43 : decode cX0_doStroke 43 = .ok (.iconst 0, 1) := by decide +kernel
theorem dX0_doStroke_44 : decode cX0_doStroke 44 = .ok (.istore 5, 2) := by decide +kernel
theorem dX0_doStroke_46 : decode cX0_doStroke 46 = .ok (.aload_n 0, 1) := by decide +kernel
theorem dX0_doStroke_47 : decode cX0_doStroke 47 = .ok (.getfield 32, 3) := by decide +kernel
theorem dX0_doStroke_50 : decode cX0_doStroke 50 = .ok (.aload_n 0, 1) := by decide +kernel
theorem dX0_doStroke_51 : decode cX0_doStroke 51 = .ok (.getfield 39, 3) := by decide +kernel
theorem dX0_doStroke_54 : decode cX0_doStroke 54 = .ok (.aaload, 1) := by decide +kernel
theorem dX0_doStroke_55 : decode cX0_doStroke 55 = .ok (.iload 4, 2) := by decide +kernel
theorem dX0_doStroke_57 : decode cX0_doStroke 57 = .ok (.iconst 2, 1) := by decide +kernel
theorem dX0_doStroke_58 : decode cX0_doStroke 58 = .ok (.iadd, 1) := by decide +kernel
theorem dX0_doStroke_59 : decode cX0_doStroke 59 = .ok (.iload 5, 2) := by decide +kernel
theorem dX0_doStroke_61 : decode cX0_doStroke 61 = .ok (.iastore, 1) := by decide +kernel
theorem dX0_doStroke_62 : decode cX0_doStroke 62 = .ok (.aload_n 0, 1) := by decide +kernel
theorem dX0_doStroke_63 : decode cX0_doStroke 63 = .ok (.iload_n 2, 1) := by decide +kernel
theorem dX0_doStroke_64 : decode cX0_doStroke 64 = .ok (.iload 4, 2) := by decide +kernel
theorem dX0_doStroke_66 : decode cX0_doStroke 66 = .ok (.iadd, 1) := by decide +kernel
theorem dX0_doStroke_67 : decode cX0_doStroke 67 = .ok (.invokevirtual 67, 3) := by decide +kernel
theorem dX0_doStroke_70 : decode cX0_doStroke 70 = .ok (.ifCond .eq 17, 3) := by decide +kernel
theorem dX0_doStroke_73 : decode cX0_doStroke 73 = .ok (.aload_n 0, 1) := by decide +kernel
theorem dX0_doStroke_74 : decode cX0_doStroke 74 = .ok (.getfield 9, 3) := by decide +kernel
theorem dX0_doStroke_77 : decode cX0_doStroke 77 = .ok (.iload_n 2, 1) := by decide +kernel
theorem dX0_doStroke_78 : decode cX0_doStroke 78 = .ok (.iload 4, 2) := by decide +kernel
theorem dX0_doStroke_80 : decode cX0_doStroke 80 = .ok (.iadd, 1) := by decide +kernel
theorem dX0_doStroke_81 : decode cX0_doStroke 81 = .ok (.dup2, 1) := by decide +kernel
theorem dX0_doStroke_82 : decode cX0_doStroke 82 = .ok (.iaload, 1) := by decide +kernel
theorem dX0_doStroke_83 : decode cX0_doStroke 83 = .ok (.iload 5, 2) := by decide +kernel
theorem dX0_doStroke_85 : decode cX0_doStroke 85 = .ok (.isub, 1) := by decide +kernel
theorem dX0_doStroke_86 : decode cX0_doStroke 86 = .ok (.iastore, 1) := by decide +kernel
theorem dX0_doStroke_87 : decode cX0_doStroke 87 = .ok (.iinc 4 1, 3) := by decide +kernel
theorem dX0_doStroke_90 : decode cX0_doStroke 90 = .ok (.goto (-76), 3) := by decide +kernel
theorem dX0_doStroke_93 : decode cX0_doStroke 93 = .ok (.aload_n 0, 1) := by decide +kernel
theorem dX0_doStroke_94 : decode cX0_doStroke 94 = .ok (.getfield 23, 3) := by decide +kernel
theorem dX0_doStroke_97 : decode cX0_doStroke 97 = .ok (.aload_n 0, 1) := by decide +kernel
theorem dX0_doStroke_98 : decode cX0_doStroke 98 = .ok (.getfield 39, 3) := by decide +kernel
theorem dX0_doStroke_101 : decode cX0_doStroke 101 = .ok (.iload_n 1, 1) := by decide +kernel
theorem dX0_doStroke_102 : decode cX0_doStroke 102 = .ok (.iastore, 1) := by decide +kernel
theorem dX0_doStroke_103 : decode cX0_doStroke 103 = .ok (.aload_n 0, 1) := by decide +kernel
theorem dX0_doStroke_104 : decode cX0_doStroke 104 = .ok (.getfield 26, 3) := by decide +kernel
theorem dX0_doStroke_107 : decode cX0_doStroke 107 = .ok (.aload_n 0, 1) := by decide +kernel
theorem dX0_doStroke_108 : decode cX0_doStroke 108 = .ok (.getfield 39, 3) := by decide +kernel
theorem dX0_doStroke_111 : decode cX0_doStroke 111 = .ok (.iload_n 2, 1) := by decide +kernel
theorem dX0_doStroke_112 : decode cX0_doStroke 112 = .ok (.iastore, 1) := by decide +kernel
theorem dX0_doStroke_113 : decode cX0_doStroke 113 = .ok (.aload_n 0, 1) := by decide +kernel
theorem dX0_doStroke_114 : decode cX0_doStroke 114 = .ok (.getfield 29, 3) := by decide +kernel
theorem dX0_doStroke_117 : decode cX0_doStroke 117 = .ok (.aload_n 0, 1) := by decide +kernel
theorem dX0_doStroke_118 : decode cX0_doStroke 118 = .ok (.getfield 39, 3) := by decide +kernel
theorem dX0_doStroke_121 : decode cX0_doStroke 121 = .ok (.iload_n 3, 1) := by decide +kernel
theorem dX0_doStroke_122 : decode cX0_doStroke 122 = .ok (.iastore, 1) := by decide +kernel
theorem dX0_doStroke_123 : decode cX0_doStroke 123 = .ok (.aload_n 0, 1) := by decide +kernel
theorem dX0_doStroke_124 : decode cX0_doStroke 124 = .ok (.dup, 1) := by decide +kernel
theorem dX0_doStroke_125 : decode cX0_doStroke 125 = .ok (.getfield 39, 3) := by decide +kernel
theorem dX0_doStroke_128 : decode cX0_doStroke 128 = .ok (.iconst 1, 1) := by decide +kernel
theorem dX0_doStroke_129 : decode cX0_doStroke 129 = .ok (.iadd, 1) := by decide +kernel
theorem dX0_doStroke_130 : decode cX0_doStroke 130 = .ok (.putfield 39, 3) := by decide +kernel
theorem dX0_doStroke_133 : decode cX0_doStroke 133 = .ok (.aload_n 0, 1) := by decide +kernel
theorem dX0_doStroke_134 : decode cX0_doStroke 134 = .ok (.dup, 1) := by decide +kernel
theorem dX0_doStroke_135 : decode cX0_doStroke 135 = .ok (.getfield 45, 3) := by decide +kernel
theorem dX0_doStroke_138 : decode cX0_doStroke 138 = .ok (.iconst 1, 1) := by decide +kernel
theorem dX0_doStroke_139 : decode cX0_doStroke 139 = .ok (.iadd, 1) := by decide +kernel
theorem dX0_doStroke_140 : decode cX0_doStroke 140 = .ok (.putfield 45, 3) := by decide +kernel
theorem dX0_doStroke_143 : decode cX0_doStroke 143 = .ok (.return_, 1) := by decide +kernel
theorem dX0_undoLatest_0 : decode cX0_undoLatest 0 = .ok (.aload_n 0, 1) := by decide +kernel
theorem dX0_undoLatest_1 : decode cX0_undoLatest 1 = .ok (.getfield 39, 3) := by decide +kernel
theorem dX0_undoLatest_4 : decode cX0_undoLatest 4 = .ok (.iconst 1, 1) := by decide +kernel
theorem dX0_undoLatest_5 : decode cX0_undoLatest 5 = .ok (.if_icmp .ge 4, 3) := by decide +kernel
theorem dX0_undoLatest_8 : decode cX0_undoLatest 8 = .ok (.return_, 1) := by decide +kernel
theorem dX0_undoLatest_9 : decode cX0_undoLatest 9 = .ok (.aload_n 0, 1) := by decide +kernel
theorem dX0_undoLatest_10 : decode cX0_undoLatest 10 = .ok (.dup, 1) := by decide +kernel
theorem dX0_undoLatest_11 : decode cX0_undoLatest 11 = .ok (.getfield 39, 3) := by decide +kernel
theorem dX0_undoLatest_14 : decode cX0_undoLatest 14 = .ok (.iconst 1, 1) := by decide +kernel
theorem dX0_undoLatest_15 : decode cX0_undoLatest 15 = .ok (.isub, 1) := by decide +kernel
theorem dX0_undoLatest_16 : decode cX0_undoLatest 16 = .ok (.putfield 39, 3) := by decide +kernel
theorem dX0_undoLatest_19 : decode cX0_undoLatest 19 = .ok (.aload_n 0, 1) := by decide +kernel
theorem dX0_undoLatest_20 : decode cX0_undoLatest 20 = .ok (.getfield 26, 3) := by decide +kernel
theorem dX0_undoLatest_23 : decode cX0_undoLatest 23 = .ok (.aload_n 0, 1) := by decide +kernel
theorem dX0_undoLatest_24 : decode cX0_undoLatest 24 = .ok (.getfield 39, 3) := by decide +kernel
theorem dX0_undoLatest_27 : decode cX0_undoLatest 27 = .ok (.iaload, 1) := by decide +kernel
theorem dX0_undoLatest_28 : decode cX0_undoLatest 28 = .ok (.istore_n 1, 1) := by decide +kernel
theorem dX0_undoLatest_29 : decode cX0_undoLatest 29 = .ok (.bipush (-2), 2) := by decide +kernel
theorem dX0_undoLatest_31 : decode cX0_undoLatest 31 = .ok (.istore_n 2, 1) := by decide +kernel
theorem dX0_undoLatest_32 : decode cX0_undoLatest 32 = .ok (.iload_n 2, 1) := by decide +kernel
theorem dX0_undoLatest_33 : decode cX0_undoLatest 33 = .ok (.iconst 2, 1) := by decide +kernel
theorem dX0_undoLatest_34 : decode cX0_undoLatest 34 = .ok (.if_icmp .gt 43, 3) := by decide +kernel
theorem dX0_undoLatest_37 : decode cX0_undoLatest 37 = .ok (.aload_n 0, 1) := by decide +kernel
theorem dX0_undoLatest_38 : decode cX0_undoLatest 38 = .ok (.iload_n 1, 1) := by decide +kernel
theorem dX0_undoLatest_39 : decode cX0_undoLatest 39 = .ok (.iload_n 2, 1) := by decide +kernel
theorem dX0_undoLatest_40 : decode cX0_undoLatest 40 = .ok (.iadd, 1) := by decide +kernel
theorem dX0_undoLatest_41 : decode cX0_undoLatest 41 = .ok (.invokevirtual 67, 3) := by decide +kernel
theorem dX0_undoLatest_44 : decode cX0_undoLatest 44 = .ok (.ifCond .eq 27, 3) := by decide +kernel
theorem dX0_undoLatest_47 : decode cX0_undoLatest 47 = .ok (.aload_n 0, 1) := by decide +kernel
theorem dX0_undoLatest_48 : decode cX0_undoLatest 48 = .ok (.getfield 9, 3) := by decide +kernel
theorem dX0_undoLatest_51 : decode cX0_undoLatest 51 = .ok (.iload_n 1, 1) := by decide +kernel
theorem dX0_undoLatest_52 : decode cX0_undoLatest 52 = .ok (.iload_n 2, 1) := by decide +kernel
theorem dX0_undoLatest_53 : decode cX0_undoLatest 53 = .ok (.iadd, 1) := by decide +kernel
theorem dX0_undoLatest_54 : decode cX0_undoLatest 54 = .ok (.dup2, 1) := by decide +kernel
theorem dX0_undoLatest_55 : decode cX0_undoLatest 55 = .ok (.iaload, 1) := by decide +kernel
theorem dX0_undoLatest_56 : decode cX0_undoLatest 56 = .ok (.aload_n 0, 1) := by decide +kernel
theorem dX0_undoLatest_57 : decode cX0_undoLatest 57 = .ok (.getfield 32, 3) := by decide +kernel
theorem dX0_undoLatest_60 : decode cX0_undoLatest 60 = .ok (.aload_n 0, 1) := by decide +kernel
theorem dX0_undoLatest_61 : decode cX0_undoLatest 61 = .ok (.getfield 39, 3) := by decide +kernel
theorem dX0_undoLatest_64 : decode cX0_undoLatest 64 = .ok (.aaload, 1) := by decide +kernel
theorem dX0_undoLatest_65 : decode cX0_undoLatest 65 = .ok (.iload_n 2, 1) := by decide +kernel
theorem dX0_undoLatest_66 : decode cX0_undoLatest 66 = .ok (.iconst 2, 1) := by decide +kernel
theorem dX0_undoLatest_67 : decode cX0_undoLatest 67 = .ok (.iadd, 1) := by decide +kernel
theorem dX0_undoLatest_68 : decode cX0_undoLatest 68 = .ok (.iaload, 1) := by decide +kernel
theorem dX0_undoLatest_69 : decode cX0_undoLatest 69 = .ok (.iadd, 1) := by decide +kernel
theorem dX0_undoLatest_70 : decode cX0_undoLatest 70 = .ok (.iastore, 1) := by decide +kernel
theorem dX0_undoLatest_71 : decode cX0_undoLatest 71 = .ok (.iinc 2 1, 3) := by decide +kernel
theorem dX0_undoLatest_74 : decode cX0_undoLatest 74 = .ok (.goto (-42), 3) := by decide +kernel
theorem dX0_undoLatest_77 : decode cX0_undoLatest 77 = .ok (.aload_n 0, 1) := by decide +kernel
theorem dX0_undoLatest_78 : decode cX0_undoLatest 78 = .ok (.dup, 1) := by decide +kernel
theorem dX0_undoLatest_79 : decode cX0_undoLatest 79 = .ok (.getfield 45, 3) := by decide +kernel
theorem dX0_undoLatest_82 : decode cX0_undoLatest 82 = .ok (.iconst 1, 1) := by decide +kernel
theorem dX0_undoLatest_83 : decode cX0_undoLatest 83 = .ok (.iadd, 1) := by decide +kernel
theorem dX0_undoLatest_84 : decode cX0_undoLatest 84 = .ok (.putfield 45, 3) := by decide +kernel
theorem dX0_undoLatest_87 : decode cX0_undoLatest 87 = .ok (.return_, 1) := by decide +kernel
theorem dX0_replayed_0 : decode cX0_replayed 0 = .ok (.aload_n 0, 1) := by decide +kernel
theorem dX0_replayed_1 : decode cX0_replayed 1 = .ok (.getfield 15, 3) := by decide +kernel
theorem dX0_replayed_4 : decode cX0_replayed 4 = .ok (.iload_n 1, 1) := by decide +kernel
theorem dX0_replayed_5 : decode cX0_replayed 5 = .ok (.iaload, 1) := by decide +kernel
theorem dX0_replayed_6 : decode cX0_replayed 6 = .ok (.istore_n 3, 1) := by decide +kernel
theorem dX0_replayed_7 : decode cX0_replayed 7 = .ok (.iconst 0, 1) := by decide +kernel
theorem dX0_replayed_8 : decode cX0_replayed 8 = .ok (.istore 4, 2) := by decide +kernel
theorem dX0_replayed_10 : decode cX0_replayed 10 = .ok (.iload 4, 2) := by decide +kernel
theorem dX0_replayed_12 : decode cX0_replayed 12 = .ok (.iload_n 2, 1) := by decide +kernel
theorem dX0_replayed_13 : decode cX0_replayed 13 = .ok (.if_icmp .ge 53, 3) := by decide +kernel
theorem dX0_replayed_16 : decode cX0_replayed 16 = .ok (.iload 4, 2) := by decide +kernel
theorem dX0_replayed_18 : decode cX0_replayed 18 = .ok (.aload_n 0, 1) := by decide +kernel
theorem dX0_replayed_19 : decode cX0_replayed 19 = .ok (.getfield 39, 3) := by decide +kernel
theorem dX0_replayed_22 : decode cX0_replayed 22 = .ok (.if_icmp .ge 44, 3) := by decide +kernel
theorem dX0_replayed_25 : decode cX0_replayed 25 = .ok (.iload_n 1, 1) := by decide +kernel
theorem dX0_replayed_26 : decode cX0_replayed 26 = .ok (.aload_n 0, 1) := by decide +kernel
theorem dX0_replayed_27 : decode cX0_replayed 27 = .ok (.getfield 26, 3) := by decide +kernel
theorem dX0_replayed_30 : decode cX0_replayed 30 = .ok (.iload 4, 2) := by decide +kernel
theorem dX0_replayed_32 : decode cX0_replayed 32 = .ok (.iaload, 1) := by decide +kernel
theorem dX0_replayed_33 : decode cX0_replayed 33 = .ok (.isub, 1) := by decide +kernel
theorem dX0_replayed_34 : decode cX0_replayed 34 = .ok (.istore 5, 2) := by decide +kernel
theorem dX0_replayed_36 : decode cX0_replayed 36 = .ok (.iload_n 3, 1) := by decide +kernel
theorem dX0_replayed_37 : decode cX0_replayed 37 = .ok (.aload_n 0, 1) := by decide +kernel
theorem dX0_replayed_38 : decode cX0_replayed 38 = .ok (.getfield 29, 3) := by decide +kernel
theorem dX0_replayed_41 : decode cX0_replayed 41 = .ok (.iload 4, 2) := by decide +kernel
theorem dX0_replayed_43 : decode cX0_replayed 43 = .ok (.iaload, 1) := by decide +kernel
theorem dX0_replayed_44 : decode cX0_replayed 44 = .ok (.aload_n 0, 1) := by decide +kernel
theorem dX0_replayed_45 : decode cX0_replayed 45 = .ok (.aload_n 0, 1) := by decide +kernel
theorem dX0_replayed_46 : decode cX0_replayed 46 = .ok (.getfield 23, 3) := by decide +kernel
theorem dX0_replayed_49 : decode cX0_replayed 49 = .ok (.iload 4, 2) := by decide +kernel
theorem dX0_replayed_51 : decode cX0_replayed 51 = .ok (.iaload, 1) := by decide +kernel
theorem dX0_replayed_52 : decode cX0_replayed 52 = .ok (.iload 5, 2) := by decide +kernel
theorem dX0_replayed_54 : decode cX0_replayed 54 = .ok (.invokevirtual 71, 3) := by decide +kernel
theorem dX0_replayed_57 : decode cX0_replayed 57 = .ok (.imul, 1) := by decide +kernel
theorem dX0_replayed_58 : decode cX0_replayed 58 = .ok (.isub, 1) := by decide +kernel
theorem dX0_replayed_59 : decode cX0_replayed 59 = .ok (.istore_n 3, 1) := by decide +kernel
theorem dX0_replayed_60 : decode cX0_replayed 60 = .ok (.iinc 4 1, 3) := by decide +kernel
theorem dX0_replayed_63 : decode cX0_replayed 63 = .ok (.goto (-53), 3) := by decide +kernel
theorem dX0_replayed_66 : decode cX0_replayed 66 = .ok (.iload_n 3, 1) := by decide +kernel
theorem dX0_replayed_67 : decode cX0_replayed 67 = .ok (.ireturn, 1) := by decide +kernel
theorem dX1_init_0 : decode cX1_init 0 = .ok (.aload_n 0, 1) := by decide +kernel
theorem dX1_init_1 : decode cX1_init 1 = .ok (.invokespecial 3, 3) := by decide +kernel
theorem dX1_init_4 : decode cX1_init 4 = .ok (.aload_n 0, 1) := by decide +kernel
theorem dX1_init_5 : decode cX1_init 5 = .ok (.sipush 1000, 3) := by decide +kernel
theorem dX1_init_8 : decode cX1_init 8 = .ok (.putfield 9, 3) := by decide +kernel
theorem dX1_init_11 : decode cX1_init 11 = .ok (.aload_n 0, 1) := by decide +kernel
theorem dX1_init_12 : decode cX1_init 12 = .ok (.iconst (-1), 1) := by decide +kernel
theorem dX1_init_13 : decode cX1_init 13 = .ok (.putfield 15, 3) := by decide +kernel
theorem dX1_init_16 : decode cX1_init 16 = .ok (.aload_n 0, 1) := by decide +kernel
theorem dX1_init_17 : decode cX1_init 17 = .ok (.iconst 1, 1) := by decide +kernel
theorem dX1_init_18 : decode cX1_init 18 = .ok (.putfield 18, 3) := by decide +kernel
theorem dX1_init_21 : decode cX1_init 21 = .ok (.return_, 1) := by decide +kernel
theorem dX1_become_0 : decode cX1_become 0 = .ok (.aload_n 0, 1) := by decide +kernel
theorem dX1_become_1 : decode cX1_become 1 = .ok (.iload_n 1, 1) := by decide +kernel
theorem dX1_become_2 : decode cX1_become 2 = .ok (.putfield 9, 3) := by decide +kernel
theorem dX1_become_5 : decode cX1_become 5 = .ok (.aload_n 0, 1) := by decide +kernel
theorem dX1_become_6 : decode cX1_become 6 = .ok (.iload_n 2, 1) := by decide +kernel
theorem dX1_become_7 : decode cX1_become 7 = .ok (.putfield 15, 3) := by decide +kernel
theorem dX1_become_10 : decode cX1_become 10 = .ok (.aload_n 0, 1) := by decide +kernel
theorem dX1_become_11 : decode cX1_become 11 = .ok (.iload_n 3, 1) := by decide +kernel
theorem dX1_become_12 : decode cX1_become 12 = .ok (.putfield 18, 3) := by decide +kernel
theorem dX1_become_15 : decode cX1_become 15 = .ok (.return_, 1) := by decide +kernel
theorem dX1_depthAt_0 : decode cX1_depthAt 0 = .ok (.iload_n 1, 1) := by decide +kernel
theorem dX1_depthAt_1 : decode cX1_depthAt 1 = .ok (.i2l, 1) := by decide +kernel
theorem dX1_depthAt_2 : decode cX1_depthAt 2 = .ok (.iload_n 1, 1) := by decide +kernel
theorem dX1_depthAt_3 : decode cX1_depthAt 3 = .ok (.i2l, 1) := by decide +kernel
theorem dX1_depthAt_4 : decode cX1_depthAt 4 = .ok (.lmul, 1) := by decide +kernel
theorem dX1_depthAt_5 : decode cX1_depthAt 5 = .ok (.lstore_n 3, 1) := by decide +kernel
theorem dX1_depthAt_6 : decode cX1_depthAt 6 = .ok (.ldc2_w 21, 3) := by decide +kernel
theorem dX1_depthAt_9 : decode cX1_depthAt 9 = .ok (.aload_n 0, 1) := by decide +kernel
theorem dX1_depthAt_10 : decode cX1_depthAt 10 = .ok (.getfield 18, 3) := by decide +kernel
theorem dX1_depthAt_13 : decode cX1_depthAt 13 = .ok (.i2l, 1) := by decide +kernel
theorem dX1_depthAt_14 : decode cX1_depthAt 14 = .ok (.lmul, 1) := by decide +kernel
theorem dX1_depthAt_15 : decode cX1_depthAt 15 = .ok (.aload_n 0, 1) := by decide +kernel
theorem dX1_depthAt_16 : decode cX1_depthAt 16 = .ok (.getfield 9, 3) := by decide +kernel
theorem dX1_depthAt_19 : decode cX1_depthAt 19 = .ok (.i2l, 1) := by decide +kernel
theorem dX1_depthAt_20 : decode cX1_depthAt 20 = .ok (.lmul, 1) := by decide +kernel
theorem dX1_depthAt_21 : decode cX1_depthAt 21 = .ok (.aload_n 0, 1) := by decide +kernel
theorem dX1_depthAt_22 : decode cX1_depthAt 22 = .ok (.getfield 9, 3) := by decide +kernel
theorem dX1_depthAt_25 : decode cX1_depthAt 25 = .ok (.i2l, 1) := by decide +kernel
theorem dX1_depthAt_26 : decode cX1_depthAt 26 = .ok (.lmul, 1) := by decide +kernel
theorem dX1_depthAt_27 : decode cX1_depthAt 27 = .ok (.lload_n 3, 1) := by decide +kernel
theorem dX1_depthAt_28 : decode cX1_depthAt 28 = .ok (.lmul, 1) := by decide +kernel
theorem dX1_depthAt_29 : decode cX1_depthAt 29 = .ok (.aload_n 0, 1) := by decide +kernel
theorem dX1_depthAt_30 : decode cX1_depthAt 30 = .ok (.getfield 15, 3) := by decide +kernel
theorem dX1_depthAt_33 : decode cX1_depthAt 33 = .ok (.aload_n 0, 1) := by decide +kernel
theorem dX1_depthAt_34 : decode cX1_depthAt 34 = .ok (.getfield 18, 3) := by decide +kernel
theorem dX1_depthAt_37 : decode cX1_depthAt 37 = .ok (.iadd, 1) := by decide +kernel
theorem dX1_depthAt_38 : decode cX1_depthAt 38 = .ok (.i2l, 1) := by decide +kernel
theorem dX1_depthAt_39 : decode cX1_depthAt 39 = .ok (.lload_n 3, 1) := by decide +kernel
theorem dX1_depthAt_40 : decode cX1_depthAt 40 = .ok (.lmul, 1) := by decide +kernel
theorem dX1_depthAt_41 : decode cX1_depthAt 41 = .ok (.lload_n 3, 1) := by decide +kernel
theorem dX1_depthAt_42 : decode cX1_depthAt 42 = .ok (.lmul, 1) := by decide +kernel
theorem dX1_depthAt_43 : decode cX1_depthAt 43 = .ok (.ladd, 1) := by decide +kernel
theorem dX1_depthAt_44 : decode cX1_depthAt 44 = .ok (.lstore 5, 2) := by decide +kernel
theorem dX1_depthAt_46 : decode cX1_depthAt 46 = .ok (.ldc2_w 23, 3) := by decide +kernel
theorem dX1_depthAt_49 : decode cX1_depthAt 49 = .ok (.aload_n 0, 1) := by decide +kernel
theorem dX1_depthAt_50 : decode cX1_depthAt 50 = .ok (.getfield 18, 3) := by decide +kernel
theorem dX1_depthAt_53 : decode cX1_depthAt 53 = .ok (.i2l, 1) := by decide +kernel
theorem dX1_depthAt_54 : decode cX1_depthAt 54 = .ok (.lmul, 1) := by decide +kernel
theorem dX1_depthAt_55 : decode cX1_depthAt 55 = .ok (.aload_n 0, 1) := by decide +kernel
theorem dX1_depthAt_56 : decode cX1_depthAt 56 = .ok (.getfield 9, 3) := by decide +kernel
theorem dX1_depthAt_59 : decode cX1_depthAt 59 = .ok (.i2l, 1) := by decide +kernel
theorem dX1_depthAt_60 : decode cX1_depthAt 60 = .ok (.lmul, 1) := by decide +kernel
theorem dX1_depthAt_61 : decode cX1_depthAt 61 = .ok (.aload_n 0, 1) := by decide +kernel
theorem dX1_depthAt_62 : decode cX1_depthAt 62 = .ok (.getfield 9, 3) := by decide +kernel
theorem dX1_depthAt_65 : decode cX1_depthAt 65 = .ok (.i2l, 1) := by decide +kernel
theorem dX1_depthAt_66 : decode cX1_depthAt 66 = .ok (.lmul, 1) := by decide +kernel
theorem dX1_depthAt_67 : decode cX1_depthAt 67 = .ok (.aload_n 0, 1) := by decide +kernel
theorem dX1_depthAt_68 : decode cX1_depthAt 68 = .ok (.getfield 9, 3) := by decide +kernel
theorem dX1_depthAt_71 : decode cX1_depthAt 71 = .ok (.i2l, 1) := by decide +kernel
theorem dX1_depthAt_72 : decode cX1_depthAt 72 = .ok (.lmul, 1) := by decide +kernel
theorem dX1_depthAt_73 : decode cX1_depthAt 73 = .ok (.lstore 7, 2) := by decide +kernel
theorem dX1_depthAt_75 : decode cX1_depthAt 75 = .ok (.lload 5, 2) := by decide +kernel
theorem dX1_depthAt_77 : decode cX1_depthAt 77 = .ok (.invokestatic 25, 3) := by decide +kernel
theorem dX1_depthAt_80 : decode cX1_depthAt 80 = .ok (.lload 7, 2) := by decide +kernel
theorem dX1_depthAt_82 : decode cX1_depthAt 82 = .ok (.invokestatic 31, 3) := by decide +kernel
theorem dX1_depthAt_85 : decode cX1_depthAt 85 = .ok (.lstore 9, 2) := by decide +kernel
theorem dX1_depthAt_87 : decode cX1_depthAt 87 = .ok (.lload 9, 2) := by decide +kernel
theorem dX1_depthAt_89 : decode cX1_depthAt 89 = .ok (.lconst 1, 1) := by decide +kernel
theorem dX1_depthAt_90 : decode cX1_depthAt 90 = .ok (.lcmp, 1) := by decide +kernel
theorem dX1_depthAt_91 : decode cX1_depthAt 91 = .ok (.ifCond .ge 7, 3) := by decide +kernel
theorem dX1_depthAt_94 : decode cX1_depthAt 94 = .ok (.ldc2_w 35, 3) := by decide +kernel
theorem dX1_depthAt_97 : decode cX1_depthAt 97 = .ok (.lreturn, 1) := by decide +kernel
theorem dX1_depthAt_98 : decode cX1_depthAt 98 = .ok (.iload_n 2, 1) := by decide +kernel
theorem dX1_depthAt_99 : decode cX1_depthAt 99 = .ok (.ifCond .eq 8, 3) := by decide +kernel
theorem dX1_depthAt_102 : decode cX1_depthAt 102 = .ok (.lload 5, 2) := by decide +kernel
theorem dX1_depthAt_104 : decode cX1_depthAt 104 = .ok (.goto 5, 3) := by decide +kernel
theorem dX1_depthAt_107 : decode cX1_depthAt 107 = .ok (.lload 7, 2) := by decide +kernel
theorem dX1_depthAt_109 : decode cX1_depthAt 109 = .ok (.lload 9, 2) := by decide +kernel
theorem dX1_depthAt_111 : decode cX1_depthAt 111 = .ok (.ldiv, 1) := by decide +kernel
theorem dX1_depthAt_112 : decode cX1_depthAt 112 = .ok (.lreturn, 1) := by decide +kernel
theorem dX1_sharedDivisor_0 : decode cX1_sharedDivisor 0 = .ok (.iconst 0, 1) := by decide +kernel
theorem dX1_sharedDivisor_1 : decode cX1_sharedDivisor 1 = .ok (.istore 4, 2) := by decide +kernel
theorem dX1_sharedDivisor_3 : decode cX1_sharedDivisor 3 = .ok (.iload 4, 2) := by decide +kernel
theorem dX1_sharedDivisor_5 : decode cX1_sharedDivisor 5 = .ok (.sipush 200, 3) := by decide +kernel
theorem dX1_sharedDivisor_8 : decode cX1_sharedDivisor 8 = .ok (.if_icmp .ge 25, 3) := by decide +kernel
theorem dX1_sharedDivisor_11 : decode cX1_sharedDivisor 11 = .ok (.lload_n 2, 1) := by decide +kernel
theorem dX1_sharedDivisor_12 : decode cX1_sharedDivisor 12 = .ok (.lconst 0, 1) := by decide +kernel
theorem dX1_sharedDivisor_13 : decode cX1_sharedDivisor 13 = .ok (.lcmp, 1) := by decide +kernel
theorem dX1_sharedDivisor_14 : decode cX1_sharedDivisor 14 = .ok (.ifCond .eq 19, 3) := by decide +kernel
theorem dX1_sharedDivisor_17 : decode cX1_sharedDivisor 17 = .ok (.lload_n 0, 1) := by decide +kernel
theorem dX1_sharedDivisor_18 : decode cX1_sharedDivisor 18 = .ok (.lload_n 2, 1) := by decide +kernel
theorem dX1_sharedDivisor_19 : decode cX1_sharedDivisor 19 = .ok (.lrem, 1) := by decide +kernel
theorem dX1_sharedDivisor_20 : decode cX1_sharedDivisor 20 = .ok (.lstore 5, 2) := by decide +kernel
theorem dX1_sharedDivisor_22 : decode cX1_sharedDivisor 22 = .ok (.lload_n 2, 1) := by decide +kernel
theorem dX1_sharedDivisor_23 : decode cX1_sharedDivisor 23 = .ok (.lstore_n 0, 1) := by decide +kernel
theorem dX1_sharedDivisor_24 : decode cX1_sharedDivisor 24 = .ok (.lload 5, 2) := by decide +kernel
theorem dX1_sharedDivisor_26 : decode cX1_sharedDivisor 26 = .ok (.lstore_n 2, 1) := by decide +kernel
theorem dX1_sharedDivisor_27 : decode cX1_sharedDivisor 27 = .ok (.iinc 4 1, 3) := by decide +kernel
theorem dX1_sharedDivisor_30 : decode cX1_sharedDivisor 30 = .ok (.goto (-27), 3) := by decide +kernel
theorem dX1_sharedDivisor_33 : decode cX1_sharedDivisor 33 = .ok (.lload_n 0, 1) := by decide +kernel
theorem dX1_sharedDivisor_34 : decode cX1_sharedDivisor 34 = .ok (.lreturn, 1) := by decide +kernel
theorem dX2_init_0 : decode cX2_init 0 = .ok (.aload_n 0, 1) := by decide +kernel
theorem dX2_init_1 : decode cX2_init 1 = .ok (.invokespecial 3, 3) := by decide +kernel
theorem dX2_init_4 : decode cX2_init 4 = .ok (.aload_n 0, 1) := by decide +kernel
theorem dX2_init_5 : decode cX2_init 5 = .ok (.bipush 6, 2) := by decide +kernel
theorem dX2_init_7 : decode cX2_init 7 = .ok (.newarray .int, 2) := by decide +kernel
theorem dX2_init_9 : decode cX2_init 9 = .ok (.putfield 9, 3) := by decide +kernel
theorem dX2_init_12 : decode cX2_init 12 = .ok (.aload_n 0, 1) := by decide +kernel
theorem dX2_init_13 : decode cX2_init 13 = .ok (.bipush 6, 2) := by decide +kernel
theorem dX2_init_15 : decode cX2_init 15 = .ok (.newarray .int, 2) := by decide +kernel
theorem dX2_init_17 : decode cX2_init 17 = .ok (.putfield 15, 3) := by decide +kernel
theorem dX2_init_20 : decode cX2_init 20 = .ok (.aload_n 0, 1) := by decide +kernel
theorem dX2_init_21 : decode cX2_init 21 = .ok (.bipush 7, 2) := by decide +kernel
theorem dX2_init_23 : decode cX2_init 23 = .ok (.sipush 2101, 3) := by decide +kernel
theorem dX2_init_26 : decode cX2_init 26 = .ok (.multianewarray 18 2, 4) := by decide +kernel
theorem dX2_init_30 : decode cX2_init 30 = .ok (.putfield 20, 3) := by decide +kernel
theorem dX2_init_33 : decode cX2_init 33 = .ok (.aload_n 0, 1) := by decide +kernel
theorem dX2_init_34 : decode cX2_init 34 = .ok (.iconst 0, 1) := by decide +kernel
theorem dX2_init_35 : decode cX2_init 35 = .ok (.putfield 23, 3) := by decide +kernel
theorem dX2_init_38 : decode cX2_init 38 = .ok (.aload_n 0, 1) := by decide +kernel
theorem dX2_init_39 : decode cX2_init 39 = .ok (.iconst 0, 1) := by decide +kernel
theorem dX2_init_40 : decode cX2_init 40 = .ok (.putfield 27, 3) := by decide +kernel
theorem dX2_init_43 : decode cX2_init 43 = .ok (.aload_n 0, 1) := by decide +kernel
theorem dX2_init_44 : decode cX2_init 44 = .ok (.iconst 0, 1) := by decide +kernel
theorem dX2_init_45 : decode cX2_init 45 = .ok (.putfield 30, 3) := by decide +kernel
theorem dX2_init_48 : decode cX2_init 48 = .ok (.return_, 1) := by decide +kernel
theorem dX2_howMany_0 : decode cX2_howMany 0 = .ok (.aload_n 0, 1) := by decide +kernel
theorem dX2_howMany_1 : decode cX2_howMany 1 = .ok (.getfield 23, 3) := by decide +kernel
theorem dX2_howMany_4 : decode cX2_howMany 4 = .ok (.ireturn, 1) := by decide +kernel
theorem dX2_come_0 : decode cX2_come 0 = .ok (.aload_n 0, 1) := by decide +kernel
theorem dX2_come_1 : decode cX2_come 1 = .ok (.getfield 23, 3) := by decide +kernel
theorem dX2_come_4 : decode cX2_come 4 = .ok (.bipush 6, 2) := by decide +kernel
theorem dX2_come_6 : decode cX2_come 6 = .ok (.if_icmp .lt 6, 3) := by decide +kernel
theorem dX2_come_9 : decode cX2_come 9 = .ok (.bipush (-3), 2) := by decide +kernel
theorem dX2_come_11 : decode cX2_come 11 = .ok (.ireturn, 1) := by decide +kernel
theorem dX2_come_12 : decode cX2_come 12 = .ok (.aload_n 0, 1) := by decide +kernel
theorem dX2_come_13 : decode cX2_come 13 = .ok (.getfield 9, 3) := by decide +kernel
theorem dX2_come_16 : decode cX2_come 16 = .ok (.aload_n 0, 1) := by decide +kernel
theorem dX2_come_17 : decode cX2_come 17 = .ok (.getfield 23, 3) := by decide +kernel
theorem dX2_come_20 : decode cX2_come 20 = .ok (.iload_n 1, 1) := by decide +kernel
theorem dX2_come_21 : decode cX2_come 21 = .ok (.iastore, 1) := by decide +kernel
theorem dX2_come_22 : decode cX2_come 22 = .ok (.aload_n 0, 1) := by decide +kernel
theorem dX2_come_23 : decode cX2_come 23 = .ok (.getfield 15, 3) := by decide +kernel
theorem dX2_come_26 : decode cX2_come 26 = .ok (.aload_n 0, 1) := by decide +kernel
theorem dX2_come_27 : decode cX2_come 27 = .ok (.getfield 23, 3) := by decide +kernel
theorem dX2_come_30 : decode cX2_come 30 = .ok (.iload_n 2, 1) := by decide +kernel
theorem dX2_come_31 : decode cX2_come 31 = .ok (.iastore, 1) := by decide +kernel
theorem dX2_come_32 : decode cX2_come 32 = .ok (.aload_n 0, 1) := by decide +kernel
theorem dX2_come_33 : decode cX2_come 33 = .ok (.dup, 1) := by decide +kernel
theorem dX2_come_34 : decode cX2_come 34 = .ok (.getfield 23, 3) := by decide +kernel
theorem dX2_come_37 : decode cX2_come 37 = .ok (.iconst 1, 1) := by decide +kernel
theorem dX2_come_38 : decode cX2_come 38 = .ok (.iadd, 1) := by decide +kernel
theorem dX2_come_39 : decode cX2_come 39 = .ok (.putfield 23, 3) := by decide +kernel
theorem dX2_come_42 : decode cX2_come 42 = .ok (.aload_n 0, 1) := by decide +kernel
theorem dX2_come_43 : decode cX2_come 43 = .ok (.iconst 0, 1) := by decide +kernel
theorem dX2_come_44 : decode cX2_come 44 = .ok (.putfield 30, 3) := by decide +kernel
theorem dX2_come_47 : decode cX2_come 47 = .ok (.aload_n 0, 1) := by decide +kernel
theorem dX2_come_48 : decode cX2_come 48 = .ok (.getfield 23, 3) := by decide +kernel
theorem dX2_come_51 : decode cX2_come 51 = .ok (.iconst 1, 1) := by decide +kernel
theorem dX2_come_52 : decode cX2_come 52 = .ok (.isub, 1) := by decide +kernel
theorem dX2_come_53 : decode cX2_come 53 = .ok (.ireturn, 1) := by decide +kernel
theorem dX2_tellSlack_0 : decode cX2_tellSlack 0 = .ok (.aload_n 0, 1) := by decide +kernel
theorem dX2_tellSlack_1 : decode cX2_tellSlack 1 = .ok (.getfield 27, 3) := by decide +kernel
theorem dX2_tellSlack_4 : decode cX2_tellSlack 4 = .ok (.istore_n 2, 1) := by decide +kernel
theorem dX2_tellSlack_5 : decode cX2_tellSlack 5 = .ok (.aload_n 0, 1) := by decide +kernel
theorem dX2_tellSlack_6 : decode cX2_tellSlack 6 = .ok (.iload_n 1, 1) := by decide +kernel
theorem dX2_tellSlack_7 : decode cX2_tellSlack 7 = .ok (.putfield 27, 3) := by decide +kernel
theorem dX2_tellSlack_10 : decode cX2_tellSlack 10 = .ok (.iload_n 2, 1) := by decide +kernel
theorem dX2_tellSlack_11 : decode cX2_tellSlack 11 = .ok (.ireturn, 1) := by decide +kernel
theorem dX2_fewestFor_0 : decode cX2_fewestFor 0 = .ok (.aload_n 0, 1) := by decide +kernel
theorem dX2_fewestFor_1 : decode cX2_fewestFor 1 = .ok (.invokevirtual 34, 3) := by decide +kernel
theorem dX2_fewestFor_4 : decode cX2_fewestFor 4 = .ok (.aload_n 0, 1) := by decide +kernel
theorem dX2_fewestFor_5 : decode cX2_fewestFor 5 = .ok (.iconst (-1), 1) := by decide +kernel
theorem dX2_fewestFor_6 : decode cX2_fewestFor 6 = .ok (.iload_n 1, 1) := by decide +kernel
theorem dX2_fewestFor_7 : decode cX2_fewestFor 7 = .ok (.iload_n 1, 1) := by decide +kernel
theorem dX2_fewestFor_8 : decode cX2_fewestFor 8 = .ok (.aload_n 0, 1) := by decide +kernel
theorem dX2_fewestFor_9 : decode cX2_fewestFor 9 = .ok (.getfield 27, 3) := by decide +kernel
theorem dX2_fewestFor_12 : decode cX2_fewestFor 12 = .ok (.iadd, 1) := by decide +kernel
theorem dX2_fewestFor_13 : decode cX2_fewestFor 13 = .ok (.invokevirtual 37, 3) := by decide +kernel
theorem dX2_fewestFor_16 : decode cX2_fewestFor 16 = .ok (.istore_n 2, 1) := by decide +kernel
theorem dX2_fewestFor_17 : decode cX2_fewestFor 17 = .ok (.iload_n 2, 1) := by decide +kernel
theorem dX2_fewestFor_18 : decode cX2_fewestFor 18 = .ok (.sipush 1000, 3) := by decide +kernel
theorem dX2_fewestFor_21 : decode cX2_fewestFor 21 = .ok (.if_icmp .ge 7, 3) := by decide +kernel
theorem dX2_fewestFor_24 : decode cX2_fewestFor 24 = .ok (.iload_n 2, 1) := by decide +kernel
theorem dX2_fewestFor_25 : decode cX2_fewestFor 25 = .ok (.goto 5, 3) := by decide +kernel
theorem dX2_fewestFor_28 : decode cX2_fewestFor 28 = .ok (.bipush (-4), 2) := by decide +kernel
theorem dX2_fewestFor_30 : decode cX2_fewestFor 30 = .ok (.ireturn, 1) := by decide +kernel
theorem dX2_wetsOf_0 : decode cX2_wetsOf 0 = .ok (.aload_n 0, 1) := by decide +kernel
theorem dX2_wetsOf_1 : decode cX2_wetsOf 1 = .ok (.iload_n 1, 1) := by decide +kernel
theorem dX2_wetsOf_2 : decode cX2_wetsOf 2 = .ok (.invokevirtual 41, 3) := by decide +kernel
theorem dX2_wetsOf_5 : decode cX2_wetsOf 5 = .ok (.istore_n 3, 1) := by decide +kernel
theorem dX2_wetsOf_6 : decode cX2_wetsOf 6 = .ok (.iload_n 3, 1) := by decide +kernel
theorem dX2_wetsOf_7 : decode cX2_wetsOf 7 = .ok (.bipush (-4), 2) := by decide +kernel
theorem dX2_wetsOf_9 : decode cX2_wetsOf 9 = .ok (.if_icmp .ne 6, 3) := by decide +kernel
theorem dX2_wetsOf_12 : decode cX2_wetsOf 12 = .ok (.bipush (-4), 2) := by decide +kernel
theorem dX2_wetsOf_14 : decode cX2_wetsOf 14 = .ok (.ireturn, 1) := by decide +kernel
theorem dX2_wetsOf_15 : decode cX2_wetsOf 15 = .ok (.iconst (-1), 1) := by decide +kernel
theorem dX2_wetsOf_16 : decode cX2_wetsOf 16 = .ok (.istore 4, 2) := by decide +kernel
theorem dX2_wetsOf_18 : decode cX2_wetsOf 18 = .ok (.iload_n 1, 1) := by decide +kernel
theorem dX2_wetsOf_19 : decode cX2_wetsOf 19 = .ok (.istore 5, 2) := by decide +kernel
theorem dX2_wetsOf_21 : decode cX2_wetsOf 21 = .ok (.iconst 0, 1) := by decide +kernel
theorem dX2_wetsOf_22 : decode cX2_wetsOf 22 = .ok (.istore 6, 2) := by decide +kernel
theorem dX2_wetsOf_24 : decode cX2_wetsOf 24 = .ok (.iconst 0, 1) := by decide +kernel
theorem dX2_wetsOf_25 : decode cX2_wetsOf 25 = .ok (.istore 7, 2) := by decide +kernel
theorem dX2_wetsOf_27 : decode cX2_wetsOf 27 = .ok (.iload 7, 2) := by decide +kernel
theorem dX2_wetsOf_29 : decode cX2_wetsOf 29 = .ok (.iload_n 2, 1) := by decide +kernel
theorem dX2_wetsOf_30 : decode cX2_wetsOf 30 = .ok (.if_icmp .gt 60, 3) := by decide +kernel
theorem dX2_wetsOf_33 : decode cX2_wetsOf 33 = .ok (.iload 7, 2) := by decide +kernel
theorem dX2_wetsOf_35 : decode cX2_wetsOf 35 = .ok (.aload_n 0, 1) := by decide +kernel
theorem dX2_wetsOf_36 : decode cX2_wetsOf 36 = .ok (.getfield 23, 3) := by decide +kernel
theorem dX2_wetsOf_39 : decode cX2_wetsOf 39 = .ok (.if_icmp .ge 51, 3) := by decide +kernel
theorem dX2_wetsOf_42 : decode cX2_wetsOf 42 = .ok (.aload_n 0, 1) := by decide +kernel
theorem dX2_wetsOf_43 : decode cX2_wetsOf 43 = .ok (.iload 4, 2) := by decide +kernel
theorem dX2_wetsOf_45 : decode cX2_wetsOf 45 = .ok (.iload 7, 2) := by decide +kernel
theorem dX2_wetsOf_47 : decode cX2_wetsOf 47 = .ok (.iload 5, 2) := by decide +kernel
theorem dX2_wetsOf_49 : decode cX2_wetsOf 49 = .ok (.iload_n 3, 1) := by decide +kernel
theorem dX2_wetsOf_50 : decode cX2_wetsOf 50 = .ok (.invokevirtual 45, 3) := by decide +kernel
theorem dX2_wetsOf_53 : decode cX2_wetsOf 53 = .ok (.istore 6, 2) := by decide +kernel
theorem dX2_wetsOf_55 : decode cX2_wetsOf 55 = .ok (.iload 6, 2) := by decide +kernel
theorem dX2_wetsOf_57 : decode cX2_wetsOf 57 = .ok (.ifCond .le 27, 3) := by decide +kernel
theorem dX2_wetsOf_60 : decode cX2_wetsOf 60 = .ok (.iload 7, 2) := by decide +kernel
theorem dX2_wetsOf_62 : decode cX2_wetsOf 62 = .ok (.istore 4, 2) := by decide +kernel
theorem dX2_wetsOf_64 : decode cX2_wetsOf 64 = .ok (.iload 5, 2) := by decide +kernel
theorem dX2_wetsOf_66 : decode cX2_wetsOf 66 = .ok (.iload 6, 2) := by decide +kernel
theorem dX2_wetsOf_68 : decode cX2_wetsOf 68 = .ok (.aload_n 0, 1) := by decide +kernel
theorem dX2_wetsOf_69 : decode cX2_wetsOf 69 = .ok (.getfield 9, 3) := by decide +kernel
theorem dX2_wetsOf_72 : decode cX2_wetsOf 72 = .ok (.iload 7, 2) := by decide +kernel
theorem dX2_wetsOf_74 : decode cX2_wetsOf 74 = .ok (.iaload, 1) := by decide +kernel
theorem dX2_wetsOf_75 : decode cX2_wetsOf 75 = .ok (.imul, 1) := by decide +kernel
theorem dX2_wetsOf_76 : decode cX2_wetsOf 76 = .ok (.isub, 1) := by decide +kernel
theorem dX2_wetsOf_77 : decode cX2_wetsOf 77 = .ok (.istore 5, 2) := by decide +kernel
theorem dX2_wetsOf_79 : decode cX2_wetsOf 79 = .ok (.iload_n 3, 1) := by decide +kernel
theorem dX2_wetsOf_80 : decode cX2_wetsOf 80 = .ok (.iload 6, 2) := by decide +kernel
theorem dX2_wetsOf_82 : decode cX2_wetsOf 82 = .ok (.isub, 1) := by decide +kernel
theorem dX2_wetsOf_83 : decode cX2_wetsOf 83 = .ok (.istore_n 3, 1) := by decide +kernel
theorem dX2_wetsOf_84 : decode cX2_wetsOf 84 = .ok (.iinc 7 1, 3) := by decide +kernel
theorem dX2_wetsOf_87 : decode cX2_wetsOf 87 = .ok (.goto (-60), 3) := by decide +kernel
theorem dX2_wetsOf_90 : decode cX2_wetsOf 90 = .ok (.iload 6, 2) := by decide +kernel
theorem dX2_wetsOf_92 : decode cX2_wetsOf 92 = .ok (.ireturn, 1) := by decide +kernel
theorem dX2_mostThatServe_0 : decode cX2_mostThatServe 0 = .ok (.bipush 30, 2) := by decide +kernel
theorem dX2_mostThatServe_2 : decode cX2_mostThatServe 2 = .ok (.istore 5, 2) := by decide +kernel
theorem dX2_mostThatServe_4 : decode cX2_mostThatServe 4 = .ok (.iload 5, 2) := by decide +kernel
theorem dX2_mostThatServe_6 : decode cX2_mostThatServe 6 = .ok (.ifCond .le 64, 3) := by decide +kernel
theorem dX2_mostThatServe_9 : decode cX2_mostThatServe 9 = .ok (.iload_n 3, 1) := by decide +kernel
theorem dX2_mostThatServe_10 : decode cX2_mostThatServe 10 = .ok (.iload 5, 2) := by decide +kernel
theorem dX2_mostThatServe_12 : decode cX2_mostThatServe 12 = .ok (.aload_n 0, 1) := by decide +kernel
theorem dX2_mostThatServe_13 : decode cX2_mostThatServe 13 = .ok (.getfield 9, 3) := by decide +kernel
theorem dX2_mostThatServe_16 : decode cX2_mostThatServe 16 = .ok (.iload_n 2, 1) := by decide +kernel
theorem dX2_mostThatServe_17 : decode cX2_mostThatServe 17 = .ok (.iaload, 1) := by decide +kernel
theorem dX2_mostThatServe_18 : decode cX2_mostThatServe 18 = .ok (.imul, 1) := by decide +kernel
theorem dX2_mostThatServe_19 : decode cX2_mostThatServe 19 = .ok (.isub, 1) := by decide +kernel
theorem dX2_mostThatServe_20 : decode cX2_mostThatServe 20 = .ok (.istore 6, 2) := by decide +kernel
theorem dX2_mostThatServe_22 : decode cX2_mostThatServe 22 = .ok (.aload_n 0, 1) := by decide +kernel
theorem dX2_mostThatServe_23 : decode cX2_mostThatServe 23 = .ok (.iload_n 1, 1) := by decide +kernel
theorem dX2_mostThatServe_24 : decode cX2_mostThatServe 24 = .ok (.iload 5, 2) := by decide +kernel
theorem dX2_mostThatServe_26 : decode cX2_mostThatServe 26 = .ok (.aload_n 0, 1) := by decide +kernel
theorem dX2_mostThatServe_27 : decode cX2_mostThatServe 27 = .ok (.getfield 9, 3) := by decide +kernel
theorem dX2_mostThatServe_30 : decode cX2_mostThatServe 30 = .ok (.iload_n 2, 1) := by decide +kernel
theorem dX2_mostThatServe_31 : decode cX2_mostThatServe 31 = .ok (.iaload, 1) := by decide +kernel
theorem dX2_mostThatServe_32 : decode cX2_mostThatServe 32 = .ok (.imul, 1) := by decide +kernel
theorem dX2_mostThatServe_33 : decode cX2_mostThatServe 33 = .ok (.invokevirtual 49, 3) := by decide +kernel
theorem dX2_mostThatServe_36 : decode cX2_mostThatServe 36 = .ok (.ifCond .eq 28, 3) := by decide +kernel
theorem dX2_mostThatServe_39 : decode cX2_mostThatServe 39 = .ok (.aload_n 0, 1) := by decide +kernel
theorem dX2_mostThatServe_40 : decode cX2_mostThatServe 40 = .ok (.iload_n 2, 1) := by decide +kernel
theorem dX2_mostThatServe_41 : decode cX2_mostThatServe 41 = .ok (.iload 6, 2) := by decide +kernel
theorem dX2_mostThatServe_43 : decode cX2_mostThatServe 43 = .ok (.iload 6, 2) := by decide +kernel
theorem dX2_mostThatServe_45 : decode cX2_mostThatServe 45 = .ok (.aload_n 0, 1) := by decide +kernel
theorem dX2_mostThatServe_46 : decode cX2_mostThatServe 46 = .ok (.getfield 27, 3) := by decide +kernel
theorem dX2_mostThatServe_49 : decode cX2_mostThatServe 49 = .ok (.iadd, 1) := by decide +kernel
theorem dX2_mostThatServe_50 : decode cX2_mostThatServe 50 = .ok (.invokevirtual 37, 3) := by decide +kernel
theorem dX2_mostThatServe_53 : decode cX2_mostThatServe 53 = .ok (.iload 4, 2) := by decide +kernel
theorem dX2_mostThatServe_55 : decode cX2_mostThatServe 55 = .ok (.iload 5, 2) := by decide +kernel
theorem dX2_mostThatServe_57 : decode cX2_mostThatServe 57 = .ok (.isub, 1) := by decide +kernel
theorem dX2_mostThatServe_58 : decode cX2_mostThatServe 58 = .ok (.if_icmp .ne 6, 3) := by decide +kernel
theorem dX2_mostThatServe_61 : decode cX2_mostThatServe 61 = .ok (.iload 5, 2) := by decide +kernel
theorem dX2_mostThatServe_63 : decode cX2_mostThatServe 63 = .ok (.ireturn, 1) := by decide +kernel
theorem dX2_mostThatServe_64 : decode cX2_mostThatServe 64 = .ok (.iinc 5 (-1), 3) := by decide +kernel
theorem dX2_mostThatServe_67 : decode cX2_mostThatServe 67 = .ok (.goto (-63), 3) := by decide +kernel
theorem dX2_mostThatServe_70 : decode cX2_mostThatServe 70 = .ok (.iconst 0, 1) := by decide +kernel
theorem dX2_mostThatServe_71 : decode cX2_mostThatServe 71 = .ok (.ireturn, 1) := by decide +kernel
theorem dX2_clears_0 : decode cX2_clears 0 = .ok (.iload_n 1, 1) := by decide +kernel
theorem dX2_clears_1 : decode cX2_clears 1 = .ok (.ifCond .lt 15, 3) := by decide +kernel
theorem dX2_clears_4 : decode cX2_clears 4 = .ok (.iload_n 2, 1) := by decide +kernel
theorem dX2_clears_5 : decode cX2_clears 5 = .ok (.iconst 3, 1) := by decide +kernel
theorem dX2_clears_6 : decode cX2_clears 6 = .ok (.aload_n 0, 1) := by decide +kernel
theorem dX2_clears_7 : decode cX2_clears 7 = .ok (.getfield 15, 3) := by decide +kernel
theorem dX2_clears_10 : decode cX2_clears 10 = .ok (.iload_n 1, 1) := by decide +kernel
theorem dX2_clears_11 : decode cX2_clears 11 = .ok (.iaload, 1) := by decide +kernel
theorem dX2_clears_12 : decode cX2_clears 12 = .ok (.imul, 1) := by decide +kernel
theorem dX2_clears_13 : decode cX2_clears 13 = .ok (.if_icmp .lt 7, 3) := by decide +kernel
theorem dX2_clears_16 : decode cX2_clears 16 = .ok (.iconst 1, 1) := by decide +kernel
theorem dX2_clears_17 : decode cX2_clears 17 = .ok (.goto 4, 3) := by decide +kernel
theorem dX2_clears_20 : decode cX2_clears 20 = .ok (.iconst 0, 1) := by decide +kernel
theorem dX2_clears_21 : decode cX2_clears 21 = .ok (.ireturn, 1) := by decide +kernel
theorem dX2_fewestWithin_0 : decode cX2_fewestWithin 0 = .ok (.aload_n 0, 1) := by decide +kernel
theorem dX2_fewestWithin_1 : decode cX2_fewestWithin 1 = .ok (.getfield 20, 3) := by decide +kernel
theorem dX2_fewestWithin_4 : decode cX2_fewestWithin 4 = .ok (.iload_n 1, 1) := by decide +kernel
theorem dX2_fewestWithin_5 : decode cX2_fewestWithin 5 = .ok (.iconst 1, 1) := by decide +kernel
theorem dX2_fewestWithin_6 : decode cX2_fewestWithin 6 = .ok (.iadd, 1) := by decide +kernel
theorem dX2_fewestWithin_7 : decode cX2_fewestWithin 7 = .ok (.aaload, 1) := by decide +kernel
theorem dX2_fewestWithin_8 : decode cX2_fewestWithin 8 = .ok (.astore 4, 2) := by decide +kernel
theorem dX2_fewestWithin_10 : decode cX2_fewestWithin 10 = .ok (.sipush 1000, 3) := by decide +kernel
theorem dX2_fewestWithin_13 : decode cX2_fewestWithin 13 = .ok (.istore 5, 2) := by decide +kernel
theorem dX2_fewestWithin_15 : decode cX2_fewestWithin 15 = .ok (.iload_n 2, 1) := by decide +kernel
theorem dX2_fewestWithin_16 : decode cX2_fewestWithin 16 = .ok (.iconst 0, 1) := by decide +kernel
theorem dX2_fewestWithin_17 : decode cX2_fewestWithin 17 = .ok (.invokestatic 53, 3) := by decide +kernel
theorem dX2_fewestWithin_20 : decode cX2_fewestWithin 20 = .ok (.istore 6, 2) := by decide +kernel
theorem dX2_fewestWithin_22 : decode cX2_fewestWithin 22 = .ok (.iload 6, 2) := by decide +kernel
theorem dX2_fewestWithin_24 : decode cX2_fewestWithin 24 = .ok (.iload_n 3, 1) := by decide +kernel
theorem dX2_fewestWithin_25 : decode cX2_fewestWithin 25 = .ok (.if_icmp .gt 29, 3) := by decide +kernel
theorem dX2_fewestWithin_28 : decode cX2_fewestWithin 28 = .ok (.iload 6, 2) := by decide +kernel
theorem dX2_fewestWithin_30 : decode cX2_fewestWithin 30 = .ok (.sipush 2101, 3) := by decide +kernel
theorem dX2_fewestWithin_33 : decode cX2_fewestWithin 33 = .ok (.if_icmp .ge 21, 3) := by decide +kernel
theorem dX2_fewestWithin_36 : decode cX2_fewestWithin 36 = .ok (.iload 5, 2) := by decide +kernel
theorem dX2_fewestWithin_38 : decode cX2_fewestWithin 38 = .ok (.aload 4, 2) := by decide +kernel
theorem dX2_fewestWithin_40 : decode cX2_fewestWithin 40 = .ok (.iload 6, 2) := by decide +kernel
theorem dX2_fewestWithin_42 : decode cX2_fewestWithin 42 = .ok (.iaload, 1) := by decide +kernel
theorem dX2_fewestWithin_43 : decode cX2_fewestWithin 43 = .ok (.invokestatic 59, 3) := by decide +kernel
theorem dX2_fewestWithin_46 : decode cX2_fewestWithin 46 = .ok (.istore 5, 2) := by decide +kernel
theorem dX2_fewestWithin_48 : decode cX2_fewestWithin 48 = .ok (.iinc 6 1, 3) := by decide +kernel
theorem dX2_fewestWithin_51 : decode cX2_fewestWithin 51 = .ok (.goto (-29), 3) := by decide +kernel
theorem dX2_fewestWithin_54 : decode cX2_fewestWithin 54 = .ok (.iload 5, 2) := by decide +kernel
theorem dX2_fewestWithin_56 : decode cX2_fewestWithin 56 = .ok (.ireturn, 1) := by decide +kernel
theorem dX2_settle_0 : decode cX2_settle 0 = .ok (.aload_n 0, 1) := by decide +kernel
theorem dX2_settle_1 : decode cX2_settle 1 = .ok (.getfield 30, 3) := by decide +kernel
theorem dX2_settle_4 : decode cX2_settle 4 = .ok (.ifCond .eq 4, 3) := by decide +kernel
theorem dX2_settle_7 : decode cX2_settle 7 = .ok (.return_, 1) := by decide +kernel
theorem dX2_settle_8 : decode cX2_settle 8 = .ok (.aload_n 0, 1) := by decide +kernel
theorem dX2_settle_9 : decode cX2_settle 9 = .ok (.getfield 23, 3) := by decide +kernel
theorem dX2_settle_12 : decode cX2_settle 12 = .ok (.iconst 1, 1) := by decide +kernel
theorem dX2_settle_13 : decode cX2_settle 13 = .ok (.isub, 1) := by decide +kernel
theorem dX2_settle_14 : decode cX2_settle 14 = .ok (.istore_n 1, 1) := by decide +kernel
theorem dX2_settle_15 : decode cX2_settle 15 = .ok (.iload_n 1, 1) := by decide +kernel
theorem dX2_settle_16 : decode cX2_settle 16 = .ok (.iconst (-1), 1) := by decide +kernel
theorem dX2_settle_17 : decode cX2_settle 17 = .ok (.if_icmp .lt 72, 3) := by decide +kernel
theorem dX2_settle_20 : decode cX2_settle 20 = .ok (.aload_n 0, 1) := by decide +kernel
theorem dX2_settle_21 : decode cX2_settle 21 = .ok (.getfield 20, 3) := by decide +kernel
theorem dX2_settle_24 : decode cX2_settle 24 = .ok (.iload_n 1, 1) := by decide +kernel
theorem dX2_settle_25 : decode cX2_settle 25 = .ok (.iconst 1, 1) := by decide +kernel
theorem dX2_settle_26 : decode cX2_settle 26 = .ok (.iadd, 1) := by decide +kernel
theorem dX2_settle_27 : decode cX2_settle 27 = .ok (.aaload, 1) := by decide +kernel
theorem dX2_settle_28 : decode cX2_settle 28 = .ok (.sipush 1000, 3) := by decide +kernel
theorem dX2_settle_31 : decode cX2_settle 31 = .ok (.invokestatic 62, 3) := by decide +kernel
theorem dX2_settle_34 : decode cX2_settle 34 = .ok (.iload_n 1, 1) := by decide +kernel
theorem dX2_settle_35 : decode cX2_settle 35 = .ok (.ifCond .lt 24, 3) := by decide +kernel
theorem dX2_settle_38 : decode cX2_settle 38 = .ok (.iload_n 1, 1) := by decide +kernel
theorem dX2_settle_39 : decode cX2_settle 39 = .ok (.aload_n 0, 1) := by decide +kernel
theorem dX2_settle_40 : decode cX2_settle 40 = .ok (.getfield 23, 3) := by decide +kernel
theorem dX2_settle_43 : decode cX2_settle 43 = .ok (.iconst 1, 1) := by decide +kernel
theorem dX2_settle_44 : decode cX2_settle 44 = .ok (.isub, 1) := by decide +kernel
theorem dX2_settle_45 : decode cX2_settle 45 = .ok (.if_icmp .ne 14, 3) := by decide +kernel
theorem dX2_settle_48 : decode cX2_settle 48 = .ok (.aload_n 0, 1) := by decide +kernel
theorem dX2_settle_49 : decode cX2_settle 49 = .ok (.getfield 20, 3) := by decide +kernel
theorem dX2_settle_52 : decode cX2_settle 52 = .ok (.iload_n 1, 1) := by decide +kernel
theorem dX2_settle_53 : decode cX2_settle 53 = .ok (.iconst 1, 1) := by decide +kernel
theorem dX2_settle_54 : decode cX2_settle 54 = .ok (.iadd, 1) := by decide +kernel
theorem dX2_settle_55 : decode cX2_settle 55 = .ok (.aaload, 1) := by decide +kernel
theorem dX2_settle_56 : decode cX2_settle 56 = .ok (.iconst 0, 1) := by decide +kernel
theorem dX2_settle_57 : decode cX2_settle 57 = .ok (.iconst 0, 1) := by decide +kernel
theorem dX2_settle_58 : decode cX2_settle 58 = .ok (.iastore, 1) := by decide +kernel
theorem dX2_settle_59 : decode cX2_settle 59 = .ok (.iload_n 1, 1) := by decide +kernel
theorem dX2_settle_60 : decode cX2_settle 60 = .ok (.iconst 1, 1) := by decide +kernel
theorem dX2_settle_61 : decode cX2_settle 61 = .ok (.iadd, 1) := by decide +kernel
theorem dX2_settle_62 : decode cX2_settle 62 = .ok (.istore_n 2, 1) := by decide +kernel
theorem dX2_settle_63 : decode cX2_settle 63 = .ok (.iload_n 2, 1) := by decide +kernel
theorem dX2_settle_64 : decode cX2_settle 64 = .ok (.aload_n 0, 1) := by decide +kernel
theorem dX2_settle_65 : decode cX2_settle 65 = .ok (.getfield 23, 3) := by decide +kernel
theorem dX2_settle_68 : decode cX2_settle 68 = .ok (.if_icmp .ge 15, 3) := by decide +kernel
theorem dX2_settle_71 : decode cX2_settle 71 = .ok (.aload_n 0, 1) := by decide +kernel
theorem dX2_settle_72 : decode cX2_settle 72 = .ok (.iload_n 1, 1) := by decide +kernel
theorem dX2_settle_73 : decode cX2_settle 73 = .ok (.iload_n 2, 1) := by decide +kernel
theorem dX2_settle_74 : decode cX2_settle 74 = .ok (.invokevirtual 68, 3) := by decide +kernel
theorem dX2_settle_77 : decode cX2_settle 77 = .ok (.iinc 2 1, 3) := by decide +kernel
theorem dX2_settle_80 : decode cX2_settle 80 = .ok (.goto (-17), 3) := by decide +kernel
theorem dX2_settle_83 : decode cX2_settle 83 = .ok (.iinc 1 (-1), 3) := by decide +kernel
theorem dX2_settle_86 : decode cX2_settle 86 = .ok (.goto (-71), 3) := by decide +kernel
theorem dX2_settle_89 : decode cX2_settle 89 = .ok (.aload_n 0, 1) := by decide +kernel
theorem dX2_settle_90 : decode cX2_settle 90 = .ok (.iconst 1, 1) := by decide +kernel
theorem dX2_settle_91 : decode cX2_settle 91 = .ok (.putfield 30, 3) := by decide +kernel
theorem dX2_settle_94 : decode cX2_settle 94 = .ok (.return_, 1) := by decide +kernel
theorem dX2_bring_0 : decode cX2_bring 0 = .ok (.aload_n 0, 1) := by decide +kernel
theorem dX2_bring_1 : decode cX2_bring 1 = .ok (.getfield 20, 3) := by decide +kernel
theorem dX2_bring_4 : decode cX2_bring 4 = .ok (.iload_n 2, 1) := by decide +kernel
theorem dX2_bring_5 : decode cX2_bring 5 = .ok (.iconst 1, 1) := by decide +kernel
theorem dX2_bring_6 : decode cX2_bring 6 = .ok (.iadd, 1) := by decide +kernel
theorem dX2_bring_7 : decode cX2_bring 7 = .ok (.aaload, 1) := by decide +kernel
theorem dX2_bring_8 : decode cX2_bring 8 = .ok (.astore_n 3, 1) := by decide +kernel
theorem dX2_bring_9 : decode cX2_bring 9 = .ok (.iconst 0, 1) := by decide +kernel
theorem dX2_bring_10 : decode cX2_bring 10 = .ok (.istore 4, 2) := by decide +kernel
theorem dX2_bring_12 : decode cX2_bring 12 = .ok (.iload 4, 2) := by decide +kernel
theorem dX2_bring_14 : decode cX2_bring 14 = .ok (.sipush 2101, 3) := by decide +kernel
theorem dX2_bring_17 : decode cX2_bring 17 = .ok (.if_icmp .ge 27, 3) := by decide +kernel
theorem dX2_bring_20 : decode cX2_bring 20 = .ok (.aload_n 3, 1) := by decide +kernel
theorem dX2_bring_21 : decode cX2_bring 21 = .ok (.iload 4, 2) := by decide +kernel
theorem dX2_bring_23 : decode cX2_bring 23 = .ok (.iaload, 1) := by decide +kernel
theorem dX2_bring_24 : decode cX2_bring 24 = .ok (.sipush 1000, 3) := by decide +kernel
theorem dX2_bring_27 : decode cX2_bring 27 = .ok (.if_icmp .ge 11, 3) := by decide +kernel
theorem dX2_bring_30 : decode cX2_bring 30 = .ok (.aload_n 0, 1) := by decide +kernel
theorem dX2_bring_31 : decode cX2_bring 31 = .ok (.iload_n 1, 1) := by decide +kernel
theorem dX2_bring_32 : decode cX2_bring 32 = .ok (.iload_n 2, 1) := by decide +kernel
theorem dX2_bring_33 : decode cX2_bring 33 = .ok (.iload 4, 2) := by decide +kernel
theorem dX2_bring_35 : decode cX2_bring 35 = .ok (.invokevirtual 72, 3) := by decide +kernel
theorem dX2_bring_38 : decode cX2_bring 38 = .ok (.iinc 4 1, 3) := by decide +kernel
theorem dX2_bring_41 : decode cX2_bring 41 = .ok (.goto (-29), 3) := by decide +kernel
theorem dX2_bring_44 : decode cX2_bring 44 = .ok (.return_, 1) := by decide +kernel
theorem dX2_bringFrom_0 : decode cX2_bringFrom 0 = .ok (.aload_n 0, 1) := by decide +kernel
theorem dX2_bringFrom_1 : decode cX2_bringFrom 1 = .ok (.getfield 20, 3) := by decide +kernel
theorem dX2_bringFrom_4 : decode cX2_bringFrom 4 = .ok (.iload_n 1, 1) := by decide +kernel
theorem dX2_bringFrom_5 : decode cX2_bringFrom 5 = .ok (.iconst 1, 1) := by decide +kernel
theorem dX2_bringFrom_6 : decode cX2_bringFrom 6 = .ok (.iadd, 1) := by decide +kernel
theorem dX2_bringFrom_7 : decode cX2_bringFrom 7 = .ok (.aaload, 1) := by decide +kernel
theorem dX2_bringFrom_8 : decode cX2_bringFrom 8 = .ok (.astore 4, 2) := by decide +kernel
theorem dX2_bringFrom_10 : decode cX2_bringFrom 10 = .ok (.aload_n 0, 1) := by decide +kernel
theorem dX2_bringFrom_11 : decode cX2_bringFrom 11 = .ok (.getfield 20, 3) := by decide +kernel
theorem dX2_bringFrom_14 : decode cX2_bringFrom 14 = .ok (.iload_n 2, 1) := by decide +kernel
theorem dX2_bringFrom_15 : decode cX2_bringFrom 15 = .ok (.iconst 1, 1) := by decide +kernel
theorem dX2_bringFrom_16 : decode cX2_bringFrom 16 = .ok (.iadd, 1) := by decide +kernel
theorem dX2_bringFrom_17 : decode cX2_bringFrom 17 = .ok (.aaload, 1) := by decide +kernel
theorem dX2_bringFrom_18 : decode cX2_bringFrom 18 = .ok (.iload_n 3, 1) := by decide +kernel
theorem dX2_bringFrom_19 : decode cX2_bringFrom 19 = .ok (.iaload, 1) := by decide +kernel
theorem dX2_bringFrom_20 : decode cX2_bringFrom 20 = .ok (.istore 5, 2) := by decide +kernel
theorem dX2_bringFrom_22 : decode cX2_bringFrom 22 = .ok (.iconst 1, 1) := by decide +kernel
theorem dX2_bringFrom_23 : decode cX2_bringFrom 23 = .ok (.istore 6, 2) := by decide +kernel
theorem dX2_bringFrom_25 : decode cX2_bringFrom 25 = .ok (.iload 6, 2) := by decide +kernel
theorem dX2_bringFrom_27 : decode cX2_bringFrom 27 = .ok (.bipush 30, 2) := by decide +kernel
theorem dX2_bringFrom_29 : decode cX2_bringFrom 29 = .ok (.if_icmp .gt 74, 3) := by decide +kernel
theorem dX2_bringFrom_32 : decode cX2_bringFrom 32 = .ok (.iload_n 3, 1) := by decide +kernel
theorem dX2_bringFrom_33 : decode cX2_bringFrom 33 = .ok (.iload 6, 2) := by decide +kernel
theorem dX2_bringFrom_35 : decode cX2_bringFrom 35 = .ok (.aload_n 0, 1) := by decide +kernel
theorem dX2_bringFrom_36 : decode cX2_bringFrom 36 = .ok (.getfield 9, 3) := by decide +kernel
theorem dX2_bringFrom_39 : decode cX2_bringFrom 39 = .ok (.iload_n 2, 1) := by decide +kernel
theorem dX2_bringFrom_40 : decode cX2_bringFrom 40 = .ok (.iaload, 1) := by decide +kernel
theorem dX2_bringFrom_41 : decode cX2_bringFrom 41 = .ok (.imul, 1) := by decide +kernel
theorem dX2_bringFrom_42 : decode cX2_bringFrom 42 = .ok (.iadd, 1) := by decide +kernel
theorem dX2_bringFrom_43 : decode cX2_bringFrom 43 = .ok (.sipush 2101, 3) := by decide +kernel
theorem dX2_bringFrom_46 : decode cX2_bringFrom 46 = .ok (.if_icmp .ge 57, 3) := by decide +kernel
theorem dX2_bringFrom_49 : decode cX2_bringFrom 49 = .ok (.aload_n 0, 1) := by decide +kernel
theorem dX2_bringFrom_50 : decode cX2_bringFrom 50 = .ok (.iload_n 1, 1) := by decide +kernel
theorem dX2_bringFrom_51 : decode cX2_bringFrom 51 = .ok (.iload 6, 2) := by decide +kernel
theorem dX2_bringFrom_53 : decode cX2_bringFrom 53 = .ok (.aload_n 0, 1) := by decide +kernel
theorem dX2_bringFrom_54 : decode cX2_bringFrom 54 = .ok (.getfield 9, 3) := by decide +kernel
theorem dX2_bringFrom_57 : decode cX2_bringFrom 57 = .ok (.iload_n 2, 1) := by decide +kernel
theorem dX2_bringFrom_58 : decode cX2_bringFrom 58 = .ok (.iaload, 1) := by decide +kernel
theorem dX2_bringFrom_59 : decode cX2_bringFrom 59 = .ok (.imul, 1) := by decide +kernel
theorem dX2_bringFrom_60 : decode cX2_bringFrom 60 = .ok (.invokevirtual 49, 3) := by decide +kernel
theorem dX2_bringFrom_63 : decode cX2_bringFrom 63 = .ok (.ifCond .eq 34, 3) := by decide +kernel
theorem dX2_bringFrom_66 : decode cX2_bringFrom 66 = .ok (.iload_n 3, 1) := by decide +kernel
theorem dX2_bringFrom_67 : decode cX2_bringFrom 67 = .ok (.iload 6, 2) := by decide +kernel
theorem dX2_bringFrom_69 : decode cX2_bringFrom 69 = .ok (.aload_n 0, 1) := by decide +kernel
theorem dX2_bringFrom_70 : decode cX2_bringFrom 70 = .ok (.getfield 9, 3) := by decide +kernel
theorem dX2_bringFrom_73 : decode cX2_bringFrom 73 = .ok (.iload_n 2, 1) := by decide +kernel
theorem dX2_bringFrom_74 : decode cX2_bringFrom 74 = .ok (.iaload, 1) := by decide +kernel
theorem dX2_bringFrom_75 : decode cX2_bringFrom 75 = .ok (.imul, 1) := by decide +kernel
theorem dX2_bringFrom_76 : decode cX2_bringFrom 76 = .ok (.iadd, 1) := by decide +kernel
theorem dX2_bringFrom_77 : decode cX2_bringFrom 77 = .ok (.istore 7, 2) := by decide +kernel
theorem dX2_bringFrom_79 : decode cX2_bringFrom 79 = .ok (.aload 4, 2) := by decide +kernel
theorem dX2_bringFrom_81 : decode cX2_bringFrom 81 = .ok (.iload 7, 2) := by decide +kernel
theorem dX2_bringFrom_83 : decode cX2_bringFrom 83 = .ok (.aload 4, 2) := by decide +kernel
theorem dX2_bringFrom_85 : decode cX2_bringFrom 85 = .ok (.iload 7, 2) := by decide +kernel
theorem dX2_bringFrom_87 : decode cX2_bringFrom 87 = .ok (.iaload, 1) := by decide +kernel
theorem dX2_bringFrom_88 : decode cX2_bringFrom 88 = .ok (.iload 5, 2) := by decide +kernel
theorem dX2_bringFrom_90 : decode cX2_bringFrom 90 = .ok (.iload 6, 2) := by decide +kernel
theorem dX2_bringFrom_92 : decode cX2_bringFrom 92 = .ok (.iadd, 1) := by decide +kernel
theorem dX2_bringFrom_93 : decode cX2_bringFrom 93 = .ok (.invokestatic 59, 3) := by decide +kernel
theorem dX2_bringFrom_96 : decode cX2_bringFrom 96 = .ok (.iastore, 1) := by decide +kernel
theorem dX2_bringFrom_97 : decode cX2_bringFrom 97 = .ok (.iinc 6 1, 3) := by decide +kernel
theorem dX2_bringFrom_100 : decode cX2_bringFrom 100 = .ok (.goto (-75), 3) := by decide +kernel
theorem dX2_bringFrom_103 : decode cX2_bringFrom 103 = .ok (.return_, 1) := by decide +kernel
theorem dX3_init_0 : decode cX3_init 0 = .ok (.aload_n 0, 1) := by decide +kernel
theorem dX3_init_1 : decode cX3_init 1 = .ok (.invokespecial 3, 3) := by decide +kernel
theorem dX3_init_4 : decode cX3_init 4 = .ok (.aload_n 0, 1) := by decide +kernel
theorem dX3_init_5 : decode cX3_init 5 = .ok (.iconst 3, 1) := by decide +kernel
theorem dX3_init_6 : decode cX3_init 6 = .ok (.bipush 15, 2) := by decide +kernel
theorem dX3_init_8 : decode cX3_init 8 = .ok (.multianewarray 9 2, 4) := by decide +kernel
theorem dX3_init_12 : decode cX3_init 12 = .ok (.putfield 11, 3) := by decide +kernel
theorem dX3_init_15 : decode cX3_init 15 = .ok (.aload_n 0, 1) := by decide +kernel
theorem dX3_init_16 : decode cX3_init 16 = .ok (.iconst 3, 1) := by decide +kernel
theorem dX3_init_17 : decode cX3_init 17 = .ok (.newarray .int, 2) := by decide +kernel
theorem dX3_init_19 : decode cX3_init 19 = .ok (.putfield 16, 3) := by decide +kernel
theorem dX3_init_22 : decode cX3_init 22 = .ok (.aload_n 0, 1) := by decide +kernel
theorem dX3_init_23 : decode cX3_init 23 = .ok (.bipush 15, 2) := by decide +kernel
theorem dX3_init_25 : decode cX3_init 25 = .ok (.newarray .int, 2) := by decide +kernel
theorem dX3_init_27 : decode cX3_init 27 = .ok (.putfield 20, 3) := by decide +kernel
theorem dX3_init_30 : decode cX3_init 30 = .ok (.aload_n 0, 1) := by decide +kernel
theorem dX3_init_31 : decode cX3_init 31 = .ok (.bipush 16, 2) := by decide +kernel
theorem dX3_init_33 : decode cX3_init 33 = .ok (.newarray .int, 2) := by decide +kernel
theorem dX3_init_35 : decode cX3_init 35 = .ok (.putfield 23, 3) := by decide +kernel
theorem dX3_init_38 : decode cX3_init 38 = .ok (.aload_n 0, 1) := by decide +kernel
theorem dX3_init_39 : decode cX3_init 39 = .ok (.bipush 41, 2) := by decide +kernel
theorem dX3_init_41 : decode cX3_init 41 = .ok (.newarray .int, 2) := by decide +kernel
theorem dX3_init_43 : decode cX3_init 43 = .ok (.putfield 26, 3) := by decide +kernel
theorem dX3_init_46 : decode cX3_init 46 = .ok (.aload_n 0, 1) := by decide +kernel
theorem dX3_init_47 : decode cX3_init 47 = .ok (.bipush 41, 2) := by decide +kernel
theorem dX3_init_49 : decode cX3_init 49 = .ok (.newarray .int, 2) := by decide +kernel
theorem dX3_init_51 : decode cX3_init 51 = .ok (.putfield 29, 3) := by decide +kernel
theorem dX3_init_54 : decode cX3_init 54 = .ok (.aload_n 0, 1) := by decide +kernel
theorem dX3_init_55 : decode cX3_init 55 = .ok (.bipush 81, 2) := by decide +kernel
theorem dX3_init_57 : decode cX3_init 57 = .ok (.newarray .int, 2) := by decide +kernel
theorem dX3_init_59 : decode cX3_init 59 = .ok (.putfield 32, 3) := by decide +kernel
theorem dX3_init_62 : decode cX3_init 62 = .ok (.aload_n 0, 1) := by decide +kernel
theorem dX3_init_63 : decode cX3_init 63 = .ok (.iconst 2, 1) := by decide +kernel
theorem dX3_init_64 : decode cX3_init 64 = .ok (.putfield 35, 3) := by decide +kernel
theorem dX3_init_67 : decode cX3_init 67 = .ok (.aload_n 0, 1) := by decide +kernel
theorem dX3_init_68 : decode cX3_init 68 = .ok (.bipush 8, 2) := by decide +kernel
theorem dX3_init_70 : decode cX3_init 70 = .ok (.invokevirtual 39, 3) := by decide +kernel
theorem dX3_init_73 : decode cX3_init 73 = .ok (.return_, 1) := by decide +kernel
theorem dX3_begin_0 : decode cX3_begin 0 = .ok (.aload_n 0, 1) := by decide +kernel
theorem dX3_begin_1 : decode cX3_begin 1 = .ok (.iload_n 1, 1) := by decide +kernel
theorem dX3_begin_2 : decode cX3_begin 2 = .ok (.putfield 43, 3) := by decide +kernel
theorem dX3_begin_5 : decode cX3_begin 5 = .ok (.aload_n 0, 1) := by decide +kernel
theorem dX3_begin_6 : decode cX3_begin 6 = .ok (.getfield 11, 3) := by decide +kernel
theorem dX3_begin_9 : decode cX3_begin 9 = .ok (.astore_n 2, 1) := by decide +kernel
theorem dX3_begin_10 : decode cX3_begin 10 = .ok (.aload_n 2, 1) := by decide +kernel
theorem dX3_begin_11 : decode cX3_begin 11 = .ok (.arraylength, 1) := by decide +kernel
theorem dX3_begin_12 : decode cX3_begin 12 = .ok (.istore_n 3, 1) := by decide +kernel
theorem dX3_begin_13 : decode cX3_begin 13 = .ok (.iconst 0, 1) := by decide +kernel
theorem dX3_begin_14 : decode cX3_begin 14 = .ok (.istore 4, 2) := by decide +kernel
theorem dX3_begin_16 : decode cX3_begin 16 = .ok (.iload 4, 2) := by decide +kernel
theorem dX3_begin_18 : decode cX3_begin 18 = .ok (.iload_n 3, 1) := by decide +kernel
theorem dX3_begin_19 : decode cX3_begin 19 = .ok (.if_icmp .ge 23, 3) := by decide +kernel
theorem dX3_begin_22 : decode cX3_begin 22 = .ok (.aload_n 2, 1) := by decide +kernel
theorem dX3_begin_23 : decode cX3_begin 23 = .ok (.iload 4, 2) := by decide +kernel
theorem dX3_begin_25 : decode cX3_begin 25 = .ok (.aaload, 1) := by decide +kernel
theorem dX3_begin_26 : decode cX3_begin 26 = .ok (.astore 5, 2) := by decide +kernel
theorem dX3_begin_28 : decode cX3_begin 28 = .ok (.aload 5, 2) := by decide +kernel
theorem dX3_begin_30 : decode cX3_begin 30 = .ok (.sipush 5000, 3) := by decide +kernel
theorem dX3_begin_33 : decode cX3_begin 33 = .ok (.invokestatic 46, 3) := by decide +kernel
theorem dX3_begin_36 : decode cX3_begin 36 = .ok (.iinc 4 1, 3) := by decide +kernel
theorem dX3_begin_39 : decode cX3_begin 39 = .ok (.goto (-23), 3) := by decide +kernel
theorem dX3_begin_42 : decode cX3_begin 42 = .ok (.aload_n 0, 1) := by decide +kernel
theorem dX3_begin_43 : decode cX3_begin 43 = .ok (.iconst 0, 1) := by decide +kernel
theorem dX3_begin_44 : decode cX3_begin 44 = .ok (.putfield 52, 3) := by decide +kernel
theorem dX3_begin_47 : decode cX3_begin 47 = .ok (.return_, 1) := by decide +kernel
theorem dX3_tellReading_0 : decode cX3_tellReading 0 = .ok (.aload_n 0, 1) := by decide +kernel
theorem dX3_tellReading_1 : decode cX3_tellReading 1 = .ok (.getfield 11, 3) := by decide +kernel
theorem dX3_tellReading_4 : decode cX3_tellReading 4 = .ok (.iload_n 1, 1) := by decide +kernel
theorem dX3_tellReading_5 : decode cX3_tellReading 5 = .ok (.aaload, 1) := by decide +kernel
theorem dX3_tellReading_6 : decode cX3_tellReading 6 = .ok (.iload_n 2, 1) := by decide +kernel
theorem dX3_tellReading_7 : decode cX3_tellReading 7 = .ok (.iaload, 1) := by decide +kernel
theorem dX3_tellReading_8 : decode cX3_tellReading 8 = .ok (.istore 4, 2) := by decide +kernel
theorem dX3_tellReading_10 : decode cX3_tellReading 10 = .ok (.aload_n 0, 1) := by decide +kernel
theorem dX3_tellReading_11 : decode cX3_tellReading 11 = .ok (.getfield 11, 3) := by decide +kernel
theorem dX3_tellReading_14 : decode cX3_tellReading 14 = .ok (.iload_n 1, 1) := by decide +kernel
theorem dX3_tellReading_15 : decode cX3_tellReading 15 = .ok (.aaload, 1) := by decide +kernel
theorem dX3_tellReading_16 : decode cX3_tellReading 16 = .ok (.iload_n 2, 1) := by decide +kernel
theorem dX3_tellReading_17 : decode cX3_tellReading 17 = .ok (.iload_n 3, 1) := by decide +kernel
theorem dX3_tellReading_18 : decode cX3_tellReading 18 = .ok (.iastore, 1) := by decide +kernel
theorem dX3_tellReading_19 : decode cX3_tellReading 19 = .ok (.aload_n 0, 1) := by decide +kernel
theorem dX3_tellReading_20 : decode cX3_tellReading 20 = .ok (.iconst 0, 1) := by decide +kernel
theorem dX3_tellReading_21 : decode cX3_tellReading 21 = .ok (.putfield 52, 3) := by decide +kernel
theorem dX3_tellReading_24 : decode cX3_tellReading 24 = .ok (.iload 4, 2) := by decide +kernel
theorem dX3_tellReading_26 : decode cX3_tellReading 26 = .ok (.ireturn, 1) := by decide +kernel
theorem dX3_tellLie_0 : decode cX3_tellLie 0 = .ok (.aload_n 0, 1) := by decide +kernel
theorem dX3_tellLie_1 : decode cX3_tellLie 1 = .ok (.getfield 35, 3) := by decide +kernel
theorem dX3_tellLie_4 : decode cX3_tellLie 4 = .ok (.istore_n 2, 1) := by decide +kernel
theorem dX3_tellLie_5 : decode cX3_tellLie 5 = .ok (.aload_n 0, 1) := by decide +kernel
theorem dX3_tellLie_6 : decode cX3_tellLie 6 = .ok (.iload_n 1, 1) := by decide +kernel
theorem dX3_tellLie_7 : decode cX3_tellLie 7 = .ok (.putfield 35, 3) := by decide +kernel
theorem dX3_tellLie_10 : decode cX3_tellLie 10 = .ok (.aload_n 0, 1) := by decide +kernel
theorem dX3_tellLie_11 : decode cX3_tellLie 11 = .ok (.iconst 0, 1) := by decide +kernel
theorem dX3_tellLie_12 : decode cX3_tellLie 12 = .ok (.putfield 52, 3) := by decide +kernel
theorem dX3_tellLie_15 : decode cX3_tellLie 15 = .ok (.iload_n 2, 1) := by decide +kernel
theorem dX3_tellLie_16 : decode cX3_tellLie 16 = .ok (.ireturn, 1) := by decide +kernel
theorem dX3_howManyTold_0 : decode cX3_howManyTold 0 = .ok (.iconst 0, 1) := by decide +kernel
theorem dX3_howManyTold_1 : decode cX3_howManyTold 1 = .ok (.istore_n 1, 1) := by decide +kernel
theorem dX3_howManyTold_2 : decode cX3_howManyTold 2 = .ok (.aload_n 0, 1) := by decide +kernel
theorem dX3_howManyTold_3 : decode cX3_howManyTold 3 = .ok (.getfield 11, 3) := by decide +kernel
theorem dX3_howManyTold_6 : decode cX3_howManyTold 6 = .ok (.astore_n 2, 1) := by decide +kernel
theorem dX3_howManyTold_7 : decode cX3_howManyTold 7 = .ok (.aload_n 2, 1) := by decide +kernel
theorem dX3_howManyTold_8 : decode cX3_howManyTold 8 = .ok (.arraylength, 1) := by decide +kernel
theorem dX3_howManyTold_9 : decode cX3_howManyTold 9 = .ok (.istore_n 3, 1) := by decide +kernel
theorem dX3_howManyTold_10 : decode cX3_howManyTold 10 = .ok (.iconst 0, 1) := by decide +kernel
theorem dX3_howManyTold_11 : decode cX3_howManyTold 11 = .ok (.istore 4, 2) := by decide +kernel
theorem dX3_howManyTold_13 : decode cX3_howManyTold 13 = .ok (.iload 4, 2) := by decide +kernel
theorem dX3_howManyTold_15 : decode cX3_howManyTold 15 = .ok (.iload_n 3, 1) := by decide +kernel
theorem dX3_howManyTold_16 : decode cX3_howManyTold 16 = .ok (.if_icmp .ge 58, 3) := by decide +kernel
theorem dX3_howManyTold_19 : decode cX3_howManyTold 19 = .ok (.aload_n 2, 1) := by decide +kernel
theorem dX3_howManyTold_20 : decode cX3_howManyTold 20 = .ok (.iload 4, 2) := by decide +kernel
theorem dX3_howManyTold_22 : decode cX3_howManyTold 22 = .ok (.aaload, 1) := by decide +kernel
theorem dX3_howManyTold_23 : decode cX3_howManyTold 23 = .ok (.astore 5, 2) := by decide +kernel
theorem dX3_howManyTold_25 : decode cX3_howManyTold 25 = .ok (.aload 5, 2) := by decide +kernel
theorem dX3_howManyTold_27 : decode cX3_howManyTold 27 = .ok (.astore 6, 2) := by decide +kernel
theorem dX3_howManyTold_29 : decode cX3_howManyTold 29 = .ok (.aload 6, 2) := by decide +kernel
theorem dX3_howManyTold_31 : decode cX3_howManyTold 31 = .ok (.arraylength, 1) := by decide +kernel
theorem dX3_howManyTold_32 : decode cX3_howManyTold 32 = .ok (.istore 7, 2) := by decide +kernel
theorem dX3_howManyTold_34 : decode cX3_howManyTold 34 = .ok (.iconst 0, 1) := by decide +kernel
theorem dX3_howManyTold_35 : decode cX3_howManyTold 35 = .ok (.istore 8, 2) := by decide +kernel
theorem dX3_howManyTold_37 : decode cX3_howManyTold 37 = .ok (.iload 8, 2) := by decide +kernel
theorem dX3_howManyTold_39 : decode cX3_howManyTold 39 = .ok (.iload 7, 2) := by decide +kernel
theorem dX3_howManyTold_41 : decode cX3_howManyTold 41 = .ok (.if_icmp .ge 27, 3) := by decide +kernel
theorem dX3_howManyTold_44 : decode cX3_howManyTold 44 = .ok (.aload 6, 2) := by decide +kernel
theorem dX3_howManyTold_46 : decode cX3_howManyTold 46 = .ok (.iload 8, 2) := by decide +kernel
theorem dX3_howManyTold_48 : decode cX3_howManyTold 48 = .ok (.iaload, 1) := by decide +kernel
theorem dX3_howManyTold_49 : decode cX3_howManyTold 49 = .ok (.istore 9, 2) := by decide +kernel
theorem dX3_howManyTold_51 : decode cX3_howManyTold 51 = .ok (.iload 9, 2) := by decide +kernel
theorem dX3_howManyTold_53 : decode cX3_howManyTold 53 = .ok (.sipush 5000, 3) := by decide +kernel
theorem dX3_howManyTold_56 : decode cX3_howManyTold 56 = .ok (.if_icmp .eq 6, 3) := by decide +kernel
theorem dX3_howManyTold_59 : decode cX3_howManyTold 59 = .ok (.iinc 1 1, 3) := by decide +kernel
theorem dX3_howManyTold_62 : decode cX3_howManyTold 62 = .ok (.iinc 8 1, 3) := by decide +kernel
theorem dX3_howManyTold_65 : decode cX3_howManyTold 65 = .ok (.goto (-28), 3) := by decide +kernel
theorem dX3_howManyTold_68 : decode cX3_howManyTold 68 = .ok (.iinc 4 1, 3) := by decide +kernel
theorem dX3_howManyTold_71 : decode cX3_howManyTold 71 = .ok (.goto (-58), 3) := by decide +kernel
theorem dX3_howManyTold_74 : decode cX3_howManyTold 74 = .ok (.iload_n 1, 1) := by decide +kernel
theorem dX3_howManyTold_75 : decode cX3_howManyTold 75 = .ok (.ireturn, 1) := by decide +kernel
theorem dX3_howManyDropped_0 : decode cX3_howManyDropped 0 = .ok (.aload_n 0, 1) := by decide +kernel
theorem dX3_howManyDropped_1 : decode cX3_howManyDropped 1 = .ok (.invokevirtual 56, 3) := by decide +kernel
theorem dX3_howManyDropped_4 : decode cX3_howManyDropped 4 = .ok (.aload_n 0, 1) := by decide +kernel
theorem dX3_howManyDropped_5 : decode cX3_howManyDropped 5 = .ok (.getfield 59, 3) := by decide +kernel
theorem dX3_howManyDropped_8 : decode cX3_howManyDropped 8 = .ok (.ireturn, 1) := by decide +kernel
theorem dX3_shiftOf_0 : decode cX3_shiftOf 0 = .ok (.aload_n 0, 1) := by decide +kernel
theorem dX3_shiftOf_1 : decode cX3_shiftOf 1 = .ok (.invokevirtual 56, 3) := by decide +kernel
theorem dX3_shiftOf_4 : decode cX3_shiftOf 4 = .ok (.aload_n 0, 1) := by decide +kernel
theorem dX3_shiftOf_5 : decode cX3_shiftOf 5 = .ok (.getfield 16, 3) := by decide +kernel
theorem dX3_shiftOf_8 : decode cX3_shiftOf 8 = .ok (.iload_n 1, 1) := by decide +kernel
theorem dX3_shiftOf_9 : decode cX3_shiftOf 9 = .ok (.iaload, 1) := by decide +kernel
theorem dX3_shiftOf_10 : decode cX3_shiftOf 10 = .ok (.ireturn, 1) := by decide +kernel
theorem dX3_stepOf_0 : decode cX3_stepOf 0 = .ok (.aload_n 0, 1) := by decide +kernel
theorem dX3_stepOf_1 : decode cX3_stepOf 1 = .ok (.invokevirtual 56, 3) := by decide +kernel
theorem dX3_stepOf_4 : decode cX3_stepOf 4 = .ok (.aload_n 0, 1) := by decide +kernel
theorem dX3_stepOf_5 : decode cX3_stepOf 5 = .ok (.getfield 20, 3) := by decide +kernel
theorem dX3_stepOf_8 : decode cX3_stepOf 8 = .ok (.iload_n 1, 1) := by decide +kernel
theorem dX3_stepOf_9 : decode cX3_stepOf 9 = .ok (.iaload, 1) := by decide +kernel
theorem dX3_stepOf_10 : decode cX3_stepOf 10 = .ok (.ireturn, 1) := by decide +kernel
theorem dX3_profileOf_0 : decode cX3_profileOf 0 = .ok (.aload_n 0, 1) := by decide +kernel
theorem dX3_profileOf_1 : decode cX3_profileOf 1 = .ok (.invokevirtual 56, 3) := by decide +kernel
theorem dX3_profileOf_4 : decode cX3_profileOf 4 = .ok (.iload_n 1, 1) := by decide +kernel
theorem dX3_profileOf_5 : decode cX3_profileOf 5 = .ok (.aload_n 0, 1) := by decide +kernel
theorem dX3_profileOf_6 : decode cX3_profileOf 6 = .ok (.getfield 62, 3) := by decide +kernel
theorem dX3_profileOf_9 : decode cX3_profileOf 9 = .ok (.if_icmp .ge 12, 3) := by decide +kernel
theorem dX3_profileOf_12 : decode cX3_profileOf 12 = .ok (.aload_n 0, 1) := by decide +kernel
theorem dX3_profileOf_13 : decode cX3_profileOf 13 = .ok (.getfield 23, 3) := by decide +kernel
theorem dX3_profileOf_16 : decode cX3_profileOf 16 = .ok (.iload_n 1, 1) := by decide +kernel
theorem dX3_profileOf_17 : decode cX3_profileOf 17 = .ok (.iaload, 1) := by decide +kernel
theorem dX3_profileOf_18 : decode cX3_profileOf 18 = .ok (.goto 5, 3) := by decide +kernel
theorem dX3_profileOf_21 : decode cX3_profileOf 21 = .ok (.ldc 65, 2) := by decide +kernel
theorem dX3_profileOf_23 : decode cX3_profileOf 23 = .ok (.ireturn, 1) := by decide +kernel
theorem dX3_lieOf_0 : decode cX3_lieOf 0 = .ok (.aload_n 0, 1) := by decide +kernel
theorem dX3_lieOf_1 : decode cX3_lieOf 1 = .ok (.getfield 35, 3) := by decide +kernel
theorem dX3_lieOf_4 : decode cX3_lieOf 4 = .ok (.ireturn, 1) := by decide +kernel
theorem dX3_settle_0 : decode cX3_settle 0 = .ok (.aload_n 0, 1) := by decide +kernel
theorem dX3_settle_1 : decode cX3_settle 1 = .ok (.getfield 52, 3) := by decide +kernel
theorem dX3_settle_4 : decode cX3_settle 4 = .ok (.ifCond .eq 4, 3) := by decide +kernel
theorem dX3_settle_7 : decode cX3_settle 7 = .ok (.return_, 1) := by decide +kernel
theorem dX3_settle_8 : decode cX3_settle 8 = .ok (.aload_n 0, 1) := by decide +kernel
theorem dX3_settle_9 : decode cX3_settle 9 = .ok (.invokevirtual 66, 3) := by decide +kernel
theorem dX3_settle_12 : decode cX3_settle 12 = .ok (.aload_n 0, 1) := by decide +kernel
theorem dX3_settle_13 : decode cX3_settle 13 = .ok (.invokevirtual 69, 3) := by decide +kernel
theorem dX3_settle_16 : decode cX3_settle 16 = .ok (.iconst 0, 1) := by decide +kernel
theorem dX3_settle_17 : decode cX3_settle 17 = .ok (.istore_n 1, 1) := by decide +kernel
theorem dX3_settle_18 : decode cX3_settle 18 = .ok (.iload_n 1, 1) := by decide +kernel
theorem dX3_settle_19 : decode cX3_settle 19 = .ok (.aload_n 0, 1) := by decide +kernel
theorem dX3_settle_20 : decode cX3_settle 20 = .ok (.getfield 43, 3) := by decide +kernel
theorem dX3_settle_23 : decode cX3_settle 23 = .ok (.iconst 1, 1) := by decide +kernel
theorem dX3_settle_24 : decode cX3_settle 24 = .ok (.isub, 1) := by decide +kernel
theorem dX3_settle_25 : decode cX3_settle 25 = .ok (.if_icmp .ge 20, 3) := by decide +kernel
theorem dX3_settle_28 : decode cX3_settle 28 = .ok (.aload_n 0, 1) := by decide +kernel
theorem dX3_settle_29 : decode cX3_settle 29 = .ok (.getfield 20, 3) := by decide +kernel
theorem dX3_settle_32 : decode cX3_settle 32 = .ok (.iload_n 1, 1) := by decide +kernel
theorem dX3_settle_33 : decode cX3_settle 33 = .ok (.aload_n 0, 1) := by decide +kernel
theorem dX3_settle_34 : decode cX3_settle 34 = .ok (.iload_n 1, 1) := by decide +kernel
theorem dX3_settle_35 : decode cX3_settle 35 = .ok (.invokevirtual 72, 3) := by decide +kernel
theorem dX3_settle_38 : decode cX3_settle 38 = .ok (.iastore, 1) := by decide +kernel
theorem dX3_settle_39 : decode cX3_settle 39 = .ok (.iinc 1 1, 3) := by decide +kernel
theorem dX3_settle_42 : decode cX3_settle 42 = .ok (.goto (-24), 3) := by decide +kernel
theorem dX3_settle_45 : decode cX3_settle 45 = .ok (.aload_n 0, 1) := by decide +kernel
theorem dX3_settle_46 : decode cX3_settle 46 = .ok (.invokevirtual 76, 3) := by decide +kernel
theorem dX3_settle_49 : decode cX3_settle 49 = .ok (.aload_n 0, 1) := by decide +kernel
theorem dX3_settle_50 : decode cX3_settle 50 = .ok (.iconst 1, 1) := by decide +kernel
theorem dX3_settle_51 : decode cX3_settle 51 = .ok (.putfield 52, 3) := by decide +kernel
theorem dX3_settle_54 : decode cX3_settle 54 = .ok (.return_, 1) := by decide +kernel
theorem dX3_settleAgreements_0 : decode cX3_settleAgreements 0 = .ok (.bipush (-20), 2) := by decide +kernel
theorem dX3_settleAgreements_2 : decode cX3_settleAgreements 2 = .ok (.istore_n 1, 1) := by decide +kernel
theorem dX3_settleAgreements_3 : decode cX3_settleAgreements 3 = .ok (.iload_n 1, 1) := by decide +kernel
theorem dX3_settleAgreements_4 : decode cX3_settleAgreements 4 = .ok (.bipush 20, 2) := by decide +kernel
theorem dX3_settleAgreements_6 : decode cX3_settleAgreements 6 = .ok (.if_icmp .gt 41, 3) := by decide +kernel
theorem dX3_settleAgreements_9 : decode cX3_settleAgreements 9 = .ok (.aload_n 0, 1) := by decide +kernel
theorem dX3_settleAgreements_10 : decode cX3_settleAgreements 10 = .ok (.getfield 26, 3) := by decide +kernel
theorem dX3_settleAgreements_13 : decode cX3_settleAgreements 13 = .ok (.iload_n 1, 1) := by decide +kernel
theorem dX3_settleAgreements_14 : decode cX3_settleAgreements 14 = .ok (.bipush 20, 2) := by decide +kernel
theorem dX3_settleAgreements_16 : decode cX3_settleAgreements 16 = .ok (.iadd, 1) := by decide +kernel
theorem dX3_settleAgreements_17 : decode cX3_settleAgreements 17 = .ok (.aload_n 0, 1) := by decide +kernel
theorem dX3_settleAgreements_18 : decode cX3_settleAgreements 18 = .ok (.iconst 0, 1) := by decide +kernel
theorem dX3_settleAgreements_19 : decode cX3_settleAgreements 19 = .ok (.iconst 1, 1) := by decide +kernel
theorem dX3_settleAgreements_20 : decode cX3_settleAgreements 20 = .ok (.iload_n 1, 1) := by decide +kernel
theorem dX3_settleAgreements_21 : decode cX3_settleAgreements 21 = .ok (.invokevirtual 79, 3) := by decide +kernel
theorem dX3_settleAgreements_24 : decode cX3_settleAgreements 24 = .ok (.iastore, 1) := by decide +kernel
theorem dX3_settleAgreements_25 : decode cX3_settleAgreements 25 = .ok (.aload_n 0, 1) := by decide +kernel
theorem dX3_settleAgreements_26 : decode cX3_settleAgreements 26 = .ok (.getfield 29, 3) := by decide +kernel
theorem dX3_settleAgreements_29 : decode cX3_settleAgreements 29 = .ok (.iload_n 1, 1) := by decide +kernel
theorem dX3_settleAgreements_30 : decode cX3_settleAgreements 30 = .ok (.bipush 20, 2) := by decide +kernel
theorem dX3_settleAgreements_32 : decode cX3_settleAgreements 32 = .ok (.iadd, 1) := by decide +kernel
theorem dX3_settleAgreements_33 : decode cX3_settleAgreements 33 = .ok (.aload_n 0, 1) := by decide +kernel
theorem dX3_settleAgreements_34 : decode cX3_settleAgreements 34 = .ok (.iconst 0, 1) := by decide +kernel
theorem dX3_settleAgreements_35 : decode cX3_settleAgreements 35 = .ok (.iconst 2, 1) := by decide +kernel
theorem dX3_settleAgreements_36 : decode cX3_settleAgreements 36 = .ok (.iload_n 1, 1) := by decide +kernel
theorem dX3_settleAgreements_37 : decode cX3_settleAgreements 37 = .ok (.invokevirtual 79, 3) := by decide +kernel
theorem dX3_settleAgreements_40 : decode cX3_settleAgreements 40 = .ok (.iastore, 1) := by decide +kernel
theorem dX3_settleAgreements_41 : decode cX3_settleAgreements 41 = .ok (.iinc 1 1, 3) := by decide +kernel
theorem dX3_settleAgreements_44 : decode cX3_settleAgreements 44 = .ok (.goto (-41), 3) := by decide +kernel
theorem dX3_settleAgreements_47 : decode cX3_settleAgreements 47 = .ok (.bipush (-40), 2) := by decide +kernel
theorem dX3_settleAgreements_49 : decode cX3_settleAgreements 49 = .ok (.istore_n 1, 1) := by decide +kernel
theorem dX3_settleAgreements_50 : decode cX3_settleAgreements 50 = .ok (.iload_n 1, 1) := by decide +kernel
theorem dX3_settleAgreements_51 : decode cX3_settleAgreements 51 = .ok (.bipush 40, 2) := by decide +kernel
theorem dX3_settleAgreements_53 : decode cX3_settleAgreements 53 = .ok (.if_icmp .gt 25, 3) := by decide +kernel
theorem dX3_settleAgreements_56 : decode cX3_settleAgreements 56 = .ok (.aload_n 0, 1) := by decide +kernel
theorem dX3_settleAgreements_57 : decode cX3_settleAgreements 57 = .ok (.getfield 32, 3) := by decide +kernel
theorem dX3_settleAgreements_60 : decode cX3_settleAgreements 60 = .ok (.iload_n 1, 1) := by decide +kernel
theorem dX3_settleAgreements_61 : decode cX3_settleAgreements 61 = .ok (.bipush 40, 2) := by decide +kernel
theorem dX3_settleAgreements_63 : decode cX3_settleAgreements 63 = .ok (.iadd, 1) := by decide +kernel
theorem dX3_settleAgreements_64 : decode cX3_settleAgreements 64 = .ok (.aload_n 0, 1) := by decide +kernel
theorem dX3_settleAgreements_65 : decode cX3_settleAgreements 65 = .ok (.iconst 1, 1) := by decide +kernel
theorem dX3_settleAgreements_66 : decode cX3_settleAgreements 66 = .ok (.iconst 2, 1) := by decide +kernel
theorem dX3_settleAgreements_67 : decode cX3_settleAgreements 67 = .ok (.iload_n 1, 1) := by decide +kernel
theorem dX3_settleAgreements_68 : decode cX3_settleAgreements 68 = .ok (.invokevirtual 79, 3) := by decide +kernel
theorem dX3_settleAgreements_71 : decode cX3_settleAgreements 71 = .ok (.iastore, 1) := by decide +kernel
theorem dX3_settleAgreements_72 : decode cX3_settleAgreements 72 = .ok (.iinc 1 1, 3) := by decide +kernel
theorem dX3_settleAgreements_75 : decode cX3_settleAgreements 75 = .ok (.goto (-25), 3) := by decide +kernel
theorem dX3_settleAgreements_78 : decode cX3_settleAgreements 78 = .ok (.return_, 1) := by decide +kernel
theorem dX3_stepsOfAgreement_0 : decode cX3_stepsOfAgreement 0 = .ok (.iconst 0, 1) := by decide +kernel
theorem dX3_stepsOfAgreement_1 : decode cX3_stepsOfAgreement 1 = .ok (.istore 4, 2) := by decide +kernel
theorem dX3_stepsOfAgreement_3 : decode cX3_stepsOfAgreement 3 = .ok (.iconst 0, 1) := by decide +kernel
theorem dX3_stepsOfAgreement_4 : decode cX3_stepsOfAgreement 4 = .ok (.istore 5, 2) := by decide +kernel
theorem dX3_stepsOfAgreement_6 : decode cX3_stepsOfAgreement 6 = .ok (.iload 5, 2) := by decide +kernel
theorem dX3_stepsOfAgreement_8 : decode cX3_stepsOfAgreement 8 = .ok (.aload_n 0, 1) := by decide +kernel
theorem dX3_stepsOfAgreement_9 : decode cX3_stepsOfAgreement 9 = .ok (.getfield 43, 3) := by decide +kernel
theorem dX3_stepsOfAgreement_12 : decode cX3_stepsOfAgreement 12 = .ok (.iconst 1, 1) := by decide +kernel
theorem dX3_stepsOfAgreement_13 : decode cX3_stepsOfAgreement 13 = .ok (.isub, 1) := by decide +kernel
theorem dX3_stepsOfAgreement_14 : decode cX3_stepsOfAgreement 14 = .ok (.if_icmp .ge 75, 3) := by decide +kernel
theorem dX3_stepsOfAgreement_17 : decode cX3_stepsOfAgreement 17 = .ok (.aload_n 0, 1) := by decide +kernel
theorem dX3_stepsOfAgreement_18 : decode cX3_stepsOfAgreement 18 = .ok (.getfield 11, 3) := by decide +kernel
theorem dX3_stepsOfAgreement_21 : decode cX3_stepsOfAgreement 21 = .ok (.iload_n 1, 1) := by decide +kernel
theorem dX3_stepsOfAgreement_22 : decode cX3_stepsOfAgreement 22 = .ok (.aaload, 1) := by decide +kernel
theorem dX3_stepsOfAgreement_23 : decode cX3_stepsOfAgreement 23 = .ok (.iload 5, 2) := by decide +kernel
theorem dX3_stepsOfAgreement_25 : decode cX3_stepsOfAgreement 25 = .ok (.iaload, 1) := by decide +kernel
theorem dX3_stepsOfAgreement_26 : decode cX3_stepsOfAgreement 26 = .ok (.istore 6, 2) := by decide +kernel
theorem dX3_stepsOfAgreement_28 : decode cX3_stepsOfAgreement 28 = .ok (.aload_n 0, 1) := by decide +kernel
theorem dX3_stepsOfAgreement_29 : decode cX3_stepsOfAgreement 29 = .ok (.getfield 11, 3) := by decide +kernel
theorem dX3_stepsOfAgreement_32 : decode cX3_stepsOfAgreement 32 = .ok (.iload_n 2, 1) := by decide +kernel
theorem dX3_stepsOfAgreement_33 : decode cX3_stepsOfAgreement 33 = .ok (.aaload, 1) := by decide +kernel
theorem dX3_stepsOfAgreement_34 : decode cX3_stepsOfAgreement 34 = .ok (.iload 5, 2) := by decide +kernel
theorem dX3_stepsOfAgreement_36 : decode cX3_stepsOfAgreement 36 = .ok (.iaload, 1) := by decide +kernel
theorem dX3_stepsOfAgreement_37 : decode cX3_stepsOfAgreement 37 = .ok (.istore 7, 2) := by decide +kernel
theorem dX3_stepsOfAgreement_39 : decode cX3_stepsOfAgreement 39 = .ok (.iload 6, 2) := by decide +kernel
theorem dX3_stepsOfAgreement_41 : decode cX3_stepsOfAgreement 41 = .ok (.sipush 5000, 3) := by decide +kernel
theorem dX3_stepsOfAgreement_44 : decode cX3_stepsOfAgreement 44 = .ok (.if_icmp .eq 39, 3) := by decide +kernel
theorem dX3_stepsOfAgreement_47 : decode cX3_stepsOfAgreement 47 = .ok (.iload 7, 2) := by decide +kernel
theorem dX3_stepsOfAgreement_49 : decode cX3_stepsOfAgreement 49 = .ok (.sipush 5000, 3) := by decide +kernel
theorem dX3_stepsOfAgreement_52 : decode cX3_stepsOfAgreement 52 = .ok (.if_icmp .eq 31, 3) := by decide +kernel
theorem dX3_stepsOfAgreement_55 : decode cX3_stepsOfAgreement 55 = .ok (.iload 7, 2) := by decide +kernel
theorem dX3_stepsOfAgreement_57 : decode cX3_stepsOfAgreement 57 = .ok (.iload_n 3, 1) := by decide +kernel
theorem dX3_stepsOfAgreement_58 : decode cX3_stepsOfAgreement 58 = .ok (.isub, 1) := by decide +kernel
theorem dX3_stepsOfAgreement_59 : decode cX3_stepsOfAgreement 59 = .ok (.iload 6, 2) := by decide +kernel
theorem dX3_stepsOfAgreement_61 : decode cX3_stepsOfAgreement 61 = .ok (.isub, 1) := by decide +kernel
theorem dX3_stepsOfAgreement_62 : decode cX3_stepsOfAgreement 62 = .ok (.invokestatic 83, 3) := by decide +kernel
theorem dX3_stepsOfAgreement_65 : decode cX3_stepsOfAgreement 65 = .ok (.iconst 2, 1) := by decide +kernel
theorem dX3_stepsOfAgreement_66 : decode cX3_stepsOfAgreement 66 = .ok (.aload_n 0, 1) := by decide +kernel
theorem dX3_stepsOfAgreement_67 : decode cX3_stepsOfAgreement 67 = .ok (.getfield 35, 3) := by decide +kernel
theorem dX3_stepsOfAgreement_70 : decode cX3_stepsOfAgreement 70 = .ok (.imul, 1) := by decide +kernel
theorem dX3_stepsOfAgreement_71 : decode cX3_stepsOfAgreement 71 = .ok (.if_icmp .gt 12, 3) := by decide +kernel
theorem dX3_stepsOfAgreement_74 : decode cX3_stepsOfAgreement 74 = .ok (.iload 4, 2) := by decide +kernel
theorem dX3_stepsOfAgreement_76 : decode cX3_stepsOfAgreement 76 = .ok (.iconst 1, 1) := by decide +kernel
theorem dX3_stepsOfAgreement_77 : decode cX3_stepsOfAgreement 77 = .ok (.iload 5, 2) := by decide +kernel
theorem dX3_stepsOfAgreement_79 : decode cX3_stepsOfAgreement 79 = .ok (.ishl, 1) := by decide +kernel
theorem dX3_stepsOfAgreement_80 : decode cX3_stepsOfAgreement 80 = .ok (.ior, 1) := by decide +kernel
theorem dX3_stepsOfAgreement_81 : decode cX3_stepsOfAgreement 81 = .ok (.istore 4, 2) := by decide +kernel
theorem dX3_stepsOfAgreement_83 : decode cX3_stepsOfAgreement 83 = .ok (.iinc 5 1, 3) := by decide +kernel
theorem dX3_stepsOfAgreement_86 : decode cX3_stepsOfAgreement 86 = .ok (.goto (-80), 3) := by decide +kernel
theorem dX3_stepsOfAgreement_89 : decode cX3_stepsOfAgreement 89 = .ok (.iload 4, 2) := by decide +kernel
theorem dX3_stepsOfAgreement_91 : decode cX3_stepsOfAgreement 91 = .ok (.ireturn, 1) := by decide +kernel
theorem dX3_settleShifts_0 : decode cX3_settleShifts 0 = .ok (.iconst (-1), 1) := by decide +kernel
theorem dX3_settleShifts_1 : decode cX3_settleShifts 1 = .ok (.istore_n 1, 1) := by decide +kernel
theorem dX3_settleShifts_2 : decode cX3_settleShifts 2 = .ok (.iconst 0, 1) := by decide +kernel
theorem dX3_settleShifts_3 : decode cX3_settleShifts 3 = .ok (.istore_n 2, 1) := by decide +kernel
theorem dX3_settleShifts_4 : decode cX3_settleShifts 4 = .ok (.bipush (-20), 2) := by decide +kernel
theorem dX3_settleShifts_6 : decode cX3_settleShifts 6 = .ok (.istore_n 3, 1) := by decide +kernel
theorem dX3_settleShifts_7 : decode cX3_settleShifts 7 = .ok (.iload_n 3, 1) := by decide +kernel
theorem dX3_settleShifts_8 : decode cX3_settleShifts 8 = .ok (.bipush 20, 2) := by decide +kernel
theorem dX3_settleShifts_10 : decode cX3_settleShifts 10 = .ok (.if_icmp .gt 86, 3) := by decide +kernel
theorem dX3_settleShifts_13 : decode cX3_settleShifts 13 = .ok (.bipush (-20), 2) := by decide +kernel
theorem dX3_settleShifts_15 : decode cX3_settleShifts 15 = .ok (.istore 4, 2) := by decide +kernel
theorem dX3_settleShifts_17 : decode cX3_settleShifts 17 = .ok (.iload 4, 2) := by decide +kernel
theorem dX3_settleShifts_19 : decode cX3_settleShifts 19 = .ok (.bipush 20, 2) := by decide +kernel
theorem dX3_settleShifts_21 : decode cX3_settleShifts 21 = .ok (.if_icmp .gt 69, 3) := by decide +kernel
theorem dX3_settleShifts_24 : decode cX3_settleShifts 24 = .ok (.iload_n 3, 1) := by decide +kernel
theorem dX3_settleShifts_25 : decode cX3_settleShifts 25 = .ok (.invokestatic 83, 3) := by decide +kernel
theorem dX3_settleShifts_28 : decode cX3_settleShifts 28 = .ok (.iload 4, 2) := by decide +kernel
theorem dX3_settleShifts_30 : decode cX3_settleShifts 30 = .ok (.invokestatic 83, 3) := by decide +kernel
theorem dX3_settleShifts_33 : decode cX3_settleShifts 33 = .ok (.iadd, 1) := by decide +kernel
theorem dX3_settleShifts_34 : decode cX3_settleShifts 34 = .ok (.istore 5, 2) := by decide +kernel
theorem dX3_settleShifts_36 : decode cX3_settleShifts 36 = .ok (.aload_n 0, 1) := by decide +kernel
theorem dX3_settleShifts_37 : decode cX3_settleShifts 37 = .ok (.iload_n 3, 1) := by decide +kernel
theorem dX3_settleShifts_38 : decode cX3_settleShifts 38 = .ok (.iload 4, 2) := by decide +kernel
theorem dX3_settleShifts_40 : decode cX3_settleShifts 40 = .ok (.invokevirtual 88, 3) := by decide +kernel
theorem dX3_settleShifts_43 : decode cX3_settleShifts 43 = .ok (.istore 6, 2) := by decide +kernel
theorem dX3_settleShifts_45 : decode cX3_settleShifts 45 = .ok (.iload 6, 2) := by decide +kernel
theorem dX3_settleShifts_47 : decode cX3_settleShifts 47 = .ok (.iload_n 1, 1) := by decide +kernel
theorem dX3_settleShifts_48 : decode cX3_settleShifts 48 = .ok (.if_icmp .gt 15, 3) := by decide +kernel
theorem dX3_settleShifts_51 : decode cX3_settleShifts 51 = .ok (.iload 6, 2) := by decide +kernel
theorem dX3_settleShifts_53 : decode cX3_settleShifts 53 = .ok (.iload_n 1, 1) := by decide +kernel
theorem dX3_settleShifts_54 : decode cX3_settleShifts 54 = .ok (.if_icmp .ne 30, 3) := by decide +kernel
theorem dX3_settleShifts_57 : decode cX3_settleShifts 57 = .ok (.iload 5, 2) := by decide +kernel
theorem dX3_settleShifts_59 : decode cX3_settleShifts 59 = .ok (.iload_n 2, 1) := by decide +kernel
theorem dX3_settleShifts_60 : decode cX3_settleShifts 60 = .ok (.if_icmp .ge 24, 3) := by decide +kernel
theorem dX3_settleShifts_63 : decode cX3_settleShifts 63 = .ok (.iload 6, 2) := by decide +kernel
theorem dX3_settleShifts_65 : decode cX3_settleShifts 65 = .ok (.istore_n 1, 1) := by decide +kernel
theorem dX3_settleShifts_66 : decode cX3_settleShifts 66 = .ok (.iload 5, 2) := by decide +kernel
theorem dX3_settleShifts_68 : decode cX3_settleShifts 68 = .ok (.istore_n 2, 1) := by decide +kernel
theorem dX3_settleShifts_69 : decode cX3_settleShifts 69 = .ok (.aload_n 0, 1) := by decide +kernel
theorem dX3_settleShifts_70 : decode cX3_settleShifts 70 = .ok (.getfield 16, 3) := by decide +kernel
theorem dX3_settleShifts_73 : decode cX3_settleShifts 73 = .ok (.iconst 1, 1) := by decide +kernel
theorem dX3_settleShifts_74 : decode cX3_settleShifts 74 = .ok (.iload_n 3, 1) := by decide +kernel
theorem dX3_settleShifts_75 : decode cX3_settleShifts 75 = .ok (.iastore, 1) := by decide +kernel
theorem dX3_settleShifts_76 : decode cX3_settleShifts 76 = .ok (.aload_n 0, 1) := by decide +kernel
theorem dX3_settleShifts_77 : decode cX3_settleShifts 77 = .ok (.getfield 16, 3) := by decide +kernel
theorem dX3_settleShifts_80 : decode cX3_settleShifts 80 = .ok (.iconst 2, 1) := by decide +kernel
theorem dX3_settleShifts_81 : decode cX3_settleShifts 81 = .ok (.iload 4, 2) := by decide +kernel
theorem dX3_settleShifts_83 : decode cX3_settleShifts 83 = .ok (.iastore, 1) := by decide +kernel
theorem dX3_settleShifts_84 : decode cX3_settleShifts 84 = .ok (.iinc 4 1, 3) := by decide +kernel
theorem dX3_settleShifts_87 : decode cX3_settleShifts 87 = .ok (.goto (-70), 3) := by decide +kernel
theorem dX3_settleShifts_90 : decode cX3_settleShifts 90 = .ok (.iinc 3 1, 3) := by decide +kernel
theorem dX3_settleShifts_93 : decode cX3_settleShifts 93 = .ok (.goto (-86), 3) := by decide +kernel
theorem dX3_settleShifts_96 : decode cX3_settleShifts 96 = .ok (.aload_n 0, 1) := by decide +kernel
theorem dX3_settleShifts_97 : decode cX3_settleShifts 97 = .ok (.aload_n 0, 1) := by decide +kernel
theorem dX3_settleShifts_98 : decode cX3_settleShifts 98 = .ok (.invokevirtual 92, 3) := by decide +kernel
theorem dX3_settleShifts_101 : decode cX3_settleShifts 101 = .ok (.aload_n 0, 1) := by decide +kernel
theorem dX3_settleShifts_102 : decode cX3_settleShifts 102 = .ok (.invokevirtual 96, 3) := by decide +kernel
theorem dX3_settleShifts_105 : decode cX3_settleShifts 105 = .ok (.isub, 1) := by decide +kernel
theorem dX3_settleShifts_106 : decode cX3_settleShifts 106 = .ok (.iload_n 1, 1) := by decide +kernel
theorem dX3_settleShifts_107 : decode cX3_settleShifts 107 = .ok (.isub, 1) := by decide +kernel
theorem dX3_settleShifts_108 : decode cX3_settleShifts 108 = .ok (.putfield 59, 3) := by decide +kernel
theorem dX3_settleShifts_111 : decode cX3_settleShifts 111 = .ok (.return_, 1) := by decide +kernel
theorem dX3_keptMore_0 : decode cX3_keptMore 0 = .ok (.aload_n 0, 1) := by decide +kernel
theorem dX3_keptMore_1 : decode cX3_keptMore 1 = .ok (.getfield 26, 3) := by decide +kernel
theorem dX3_keptMore_4 : decode cX3_keptMore 4 = .ok (.iload_n 1, 1) := by decide +kernel
theorem dX3_keptMore_5 : decode cX3_keptMore 5 = .ok (.bipush 20, 2) := by decide +kernel
theorem dX3_keptMore_7 : decode cX3_keptMore 7 = .ok (.iadd, 1) := by decide +kernel
theorem dX3_keptMore_8 : decode cX3_keptMore 8 = .ok (.iaload, 1) := by decide +kernel
theorem dX3_keptMore_9 : decode cX3_keptMore 9 = .ok (.istore_n 3, 1) := by decide +kernel
theorem dX3_keptMore_10 : decode cX3_keptMore 10 = .ok (.aload_n 0, 1) := by decide +kernel
theorem dX3_keptMore_11 : decode cX3_keptMore 11 = .ok (.getfield 29, 3) := by decide +kernel
theorem dX3_keptMore_14 : decode cX3_keptMore 14 = .ok (.iload_n 2, 1) := by decide +kernel
theorem dX3_keptMore_15 : decode cX3_keptMore 15 = .ok (.bipush 20, 2) := by decide +kernel
theorem dX3_keptMore_17 : decode cX3_keptMore 17 = .ok (.iadd, 1) := by decide +kernel
theorem dX3_keptMore_18 : decode cX3_keptMore 18 = .ok (.iaload, 1) := by decide +kernel
theorem dX3_keptMore_19 : decode cX3_keptMore 19 = .ok (.istore 4, 2) := by decide +kernel
theorem dX3_keptMore_21 : decode cX3_keptMore 21 = .ok (.aload_n 0, 1) := by decide +kernel
theorem dX3_keptMore_22 : decode cX3_keptMore 22 = .ok (.getfield 32, 3) := by decide +kernel
theorem dX3_keptMore_25 : decode cX3_keptMore 25 = .ok (.iload_n 2, 1) := by decide +kernel
theorem dX3_keptMore_26 : decode cX3_keptMore 26 = .ok (.iload_n 1, 1) := by decide +kernel
theorem dX3_keptMore_27 : decode cX3_keptMore 27 = .ok (.isub, 1) := by decide +kernel
theorem dX3_keptMore_28 : decode cX3_keptMore 28 = .ok (.bipush 40, 2) := by decide +kernel
theorem dX3_keptMore_30 : decode cX3_keptMore 30 = .ok (.iadd, 1) := by decide +kernel
theorem dX3_keptMore_31 : decode cX3_keptMore 31 = .ok (.iaload, 1) := by decide +kernel
theorem dX3_keptMore_32 : decode cX3_keptMore 32 = .ok (.istore 5, 2) := by decide +kernel
theorem dX3_keptMore_34 : decode cX3_keptMore 34 = .ok (.iload_n 3, 1) := by decide +kernel
theorem dX3_keptMore_35 : decode cX3_keptMore 35 = .ok (.iload 4, 2) := by decide +kernel
theorem dX3_keptMore_37 : decode cX3_keptMore 37 = .ok (.ior, 1) := by decide +kernel
theorem dX3_keptMore_38 : decode cX3_keptMore 38 = .ok (.iload 5, 2) := by decide +kernel
theorem dX3_keptMore_40 : decode cX3_keptMore 40 = .ok (.ior, 1) := by decide +kernel
theorem dX3_keptMore_41 : decode cX3_keptMore 41 = .ok (.invokestatic 99, 3) := by decide +kernel
theorem dX3_keptMore_44 : decode cX3_keptMore 44 = .ok (.iload_n 3, 1) := by decide +kernel
theorem dX3_keptMore_45 : decode cX3_keptMore 45 = .ok (.iload 4, 2) := by decide +kernel
theorem dX3_keptMore_47 : decode cX3_keptMore 47 = .ok (.iand, 1) := by decide +kernel
theorem dX3_keptMore_48 : decode cX3_keptMore 48 = .ok (.iload 5, 2) := by decide +kernel
theorem dX3_keptMore_50 : decode cX3_keptMore 50 = .ok (.iand, 1) := by decide +kernel
theorem dX3_keptMore_51 : decode cX3_keptMore 51 = .ok (.invokestatic 99, 3) := by decide +kernel
theorem dX3_keptMore_54 : decode cX3_keptMore 54 = .ok (.iadd, 1) := by decide +kernel
theorem dX3_keptMore_55 : decode cX3_keptMore 55 = .ok (.ireturn, 1) := by decide +kernel
theorem dX3_stepsTold_0 : decode cX3_stepsTold 0 = .ok (.iconst 0, 1) := by decide +kernel
theorem dX3_stepsTold_1 : decode cX3_stepsTold 1 = .ok (.istore_n 1, 1) := by decide +kernel
theorem dX3_stepsTold_2 : decode cX3_stepsTold 2 = .ok (.iconst 0, 1) := by decide +kernel
theorem dX3_stepsTold_3 : decode cX3_stepsTold 3 = .ok (.istore_n 2, 1) := by decide +kernel
theorem dX3_stepsTold_4 : decode cX3_stepsTold 4 = .ok (.iload_n 2, 1) := by decide +kernel
theorem dX3_stepsTold_5 : decode cX3_stepsTold 5 = .ok (.aload_n 0, 1) := by decide +kernel
theorem dX3_stepsTold_6 : decode cX3_stepsTold 6 = .ok (.getfield 43, 3) := by decide +kernel
theorem dX3_stepsTold_9 : decode cX3_stepsTold 9 = .ok (.iconst 1, 1) := by decide +kernel
theorem dX3_stepsTold_10 : decode cX3_stepsTold 10 = .ok (.isub, 1) := by decide +kernel
theorem dX3_stepsTold_11 : decode cX3_stepsTold 11 = .ok (.if_icmp .ge 54, 3) := by decide +kernel
theorem dX3_stepsTold_14 : decode cX3_stepsTold 14 = .ok (.aload_n 0, 1) := by decide +kernel
theorem dX3_stepsTold_15 : decode cX3_stepsTold 15 = .ok (.getfield 11, 3) := by decide +kernel
theorem dX3_stepsTold_18 : decode cX3_stepsTold 18 = .ok (.iconst 0, 1) := by decide +kernel
theorem dX3_stepsTold_19 : decode cX3_stepsTold 19 = .ok (.aaload, 1) := by decide +kernel
theorem dX3_stepsTold_20 : decode cX3_stepsTold 20 = .ok (.iload_n 2, 1) := by decide +kernel
theorem dX3_stepsTold_21 : decode cX3_stepsTold 21 = .ok (.iaload, 1) := by decide +kernel
theorem dX3_stepsTold_22 : decode cX3_stepsTold 22 = .ok (.sipush 5000, 3) := by decide +kernel
theorem dX3_stepsTold_25 : decode cX3_stepsTold 25 = .ok (.if_icmp .ne 31, 3) := by decide +kernel
theorem dX3_stepsTold_28 : decode cX3_stepsTold 28 = .ok (.aload_n 0, 1) := by decide +kernel
theorem dX3_stepsTold_29 : decode cX3_stepsTold 29 = .ok (.getfield 11, 3) := by decide +kernel
theorem dX3_stepsTold_32 : decode cX3_stepsTold 32 = .ok (.iconst 1, 1) := by decide +kernel
theorem dX3_stepsTold_33 : decode cX3_stepsTold 33 = .ok (.aaload, 1) := by decide +kernel
theorem dX3_stepsTold_34 : decode cX3_stepsTold 34 = .ok (.iload_n 2, 1) := by decide +kernel
theorem dX3_stepsTold_35 : decode cX3_stepsTold 35 = .ok (.iaload, 1) := by decide +kernel
theorem dX3_stepsTold_36 : decode cX3_stepsTold 36 = .ok (.sipush 5000, 3) := by decide +kernel
theorem dX3_stepsTold_39 : decode cX3_stepsTold 39 = .ok (.if_icmp .ne 17, 3) := by decide +kernel
theorem dX3_stepsTold_42 : decode cX3_stepsTold 42 = .ok (.aload_n 0, 1) := by decide +kernel
theorem dX3_stepsTold_43 : decode cX3_stepsTold 43 = .ok (.getfield 11, 3) := by decide +kernel
theorem dX3_stepsTold_46 : decode cX3_stepsTold 46 = .ok (.iconst 2, 1) := by decide +kernel
theorem dX3_stepsTold_47 : decode cX3_stepsTold 47 = .ok (.aaload, 1) := by decide +kernel
theorem dX3_stepsTold_48 : decode cX3_stepsTold 48 = .ok (.iload_n 2, 1) := by decide +kernel
theorem dX3_stepsTold_49 : decode cX3_stepsTold 49 = .ok (.iaload, 1) := by decide +kernel
theorem dX3_stepsTold_50 : decode cX3_stepsTold 50 = .ok (.sipush 5000, 3) := by decide +kernel
theorem dX3_stepsTold_53 : decode cX3_stepsTold 53 = .ok (.if_icmp .eq 6, 3) := by decide +kernel
theorem dX3_stepsTold_56 : decode cX3_stepsTold 56 = .ok (.iinc 1 1, 3) := by decide +kernel
theorem dX3_stepsTold_59 : decode cX3_stepsTold 59 = .ok (.iinc 2 1, 3) := by decide +kernel
theorem dX3_stepsTold_62 : decode cX3_stepsTold 62 = .ok (.goto (-58), 3) := by decide +kernel
theorem dX3_stepsTold_65 : decode cX3_stepsTold 65 = .ok (.iload_n 1, 1) := by decide +kernel
theorem dX3_stepsTold_66 : decode cX3_stepsTold 66 = .ok (.ireturn, 1) := by decide +kernel
theorem dX3_leastStep_0 : decode cX3_leastStep 0 = .ok (.iconst 0, 1) := by decide +kernel
theorem dX3_leastStep_1 : decode cX3_leastStep 1 = .ok (.istore_n 2, 1) := by decide +kernel
theorem dX3_leastStep_2 : decode cX3_leastStep 2 = .ok (.sipush 5000, 3) := by decide +kernel
theorem dX3_leastStep_5 : decode cX3_leastStep 5 = .ok (.istore_n 3, 1) := by decide +kernel
theorem dX3_leastStep_6 : decode cX3_leastStep 6 = .ok (.iconst 0, 1) := by decide +kernel
theorem dX3_leastStep_7 : decode cX3_leastStep 7 = .ok (.istore 4, 2) := by decide +kernel
theorem dX3_leastStep_9 : decode cX3_leastStep 9 = .ok (.iload 4, 2) := by decide +kernel
theorem dX3_leastStep_11 : decode cX3_leastStep 11 = .ok (.iconst 3, 1) := by decide +kernel
theorem dX3_leastStep_12 : decode cX3_leastStep 12 = .ok (.if_icmp .ge 81, 3) := by decide +kernel
theorem dX3_leastStep_15 : decode cX3_leastStep 15 = .ok (.aload_n 0, 1) := by decide +kernel
theorem dX3_leastStep_16 : decode cX3_leastStep 16 = .ok (.getfield 11, 3) := by decide +kernel
theorem dX3_leastStep_19 : decode cX3_leastStep 19 = .ok (.iload 4, 2) := by decide +kernel
theorem dX3_leastStep_21 : decode cX3_leastStep 21 = .ok (.aaload, 1) := by decide +kernel
theorem dX3_leastStep_22 : decode cX3_leastStep 22 = .ok (.iload_n 1, 1) := by decide +kernel
theorem dX3_leastStep_23 : decode cX3_leastStep 23 = .ok (.iaload, 1) := by decide +kernel
theorem dX3_leastStep_24 : decode cX3_leastStep 24 = .ok (.sipush 5000, 3) := by decide +kernel
theorem dX3_leastStep_27 : decode cX3_leastStep 27 = .ok (.if_icmp .eq 60, 3) := by decide +kernel
theorem dX3_leastStep_30 : decode cX3_leastStep 30 = .ok (.aload_n 0, 1) := by decide +kernel
theorem dX3_leastStep_31 : decode cX3_leastStep 31 = .ok (.getfield 11, 3) := by decide +kernel
theorem dX3_leastStep_34 : decode cX3_leastStep 34 = .ok (.iload 4, 2) := by decide +kernel
theorem dX3_leastStep_36 : decode cX3_leastStep 36 = .ok (.aaload, 1) := by decide +kernel
theorem dX3_leastStep_37 : decode cX3_leastStep 37 = .ok (.iload_n 1, 1) := by decide +kernel
theorem dX3_leastStep_38 : decode cX3_leastStep 38 = .ok (.iaload, 1) := by decide +kernel
theorem dX3_leastStep_39 : decode cX3_leastStep 39 = .ok (.aload_n 0, 1) := by decide +kernel
theorem dX3_leastStep_40 : decode cX3_leastStep 40 = .ok (.getfield 16, 3) := by decide +kernel
theorem dX3_leastStep_43 : decode cX3_leastStep 43 = .ok (.iload 4, 2) := by decide +kernel
theorem dX3_leastStep_45 : decode cX3_leastStep 45 = .ok (.iaload, 1) := by decide +kernel
theorem dX3_leastStep_46 : decode cX3_leastStep 46 = .ok (.isub, 1) := by decide +kernel
theorem dX3_leastStep_47 : decode cX3_leastStep 47 = .ok (.aload_n 0, 1) := by decide +kernel
theorem dX3_leastStep_48 : decode cX3_leastStep 48 = .ok (.getfield 35, 3) := by decide +kernel
theorem dX3_leastStep_51 : decode cX3_leastStep 51 = .ok (.isub, 1) := by decide +kernel
theorem dX3_leastStep_52 : decode cX3_leastStep 52 = .ok (.istore 5, 2) := by decide +kernel
theorem dX3_leastStep_54 : decode cX3_leastStep 54 = .ok (.aload_n 0, 1) := by decide +kernel
theorem dX3_leastStep_55 : decode cX3_leastStep 55 = .ok (.iload 5, 2) := by decide +kernel
theorem dX3_leastStep_57 : decode cX3_leastStep 57 = .ok (.iload_n 1, 1) := by decide +kernel
theorem dX3_leastStep_58 : decode cX3_leastStep 58 = .ok (.invokevirtual 104, 3) := by decide +kernel
theorem dX3_leastStep_61 : decode cX3_leastStep 61 = .ok (.istore 6, 2) := by decide +kernel
theorem dX3_leastStep_63 : decode cX3_leastStep 63 = .ok (.iload 6, 2) := by decide +kernel
theorem dX3_leastStep_65 : decode cX3_leastStep 65 = .ok (.iload_n 2, 1) := by decide +kernel
theorem dX3_leastStep_66 : decode cX3_leastStep 66 = .ok (.if_icmp .gt 15, 3) := by decide +kernel
theorem dX3_leastStep_69 : decode cX3_leastStep 69 = .ok (.iload 6, 2) := by decide +kernel
theorem dX3_leastStep_71 : decode cX3_leastStep 71 = .ok (.iload_n 2, 1) := by decide +kernel
theorem dX3_leastStep_72 : decode cX3_leastStep 72 = .ok (.if_icmp .ne 15, 3) := by decide +kernel
theorem dX3_leastStep_75 : decode cX3_leastStep 75 = .ok (.iload 5, 2) := by decide +kernel
theorem dX3_leastStep_77 : decode cX3_leastStep 77 = .ok (.iload_n 3, 1) := by decide +kernel
theorem dX3_leastStep_78 : decode cX3_leastStep 78 = .ok (.if_icmp .ge 9, 3) := by decide +kernel
theorem dX3_leastStep_81 : decode cX3_leastStep 81 = .ok (.iload 6, 2) := by decide +kernel
theorem dX3_leastStep_83 : decode cX3_leastStep 83 = .ok (.istore_n 2, 1) := by decide +kernel
theorem dX3_leastStep_84 : decode cX3_leastStep 84 = .ok (.iload 5, 2) := by decide +kernel
theorem dX3_leastStep_86 : decode cX3_leastStep 86 = .ok (.istore_n 3, 1) := by decide +kernel
theorem dX3_leastStep_87 : decode cX3_leastStep 87 = .ok (.iinc 4 1, 3) := by decide +kernel
theorem dX3_leastStep_90 : decode cX3_leastStep 90 = .ok (.goto (-81), 3) := by decide +kernel
theorem dX3_leastStep_93 : decode cX3_leastStep 93 = .ok (.iload_n 3, 1) := by decide +kernel
theorem dX3_leastStep_94 : decode cX3_leastStep 94 = .ok (.ireturn, 1) := by decide +kernel
theorem dX3_servedBy_0 : decode cX3_servedBy 0 = .ok (.iconst 0, 1) := by decide +kernel
theorem dX3_servedBy_1 : decode cX3_servedBy 1 = .ok (.istore_n 3, 1) := by decide +kernel
theorem dX3_servedBy_2 : decode cX3_servedBy 2 = .ok (.iconst 0, 1) := by decide +kernel
theorem dX3_servedBy_3 : decode cX3_servedBy 3 = .ok (.istore 4, 2) := by decide +kernel
theorem dX3_servedBy_5 : decode cX3_servedBy 5 = .ok (.iload 4, 2) := by decide +kernel
theorem dX3_servedBy_7 : decode cX3_servedBy 7 = .ok (.iconst 3, 1) := by decide +kernel
theorem dX3_servedBy_8 : decode cX3_servedBy 8 = .ok (.if_icmp .ge 53, 3) := by decide +kernel
theorem dX3_servedBy_11 : decode cX3_servedBy 11 = .ok (.aload_n 0, 1) := by decide +kernel
theorem dX3_servedBy_12 : decode cX3_servedBy 12 = .ok (.getfield 11, 3) := by decide +kernel
theorem dX3_servedBy_15 : decode cX3_servedBy 15 = .ok (.iload 4, 2) := by decide +kernel
theorem dX3_servedBy_17 : decode cX3_servedBy 17 = .ok (.aaload, 1) := by decide +kernel
theorem dX3_servedBy_18 : decode cX3_servedBy 18 = .ok (.iload_n 2, 1) := by decide +kernel
theorem dX3_servedBy_19 : decode cX3_servedBy 19 = .ok (.iaload, 1) := by decide +kernel
theorem dX3_servedBy_20 : decode cX3_servedBy 20 = .ok (.istore 5, 2) := by decide +kernel
theorem dX3_servedBy_22 : decode cX3_servedBy 22 = .ok (.iload 5, 2) := by decide +kernel
theorem dX3_servedBy_24 : decode cX3_servedBy 24 = .ok (.sipush 5000, 3) := by decide +kernel
theorem dX3_servedBy_27 : decode cX3_servedBy 27 = .ok (.if_icmp .eq 28, 3) := by decide +kernel
theorem dX3_servedBy_30 : decode cX3_servedBy 30 = .ok (.iload 5, 2) := by decide +kernel
theorem dX3_servedBy_32 : decode cX3_servedBy 32 = .ok (.aload_n 0, 1) := by decide +kernel
theorem dX3_servedBy_33 : decode cX3_servedBy 33 = .ok (.getfield 16, 3) := by decide +kernel
theorem dX3_servedBy_36 : decode cX3_servedBy 36 = .ok (.iload 4, 2) := by decide +kernel
theorem dX3_servedBy_38 : decode cX3_servedBy 38 = .ok (.iaload, 1) := by decide +kernel
theorem dX3_servedBy_39 : decode cX3_servedBy 39 = .ok (.isub, 1) := by decide +kernel
theorem dX3_servedBy_40 : decode cX3_servedBy 40 = .ok (.iload_n 1, 1) := by decide +kernel
theorem dX3_servedBy_41 : decode cX3_servedBy 41 = .ok (.isub, 1) := by decide +kernel
theorem dX3_servedBy_42 : decode cX3_servedBy 42 = .ok (.invokestatic 83, 3) := by decide +kernel
theorem dX3_servedBy_45 : decode cX3_servedBy 45 = .ok (.aload_n 0, 1) := by decide +kernel
theorem dX3_servedBy_46 : decode cX3_servedBy 46 = .ok (.getfield 35, 3) := by decide +kernel
theorem dX3_servedBy_49 : decode cX3_servedBy 49 = .ok (.if_icmp .gt 6, 3) := by decide +kernel
theorem dX3_servedBy_52 : decode cX3_servedBy 52 = .ok (.iinc 3 1, 3) := by decide +kernel
theorem dX3_servedBy_55 : decode cX3_servedBy 55 = .ok (.iinc 4 1, 3) := by decide +kernel
theorem dX3_servedBy_58 : decode cX3_servedBy 58 = .ok (.goto (-53), 3) := by decide +kernel
theorem dX3_servedBy_61 : decode cX3_servedBy 61 = .ok (.iload_n 3, 1) := by decide +kernel
theorem dX3_servedBy_62 : decode cX3_servedBy 62 = .ok (.ireturn, 1) := by decide +kernel
theorem dX3_settleProfiles_0 : decode cX3_settleProfiles 0 = .ok (.aload_n 0, 1) := by decide +kernel
theorem dX3_settleProfiles_1 : decode cX3_settleProfiles 1 = .ok (.getfield 23, 3) := by decide +kernel
theorem dX3_settleProfiles_4 : decode cX3_settleProfiles 4 = .ok (.iconst 0, 1) := by decide +kernel
theorem dX3_settleProfiles_5 : decode cX3_settleProfiles 5 = .ok (.iconst 0, 1) := by decide +kernel
theorem dX3_settleProfiles_6 : decode cX3_settleProfiles 6 = .ok (.iastore, 1) := by decide +kernel
theorem dX3_settleProfiles_7 : decode cX3_settleProfiles 7 = .ok (.aload_n 0, 1) := by decide +kernel
theorem dX3_settleProfiles_8 : decode cX3_settleProfiles 8 = .ok (.iconst 1, 1) := by decide +kernel
theorem dX3_settleProfiles_9 : decode cX3_settleProfiles 9 = .ok (.putfield 62, 3) := by decide +kernel
theorem dX3_settleProfiles_12 : decode cX3_settleProfiles 12 = .ok (.iconst 0, 1) := by decide +kernel
theorem dX3_settleProfiles_13 : decode cX3_settleProfiles 13 = .ok (.istore_n 1, 1) := by decide +kernel
theorem dX3_settleProfiles_14 : decode cX3_settleProfiles 14 = .ok (.iload_n 1, 1) := by decide +kernel
theorem dX3_settleProfiles_15 : decode cX3_settleProfiles 15 = .ok (.aload_n 0, 1) := by decide +kernel
theorem dX3_settleProfiles_16 : decode cX3_settleProfiles 16 = .ok (.getfield 43, 3) := by decide +kernel
theorem dX3_settleProfiles_19 : decode cX3_settleProfiles 19 = .ok (.iconst 1, 1) := by decide +kernel
theorem dX3_settleProfiles_20 : decode cX3_settleProfiles 20 = .ok (.isub, 1) := by decide +kernel
theorem dX3_settleProfiles_21 : decode cX3_settleProfiles 21 = .ok (.if_icmp .ge 49, 3) := by decide +kernel
theorem dX3_settleProfiles_24 : decode cX3_settleProfiles 24 = .ok (.aload_n 0, 1) := by decide +kernel
theorem dX3_settleProfiles_25 : decode cX3_settleProfiles 25 = .ok (.getfield 20, 3) := by decide +kernel
theorem dX3_settleProfiles_28 : decode cX3_settleProfiles 28 = .ok (.iload_n 1, 1) := by decide +kernel
theorem dX3_settleProfiles_29 : decode cX3_settleProfiles 29 = .ok (.iaload, 1) := by decide +kernel
theorem dX3_settleProfiles_30 : decode cX3_settleProfiles 30 = .ok (.sipush 5000, 3) := by decide +kernel
theorem dX3_settleProfiles_33 : decode cX3_settleProfiles 33 = .ok (.if_icmp .eq 37, 3) := by decide +kernel
theorem dX3_settleProfiles_36 : decode cX3_settleProfiles 36 = .ok (.aload_n 0, 1) := by decide +kernel
theorem dX3_settleProfiles_37 : decode cX3_settleProfiles 37 = .ok (.getfield 23, 3) := by decide +kernel
theorem dX3_settleProfiles_40 : decode cX3_settleProfiles 40 = .ok (.iload_n 1, 1) := by decide +kernel
theorem dX3_settleProfiles_41 : decode cX3_settleProfiles 41 = .ok (.iconst 1, 1) := by decide +kernel
theorem dX3_settleProfiles_42 : decode cX3_settleProfiles 42 = .ok (.iadd, 1) := by decide +kernel
theorem dX3_settleProfiles_43 : decode cX3_settleProfiles 43 = .ok (.aload_n 0, 1) := by decide +kernel
theorem dX3_settleProfiles_44 : decode cX3_settleProfiles 44 = .ok (.getfield 23, 3) := by decide +kernel
theorem dX3_settleProfiles_47 : decode cX3_settleProfiles 47 = .ok (.iload_n 1, 1) := by decide +kernel
theorem dX3_settleProfiles_48 : decode cX3_settleProfiles 48 = .ok (.iaload, 1) := by decide +kernel
theorem dX3_settleProfiles_49 : decode cX3_settleProfiles 49 = .ok (.aload_n 0, 1) := by decide +kernel
theorem dX3_settleProfiles_50 : decode cX3_settleProfiles 50 = .ok (.getfield 20, 3) := by decide +kernel
theorem dX3_settleProfiles_53 : decode cX3_settleProfiles 53 = .ok (.iload_n 1, 1) := by decide +kernel
theorem dX3_settleProfiles_54 : decode cX3_settleProfiles 54 = .ok (.iaload, 1) := by decide +kernel
theorem dX3_settleProfiles_55 : decode cX3_settleProfiles 55 = .ok (.iadd, 1) := by decide +kernel
theorem dX3_settleProfiles_56 : decode cX3_settleProfiles 56 = .ok (.iastore, 1) := by decide +kernel
theorem dX3_settleProfiles_57 : decode cX3_settleProfiles 57 = .ok (.aload_n 0, 1) := by decide +kernel
theorem dX3_settleProfiles_58 : decode cX3_settleProfiles 58 = .ok (.iload_n 1, 1) := by decide +kernel
theorem dX3_settleProfiles_59 : decode cX3_settleProfiles 59 = .ok (.iconst 2, 1) := by decide +kernel
theorem dX3_settleProfiles_60 : decode cX3_settleProfiles 60 = .ok (.iadd, 1) := by decide +kernel
theorem dX3_settleProfiles_61 : decode cX3_settleProfiles 61 = .ok (.putfield 62, 3) := by decide +kernel
theorem dX3_settleProfiles_64 : decode cX3_settleProfiles 64 = .ok (.iinc 1 1, 3) := by decide +kernel
theorem dX3_settleProfiles_67 : decode cX3_settleProfiles 67 = .ok (.goto (-53), 3) := by decide +kernel
theorem dX3_settleProfiles_70 : decode cX3_settleProfiles 70 = .ok (.return_, 1) := by decide +kernel
theorem dX4_init_0 : decode cX4_init 0 = .ok (.aload_n 0, 1) := by decide +kernel
theorem dX4_init_1 : decode cX4_init 1 = .ok (.invokespecial 5, 3) := by decide +kernel
theorem dX4_init_4 : decode cX4_init 4 = .ok (.aload_n 0, 1) := by decide +kernel
theorem dX4_init_5 : decode cX4_init 5 = .ok (.sipush 23328, 3) := by decide +kernel
theorem dX4_init_8 : decode cX4_init 8 = .ok (.newarray .int, 2) := by decide +kernel
theorem dX4_init_10 : decode cX4_init 10 = .ok (.putfield 11, 3) := by decide +kernel
theorem dX4_init_13 : decode cX4_init 13 = .ok (.aload_n 0, 1) := by decide +kernel
theorem dX4_init_14 : decode cX4_init 14 = .ok (.iconst 3, 1) := by decide +kernel
theorem dX4_init_15 : decode cX4_init 15 = .ok (.bipush 16, 2) := by decide +kernel
theorem dX4_init_17 : decode cX4_init 17 = .ok (.multianewarray 15 2, 4) := by decide +kernel
theorem dX4_init_21 : decode cX4_init 21 = .ok (.putfield 17, 3) := by decide +kernel
theorem dX4_init_24 : decode cX4_init 24 = .ok (.aload_n 0, 1) := by decide +kernel
theorem dX4_init_25 : decode cX4_init 25 = .ok (.iconst 3, 1) := by decide +kernel
theorem dX4_init_26 : decode cX4_init 26 = .ok (.newarray .int, 2) := by decide +kernel
theorem dX4_init_28 : decode cX4_init 28 = .ok (.putfield 20, 3) := by decide +kernel
theorem dX4_init_31 : decode cX4_init 31 = .ok (.aload_n 0, 1) := by decide +kernel
theorem dX4_init_32 : decode cX4_init 32 = .ok (.iconst 3, 1) := by decide +kernel
theorem dX4_init_33 : decode cX4_init 33 = .ok (.newarray .int, 2) := by decide +kernel
theorem dX4_init_35 : decode cX4_init 35 = .ok (.putfield 23, 3) := by decide +kernel
theorem dX4_init_38 : decode cX4_init 38 = .ok (.aload_n 0, 1) := by decide +kernel
theorem dX4_init_39 : decode cX4_init 39 = .ok (.bipush 16, 2) := by decide +kernel
theorem dX4_init_41 : decode cX4_init 41 = .ok (.newarray .int, 2) := by decide +kernel
theorem dX4_init_43 : decode cX4_init 43 = .ok (.putfield 26, 3) := by decide +kernel
theorem dX4_init_46 : decode cX4_init 46 = .ok (.aload_n 0, 1) := by decide +kernel
theorem dX4_init_47 : decode cX4_init 47 = .ok (.iconst 5, 1) := by decide +kernel
theorem dX4_init_48 : decode cX4_init 48 = .ok (.newarray .int, 2) := by decide +kernel
theorem dX4_init_50 : decode cX4_init 50 = .ok (.putfield 29, 3) := by decide +kernel
theorem dX4_init_53 : decode cX4_init 53 = .ok (.aload_n 0, 1) := by decide +kernel
theorem dX4_init_54 : decode cX4_init 54 = .ok (.aload_n 1, 1) := by decide +kernel
theorem dX4_init_55 : decode cX4_init 55 = .ok (.putfield 32, 3) := by decide +kernel
theorem dX4_init_58 : decode cX4_init 58 = .ok (.aload_n 0, 1) := by decide +kernel
theorem dX4_init_59 : decode cX4_init 59 = .ok (.getfield 23, 3) := by decide +kernel
theorem dX4_init_62 : decode cX4_init 62 = .ok (.iconst (-1), 1) := by decide +kernel
theorem dX4_init_63 : decode cX4_init 63 = .ok (.invokestatic 36, 3) := by decide +kernel
theorem dX4_init_66 : decode cX4_init 66 = .ok (.return_, 1) := by decide +kernel
theorem dX4_hasPlan_0 : decode cX4_hasPlan 0 = .ok (.aload_n 0, 1) := by decide +kernel
theorem dX4_hasPlan_1 : decode cX4_hasPlan 1 = .ok (.iload_n 1, 1) := by decide +kernel
theorem dX4_hasPlan_2 : decode cX4_hasPlan 2 = .ok (.invokevirtual 42, 3) := by decide +kernel
theorem dX4_hasPlan_5 : decode cX4_hasPlan 5 = .ok (.aload_n 0, 1) := by decide +kernel
theorem dX4_hasPlan_6 : decode cX4_hasPlan 6 = .ok (.getfield 20, 3) := by decide +kernel
theorem dX4_hasPlan_9 : decode cX4_hasPlan 9 = .ok (.iload_n 1, 1) := by decide +kernel
theorem dX4_hasPlan_10 : decode cX4_hasPlan 10 = .ok (.iaload, 1) := by decide +kernel
theorem dX4_hasPlan_11 : decode cX4_hasPlan 11 = .ok (.sipush 1000, 3) := by decide +kernel
theorem dX4_hasPlan_14 : decode cX4_hasPlan 14 = .ok (.if_icmp .ge 7, 3) := by decide +kernel
theorem dX4_hasPlan_17 : decode cX4_hasPlan 17 = .ok (.iconst 1, 1) := by decide +kernel
theorem dX4_hasPlan_18 : decode cX4_hasPlan 18 = .ok (.goto 4, 3) := by decide +kernel
theorem dX4_hasPlan_21 : decode cX4_hasPlan 21 = .ok (.iconst 0, 1) := by decide +kernel
theorem dX4_hasPlan_22 : decode cX4_hasPlan 22 = .ok (.ireturn, 1) := by decide +kernel
theorem dX4_together_0 : decode cX4_together 0 = .ok (.aload_n 0, 1) := by decide +kernel
theorem dX4_together_1 : decode cX4_together 1 = .ok (.iload_n 1, 1) := by decide +kernel
theorem dX4_together_2 : decode cX4_together 2 = .ok (.invokevirtual 42, 3) := by decide +kernel
theorem dX4_together_5 : decode cX4_together 5 = .ok (.aload_n 0, 1) := by decide +kernel
theorem dX4_together_6 : decode cX4_together 6 = .ok (.getfield 20, 3) := by decide +kernel
theorem dX4_together_9 : decode cX4_together 9 = .ok (.iload_n 1, 1) := by decide +kernel
theorem dX4_together_10 : decode cX4_together 10 = .ok (.iaload, 1) := by decide +kernel
theorem dX4_together_11 : decode cX4_together 11 = .ok (.ireturn, 1) := by decide +kernel
theorem dX4_minutesAt_0 : decode cX4_minutesAt 0 = .ok (.aload_n 0, 1) := by decide +kernel
theorem dX4_minutesAt_1 : decode cX4_minutesAt 1 = .ok (.iload_n 1, 1) := by decide +kernel
theorem dX4_minutesAt_2 : decode cX4_minutesAt 2 = .ok (.invokevirtual 42, 3) := by decide +kernel
theorem dX4_minutesAt_5 : decode cX4_minutesAt 5 = .ok (.aload_n 0, 1) := by decide +kernel
theorem dX4_minutesAt_6 : decode cX4_minutesAt 6 = .ok (.getfield 17, 3) := by decide +kernel
theorem dX4_minutesAt_9 : decode cX4_minutesAt 9 = .ok (.iload_n 1, 1) := by decide +kernel
theorem dX4_minutesAt_10 : decode cX4_minutesAt 10 = .ok (.aaload, 1) := by decide +kernel
theorem dX4_minutesAt_11 : decode cX4_minutesAt 11 = .ok (.iload_n 2, 1) := by decide +kernel
theorem dX4_minutesAt_12 : decode cX4_minutesAt 12 = .ok (.iaload, 1) := by decide +kernel
theorem dX4_minutesAt_13 : decode cX4_minutesAt 13 = .ok (.ireturn, 1) := by decide +kernel
theorem dX4_rightZones_0 : decode cX4_rightZones 0 = .ok (.aload_n 0, 1) := by decide +kernel
theorem dX4_rightZones_1 : decode cX4_rightZones 1 = .ok (.iload_n 1, 1) := by decide +kernel
theorem dX4_rightZones_2 : decode cX4_rightZones 2 = .ok (.invokevirtual 42, 3) := by decide +kernel
theorem dX4_rightZones_5 : decode cX4_rightZones 5 = .ok (.aload_n 0, 1) := by decide +kernel
theorem dX4_rightZones_6 : decode cX4_rightZones 6 = .ok (.getfield 46, 3) := by decide +kernel
theorem dX4_rightZones_9 : decode cX4_rightZones 9 = .ok (.aload_n 0, 1) := by decide +kernel
theorem dX4_rightZones_10 : decode cX4_rightZones 10 = .ok (.getfield 20, 3) := by decide +kernel
theorem dX4_rightZones_13 : decode cX4_rightZones 13 = .ok (.iload_n 1, 1) := by decide +kernel
theorem dX4_rightZones_14 : decode cX4_rightZones 14 = .ok (.iaload, 1) := by decide +kernel
theorem dX4_rightZones_15 : decode cX4_rightZones 15 = .ok (.sipush 1000, 3) := by decide +kernel
theorem dX4_rightZones_18 : decode cX4_rightZones 18 = .ok (.idiv, 1) := by decide +kernel
theorem dX4_rightZones_19 : decode cX4_rightZones 19 = .ok (.isub, 1) := by decide +kernel
theorem dX4_rightZones_20 : decode cX4_rightZones 20 = .ok (.ireturn, 1) := by decide +kernel
theorem dX4_strokesOf_0 : decode cX4_strokesOf 0 = .ok (.aload_n 0, 1) := by decide +kernel
theorem dX4_strokesOf_1 : decode cX4_strokesOf 1 = .ok (.iload_n 1, 1) := by decide +kernel
theorem dX4_strokesOf_2 : decode cX4_strokesOf 2 = .ok (.invokevirtual 42, 3) := by decide +kernel
theorem dX4_strokesOf_5 : decode cX4_strokesOf 5 = .ok (.iconst 0, 1) := by decide +kernel
theorem dX4_strokesOf_6 : decode cX4_strokesOf 6 = .ok (.istore_n 2, 1) := by decide +kernel
theorem dX4_strokesOf_7 : decode cX4_strokesOf 7 = .ok (.iconst 0, 1) := by decide +kernel
theorem dX4_strokesOf_8 : decode cX4_strokesOf 8 = .ok (.istore_n 3, 1) := by decide +kernel
theorem dX4_strokesOf_9 : decode cX4_strokesOf 9 = .ok (.iload_n 3, 1) := by decide +kernel
theorem dX4_strokesOf_10 : decode cX4_strokesOf 10 = .ok (.aload_n 0, 1) := by decide +kernel
theorem dX4_strokesOf_11 : decode cX4_strokesOf 11 = .ok (.getfield 46, 3) := by decide +kernel
theorem dX4_strokesOf_14 : decode cX4_strokesOf 14 = .ok (.if_icmp .ge 23, 3) := by decide +kernel
theorem dX4_strokesOf_17 : decode cX4_strokesOf 17 = .ok (.aload_n 0, 1) := by decide +kernel
theorem dX4_strokesOf_18 : decode cX4_strokesOf 18 = .ok (.getfield 17, 3) := by decide +kernel
theorem dX4_strokesOf_21 : decode cX4_strokesOf 21 = .ok (.iload_n 1, 1) := by decide +kernel
theorem dX4_strokesOf_22 : decode cX4_strokesOf 22 = .ok (.aaload, 1) := by decide +kernel
theorem dX4_strokesOf_23 : decode cX4_strokesOf 23 = .ok (.iload_n 3, 1) := by decide +kernel
theorem dX4_strokesOf_24 : decode cX4_strokesOf 24 = .ok (.iaload, 1) := by decide +kernel
theorem dX4_strokesOf_25 : decode cX4_strokesOf 25 = .ok (.ifCond .le 6, 3) := by decide +kernel
theorem dX4_strokesOf_28 : decode cX4_strokesOf 28 = .ok (.iinc 2 1, 3) := by decide +kernel
theorem dX4_strokesOf_31 : decode cX4_strokesOf 31 = .ok (.iinc 3 1, 3) := by decide +kernel
theorem dX4_strokesOf_34 : decode cX4_strokesOf 34 = .ok (.goto (-25), 3) := by decide +kernel
theorem dX4_strokesOf_37 : decode cX4_strokesOf 37 = .ok (.iload_n 2, 1) := by decide +kernel
theorem dX4_strokesOf_38 : decode cX4_strokesOf 38 = .ok (.ireturn, 1) := by decide +kernel
theorem dX4_carryOut_0 : decode cX4_carryOut 0 = .ok (.aload_n 0, 1) := by decide +kernel
theorem dX4_carryOut_1 : decode cX4_carryOut 1 = .ok (.iload_n 1, 1) := by decide +kernel
theorem dX4_carryOut_2 : decode cX4_carryOut 2 = .ok (.invokevirtual 42, 3) := by decide +kernel
theorem dX4_carryOut_5 : decode cX4_carryOut 5 = .ok (.iconst 0, 1) := by decide +kernel
theorem dX4_carryOut_6 : decode cX4_carryOut 6 = .ok (.istore_n 2, 1) := by decide +kernel
theorem dX4_carryOut_7 : decode cX4_carryOut 7 = .ok (.iload_n 2, 1) := by decide +kernel
theorem dX4_carryOut_8 : decode cX4_carryOut 8 = .ok (.aload_n 0, 1) := by decide +kernel
theorem dX4_carryOut_9 : decode cX4_carryOut 9 = .ok (.getfield 46, 3) := by decide +kernel
theorem dX4_carryOut_12 : decode cX4_carryOut 12 = .ok (.if_icmp .ge 37, 3) := by decide +kernel
theorem dX4_carryOut_15 : decode cX4_carryOut 15 = .ok (.aload_n 0, 1) := by decide +kernel
theorem dX4_carryOut_16 : decode cX4_carryOut 16 = .ok (.getfield 17, 3) := by decide +kernel
theorem dX4_carryOut_19 : decode cX4_carryOut 19 = .ok (.iload_n 1, 1) := by decide +kernel
theorem dX4_carryOut_20 : decode cX4_carryOut 20 = .ok (.aaload, 1) := by decide +kernel
theorem dX4_carryOut_21 : decode cX4_carryOut 21 = .ok (.iload_n 2, 1) := by decide +kernel
theorem dX4_carryOut_22 : decode cX4_carryOut 22 = .ok (.iaload, 1) := by decide +kernel
theorem dX4_carryOut_23 : decode cX4_carryOut 23 = .ok (.ifCond .le 20, 3) := by decide +kernel
theorem dX4_carryOut_26 : decode cX4_carryOut 26 = .ok (.aload_n 0, 1) := by decide +kernel
theorem dX4_carryOut_27 : decode cX4_carryOut 27 = .ok (.getfield 32, 3) := by decide +kernel
theorem dX4_carryOut_30 : decode cX4_carryOut 30 = .ok (.iload_n 1, 1) := by decide +kernel
theorem dX4_carryOut_31 : decode cX4_carryOut 31 = .ok (.iload_n 2, 1) := by decide +kernel
theorem dX4_carryOut_32 : decode cX4_carryOut 32 = .ok (.aload_n 0, 1) := by decide +kernel
theorem dX4_carryOut_33 : decode cX4_carryOut 33 = .ok (.getfield 17, 3) := by decide +kernel
theorem dX4_carryOut_36 : decode cX4_carryOut 36 = .ok (.iload_n 1, 1) := by decide +kernel
theorem dX4_carryOut_37 : decode cX4_carryOut 37 = .ok (.aaload, 1) := by decide +kernel
theorem dX4_carryOut_38 : decode cX4_carryOut 38 = .ok (.iload_n 2, 1) := by decide +kernel
theorem dX4_carryOut_39 : decode cX4_carryOut 39 = .ok (.iaload, 1) := by decide +kernel
theorem dX4_carryOut_40 : decode cX4_carryOut 40 = .ok (.invokevirtual 50, 3) := by decide +kernel
theorem dX4_carryOut_43 : decode cX4_carryOut 43 = .ok (.iinc 2 1, 3) := by decide +kernel
theorem dX4_carryOut_46 : decode cX4_carryOut 46 = .ok (.goto (-39), 3) := by decide +kernel
theorem dX4_carryOut_49 : decode cX4_carryOut 49 = .ok (.return_, 1) := by decide +kernel
theorem dX4_settle_0 : decode cX4_settle 0 = .ok (.aload_n 0, 1) := by decide +kernel
theorem dX4_settle_1 : decode cX4_settle 1 = .ok (.getfield 23, 3) := by decide +kernel
theorem dX4_settle_4 : decode cX4_settle 4 = .ok (.iload_n 1, 1) := by decide +kernel
theorem dX4_settle_5 : decode cX4_settle 5 = .ok (.iaload, 1) := by decide +kernel
theorem dX4_settle_6 : decode cX4_settle 6 = .ok (.aload_n 0, 1) := by decide +kernel
theorem dX4_settle_7 : decode cX4_settle 7 = .ok (.getfield 32, 3) := by decide +kernel
theorem dX4_settle_10 : decode cX4_settle 10 = .ok (.invokevirtual 56, 3) := by decide +kernel
theorem dX4_settle_13 : decode cX4_settle 13 = .ok (.if_icmp .ne 4, 3) := by decide +kernel
theorem dX4_settle_16 : decode cX4_settle 16 = .ok (.return_, 1) := by decide +kernel
theorem dX4_settle_17 : decode cX4_settle 17 = .ok (.aload_n 0, 1) := by decide +kernel
theorem dX4_settle_18 : decode cX4_settle 18 = .ok (.iload_n 1, 1) := by decide +kernel
theorem dX4_settle_19 : decode cX4_settle 19 = .ok (.invokevirtual 60, 3) := by decide +kernel
theorem dX4_settle_22 : decode cX4_settle 22 = .ok (.aload_n 0, 1) := by decide +kernel
theorem dX4_settle_23 : decode cX4_settle 23 = .ok (.getfield 20, 3) := by decide +kernel
theorem dX4_settle_26 : decode cX4_settle 26 = .ok (.iload_n 1, 1) := by decide +kernel
theorem dX4_settle_27 : decode cX4_settle 27 = .ok (.aload_n 0, 1) := by decide +kernel
theorem dX4_settle_28 : decode cX4_settle 28 = .ok (.iconst 0, 1) := by decide +kernel
theorem dX4_settle_29 : decode cX4_settle 29 = .ok (.iconst 0, 1) := by decide +kernel
theorem dX4_settle_30 : decode cX4_settle 30 = .ok (.invokevirtual 63, 3) := by decide +kernel
theorem dX4_settle_33 : decode cX4_settle 33 = .ok (.iastore, 1) := by decide +kernel
theorem dX4_settle_34 : decode cX4_settle 34 = .ok (.aload_n 0, 1) := by decide +kernel
theorem dX4_settle_35 : decode cX4_settle 35 = .ok (.getfield 20, 3) := by decide +kernel
theorem dX4_settle_38 : decode cX4_settle 38 = .ok (.iload_n 1, 1) := by decide +kernel
theorem dX4_settle_39 : decode cX4_settle 39 = .ok (.iaload, 1) := by decide +kernel
theorem dX4_settle_40 : decode cX4_settle 40 = .ok (.sipush 1000, 3) := by decide +kernel
theorem dX4_settle_43 : decode cX4_settle 43 = .ok (.if_icmp .ge 13, 3) := by decide +kernel
theorem dX4_settle_46 : decode cX4_settle 46 = .ok (.aload_n 0, 1) := by decide +kernel
theorem dX4_settle_47 : decode cX4_settle 47 = .ok (.aload_n 0, 1) := by decide +kernel
theorem dX4_settle_48 : decode cX4_settle 48 = .ok (.getfield 17, 3) := by decide +kernel
theorem dX4_settle_51 : decode cX4_settle 51 = .ok (.iload_n 1, 1) := by decide +kernel
theorem dX4_settle_52 : decode cX4_settle 52 = .ok (.aaload, 1) := by decide +kernel
theorem dX4_settle_53 : decode cX4_settle 53 = .ok (.invokevirtual 67, 3) := by decide +kernel
theorem dX4_settle_56 : decode cX4_settle 56 = .ok (.aload_n 0, 1) := by decide +kernel
theorem dX4_settle_57 : decode cX4_settle 57 = .ok (.getfield 23, 3) := by decide +kernel
theorem dX4_settle_60 : decode cX4_settle 60 = .ok (.iload_n 1, 1) := by decide +kernel
theorem dX4_settle_61 : decode cX4_settle 61 = .ok (.aload_n 0, 1) := by decide +kernel
theorem dX4_settle_62 : decode cX4_settle 62 = .ok (.getfield 32, 3) := by decide +kernel
theorem dX4_settle_65 : decode cX4_settle 65 = .ok (.invokevirtual 56, 3) := by decide +kernel
theorem dX4_settle_68 : decode cX4_settle 68 = .ok (.iastore, 1) := by decide +kernel
theorem dX4_settle_69 : decode cX4_settle 69 = .ok (.return_, 1) := by decide +kernel
theorem dX4_begin_0 : decode cX4_begin 0 = .ok (.aload_n 0, 1) := by decide +kernel
theorem dX4_begin_1 : decode cX4_begin 1 = .ok (.aload_n 0, 1) := by decide +kernel
theorem dX4_begin_2 : decode cX4_begin 2 = .ok (.getfield 32, 3) := by decide +kernel
theorem dX4_begin_5 : decode cX4_begin 5 = .ok (.invokevirtual 71, 3) := by decide +kernel
theorem dX4_begin_8 : decode cX4_begin 8 = .ok (.putfield 46, 3) := by decide +kernel
theorem dX4_begin_11 : decode cX4_begin 11 = .ok (.aload_n 0, 1) := by decide +kernel
theorem dX4_begin_12 : decode cX4_begin 12 = .ok (.aload_n 0, 1) := by decide +kernel
theorem dX4_begin_13 : decode cX4_begin 13 = .ok (.getfield 32, 3) := by decide +kernel
theorem dX4_begin_16 : decode cX4_begin 16 = .ok (.invokevirtual 74, 3) := by decide +kernel
theorem dX4_begin_19 : decode cX4_begin 19 = .ok (.putfield 77, 3) := by decide +kernel
theorem dX4_begin_22 : decode cX4_begin 22 = .ok (.iconst 0, 1) := by decide +kernel
theorem dX4_begin_23 : decode cX4_begin 23 = .ok (.istore_n 2, 1) := by decide +kernel
theorem dX4_begin_24 : decode cX4_begin 24 = .ok (.iload_n 2, 1) := by decide +kernel
theorem dX4_begin_25 : decode cX4_begin 25 = .ok (.aload_n 0, 1) := by decide +kernel
theorem dX4_begin_26 : decode cX4_begin 26 = .ok (.getfield 46, 3) := by decide +kernel
theorem dX4_begin_29 : decode cX4_begin 29 = .ok (.if_icmp .ge 23, 3) := by decide +kernel
theorem dX4_begin_32 : decode cX4_begin 32 = .ok (.aload_n 0, 1) := by decide +kernel
theorem dX4_begin_33 : decode cX4_begin 33 = .ok (.getfield 26, 3) := by decide +kernel
theorem dX4_begin_36 : decode cX4_begin 36 = .ok (.iload_n 2, 1) := by decide +kernel
theorem dX4_begin_37 : decode cX4_begin 37 = .ok (.aload_n 0, 1) := by decide +kernel
theorem dX4_begin_38 : decode cX4_begin 38 = .ok (.getfield 32, 3) := by decide +kernel
theorem dX4_begin_41 : decode cX4_begin 41 = .ok (.iload_n 2, 1) := by decide +kernel
theorem dX4_begin_42 : decode cX4_begin 42 = .ok (.invokevirtual 80, 3) := by decide +kernel
theorem dX4_begin_45 : decode cX4_begin 45 = .ok (.iastore, 1) := by decide +kernel
theorem dX4_begin_46 : decode cX4_begin 46 = .ok (.iinc 2 1, 3) := by decide +kernel
theorem dX4_begin_49 : decode cX4_begin 49 = .ok (.goto (-25), 3) := by decide +kernel
theorem dX4_begin_52 : decode cX4_begin 52 = .ok (.bipush (-2), 2) := by decide +kernel
theorem dX4_begin_54 : decode cX4_begin 54 = .ok (.istore_n 2, 1) := by decide +kernel
theorem dX4_begin_55 : decode cX4_begin 55 = .ok (.iload_n 2, 1) := by decide +kernel
theorem dX4_begin_56 : decode cX4_begin 56 = .ok (.iconst 2, 1) := by decide +kernel
theorem dX4_begin_57 : decode cX4_begin 57 = .ok (.if_icmp .gt 26, 3) := by decide +kernel
theorem dX4_begin_60 : decode cX4_begin 60 = .ok (.aload_n 0, 1) := by decide +kernel
theorem dX4_begin_61 : decode cX4_begin 61 = .ok (.getfield 29, 3) := by decide +kernel
theorem dX4_begin_64 : decode cX4_begin 64 = .ok (.iload_n 2, 1) := by decide +kernel
theorem dX4_begin_65 : decode cX4_begin 65 = .ok (.iconst 2, 1) := by decide +kernel
theorem dX4_begin_66 : decode cX4_begin 66 = .ok (.iadd, 1) := by decide +kernel
theorem dX4_begin_67 : decode cX4_begin 67 = .ok (.aload_n 0, 1) := by decide +kernel
theorem dX4_begin_68 : decode cX4_begin 68 = .ok (.getfield 32, 3) := by decide +kernel
theorem dX4_begin_71 : decode cX4_begin 71 = .ok (.iload_n 1, 1) := by decide +kernel
theorem dX4_begin_72 : decode cX4_begin 72 = .ok (.iload_n 2, 1) := by decide +kernel
theorem dX4_begin_73 : decode cX4_begin 73 = .ok (.invokevirtual 84, 3) := by decide +kernel
theorem dX4_begin_76 : decode cX4_begin 76 = .ok (.iastore, 1) := by decide +kernel
theorem dX4_begin_77 : decode cX4_begin 77 = .ok (.iinc 2 1, 3) := by decide +kernel
theorem dX4_begin_80 : decode cX4_begin 80 = .ok (.goto (-25), 3) := by decide +kernel
theorem dX4_begin_83 : decode cX4_begin 83 = .ok (.aload_n 0, 1) := by decide +kernel
theorem dX4_begin_84 : decode cX4_begin 84 = .ok (.getfield 11, 3) := by decide +kernel
theorem dX4_begin_87 : decode cX4_begin 87 = .ok (.iconst (-1), 1) := by decide +kernel
theorem dX4_begin_88 : decode cX4_begin 88 = .ok (.invokestatic 36, 3) := by decide +kernel
theorem dX4_begin_91 : decode cX4_begin 91 = .ok (.return_, 1) := by decide +kernel
theorem dX4_traceMinutes_0 : decode cX4_traceMinutes 0 = .ok (.iconst 0, 1) := by decide +kernel
theorem dX4_traceMinutes_1 : decode cX4_traceMinutes 1 = .ok (.istore_n 2, 1) := by decide +kernel
theorem dX4_traceMinutes_2 : decode cX4_traceMinutes 2 = .ok (.iconst 0, 1) := by decide +kernel
theorem dX4_traceMinutes_3 : decode cX4_traceMinutes 3 = .ok (.istore_n 3, 1) := by decide +kernel
theorem dX4_traceMinutes_4 : decode cX4_traceMinutes 4 = .ok (.iload_n 3, 1) := by decide +kernel
theorem dX4_traceMinutes_5 : decode cX4_traceMinutes 5 = .ok (.aload_n 0, 1) := by decide +kernel
theorem dX4_traceMinutes_6 : decode cX4_traceMinutes 6 = .ok (.getfield 46, 3) := by decide +kernel
theorem dX4_traceMinutes_9 : decode cX4_traceMinutes 9 = .ok (.if_icmp .ge 71, 3) := by decide +kernel
theorem dX4_traceMinutes_12 : decode cX4_traceMinutes 12 = .ok (.aload_n 0, 1) := by decide +kernel
theorem dX4_traceMinutes_13 : decode cX4_traceMinutes 13 = .ok (.iload_n 3, 1) := by decide +kernel
theorem dX4_traceMinutes_14 : decode cX4_traceMinutes 14 = .ok (.iconst 2, 1) := by decide +kernel
theorem dX4_traceMinutes_15 : decode cX4_traceMinutes 15 = .ok (.isub, 1) := by decide +kernel
theorem dX4_traceMinutes_16 : decode cX4_traceMinutes 16 = .ok (.iload_n 2, 1) := by decide +kernel
theorem dX4_traceMinutes_17 : decode cX4_traceMinutes 17 = .ok (.invokevirtual 87, 3) := by decide +kernel
theorem dX4_traceMinutes_20 : decode cX4_traceMinutes 20 = .ok (.istore 4, 2) := by decide +kernel
theorem dX4_traceMinutes_22 : decode cX4_traceMinutes 22 = .ok (.iconst 0, 1) := by decide +kernel
theorem dX4_traceMinutes_23 : decode cX4_traceMinutes 23 = .ok (.istore 5, 2) := by decide +kernel
theorem dX4_traceMinutes_25 : decode cX4_traceMinutes 25 = .ok (.iload 5, 2) := by decide +kernel
theorem dX4_traceMinutes_27 : decode cX4_traceMinutes 27 = .ok (.iconst 5, 1) := by decide +kernel
theorem dX4_traceMinutes_28 : decode cX4_traceMinutes 28 = .ok (.if_icmp .ge 34, 3) := by decide +kernel
theorem dX4_traceMinutes_31 : decode cX4_traceMinutes 31 = .ok (.aload_n 0, 1) := by decide +kernel
theorem dX4_traceMinutes_32 : decode cX4_traceMinutes 32 = .ok (.iload_n 3, 1) := by decide +kernel
theorem dX4_traceMinutes_33 : decode cX4_traceMinutes 33 = .ok (.iload_n 2, 1) := by decide +kernel
theorem dX4_traceMinutes_34 : decode cX4_traceMinutes 34 = .ok (.iload 5, 2) := by decide +kernel
theorem dX4_traceMinutes_36 : decode cX4_traceMinutes 36 = .ok (.iload 4, 2) := by decide +kernel
theorem dX4_traceMinutes_38 : decode cX4_traceMinutes 38 = .ok (.invokevirtual 90, 3) := by decide +kernel
theorem dX4_traceMinutes_41 : decode cX4_traceMinutes 41 = .ok (.aload_n 0, 1) := by decide +kernel
theorem dX4_traceMinutes_42 : decode cX4_traceMinutes 42 = .ok (.getfield 11, 3) := by decide +kernel
theorem dX4_traceMinutes_45 : decode cX4_traceMinutes 45 = .ok (.iload_n 3, 1) := by decide +kernel
theorem dX4_traceMinutes_46 : decode cX4_traceMinutes 46 = .ok (.sipush 1296, 3) := by decide +kernel
theorem dX4_traceMinutes_49 : decode cX4_traceMinutes 49 = .ok (.imul, 1) := by decide +kernel
theorem dX4_traceMinutes_50 : decode cX4_traceMinutes 50 = .ok (.iload_n 2, 1) := by decide +kernel
theorem dX4_traceMinutes_51 : decode cX4_traceMinutes 51 = .ok (.iadd, 1) := by decide +kernel
theorem dX4_traceMinutes_52 : decode cX4_traceMinutes 52 = .ok (.iaload, 1) := by decide +kernel
theorem dX4_traceMinutes_53 : decode cX4_traceMinutes 53 = .ok (.if_icmp .le 9, 3) := by decide +kernel
theorem dX4_traceMinutes_56 : decode cX4_traceMinutes 56 = .ok (.iinc 5 1, 3) := by decide +kernel
theorem dX4_traceMinutes_59 : decode cX4_traceMinutes 59 = .ok (.goto (-34), 3) := by decide +kernel
theorem dX4_traceMinutes_62 : decode cX4_traceMinutes 62 = .ok (.aload_n 1, 1) := by decide +kernel
theorem dX4_traceMinutes_63 : decode cX4_traceMinutes 63 = .ok (.iload_n 3, 1) := by decide +kernel
theorem dX4_traceMinutes_64 : decode cX4_traceMinutes 64 = .ok (.iload 5, 2) := by decide +kernel
theorem dX4_traceMinutes_66 : decode cX4_traceMinutes 66 = .ok (.iastore, 1) := by decide +kernel
theorem dX4_traceMinutes_67 : decode cX4_traceMinutes 67 = .ok (.iload_n 2, 1) := by decide +kernel
theorem dX4_traceMinutes_68 : decode cX4_traceMinutes 68 = .ok (.iload 5, 2) := by decide +kernel
theorem dX4_traceMinutes_70 : decode cX4_traceMinutes 70 = .ok (.invokestatic 94, 3) := by decide +kernel
theorem dX4_traceMinutes_73 : decode cX4_traceMinutes 73 = .ok (.istore_n 2, 1) := by decide +kernel
theorem dX4_traceMinutes_74 : decode cX4_traceMinutes 74 = .ok (.iinc 3 1, 3) := by decide +kernel
theorem dX4_traceMinutes_77 : decode cX4_traceMinutes 77 = .ok (.goto (-73), 3) := by decide +kernel
theorem dX4_traceMinutes_80 : decode cX4_traceMinutes 80 = .ok (.return_, 1) := by decide +kernel
theorem dX4_costFrom_0 : decode cX4_costFrom 0 = .ok (.iload_n 1, 1) := by decide +kernel
theorem dX4_costFrom_1 : decode cX4_costFrom 1 = .ok (.ifCond .lt 24, 3) := by decide +kernel
theorem dX4_costFrom_4 : decode cX4_costFrom 4 = .ok (.iload_n 1, 1) := by decide +kernel
theorem dX4_costFrom_5 : decode cX4_costFrom 5 = .ok (.aload_n 0, 1) := by decide +kernel
theorem dX4_costFrom_6 : decode cX4_costFrom 6 = .ok (.getfield 46, 3) := by decide +kernel
theorem dX4_costFrom_9 : decode cX4_costFrom 9 = .ok (.iconst 2, 1) := by decide +kernel
theorem dX4_costFrom_10 : decode cX4_costFrom 10 = .ok (.iadd, 1) := by decide +kernel
theorem dX4_costFrom_11 : decode cX4_costFrom 11 = .ok (.if_icmp .ge 14, 3) := by decide +kernel
theorem dX4_costFrom_14 : decode cX4_costFrom 14 = .ok (.iload_n 2, 1) := by decide +kernel
theorem dX4_costFrom_15 : decode cX4_costFrom 15 = .ok (.ifCond .lt 10, 3) := by decide +kernel
theorem dX4_costFrom_18 : decode cX4_costFrom 18 = .ok (.iload_n 2, 1) := by decide +kernel
theorem dX4_costFrom_19 : decode cX4_costFrom 19 = .ok (.sipush 1296, 3) := by decide +kernel
theorem dX4_costFrom_22 : decode cX4_costFrom 22 = .ok (.if_icmp .lt 5, 3) := by decide +kernel
theorem dX4_costFrom_25 : decode cX4_costFrom 25 = .ok (.iconst 0, 1) := by decide +kernel
theorem dX4_costFrom_26 : decode cX4_costFrom 26 = .ok (.ireturn, 1) := by decide +kernel
theorem dX4_costFrom_27 : decode cX4_costFrom 27 = .ok (.iload_n 1, 1) := by decide +kernel
theorem dX4_costFrom_28 : decode cX4_costFrom 28 = .ok (.sipush 1296, 3) := by decide +kernel
theorem dX4_costFrom_31 : decode cX4_costFrom 31 = .ok (.imul, 1) := by decide +kernel
theorem dX4_costFrom_32 : decode cX4_costFrom 32 = .ok (.iload_n 2, 1) := by decide +kernel
theorem dX4_costFrom_33 : decode cX4_costFrom 33 = .ok (.iadd, 1) := by decide +kernel
theorem dX4_costFrom_34 : decode cX4_costFrom 34 = .ok (.istore_n 3, 1) := by decide +kernel
theorem dX4_costFrom_35 : decode cX4_costFrom 35 = .ok (.aload_n 0, 1) := by decide +kernel
theorem dX4_costFrom_36 : decode cX4_costFrom 36 = .ok (.getfield 11, 3) := by decide +kernel
theorem dX4_costFrom_39 : decode cX4_costFrom 39 = .ok (.iload_n 3, 1) := by decide +kernel
theorem dX4_costFrom_40 : decode cX4_costFrom 40 = .ok (.iaload, 1) := by decide +kernel
theorem dX4_costFrom_41 : decode cX4_costFrom 41 = .ok (.iconst (-1), 1) := by decide +kernel
theorem dX4_costFrom_42 : decode cX4_costFrom 42 = .ok (.if_icmp .ne 15, 3) := by decide +kernel
theorem dX4_costFrom_45 : decode cX4_costFrom 45 = .ok (.aload_n 0, 1) := by decide +kernel
theorem dX4_costFrom_46 : decode cX4_costFrom 46 = .ok (.getfield 11, 3) := by decide +kernel
theorem dX4_costFrom_49 : decode cX4_costFrom 49 = .ok (.iload_n 3, 1) := by decide +kernel
theorem dX4_costFrom_50 : decode cX4_costFrom 50 = .ok (.aload_n 0, 1) := by decide +kernel
theorem dX4_costFrom_51 : decode cX4_costFrom 51 = .ok (.iload_n 1, 1) := by decide +kernel
theorem dX4_costFrom_52 : decode cX4_costFrom 52 = .ok (.iload_n 2, 1) := by decide +kernel
theorem dX4_costFrom_53 : decode cX4_costFrom 53 = .ok (.invokevirtual 97, 3) := by decide +kernel
theorem dX4_costFrom_56 : decode cX4_costFrom 56 = .ok (.iastore, 1) := by decide +kernel
theorem dX4_costFrom_57 : decode cX4_costFrom 57 = .ok (.aload_n 0, 1) := by decide +kernel
theorem dX4_costFrom_58 : decode cX4_costFrom 58 = .ok (.getfield 11, 3) := by decide +kernel
theorem dX4_costFrom_61 : decode cX4_costFrom 61 = .ok (.iload_n 3, 1) := by decide +kernel
theorem dX4_costFrom_62 : decode cX4_costFrom 62 = .ok (.iaload, 1) := by decide +kernel
theorem dX4_costFrom_63 : decode cX4_costFrom 63 = .ok (.ireturn, 1) := by decide +kernel
theorem dX4_leastCost_0 : decode cX4_leastCost 0 = .ok (.iload_n 1, 1) := by decide +kernel
theorem dX4_leastCost_1 : decode cX4_leastCost 1 = .ok (.aload_n 0, 1) := by decide +kernel
theorem dX4_leastCost_2 : decode cX4_leastCost 2 = .ok (.getfield 46, 3) := by decide +kernel
theorem dX4_leastCost_5 : decode cX4_leastCost 5 = .ok (.if_icmp .ge 7, 3) := by decide +kernel
theorem dX4_leastCost_8 : decode cX4_leastCost 8 = .ok (.iconst 5, 1) := by decide +kernel
theorem dX4_leastCost_9 : decode cX4_leastCost 9 = .ok (.goto 4, 3) := by decide +kernel
theorem dX4_leastCost_12 : decode cX4_leastCost 12 = .ok (.iconst 0, 1) := by decide +kernel
theorem dX4_leastCost_13 : decode cX4_leastCost 13 = .ok (.istore_n 3, 1) := by decide +kernel
theorem dX4_leastCost_14 : decode cX4_leastCost 14 = .ok (.aload_n 0, 1) := by decide +kernel
theorem dX4_leastCost_15 : decode cX4_leastCost 15 = .ok (.iload_n 1, 1) := by decide +kernel
theorem dX4_leastCost_16 : decode cX4_leastCost 16 = .ok (.iconst 2, 1) := by decide +kernel
theorem dX4_leastCost_17 : decode cX4_leastCost 17 = .ok (.isub, 1) := by decide +kernel
theorem dX4_leastCost_18 : decode cX4_leastCost 18 = .ok (.iload_n 2, 1) := by decide +kernel
theorem dX4_leastCost_19 : decode cX4_leastCost 19 = .ok (.invokevirtual 87, 3) := by decide +kernel
theorem dX4_leastCost_22 : decode cX4_leastCost 22 = .ok (.istore 4, 2) := by decide +kernel
theorem dX4_leastCost_24 : decode cX4_leastCost 24 = .ok (.sipush 17000, 3) := by decide +kernel
theorem dX4_leastCost_27 : decode cX4_leastCost 27 = .ok (.istore 5, 2) := by decide +kernel
theorem dX4_leastCost_29 : decode cX4_leastCost 29 = .ok (.iconst 0, 1) := by decide +kernel
theorem dX4_leastCost_30 : decode cX4_leastCost 30 = .ok (.istore 6, 2) := by decide +kernel
theorem dX4_leastCost_32 : decode cX4_leastCost 32 = .ok (.iload 6, 2) := by decide +kernel
theorem dX4_leastCost_34 : decode cX4_leastCost 34 = .ok (.iload_n 3, 1) := by decide +kernel
theorem dX4_leastCost_35 : decode cX4_leastCost 35 = .ok (.if_icmp .gt 33, 3) := by decide +kernel
theorem dX4_leastCost_38 : decode cX4_leastCost 38 = .ok (.iload 6, 2) := by decide +kernel
theorem dX4_leastCost_40 : decode cX4_leastCost 40 = .ok (.iload 5, 2) := by decide +kernel
theorem dX4_leastCost_42 : decode cX4_leastCost 42 = .ok (.if_icmp .ge 26, 3) := by decide +kernel
theorem dX4_leastCost_45 : decode cX4_leastCost 45 = .ok (.iload 5, 2) := by decide +kernel
theorem dX4_leastCost_47 : decode cX4_leastCost 47 = .ok (.aload_n 0, 1) := by decide +kernel
theorem dX4_leastCost_48 : decode cX4_leastCost 48 = .ok (.iload_n 1, 1) := by decide +kernel
theorem dX4_leastCost_49 : decode cX4_leastCost 49 = .ok (.iload_n 2, 1) := by decide +kernel
theorem dX4_leastCost_50 : decode cX4_leastCost 50 = .ok (.iload 6, 2) := by decide +kernel
theorem dX4_leastCost_52 : decode cX4_leastCost 52 = .ok (.iload 4, 2) := by decide +kernel
theorem dX4_leastCost_54 : decode cX4_leastCost 54 = .ok (.invokevirtual 90, 3) := by decide +kernel
theorem dX4_leastCost_57 : decode cX4_leastCost 57 = .ok (.invokestatic 100, 3) := by decide +kernel
theorem dX4_leastCost_60 : decode cX4_leastCost 60 = .ok (.istore 5, 2) := by decide +kernel
theorem dX4_leastCost_62 : decode cX4_leastCost 62 = .ok (.iinc 6 1, 3) := by decide +kernel
theorem dX4_leastCost_65 : decode cX4_leastCost 65 = .ok (.goto (-33), 3) := by decide +kernel
theorem dX4_leastCost_68 : decode cX4_leastCost 68 = .ok (.iload 5, 2) := by decide +kernel
theorem dX4_leastCost_70 : decode cX4_leastCost 70 = .ok (.ireturn, 1) := by decide +kernel
theorem dX4_costWith_0 : decode cX4_costWith 0 = .ok (.iload 4, 2) := by decide +kernel
theorem dX4_costWith_2 : decode cX4_costWith 2 = .ok (.iload_n 3, 1) := by decide +kernel
theorem dX4_costWith_3 : decode cX4_costWith 3 = .ok (.aload_n 0, 1) := by decide +kernel
theorem dX4_costWith_4 : decode cX4_costWith 4 = .ok (.getfield 29, 3) := by decide +kernel
theorem dX4_costWith_7 : decode cX4_costWith 7 = .ok (.iconst 0, 1) := by decide +kernel
theorem dX4_costWith_8 : decode cX4_costWith 8 = .ok (.iaload, 1) := by decide +kernel
theorem dX4_costWith_9 : decode cX4_costWith 9 = .ok (.imul, 1) := by decide +kernel
theorem dX4_costWith_10 : decode cX4_costWith 10 = .ok (.isub, 1) := by decide +kernel
theorem dX4_costWith_11 : decode cX4_costWith 11 = .ok (.istore 5, 2) := by decide +kernel
theorem dX4_costWith_13 : decode cX4_costWith 13 = .ok (.iload_n 1, 1) := by decide +kernel
theorem dX4_costWith_14 : decode cX4_costWith 14 = .ok (.iconst 2, 1) := by decide +kernel
theorem dX4_costWith_15 : decode cX4_costWith 15 = .ok (.if_icmp .lt 30, 3) := by decide +kernel
theorem dX4_costWith_18 : decode cX4_costWith 18 = .ok (.iload 5, 2) := by decide +kernel
theorem dX4_costWith_20 : decode cX4_costWith 20 = .ok (.ifCond .lt 12, 3) := by decide +kernel
theorem dX4_costWith_23 : decode cX4_costWith 23 = .ok (.iload 5, 2) := by decide +kernel
theorem dX4_costWith_25 : decode cX4_costWith 25 = .ok (.aload_n 0, 1) := by decide +kernel
theorem dX4_costWith_26 : decode cX4_costWith 26 = .ok (.getfield 77, 3) := by decide +kernel
theorem dX4_costWith_29 : decode cX4_costWith 29 = .ok (.if_icmp .le 16, 3) := by decide +kernel
theorem dX4_costWith_32 : decode cX4_costWith 32 = .ok (.aload_n 0, 1) := by decide +kernel
theorem dX4_costWith_33 : decode cX4_costWith 33 = .ok (.getfield 46, 3) := by decide +kernel
theorem dX4_costWith_36 : decode cX4_costWith 36 = .ok (.iload_n 1, 1) := by decide +kernel
theorem dX4_costWith_37 : decode cX4_costWith 37 = .ok (.isub, 1) := by decide +kernel
theorem dX4_costWith_38 : decode cX4_costWith 38 = .ok (.iconst 2, 1) := by decide +kernel
theorem dX4_costWith_39 : decode cX4_costWith 39 = .ok (.iadd, 1) := by decide +kernel
theorem dX4_costWith_40 : decode cX4_costWith 40 = .ok (.sipush 1000, 3) := by decide +kernel
theorem dX4_costWith_43 : decode cX4_costWith 43 = .ok (.imul, 1) := by decide +kernel
theorem dX4_costWith_44 : decode cX4_costWith 44 = .ok (.ireturn, 1) := by decide +kernel
theorem dX4_costWith_45 : decode cX4_costWith 45 = .ok (.iload_n 3, 1) := by decide +kernel
theorem dX4_costWith_46 : decode cX4_costWith 46 = .ok (.aload_n 0, 1) := by decide +kernel
theorem dX4_costWith_47 : decode cX4_costWith 47 = .ok (.iload_n 1, 1) := by decide +kernel
theorem dX4_costWith_48 : decode cX4_costWith 48 = .ok (.iconst 1, 1) := by decide +kernel
theorem dX4_costWith_49 : decode cX4_costWith 49 = .ok (.iadd, 1) := by decide +kernel
theorem dX4_costWith_50 : decode cX4_costWith 50 = .ok (.iload_n 2, 1) := by decide +kernel
theorem dX4_costWith_51 : decode cX4_costWith 51 = .ok (.iload_n 3, 1) := by decide +kernel
theorem dX4_costWith_52 : decode cX4_costWith 52 = .ok (.invokestatic 94, 3) := by decide +kernel
theorem dX4_costWith_55 : decode cX4_costWith 55 = .ok (.invokevirtual 63, 3) := by decide +kernel
theorem dX4_costWith_58 : decode cX4_costWith 58 = .ok (.iadd, 1) := by decide +kernel
theorem dX4_costWith_59 : decode cX4_costWith 59 = .ok (.ireturn, 1) := by decide +kernel
theorem dX4_stateBehind_0 : decode cX4_stateBehind 0 = .ok (.iload_n 0, 1) := by decide +kernel
theorem dX4_stateBehind_1 : decode cX4_stateBehind 1 = .ok (.bipush 6, 2) := by decide +kernel
theorem dX4_stateBehind_3 : decode cX4_stateBehind 3 = .ok (.imul, 1) := by decide +kernel
theorem dX4_stateBehind_4 : decode cX4_stateBehind 4 = .ok (.iload_n 1, 1) := by decide +kernel
theorem dX4_stateBehind_5 : decode cX4_stateBehind 5 = .ok (.iadd, 1) := by decide +kernel
theorem dX4_stateBehind_6 : decode cX4_stateBehind 6 = .ok (.sipush 1296, 3) := by decide +kernel
theorem dX4_stateBehind_9 : decode cX4_stateBehind 9 = .ok (.irem, 1) := by decide +kernel
theorem dX4_stateBehind_10 : decode cX4_stateBehind 10 = .ok (.ireturn, 1) := by decide +kernel
theorem dX4_leftAt_0 : decode cX4_leftAt 0 = .ok (.iload_n 1, 1) := by decide +kernel
theorem dX4_leftAt_1 : decode cX4_leftAt 1 = .ok (.ifCond .ge 5, 3) := by decide +kernel
theorem dX4_leftAt_4 : decode cX4_leftAt 4 = .ok (.iconst 0, 1) := by decide +kernel
theorem dX4_leftAt_5 : decode cX4_leftAt 5 = .ok (.ireturn, 1) := by decide +kernel
theorem dX4_leftAt_6 : decode cX4_leftAt 6 = .ok (.aload_n 0, 1) := by decide +kernel
theorem dX4_leftAt_7 : decode cX4_leftAt 7 = .ok (.getfield 26, 3) := by decide +kernel
theorem dX4_leftAt_10 : decode cX4_leftAt 10 = .ok (.iload_n 1, 1) := by decide +kernel
theorem dX4_leftAt_11 : decode cX4_leftAt 11 = .ok (.iaload, 1) := by decide +kernel
theorem dX4_leftAt_12 : decode cX4_leftAt 12 = .ok (.istore_n 3, 1) := by decide +kernel
theorem dX4_leftAt_13 : decode cX4_leftAt 13 = .ok (.iload_n 2, 1) := by decide +kernel
theorem dX4_leftAt_14 : decode cX4_leftAt 14 = .ok (.istore 4, 2) := by decide +kernel
theorem dX4_leftAt_16 : decode cX4_leftAt 16 = .ok (.iconst 1, 1) := by decide +kernel
theorem dX4_leftAt_17 : decode cX4_leftAt 17 = .ok (.istore 5, 2) := by decide +kernel
theorem dX4_leftAt_19 : decode cX4_leftAt 19 = .ok (.iload 5, 2) := by decide +kernel
theorem dX4_leftAt_21 : decode cX4_leftAt 21 = .ok (.iconst 5, 1) := by decide +kernel
theorem dX4_leftAt_22 : decode cX4_leftAt 22 = .ok (.if_icmp .ge 32, 3) := by decide +kernel
theorem dX4_leftAt_25 : decode cX4_leftAt 25 = .ok (.iload_n 3, 1) := by decide +kernel
theorem dX4_leftAt_26 : decode cX4_leftAt 26 = .ok (.iload 4, 2) := by decide +kernel
theorem dX4_leftAt_28 : decode cX4_leftAt 28 = .ok (.bipush 6, 2) := by decide +kernel
theorem dX4_leftAt_30 : decode cX4_leftAt 30 = .ok (.irem, 1) := by decide +kernel
theorem dX4_leftAt_31 : decode cX4_leftAt 31 = .ok (.aload_n 0, 1) := by decide +kernel
theorem dX4_leftAt_32 : decode cX4_leftAt 32 = .ok (.getfield 29, 3) := by decide +kernel
theorem dX4_leftAt_35 : decode cX4_leftAt 35 = .ok (.iload 5, 2) := by decide +kernel
theorem dX4_leftAt_37 : decode cX4_leftAt 37 = .ok (.iaload, 1) := by decide +kernel
theorem dX4_leftAt_38 : decode cX4_leftAt 38 = .ok (.imul, 1) := by decide +kernel
theorem dX4_leftAt_39 : decode cX4_leftAt 39 = .ok (.isub, 1) := by decide +kernel
theorem dX4_leftAt_40 : decode cX4_leftAt 40 = .ok (.istore_n 3, 1) := by decide +kernel
theorem dX4_leftAt_41 : decode cX4_leftAt 41 = .ok (.iload 4, 2) := by decide +kernel
theorem dX4_leftAt_43 : decode cX4_leftAt 43 = .ok (.bipush 6, 2) := by decide +kernel
theorem dX4_leftAt_45 : decode cX4_leftAt 45 = .ok (.idiv, 1) := by decide +kernel
theorem dX4_leftAt_46 : decode cX4_leftAt 46 = .ok (.istore 4, 2) := by decide +kernel
theorem dX4_leftAt_48 : decode cX4_leftAt 48 = .ok (.iinc 5 1, 3) := by decide +kernel
theorem dX4_leftAt_51 : decode cX4_leftAt 51 = .ok (.goto (-32), 3) := by decide +kernel
theorem dX4_leftAt_54 : decode cX4_leftAt 54 = .ok (.iload_n 3, 1) := by decide +kernel
theorem dX4_leftAt_55 : decode cX4_leftAt 55 = .ok (.ireturn, 1) := by decide +kernel
theorem dX5_init_0 : decode cX5_init 0 = .ok (.aload_n 0, 1) := by decide +kernel
theorem dX5_init_1 : decode cX5_init 1 = .ok (.invokespecial 3, 3) := by decide +kernel
theorem dX5_init_4 : decode cX5_init 4 = .ok (.aload_n 0, 1) := by decide +kernel
theorem dX5_init_5 : decode cX5_init 5 = .ok (.bipush 7, 2) := by decide +kernel
theorem dX5_init_7 : decode cX5_init 7 = .ok (.bipush 16, 2) := by decide +kernel
theorem dX5_init_9 : decode cX5_init 9 = .ok (.multianewarray 9 2, 4) := by decide +kernel
theorem dX5_init_13 : decode cX5_init 13 = .ok (.putfield 11, 3) := by decide +kernel
theorem dX5_init_16 : decode cX5_init 16 = .ok (.aload_n 0, 1) := by decide +kernel
theorem dX5_init_17 : decode cX5_init 17 = .ok (.iconst 4, 1) := by decide +kernel
theorem dX5_init_18 : decode cX5_init 18 = .ok (.bipush 16, 2) := by decide +kernel
theorem dX5_init_20 : decode cX5_init 20 = .ok (.multianewarray 9 2, 4) := by decide +kernel
theorem dX5_init_24 : decode cX5_init 24 = .ok (.putfield 16, 3) := by decide +kernel
theorem dX5_init_27 : decode cX5_init 27 = .ok (.aload_n 0, 1) := by decide +kernel
theorem dX5_init_28 : decode cX5_init 28 = .ok (.bipush 6, 2) := by decide +kernel
theorem dX5_init_30 : decode cX5_init 30 = .ok (.newarray .int, 2) := by decide +kernel
theorem dX5_init_32 : decode cX5_init 32 = .ok (.putfield 19, 3) := by decide +kernel
theorem dX5_init_35 : decode cX5_init 35 = .ok (.aload_n 0, 1) := by decide +kernel
theorem dX5_init_36 : decode cX5_init 36 = .ok (.bipush 6, 2) := by decide +kernel
theorem dX5_init_38 : decode cX5_init 38 = .ok (.newarray .int, 2) := by decide +kernel
theorem dX5_init_40 : decode cX5_init 40 = .ok (.putfield 23, 3) := by decide +kernel
theorem dX5_init_43 : decode cX5_init 43 = .ok (.aload_n 0, 1) := by decide +kernel
theorem dX5_init_44 : decode cX5_init 44 = .ok (.bipush 8, 2) := by decide +kernel
theorem dX5_init_46 : decode cX5_init 46 = .ok (.putfield 26, 3) := by decide +kernel
theorem dX5_init_49 : decode cX5_init 49 = .ok (.aload_n 0, 1) := by decide +kernel
theorem dX5_init_50 : decode cX5_init 50 = .ok (.iconst 0, 1) := by decide +kernel
theorem dX5_init_51 : decode cX5_init 51 = .ok (.putfield 30, 3) := by decide +kernel
theorem dX5_init_54 : decode cX5_init 54 = .ok (.return_, 1) := by decide +kernel
theorem dX5_begin_0 : decode cX5_begin 0 = .ok (.aload_n 0, 1) := by decide +kernel
theorem dX5_begin_1 : decode cX5_begin 1 = .ok (.iload_n 1, 1) := by decide +kernel
theorem dX5_begin_2 : decode cX5_begin 2 = .ok (.putfield 26, 3) := by decide +kernel
theorem dX5_begin_5 : decode cX5_begin 5 = .ok (.aload_n 0, 1) := by decide +kernel
theorem dX5_begin_6 : decode cX5_begin 6 = .ok (.getfield 11, 3) := by decide +kernel
theorem dX5_begin_9 : decode cX5_begin 9 = .ok (.astore_n 2, 1) := by decide +kernel
theorem dX5_begin_10 : decode cX5_begin 10 = .ok (.aload_n 2, 1) := by decide +kernel
theorem dX5_begin_11 : decode cX5_begin 11 = .ok (.arraylength, 1) := by decide +kernel
theorem dX5_begin_12 : decode cX5_begin 12 = .ok (.istore_n 3, 1) := by decide +kernel
theorem dX5_begin_13 : decode cX5_begin 13 = .ok (.iconst 0, 1) := by decide +kernel
theorem dX5_begin_14 : decode cX5_begin 14 = .ok (.istore 4, 2) := by decide +kernel
theorem dX5_begin_16 : decode cX5_begin 16 = .ok (.iload 4, 2) := by decide +kernel
theorem dX5_begin_18 : decode cX5_begin 18 = .ok (.iload_n 3, 1) := by decide +kernel
theorem dX5_begin_19 : decode cX5_begin 19 = .ok (.if_icmp .ge 21, 3) := by decide +kernel
theorem dX5_begin_22 : decode cX5_begin 22 = .ok (.aload_n 2, 1) := by decide +kernel
theorem dX5_begin_23 : decode cX5_begin 23 = .ok (.iload 4, 2) := by decide +kernel
theorem dX5_begin_25 : decode cX5_begin 25 = .ok (.aaload, 1) := by decide +kernel
theorem dX5_begin_26 : decode cX5_begin 26 = .ok (.astore 5, 2) := by decide +kernel
theorem dX5_begin_28 : decode cX5_begin 28 = .ok (.aload 5, 2) := by decide +kernel
theorem dX5_begin_30 : decode cX5_begin 30 = .ok (.iconst 0, 1) := by decide +kernel
theorem dX5_begin_31 : decode cX5_begin 31 = .ok (.invokestatic 34, 3) := by decide +kernel
theorem dX5_begin_34 : decode cX5_begin 34 = .ok (.iinc 4 1, 3) := by decide +kernel
theorem dX5_begin_37 : decode cX5_begin 37 = .ok (.goto (-21), 3) := by decide +kernel
theorem dX5_begin_40 : decode cX5_begin 40 = .ok (.aload_n 0, 1) := by decide +kernel
theorem dX5_begin_41 : decode cX5_begin 41 = .ok (.iconst 0, 1) := by decide +kernel
theorem dX5_begin_42 : decode cX5_begin 42 = .ok (.putfield 30, 3) := by decide +kernel
theorem dX5_begin_45 : decode cX5_begin 45 = .ok (.return_, 1) := by decide +kernel
theorem dX5_tellBend_0 : decode cX5_tellBend 0 = .ok (.aload_n 0, 1) := by decide +kernel
theorem dX5_tellBend_1 : decode cX5_tellBend 1 = .ok (.getfield 11, 3) := by decide +kernel
theorem dX5_tellBend_4 : decode cX5_tellBend 4 = .ok (.iload_n 1, 1) := by decide +kernel
theorem dX5_tellBend_5 : decode cX5_tellBend 5 = .ok (.aaload, 1) := by decide +kernel
theorem dX5_tellBend_6 : decode cX5_tellBend 6 = .ok (.iload_n 2, 1) := by decide +kernel
theorem dX5_tellBend_7 : decode cX5_tellBend 7 = .ok (.iaload, 1) := by decide +kernel
theorem dX5_tellBend_8 : decode cX5_tellBend 8 = .ok (.istore 4, 2) := by decide +kernel
theorem dX5_tellBend_10 : decode cX5_tellBend 10 = .ok (.aload_n 0, 1) := by decide +kernel
theorem dX5_tellBend_11 : decode cX5_tellBend 11 = .ok (.getfield 11, 3) := by decide +kernel
theorem dX5_tellBend_14 : decode cX5_tellBend 14 = .ok (.iload_n 1, 1) := by decide +kernel
theorem dX5_tellBend_15 : decode cX5_tellBend 15 = .ok (.aaload, 1) := by decide +kernel
theorem dX5_tellBend_16 : decode cX5_tellBend 16 = .ok (.iload_n 2, 1) := by decide +kernel
theorem dX5_tellBend_17 : decode cX5_tellBend 17 = .ok (.iload_n 3, 1) := by decide +kernel
theorem dX5_tellBend_18 : decode cX5_tellBend 18 = .ok (.iastore, 1) := by decide +kernel
theorem dX5_tellBend_19 : decode cX5_tellBend 19 = .ok (.aload_n 0, 1) := by decide +kernel
theorem dX5_tellBend_20 : decode cX5_tellBend 20 = .ok (.iconst 0, 1) := by decide +kernel
theorem dX5_tellBend_21 : decode cX5_tellBend 21 = .ok (.putfield 30, 3) := by decide +kernel
theorem dX5_tellBend_24 : decode cX5_tellBend 24 = .ok (.iload 4, 2) := by decide +kernel
theorem dX5_tellBend_26 : decode cX5_tellBend 26 = .ok (.ireturn, 1) := by decide +kernel
theorem dX5_leastSpread_0 : decode cX5_leastSpread 0 = .ok (.aload_n 0, 1) := by decide +kernel
theorem dX5_leastSpread_1 : decode cX5_leastSpread 1 = .ok (.invokevirtual 40, 3) := by decide +kernel
theorem dX5_leastSpread_4 : decode cX5_leastSpread 4 = .ok (.aload_n 0, 1) := by decide +kernel
theorem dX5_leastSpread_5 : decode cX5_leastSpread 5 = .ok (.getfield 43, 3) := by decide +kernel
theorem dX5_leastSpread_8 : decode cX5_leastSpread 8 = .ok (.ireturn, 1) := by decide +kernel
theorem dX5_shareOf_0 : decode cX5_shareOf 0 = .ok (.aload_n 0, 1) := by decide +kernel
theorem dX5_shareOf_1 : decode cX5_shareOf 1 = .ok (.invokevirtual 40, 3) := by decide +kernel
theorem dX5_shareOf_4 : decode cX5_shareOf 4 = .ok (.aload_n 0, 1) := by decide +kernel
theorem dX5_shareOf_5 : decode cX5_shareOf 5 = .ok (.getfield 23, 3) := by decide +kernel
theorem dX5_shareOf_8 : decode cX5_shareOf 8 = .ok (.iload_n 1, 1) := by decide +kernel
theorem dX5_shareOf_9 : decode cX5_shareOf 9 = .ok (.iaload, 1) := by decide +kernel
theorem dX5_shareOf_10 : decode cX5_shareOf 10 = .ok (.ireturn, 1) := by decide +kernel
theorem dX5_settle_0 : decode cX5_settle 0 = .ok (.aload_n 0, 1) := by decide +kernel
theorem dX5_settle_1 : decode cX5_settle 1 = .ok (.getfield 30, 3) := by decide +kernel
theorem dX5_settle_4 : decode cX5_settle 4 = .ok (.ifCond .eq 4, 3) := by decide +kernel
theorem dX5_settle_7 : decode cX5_settle 7 = .ok (.return_, 1) := by decide +kernel
theorem dX5_settle_8 : decode cX5_settle 8 = .ok (.iconst 0, 1) := by decide +kernel
theorem dX5_settle_9 : decode cX5_settle 9 = .ok (.istore_n 1, 1) := by decide +kernel
theorem dX5_settle_10 : decode cX5_settle 10 = .ok (.iload_n 1, 1) := by decide +kernel
theorem dX5_settle_11 : decode cX5_settle 11 = .ok (.aload_n 0, 1) := by decide +kernel
theorem dX5_settle_12 : decode cX5_settle 12 = .ok (.getfield 26, 3) := by decide +kernel
theorem dX5_settle_15 : decode cX5_settle 15 = .ok (.if_icmp .ge 29, 3) := by decide +kernel
theorem dX5_settle_18 : decode cX5_settle 18 = .ok (.aload_n 0, 1) := by decide +kernel
theorem dX5_settle_19 : decode cX5_settle 19 = .ok (.getfield 16, 3) := by decide +kernel
theorem dX5_settle_22 : decode cX5_settle 22 = .ok (.iconst 0, 1) := by decide +kernel
theorem dX5_settle_23 : decode cX5_settle 23 = .ok (.aaload, 1) := by decide +kernel
theorem dX5_settle_24 : decode cX5_settle 24 = .ok (.iload_n 1, 1) := by decide +kernel
theorem dX5_settle_25 : decode cX5_settle 25 = .ok (.bipush 12, 2) := by decide +kernel
theorem dX5_settle_27 : decode cX5_settle 27 = .ok (.aload_n 0, 1) := by decide +kernel
theorem dX5_settle_28 : decode cX5_settle 28 = .ok (.getfield 11, 3) := by decide +kernel
theorem dX5_settle_31 : decode cX5_settle 31 = .ok (.bipush 6, 2) := by decide +kernel
theorem dX5_settle_33 : decode cX5_settle 33 = .ok (.aaload, 1) := by decide +kernel
theorem dX5_settle_34 : decode cX5_settle 34 = .ok (.iload_n 1, 1) := by decide +kernel
theorem dX5_settle_35 : decode cX5_settle 35 = .ok (.iaload, 1) := by decide +kernel
theorem dX5_settle_36 : decode cX5_settle 36 = .ok (.imul, 1) := by decide +kernel
theorem dX5_settle_37 : decode cX5_settle 37 = .ok (.iastore, 1) := by decide +kernel
theorem dX5_settle_38 : decode cX5_settle 38 = .ok (.iinc 1 1, 3) := by decide +kernel
theorem dX5_settle_41 : decode cX5_settle 41 = .ok (.goto (-31), 3) := by decide +kernel
theorem dX5_settle_44 : decode cX5_settle 44 = .ok (.aload_n 0, 1) := by decide +kernel
theorem dX5_settle_45 : decode cX5_settle 45 = .ok (.sipush 24001, 3) := by decide +kernel
theorem dX5_settle_48 : decode cX5_settle 48 = .ok (.putfield 43, 3) := by decide +kernel
theorem dX5_settle_51 : decode cX5_settle 51 = .ok (.aload_n 0, 1) := by decide +kernel
theorem dX5_settle_52 : decode cX5_settle 52 = .ok (.iconst 0, 1) := by decide +kernel
theorem dX5_settle_53 : decode cX5_settle 53 = .ok (.bipush 12, 2) := by decide +kernel
theorem dX5_settle_55 : decode cX5_settle 55 = .ok (.iconst 0, 1) := by decide +kernel
theorem dX5_settle_56 : decode cX5_settle 56 = .ok (.invokevirtual 46, 3) := by decide +kernel
theorem dX5_settle_59 : decode cX5_settle 59 = .ok (.aload_n 0, 1) := by decide +kernel
theorem dX5_settle_60 : decode cX5_settle 60 = .ok (.iconst 1, 1) := by decide +kernel
theorem dX5_settle_61 : decode cX5_settle 61 = .ok (.putfield 30, 3) := by decide +kernel
theorem dX5_settle_64 : decode cX5_settle 64 = .ok (.return_, 1) := by decide +kernel
theorem dX5_place_0 : decode cX5_place 0 = .ok (.iload_n 2, 1) := by decide +kernel
theorem dX5_place_1 : decode cX5_place 1 = .ok (.ifCond .ne 10, 3) := by decide +kernel
theorem dX5_place_4 : decode cX5_place 4 = .ok (.aload_n 0, 1) := by decide +kernel
theorem dX5_place_5 : decode cX5_place 5 = .ok (.iload_n 1, 1) := by decide +kernel
theorem dX5_place_6 : decode cX5_place 6 = .ok (.iload_n 3, 1) := by decide +kernel
theorem dX5_place_7 : decode cX5_place 7 = .ok (.invokevirtual 50, 3) := by decide +kernel
theorem dX5_place_10 : decode cX5_place 10 = .ok (.return_, 1) := by decide +kernel
theorem dX5_place_11 : decode cX5_place 11 = .ok (.iload_n 1, 1) := by decide +kernel
theorem dX5_place_12 : decode cX5_place 12 = .ok (.bipush 6, 2) := by decide +kernel
theorem dX5_place_14 : decode cX5_place 14 = .ok (.if_icmp .ge 8, 3) := by decide +kernel
theorem dX5_place_17 : decode cX5_place 17 = .ok (.iload_n 3, 1) := by decide +kernel
theorem dX5_place_18 : decode cX5_place 18 = .ok (.iconst 3, 1) := by decide +kernel
theorem dX5_place_19 : decode cX5_place 19 = .ok (.if_icmp .lt 4, 3) := by decide +kernel
theorem dX5_place_22 : decode cX5_place 22 = .ok (.return_, 1) := by decide +kernel
theorem dX5_place_23 : decode cX5_place 23 = .ok (.iload_n 1, 1) := by decide +kernel
theorem dX5_place_24 : decode cX5_place 24 = .ok (.iconst 1, 1) := by decide +kernel
theorem dX5_place_25 : decode cX5_place 25 = .ok (.iadd, 1) := by decide +kernel
theorem dX5_place_26 : decode cX5_place 26 = .ok (.bipush 6, 2) := by decide +kernel
theorem dX5_place_28 : decode cX5_place 28 = .ok (.if_icmp .eq 10, 3) := by decide +kernel
theorem dX5_place_31 : decode cX5_place 31 = .ok (.iload_n 3, 1) := by decide +kernel
theorem dX5_place_32 : decode cX5_place 32 = .ok (.iconst 1, 1) := by decide +kernel
theorem dX5_place_33 : decode cX5_place 33 = .ok (.iadd, 1) := by decide +kernel
theorem dX5_place_34 : decode cX5_place 34 = .ok (.iconst 3, 1) := by decide +kernel
theorem dX5_place_35 : decode cX5_place 35 = .ok (.if_icmp .ne 7, 3) := by decide +kernel
theorem dX5_place_38 : decode cX5_place 38 = .ok (.iconst 1, 1) := by decide +kernel
theorem dX5_place_39 : decode cX5_place 39 = .ok (.goto 4, 3) := by decide +kernel
theorem dX5_place_42 : decode cX5_place 42 = .ok (.iconst 0, 1) := by decide +kernel
theorem dX5_place_43 : decode cX5_place 43 = .ok (.istore 4, 2) := by decide +kernel
theorem dX5_place_45 : decode cX5_place 45 = .ok (.iload_n 2, 1) := by decide +kernel
theorem dX5_place_46 : decode cX5_place 46 = .ok (.istore 5, 2) := by decide +kernel
theorem dX5_place_48 : decode cX5_place 48 = .ok (.iload 5, 2) := by decide +kernel
theorem dX5_place_50 : decode cX5_place 50 = .ok (.iload 4, 2) := by decide +kernel
theorem dX5_place_52 : decode cX5_place 52 = .ok (.ifCond .eq 7, 3) := by decide +kernel
theorem dX5_place_55 : decode cX5_place 55 = .ok (.iload_n 2, 1) := by decide +kernel
theorem dX5_place_56 : decode cX5_place 56 = .ok (.goto 4, 3) := by decide +kernel
theorem dX5_place_59 : decode cX5_place 59 = .ok (.iconst 1, 1) := by decide +kernel
theorem dX5_place_60 : decode cX5_place 60 = .ok (.if_icmp .lt 18, 3) := by decide +kernel
theorem dX5_place_63 : decode cX5_place 63 = .ok (.aload_n 0, 1) := by decide +kernel
theorem dX5_place_64 : decode cX5_place 64 = .ok (.iload_n 1, 1) := by decide +kernel
theorem dX5_place_65 : decode cX5_place 65 = .ok (.iload 5, 2) := by decide +kernel
theorem dX5_place_67 : decode cX5_place 67 = .ok (.iload_n 2, 1) := by decide +kernel
theorem dX5_place_68 : decode cX5_place 68 = .ok (.iload_n 3, 1) := by decide +kernel
theorem dX5_place_69 : decode cX5_place 69 = .ok (.invokevirtual 54, 3) := by decide +kernel
theorem dX5_place_72 : decode cX5_place 72 = .ok (.iinc 5 (-1), 3) := by decide +kernel
theorem dX5_place_75 : decode cX5_place 75 = .ok (.goto (-27), 3) := by decide +kernel
theorem dX5_place_78 : decode cX5_place 78 = .ok (.aload_n 0, 1) := by decide +kernel
theorem dX5_place_79 : decode cX5_place 79 = .ok (.iload_n 1, 1) := by decide +kernel
theorem dX5_place_80 : decode cX5_place 80 = .ok (.iconst 0, 1) := by decide +kernel
theorem dX5_place_81 : decode cX5_place 81 = .ok (.iload_n 2, 1) := by decide +kernel
theorem dX5_place_82 : decode cX5_place 82 = .ok (.iload_n 3, 1) := by decide +kernel
theorem dX5_place_83 : decode cX5_place 83 = .ok (.invokevirtual 54, 3) := by decide +kernel
theorem dX5_place_86 : decode cX5_place 86 = .ok (.return_, 1) := by decide +kernel
theorem dX5_placeShare_0 : decode cX5_placeShare 0 = .ok (.aload_n 0, 1) := by decide +kernel
theorem dX5_placeShare_1 : decode cX5_placeShare 1 = .ok (.getfield 19, 3) := by decide +kernel
theorem dX5_placeShare_4 : decode cX5_placeShare 4 = .ok (.iload_n 1, 1) := by decide +kernel
theorem dX5_placeShare_5 : decode cX5_placeShare 5 = .ok (.iload_n 2, 1) := by decide +kernel
theorem dX5_placeShare_6 : decode cX5_placeShare 6 = .ok (.iastore, 1) := by decide +kernel
theorem dX5_placeShare_7 : decode cX5_placeShare 7 = .ok (.iload_n 2, 1) := by decide +kernel
theorem dX5_placeShare_8 : decode cX5_placeShare 8 = .ok (.ifCond .ne 14, 3) := by decide +kernel
theorem dX5_placeShare_11 : decode cX5_placeShare 11 = .ok (.aload_n 0, 1) := by decide +kernel
theorem dX5_placeShare_12 : decode cX5_placeShare 12 = .ok (.iload_n 1, 1) := by decide +kernel
theorem dX5_placeShare_13 : decode cX5_placeShare 13 = .ok (.iconst 1, 1) := by decide +kernel
theorem dX5_placeShare_14 : decode cX5_placeShare 14 = .ok (.iadd, 1) := by decide +kernel
theorem dX5_placeShare_15 : decode cX5_placeShare 15 = .ok (.iload_n 3, 1) := by decide +kernel
theorem dX5_placeShare_16 : decode cX5_placeShare 16 = .ok (.iload 4, 2) := by decide +kernel
theorem dX5_placeShare_18 : decode cX5_placeShare 18 = .ok (.invokevirtual 46, 3) := by decide +kernel
theorem dX5_placeShare_21 : decode cX5_placeShare 21 = .ok (.return_, 1) := by decide +kernel
theorem dX5_placeShare_22 : decode cX5_placeShare 22 = .ok (.iconst 0, 1) := by decide +kernel
theorem dX5_placeShare_23 : decode cX5_placeShare 23 = .ok (.istore 5, 2) := by decide +kernel
theorem dX5_placeShare_25 : decode cX5_placeShare 25 = .ok (.iload 5, 2) := by decide +kernel
theorem dX5_placeShare_27 : decode cX5_placeShare 27 = .ok (.aload_n 0, 1) := by decide +kernel
theorem dX5_placeShare_28 : decode cX5_placeShare 28 = .ok (.getfield 26, 3) := by decide +kernel
theorem dX5_placeShare_31 : decode cX5_placeShare 31 = .ok (.if_icmp .ge 43, 3) := by decide +kernel
theorem dX5_placeShare_34 : decode cX5_placeShare 34 = .ok (.aload_n 0, 1) := by decide +kernel
theorem dX5_placeShare_35 : decode cX5_placeShare 35 = .ok (.getfield 16, 3) := by decide +kernel
theorem dX5_placeShare_38 : decode cX5_placeShare 38 = .ok (.iload 4, 2) := by decide +kernel
theorem dX5_placeShare_40 : decode cX5_placeShare 40 = .ok (.iconst 1, 1) := by decide +kernel
theorem dX5_placeShare_41 : decode cX5_placeShare 41 = .ok (.iadd, 1) := by decide +kernel
theorem dX5_placeShare_42 : decode cX5_placeShare 42 = .ok (.aaload, 1) := by decide +kernel
theorem dX5_placeShare_43 : decode cX5_placeShare 43 = .ok (.iload 5, 2) := by decide +kernel
theorem dX5_placeShare_45 : decode cX5_placeShare 45 = .ok (.aload_n 0, 1) := by decide +kernel
theorem dX5_placeShare_46 : decode cX5_placeShare 46 = .ok (.getfield 16, 3) := by decide +kernel
theorem dX5_placeShare_49 : decode cX5_placeShare 49 = .ok (.iload 4, 2) := by decide +kernel
theorem dX5_placeShare_51 : decode cX5_placeShare 51 = .ok (.aaload, 1) := by decide +kernel
theorem dX5_placeShare_52 : decode cX5_placeShare 52 = .ok (.iload 5, 2) := by decide +kernel
theorem dX5_placeShare_54 : decode cX5_placeShare 54 = .ok (.iaload, 1) := by decide +kernel
theorem dX5_placeShare_55 : decode cX5_placeShare 55 = .ok (.iload_n 2, 1) := by decide +kernel
theorem dX5_placeShare_56 : decode cX5_placeShare 56 = .ok (.aload_n 0, 1) := by decide +kernel
theorem dX5_placeShare_57 : decode cX5_placeShare 57 = .ok (.getfield 11, 3) := by decide +kernel
theorem dX5_placeShare_60 : decode cX5_placeShare 60 = .ok (.iload_n 1, 1) := by decide +kernel
theorem dX5_placeShare_61 : decode cX5_placeShare 61 = .ok (.aaload, 1) := by decide +kernel
theorem dX5_placeShare_62 : decode cX5_placeShare 62 = .ok (.iload 5, 2) := by decide +kernel
theorem dX5_placeShare_64 : decode cX5_placeShare 64 = .ok (.iaload, 1) := by decide +kernel
theorem dX5_placeShare_65 : decode cX5_placeShare 65 = .ok (.imul, 1) := by decide +kernel
theorem dX5_placeShare_66 : decode cX5_placeShare 66 = .ok (.isub, 1) := by decide +kernel
theorem dX5_placeShare_67 : decode cX5_placeShare 67 = .ok (.iastore, 1) := by decide +kernel
theorem dX5_placeShare_68 : decode cX5_placeShare 68 = .ok (.iinc 5 1, 3) := by decide +kernel
theorem dX5_placeShare_71 : decode cX5_placeShare 71 = .ok (.goto (-46), 3) := by decide +kernel
theorem dX5_placeShare_74 : decode cX5_placeShare 74 = .ok (.aload_n 0, 1) := by decide +kernel
theorem dX5_placeShare_75 : decode cX5_placeShare 75 = .ok (.iload_n 1, 1) := by decide +kernel
theorem dX5_placeShare_76 : decode cX5_placeShare 76 = .ok (.iconst 1, 1) := by decide +kernel
theorem dX5_placeShare_77 : decode cX5_placeShare 77 = .ok (.iadd, 1) := by decide +kernel
theorem dX5_placeShare_78 : decode cX5_placeShare 78 = .ok (.iload_n 3, 1) := by decide +kernel
theorem dX5_placeShare_79 : decode cX5_placeShare 79 = .ok (.iload_n 2, 1) := by decide +kernel
theorem dX5_placeShare_80 : decode cX5_placeShare 80 = .ok (.isub, 1) := by decide +kernel
theorem dX5_placeShare_81 : decode cX5_placeShare 81 = .ok (.iload 4, 2) := by decide +kernel
theorem dX5_placeShare_83 : decode cX5_placeShare 83 = .ok (.iconst 1, 1) := by decide +kernel
theorem dX5_placeShare_84 : decode cX5_placeShare 84 = .ok (.iadd, 1) := by decide +kernel
theorem dX5_placeShare_85 : decode cX5_placeShare 85 = .ok (.invokevirtual 46, 3) := by decide +kernel
theorem dX5_placeShare_88 : decode cX5_placeShare 88 = .ok (.return_, 1) := by decide +kernel
theorem dX5_keepIfBetter_0 : decode cX5_keepIfBetter 0 = .ok (.aload_n 0, 1) := by decide +kernel
theorem dX5_keepIfBetter_1 : decode cX5_keepIfBetter 1 = .ok (.aload_n 0, 1) := by decide +kernel
theorem dX5_keepIfBetter_2 : decode cX5_keepIfBetter 2 = .ok (.getfield 16, 3) := by decide +kernel
theorem dX5_keepIfBetter_5 : decode cX5_keepIfBetter 5 = .ok (.iload_n 2, 1) := by decide +kernel
theorem dX5_keepIfBetter_6 : decode cX5_keepIfBetter 6 = .ok (.aaload, 1) := by decide +kernel
theorem dX5_keepIfBetter_7 : decode cX5_keepIfBetter 7 = .ok (.invokevirtual 58, 3) := by decide +kernel
theorem dX5_keepIfBetter_10 : decode cX5_keepIfBetter 10 = .ok (.istore_n 3, 1) := by decide +kernel
theorem dX5_keepIfBetter_11 : decode cX5_keepIfBetter 11 = .ok (.iload_n 3, 1) := by decide +kernel
theorem dX5_keepIfBetter_12 : decode cX5_keepIfBetter 12 = .ok (.aload_n 0, 1) := by decide +kernel
theorem dX5_keepIfBetter_13 : decode cX5_keepIfBetter 13 = .ok (.getfield 43, 3) := by decide +kernel
theorem dX5_keepIfBetter_16 : decode cX5_keepIfBetter 16 = .ok (.if_icmp .ge 48, 3) := by decide +kernel
theorem dX5_keepIfBetter_19 : decode cX5_keepIfBetter 19 = .ok (.aload_n 0, 1) := by decide +kernel
theorem dX5_keepIfBetter_20 : decode cX5_keepIfBetter 20 = .ok (.iload_n 3, 1) := by decide +kernel
theorem dX5_keepIfBetter_21 : decode cX5_keepIfBetter 21 = .ok (.putfield 43, 3) := by decide +kernel
theorem dX5_keepIfBetter_24 : decode cX5_keepIfBetter 24 = .ok (.iconst 0, 1) := by decide +kernel
theorem dX5_keepIfBetter_25 : decode cX5_keepIfBetter 25 = .ok (.istore 4, 2) := by decide +kernel
theorem dX5_keepIfBetter_27 : decode cX5_keepIfBetter 27 = .ok (.iload 4, 2) := by decide +kernel
theorem dX5_keepIfBetter_29 : decode cX5_keepIfBetter 29 = .ok (.bipush 6, 2) := by decide +kernel
theorem dX5_keepIfBetter_31 : decode cX5_keepIfBetter 31 = .ok (.if_icmp .ge 33, 3) := by decide +kernel
theorem dX5_keepIfBetter_34 : decode cX5_keepIfBetter 34 = .ok (.aload_n 0, 1) := by decide +kernel
theorem dX5_keepIfBetter_35 : decode cX5_keepIfBetter 35 = .ok (.getfield 23, 3) := by decide +kernel
theorem dX5_keepIfBetter_38 : decode cX5_keepIfBetter 38 = .ok (.iload 4, 2) := by decide +kernel
theorem dX5_keepIfBetter_40 : decode cX5_keepIfBetter 40 = .ok (.iload 4, 2) := by decide +kernel
theorem dX5_keepIfBetter_42 : decode cX5_keepIfBetter 42 = .ok (.iload_n 1, 1) := by decide +kernel
theorem dX5_keepIfBetter_43 : decode cX5_keepIfBetter 43 = .ok (.if_icmp .ge 13, 3) := by decide +kernel
theorem dX5_keepIfBetter_46 : decode cX5_keepIfBetter 46 = .ok (.aload_n 0, 1) := by decide +kernel
theorem dX5_keepIfBetter_47 : decode cX5_keepIfBetter 47 = .ok (.getfield 19, 3) := by decide +kernel
theorem dX5_keepIfBetter_50 : decode cX5_keepIfBetter 50 = .ok (.iload 4, 2) := by decide +kernel
theorem dX5_keepIfBetter_52 : decode cX5_keepIfBetter 52 = .ok (.iaload, 1) := by decide +kernel
theorem dX5_keepIfBetter_53 : decode cX5_keepIfBetter 53 = .ok (.goto 4, 3) := by decide +kernel
theorem dX5_keepIfBetter_56 : decode cX5_keepIfBetter 56 = .ok (.iconst 0, 1) := by decide +kernel
theorem dX5_keepIfBetter_57 : decode cX5_keepIfBetter 57 = .ok (.iastore, 1) := by decide +kernel
theorem dX5_keepIfBetter_58 : decode cX5_keepIfBetter 58 = .ok (.iinc 4 1, 3) := by decide +kernel
theorem dX5_keepIfBetter_61 : decode cX5_keepIfBetter 61 = .ok (.goto (-34), 3) := by decide +kernel
theorem dX5_keepIfBetter_64 : decode cX5_keepIfBetter 64 = .ok (.return_, 1) := by decide +kernel
theorem dX5_spreadOf_0 : decode cX5_spreadOf 0 = .ok (.aload_n 1, 1) := by decide +kernel
theorem dX5_spreadOf_1 : decode cX5_spreadOf 1 = .ok (.iconst 0, 1) := by decide +kernel
theorem dX5_spreadOf_2 : decode cX5_spreadOf 2 = .ok (.iaload, 1) := by decide +kernel
theorem dX5_spreadOf_3 : decode cX5_spreadOf 3 = .ok (.istore_n 2, 1) := by decide +kernel
theorem dX5_spreadOf_4 : decode cX5_spreadOf 4 = .ok (.aload_n 1, 1) := by decide +kernel
theorem dX5_spreadOf_5 : decode cX5_spreadOf 5 = .ok (.iconst 0, 1) := by decide +kernel
theorem dX5_spreadOf_6 : decode cX5_spreadOf 6 = .ok (.iaload, 1) := by decide +kernel
theorem dX5_spreadOf_7 : decode cX5_spreadOf 7 = .ok (.istore_n 3, 1) := by decide +kernel
theorem dX5_spreadOf_8 : decode cX5_spreadOf 8 = .ok (.iconst 1, 1) := by decide +kernel
theorem dX5_spreadOf_9 : decode cX5_spreadOf 9 = .ok (.istore 4, 2) := by decide +kernel
theorem dX5_spreadOf_11 : decode cX5_spreadOf 11 = .ok (.iload 4, 2) := by decide +kernel
theorem dX5_spreadOf_13 : decode cX5_spreadOf 13 = .ok (.aload_n 0, 1) := by decide +kernel
theorem dX5_spreadOf_14 : decode cX5_spreadOf 14 = .ok (.getfield 26, 3) := by decide +kernel
theorem dX5_spreadOf_17 : decode cX5_spreadOf 17 = .ok (.if_icmp .ge 27, 3) := by decide +kernel
theorem dX5_spreadOf_20 : decode cX5_spreadOf 20 = .ok (.iload_n 2, 1) := by decide +kernel
theorem dX5_spreadOf_21 : decode cX5_spreadOf 21 = .ok (.aload_n 1, 1) := by decide +kernel
theorem dX5_spreadOf_22 : decode cX5_spreadOf 22 = .ok (.iload 4, 2) := by decide +kernel
theorem dX5_spreadOf_24 : decode cX5_spreadOf 24 = .ok (.iaload, 1) := by decide +kernel
theorem dX5_spreadOf_25 : decode cX5_spreadOf 25 = .ok (.invokestatic 62, 3) := by decide +kernel
theorem dX5_spreadOf_28 : decode cX5_spreadOf 28 = .ok (.istore_n 2, 1) := by decide +kernel
theorem dX5_spreadOf_29 : decode cX5_spreadOf 29 = .ok (.iload_n 3, 1) := by decide +kernel
theorem dX5_spreadOf_30 : decode cX5_spreadOf 30 = .ok (.aload_n 1, 1) := by decide +kernel
theorem dX5_spreadOf_31 : decode cX5_spreadOf 31 = .ok (.iload 4, 2) := by decide +kernel
theorem dX5_spreadOf_33 : decode cX5_spreadOf 33 = .ok (.iaload, 1) := by decide +kernel
theorem dX5_spreadOf_34 : decode cX5_spreadOf 34 = .ok (.invokestatic 68, 3) := by decide +kernel
theorem dX5_spreadOf_37 : decode cX5_spreadOf 37 = .ok (.istore_n 3, 1) := by decide +kernel
theorem dX5_spreadOf_38 : decode cX5_spreadOf 38 = .ok (.iinc 4 1, 3) := by decide +kernel
theorem dX5_spreadOf_41 : decode cX5_spreadOf 41 = .ok (.goto (-30), 3) := by decide +kernel
theorem dX5_spreadOf_44 : decode cX5_spreadOf 44 = .ok (.iload_n 3, 1) := by decide +kernel
theorem dX5_spreadOf_45 : decode cX5_spreadOf 45 = .ok (.iload_n 2, 1) := by decide +kernel
theorem dX5_spreadOf_46 : decode cX5_spreadOf 46 = .ok (.isub, 1) := by decide +kernel
theorem dX5_spreadOf_47 : decode cX5_spreadOf 47 = .ok (.ireturn, 1) := by decide +kernel
theorem dX6_init_0 : decode cX6_init 0 = .ok (.aload_n 0, 1) := by decide +kernel
theorem dX6_init_1 : decode cX6_init 1 = .ok (.invokespecial 3, 3) := by decide +kernel
theorem dX6_init_4 : decode cX6_init 4 = .ok (.aload_n 0, 1) := by decide +kernel
theorem dX6_init_5 : decode cX6_init 5 = .ok (.bipush 8, 2) := by decide +kernel
theorem dX6_init_7 : decode cX6_init 7 = .ok (.newarray .int, 2) := by decide +kernel
theorem dX6_init_9 : decode cX6_init 9 = .ok (.putfield 9, 3) := by decide +kernel
theorem dX6_init_12 : decode cX6_init 12 = .ok (.aload_n 0, 1) := by decide +kernel
theorem dX6_init_13 : decode cX6_init 13 = .ok (.bipush 8, 2) := by decide +kernel
theorem dX6_init_15 : decode cX6_init 15 = .ok (.newarray .int, 2) := by decide +kernel
theorem dX6_init_17 : decode cX6_init 17 = .ok (.putfield 15, 3) := by decide +kernel
theorem dX6_init_20 : decode cX6_init 20 = .ok (.aload_n 0, 1) := by decide +kernel
theorem dX6_init_21 : decode cX6_init 21 = .ok (.iconst 0, 1) := by decide +kernel
theorem dX6_init_22 : decode cX6_init 22 = .ok (.putfield 18, 3) := by decide +kernel
theorem dX6_init_25 : decode cX6_init 25 = .ok (.return_, 1) := by decide +kernel
theorem dX6_tellWarmth_0 : decode cX6_tellWarmth 0 = .ok (.aload_n 0, 1) := by decide +kernel
theorem dX6_tellWarmth_1 : decode cX6_tellWarmth 1 = .ok (.iload_n 1, 1) := by decide +kernel
theorem dX6_tellWarmth_2 : decode cX6_tellWarmth 2 = .ok (.invokevirtual 22, 3) := by decide +kernel
theorem dX6_tellWarmth_5 : decode cX6_tellWarmth 5 = .ok (.istore_n 3, 1) := by decide +kernel
theorem dX6_tellWarmth_6 : decode cX6_tellWarmth 6 = .ok (.iload_n 1, 1) := by decide +kernel
theorem dX6_tellWarmth_7 : decode cX6_tellWarmth 7 = .ok (.bipush 8, 2) := by decide +kernel
theorem dX6_tellWarmth_9 : decode cX6_tellWarmth 9 = .ok (.if_icmp .ne 11, 3) := by decide +kernel
theorem dX6_tellWarmth_12 : decode cX6_tellWarmth 12 = .ok (.aload_n 0, 1) := by decide +kernel
theorem dX6_tellWarmth_13 : decode cX6_tellWarmth 13 = .ok (.iload_n 2, 1) := by decide +kernel
theorem dX6_tellWarmth_14 : decode cX6_tellWarmth 14 = .ok (.putfield 18, 3) := by decide +kernel
theorem dX6_tellWarmth_17 : decode cX6_tellWarmth 17 = .ok (.goto 10, 3) := by decide +kernel
theorem dX6_tellWarmth_20 : decode cX6_tellWarmth 20 = .ok (.aload_n 0, 1) := by decide +kernel
theorem dX6_tellWarmth_21 : decode cX6_tellWarmth 21 = .ok (.getfield 9, 3) := by decide +kernel
theorem dX6_tellWarmth_24 : decode cX6_tellWarmth 24 = .ok (.iload_n 1, 1) := by decide +kernel
theorem dX6_tellWarmth_25 : decode cX6_tellWarmth 25 = .ok (.iload_n 2, 1) := by decide +kernel
theorem dX6_tellWarmth_26 : decode cX6_tellWarmth 26 = .ok (.iastore, 1) := by decide +kernel
theorem dX6_tellWarmth_27 : decode cX6_tellWarmth 27 = .ok (.iload_n 3, 1) := by decide +kernel
theorem dX6_tellWarmth_28 : decode cX6_tellWarmth 28 = .ok (.ireturn, 1) := by decide +kernel
theorem dX6_warmthOf_0 : decode cX6_warmthOf 0 = .ok (.iload_n 1, 1) := by decide +kernel
theorem dX6_warmthOf_1 : decode cX6_warmthOf 1 = .ok (.bipush 8, 2) := by decide +kernel
theorem dX6_warmthOf_3 : decode cX6_warmthOf 3 = .ok (.if_icmp .ne 10, 3) := by decide +kernel
theorem dX6_warmthOf_6 : decode cX6_warmthOf 6 = .ok (.aload_n 0, 1) := by decide +kernel
theorem dX6_warmthOf_7 : decode cX6_warmthOf 7 = .ok (.getfield 18, 3) := by decide +kernel
theorem dX6_warmthOf_10 : decode cX6_warmthOf 10 = .ok (.goto 9, 3) := by decide +kernel
theorem dX6_warmthOf_13 : decode cX6_warmthOf 13 = .ok (.aload_n 0, 1) := by decide +kernel
theorem dX6_warmthOf_14 : decode cX6_warmthOf 14 = .ok (.getfield 9, 3) := by decide +kernel
theorem dX6_warmthOf_17 : decode cX6_warmthOf 17 = .ok (.iload_n 1, 1) := by decide +kernel
theorem dX6_warmthOf_18 : decode cX6_warmthOf 18 = .ok (.iaload, 1) := by decide +kernel
theorem dX6_warmthOf_19 : decode cX6_warmthOf 19 = .ok (.ireturn, 1) := by decide +kernel
theorem dX6_letGoBy_0 : decode cX6_letGoBy 0 = .ok (.iconst 1, 1) := by decide +kernel
theorem dX6_letGoBy_1 : decode cX6_letGoBy 1 = .ok (.istore_n 2, 1) := by decide +kernel
theorem dX6_letGoBy_2 : decode cX6_letGoBy 2 = .ok (.iconst 0, 1) := by decide +kernel
theorem dX6_letGoBy_3 : decode cX6_letGoBy 3 = .ok (.istore_n 3, 1) := by decide +kernel
theorem dX6_letGoBy_4 : decode cX6_letGoBy 4 = .ok (.iload_n 3, 1) := by decide +kernel
theorem dX6_letGoBy_5 : decode cX6_letGoBy 5 = .ok (.iload_n 1, 1) := by decide +kernel
theorem dX6_letGoBy_6 : decode cX6_letGoBy 6 = .ok (.if_icmp .ge 22, 3) := by decide +kernel
theorem dX6_letGoBy_9 : decode cX6_letGoBy 9 = .ok (.iload_n 2, 1) := by decide +kernel
theorem dX6_letGoBy_10 : decode cX6_letGoBy 10 = .ok (.ifCond .eq 18, 3) := by decide +kernel
theorem dX6_letGoBy_13 : decode cX6_letGoBy 13 = .ok (.aload_n 0, 1) := by decide +kernel
theorem dX6_letGoBy_14 : decode cX6_letGoBy 14 = .ok (.aload_n 0, 1) := by decide +kernel
theorem dX6_letGoBy_15 : decode cX6_letGoBy 15 = .ok (.getfield 9, 3) := by decide +kernel
theorem dX6_letGoBy_18 : decode cX6_letGoBy 18 = .ok (.invokevirtual 26, 3) := by decide +kernel
theorem dX6_letGoBy_21 : decode cX6_letGoBy 21 = .ok (.istore_n 2, 1) := by decide +kernel
theorem dX6_letGoBy_22 : decode cX6_letGoBy 22 = .ok (.iinc 3 1, 3) := by decide +kernel
theorem dX6_letGoBy_25 : decode cX6_letGoBy 25 = .ok (.goto (-21), 3) := by decide +kernel
theorem dX6_letGoBy_28 : decode cX6_letGoBy 28 = .ok (.aload_n 0, 1) := by decide +kernel
theorem dX6_letGoBy_29 : decode cX6_letGoBy 29 = .ok (.getfield 9, 3) := by decide +kernel
theorem dX6_letGoBy_32 : decode cX6_letGoBy 32 = .ok (.aload_n 0, 1) := by decide +kernel
theorem dX6_letGoBy_33 : decode cX6_letGoBy 33 = .ok (.getfield 9, 3) := by decide +kernel
theorem dX6_letGoBy_36 : decode cX6_letGoBy 36 = .ok (.iconst 0, 1) := by decide +kernel
theorem dX6_letGoBy_37 : decode cX6_letGoBy 37 = .ok (.iaload, 1) := by decide +kernel
theorem dX6_letGoBy_38 : decode cX6_letGoBy 38 = .ok (.invokestatic 30, 3) := by decide +kernel
theorem dX6_letGoBy_41 : decode cX6_letGoBy 41 = .ok (.aload_n 0, 1) := by decide +kernel
theorem dX6_letGoBy_42 : decode cX6_letGoBy 42 = .ok (.getfield 9, 3) := by decide +kernel
theorem dX6_letGoBy_45 : decode cX6_letGoBy 45 = .ok (.aload_n 0, 1) := by decide +kernel
theorem dX6_letGoBy_46 : decode cX6_letGoBy 46 = .ok (.getfield 9, 3) := by decide +kernel
theorem dX6_letGoBy_49 : decode cX6_letGoBy 49 = .ok (.iconst 0, 1) := by decide +kernel
theorem dX6_letGoBy_50 : decode cX6_letGoBy 50 = .ok (.iaload, 1) := by decide +kernel
theorem dX6_letGoBy_51 : decode cX6_letGoBy 51 = .ok (.invokestatic 34, 3) := by decide +kernel
theorem dX6_letGoBy_54 : decode cX6_letGoBy 54 = .ok (.isub, 1) := by decide +kernel
theorem dX6_letGoBy_55 : decode cX6_letGoBy 55 = .ok (.ireturn, 1) := by decide +kernel
theorem dX6_minutesTillStill_0 : decode cX6_minutesTillStill 0 = .ok (.aload_n 0, 1) := by decide +kernel
theorem dX6_minutesTillStill_1 : decode cX6_minutesTillStill 1 = .ok (.getfield 9, 3) := by decide +kernel
theorem dX6_minutesTillStill_4 : decode cX6_minutesTillStill 4 = .ok (.iconst 0, 1) := by decide +kernel
theorem dX6_minutesTillStill_5 : decode cX6_minutesTillStill 5 = .ok (.aload_n 0, 1) := by decide +kernel
theorem dX6_minutesTillStill_6 : decode cX6_minutesTillStill 6 = .ok (.getfield 15, 3) := by decide +kernel
theorem dX6_minutesTillStill_9 : decode cX6_minutesTillStill 9 = .ok (.iconst 0, 1) := by decide +kernel
theorem dX6_minutesTillStill_10 : decode cX6_minutesTillStill 10 = .ok (.bipush 8, 2) := by decide +kernel
theorem dX6_minutesTillStill_12 : decode cX6_minutesTillStill 12 = .ok (.invokestatic 37, 3) := by decide +kernel
theorem dX6_minutesTillStill_15 : decode cX6_minutesTillStill 15 = .ok (.iconst 1, 1) := by decide +kernel
theorem dX6_minutesTillStill_16 : decode cX6_minutesTillStill 16 = .ok (.istore_n 2, 1) := by decide +kernel
theorem dX6_minutesTillStill_17 : decode cX6_minutesTillStill 17 = .ok (.iconst 0, 1) := by decide +kernel
theorem dX6_minutesTillStill_18 : decode cX6_minutesTillStill 18 = .ok (.istore_n 3, 1) := by decide +kernel
theorem dX6_minutesTillStill_19 : decode cX6_minutesTillStill 19 = .ok (.iload_n 3, 1) := by decide +kernel
theorem dX6_minutesTillStill_20 : decode cX6_minutesTillStill 20 = .ok (.sipush 2000, 3) := by decide +kernel
theorem dX6_minutesTillStill_23 : decode cX6_minutesTillStill 23 = .ok (.if_icmp .gt 51, 3) := by decide +kernel
theorem dX6_minutesTillStill_26 : decode cX6_minutesTillStill 26 = .ok (.iload_n 2, 1) := by decide +kernel
theorem dX6_minutesTillStill_27 : decode cX6_minutesTillStill 27 = .ok (.ifCond .eq 47, 3) := by decide +kernel
theorem dX6_minutesTillStill_30 : decode cX6_minutesTillStill 30 = .ok (.aload_n 0, 1) := by decide +kernel
theorem dX6_minutesTillStill_31 : decode cX6_minutesTillStill 31 = .ok (.getfield 15, 3) := by decide +kernel
theorem dX6_minutesTillStill_34 : decode cX6_minutesTillStill 34 = .ok (.aload_n 0, 1) := by decide +kernel
theorem dX6_minutesTillStill_35 : decode cX6_minutesTillStill 35 = .ok (.getfield 18, 3) := by decide +kernel
theorem dX6_minutesTillStill_38 : decode cX6_minutesTillStill 38 = .ok (.invokestatic 30, 3) := by decide +kernel
theorem dX6_minutesTillStill_41 : decode cX6_minutesTillStill 41 = .ok (.aload_n 0, 1) := by decide +kernel
theorem dX6_minutesTillStill_42 : decode cX6_minutesTillStill 42 = .ok (.getfield 15, 3) := by decide +kernel
theorem dX6_minutesTillStill_45 : decode cX6_minutesTillStill 45 = .ok (.aload_n 0, 1) := by decide +kernel
theorem dX6_minutesTillStill_46 : decode cX6_minutesTillStill 46 = .ok (.getfield 18, 3) := by decide +kernel
theorem dX6_minutesTillStill_49 : decode cX6_minutesTillStill 49 = .ok (.invokestatic 34, 3) := by decide +kernel
theorem dX6_minutesTillStill_52 : decode cX6_minutesTillStill 52 = .ok (.isub, 1) := by decide +kernel
theorem dX6_minutesTillStill_53 : decode cX6_minutesTillStill 53 = .ok (.iload_n 1, 1) := by decide +kernel
theorem dX6_minutesTillStill_54 : decode cX6_minutesTillStill 54 = .ok (.if_icmp .gt 5, 3) := by decide +kernel
theorem dX6_minutesTillStill_57 : decode cX6_minutesTillStill 57 = .ok (.iload_n 3, 1) := by decide +kernel
theorem dX6_minutesTillStill_58 : decode cX6_minutesTillStill 58 = .ok (.ireturn, 1) := by decide +kernel
theorem dX6_minutesTillStill_59 : decode cX6_minutesTillStill 59 = .ok (.aload_n 0, 1) := by decide +kernel
theorem dX6_minutesTillStill_60 : decode cX6_minutesTillStill 60 = .ok (.aload_n 0, 1) := by decide +kernel
theorem dX6_minutesTillStill_61 : decode cX6_minutesTillStill 61 = .ok (.getfield 15, 3) := by decide +kernel
theorem dX6_minutesTillStill_64 : decode cX6_minutesTillStill 64 = .ok (.invokevirtual 26, 3) := by decide +kernel
theorem dX6_minutesTillStill_67 : decode cX6_minutesTillStill 67 = .ok (.istore_n 2, 1) := by decide +kernel
theorem dX6_minutesTillStill_68 : decode cX6_minutesTillStill 68 = .ok (.iinc 3 1, 3) := by decide +kernel
theorem dX6_minutesTillStill_71 : decode cX6_minutesTillStill 71 = .ok (.goto (-52), 3) := by decide +kernel
theorem dX6_minutesTillStill_74 : decode cX6_minutesTillStill 74 = .ok (.bipush (-4), 2) := by decide +kernel
theorem dX6_minutesTillStill_76 : decode cX6_minutesTillStill 76 = .ok (.ireturn, 1) := by decide +kernel
theorem dX6_goOneMinute_0 : decode cX6_goOneMinute 0 = .ok (.iconst 0, 1) := by decide +kernel
theorem dX6_goOneMinute_1 : decode cX6_goOneMinute 1 = .ok (.istore_n 2, 1) := by decide +kernel
theorem dX6_goOneMinute_2 : decode cX6_goOneMinute 2 = .ok (.aload_n 0, 1) := by decide +kernel
theorem dX6_goOneMinute_3 : decode cX6_goOneMinute 3 = .ok (.getfield 18, 3) := by decide +kernel
theorem dX6_goOneMinute_6 : decode cX6_goOneMinute 6 = .ok (.istore_n 3, 1) := by decide +kernel
theorem dX6_goOneMinute_7 : decode cX6_goOneMinute 7 = .ok (.iconst 0, 1) := by decide +kernel
theorem dX6_goOneMinute_8 : decode cX6_goOneMinute 8 = .ok (.istore 4, 2) := by decide +kernel
theorem dX6_goOneMinute_10 : decode cX6_goOneMinute 10 = .ok (.iload 4, 2) := by decide +kernel
theorem dX6_goOneMinute_12 : decode cX6_goOneMinute 12 = .ok (.bipush 8, 2) := by decide +kernel
theorem dX6_goOneMinute_14 : decode cX6_goOneMinute 14 = .ok (.if_icmp .ge 81, 3) := by decide +kernel
theorem dX6_goOneMinute_17 : decode cX6_goOneMinute 17 = .ok (.aload_n 1, 1) := by decide +kernel
theorem dX6_goOneMinute_18 : decode cX6_goOneMinute 18 = .ok (.iload 4, 2) := by decide +kernel
theorem dX6_goOneMinute_20 : decode cX6_goOneMinute 20 = .ok (.iaload, 1) := by decide +kernel
theorem dX6_goOneMinute_21 : decode cX6_goOneMinute 21 = .ok (.istore 5, 2) := by decide +kernel
theorem dX6_goOneMinute_23 : decode cX6_goOneMinute 23 = .ok (.iload 4, 2) := by decide +kernel
theorem dX6_goOneMinute_25 : decode cX6_goOneMinute 25 = .ok (.iconst 1, 1) := by decide +kernel
theorem dX6_goOneMinute_26 : decode cX6_goOneMinute 26 = .ok (.iadd, 1) := by decide +kernel
theorem dX6_goOneMinute_27 : decode cX6_goOneMinute 27 = .ok (.bipush 8, 2) := by decide +kernel
theorem dX6_goOneMinute_29 : decode cX6_goOneMinute 29 = .ok (.if_icmp .ge 12, 3) := by decide +kernel
theorem dX6_goOneMinute_32 : decode cX6_goOneMinute 32 = .ok (.aload_n 1, 1) := by decide +kernel
theorem dX6_goOneMinute_33 : decode cX6_goOneMinute 33 = .ok (.iload 4, 2) := by decide +kernel
theorem dX6_goOneMinute_35 : decode cX6_goOneMinute 35 = .ok (.iconst 1, 1) := by decide +kernel
theorem dX6_goOneMinute_36 : decode cX6_goOneMinute 36 = .ok (.iadd, 1) := by decide +kernel
theorem dX6_goOneMinute_37 : decode cX6_goOneMinute 37 = .ok (.iaload, 1) := by decide +kernel
theorem dX6_goOneMinute_38 : decode cX6_goOneMinute 38 = .ok (.goto 7, 3) := by decide +kernel
theorem dX6_goOneMinute_41 : decode cX6_goOneMinute 41 = .ok (.aload_n 0, 1) := by decide +kernel
theorem dX6_goOneMinute_42 : decode cX6_goOneMinute 42 = .ok (.getfield 18, 3) := by decide +kernel
theorem dX6_goOneMinute_45 : decode cX6_goOneMinute 45 = .ok (.istore 6, 2) := by decide +kernel
theorem dX6_goOneMinute_47 : decode cX6_goOneMinute 47 = .ok (.iload_n 3, 1) := by decide +kernel
theorem dX6_goOneMinute_48 : decode cX6_goOneMinute 48 = .ok (.iload 6, 2) := by decide +kernel
theorem dX6_goOneMinute_50 : decode cX6_goOneMinute 50 = .ok (.iadd, 1) := by decide +kernel
theorem dX6_goOneMinute_51 : decode cX6_goOneMinute 51 = .ok (.iconst 2, 1) := by decide +kernel
theorem dX6_goOneMinute_52 : decode cX6_goOneMinute 52 = .ok (.iload 5, 2) := by decide +kernel
theorem dX6_goOneMinute_54 : decode cX6_goOneMinute 54 = .ok (.imul, 1) := by decide +kernel
theorem dX6_goOneMinute_55 : decode cX6_goOneMinute 55 = .ok (.isub, 1) := by decide +kernel
theorem dX6_goOneMinute_56 : decode cX6_goOneMinute 56 = .ok (.iconst 4, 1) := by decide +kernel
theorem dX6_goOneMinute_57 : decode cX6_goOneMinute 57 = .ok (.invokestatic 43, 3) := by decide +kernel
theorem dX6_goOneMinute_60 : decode cX6_goOneMinute 60 = .ok (.istore 7, 2) := by decide +kernel
theorem dX6_goOneMinute_62 : decode cX6_goOneMinute 62 = .ok (.aload_n 1, 1) := by decide +kernel
theorem dX6_goOneMinute_63 : decode cX6_goOneMinute 63 = .ok (.iload 4, 2) := by decide +kernel
theorem dX6_goOneMinute_65 : decode cX6_goOneMinute 65 = .ok (.iload 5, 2) := by decide +kernel
theorem dX6_goOneMinute_67 : decode cX6_goOneMinute 67 = .ok (.iload 7, 2) := by decide +kernel
theorem dX6_goOneMinute_69 : decode cX6_goOneMinute 69 = .ok (.iadd, 1) := by decide +kernel
theorem dX6_goOneMinute_70 : decode cX6_goOneMinute 70 = .ok (.iastore, 1) := by decide +kernel
theorem dX6_goOneMinute_71 : decode cX6_goOneMinute 71 = .ok (.iload_n 2, 1) := by decide +kernel
theorem dX6_goOneMinute_72 : decode cX6_goOneMinute 72 = .ok (.ifCond .ne 8, 3) := by decide +kernel
theorem dX6_goOneMinute_75 : decode cX6_goOneMinute 75 = .ok (.iload 7, 2) := by decide +kernel
theorem dX6_goOneMinute_77 : decode cX6_goOneMinute 77 = .ok (.ifCond .eq 7, 3) := by decide +kernel
theorem dX6_goOneMinute_80 : decode cX6_goOneMinute 80 = .ok (.iconst 1, 1) := by decide +kernel
theorem dX6_goOneMinute_81 : decode cX6_goOneMinute 81 = .ok (.goto 4, 3) := by decide +kernel
theorem dX6_goOneMinute_84 : decode cX6_goOneMinute 84 = .ok (.iconst 0, 1) := by decide +kernel
theorem dX6_goOneMinute_85 : decode cX6_goOneMinute 85 = .ok (.istore_n 2, 1) := by decide +kernel
theorem dX6_goOneMinute_86 : decode cX6_goOneMinute 86 = .ok (.iload 5, 2) := by decide +kernel
theorem dX6_goOneMinute_88 : decode cX6_goOneMinute 88 = .ok (.istore_n 3, 1) := by decide +kernel
theorem dX6_goOneMinute_89 : decode cX6_goOneMinute 89 = .ok (.iinc 4 1, 3) := by decide +kernel
theorem dX6_goOneMinute_92 : decode cX6_goOneMinute 92 = .ok (.goto (-82), 3) := by decide +kernel
theorem dX6_goOneMinute_95 : decode cX6_goOneMinute 95 = .ok (.iload_n 2, 1) := by decide +kernel
theorem dX6_goOneMinute_96 : decode cX6_goOneMinute 96 = .ok (.ireturn, 1) := by decide +kernel
theorem dX6_greatest_0 : decode cX6_greatest 0 = .ok (.iload_n 1, 1) := by decide +kernel
theorem dX6_greatest_1 : decode cX6_greatest 1 = .ok (.istore_n 2, 1) := by decide +kernel
theorem dX6_greatest_2 : decode cX6_greatest 2 = .ok (.aload_n 0, 1) := by decide +kernel
theorem dX6_greatest_3 : decode cX6_greatest 3 = .ok (.astore_n 3, 1) := by decide +kernel
theorem dX6_greatest_4 : decode cX6_greatest 4 = .ok (.aload_n 3, 1) := by decide +kernel
theorem dX6_greatest_5 : decode cX6_greatest 5 = .ok (.arraylength, 1) := by decide +kernel
theorem dX6_greatest_6 : decode cX6_greatest 6 = .ok (.istore 4, 2) := by decide +kernel
theorem dX6_greatest_8 : decode cX6_greatest 8 = .ok (.iconst 0, 1) := by decide +kernel
theorem dX6_greatest_9 : decode cX6_greatest 9 = .ok (.istore 5, 2) := by decide +kernel
theorem dX6_greatest_11 : decode cX6_greatest 11 = .ok (.iload 5, 2) := by decide +kernel
theorem dX6_greatest_13 : decode cX6_greatest 13 = .ok (.iload 4, 2) := by decide +kernel
theorem dX6_greatest_15 : decode cX6_greatest 15 = .ok (.if_icmp .ge 22, 3) := by decide +kernel
theorem dX6_greatest_18 : decode cX6_greatest 18 = .ok (.aload_n 3, 1) := by decide +kernel
theorem dX6_greatest_19 : decode cX6_greatest 19 = .ok (.iload 5, 2) := by decide +kernel
theorem dX6_greatest_21 : decode cX6_greatest 21 = .ok (.iaload, 1) := by decide +kernel
theorem dX6_greatest_22 : decode cX6_greatest 22 = .ok (.istore 6, 2) := by decide +kernel
theorem dX6_greatest_24 : decode cX6_greatest 24 = .ok (.iload_n 2, 1) := by decide +kernel
theorem dX6_greatest_25 : decode cX6_greatest 25 = .ok (.iload 6, 2) := by decide +kernel
theorem dX6_greatest_27 : decode cX6_greatest 27 = .ok (.invokestatic 49, 3) := by decide +kernel
theorem dX6_greatest_30 : decode cX6_greatest 30 = .ok (.istore_n 2, 1) := by decide +kernel
theorem dX6_greatest_31 : decode cX6_greatest 31 = .ok (.iinc 5 1, 3) := by decide +kernel
theorem dX6_greatest_34 : decode cX6_greatest 34 = .ok (.goto (-23), 3) := by decide +kernel
theorem dX6_greatest_37 : decode cX6_greatest 37 = .ok (.iload_n 2, 1) := by decide +kernel
theorem dX6_greatest_38 : decode cX6_greatest 38 = .ok (.ireturn, 1) := by decide +kernel
theorem dX6_least_0 : decode cX6_least 0 = .ok (.iload_n 1, 1) := by decide +kernel
theorem dX6_least_1 : decode cX6_least 1 = .ok (.istore_n 2, 1) := by decide +kernel
theorem dX6_least_2 : decode cX6_least 2 = .ok (.aload_n 0, 1) := by decide +kernel
theorem dX6_least_3 : decode cX6_least 3 = .ok (.astore_n 3, 1) := by decide +kernel
theorem dX6_least_4 : decode cX6_least 4 = .ok (.aload_n 3, 1) := by decide +kernel
theorem dX6_least_5 : decode cX6_least 5 = .ok (.arraylength, 1) := by decide +kernel
theorem dX6_least_6 : decode cX6_least 6 = .ok (.istore 4, 2) := by decide +kernel
theorem dX6_least_8 : decode cX6_least 8 = .ok (.iconst 0, 1) := by decide +kernel
theorem dX6_least_9 : decode cX6_least 9 = .ok (.istore 5, 2) := by decide +kernel
theorem dX6_least_11 : decode cX6_least 11 = .ok (.iload 5, 2) := by decide +kernel
theorem dX6_least_13 : decode cX6_least 13 = .ok (.iload 4, 2) := by decide +kernel
theorem dX6_least_15 : decode cX6_least 15 = .ok (.if_icmp .ge 22, 3) := by decide +kernel
theorem dX6_least_18 : decode cX6_least 18 = .ok (.aload_n 3, 1) := by decide +kernel
theorem dX6_least_19 : decode cX6_least 19 = .ok (.iload 5, 2) := by decide +kernel
theorem dX6_least_21 : decode cX6_least 21 = .ok (.iaload, 1) := by decide +kernel
theorem dX6_least_22 : decode cX6_least 22 = .ok (.istore 6, 2) := by decide +kernel
theorem dX6_least_24 : decode cX6_least 24 = .ok (.iload_n 2, 1) := by decide +kernel
theorem dX6_least_25 : decode cX6_least 25 = .ok (.iload 6, 2) := by decide +kernel
theorem dX6_least_27 : decode cX6_least 27 = .ok (.invokestatic 52, 3) := by decide +kernel
theorem dX6_least_30 : decode cX6_least 30 = .ok (.istore_n 2, 1) := by decide +kernel
theorem dX6_least_31 : decode cX6_least 31 = .ok (.iinc 5 1, 3) := by decide +kernel
theorem dX6_least_34 : decode cX6_least 34 = .ok (.goto (-23), 3) := by decide +kernel
theorem dX6_least_37 : decode cX6_least 37 = .ok (.iload_n 2, 1) := by decide +kernel
theorem dX6_least_38 : decode cX6_least 38 = .ok (.ireturn, 1) := by decide +kernel
theorem dX7_init_0 : decode cX7_init 0 = .ok (.aload_n 0, 1) := by decide +kernel
theorem dX7_init_1 : decode cX7_init 1 = .ok (.invokespecial 3, 3) := by decide +kernel
theorem dX7_init_4 : decode cX7_init 4 = .ok (.aload_n 0, 1) := by decide +kernel
theorem dX7_init_5 : decode cX7_init 5 = .ok (.bipush 12, 2) := by decide +kernel
theorem dX7_init_7 : decode cX7_init 7 = .ok (.newarray .int, 2) := by decide +kernel
theorem dX7_init_9 : decode cX7_init 9 = .ok (.putfield 9, 3) := by decide +kernel
theorem dX7_init_12 : decode cX7_init 12 = .ok (.aload_n 0, 1) := by decide +kernel
theorem dX7_init_13 : decode cX7_init 13 = .ok (.bipush 12, 2) := by decide +kernel
theorem dX7_init_15 : decode cX7_init 15 = .ok (.newarray .int, 2) := by decide +kernel
theorem dX7_init_17 : decode cX7_init 17 = .ok (.putfield 15, 3) := by decide +kernel
theorem dX7_init_20 : decode cX7_init 20 = .ok (.aload_n 0, 1) := by decide +kernel
theorem dX7_init_21 : decode cX7_init 21 = .ok (.bipush 12, 2) := by decide +kernel
theorem dX7_init_23 : decode cX7_init 23 = .ok (.newarray .int, 2) := by decide +kernel
theorem dX7_init_25 : decode cX7_init 25 = .ok (.putfield 18, 3) := by decide +kernel
theorem dX7_init_28 : decode cX7_init 28 = .ok (.aload_n 0, 1) := by decide +kernel
theorem dX7_init_29 : decode cX7_init 29 = .ok (.iconst 0, 1) := by decide +kernel
theorem dX7_init_30 : decode cX7_init 30 = .ok (.putfield 21, 3) := by decide +kernel
theorem dX7_init_33 : decode cX7_init 33 = .ok (.aload_n 0, 1) := by decide +kernel
theorem dX7_init_34 : decode cX7_init 34 = .ok (.aload_n 1, 1) := by decide +kernel
theorem dX7_init_35 : decode cX7_init 35 = .ok (.putfield 25, 3) := by decide +kernel
theorem dX7_init_38 : decode cX7_init 38 = .ok (.return_, 1) := by decide +kernel
theorem dX7_begin_0 : decode cX7_begin 0 = .ok (.aload_n 0, 1) := by decide +kernel
theorem dX7_begin_1 : decode cX7_begin 1 = .ok (.iconst 0, 1) := by decide +kernel
theorem dX7_begin_2 : decode cX7_begin 2 = .ok (.putfield 21, 3) := by decide +kernel
theorem dX7_begin_5 : decode cX7_begin 5 = .ok (.return_, 1) := by decide +kernel
theorem dX7_howMany_0 : decode cX7_howMany 0 = .ok (.aload_n 0, 1) := by decide +kernel
theorem dX7_howMany_1 : decode cX7_howMany 1 = .ok (.getfield 21, 3) := by decide +kernel
theorem dX7_howMany_4 : decode cX7_howMany 4 = .ok (.ireturn, 1) := by decide +kernel
theorem dX7_hold_0 : decode cX7_hold 0 = .ok (.aload_n 0, 1) := by decide +kernel
theorem dX7_hold_1 : decode cX7_hold 1 = .ok (.getfield 21, 3) := by decide +kernel
theorem dX7_hold_4 : decode cX7_hold 4 = .ok (.bipush 12, 2) := by decide +kernel
theorem dX7_hold_6 : decode cX7_hold 6 = .ok (.if_icmp .ge 43, 3) := by decide +kernel
theorem dX7_hold_9 : decode cX7_hold 9 = .ok (.aload_n 0, 1) := by decide +kernel
theorem dX7_hold_10 : decode cX7_hold 10 = .ok (.getfield 9, 3) := by decide +kernel
theorem dX7_hold_13 : decode cX7_hold 13 = .ok (.aload_n 0, 1) := by decide +kernel
theorem dX7_hold_14 : decode cX7_hold 14 = .ok (.getfield 21, 3) := by decide +kernel
theorem dX7_hold_17 : decode cX7_hold 17 = .ok (.iload_n 1, 1) := by decide +kernel
theorem dX7_hold_18 : decode cX7_hold 18 = .ok (.iastore, 1) := by decide +kernel
theorem dX7_hold_19 : decode cX7_hold 19 = .ok (.aload_n 0, 1) := by decide +kernel
theorem dX7_hold_20 : decode cX7_hold 20 = .ok (.getfield 15, 3) := by decide +kernel
theorem dX7_hold_23 : decode cX7_hold 23 = .ok (.aload_n 0, 1) := by decide +kernel
theorem dX7_hold_24 : decode cX7_hold 24 = .ok (.getfield 21, 3) := by decide +kernel
theorem dX7_hold_27 : decode cX7_hold 27 = .ok (.iload_n 2, 1) := by decide +kernel
theorem dX7_hold_28 : decode cX7_hold 28 = .ok (.iastore, 1) := by decide +kernel
theorem dX7_hold_29 : decode cX7_hold 29 = .ok (.aload_n 0, 1) := by decide +kernel
theorem dX7_hold_30 : decode cX7_hold 30 = .ok (.getfield 18, 3) := by decide +kernel
theorem dX7_hold_33 : decode cX7_hold 33 = .ok (.aload_n 0, 1) := by decide +kernel
theorem dX7_hold_34 : decode cX7_hold 34 = .ok (.getfield 21, 3) := by decide +kernel
theorem dX7_hold_37 : decode cX7_hold 37 = .ok (.iload_n 3, 1) := by decide +kernel
theorem dX7_hold_38 : decode cX7_hold 38 = .ok (.iastore, 1) := by decide +kernel
theorem dX7_hold_39 : decode cX7_hold 39 = .ok (.aload_n 0, 1) := by decide +kernel
theorem dX7_hold_40 : decode cX7_hold 40 = .ok (.dup, 1) := by decide +kernel
theorem dX7_hold_41 : decode cX7_hold 41 = .ok (.getfield 21, 3) := by decide +kernel
theorem dX7_hold_44 : decode cX7_hold 44 = .ok (.iconst 1, 1) := by decide +kernel
theorem dX7_hold_45 : decode cX7_hold 45 = .ok (.iadd, 1) := by decide +kernel
theorem dX7_hold_46 : decode cX7_hold 46 = .ok (.putfield 21, 3) := by decide +kernel
theorem dX7_hold_49 : decode cX7_hold 49 = .ok (.aload_n 0, 1) := by decide +kernel
theorem dX7_hold_50 : decode cX7_hold 50 = .ok (.getfield 21, 3) := by decide +kernel
theorem dX7_hold_53 : decode cX7_hold 53 = .ok (.ireturn, 1) := by decide +kernel
theorem dX7_howManyOf_0 : decode cX7_howManyOf 0 = .ok (.iconst 0, 1) := by decide +kernel
theorem dX7_howManyOf_1 : decode cX7_howManyOf 1 = .ok (.istore_n 2, 1) := by decide +kernel
theorem dX7_howManyOf_2 : decode cX7_howManyOf 2 = .ok (.iconst 0, 1) := by decide +kernel
theorem dX7_howManyOf_3 : decode cX7_howManyOf 3 = .ok (.istore_n 3, 1) := by decide +kernel
theorem dX7_howManyOf_4 : decode cX7_howManyOf 4 = .ok (.iload_n 3, 1) := by decide +kernel
theorem dX7_howManyOf_5 : decode cX7_howManyOf 5 = .ok (.aload_n 0, 1) := by decide +kernel
theorem dX7_howManyOf_6 : decode cX7_howManyOf 6 = .ok (.getfield 21, 3) := by decide +kernel
theorem dX7_howManyOf_9 : decode cX7_howManyOf 9 = .ok (.if_icmp .ge 84, 3) := by decide +kernel
theorem dX7_howManyOf_12 : decode cX7_howManyOf 12 = .ok (.aload_n 0, 1) := by decide +kernel
theorem dX7_howManyOf_13 : decode cX7_howManyOf 13 = .ok (.iload_n 3, 1) := by decide +kernel
theorem dX7_howManyOf_14 : decode cX7_howManyOf 14 = .ok (.invokevirtual 29, 3) := by decide +kernel
theorem dX7_howManyOf_17 : decode cX7_howManyOf 17 = .ok (.istore 4, 2) := by decide +kernel
theorem dX7_howManyOf_19 : decode cX7_howManyOf 19 = .ok (.iload 4, 2) := by decide +kernel
theorem dX7_howManyOf_21 : decode cX7_howManyOf 21 = .ok (.invokestatic 33, 3) := by decide +kernel
theorem dX7_howManyOf_24 : decode cX7_howManyOf 24 = .ok (.aload_n 0, 1) := by decide +kernel
theorem dX7_howManyOf_25 : decode cX7_howManyOf 25 = .ok (.getfield 25, 3) := by decide +kernel
theorem dX7_howManyOf_28 : decode cX7_howManyOf 28 = .ok (.invokevirtual 38, 3) := by decide +kernel
theorem dX7_howManyOf_31 : decode cX7_howManyOf 31 = .ok (.aload_n 0, 1) := by decide +kernel
theorem dX7_howManyOf_32 : decode cX7_howManyOf 32 = .ok (.getfield 15, 3) := by decide +kernel
theorem dX7_howManyOf_35 : decode cX7_howManyOf 35 = .ok (.iload_n 3, 1) := by decide +kernel
theorem dX7_howManyOf_36 : decode cX7_howManyOf 36 = .ok (.iaload, 1) := by decide +kernel
theorem dX7_howManyOf_37 : decode cX7_howManyOf 37 = .ok (.aload_n 0, 1) := by decide +kernel
theorem dX7_howManyOf_38 : decode cX7_howManyOf 38 = .ok (.getfield 9, 3) := by decide +kernel
theorem dX7_howManyOf_41 : decode cX7_howManyOf 41 = .ok (.iload_n 3, 1) := by decide +kernel
theorem dX7_howManyOf_42 : decode cX7_howManyOf 42 = .ok (.iaload, 1) := by decide +kernel
theorem dX7_howManyOf_43 : decode cX7_howManyOf 43 = .ok (.isub, 1) := by decide +kernel
theorem dX7_howManyOf_44 : decode cX7_howManyOf 44 = .ok (.imul, 1) := by decide +kernel
theorem dX7_howManyOf_45 : decode cX7_howManyOf 45 = .ok (.if_icmp .gt 7, 3) := by decide +kernel
theorem dX7_howManyOf_48 : decode cX7_howManyOf 48 = .ok (.iconst 1, 1) := by decide +kernel
theorem dX7_howManyOf_49 : decode cX7_howManyOf 49 = .ok (.goto 4, 3) := by decide +kernel
theorem dX7_howManyOf_52 : decode cX7_howManyOf 52 = .ok (.iconst 0, 1) := by decide +kernel
theorem dX7_howManyOf_53 : decode cX7_howManyOf 53 = .ok (.istore 5, 2) := by decide +kernel
theorem dX7_howManyOf_55 : decode cX7_howManyOf 55 = .ok (.iload 4, 2) := by decide +kernel
theorem dX7_howManyOf_57 : decode cX7_howManyOf 57 = .ok (.ldc 44, 2) := by decide +kernel
theorem dX7_howManyOf_59 : decode cX7_howManyOf 59 = .ok (.if_icmp .ne 7, 3) := by decide +kernel
theorem dX7_howManyOf_62 : decode cX7_howManyOf 62 = .ok (.iconst 2, 1) := by decide +kernel
theorem dX7_howManyOf_63 : decode cX7_howManyOf 63 = .ok (.goto 13, 3) := by decide +kernel
theorem dX7_howManyOf_66 : decode cX7_howManyOf 66 = .ok (.iload 5, 2) := by decide +kernel
theorem dX7_howManyOf_68 : decode cX7_howManyOf 68 = .ok (.ifCond .eq 7, 3) := by decide +kernel
theorem dX7_howManyOf_71 : decode cX7_howManyOf 71 = .ok (.iconst 0, 1) := by decide +kernel
theorem dX7_howManyOf_72 : decode cX7_howManyOf 72 = .ok (.goto 4, 3) := by decide +kernel
theorem dX7_howManyOf_75 : decode cX7_howManyOf 75 = .ok (.iconst 1, 1) := by decide +kernel
theorem dX7_howManyOf_76 : decode cX7_howManyOf 76 = .ok (.istore 6, 2) := by decide +kernel
theorem dX7_howManyOf_78 : decode cX7_howManyOf 78 = .ok (.iload 6, 2) := by decide +kernel
theorem dX7_howManyOf_80 : decode cX7_howManyOf 80 = .ok (.iload_n 1, 1) := by decide +kernel
theorem dX7_howManyOf_81 : decode cX7_howManyOf 81 = .ok (.if_icmp .ne 6, 3) := by decide +kernel
theorem dX7_howManyOf_84 : decode cX7_howManyOf 84 = .ok (.iinc 2 1, 3) := by decide +kernel
theorem dX7_howManyOf_87 : decode cX7_howManyOf 87 = .ok (.iinc 3 1, 3) := by decide +kernel
theorem dX7_howManyOf_90 : decode cX7_howManyOf 90 = .ok (.goto (-86), 3) := by decide +kernel
theorem dX7_howManyOf_93 : decode cX7_howManyOf 93 = .ok (.iload_n 2, 1) := by decide +kernel
theorem dX7_howManyOf_94 : decode cX7_howManyOf 94 = .ok (.ireturn, 1) := by decide +kernel
theorem dX7_offBy_0 : decode cX7_offBy 0 = .ok (.aload_n 0, 1) := by decide +kernel
theorem dX7_offBy_1 : decode cX7_offBy 1 = .ok (.getfield 25, 3) := by decide +kernel
theorem dX7_offBy_4 : decode cX7_offBy 4 = .ok (.aload_n 0, 1) := by decide +kernel
theorem dX7_offBy_5 : decode cX7_offBy 5 = .ok (.getfield 9, 3) := by decide +kernel
theorem dX7_offBy_8 : decode cX7_offBy 8 = .ok (.iload_n 1, 1) := by decide +kernel
theorem dX7_offBy_9 : decode cX7_offBy 9 = .ok (.iaload, 1) := by decide +kernel
theorem dX7_offBy_10 : decode cX7_offBy 10 = .ok (.invokevirtual 45, 3) := by decide +kernel
theorem dX7_offBy_13 : decode cX7_offBy 13 = .ok (.istore_n 2, 1) := by decide +kernel
theorem dX7_offBy_14 : decode cX7_offBy 14 = .ok (.aload_n 0, 1) := by decide +kernel
theorem dX7_offBy_15 : decode cX7_offBy 15 = .ok (.getfield 25, 3) := by decide +kernel
theorem dX7_offBy_18 : decode cX7_offBy 18 = .ok (.aload_n 0, 1) := by decide +kernel
theorem dX7_offBy_19 : decode cX7_offBy 19 = .ok (.getfield 15, 3) := by decide +kernel
theorem dX7_offBy_22 : decode cX7_offBy 22 = .ok (.iload_n 1, 1) := by decide +kernel
theorem dX7_offBy_23 : decode cX7_offBy 23 = .ok (.iaload, 1) := by decide +kernel
theorem dX7_offBy_24 : decode cX7_offBy 24 = .ok (.invokevirtual 45, 3) := by decide +kernel
theorem dX7_offBy_27 : decode cX7_offBy 27 = .ok (.istore_n 3, 1) := by decide +kernel
theorem dX7_offBy_28 : decode cX7_offBy 28 = .ok (.iload_n 2, 1) := by decide +kernel
theorem dX7_offBy_29 : decode cX7_offBy 29 = .ok (.ldc 44, 2) := by decide +kernel
theorem dX7_offBy_31 : decode cX7_offBy 31 = .ok (.if_icmp .eq 9, 3) := by decide +kernel
theorem dX7_offBy_34 : decode cX7_offBy 34 = .ok (.iload_n 3, 1) := by decide +kernel
theorem dX7_offBy_35 : decode cX7_offBy 35 = .ok (.ldc 44, 2) := by decide +kernel
theorem dX7_offBy_37 : decode cX7_offBy 37 = .ok (.if_icmp .ne 6, 3) := by decide +kernel
theorem dX7_offBy_40 : decode cX7_offBy 40 = .ok (.ldc 44, 2) := by decide +kernel
theorem dX7_offBy_42 : decode cX7_offBy 42 = .ok (.ireturn, 1) := by decide +kernel
theorem dX7_offBy_43 : decode cX7_offBy 43 = .ok (.aload_n 0, 1) := by decide +kernel
theorem dX7_offBy_44 : decode cX7_offBy 44 = .ok (.getfield 18, 3) := by decide +kernel
theorem dX7_offBy_47 : decode cX7_offBy 47 = .ok (.iload_n 1, 1) := by decide +kernel
theorem dX7_offBy_48 : decode cX7_offBy 48 = .ok (.iaload, 1) := by decide +kernel
theorem dX7_offBy_49 : decode cX7_offBy 49 = .ok (.iload_n 3, 1) := by decide +kernel
theorem dX7_offBy_50 : decode cX7_offBy 50 = .ok (.iload_n 2, 1) := by decide +kernel
theorem dX7_offBy_51 : decode cX7_offBy 51 = .ok (.isub, 1) := by decide +kernel
theorem dX7_offBy_52 : decode cX7_offBy 52 = .ok (.isub, 1) := by decide +kernel
theorem dX7_offBy_53 : decode cX7_offBy 53 = .ok (.ireturn, 1) := by decide +kernel
theorem dX8_init_0 : decode cX8_init 0 = .ok (.aload_n 0, 1) := by decide +kernel
theorem dX8_init_1 : decode cX8_init 1 = .ok (.invokespecial 3, 3) := by decide +kernel
theorem dX8_init_4 : decode cX8_init 4 = .ok (.aload_n 0, 1) := by decide +kernel
theorem dX8_init_5 : decode cX8_init 5 = .ok (.new 9, 3) := by decide +kernel
theorem dX8_init_8 : decode cX8_init 8 = .ok (.dup, 1) := by decide +kernel
theorem dX8_init_9 : decode cX8_init 9 = .ok (.invokespecial 11, 3) := by decide +kernel
theorem dX8_init_12 : decode cX8_init 12 = .ok (.putfield 12, 3) := by decide +kernel
theorem dX8_init_15 : decode cX8_init 15 = .ok (.aload_n 0, 1) := by decide +kernel
theorem dX8_init_16 : decode cX8_init 16 = .ok (.new 16, 3) := by decide +kernel
theorem dX8_init_19 : decode cX8_init 19 = .ok (.dup, 1) := by decide +kernel
theorem dX8_init_20 : decode cX8_init 20 = .ok (.invokespecial 18, 3) := by decide +kernel
theorem dX8_init_23 : decode cX8_init 23 = .ok (.putfield 19, 3) := by decide +kernel
theorem dX8_init_26 : decode cX8_init 26 = .ok (.aload_n 0, 1) := by decide +kernel
theorem dX8_init_27 : decode cX8_init 27 = .ok (.new 23, 3) := by decide +kernel
theorem dX8_init_30 : decode cX8_init 30 = .ok (.dup, 1) := by decide +kernel
theorem dX8_init_31 : decode cX8_init 31 = .ok (.aload_n 0, 1) := by decide +kernel
theorem dX8_init_32 : decode cX8_init 32 = .ok (.getfield 19, 3) := by decide +kernel
theorem dX8_init_35 : decode cX8_init 35 = .ok (.invokespecial 25, 3) := by decide +kernel
theorem dX8_init_38 : decode cX8_init 38 = .ok (.putfield 28, 3) := by decide +kernel
theorem dX8_init_41 : decode cX8_init 41 = .ok (.aload_n 0, 1) := by decide +kernel
theorem dX8_init_42 : decode cX8_init 42 = .ok (.new 32, 3) := by decide +kernel
theorem dX8_init_45 : decode cX8_init 45 = .ok (.dup, 1) := by decide +kernel
theorem dX8_init_46 : decode cX8_init 46 = .ok (.invokespecial 34, 3) := by decide +kernel
theorem dX8_init_49 : decode cX8_init 49 = .ok (.putfield 35, 3) := by decide +kernel
theorem dX8_init_52 : decode cX8_init 52 = .ok (.aload_n 0, 1) := by decide +kernel
theorem dX8_init_53 : decode cX8_init 53 = .ok (.new 39, 3) := by decide +kernel
theorem dX8_init_56 : decode cX8_init 56 = .ok (.dup, 1) := by decide +kernel
theorem dX8_init_57 : decode cX8_init 57 = .ok (.aload_n 0, 1) := by decide +kernel
theorem dX8_init_58 : decode cX8_init 58 = .ok (.getfield 35, 3) := by decide +kernel
theorem dX8_init_61 : decode cX8_init 61 = .ok (.invokespecial 41, 3) := by decide +kernel
theorem dX8_init_64 : decode cX8_init 64 = .ok (.putfield 44, 3) := by decide +kernel
theorem dX8_init_67 : decode cX8_init 67 = .ok (.aload_n 0, 1) := by decide +kernel
theorem dX8_init_68 : decode cX8_init 68 = .ok (.new 48, 3) := by decide +kernel
theorem dX8_init_71 : decode cX8_init 71 = .ok (.dup, 1) := by decide +kernel
theorem dX8_init_72 : decode cX8_init 72 = .ok (.invokespecial 50, 3) := by decide +kernel
theorem dX8_init_75 : decode cX8_init 75 = .ok (.putfield 51, 3) := by decide +kernel
theorem dX8_init_78 : decode cX8_init 78 = .ok (.aload_n 0, 1) := by decide +kernel
theorem dX8_init_79 : decode cX8_init 79 = .ok (.new 55, 3) := by decide +kernel
theorem dX8_init_82 : decode cX8_init 82 = .ok (.dup, 1) := by decide +kernel
theorem dX8_init_83 : decode cX8_init 83 = .ok (.invokespecial 57, 3) := by decide +kernel
theorem dX8_init_86 : decode cX8_init 86 = .ok (.putfield 58, 3) := by decide +kernel
theorem dX8_init_89 : decode cX8_init 89 = .ok (.aload_n 0, 1) := by decide +kernel
theorem dX8_init_90 : decode cX8_init 90 = .ok (.new 62, 3) := by decide +kernel
theorem dX8_init_93 : decode cX8_init 93 = .ok (.dup, 1) := by decide +kernel
theorem dX8_init_94 : decode cX8_init 94 = .ok (.invokespecial 64, 3) := by decide +kernel
theorem dX8_init_97 : decode cX8_init 97 = .ok (.putfield 65, 3) := by decide +kernel
theorem dX8_init_100 : decode cX8_init 100 = .ok (.aload_n 0, 1) := by decide +kernel
theorem dX8_init_101 : decode cX8_init 101 = .ok (.bipush 8, 2) := by decide +kernel
theorem dX8_init_103 : decode cX8_init 103 = .ok (.putfield 69, 3) := by decide +kernel
theorem dX8_init_106 : decode cX8_init 106 = .ok (.return_, 1) := by decide +kernel
theorem dX8_disc_0 : decode cX8_disc 0 = .ok (.iload_n 1, 1) := by decide +kernel
theorem dX8_disc_1 : decode cX8_disc 1 = .ok (.iconst 4, 1) := by decide +kernel
theorem dX8_disc_2 : decode cX8_disc 2 = .ok (.bipush 16, 2) := by decide +kernel
theorem dX8_disc_4 : decode cX8_disc 4 = .ok (.invokestatic 73, 3) := by decide +kernel
theorem dX8_disc_7 : decode cX8_disc 7 = .ok (.ifCond .ne 5, 3) := by decide +kernel
theorem dX8_disc_10 : decode cX8_disc 10 = .ok (.iconst (-1), 1) := by decide +kernel
theorem dX8_disc_11 : decode cX8_disc 11 = .ok (.ireturn, 1) := by decide +kernel
theorem dX8_disc_12 : decode cX8_disc 12 = .ok (.aload_n 0, 1) := by decide +kernel
theorem dX8_disc_13 : decode cX8_disc 13 = .ok (.iload_n 1, 1) := by decide +kernel
theorem dX8_disc_14 : decode cX8_disc 14 = .ok (.putfield 69, 3) := by decide +kernel
theorem dX8_disc_17 : decode cX8_disc 17 = .ok (.aload_n 0, 1) := by decide +kernel
theorem dX8_disc_18 : decode cX8_disc 18 = .ok (.getfield 19, 3) := by decide +kernel
theorem dX8_disc_21 : decode cX8_disc 21 = .ok (.iload_n 1, 1) := by decide +kernel
theorem dX8_disc_22 : decode cX8_disc 22 = .ok (.invokevirtual 77, 3) := by decide +kernel
theorem dX8_disc_25 : decode cX8_disc 25 = .ok (.aload_n 0, 1) := by decide +kernel
theorem dX8_disc_26 : decode cX8_disc 26 = .ok (.getfield 28, 3) := by decide +kernel
theorem dX8_disc_29 : decode cX8_disc 29 = .ok (.invokevirtual 81, 3) := by decide +kernel
theorem dX8_disc_32 : decode cX8_disc 32 = .ok (.aload_n 0, 1) := by decide +kernel
theorem dX8_disc_33 : decode cX8_disc 33 = .ok (.getfield 35, 3) := by decide +kernel
theorem dX8_disc_36 : decode cX8_disc 36 = .ok (.iload_n 1, 1) := by decide +kernel
theorem dX8_disc_37 : decode cX8_disc 37 = .ok (.invokevirtual 83, 3) := by decide +kernel
theorem dX8_disc_40 : decode cX8_disc 40 = .ok (.aload_n 0, 1) := by decide +kernel
theorem dX8_disc_41 : decode cX8_disc 41 = .ok (.getfield 51, 3) := by decide +kernel
theorem dX8_disc_44 : decode cX8_disc 44 = .ok (.iload_n 1, 1) := by decide +kernel
theorem dX8_disc_45 : decode cX8_disc 45 = .ok (.invokevirtual 84, 3) := by decide +kernel
theorem dX8_disc_48 : decode cX8_disc 48 = .ok (.iload_n 1, 1) := by decide +kernel
theorem dX8_disc_49 : decode cX8_disc 49 = .ok (.ireturn, 1) := by decide +kernel
theorem dX8_aim_0 : decode cX8_aim 0 = .ok (.iload_n 1, 1) := by decide +kernel
theorem dX8_aim_1 : decode cX8_aim 1 = .ok (.bipush 100, 2) := by decide +kernel
theorem dX8_aim_3 : decode cX8_aim 3 = .ok (.sipush 5000, 3) := by decide +kernel
theorem dX8_aim_6 : decode cX8_aim 6 = .ok (.invokestatic 73, 3) := by decide +kernel
theorem dX8_aim_9 : decode cX8_aim 9 = .ok (.ifCond .eq 24, 3) := by decide +kernel
theorem dX8_aim_12 : decode cX8_aim 12 = .ok (.iload_n 2, 1) := by decide +kernel
theorem dX8_aim_13 : decode cX8_aim 13 = .ok (.bipush (-30), 2) := by decide +kernel
theorem dX8_aim_15 : decode cX8_aim 15 = .ok (.bipush 30, 2) := by decide +kernel
theorem dX8_aim_17 : decode cX8_aim 17 = .ok (.invokestatic 73, 3) := by decide +kernel
theorem dX8_aim_20 : decode cX8_aim 20 = .ok (.ifCond .eq 13, 3) := by decide +kernel
theorem dX8_aim_23 : decode cX8_aim 23 = .ok (.iload_n 3, 1) := by decide +kernel
theorem dX8_aim_24 : decode cX8_aim 24 = .ok (.iconst 1, 1) := by decide +kernel
theorem dX8_aim_25 : decode cX8_aim 25 = .ok (.bipush 10, 2) := by decide +kernel
theorem dX8_aim_27 : decode cX8_aim 27 = .ok (.invokestatic 73, 3) := by decide +kernel
theorem dX8_aim_30 : decode cX8_aim 30 = .ok (.ifCond .ne 5, 3) := by decide +kernel
theorem dX8_aim_33 : decode cX8_aim 33 = .ok (.iconst (-1), 1) := by decide +kernel
theorem dX8_aim_34 : decode cX8_aim 34 = .ok (.ireturn, 1) := by decide +kernel
theorem dX8_aim_35 : decode cX8_aim 35 = .ok (.aload_n 0, 1) := by decide +kernel
theorem dX8_aim_36 : decode cX8_aim 36 = .ok (.getfield 12, 3) := by decide +kernel
theorem dX8_aim_39 : decode cX8_aim 39 = .ok (.iload_n 1, 1) := by decide +kernel
theorem dX8_aim_40 : decode cX8_aim 40 = .ok (.iload_n 2, 1) := by decide +kernel
theorem dX8_aim_41 : decode cX8_aim 41 = .ok (.iload_n 3, 1) := by decide +kernel
theorem dX8_aim_42 : decode cX8_aim 42 = .ok (.invokevirtual 85, 3) := by decide +kernel
theorem dX8_aim_45 : decode cX8_aim 45 = .ok (.iconst 0, 1) := by decide +kernel
theorem dX8_aim_46 : decode cX8_aim 46 = .ok (.ireturn, 1) := by decide +kernel
theorem dX8_depth_0 : decode cX8_depth 0 = .ok (.iload_n 1, 1) := by decide +kernel
theorem dX8_depth_1 : decode cX8_depth 1 = .ok (.iconst 0, 1) := by decide +kernel
theorem dX8_depth_2 : decode cX8_depth 2 = .ok (.sipush 200, 3) := by decide +kernel
theorem dX8_depth_5 : decode cX8_depth 5 = .ok (.invokestatic 73, 3) := by decide +kernel
theorem dX8_depth_8 : decode cX8_depth 8 = .ok (.ifCond .eq 12, 3) := by decide +kernel
theorem dX8_depth_11 : decode cX8_depth 11 = .ok (.iload_n 2, 1) := by decide +kernel
theorem dX8_depth_12 : decode cX8_depth 12 = .ok (.iconst 0, 1) := by decide +kernel
theorem dX8_depth_13 : decode cX8_depth 13 = .ok (.iconst 1, 1) := by decide +kernel
theorem dX8_depth_14 : decode cX8_depth 14 = .ok (.invokestatic 73, 3) := by decide +kernel
theorem dX8_depth_17 : decode cX8_depth 17 = .ok (.ifCond .ne 7, 3) := by decide +kernel
theorem dX8_depth_20 : decode cX8_depth 20 = .ok (.ldc2_w 89, 3) := by decide +kernel
theorem dX8_depth_23 : decode cX8_depth 23 = .ok (.lreturn, 1) := by decide +kernel
theorem dX8_depth_24 : decode cX8_depth 24 = .ok (.aload_n 0, 1) := by decide +kernel
theorem dX8_depth_25 : decode cX8_depth 25 = .ok (.getfield 12, 3) := by decide +kernel
theorem dX8_depth_28 : decode cX8_depth 28 = .ok (.iload_n 1, 1) := by decide +kernel
theorem dX8_depth_29 : decode cX8_depth 29 = .ok (.iload_n 2, 1) := by decide +kernel
theorem dX8_depth_30 : decode cX8_depth 30 = .ok (.ifCond .ne 7, 3) := by decide +kernel
theorem dX8_depth_33 : decode cX8_depth 33 = .ok (.iconst 1, 1) := by decide +kernel
theorem dX8_depth_34 : decode cX8_depth 34 = .ok (.goto 4, 3) := by decide +kernel
theorem dX8_depth_37 : decode cX8_depth 37 = .ok (.iconst 0, 1) := by decide +kernel
theorem dX8_depth_38 : decode cX8_depth 38 = .ok (.invokevirtual 91, 3) := by decide +kernel
theorem dX8_depth_41 : decode cX8_depth 41 = .ok (.lreturn, 1) := by decide +kernel
theorem dX8_height_0 : decode cX8_height 0 = .ok (.aload_n 0, 1) := by decide +kernel
theorem dX8_height_1 : decode cX8_height 1 = .ok (.iload_n 1, 1) := by decide +kernel
theorem dX8_height_2 : decode cX8_height 2 = .ok (.invokevirtual 95, 3) := by decide +kernel
theorem dX8_height_5 : decode cX8_height 5 = .ok (.ifCond .eq 14, 3) := by decide +kernel
theorem dX8_height_8 : decode cX8_height 8 = .ok (.iload_n 2, 1) := by decide +kernel
theorem dX8_height_9 : decode cX8_height 9 = .ok (.ldc 99, 2) := by decide +kernel
theorem dX8_height_11 : decode cX8_height 11 = .ok (.ldc 100, 2) := by decide +kernel
theorem dX8_height_13 : decode cX8_height 13 = .ok (.invokestatic 73, 3) := by decide +kernel
theorem dX8_height_16 : decode cX8_height 16 = .ok (.ifCond .ne 6, 3) := by decide +kernel
theorem dX8_height_19 : decode cX8_height 19 = .ok (.ldc 101, 2) := by decide +kernel
theorem dX8_height_21 : decode cX8_height 21 = .ok (.ireturn, 1) := by decide +kernel
theorem dX8_height_22 : decode cX8_height 22 = .ok (.aload_n 0, 1) := by decide +kernel
theorem dX8_height_23 : decode cX8_height 23 = .ok (.getfield 35, 3) := by decide +kernel
theorem dX8_height_26 : decode cX8_height 26 = .ok (.iload_n 1, 1) := by decide +kernel
theorem dX8_height_27 : decode cX8_height 27 = .ok (.iload_n 2, 1) := by decide +kernel
theorem dX8_height_28 : decode cX8_height 28 = .ok (.invokevirtual 102, 3) := by decide +kernel
theorem dX8_height_31 : decode cX8_height 31 = .ok (.ireturn, 1) := by decide +kernel
theorem dX8_at_0 : decode cX8_at 0 = .ok (.aload_n 0, 1) := by decide +kernel
theorem dX8_at_1 : decode cX8_at 1 = .ok (.iload_n 1, 1) := by decide +kernel
theorem dX8_at_2 : decode cX8_at 2 = .ok (.invokevirtual 95, 3) := by decide +kernel
theorem dX8_at_5 : decode cX8_at 5 = .ok (.ifCond .eq 14, 3) := by decide +kernel
theorem dX8_at_8 : decode cX8_at 8 = .ok (.aload_n 0, 1) := by decide +kernel
theorem dX8_at_9 : decode cX8_at 9 = .ok (.getfield 35, 3) := by decide +kernel
theorem dX8_at_12 : decode cX8_at 12 = .ok (.iload_n 1, 1) := by decide +kernel
theorem dX8_at_13 : decode cX8_at 13 = .ok (.invokevirtual 106, 3) := by decide +kernel
theorem dX8_at_16 : decode cX8_at 16 = .ok (.goto 5, 3) := by decide +kernel
theorem dX8_at_19 : decode cX8_at 19 = .ok (.ldc 101, 2) := by decide +kernel
theorem dX8_at_21 : decode cX8_at 21 = .ok (.ireturn, 1) := by decide +kernel
theorem dX8_read_0 : decode cX8_read 0 = .ok (.iload_n 1, 1) := by decide +kernel
theorem dX8_read_1 : decode cX8_read 1 = .ok (.iconst 0, 1) := by decide +kernel
theorem dX8_read_2 : decode cX8_read 2 = .ok (.iconst 2, 1) := by decide +kernel
theorem dX8_read_3 : decode cX8_read 3 = .ok (.invokestatic 73, 3) := by decide +kernel
theorem dX8_read_6 : decode cX8_read 6 = .ok (.ifCond .eq 31, 3) := by decide +kernel
theorem dX8_read_9 : decode cX8_read 9 = .ok (.aload_n 0, 1) := by decide +kernel
theorem dX8_read_10 : decode cX8_read 10 = .ok (.iload_n 2, 1) := by decide +kernel
theorem dX8_read_11 : decode cX8_read 11 = .ok (.invokevirtual 110, 3) := by decide +kernel
theorem dX8_read_14 : decode cX8_read 14 = .ok (.ifCond .eq 23, 3) := by decide +kernel
theorem dX8_read_17 : decode cX8_read 17 = .ok (.iload_n 3, 1) := by decide +kernel
theorem dX8_read_18 : decode cX8_read 18 = .ok (.sipush 5000, 3) := by decide +kernel
theorem dX8_read_21 : decode cX8_read 21 = .ok (.if_icmp .eq 20, 3) := by decide +kernel
theorem dX8_read_24 : decode cX8_read 24 = .ok (.iload_n 3, 1) := by decide +kernel
theorem dX8_read_25 : decode cX8_read 25 = .ok (.sipush (-1000), 3) := by decide +kernel
theorem dX8_read_28 : decode cX8_read 28 = .ok (.sipush 1000, 3) := by decide +kernel
theorem dX8_read_31 : decode cX8_read 31 = .ok (.invokestatic 73, 3) := by decide +kernel
theorem dX8_read_34 : decode cX8_read 34 = .ok (.ifCond .ne 7, 3) := by decide +kernel
theorem dX8_read_37 : decode cX8_read 37 = .ok (.sipush 10000, 3) := by decide +kernel
theorem dX8_read_40 : decode cX8_read 40 = .ok (.ireturn, 1) := by decide +kernel
theorem dX8_read_41 : decode cX8_read 41 = .ok (.aload_n 0, 1) := by decide +kernel
theorem dX8_read_42 : decode cX8_read 42 = .ok (.getfield 19, 3) := by decide +kernel
theorem dX8_read_45 : decode cX8_read 45 = .ok (.iload_n 1, 1) := by decide +kernel
theorem dX8_read_46 : decode cX8_read 46 = .ok (.iload_n 2, 1) := by decide +kernel
theorem dX8_read_47 : decode cX8_read 47 = .ok (.iload_n 3, 1) := by decide +kernel
theorem dX8_read_48 : decode cX8_read 48 = .ok (.invokevirtual 113, 3) := by decide +kernel
theorem dX8_read_51 : decode cX8_read 51 = .ok (.ireturn, 1) := by decide +kernel
theorem dX8_lie_0 : decode cX8_lie 0 = .ok (.iload_n 1, 1) := by decide +kernel
theorem dX8_lie_1 : decode cX8_lie 1 = .ok (.iconst 0, 1) := by decide +kernel
theorem dX8_lie_2 : decode cX8_lie 2 = .ok (.bipush 50, 2) := by decide +kernel
theorem dX8_lie_4 : decode cX8_lie 4 = .ok (.invokestatic 73, 3) := by decide +kernel
theorem dX8_lie_7 : decode cX8_lie 7 = .ok (.ifCond .eq 14, 3) := by decide +kernel
theorem dX8_lie_10 : decode cX8_lie 10 = .ok (.aload_n 0, 1) := by decide +kernel
theorem dX8_lie_11 : decode cX8_lie 11 = .ok (.getfield 19, 3) := by decide +kernel
theorem dX8_lie_14 : decode cX8_lie 14 = .ok (.iload_n 1, 1) := by decide +kernel
theorem dX8_lie_15 : decode cX8_lie 15 = .ok (.invokevirtual 117, 3) := by decide +kernel
theorem dX8_lie_18 : decode cX8_lie 18 = .ok (.goto 4, 3) := by decide +kernel
theorem dX8_lie_21 : decode cX8_lie 21 = .ok (.iconst (-1), 1) := by decide +kernel
theorem dX8_lie_22 : decode cX8_lie 22 = .ok (.ireturn, 1) := by decide +kernel
theorem dX8_joined_0 : decode cX8_joined 0 = .ok (.iload_n 1, 1) := by decide +kernel
theorem dX8_joined_1 : decode cX8_joined 1 = .ok (.ifCond .ne 11, 3) := by decide +kernel
theorem dX8_joined_4 : decode cX8_joined 4 = .ok (.aload_n 0, 1) := by decide +kernel
theorem dX8_joined_5 : decode cX8_joined 5 = .ok (.getfield 19, 3) := by decide +kernel
theorem dX8_joined_8 : decode cX8_joined 8 = .ok (.invokevirtual 120, 3) := by decide +kernel
theorem dX8_joined_11 : decode cX8_joined 11 = .ok (.ireturn, 1) := by decide +kernel
theorem dX8_joined_12 : decode cX8_joined 12 = .ok (.iload_n 1, 1) := by decide +kernel
theorem dX8_joined_13 : decode cX8_joined 13 = .ok (.iconst 1, 1) := by decide +kernel
theorem dX8_joined_14 : decode cX8_joined 14 = .ok (.iconst 2, 1) := by decide +kernel
theorem dX8_joined_15 : decode cX8_joined 15 = .ok (.invokestatic 73, 3) := by decide +kernel
theorem dX8_joined_18 : decode cX8_joined 18 = .ok (.ifCond .eq 14, 3) := by decide +kernel
theorem dX8_joined_21 : decode cX8_joined 21 = .ok (.aload_n 0, 1) := by decide +kernel
theorem dX8_joined_22 : decode cX8_joined 22 = .ok (.getfield 19, 3) := by decide +kernel
theorem dX8_joined_25 : decode cX8_joined 25 = .ok (.iload_n 1, 1) := by decide +kernel
theorem dX8_joined_26 : decode cX8_joined 26 = .ok (.invokevirtual 124, 3) := by decide +kernel
theorem dX8_joined_29 : decode cX8_joined 29 = .ok (.goto 5, 3) := by decide +kernel
theorem dX8_joined_32 : decode cX8_joined 32 = .ok (.bipush (-100), 2) := by decide +kernel
theorem dX8_joined_34 : decode cX8_joined 34 = .ok (.ireturn, 1) := by decide +kernel
theorem dX8_step_0 : decode cX8_step 0 = .ok (.aload_n 0, 1) := by decide +kernel
theorem dX8_step_1 : decode cX8_step 1 = .ok (.iload_n 1, 1) := by decide +kernel
theorem dX8_step_2 : decode cX8_step 2 = .ok (.invokevirtual 110, 3) := by decide +kernel
theorem dX8_step_5 : decode cX8_step 5 = .ok (.ifCond .eq 14, 3) := by decide +kernel
theorem dX8_step_8 : decode cX8_step 8 = .ok (.aload_n 0, 1) := by decide +kernel
theorem dX8_step_9 : decode cX8_step 9 = .ok (.getfield 19, 3) := by decide +kernel
theorem dX8_step_12 : decode cX8_step 12 = .ok (.iload_n 1, 1) := by decide +kernel
theorem dX8_step_13 : decode cX8_step 13 = .ok (.invokevirtual 127, 3) := by decide +kernel
theorem dX8_step_16 : decode cX8_step 16 = .ok (.goto 6, 3) := by decide +kernel
theorem dX8_step_19 : decode cX8_step 19 = .ok (.sipush 10000, 3) := by decide +kernel
theorem dX8_step_22 : decode cX8_step 22 = .ok (.ireturn, 1) := by decide +kernel
theorem dX8_profile_0 : decode cX8_profile 0 = .ok (.aload_n 0, 1) := by decide +kernel
theorem dX8_profile_1 : decode cX8_profile 1 = .ok (.iload_n 1, 1) := by decide +kernel
theorem dX8_profile_2 : decode cX8_profile 2 = .ok (.invokevirtual 95, 3) := by decide +kernel
theorem dX8_profile_5 : decode cX8_profile 5 = .ok (.ifCond .eq 14, 3) := by decide +kernel
theorem dX8_profile_8 : decode cX8_profile 8 = .ok (.aload_n 0, 1) := by decide +kernel
theorem dX8_profile_9 : decode cX8_profile 9 = .ok (.getfield 19, 3) := by decide +kernel
theorem dX8_profile_12 : decode cX8_profile 12 = .ok (.iload_n 1, 1) := by decide +kernel
theorem dX8_profile_13 : decode cX8_profile 13 = .ok (.invokevirtual 130, 3) := by decide +kernel
theorem dX8_profile_16 : decode cX8_profile 16 = .ok (.goto 5, 3) := by decide +kernel
theorem dX8_profile_19 : decode cX8_profile 19 = .ok (.ldc 133, 2) := by decide +kernel
theorem dX8_profile_21 : decode cX8_profile 21 = .ok (.ireturn, 1) := by decide +kernel
theorem dX8_wire_0 : decode cX8_wire 0 = .ok (.aload_n 0, 1) := by decide +kernel
theorem dX8_wire_1 : decode cX8_wire 1 = .ok (.iload_n 1, 1) := by decide +kernel
theorem dX8_wire_2 : decode cX8_wire 2 = .ok (.invokevirtual 95, 3) := by decide +kernel
theorem dX8_wire_5 : decode cX8_wire 5 = .ok (.ifCond .eq 27, 3) := by decide +kernel
theorem dX8_wire_8 : decode cX8_wire 8 = .ok (.aload_n 0, 1) := by decide +kernel
theorem dX8_wire_9 : decode cX8_wire 9 = .ok (.iload_n 2, 1) := by decide +kernel
theorem dX8_wire_10 : decode cX8_wire 10 = .ok (.invokevirtual 95, 3) := by decide +kernel
theorem dX8_wire_13 : decode cX8_wire 13 = .ok (.ifCond .eq 19, 3) := by decide +kernel
theorem dX8_wire_16 : decode cX8_wire 16 = .ok (.iload_n 1, 1) := by decide +kernel
theorem dX8_wire_17 : decode cX8_wire 17 = .ok (.iload_n 2, 1) := by decide +kernel
theorem dX8_wire_18 : decode cX8_wire 18 = .ok (.if_icmp .ge 14, 3) := by decide +kernel
theorem dX8_wire_21 : decode cX8_wire 21 = .ok (.iload_n 3, 1) := by decide +kernel
theorem dX8_wire_22 : decode cX8_wire 22 = .ok (.ldc 99, 2) := by decide +kernel
theorem dX8_wire_24 : decode cX8_wire 24 = .ok (.ldc 100, 2) := by decide +kernel
theorem dX8_wire_26 : decode cX8_wire 26 = .ok (.invokestatic 73, 3) := by decide +kernel
theorem dX8_wire_29 : decode cX8_wire 29 = .ok (.ifCond .ne 5, 3) := by decide +kernel
theorem dX8_wire_32 : decode cX8_wire 32 = .ok (.iconst (-1), 1) := by decide +kernel
theorem dX8_wire_33 : decode cX8_wire 33 = .ok (.ireturn, 1) := by decide +kernel
theorem dX8_wire_34 : decode cX8_wire 34 = .ok (.aload_n 0, 1) := by decide +kernel
theorem dX8_wire_35 : decode cX8_wire 35 = .ok (.getfield 28, 3) := by decide +kernel
theorem dX8_wire_38 : decode cX8_wire 38 = .ok (.invokevirtual 134, 3) := by decide +kernel
theorem dX8_wire_41 : decode cX8_wire 41 = .ok (.bipush 12, 2) := by decide +kernel
theorem dX8_wire_43 : decode cX8_wire 43 = .ok (.if_icmp .ge 16, 3) := by decide +kernel
theorem dX8_wire_46 : decode cX8_wire 46 = .ok (.aload_n 0, 1) := by decide +kernel
theorem dX8_wire_47 : decode cX8_wire 47 = .ok (.getfield 28, 3) := by decide +kernel
theorem dX8_wire_50 : decode cX8_wire 50 = .ok (.iload_n 1, 1) := by decide +kernel
theorem dX8_wire_51 : decode cX8_wire 51 = .ok (.iload_n 2, 1) := by decide +kernel
theorem dX8_wire_52 : decode cX8_wire 52 = .ok (.iload_n 3, 1) := by decide +kernel
theorem dX8_wire_53 : decode cX8_wire 53 = .ok (.invokevirtual 137, 3) := by decide +kernel
theorem dX8_wire_56 : decode cX8_wire 56 = .ok (.goto 5, 3) := by decide +kernel
theorem dX8_wire_59 : decode cX8_wire 59 = .ok (.bipush (-3), 2) := by decide +kernel
theorem dX8_wire_61 : decode cX8_wire 61 = .ok (.ireturn, 1) := by decide +kernel
theorem dX8_wires_0 : decode cX8_wires 0 = .ok (.iload_n 1, 1) := by decide +kernel
theorem dX8_wires_1 : decode cX8_wires 1 = .ok (.iconst 0, 1) := by decide +kernel
theorem dX8_wires_2 : decode cX8_wires 2 = .ok (.iconst 2, 1) := by decide +kernel
theorem dX8_wires_3 : decode cX8_wires 3 = .ok (.invokestatic 73, 3) := by decide +kernel
theorem dX8_wires_6 : decode cX8_wires 6 = .ok (.ifCond .eq 12, 3) := by decide +kernel
theorem dX8_wires_9 : decode cX8_wires 9 = .ok (.aload_n 0, 1) := by decide +kernel
theorem dX8_wires_10 : decode cX8_wires 10 = .ok (.getfield 28, 3) := by decide +kernel
theorem dX8_wires_13 : decode cX8_wires 13 = .ok (.iload_n 1, 1) := by decide +kernel
theorem dX8_wires_14 : decode cX8_wires 14 = .ok (.invokevirtual 140, 3) := by decide +kernel
theorem dX8_wires_17 : decode cX8_wires 17 = .ok (.ireturn, 1) := by decide +kernel
theorem dX8_wires_18 : decode cX8_wires 18 = .ok (.iload_n 1, 1) := by decide +kernel
theorem dX8_wires_19 : decode cX8_wires 19 = .ok (.iconst 3, 1) := by decide +kernel
theorem dX8_wires_20 : decode cX8_wires 20 = .ok (.aload_n 0, 1) := by decide +kernel
theorem dX8_wires_21 : decode cX8_wires 21 = .ok (.getfield 28, 3) := by decide +kernel
theorem dX8_wires_24 : decode cX8_wires 24 = .ok (.invokevirtual 134, 3) := by decide +kernel
theorem dX8_wires_27 : decode cX8_wires 27 = .ok (.iconst 2, 1) := by decide +kernel
theorem dX8_wires_28 : decode cX8_wires 28 = .ok (.iadd, 1) := by decide +kernel
theorem dX8_wires_29 : decode cX8_wires 29 = .ok (.invokestatic 73, 3) := by decide +kernel
theorem dX8_wires_32 : decode cX8_wires 32 = .ok (.ifCond .eq 16, 3) := by decide +kernel
theorem dX8_wires_35 : decode cX8_wires 35 = .ok (.aload_n 0, 1) := by decide +kernel
theorem dX8_wires_36 : decode cX8_wires 36 = .ok (.getfield 28, 3) := by decide +kernel
theorem dX8_wires_39 : decode cX8_wires 39 = .ok (.iload_n 1, 1) := by decide +kernel
theorem dX8_wires_40 : decode cX8_wires 40 = .ok (.iconst 3, 1) := by decide +kernel
theorem dX8_wires_41 : decode cX8_wires 41 = .ok (.isub, 1) := by decide +kernel
theorem dX8_wires_42 : decode cX8_wires 42 = .ok (.invokevirtual 143, 3) := by decide +kernel
theorem dX8_wires_45 : decode cX8_wires 45 = .ok (.goto 5, 3) := by decide +kernel
theorem dX8_wires_48 : decode cX8_wires 48 = .ok (.ldc 133, 2) := by decide +kernel
theorem dX8_wires_50 : decode cX8_wires 50 = .ok (.ireturn, 1) := by decide +kernel
theorem dX8_pull_0 : decode cX8_pull 0 = .ok (.iload_n 1, 1) := by decide +kernel
theorem dX8_pull_1 : decode cX8_pull 1 = .ok (.invokestatic 146, 3) := by decide +kernel
theorem dX8_pull_4 : decode cX8_pull 4 = .ok (.ifCond .eq 23, 3) := by decide +kernel
theorem dX8_pull_7 : decode cX8_pull 7 = .ok (.iload_n 2, 1) := by decide +kernel
theorem dX8_pull_8 : decode cX8_pull 8 = .ok (.bipush (-2), 2) := by decide +kernel
theorem dX8_pull_10 : decode cX8_pull 10 = .ok (.iconst 2, 1) := by decide +kernel
theorem dX8_pull_11 : decode cX8_pull 11 = .ok (.invokestatic 73, 3) := by decide +kernel
theorem dX8_pull_14 : decode cX8_pull 14 = .ok (.ifCond .eq 13, 3) := by decide +kernel
theorem dX8_pull_17 : decode cX8_pull 17 = .ok (.iload_n 3, 1) := by decide +kernel
theorem dX8_pull_18 : decode cX8_pull 18 = .ok (.iconst 0, 1) := by decide +kernel
theorem dX8_pull_19 : decode cX8_pull 19 = .ok (.bipush 50, 2) := by decide +kernel
theorem dX8_pull_21 : decode cX8_pull 21 = .ok (.invokestatic 73, 3) := by decide +kernel
theorem dX8_pull_24 : decode cX8_pull 24 = .ok (.ifCond .ne 5, 3) := by decide +kernel
theorem dX8_pull_27 : decode cX8_pull 27 = .ok (.iconst (-1), 1) := by decide +kernel
theorem dX8_pull_28 : decode cX8_pull 28 = .ok (.ireturn, 1) := by decide +kernel
theorem dX8_pull_29 : decode cX8_pull 29 = .ok (.aload_n 0, 1) := by decide +kernel
theorem dX8_pull_30 : decode cX8_pull 30 = .ok (.getfield 35, 3) := by decide +kernel
theorem dX8_pull_33 : decode cX8_pull 33 = .ok (.iload_n 1, 1) := by decide +kernel
theorem dX8_pull_34 : decode cX8_pull 34 = .ok (.iload_n 2, 1) := by decide +kernel
theorem dX8_pull_35 : decode cX8_pull 35 = .ok (.iload_n 3, 1) := by decide +kernel
theorem dX8_pull_36 : decode cX8_pull 36 = .ok (.invokevirtual 149, 3) := by decide +kernel
theorem dX8_pull_39 : decode cX8_pull 39 = .ok (.ireturn, 1) := by decide +kernel
theorem dX8_rest_0 : decode cX8_rest 0 = .ok (.iload_n 1, 1) := by decide +kernel
theorem dX8_rest_1 : decode cX8_rest 1 = .ok (.iconst 0, 1) := by decide +kernel
theorem dX8_rest_2 : decode cX8_rest 2 = .ok (.sipush 10000, 3) := by decide +kernel
theorem dX8_rest_5 : decode cX8_rest 5 = .ok (.invokestatic 73, 3) := by decide +kernel
theorem dX8_rest_8 : decode cX8_rest 8 = .ok (.ifCond .eq 14, 3) := by decide +kernel
theorem dX8_rest_11 : decode cX8_rest 11 = .ok (.aload_n 0, 1) := by decide +kernel
theorem dX8_rest_12 : decode cX8_rest 12 = .ok (.getfield 35, 3) := by decide +kernel
theorem dX8_rest_15 : decode cX8_rest 15 = .ok (.iload_n 1, 1) := by decide +kernel
theorem dX8_rest_16 : decode cX8_rest 16 = .ok (.invokevirtual 152, 3) := by decide +kernel
theorem dX8_rest_19 : decode cX8_rest 19 = .ok (.goto 4, 3) := by decide +kernel
theorem dX8_rest_22 : decode cX8_rest 22 = .ok (.iconst (-1), 1) := by decide +kernel
theorem dX8_rest_23 : decode cX8_rest 23 = .ok (.ireturn, 1) := by decide +kernel
theorem dX8_stroke_0 : decode cX8_stroke 0 = .ok (.iload_n 1, 1) := by decide +kernel
theorem dX8_stroke_1 : decode cX8_stroke 1 = .ok (.invokestatic 146, 3) := by decide +kernel
theorem dX8_stroke_4 : decode cX8_stroke 4 = .ok (.ifCond .eq 21, 3) := by decide +kernel
theorem dX8_stroke_7 : decode cX8_stroke 7 = .ok (.aload_n 0, 1) := by decide +kernel
theorem dX8_stroke_8 : decode cX8_stroke 8 = .ok (.iload_n 2, 1) := by decide +kernel
theorem dX8_stroke_9 : decode cX8_stroke 9 = .ok (.invokevirtual 95, 3) := by decide +kernel
theorem dX8_stroke_12 : decode cX8_stroke 12 = .ok (.ifCond .eq 13, 3) := by decide +kernel
theorem dX8_stroke_15 : decode cX8_stroke 15 = .ok (.iload_n 3, 1) := by decide +kernel
theorem dX8_stroke_16 : decode cX8_stroke 16 = .ok (.iconst 1, 1) := by decide +kernel
theorem dX8_stroke_17 : decode cX8_stroke 17 = .ok (.bipush 20, 2) := by decide +kernel
theorem dX8_stroke_19 : decode cX8_stroke 19 = .ok (.invokestatic 73, 3) := by decide +kernel
theorem dX8_stroke_22 : decode cX8_stroke 22 = .ok (.ifCond .ne 6, 3) := by decide +kernel
theorem dX8_stroke_25 : decode cX8_stroke 25 = .ok (.ldc 101, 2) := by decide +kernel
theorem dX8_stroke_27 : decode cX8_stroke 27 = .ok (.ireturn, 1) := by decide +kernel
theorem dX8_stroke_28 : decode cX8_stroke 28 = .ok (.aload_n 0, 1) := by decide +kernel
theorem dX8_stroke_29 : decode cX8_stroke 29 = .ok (.getfield 35, 3) := by decide +kernel
theorem dX8_stroke_32 : decode cX8_stroke 32 = .ok (.iload_n 1, 1) := by decide +kernel
theorem dX8_stroke_33 : decode cX8_stroke 33 = .ok (.iload_n 2, 1) := by decide +kernel
theorem dX8_stroke_34 : decode cX8_stroke 34 = .ok (.iload_n 3, 1) := by decide +kernel
theorem dX8_stroke_35 : decode cX8_stroke 35 = .ok (.invokevirtual 155, 3) := by decide +kernel
theorem dX8_stroke_38 : decode cX8_stroke 38 = .ok (.ifCond .eq 6, 3) := by decide +kernel
theorem dX8_stroke_41 : decode cX8_stroke 41 = .ok (.ldc 158, 2) := by decide +kernel
theorem dX8_stroke_43 : decode cX8_stroke 43 = .ok (.ireturn, 1) := by decide +kernel
theorem dX8_stroke_44 : decode cX8_stroke 44 = .ok (.aload_n 0, 1) := by decide +kernel
theorem dX8_stroke_45 : decode cX8_stroke 45 = .ok (.getfield 35, 3) := by decide +kernel
theorem dX8_stroke_48 : decode cX8_stroke 48 = .ok (.invokevirtual 159, 3) := by decide +kernel
theorem dX8_stroke_51 : decode cX8_stroke 51 = .ok (.iconst 1, 1) := by decide +kernel
theorem dX8_stroke_52 : decode cX8_stroke 52 = .ok (.if_icmp .ge 6, 3) := by decide +kernel
theorem dX8_stroke_55 : decode cX8_stroke 55 = .ok (.ldc 162, 2) := by decide +kernel
theorem dX8_stroke_57 : decode cX8_stroke 57 = .ok (.ireturn, 1) := by decide +kernel
theorem dX8_stroke_58 : decode cX8_stroke 58 = .ok (.aload_n 0, 1) := by decide +kernel
theorem dX8_stroke_59 : decode cX8_stroke 59 = .ok (.getfield 35, 3) := by decide +kernel
theorem dX8_stroke_62 : decode cX8_stroke 62 = .ok (.iload_n 1, 1) := by decide +kernel
theorem dX8_stroke_63 : decode cX8_stroke 63 = .ok (.iload_n 2, 1) := by decide +kernel
theorem dX8_stroke_64 : decode cX8_stroke 64 = .ok (.iload_n 3, 1) := by decide +kernel
theorem dX8_stroke_65 : decode cX8_stroke 65 = .ok (.invokevirtual 163, 3) := by decide +kernel
theorem dX8_stroke_68 : decode cX8_stroke 68 = .ok (.aload_n 0, 1) := by decide +kernel
theorem dX8_stroke_69 : decode cX8_stroke 69 = .ok (.getfield 35, 3) := by decide +kernel
theorem dX8_stroke_72 : decode cX8_stroke 72 = .ok (.iload_n 2, 1) := by decide +kernel
theorem dX8_stroke_73 : decode cX8_stroke 73 = .ok (.invokevirtual 106, 3) := by decide +kernel
theorem dX8_stroke_76 : decode cX8_stroke 76 = .ok (.ireturn, 1) := by decide +kernel
theorem dX8_undo_0 : decode cX8_undo 0 = .ok (.aload_n 0, 1) := by decide +kernel
theorem dX8_undo_1 : decode cX8_undo 1 = .ok (.getfield 35, 3) := by decide +kernel
theorem dX8_undo_4 : decode cX8_undo 4 = .ok (.invokevirtual 166, 3) := by decide +kernel
theorem dX8_undo_7 : decode cX8_undo 7 = .ok (.ifCond .ne 6, 3) := by decide +kernel
theorem dX8_undo_10 : decode cX8_undo 10 = .ok (.bipush (-2), 2) := by decide +kernel
theorem dX8_undo_12 : decode cX8_undo 12 = .ok (.ireturn, 1) := by decide +kernel
theorem dX8_undo_13 : decode cX8_undo 13 = .ok (.aload_n 0, 1) := by decide +kernel
theorem dX8_undo_14 : decode cX8_undo 14 = .ok (.getfield 35, 3) := by decide +kernel
theorem dX8_undo_17 : decode cX8_undo 17 = .ok (.invokevirtual 167, 3) := by decide +kernel
theorem dX8_undo_20 : decode cX8_undo 20 = .ok (.aload_n 0, 1) := by decide +kernel
theorem dX8_undo_21 : decode cX8_undo 21 = .ok (.getfield 35, 3) := by decide +kernel
theorem dX8_undo_24 : decode cX8_undo 24 = .ok (.invokevirtual 166, 3) := by decide +kernel
theorem dX8_undo_27 : decode cX8_undo 27 = .ok (.ireturn, 1) := by decide +kernel
theorem dX8_replay_0 : decode cX8_replay 0 = .ok (.aload_n 0, 1) := by decide +kernel
theorem dX8_replay_1 : decode cX8_replay 1 = .ok (.iload_n 1, 1) := by decide +kernel
theorem dX8_replay_2 : decode cX8_replay 2 = .ok (.invokevirtual 95, 3) := by decide +kernel
theorem dX8_replay_5 : decode cX8_replay 5 = .ok (.ifCond .eq 18, 3) := by decide +kernel
theorem dX8_replay_8 : decode cX8_replay 8 = .ok (.iload_n 2, 1) := by decide +kernel
theorem dX8_replay_9 : decode cX8_replay 9 = .ok (.iconst 0, 1) := by decide +kernel
theorem dX8_replay_10 : decode cX8_replay 10 = .ok (.aload_n 0, 1) := by decide +kernel
theorem dX8_replay_11 : decode cX8_replay 11 = .ok (.getfield 35, 3) := by decide +kernel
theorem dX8_replay_14 : decode cX8_replay 14 = .ok (.invokevirtual 166, 3) := by decide +kernel
theorem dX8_replay_17 : decode cX8_replay 17 = .ok (.invokestatic 73, 3) := by decide +kernel
theorem dX8_replay_20 : decode cX8_replay 20 = .ok (.ifCond .ne 6, 3) := by decide +kernel
theorem dX8_replay_23 : decode cX8_replay 23 = .ok (.ldc 101, 2) := by decide +kernel
theorem dX8_replay_25 : decode cX8_replay 25 = .ok (.ireturn, 1) := by decide +kernel
theorem dX8_replay_26 : decode cX8_replay 26 = .ok (.aload_n 0, 1) := by decide +kernel
theorem dX8_replay_27 : decode cX8_replay 27 = .ok (.getfield 35, 3) := by decide +kernel
theorem dX8_replay_30 : decode cX8_replay 30 = .ok (.iload_n 1, 1) := by decide +kernel
theorem dX8_replay_31 : decode cX8_replay 31 = .ok (.iload_n 2, 1) := by decide +kernel
theorem dX8_replay_32 : decode cX8_replay 32 = .ok (.invokevirtual 170, 3) := by decide +kernel
theorem dX8_replay_35 : decode cX8_replay 35 = .ok (.ireturn, 1) := by decide +kernel
theorem dX8_plan_0 : decode cX8_plan 0 = .ok (.iload_n 1, 1) := by decide +kernel
theorem dX8_plan_1 : decode cX8_plan 1 = .ok (.invokestatic 146, 3) := by decide +kernel
theorem dX8_plan_4 : decode cX8_plan 4 = .ok (.ifCond .eq 16, 3) := by decide +kernel
theorem dX8_plan_7 : decode cX8_plan 7 = .ok (.iload_n 2, 1) := by decide +kernel
theorem dX8_plan_8 : decode cX8_plan 8 = .ok (.iconst (-1), 1) := by decide +kernel
theorem dX8_plan_9 : decode cX8_plan 9 = .ok (.if_icmp .eq 13, 3) := by decide +kernel
theorem dX8_plan_12 : decode cX8_plan 12 = .ok (.aload_n 0, 1) := by decide +kernel
theorem dX8_plan_13 : decode cX8_plan 13 = .ok (.iload_n 2, 1) := by decide +kernel
theorem dX8_plan_14 : decode cX8_plan 14 = .ok (.invokevirtual 95, 3) := by decide +kernel
theorem dX8_plan_17 : decode cX8_plan 17 = .ok (.ifCond .ne 5, 3) := by decide +kernel
theorem dX8_plan_20 : decode cX8_plan 20 = .ok (.iconst (-1), 1) := by decide +kernel
theorem dX8_plan_21 : decode cX8_plan 21 = .ok (.ireturn, 1) := by decide +kernel
theorem dX8_plan_22 : decode cX8_plan 22 = .ok (.aload_n 0, 1) := by decide +kernel
theorem dX8_plan_23 : decode cX8_plan 23 = .ok (.getfield 44, 3) := by decide +kernel
theorem dX8_plan_26 : decode cX8_plan 26 = .ok (.iload_n 1, 1) := by decide +kernel
theorem dX8_plan_27 : decode cX8_plan 27 = .ok (.invokevirtual 173, 3) := by decide +kernel
theorem dX8_plan_30 : decode cX8_plan 30 = .ok (.ifCond .ne 6, 3) := by decide +kernel
theorem dX8_plan_33 : decode cX8_plan 33 = .ok (.bipush (-4), 2) := by decide +kernel
theorem dX8_plan_35 : decode cX8_plan 35 = .ok (.ireturn, 1) := by decide +kernel
theorem dX8_plan_36 : decode cX8_plan 36 = .ok (.iload_n 2, 1) := by decide +kernel
theorem dX8_plan_37 : decode cX8_plan 37 = .ok (.iconst (-1), 1) := by decide +kernel
theorem dX8_plan_38 : decode cX8_plan 38 = .ok (.if_icmp .ne 14, 3) := by decide +kernel
theorem dX8_plan_41 : decode cX8_plan 41 = .ok (.aload_n 0, 1) := by decide +kernel
theorem dX8_plan_42 : decode cX8_plan 42 = .ok (.getfield 44, 3) := by decide +kernel
theorem dX8_plan_45 : decode cX8_plan 45 = .ok (.iload_n 1, 1) := by decide +kernel
theorem dX8_plan_46 : decode cX8_plan 46 = .ok (.invokevirtual 176, 3) := by decide +kernel
theorem dX8_plan_49 : decode cX8_plan 49 = .ok (.goto 12, 3) := by decide +kernel
theorem dX8_plan_52 : decode cX8_plan 52 = .ok (.aload_n 0, 1) := by decide +kernel
theorem dX8_plan_53 : decode cX8_plan 53 = .ok (.getfield 44, 3) := by decide +kernel
theorem dX8_plan_56 : decode cX8_plan 56 = .ok (.iload_n 1, 1) := by decide +kernel
theorem dX8_plan_57 : decode cX8_plan 57 = .ok (.iload_n 2, 1) := by decide +kernel
theorem dX8_plan_58 : decode cX8_plan 58 = .ok (.invokevirtual 179, 3) := by decide +kernel
theorem dX8_plan_61 : decode cX8_plan 61 = .ok (.ireturn, 1) := by decide +kernel
theorem dX8_right_0 : decode cX8_right 0 = .ok (.iload_n 1, 1) := by decide +kernel
theorem dX8_right_1 : decode cX8_right 1 = .ok (.invokestatic 146, 3) := by decide +kernel
theorem dX8_right_4 : decode cX8_right 4 = .ok (.ifCond .eq 14, 3) := by decide +kernel
theorem dX8_right_7 : decode cX8_right 7 = .ok (.aload_n 0, 1) := by decide +kernel
theorem dX8_right_8 : decode cX8_right 8 = .ok (.getfield 44, 3) := by decide +kernel
theorem dX8_right_11 : decode cX8_right 11 = .ok (.iload_n 1, 1) := by decide +kernel
theorem dX8_right_12 : decode cX8_right 12 = .ok (.invokevirtual 182, 3) := by decide +kernel
theorem dX8_right_15 : decode cX8_right 15 = .ok (.goto 4, 3) := by decide +kernel
theorem dX8_right_18 : decode cX8_right 18 = .ok (.iconst (-1), 1) := by decide +kernel
theorem dX8_right_19 : decode cX8_right 19 = .ok (.ireturn, 1) := by decide +kernel
theorem dX8_work_0 : decode cX8_work 0 = .ok (.iload_n 1, 1) := by decide +kernel
theorem dX8_work_1 : decode cX8_work 1 = .ok (.invokestatic 146, 3) := by decide +kernel
theorem dX8_work_4 : decode cX8_work 4 = .ok (.ifCond .ne 5, 3) := by decide +kernel
theorem dX8_work_7 : decode cX8_work 7 = .ok (.iconst (-1), 1) := by decide +kernel
theorem dX8_work_8 : decode cX8_work 8 = .ok (.ireturn, 1) := by decide +kernel
theorem dX8_work_9 : decode cX8_work 9 = .ok (.aload_n 0, 1) := by decide +kernel
theorem dX8_work_10 : decode cX8_work 10 = .ok (.getfield 44, 3) := by decide +kernel
theorem dX8_work_13 : decode cX8_work 13 = .ok (.iload_n 1, 1) := by decide +kernel
theorem dX8_work_14 : decode cX8_work 14 = .ok (.invokevirtual 173, 3) := by decide +kernel
theorem dX8_work_17 : decode cX8_work 17 = .ok (.ifCond .ne 6, 3) := by decide +kernel
theorem dX8_work_20 : decode cX8_work 20 = .ok (.bipush (-2), 2) := by decide +kernel
theorem dX8_work_22 : decode cX8_work 22 = .ok (.ireturn, 1) := by decide +kernel
theorem dX8_work_23 : decode cX8_work 23 = .ok (.aload_n 0, 1) := by decide +kernel
theorem dX8_work_24 : decode cX8_work 24 = .ok (.getfield 44, 3) := by decide +kernel
theorem dX8_work_27 : decode cX8_work 27 = .ok (.iload_n 1, 1) := by decide +kernel
theorem dX8_work_28 : decode cX8_work 28 = .ok (.invokevirtual 185, 3) := by decide +kernel
theorem dX8_work_31 : decode cX8_work 31 = .ok (.istore_n 2, 1) := by decide +kernel
theorem dX8_work_32 : decode cX8_work 32 = .ok (.iload_n 2, 1) := by decide +kernel
theorem dX8_work_33 : decode cX8_work 33 = .ok (.aload_n 0, 1) := by decide +kernel
theorem dX8_work_34 : decode cX8_work 34 = .ok (.getfield 35, 3) := by decide +kernel
theorem dX8_work_37 : decode cX8_work 37 = .ok (.invokevirtual 159, 3) := by decide +kernel
theorem dX8_work_40 : decode cX8_work 40 = .ok (.if_icmp .le 6, 3) := by decide +kernel
theorem dX8_work_43 : decode cX8_work 43 = .ok (.bipush (-3), 2) := by decide +kernel
theorem dX8_work_45 : decode cX8_work 45 = .ok (.ireturn, 1) := by decide +kernel
theorem dX8_work_46 : decode cX8_work 46 = .ok (.aload_n 0, 1) := by decide +kernel
theorem dX8_work_47 : decode cX8_work 47 = .ok (.getfield 44, 3) := by decide +kernel
theorem dX8_work_50 : decode cX8_work 50 = .ok (.iload_n 1, 1) := by decide +kernel
theorem dX8_work_51 : decode cX8_work 51 = .ok (.invokevirtual 188, 3) := by decide +kernel
theorem dX8_work_54 : decode cX8_work 54 = .ok (.iload_n 2, 1) := by decide +kernel
theorem dX8_work_55 : decode cX8_work 55 = .ok (.ireturn, 1) := by decide +kernel
theorem dX8_bend_0 : decode cX8_bend 0 = .ok (.iload_n 1, 1) := by decide +kernel
theorem dX8_bend_1 : decode cX8_bend 1 = .ok (.iconst 0, 1) := by decide +kernel
theorem dX8_bend_2 : decode cX8_bend 2 = .ok (.bipush 6, 2) := by decide +kernel
theorem dX8_bend_4 : decode cX8_bend 4 = .ok (.invokestatic 73, 3) := by decide +kernel
theorem dX8_bend_7 : decode cX8_bend 7 = .ok (.ifCond .eq 24, 3) := by decide +kernel
theorem dX8_bend_10 : decode cX8_bend 10 = .ok (.aload_n 0, 1) := by decide +kernel
theorem dX8_bend_11 : decode cX8_bend 11 = .ok (.iload_n 2, 1) := by decide +kernel
theorem dX8_bend_12 : decode cX8_bend 12 = .ok (.invokevirtual 95, 3) := by decide +kernel
theorem dX8_bend_15 : decode cX8_bend 15 = .ok (.ifCond .eq 16, 3) := by decide +kernel
theorem dX8_bend_18 : decode cX8_bend 18 = .ok (.iload_n 3, 1) := by decide +kernel
theorem dX8_bend_19 : decode cX8_bend 19 = .ok (.sipush (-500), 3) := by decide +kernel
theorem dX8_bend_22 : decode cX8_bend 22 = .ok (.sipush 500, 3) := by decide +kernel
theorem dX8_bend_25 : decode cX8_bend 25 = .ok (.invokestatic 73, 3) := by decide +kernel
theorem dX8_bend_28 : decode cX8_bend 28 = .ok (.ifCond .ne 7, 3) := by decide +kernel
theorem dX8_bend_31 : decode cX8_bend 31 = .ok (.sipush (-1000), 3) := by decide +kernel
theorem dX8_bend_34 : decode cX8_bend 34 = .ok (.ireturn, 1) := by decide +kernel
theorem dX8_bend_35 : decode cX8_bend 35 = .ok (.aload_n 0, 1) := by decide +kernel
theorem dX8_bend_36 : decode cX8_bend 36 = .ok (.getfield 51, 3) := by decide +kernel
theorem dX8_bend_39 : decode cX8_bend 39 = .ok (.iload_n 1, 1) := by decide +kernel
theorem dX8_bend_40 : decode cX8_bend 40 = .ok (.iload_n 2, 1) := by decide +kernel
theorem dX8_bend_41 : decode cX8_bend 41 = .ok (.iload_n 3, 1) := by decide +kernel
theorem dX8_bend_42 : decode cX8_bend 42 = .ok (.invokevirtual 191, 3) := by decide +kernel
theorem dX8_bend_45 : decode cX8_bend 45 = .ok (.ireturn, 1) := by decide +kernel
theorem dX8_bear_0 : decode cX8_bear 0 = .ok (.iload_n 1, 1) := by decide +kernel
theorem dX8_bear_1 : decode cX8_bear 1 = .ok (.iconst (-1), 1) := by decide +kernel
theorem dX8_bear_2 : decode cX8_bear 2 = .ok (.if_icmp .ne 11, 3) := by decide +kernel
theorem dX8_bear_5 : decode cX8_bear 5 = .ok (.aload_n 0, 1) := by decide +kernel
theorem dX8_bear_6 : decode cX8_bear 6 = .ok (.getfield 51, 3) := by decide +kernel
theorem dX8_bear_9 : decode cX8_bear 9 = .ok (.invokevirtual 194, 3) := by decide +kernel
theorem dX8_bear_12 : decode cX8_bear 12 = .ok (.ireturn, 1) := by decide +kernel
theorem dX8_bear_13 : decode cX8_bear 13 = .ok (.iload_n 1, 1) := by decide +kernel
theorem dX8_bear_14 : decode cX8_bear 14 = .ok (.iconst 0, 1) := by decide +kernel
theorem dX8_bear_15 : decode cX8_bear 15 = .ok (.iconst 5, 1) := by decide +kernel
theorem dX8_bear_16 : decode cX8_bear 16 = .ok (.invokestatic 73, 3) := by decide +kernel
theorem dX8_bear_19 : decode cX8_bear 19 = .ok (.ifCond .eq 14, 3) := by decide +kernel
theorem dX8_bear_22 : decode cX8_bear 22 = .ok (.aload_n 0, 1) := by decide +kernel
theorem dX8_bear_23 : decode cX8_bear 23 = .ok (.getfield 51, 3) := by decide +kernel
theorem dX8_bear_26 : decode cX8_bear 26 = .ok (.iload_n 1, 1) := by decide +kernel
theorem dX8_bear_27 : decode cX8_bear 27 = .ok (.invokevirtual 197, 3) := by decide +kernel
theorem dX8_bear_30 : decode cX8_bear 30 = .ok (.goto 4, 3) := by decide +kernel
theorem dX8_bear_33 : decode cX8_bear 33 = .ok (.iconst (-1), 1) := by decide +kernel
theorem dX8_bear_34 : decode cX8_bear 34 = .ok (.ireturn, 1) := by decide +kernel
theorem dX8_warm_0 : decode cX8_warm 0 = .ok (.iload_n 1, 1) := by decide +kernel
theorem dX8_warm_1 : decode cX8_warm 1 = .ok (.iconst 0, 1) := by decide +kernel
theorem dX8_warm_2 : decode cX8_warm 2 = .ok (.bipush 8, 2) := by decide +kernel
theorem dX8_warm_4 : decode cX8_warm 4 = .ok (.invokestatic 73, 3) := by decide +kernel
theorem dX8_warm_7 : decode cX8_warm 7 = .ok (.ifCond .eq 14, 3) := by decide +kernel
theorem dX8_warm_10 : decode cX8_warm 10 = .ok (.iload_n 2, 1) := by decide +kernel
theorem dX8_warm_11 : decode cX8_warm 11 = .ok (.ldc 99, 2) := by decide +kernel
theorem dX8_warm_13 : decode cX8_warm 13 = .ok (.ldc 100, 2) := by decide +kernel
theorem dX8_warm_15 : decode cX8_warm 15 = .ok (.invokestatic 73, 3) := by decide +kernel
theorem dX8_warm_18 : decode cX8_warm 18 = .ok (.ifCond .ne 6, 3) := by decide +kernel
theorem dX8_warm_21 : decode cX8_warm 21 = .ok (.ldc 101, 2) := by decide +kernel
theorem dX8_warm_23 : decode cX8_warm 23 = .ok (.ireturn, 1) := by decide +kernel
theorem dX8_warm_24 : decode cX8_warm 24 = .ok (.aload_n 0, 1) := by decide +kernel
theorem dX8_warm_25 : decode cX8_warm 25 = .ok (.getfield 58, 3) := by decide +kernel
theorem dX8_warm_28 : decode cX8_warm 28 = .ok (.iload_n 1, 1) := by decide +kernel
theorem dX8_warm_29 : decode cX8_warm 29 = .ok (.iload_n 2, 1) := by decide +kernel
theorem dX8_warm_30 : decode cX8_warm 30 = .ok (.invokevirtual 200, 3) := by decide +kernel
theorem dX8_warm_33 : decode cX8_warm 33 = .ok (.ireturn, 1) := by decide +kernel
theorem dX8_cool_0 : decode cX8_cool 0 = .ok (.iload_n 1, 1) := by decide +kernel
theorem dX8_cool_1 : decode cX8_cool 1 = .ok (.iconst 1, 1) := by decide +kernel
theorem dX8_cool_2 : decode cX8_cool 2 = .ok (.sipush 1000, 3) := by decide +kernel
theorem dX8_cool_5 : decode cX8_cool 5 = .ok (.invokestatic 73, 3) := by decide +kernel
theorem dX8_cool_8 : decode cX8_cool 8 = .ok (.ifCond .eq 14, 3) := by decide +kernel
theorem dX8_cool_11 : decode cX8_cool 11 = .ok (.aload_n 0, 1) := by decide +kernel
theorem dX8_cool_12 : decode cX8_cool 12 = .ok (.getfield 58, 3) := by decide +kernel
theorem dX8_cool_15 : decode cX8_cool 15 = .ok (.iload_n 1, 1) := by decide +kernel
theorem dX8_cool_16 : decode cX8_cool 16 = .ok (.invokevirtual 203, 3) := by decide +kernel
theorem dX8_cool_19 : decode cX8_cool 19 = .ok (.goto 4, 3) := by decide +kernel
theorem dX8_cool_22 : decode cX8_cool 22 = .ok (.iconst (-1), 1) := by decide +kernel
theorem dX8_cool_23 : decode cX8_cool 23 = .ok (.ireturn, 1) := by decide +kernel
theorem dX8_still_0 : decode cX8_still 0 = .ok (.iload_n 1, 1) := by decide +kernel
theorem dX8_still_1 : decode cX8_still 1 = .ok (.iconst 0, 1) := by decide +kernel
theorem dX8_still_2 : decode cX8_still 2 = .ok (.ldc 100, 2) := by decide +kernel
theorem dX8_still_4 : decode cX8_still 4 = .ok (.invokestatic 73, 3) := by decide +kernel
theorem dX8_still_7 : decode cX8_still 7 = .ok (.ifCond .eq 14, 3) := by decide +kernel
theorem dX8_still_10 : decode cX8_still 10 = .ok (.aload_n 0, 1) := by decide +kernel
theorem dX8_still_11 : decode cX8_still 11 = .ok (.getfield 58, 3) := by decide +kernel
theorem dX8_still_14 : decode cX8_still 14 = .ok (.iload_n 1, 1) := by decide +kernel
theorem dX8_still_15 : decode cX8_still 15 = .ok (.invokevirtual 206, 3) := by decide +kernel
theorem dX8_still_18 : decode cX8_still 18 = .ok (.goto 4, 3) := by decide +kernel
theorem dX8_still_21 : decode cX8_still 21 = .ok (.iconst (-1), 1) := by decide +kernel
theorem dX8_still_22 : decode cX8_still 22 = .ok (.ireturn, 1) := by decide +kernel
theorem dX8_warmth_0 : decode cX8_warmth 0 = .ok (.iload_n 1, 1) := by decide +kernel
theorem dX8_warmth_1 : decode cX8_warmth 1 = .ok (.iconst 0, 1) := by decide +kernel
theorem dX8_warmth_2 : decode cX8_warmth 2 = .ok (.bipush 8, 2) := by decide +kernel
theorem dX8_warmth_4 : decode cX8_warmth 4 = .ok (.invokestatic 73, 3) := by decide +kernel
theorem dX8_warmth_7 : decode cX8_warmth 7 = .ok (.ifCond .eq 14, 3) := by decide +kernel
theorem dX8_warmth_10 : decode cX8_warmth 10 = .ok (.aload_n 0, 1) := by decide +kernel
theorem dX8_warmth_11 : decode cX8_warmth 11 = .ok (.getfield 58, 3) := by decide +kernel
theorem dX8_warmth_14 : decode cX8_warmth 14 = .ok (.iload_n 1, 1) := by decide +kernel
theorem dX8_warmth_15 : decode cX8_warmth 15 = .ok (.invokevirtual 209, 3) := by decide +kernel
theorem dX8_warmth_18 : decode cX8_warmth 18 = .ok (.goto 5, 3) := by decide +kernel
theorem dX8_warmth_21 : decode cX8_warmth 21 = .ok (.ldc 101, 2) := by decide +kernel
theorem dX8_warmth_23 : decode cX8_warmth 23 = .ok (.ireturn, 1) := by decide +kernel
theorem dX8_grit_0 : decode cX8_grit 0 = .ok (.iload_n 1, 1) := by decide +kernel
theorem dX8_grit_1 : decode cX8_grit 1 = .ok (.iconst 1, 1) := by decide +kernel
theorem dX8_grit_2 : decode cX8_grit 2 = .ok (.bipush 100, 2) := by decide +kernel
theorem dX8_grit_4 : decode cX8_grit 4 = .ok (.invokestatic 73, 3) := by decide +kernel
theorem dX8_grit_7 : decode cX8_grit 7 = .ok (.ifCond .eq 14, 3) := by decide +kernel
theorem dX8_grit_10 : decode cX8_grit 10 = .ok (.iload_n 2, 1) := by decide +kernel
theorem dX8_grit_11 : decode cX8_grit 11 = .ok (.iconst 0, 1) := by decide +kernel
theorem dX8_grit_12 : decode cX8_grit 12 = .ok (.sipush 200, 3) := by decide +kernel
theorem dX8_grit_15 : decode cX8_grit 15 = .ok (.invokestatic 73, 3) := by decide +kernel
theorem dX8_grit_18 : decode cX8_grit 18 = .ok (.ifCond .ne 5, 3) := by decide +kernel
theorem dX8_grit_21 : decode cX8_grit 21 = .ok (.iconst (-1), 1) := by decide +kernel
theorem dX8_grit_22 : decode cX8_grit 22 = .ok (.ireturn, 1) := by decide +kernel
theorem dX8_grit_23 : decode cX8_grit 23 = .ok (.aload_n 0, 1) := by decide +kernel
theorem dX8_grit_24 : decode cX8_grit 24 = .ok (.getfield 65, 3) := by decide +kernel
theorem dX8_grit_27 : decode cX8_grit 27 = .ok (.invokevirtual 212, 3) := by decide +kernel
theorem dX8_grit_30 : decode cX8_grit 30 = .ok (.bipush 6, 2) := by decide +kernel
theorem dX8_grit_32 : decode cX8_grit 32 = .ok (.if_icmp .ge 15, 3) := by decide +kernel
theorem dX8_grit_35 : decode cX8_grit 35 = .ok (.aload_n 0, 1) := by decide +kernel
theorem dX8_grit_36 : decode cX8_grit 36 = .ok (.getfield 65, 3) := by decide +kernel
theorem dX8_grit_39 : decode cX8_grit 39 = .ok (.iload_n 1, 1) := by decide +kernel
theorem dX8_grit_40 : decode cX8_grit 40 = .ok (.iload_n 2, 1) := by decide +kernel
theorem dX8_grit_41 : decode cX8_grit 41 = .ok (.invokevirtual 213, 3) := by decide +kernel
theorem dX8_grit_44 : decode cX8_grit 44 = .ok (.goto 5, 3) := by decide +kernel
theorem dX8_grit_47 : decode cX8_grit 47 = .ok (.bipush (-3), 2) := by decide +kernel
theorem dX8_grit_49 : decode cX8_grit 49 = .ok (.ireturn, 1) := by decide +kernel
theorem dX8_slack_0 : decode cX8_slack 0 = .ok (.iload_n 1, 1) := by decide +kernel
theorem dX8_slack_1 : decode cX8_slack 1 = .ok (.iconst 0, 1) := by decide +kernel
theorem dX8_slack_2 : decode cX8_slack 2 = .ok (.bipush 100, 2) := by decide +kernel
theorem dX8_slack_4 : decode cX8_slack 4 = .ok (.invokestatic 73, 3) := by decide +kernel
theorem dX8_slack_7 : decode cX8_slack 7 = .ok (.ifCond .eq 14, 3) := by decide +kernel
theorem dX8_slack_10 : decode cX8_slack 10 = .ok (.aload_n 0, 1) := by decide +kernel
theorem dX8_slack_11 : decode cX8_slack 11 = .ok (.getfield 65, 3) := by decide +kernel
theorem dX8_slack_14 : decode cX8_slack 14 = .ok (.iload_n 1, 1) := by decide +kernel
theorem dX8_slack_15 : decode cX8_slack 15 = .ok (.invokevirtual 216, 3) := by decide +kernel
theorem dX8_slack_18 : decode cX8_slack 18 = .ok (.goto 4, 3) := by decide +kernel
theorem dX8_slack_21 : decode cX8_slack 21 = .ok (.iconst (-1), 1) := by decide +kernel
theorem dX8_slack_22 : decode cX8_slack 22 = .ok (.ireturn, 1) := by decide +kernel
theorem dX8_wets_0 : decode cX8_wets 0 = .ok (.iload_n 1, 1) := by decide +kernel
theorem dX8_wets_1 : decode cX8_wets 1 = .ok (.iconst 1, 1) := by decide +kernel
theorem dX8_wets_2 : decode cX8_wets 2 = .ok (.sipush 2000, 3) := by decide +kernel
theorem dX8_wets_5 : decode cX8_wets 5 = .ok (.invokestatic 73, 3) := by decide +kernel
theorem dX8_wets_8 : decode cX8_wets 8 = .ok (.ifCond .eq 20, 3) := by decide +kernel
theorem dX8_wets_11 : decode cX8_wets 11 = .ok (.iload_n 2, 1) := by decide +kernel
theorem dX8_wets_12 : decode cX8_wets 12 = .ok (.iconst (-1), 1) := by decide +kernel
theorem dX8_wets_13 : decode cX8_wets 13 = .ok (.aload_n 0, 1) := by decide +kernel
theorem dX8_wets_14 : decode cX8_wets 14 = .ok (.getfield 65, 3) := by decide +kernel
theorem dX8_wets_17 : decode cX8_wets 17 = .ok (.invokevirtual 212, 3) := by decide +kernel
theorem dX8_wets_20 : decode cX8_wets 20 = .ok (.iconst 1, 1) := by decide +kernel
theorem dX8_wets_21 : decode cX8_wets 21 = .ok (.isub, 1) := by decide +kernel
theorem dX8_wets_22 : decode cX8_wets 22 = .ok (.invokestatic 73, 3) := by decide +kernel
theorem dX8_wets_25 : decode cX8_wets 25 = .ok (.ifCond .ne 5, 3) := by decide +kernel
theorem dX8_wets_28 : decode cX8_wets 28 = .ok (.iconst (-1), 1) := by decide +kernel
theorem dX8_wets_29 : decode cX8_wets 29 = .ok (.ireturn, 1) := by decide +kernel
theorem dX8_wets_30 : decode cX8_wets 30 = .ok (.iload_n 2, 1) := by decide +kernel
theorem dX8_wets_31 : decode cX8_wets 31 = .ok (.iconst (-1), 1) := by decide +kernel
theorem dX8_wets_32 : decode cX8_wets 32 = .ok (.if_icmp .ne 14, 3) := by decide +kernel
theorem dX8_wets_35 : decode cX8_wets 35 = .ok (.aload_n 0, 1) := by decide +kernel
theorem dX8_wets_36 : decode cX8_wets 36 = .ok (.getfield 65, 3) := by decide +kernel
theorem dX8_wets_39 : decode cX8_wets 39 = .ok (.iload_n 1, 1) := by decide +kernel
theorem dX8_wets_40 : decode cX8_wets 40 = .ok (.invokevirtual 219, 3) := by decide +kernel
theorem dX8_wets_43 : decode cX8_wets 43 = .ok (.goto 12, 3) := by decide +kernel
theorem dX8_wets_46 : decode cX8_wets 46 = .ok (.aload_n 0, 1) := by decide +kernel
theorem dX8_wets_47 : decode cX8_wets 47 = .ok (.getfield 65, 3) := by decide +kernel
theorem dX8_wets_50 : decode cX8_wets 50 = .ok (.iload_n 1, 1) := by decide +kernel
theorem dX8_wets_51 : decode cX8_wets 51 = .ok (.iload_n 2, 1) := by decide +kernel
theorem dX8_wets_52 : decode cX8_wets 52 = .ok (.invokevirtual 222, 3) := by decide +kernel
theorem dX8_wets_55 : decode cX8_wets 55 = .ok (.ireturn, 1) := by decide +kernel
theorem dX8_count_0 : decode cX8_count 0 = .ok (.iload_n 1, 1) := by decide +kernel
theorem dX8_count_1 : decode cX8_count 1 = .ok (.tableswitch 84 0 5 #[39, 44, 52, 60, 68, 76], 39) := by decide +kernel
theorem dX8_count_40 : decode cX8_count 40 = .ok (.aload_n 0, 1) := by decide +kernel
theorem dX8_count_41 : decode cX8_count 41 = .ok (.getfield 69, 3) := by decide +kernel
theorem dX8_count_44 : decode cX8_count 44 = .ok (.ireturn, 1) := by decide +kernel
theorem dX8_count_45 : decode cX8_count 45 = .ok (.aload_n 0, 1) := by decide +kernel
theorem dX8_count_46 : decode cX8_count 46 = .ok (.getfield 19, 3) := by decide +kernel
theorem dX8_count_49 : decode cX8_count 49 = .ok (.invokevirtual 225, 3) := by decide +kernel
theorem dX8_count_52 : decode cX8_count 52 = .ok (.ireturn, 1) := by decide +kernel
theorem dX8_count_53 : decode cX8_count 53 = .ok (.aload_n 0, 1) := by decide +kernel
theorem dX8_count_54 : decode cX8_count 54 = .ok (.getfield 28, 3) := by decide +kernel
theorem dX8_count_57 : decode cX8_count 57 = .ok (.invokevirtual 134, 3) := by decide +kernel
theorem dX8_count_60 : decode cX8_count 60 = .ok (.ireturn, 1) := by decide +kernel
theorem dX8_count_61 : decode cX8_count 61 = .ok (.aload_n 0, 1) := by decide +kernel
theorem dX8_count_62 : decode cX8_count 62 = .ok (.getfield 35, 3) := by decide +kernel
theorem dX8_count_65 : decode cX8_count 65 = .ok (.invokevirtual 166, 3) := by decide +kernel
theorem dX8_count_68 : decode cX8_count 68 = .ok (.ireturn, 1) := by decide +kernel
theorem dX8_count_69 : decode cX8_count 69 = .ok (.aload_n 0, 1) := by decide +kernel
theorem dX8_count_70 : decode cX8_count 70 = .ok (.getfield 35, 3) := by decide +kernel
theorem dX8_count_73 : decode cX8_count 73 = .ok (.invokevirtual 228, 3) := by decide +kernel
theorem dX8_count_76 : decode cX8_count 76 = .ok (.ireturn, 1) := by decide +kernel
theorem dX8_count_77 : decode cX8_count 77 = .ok (.aload_n 0, 1) := by decide +kernel
theorem dX8_count_78 : decode cX8_count 78 = .ok (.getfield 65, 3) := by decide +kernel
theorem dX8_count_81 : decode cX8_count 81 = .ok (.invokevirtual 212, 3) := by decide +kernel
theorem dX8_count_84 : decode cX8_count 84 = .ok (.ireturn, 1) := by decide +kernel
theorem dX8_count_85 : decode cX8_count 85 = .ok (.iconst (-1), 1) := by decide +kernel
theorem dX8_count_86 : decode cX8_count 86 = .ok (.ireturn, 1) := by decide +kernel
theorem dX8_within_0 : decode cX8_within 0 = .ok (.iload_n 0, 1) := by decide +kernel
theorem dX8_within_1 : decode cX8_within 1 = .ok (.iload_n 1, 1) := by decide +kernel
theorem dX8_within_2 : decode cX8_within 2 = .ok (.if_icmp .lt 12, 3) := by decide +kernel
theorem dX8_within_5 : decode cX8_within 5 = .ok (.iload_n 0, 1) := by decide +kernel
theorem dX8_within_6 : decode cX8_within 6 = .ok (.iload_n 2, 1) := by decide +kernel
theorem dX8_within_7 : decode cX8_within 7 = .ok (.if_icmp .gt 7, 3) := by decide +kernel
theorem dX8_within_10 : decode cX8_within 10 = .ok (.iconst 1, 1) := by decide +kernel
theorem dX8_within_11 : decode cX8_within 11 = .ok (.goto 4, 3) := by decide +kernel
theorem dX8_within_14 : decode cX8_within 14 = .ok (.iconst 0, 1) := by decide +kernel
theorem dX8_within_15 : decode cX8_within 15 = .ok (.ireturn, 1) := by decide +kernel
theorem dX8_isTool_0 : decode cX8_isTool 0 = .ok (.iload_n 0, 1) := by decide +kernel
theorem dX8_isTool_1 : decode cX8_isTool 1 = .ok (.iconst 0, 1) := by decide +kernel
theorem dX8_isTool_2 : decode cX8_isTool 2 = .ok (.iconst 2, 1) := by decide +kernel
theorem dX8_isTool_3 : decode cX8_isTool 3 = .ok (.invokestatic 73, 3) := by decide +kernel
theorem dX8_isTool_6 : decode cX8_isTool 6 = .ok (.ireturn, 1) := by decide +kernel
theorem dX8_isZone_0 : decode cX8_isZone 0 = .ok (.iload_n 1, 1) := by decide +kernel
theorem dX8_isZone_1 : decode cX8_isZone 1 = .ok (.iconst 0, 1) := by decide +kernel
theorem dX8_isZone_2 : decode cX8_isZone 2 = .ok (.aload_n 0, 1) := by decide +kernel
theorem dX8_isZone_3 : decode cX8_isZone 3 = .ok (.getfield 69, 3) := by decide +kernel
theorem dX8_isZone_6 : decode cX8_isZone 6 = .ok (.iconst 1, 1) := by decide +kernel
theorem dX8_isZone_7 : decode cX8_isZone 7 = .ok (.isub, 1) := by decide +kernel
theorem dX8_isZone_8 : decode cX8_isZone 8 = .ok (.invokestatic 73, 3) := by decide +kernel
theorem dX8_isZone_11 : decode cX8_isZone 11 = .ok (.ireturn, 1) := by decide +kernel
theorem dX8_isStep_0 : decode cX8_isStep 0 = .ok (.iload_n 1, 1) := by decide +kernel
theorem dX8_isStep_1 : decode cX8_isStep 1 = .ok (.iconst 0, 1) := by decide +kernel
theorem dX8_isStep_2 : decode cX8_isStep 2 = .ok (.aload_n 0, 1) := by decide +kernel
theorem dX8_isStep_3 : decode cX8_isStep 3 = .ok (.getfield 69, 3) := by decide +kernel
theorem dX8_isStep_6 : decode cX8_isStep 6 = .ok (.iconst 2, 1) := by decide +kernel
theorem dX8_isStep_7 : decode cX8_isStep 7 = .ok (.isub, 1) := by decide +kernel
theorem dX8_isStep_8 : decode cX8_isStep 8 = .ok (.invokestatic 73, 3) := by decide +kernel
theorem dX8_isStep_11 : decode cX8_isStep 11 = .ok (.ireturn, 1) := by decide +kernel
theorem dX9_init_0 : decode cX9_init 0 = .ok (.aload_n 0, 1) := by decide +kernel
theorem dX9_init_1 : decode cX9_init 1 = .ok (.invokespecial 1, 3) := by decide +kernel
theorem dX9_init_4 : decode cX9_init 4 = .ok (.aload_n 0, 1) := by decide +kernel
theorem dX9_init_5 : decode cX9_init 5 = .ok (.bipush 8, 2) := by decide +kernel
theorem dX9_init_7 : decode cX9_init 7 = .ok (.putfield 7, 3) := by decide +kernel
theorem dX9_init_10 : decode cX9_init 10 = .ok (.aload_n 0, 1) := by decide +kernel
theorem dX9_init_11 : decode cX9_init 11 = .ok (.bipush 16, 2) := by decide +kernel
theorem dX9_init_13 : decode cX9_init 13 = .ok (.newarray .int, 2) := by decide +kernel
theorem dX9_init_15 : decode cX9_init 15 = .ok (.putfield 13, 3) := by decide +kernel
theorem dX9_init_18 : decode cX9_init 18 = .ok (.aload_n 0, 1) := by decide +kernel
theorem dX9_init_19 : decode cX9_init 19 = .ok (.bipush 16, 2) := by decide +kernel
theorem dX9_init_21 : decode cX9_init 21 = .ok (.newarray .int, 2) := by decide +kernel
theorem dX9_init_23 : decode cX9_init 23 = .ok (.putfield 17, 3) := by decide +kernel
theorem dX9_init_26 : decode cX9_init 26 = .ok (.aload_n 0, 1) := by decide +kernel
theorem dX9_init_27 : decode cX9_init 27 = .ok (.sipush 1000, 3) := by decide +kernel
theorem dX9_init_30 : decode cX9_init 30 = .ok (.putfield 20, 3) := by decide +kernel
theorem dX9_init_33 : decode cX9_init 33 = .ok (.aload_n 0, 1) := by decide +kernel
theorem dX9_init_34 : decode cX9_init 34 = .ok (.iconst (-1), 1) := by decide +kernel
theorem dX9_init_35 : decode cX9_init 35 = .ok (.putfield 23, 3) := by decide +kernel
theorem dX9_init_38 : decode cX9_init 38 = .ok (.aload_n 0, 1) := by decide +kernel
theorem dX9_init_39 : decode cX9_init 39 = .ok (.iconst 1, 1) := by decide +kernel
theorem dX9_init_40 : decode cX9_init 40 = .ok (.putfield 26, 3) := by decide +kernel
theorem dX9_init_43 : decode cX9_init 43 = .ok (.aload_n 0, 1) := by decide +kernel
theorem dX9_init_44 : decode cX9_init 44 = .ok (.bipush 45, 2) := by decide +kernel
theorem dX9_init_46 : decode cX9_init 46 = .ok (.newarray .int, 2) := by decide +kernel
theorem dX9_init_48 : decode cX9_init 48 = .ok (.putfield 29, 3) := by decide +kernel
theorem dX9_init_51 : decode cX9_init 51 = .ok (.aload_n 0, 1) := by decide +kernel
theorem dX9_init_52 : decode cX9_init 52 = .ok (.iconst 2, 1) := by decide +kernel
theorem dX9_init_53 : decode cX9_init 53 = .ok (.putfield 32, 3) := by decide +kernel
theorem dX9_init_56 : decode cX9_init 56 = .ok (.aload_n 0, 1) := by decide +kernel
theorem dX9_init_57 : decode cX9_init 57 = .ok (.bipush 12, 2) := by decide +kernel
theorem dX9_init_59 : decode cX9_init 59 = .ok (.newarray .int, 2) := by decide +kernel
theorem dX9_init_61 : decode cX9_init 61 = .ok (.putfield 35, 3) := by decide +kernel
theorem dX9_init_64 : decode cX9_init 64 = .ok (.aload_n 0, 1) := by decide +kernel
theorem dX9_init_65 : decode cX9_init 65 = .ok (.bipush 12, 2) := by decide +kernel
theorem dX9_init_67 : decode cX9_init 67 = .ok (.newarray .int, 2) := by decide +kernel
theorem dX9_init_69 : decode cX9_init 69 = .ok (.putfield 38, 3) := by decide +kernel
theorem dX9_init_72 : decode cX9_init 72 = .ok (.aload_n 0, 1) := by decide +kernel
theorem dX9_init_73 : decode cX9_init 73 = .ok (.bipush 12, 2) := by decide +kernel
theorem dX9_init_75 : decode cX9_init 75 = .ok (.newarray .int, 2) := by decide +kernel
theorem dX9_init_77 : decode cX9_init 77 = .ok (.putfield 41, 3) := by decide +kernel
theorem dX9_init_80 : decode cX9_init 80 = .ok (.aload_n 0, 1) := by decide +kernel
theorem dX9_init_81 : decode cX9_init 81 = .ok (.bipush 15, 2) := by decide +kernel
theorem dX9_init_83 : decode cX9_init 83 = .ok (.newarray .int, 2) := by decide +kernel
theorem dX9_init_85 : decode cX9_init 85 = .ok (.putfield 44, 3) := by decide +kernel
theorem dX9_init_88 : decode cX9_init 88 = .ok (.aload_n 0, 1) := by decide +kernel
theorem dX9_init_89 : decode cX9_init 89 = .ok (.bipush 10, 2) := by decide +kernel
theorem dX9_init_91 : decode cX9_init 91 = .ok (.putfield 47, 3) := by decide +kernel
theorem dX9_init_94 : decode cX9_init 94 = .ok (.aload_n 0, 1) := by decide +kernel
theorem dX9_init_95 : decode cX9_init 95 = .ok (.bipush 60, 2) := by decide +kernel
theorem dX9_init_97 : decode cX9_init 97 = .ok (.newarray .int, 2) := by decide +kernel
theorem dX9_init_99 : decode cX9_init 99 = .ok (.putfield 50, 3) := by decide +kernel
theorem dX9_init_102 : decode cX9_init 102 = .ok (.aload_n 0, 1) := by decide +kernel
theorem dX9_init_103 : decode cX9_init 103 = .ok (.bipush 60, 2) := by decide +kernel
theorem dX9_init_105 : decode cX9_init 105 = .ok (.newarray .int, 2) := by decide +kernel
theorem dX9_init_107 : decode cX9_init 107 = .ok (.putfield 53, 3) := by decide +kernel
theorem dX9_init_110 : decode cX9_init 110 = .ok (.aload_n 0, 1) := by decide +kernel
theorem dX9_init_111 : decode cX9_init 111 = .ok (.bipush 60, 2) := by decide +kernel
theorem dX9_init_113 : decode cX9_init 113 = .ok (.newarray .int, 2) := by decide +kernel
theorem dX9_init_115 : decode cX9_init 115 = .ok (.putfield 56, 3) := by decide +kernel
theorem dX9_init_118 : decode cX9_init 118 = .ok (.aload_n 0, 1) := by decide +kernel
theorem dX9_init_119 : decode cX9_init 119 = .ok (.sipush 300, 3) := by decide +kernel
theorem dX9_init_122 : decode cX9_init 122 = .ok (.newarray .int, 2) := by decide +kernel
theorem dX9_init_124 : decode cX9_init 124 = .ok (.putfield 59, 3) := by decide +kernel
theorem dX9_init_127 : decode cX9_init 127 = .ok (.aload_n 0, 1) := by decide +kernel
theorem dX9_init_128 : decode cX9_init 128 = .ok (.bipush 112, 2) := by decide +kernel
theorem dX9_init_130 : decode cX9_init 130 = .ok (.newarray .int, 2) := by decide +kernel
theorem dX9_init_132 : decode cX9_init 132 = .ok (.putfield 62, 3) := by decide +kernel
theorem dX9_init_135 : decode cX9_init 135 = .ok (.aload_n 0, 1) := by decide +kernel
theorem dX9_init_136 : decode cX9_init 136 = .ok (.bipush 9, 2) := by decide +kernel
theorem dX9_init_138 : decode cX9_init 138 = .ok (.newarray .int, 2) := by decide +kernel
theorem dX9_init_140 : decode cX9_init 140 = .ok (.putfield 65, 3) := by decide +kernel
theorem dX9_init_143 : decode cX9_init 143 = .ok (.aload_n 0, 1) := by decide +kernel
theorem dX9_init_144 : decode cX9_init 144 = .ok (.bipush 6, 2) := by decide +kernel
theorem dX9_init_146 : decode cX9_init 146 = .ok (.newarray .int, 2) := by decide +kernel
theorem dX9_init_148 : decode cX9_init 148 = .ok (.putfield 68, 3) := by decide +kernel
theorem dX9_init_151 : decode cX9_init 151 = .ok (.aload_n 0, 1) := by decide +kernel
theorem dX9_init_152 : decode cX9_init 152 = .ok (.bipush 6, 2) := by decide +kernel
theorem dX9_init_154 : decode cX9_init 154 = .ok (.newarray .int, 2) := by decide +kernel
theorem dX9_init_156 : decode cX9_init 156 = .ok (.putfield 71, 3) := by decide +kernel
theorem dX9_init_159 : decode cX9_init 159 = .ok (.aload_n 0, 1) := by decide +kernel
theorem dX9_init_160 : decode cX9_init 160 = .ok (.iconst 3, 1) := by decide +kernel
theorem dX9_init_161 : decode cX9_init 161 = .ok (.newarray .int, 2) := by decide +kernel
theorem dX9_init_163 : decode cX9_init 163 = .ok (.putfield 74, 3) := by decide +kernel
theorem dX9_init_166 : decode cX9_init 166 = .ok (.aload_n 0, 1) := by decide +kernel
theorem dX9_init_167 : decode cX9_init 167 = .ok (.iconst 3, 1) := by decide +kernel
theorem dX9_init_168 : decode cX9_init 168 = .ok (.newarray .int, 2) := by decide +kernel
theorem dX9_init_170 : decode cX9_init 170 = .ok (.putfield 77, 3) := by decide +kernel
theorem dX9_init_173 : decode cX9_init 173 = .ok (.aload_n 0, 1) := by decide +kernel
theorem dX9_init_174 : decode cX9_init 174 = .ok (.sipush 24624, 3) := by decide +kernel
theorem dX9_init_177 : decode cX9_init 177 = .ok (.newarray .int, 2) := by decide +kernel
theorem dX9_init_179 : decode cX9_init 179 = .ok (.putfield 80, 3) := by decide +kernel
theorem dX9_init_182 : decode cX9_init 182 = .ok (.aload_n 0, 1) := by decide +kernel
theorem dX9_init_183 : decode cX9_init 183 = .ok (.bipush 16, 2) := by decide +kernel
theorem dX9_init_185 : decode cX9_init 185 = .ok (.newarray .int, 2) := by decide +kernel
theorem dX9_init_187 : decode cX9_init 187 = .ok (.putfield 83, 3) := by decide +kernel
theorem dX9_init_190 : decode cX9_init 190 = .ok (.aload_n 0, 1) := by decide +kernel
theorem dX9_init_191 : decode cX9_init 191 = .ok (.sipush 2592, 3) := by decide +kernel
theorem dX9_init_194 : decode cX9_init 194 = .ok (.newarray .boolean, 2) := by decide +kernel
theorem dX9_init_196 : decode cX9_init 196 = .ok (.putfield 86, 3) := by decide +kernel
theorem dX9_init_199 : decode cX9_init 199 = .ok (.aload_n 0, 1) := by decide +kernel
theorem dX9_init_200 : decode cX9_init 200 = .ok (.bipush 6, 2) := by decide +kernel
theorem dX9_init_202 : decode cX9_init 202 = .ok (.newarray .int, 2) := by decide +kernel
theorem dX9_init_204 : decode cX9_init 204 = .ok (.putfield 90, 3) := by decide +kernel
theorem dX9_init_207 : decode cX9_init 207 = .ok (.aload_n 0, 1) := by decide +kernel
theorem dX9_init_208 : decode cX9_init 208 = .ok (.bipush 6, 2) := by decide +kernel
theorem dX9_init_210 : decode cX9_init 210 = .ok (.newarray .int, 2) := by decide +kernel
theorem dX9_init_212 : decode cX9_init 212 = .ok (.putfield 93, 3) := by decide +kernel
theorem dX9_init_215 : decode cX9_init 215 = .ok (.aload_n 0, 1) := by decide +kernel
theorem dX9_init_216 : decode cX9_init 216 = .ok (.bipush 10, 2) := by decide +kernel
theorem dX9_init_218 : decode cX9_init 218 = .ok (.newarray .int, 2) := by decide +kernel
theorem dX9_init_220 : decode cX9_init 220 = .ok (.putfield 96, 3) := by decide +kernel
theorem dX9_init_223 : decode cX9_init 223 = .ok (.aload_n 0, 1) := by decide +kernel
theorem dX9_init_224 : decode cX9_init 224 = .ok (.bipush 9, 2) := by decide +kernel
theorem dX9_init_226 : decode cX9_init 226 = .ok (.newarray .int, 2) := by decide +kernel
theorem dX9_init_228 : decode cX9_init 228 = .ok (.putfield 99, 3) := by decide +kernel
theorem dX9_init_231 : decode cX9_init 231 = .ok (.aload_n 0, 1) := by decide +kernel
theorem dX9_init_232 : decode cX9_init 232 = .ok (.ldc 102, 2) := by decide +kernel
theorem dX9_init_234 : decode cX9_init 234 = .ok (.newarray .int, 2) := by decide +kernel
theorem dX9_init_236 : decode cX9_init 236 = .ok (.putfield 103, 3) := by decide +kernel
theorem dX9_init_239 : decode cX9_init 239 = .ok (.aload_n 0, 1) := by decide +kernel
theorem dX9_init_240 : decode cX9_init 240 = .ok (.bipush 8, 2) := by decide +kernel
theorem dX9_init_242 : decode cX9_init 242 = .ok (.invokevirtual 106, 3) := by decide +kernel
theorem dX9_init_245 : decode cX9_init 245 = .ok (.return_, 1) := by decide +kernel
theorem dX9_in_0 : decode cX9_in 0 = .ok (.iload_n 0, 1) := by decide +kernel
theorem dX9_in_1 : decode cX9_in 1 = .ok (.iload_n 1, 1) := by decide +kernel
theorem dX9_in_2 : decode cX9_in 2 = .ok (.if_icmp .lt 12, 3) := by decide +kernel
theorem dX9_in_5 : decode cX9_in 5 = .ok (.iload_n 0, 1) := by decide +kernel
theorem dX9_in_6 : decode cX9_in 6 = .ok (.iload_n 2, 1) := by decide +kernel
theorem dX9_in_7 : decode cX9_in 7 = .ok (.if_icmp .gt 7, 3) := by decide +kernel
theorem dX9_in_10 : decode cX9_in 10 = .ok (.iconst 1, 1) := by decide +kernel
theorem dX9_in_11 : decode cX9_in 11 = .ok (.goto 4, 3) := by decide +kernel
theorem dX9_in_14 : decode cX9_in 14 = .ok (.iconst 0, 1) := by decide +kernel
theorem dX9_in_15 : decode cX9_in 15 = .ok (.ireturn, 1) := by decide +kernel
theorem dX9_size_0 : decode cX9_size 0 = .ok (.iload_n 0, 1) := by decide +kernel
theorem dX9_size_1 : decode cX9_size 1 = .ok (.ifCond .ge 8, 3) := by decide +kernel
theorem dX9_size_4 : decode cX9_size 4 = .ok (.iload_n 0, 1) := by decide +kernel
theorem dX9_size_5 : decode cX9_size 5 = .ok (.ineg, 1) := by decide +kernel
theorem dX9_size_6 : decode cX9_size 6 = .ok (.goto 4, 3) := by decide +kernel
theorem dX9_size_9 : decode cX9_size 9 = .ok (.iload_n 0, 1) := by decide +kernel
theorem dX9_size_10 : decode cX9_size 10 = .ok (.ireturn, 1) := by decide +kernel
theorem dX9_begins_0 : decode cX9_begins 0 = .ok (.aload_n 0, 1) := by decide +kernel
theorem dX9_begins_1 : decode cX9_begins 1 = .ok (.iload_n 1, 1) := by decide +kernel
theorem dX9_begins_2 : decode cX9_begins 2 = .ok (.putfield 7, 3) := by decide +kernel
theorem dX9_begins_5 : decode cX9_begins 5 = .ok (.iconst 0, 1) := by decide +kernel
theorem dX9_begins_6 : decode cX9_begins 6 = .ok (.istore_n 2, 1) := by decide +kernel
theorem dX9_begins_7 : decode cX9_begins 7 = .ok (.iload_n 2, 1) := by decide +kernel
theorem dX9_begins_8 : decode cX9_begins 8 = .ok (.bipush 16, 2) := by decide +kernel
theorem dX9_begins_10 : decode cX9_begins 10 = .ok (.if_icmp .ge 23, 3) := by decide +kernel
theorem dX9_begins_13 : decode cX9_begins 13 = .ok (.aload_n 0, 1) := by decide +kernel
theorem dX9_begins_14 : decode cX9_begins 14 = .ok (.getfield 13, 3) := by decide +kernel
theorem dX9_begins_17 : decode cX9_begins 17 = .ok (.iload_n 2, 1) := by decide +kernel
theorem dX9_begins_18 : decode cX9_begins 18 = .ok (.iconst 0, 1) := by decide +kernel
theorem dX9_begins_19 : decode cX9_begins 19 = .ok (.iastore, 1) := by decide +kernel
theorem dX9_begins_20 : decode cX9_begins 20 = .ok (.aload_n 0, 1) := by decide +kernel
theorem dX9_begins_21 : decode cX9_begins 21 = .ok (.getfield 17, 3) := by decide +kernel
theorem dX9_begins_24 : decode cX9_begins 24 = .ok (.iload_n 2, 1) := by decide +kernel
theorem dX9_begins_25 : decode cX9_begins 25 = .ok (.iconst 0, 1) := by decide +kernel
theorem dX9_begins_26 : decode cX9_begins 26 = .ok (.iastore, 1) := by decide +kernel
theorem dX9_begins_27 : decode cX9_begins 27 = .ok (.iinc 2 1, 3) := by decide +kernel
theorem dX9_begins_30 : decode cX9_begins 30 = .ok (.goto (-23), 3) := by decide +kernel
theorem dX9_begins_33 : decode cX9_begins 33 = .ok (.iconst 0, 1) := by decide +kernel
theorem dX9_begins_34 : decode cX9_begins 34 = .ok (.istore_n 2, 1) := by decide +kernel
theorem dX9_begins_35 : decode cX9_begins 35 = .ok (.iload_n 2, 1) := by decide +kernel
theorem dX9_begins_36 : decode cX9_begins 36 = .ok (.bipush 45, 2) := by decide +kernel
theorem dX9_begins_38 : decode cX9_begins 38 = .ok (.if_icmp .ge 18, 3) := by decide +kernel
theorem dX9_begins_41 : decode cX9_begins 41 = .ok (.aload_n 0, 1) := by decide +kernel
theorem dX9_begins_42 : decode cX9_begins 42 = .ok (.getfield 29, 3) := by decide +kernel
theorem dX9_begins_45 : decode cX9_begins 45 = .ok (.iload_n 2, 1) := by decide +kernel
theorem dX9_begins_46 : decode cX9_begins 46 = .ok (.sipush 5000, 3) := by decide +kernel
theorem dX9_begins_49 : decode cX9_begins 49 = .ok (.iastore, 1) := by decide +kernel
theorem dX9_begins_50 : decode cX9_begins 50 = .ok (.iinc 2 1, 3) := by decide +kernel
theorem dX9_begins_53 : decode cX9_begins 53 = .ok (.goto (-18), 3) := by decide +kernel
theorem dX9_begins_56 : decode cX9_begins 56 = .ok (.iconst 0, 1) := by decide +kernel
theorem dX9_begins_57 : decode cX9_begins 57 = .ok (.istore_n 2, 1) := by decide +kernel
theorem dX9_begins_58 : decode cX9_begins 58 = .ok (.iload_n 2, 1) := by decide +kernel
theorem dX9_begins_59 : decode cX9_begins 59 = .ok (.bipush 112, 2) := by decide +kernel
theorem dX9_begins_61 : decode cX9_begins 61 = .ok (.if_icmp .ge 16, 3) := by decide +kernel
theorem dX9_begins_64 : decode cX9_begins 64 = .ok (.aload_n 0, 1) := by decide +kernel
theorem dX9_begins_65 : decode cX9_begins 65 = .ok (.getfield 62, 3) := by decide +kernel
theorem dX9_begins_68 : decode cX9_begins 68 = .ok (.iload_n 2, 1) := by decide +kernel
theorem dX9_begins_69 : decode cX9_begins 69 = .ok (.iconst 0, 1) := by decide +kernel
theorem dX9_begins_70 : decode cX9_begins 70 = .ok (.iastore, 1) := by decide +kernel
theorem dX9_begins_71 : decode cX9_begins 71 = .ok (.iinc 2 1, 3) := by decide +kernel
theorem dX9_begins_74 : decode cX9_begins 74 = .ok (.goto (-16), 3) := by decide +kernel
theorem dX9_begins_77 : decode cX9_begins 77 = .ok (.aload_n 0, 1) := by decide +kernel
theorem dX9_begins_78 : decode cX9_begins 78 = .ok (.iconst 0, 1) := by decide +kernel
theorem dX9_begins_79 : decode cX9_begins 79 = .ok (.putfield 110, 3) := by decide +kernel
theorem dX9_begins_82 : decode cX9_begins 82 = .ok (.aload_n 0, 1) := by decide +kernel
theorem dX9_begins_83 : decode cX9_begins 83 = .ok (.iconst 0, 1) := by decide +kernel
theorem dX9_begins_84 : decode cX9_begins 84 = .ok (.putfield 113, 3) := by decide +kernel
theorem dX9_begins_87 : decode cX9_begins 87 = .ok (.return_, 1) := by decide +kernel
theorem dX9_disc_0 : decode cX9_disc 0 = .ok (.iload_n 1, 1) := by decide +kernel
theorem dX9_disc_1 : decode cX9_disc 1 = .ok (.iconst 4, 1) := by decide +kernel
theorem dX9_disc_2 : decode cX9_disc 2 = .ok (.bipush 16, 2) := by decide +kernel
theorem dX9_disc_4 : decode cX9_disc 4 = .ok (.invokestatic 116, 3) := by decide +kernel
theorem dX9_disc_7 : decode cX9_disc 7 = .ok (.ifCond .ne 5, 3) := by decide +kernel
theorem dX9_disc_10 : decode cX9_disc 10 = .ok (.iconst (-1), 1) := by decide +kernel
theorem dX9_disc_11 : decode cX9_disc 11 = .ok (.ireturn, 1) := by decide +kernel
theorem dX9_disc_12 : decode cX9_disc 12 = .ok (.aload_n 0, 1) := by decide +kernel
theorem dX9_disc_13 : decode cX9_disc 13 = .ok (.iload_n 1, 1) := by decide +kernel
theorem dX9_disc_14 : decode cX9_disc 14 = .ok (.invokevirtual 106, 3) := by decide +kernel
theorem dX9_disc_17 : decode cX9_disc 17 = .ok (.aload_n 0, 1) := by decide +kernel
theorem dX9_disc_18 : decode cX9_disc 18 = .ok (.getfield 7, 3) := by decide +kernel
theorem dX9_disc_21 : decode cX9_disc 21 = .ok (.ireturn, 1) := by decide +kernel
theorem dX9_aim_0 : decode cX9_aim 0 = .ok (.iload_n 1, 1) := by decide +kernel
theorem dX9_aim_1 : decode cX9_aim 1 = .ok (.bipush 100, 2) := by decide +kernel
theorem dX9_aim_3 : decode cX9_aim 3 = .ok (.sipush 5000, 3) := by decide +kernel
theorem dX9_aim_6 : decode cX9_aim 6 = .ok (.invokestatic 116, 3) := by decide +kernel
theorem dX9_aim_9 : decode cX9_aim 9 = .ok (.ifCond .eq 24, 3) := by decide +kernel
theorem dX9_aim_12 : decode cX9_aim 12 = .ok (.iload_n 2, 1) := by decide +kernel
theorem dX9_aim_13 : decode cX9_aim 13 = .ok (.bipush (-30), 2) := by decide +kernel
theorem dX9_aim_15 : decode cX9_aim 15 = .ok (.bipush 30, 2) := by decide +kernel
theorem dX9_aim_17 : decode cX9_aim 17 = .ok (.invokestatic 116, 3) := by decide +kernel
theorem dX9_aim_20 : decode cX9_aim 20 = .ok (.ifCond .eq 13, 3) := by decide +kernel
theorem dX9_aim_23 : decode cX9_aim 23 = .ok (.iload_n 3, 1) := by decide +kernel
theorem dX9_aim_24 : decode cX9_aim 24 = .ok (.iconst 1, 1) := by decide +kernel
theorem dX9_aim_25 : decode cX9_aim 25 = .ok (.bipush 10, 2) := by decide +kernel
theorem dX9_aim_27 : decode cX9_aim 27 = .ok (.invokestatic 116, 3) := by decide +kernel
theorem dX9_aim_30 : decode cX9_aim 30 = .ok (.ifCond .ne 5, 3) := by decide +kernel
theorem dX9_aim_33 : decode cX9_aim 33 = .ok (.iconst (-1), 1) := by decide +kernel
theorem dX9_aim_34 : decode cX9_aim 34 = .ok (.ireturn, 1) := by decide +kernel
theorem dX9_aim_35 : decode cX9_aim 35 = .ok (.aload_n 0, 1) := by decide +kernel
theorem dX9_aim_36 : decode cX9_aim 36 = .ok (.iload_n 1, 1) := by decide +kernel
theorem dX9_aim_37 : decode cX9_aim 37 = .ok (.putfield 20, 3) := by decide +kernel
theorem dX9_aim_40 : decode cX9_aim 40 = .ok (.aload_n 0, 1) := by decide +kernel
theorem dX9_aim_41 : decode cX9_aim 41 = .ok (.iload_n 2, 1) := by decide +kernel
theorem dX9_aim_42 : decode cX9_aim 42 = .ok (.putfield 23, 3) := by decide +kernel
theorem dX9_aim_45 : decode cX9_aim 45 = .ok (.aload_n 0, 1) := by decide +kernel
theorem dX9_aim_46 : decode cX9_aim 46 = .ok (.iload_n 3, 1) := by decide +kernel
theorem dX9_aim_47 : decode cX9_aim 47 = .ok (.putfield 26, 3) := by decide +kernel
theorem dX9_aim_50 : decode cX9_aim 50 = .ok (.iconst 0, 1) := by decide +kernel
theorem dX9_aim_51 : decode cX9_aim 51 = .ok (.ireturn, 1) := by decide +kernel
theorem dX9_common_0 : decode cX9_common 0 = .ok (.lload_n 0, 1) := by decide +kernel
theorem dX9_common_1 : decode cX9_common 1 = .ok (.lconst 0, 1) := by decide +kernel
theorem dX9_common_2 : decode cX9_common 2 = .ok (.lcmp, 1) := by decide +kernel
theorem dX9_common_3 : decode cX9_common 3 = .ok (.ifCond .ge 8, 3) := by decide +kernel
theorem dX9_common_6 : decode cX9_common 6 = .ok (.lload_n 0, 1) := by decide +kernel
theorem dX9_common_7 : decode cX9_common 7 = .ok (.lneg, 1) := by decide +kernel
theorem dX9_common_8 : decode cX9_common 8 = .ok (.goto 4, 3) := by decide +kernel
theorem dX9_common_11 : decode cX9_common 11 = .ok (.lload_n 0, 1) := by decide +kernel
theorem dX9_common_12 : decode cX9_common 12 = .ok (.lstore 4, 2) := by decide +kernel
theorem dX9_common_14 : decode cX9_common 14 = .ok (.lload_n 2, 1) := by decide +kernel
theorem dX9_common_15 : decode cX9_common 15 = .ok (.lstore 6, 2) := by decide +kernel
theorem dX9_common_17 : decode cX9_common 17 = .ok (.lload 6, 2) := by decide +kernel
theorem dX9_common_19 : decode cX9_common 19 = .ok (.lconst 0, 1) := by decide +kernel
theorem dX9_common_20 : decode cX9_common 20 = .ok (.lcmp, 1) := by decide +kernel
theorem dX9_common_21 : decode cX9_common 21 = .ok (.ifCond .eq 21, 3) := by decide +kernel
theorem dX9_common_24 : decode cX9_common 24 = .ok (.lload 4, 2) := by decide +kernel
theorem dX9_common_26 : decode cX9_common 26 = .ok (.lload 6, 2) := by decide +kernel
theorem dX9_common_28 : decode cX9_common 28 = .ok (.lrem, 1) := by decide +kernel
theorem dX9_common_29 : decode cX9_common 29 = .ok (.lstore 8, 2) := by decide +kernel
theorem dX9_common_31 : decode cX9_common 31 = .ok (.lload 6, 2) := by decide +kernel
theorem dX9_common_33 : decode cX9_common 33 = .ok (.lstore 4, 2) := by decide +kernel
theorem dX9_common_35 : decode cX9_common 35 = .ok (.lload 8, 2) := by decide +kernel
theorem dX9_common_37 : decode cX9_common 37 = .ok (.lstore 6, 2) := by decide +kernel
theorem dX9_common_39 : decode cX9_common 39 = .ok (.goto (-22), 3) := by decide +kernel
theorem dX9_common_42 : decode cX9_common 42 = .ok (.lload 4, 2) := by decide +kernel
theorem dX9_common_44 : decode cX9_common 44 = .ok (.lreturn, 1) := by decide +kernel
theorem dX9_depth_0 : decode cX9_depth 0 = .ok (.iload_n 1, 1) := by decide +kernel
theorem dX9_depth_1 : decode cX9_depth 1 = .ok (.iconst 0, 1) := by decide +kernel
theorem dX9_depth_2 : decode cX9_depth 2 = .ok (.sipush 200, 3) := by decide +kernel
theorem dX9_depth_5 : decode cX9_depth 5 = .ok (.invokestatic 116, 3) := by decide +kernel
theorem dX9_depth_8 : decode cX9_depth 8 = .ok (.ifCond .eq 12, 3) := by decide +kernel
theorem dX9_depth_11 : decode cX9_depth 11 = .ok (.iload_n 2, 1) := by decide +kernel
theorem dX9_depth_12 : decode cX9_depth 12 = .ok (.iconst 0, 1) := by decide +kernel
theorem dX9_depth_13 : decode cX9_depth 13 = .ok (.iconst 1, 1) := by decide +kernel
theorem dX9_depth_14 : decode cX9_depth 14 = .ok (.invokestatic 116, 3) := by decide +kernel
theorem dX9_depth_17 : decode cX9_depth 17 = .ok (.ifCond .ne 7, 3) := by decide +kernel
theorem dX9_depth_20 : decode cX9_depth 20 = .ok (.ldc2_w 120, 3) := by decide +kernel
theorem dX9_depth_23 : decode cX9_depth 23 = .ok (.lreturn, 1) := by decide +kernel
theorem dX9_depth_24 : decode cX9_depth 24 = .ok (.iload_n 1, 1) := by decide +kernel
theorem dX9_depth_25 : decode cX9_depth 25 = .ok (.i2l, 1) := by decide +kernel
theorem dX9_depth_26 : decode cX9_depth 26 = .ok (.iload_n 1, 1) := by decide +kernel
theorem dX9_depth_27 : decode cX9_depth 27 = .ok (.i2l, 1) := by decide +kernel
theorem dX9_depth_28 : decode cX9_depth 28 = .ok (.lmul, 1) := by decide +kernel
theorem dX9_depth_29 : decode cX9_depth 29 = .ok (.lstore_n 3, 1) := by decide +kernel
theorem dX9_depth_30 : decode cX9_depth 30 = .ok (.aload_n 0, 1) := by decide +kernel
theorem dX9_depth_31 : decode cX9_depth 31 = .ok (.getfield 20, 3) := by decide +kernel
theorem dX9_depth_34 : decode cX9_depth 34 = .ok (.i2l, 1) := by decide +kernel
theorem dX9_depth_35 : decode cX9_depth 35 = .ok (.aload_n 0, 1) := by decide +kernel
theorem dX9_depth_36 : decode cX9_depth 36 = .ok (.getfield 20, 3) := by decide +kernel
theorem dX9_depth_39 : decode cX9_depth 39 = .ok (.i2l, 1) := by decide +kernel
theorem dX9_depth_40 : decode cX9_depth 40 = .ok (.lmul, 1) := by decide +kernel
theorem dX9_depth_41 : decode cX9_depth 41 = .ok (.lstore 5, 2) := by decide +kernel
theorem dX9_depth_43 : decode cX9_depth 43 = .ok (.ldc2_w 122, 3) := by decide +kernel
theorem dX9_depth_46 : decode cX9_depth 46 = .ok (.aload_n 0, 1) := by decide +kernel
theorem dX9_depth_47 : decode cX9_depth 47 = .ok (.getfield 26, 3) := by decide +kernel
theorem dX9_depth_50 : decode cX9_depth 50 = .ok (.i2l, 1) := by decide +kernel
theorem dX9_depth_51 : decode cX9_depth 51 = .ok (.lmul, 1) := by decide +kernel
theorem dX9_depth_52 : decode cX9_depth 52 = .ok (.lload 5, 2) := by decide +kernel
theorem dX9_depth_54 : decode cX9_depth 54 = .ok (.lmul, 1) := by decide +kernel
theorem dX9_depth_55 : decode cX9_depth 55 = .ok (.lload_n 3, 1) := by decide +kernel
theorem dX9_depth_56 : decode cX9_depth 56 = .ok (.lmul, 1) := by decide +kernel
theorem dX9_depth_57 : decode cX9_depth 57 = .ok (.aload_n 0, 1) := by decide +kernel
theorem dX9_depth_58 : decode cX9_depth 58 = .ok (.getfield 23, 3) := by decide +kernel
theorem dX9_depth_61 : decode cX9_depth 61 = .ok (.aload_n 0, 1) := by decide +kernel
theorem dX9_depth_62 : decode cX9_depth 62 = .ok (.getfield 26, 3) := by decide +kernel
theorem dX9_depth_65 : decode cX9_depth 65 = .ok (.iadd, 1) := by decide +kernel
theorem dX9_depth_66 : decode cX9_depth 66 = .ok (.i2l, 1) := by decide +kernel
theorem dX9_depth_67 : decode cX9_depth 67 = .ok (.lload_n 3, 1) := by decide +kernel
theorem dX9_depth_68 : decode cX9_depth 68 = .ok (.lmul, 1) := by decide +kernel
theorem dX9_depth_69 : decode cX9_depth 69 = .ok (.lload_n 3, 1) := by decide +kernel
theorem dX9_depth_70 : decode cX9_depth 70 = .ok (.lmul, 1) := by decide +kernel
theorem dX9_depth_71 : decode cX9_depth 71 = .ok (.ladd, 1) := by decide +kernel
theorem dX9_depth_72 : decode cX9_depth 72 = .ok (.lstore 7, 2) := by decide +kernel
theorem dX9_depth_74 : decode cX9_depth 74 = .ok (.ldc2_w 124, 3) := by decide +kernel
theorem dX9_depth_77 : decode cX9_depth 77 = .ok (.aload_n 0, 1) := by decide +kernel
theorem dX9_depth_78 : decode cX9_depth 78 = .ok (.getfield 26, 3) := by decide +kernel
theorem dX9_depth_81 : decode cX9_depth 81 = .ok (.i2l, 1) := by decide +kernel
theorem dX9_depth_82 : decode cX9_depth 82 = .ok (.lmul, 1) := by decide +kernel
theorem dX9_depth_83 : decode cX9_depth 83 = .ok (.lload 5, 2) := by decide +kernel
theorem dX9_depth_85 : decode cX9_depth 85 = .ok (.lmul, 1) := by decide +kernel
theorem dX9_depth_86 : decode cX9_depth 86 = .ok (.aload_n 0, 1) := by decide +kernel
theorem dX9_depth_87 : decode cX9_depth 87 = .ok (.getfield 20, 3) := by decide +kernel
theorem dX9_depth_90 : decode cX9_depth 90 = .ok (.i2l, 1) := by decide +kernel
theorem dX9_depth_91 : decode cX9_depth 91 = .ok (.lmul, 1) := by decide +kernel
theorem dX9_depth_92 : decode cX9_depth 92 = .ok (.lstore 9, 2) := by decide +kernel
theorem dX9_depth_94 : decode cX9_depth 94 = .ok (.iload_n 2, 1) := by decide +kernel
theorem dX9_depth_95 : decode cX9_depth 95 = .ok (.ifCond .ne 8, 3) := by decide +kernel
theorem dX9_depth_98 : decode cX9_depth 98 = .ok (.lload 7, 2) := by decide +kernel
theorem dX9_depth_100 : decode cX9_depth 100 = .ok (.goto 5, 3) := by decide +kernel
theorem dX9_depth_103 : decode cX9_depth 103 = .ok (.lload 9, 2) := by decide +kernel
theorem dX9_depth_105 : decode cX9_depth 105 = .ok (.lload 7, 2) := by decide +kernel
theorem dX9_depth_107 : decode cX9_depth 107 = .ok (.lload 9, 2) := by decide +kernel
theorem dX9_depth_109 : decode cX9_depth 109 = .ok (.invokestatic 126, 3) := by decide +kernel
theorem dX9_depth_112 : decode cX9_depth 112 = .ok (.ldiv, 1) := by decide +kernel
theorem dX9_depth_113 : decode cX9_depth 113 = .ok (.lreturn, 1) := by decide +kernel
theorem dX9_isZone_0 : decode cX9_isZone 0 = .ok (.iload_n 1, 1) := by decide +kernel
theorem dX9_isZone_1 : decode cX9_isZone 1 = .ok (.iconst 0, 1) := by decide +kernel
theorem dX9_isZone_2 : decode cX9_isZone 2 = .ok (.aload_n 0, 1) := by decide +kernel
theorem dX9_isZone_3 : decode cX9_isZone 3 = .ok (.getfield 7, 3) := by decide +kernel
theorem dX9_isZone_6 : decode cX9_isZone 6 = .ok (.iconst 1, 1) := by decide +kernel
theorem dX9_isZone_7 : decode cX9_isZone 7 = .ok (.isub, 1) := by decide +kernel
theorem dX9_isZone_8 : decode cX9_isZone 8 = .ok (.invokestatic 116, 3) := by decide +kernel
theorem dX9_isZone_11 : decode cX9_isZone 11 = .ok (.ireturn, 1) := by decide +kernel
theorem dX9_height_0 : decode cX9_height 0 = .ok (.aload_n 0, 1) := by decide +kernel
theorem dX9_height_1 : decode cX9_height 1 = .ok (.iload_n 1, 1) := by decide +kernel
theorem dX9_height_2 : decode cX9_height 2 = .ok (.invokevirtual 130, 3) := by decide +kernel
theorem dX9_height_5 : decode cX9_height 5 = .ok (.ifCond .eq 14, 3) := by decide +kernel
theorem dX9_height_8 : decode cX9_height 8 = .ok (.iload_n 2, 1) := by decide +kernel
theorem dX9_height_9 : decode cX9_height 9 = .ok (.ldc 134, 2) := by decide +kernel
theorem dX9_height_11 : decode cX9_height 11 = .ok (.ldc 135, 2) := by decide +kernel
theorem dX9_height_13 : decode cX9_height 13 = .ok (.invokestatic 116, 3) := by decide +kernel
theorem dX9_height_16 : decode cX9_height 16 = .ok (.ifCond .ne 6, 3) := by decide +kernel
theorem dX9_height_19 : decode cX9_height 19 = .ok (.ldc 136, 2) := by decide +kernel
theorem dX9_height_21 : decode cX9_height 21 = .ok (.ireturn, 1) := by decide +kernel
theorem dX9_height_22 : decode cX9_height 22 = .ok (.aload_n 0, 1) := by decide +kernel
theorem dX9_height_23 : decode cX9_height 23 = .ok (.getfield 13, 3) := by decide +kernel
theorem dX9_height_26 : decode cX9_height 26 = .ok (.iload_n 1, 1) := by decide +kernel
theorem dX9_height_27 : decode cX9_height 27 = .ok (.iaload, 1) := by decide +kernel
theorem dX9_height_28 : decode cX9_height 28 = .ok (.istore_n 3, 1) := by decide +kernel
theorem dX9_height_29 : decode cX9_height 29 = .ok (.aload_n 0, 1) := by decide +kernel
theorem dX9_height_30 : decode cX9_height 30 = .ok (.getfield 13, 3) := by decide +kernel
theorem dX9_height_33 : decode cX9_height 33 = .ok (.iload_n 1, 1) := by decide +kernel
theorem dX9_height_34 : decode cX9_height 34 = .ok (.iload_n 2, 1) := by decide +kernel
theorem dX9_height_35 : decode cX9_height 35 = .ok (.iastore, 1) := by decide +kernel
theorem dX9_height_36 : decode cX9_height 36 = .ok (.aload_n 0, 1) := by decide +kernel
theorem dX9_height_37 : decode cX9_height 37 = .ok (.iconst 0, 1) := by decide +kernel
theorem dX9_height_38 : decode cX9_height 38 = .ok (.putfield 113, 3) := by decide +kernel
theorem dX9_height_41 : decode cX9_height 41 = .ok (.iconst 0, 1) := by decide +kernel
theorem dX9_height_42 : decode cX9_height 42 = .ok (.istore 4, 2) := by decide +kernel
theorem dX9_height_44 : decode cX9_height 44 = .ok (.iload 4, 2) := by decide +kernel
theorem dX9_height_46 : decode cX9_height 46 = .ok (.bipush 16, 2) := by decide +kernel
theorem dX9_height_48 : decode cX9_height 48 = .ok (.if_icmp .ge 23, 3) := by decide +kernel
theorem dX9_height_51 : decode cX9_height 51 = .ok (.aload_n 0, 1) := by decide +kernel
theorem dX9_height_52 : decode cX9_height 52 = .ok (.getfield 17, 3) := by decide +kernel
theorem dX9_height_55 : decode cX9_height 55 = .ok (.iload 4, 2) := by decide +kernel
theorem dX9_height_57 : decode cX9_height 57 = .ok (.aload_n 0, 1) := by decide +kernel
theorem dX9_height_58 : decode cX9_height 58 = .ok (.getfield 13, 3) := by decide +kernel
theorem dX9_height_61 : decode cX9_height 61 = .ok (.iload 4, 2) := by decide +kernel
theorem dX9_height_63 : decode cX9_height 63 = .ok (.iaload, 1) := by decide +kernel
theorem dX9_height_64 : decode cX9_height 64 = .ok (.iastore, 1) := by decide +kernel
theorem dX9_height_65 : decode cX9_height 65 = .ok (.iinc 4 1, 3) := by decide +kernel
theorem dX9_height_68 : decode cX9_height 68 = .ok (.goto (-24), 3) := by decide +kernel
theorem dX9_height_71 : decode cX9_height 71 = .ok (.iload_n 3, 1) := by decide +kernel
theorem dX9_height_72 : decode cX9_height 72 = .ok (.ireturn, 1) := by decide +kernel
theorem dX9_at_0 : decode cX9_at 0 = .ok (.aload_n 0, 1) := by decide +kernel
theorem dX9_at_1 : decode cX9_at 1 = .ok (.iload_n 1, 1) := by decide +kernel
theorem dX9_at_2 : decode cX9_at 2 = .ok (.invokevirtual 130, 3) := by decide +kernel
theorem dX9_at_5 : decode cX9_at 5 = .ok (.ifCond .eq 12, 3) := by decide +kernel
theorem dX9_at_8 : decode cX9_at 8 = .ok (.aload_n 0, 1) := by decide +kernel
theorem dX9_at_9 : decode cX9_at 9 = .ok (.getfield 13, 3) := by decide +kernel
theorem dX9_at_12 : decode cX9_at 12 = .ok (.iload_n 1, 1) := by decide +kernel
theorem dX9_at_13 : decode cX9_at 13 = .ok (.iaload, 1) := by decide +kernel
theorem dX9_at_14 : decode cX9_at 14 = .ok (.goto 5, 3) := by decide +kernel
theorem dX9_at_17 : decode cX9_at 17 = .ok (.ldc 136, 2) := by decide +kernel
theorem dX9_at_19 : decode cX9_at 19 = .ok (.ireturn, 1) := by decide +kernel
theorem dX9_read_0 : decode cX9_read 0 = .ok (.iload_n 1, 1) := by decide +kernel
theorem dX9_read_1 : decode cX9_read 1 = .ok (.iconst 0, 1) := by decide +kernel
theorem dX9_read_2 : decode cX9_read 2 = .ok (.iconst 2, 1) := by decide +kernel
theorem dX9_read_3 : decode cX9_read 3 = .ok (.invokestatic 116, 3) := by decide +kernel
theorem dX9_read_6 : decode cX9_read 6 = .ok (.ifCond .eq 37, 3) := by decide +kernel
theorem dX9_read_9 : decode cX9_read 9 = .ok (.iload_n 2, 1) := by decide +kernel
theorem dX9_read_10 : decode cX9_read 10 = .ok (.iconst 0, 1) := by decide +kernel
theorem dX9_read_11 : decode cX9_read 11 = .ok (.aload_n 0, 1) := by decide +kernel
theorem dX9_read_12 : decode cX9_read 12 = .ok (.getfield 7, 3) := by decide +kernel
theorem dX9_read_15 : decode cX9_read 15 = .ok (.iconst 2, 1) := by decide +kernel
theorem dX9_read_16 : decode cX9_read 16 = .ok (.isub, 1) := by decide +kernel
theorem dX9_read_17 : decode cX9_read 17 = .ok (.invokestatic 116, 3) := by decide +kernel
theorem dX9_read_20 : decode cX9_read 20 = .ok (.ifCond .eq 23, 3) := by decide +kernel
theorem dX9_read_23 : decode cX9_read 23 = .ok (.iload_n 3, 1) := by decide +kernel
theorem dX9_read_24 : decode cX9_read 24 = .ok (.sipush (-1000), 3) := by decide +kernel
theorem dX9_read_27 : decode cX9_read 27 = .ok (.sipush 1000, 3) := by decide +kernel
theorem dX9_read_30 : decode cX9_read 30 = .ok (.invokestatic 116, 3) := by decide +kernel
theorem dX9_read_33 : decode cX9_read 33 = .ok (.ifCond .ne 14, 3) := by decide +kernel
theorem dX9_read_36 : decode cX9_read 36 = .ok (.iload_n 3, 1) := by decide +kernel
theorem dX9_read_37 : decode cX9_read 37 = .ok (.sipush 5000, 3) := by decide +kernel
theorem dX9_read_40 : decode cX9_read 40 = .ok (.if_icmp .eq 7, 3) := by decide +kernel
theorem dX9_read_43 : decode cX9_read 43 = .ok (.sipush 10000, 3) := by decide +kernel
theorem dX9_read_46 : decode cX9_read 46 = .ok (.ireturn, 1) := by decide +kernel
theorem dX9_read_47 : decode cX9_read 47 = .ok (.aload_n 0, 1) := by decide +kernel
theorem dX9_read_48 : decode cX9_read 48 = .ok (.getfield 29, 3) := by decide +kernel
theorem dX9_read_51 : decode cX9_read 51 = .ok (.bipush 15, 2) := by decide +kernel
theorem dX9_read_53 : decode cX9_read 53 = .ok (.iload_n 1, 1) := by decide +kernel
theorem dX9_read_54 : decode cX9_read 54 = .ok (.imul, 1) := by decide +kernel
theorem dX9_read_55 : decode cX9_read 55 = .ok (.iload_n 2, 1) := by decide +kernel
theorem dX9_read_56 : decode cX9_read 56 = .ok (.iadd, 1) := by decide +kernel
theorem dX9_read_57 : decode cX9_read 57 = .ok (.iaload, 1) := by decide +kernel
theorem dX9_read_58 : decode cX9_read 58 = .ok (.istore 4, 2) := by decide +kernel
theorem dX9_read_60 : decode cX9_read 60 = .ok (.aload_n 0, 1) := by decide +kernel
theorem dX9_read_61 : decode cX9_read 61 = .ok (.getfield 29, 3) := by decide +kernel
theorem dX9_read_64 : decode cX9_read 64 = .ok (.bipush 15, 2) := by decide +kernel
theorem dX9_read_66 : decode cX9_read 66 = .ok (.iload_n 1, 1) := by decide +kernel
theorem dX9_read_67 : decode cX9_read 67 = .ok (.imul, 1) := by decide +kernel
theorem dX9_read_68 : decode cX9_read 68 = .ok (.iload_n 2, 1) := by decide +kernel
theorem dX9_read_69 : decode cX9_read 69 = .ok (.iadd, 1) := by decide +kernel
theorem dX9_read_70 : decode cX9_read 70 = .ok (.iload_n 3, 1) := by decide +kernel
theorem dX9_read_71 : decode cX9_read 71 = .ok (.iastore, 1) := by decide +kernel
theorem dX9_read_72 : decode cX9_read 72 = .ok (.iload 4, 2) := by decide +kernel
theorem dX9_read_74 : decode cX9_read 74 = .ok (.ireturn, 1) := by decide +kernel
theorem dX9_lie_0 : decode cX9_lie 0 = .ok (.iload_n 1, 1) := by decide +kernel
theorem dX9_lie_1 : decode cX9_lie 1 = .ok (.iconst 0, 1) := by decide +kernel
theorem dX9_lie_2 : decode cX9_lie 2 = .ok (.bipush 50, 2) := by decide +kernel
theorem dX9_lie_4 : decode cX9_lie 4 = .ok (.invokestatic 116, 3) := by decide +kernel
theorem dX9_lie_7 : decode cX9_lie 7 = .ok (.ifCond .ne 5, 3) := by decide +kernel
theorem dX9_lie_10 : decode cX9_lie 10 = .ok (.iconst (-1), 1) := by decide +kernel
theorem dX9_lie_11 : decode cX9_lie 11 = .ok (.ireturn, 1) := by decide +kernel
theorem dX9_lie_12 : decode cX9_lie 12 = .ok (.aload_n 0, 1) := by decide +kernel
theorem dX9_lie_13 : decode cX9_lie 13 = .ok (.getfield 32, 3) := by decide +kernel
theorem dX9_lie_16 : decode cX9_lie 16 = .ok (.istore_n 2, 1) := by decide +kernel
theorem dX9_lie_17 : decode cX9_lie 17 = .ok (.aload_n 0, 1) := by decide +kernel
theorem dX9_lie_18 : decode cX9_lie 18 = .ok (.iload_n 1, 1) := by decide +kernel
theorem dX9_lie_19 : decode cX9_lie 19 = .ok (.putfield 32, 3) := by decide +kernel
theorem dX9_lie_22 : decode cX9_lie 22 = .ok (.iload_n 2, 1) := by decide +kernel
theorem dX9_lie_23 : decode cX9_lie 23 = .ok (.ireturn, 1) := by decide +kernel
theorem dX9_isRead_0 : decode cX9_isRead 0 = .ok (.aload_n 0, 1) := by decide +kernel
theorem dX9_isRead_1 : decode cX9_isRead 1 = .ok (.getfield 29, 3) := by decide +kernel
theorem dX9_isRead_4 : decode cX9_isRead 4 = .ok (.bipush 15, 2) := by decide +kernel
theorem dX9_isRead_6 : decode cX9_isRead 6 = .ok (.iload_n 1, 1) := by decide +kernel
theorem dX9_isRead_7 : decode cX9_isRead 7 = .ok (.imul, 1) := by decide +kernel
theorem dX9_isRead_8 : decode cX9_isRead 8 = .ok (.iload_n 2, 1) := by decide +kernel
theorem dX9_isRead_9 : decode cX9_isRead 9 = .ok (.iadd, 1) := by decide +kernel
theorem dX9_isRead_10 : decode cX9_isRead 10 = .ok (.iaload, 1) := by decide +kernel
theorem dX9_isRead_11 : decode cX9_isRead 11 = .ok (.sipush 5000, 3) := by decide +kernel
theorem dX9_isRead_14 : decode cX9_isRead 14 = .ok (.if_icmp .eq 7, 3) := by decide +kernel
theorem dX9_isRead_17 : decode cX9_isRead 17 = .ok (.iconst 1, 1) := by decide +kernel
theorem dX9_isRead_18 : decode cX9_isRead 18 = .ok (.goto 4, 3) := by decide +kernel
theorem dX9_isRead_21 : decode cX9_isRead 21 = .ok (.iconst 0, 1) := by decide +kernel
theorem dX9_isRead_22 : decode cX9_isRead 22 = .ok (.ireturn, 1) := by decide +kernel
theorem dX9_shifted_0 : decode cX9_shifted 0 = .ok (.aload_n 0, 1) := by decide +kernel
theorem dX9_shifted_1 : decode cX9_shifted 1 = .ok (.getfield 29, 3) := by decide +kernel
theorem dX9_shifted_4 : decode cX9_shifted 4 = .ok (.bipush 15, 2) := by decide +kernel
theorem dX9_shifted_6 : decode cX9_shifted 6 = .ok (.iload_n 1, 1) := by decide +kernel
theorem dX9_shifted_7 : decode cX9_shifted 7 = .ok (.imul, 1) := by decide +kernel
theorem dX9_shifted_8 : decode cX9_shifted 8 = .ok (.iload_n 2, 1) := by decide +kernel
theorem dX9_shifted_9 : decode cX9_shifted 9 = .ok (.iadd, 1) := by decide +kernel
theorem dX9_shifted_10 : decode cX9_shifted 10 = .ok (.iaload, 1) := by decide +kernel
theorem dX9_shifted_11 : decode cX9_shifted 11 = .ok (.aload_n 0, 1) := by decide +kernel
theorem dX9_shifted_12 : decode cX9_shifted 12 = .ok (.getfield 74, 3) := by decide +kernel
theorem dX9_shifted_15 : decode cX9_shifted 15 = .ok (.iload_n 1, 1) := by decide +kernel
theorem dX9_shifted_16 : decode cX9_shifted 16 = .ok (.iaload, 1) := by decide +kernel
theorem dX9_shifted_17 : decode cX9_shifted 17 = .ok (.isub, 1) := by decide +kernel
theorem dX9_shifted_18 : decode cX9_shifted 18 = .ok (.ireturn, 1) := by decide +kernel
theorem dX9_holds_0 : decode cX9_holds 0 = .ok (.iconst 0, 1) := by decide +kernel
theorem dX9_holds_1 : decode cX9_holds 1 = .ok (.istore_n 3, 1) := by decide +kernel
theorem dX9_holds_2 : decode cX9_holds 2 = .ok (.iconst 0, 1) := by decide +kernel
theorem dX9_holds_3 : decode cX9_holds 3 = .ok (.istore 4, 2) := by decide +kernel
theorem dX9_holds_5 : decode cX9_holds 5 = .ok (.iload 4, 2) := by decide +kernel
theorem dX9_holds_7 : decode cX9_holds 7 = .ok (.iconst 3, 1) := by decide +kernel
theorem dX9_holds_8 : decode cX9_holds 8 = .ok (.if_icmp .ge 46, 3) := by decide +kernel
theorem dX9_holds_11 : decode cX9_holds 11 = .ok (.iload_n 3, 1) := by decide +kernel
theorem dX9_holds_12 : decode cX9_holds 12 = .ok (.aload_n 0, 1) := by decide +kernel
theorem dX9_holds_13 : decode cX9_holds 13 = .ok (.iload 4, 2) := by decide +kernel
theorem dX9_holds_15 : decode cX9_holds 15 = .ok (.iload_n 1, 1) := by decide +kernel
theorem dX9_holds_16 : decode cX9_holds 16 = .ok (.invokevirtual 137, 3) := by decide +kernel
theorem dX9_holds_19 : decode cX9_holds 19 = .ok (.ifCond .eq 26, 3) := by decide +kernel
theorem dX9_holds_22 : decode cX9_holds 22 = .ok (.aload_n 0, 1) := by decide +kernel
theorem dX9_holds_23 : decode cX9_holds 23 = .ok (.iload 4, 2) := by decide +kernel
theorem dX9_holds_25 : decode cX9_holds 25 = .ok (.iload_n 1, 1) := by decide +kernel
theorem dX9_holds_26 : decode cX9_holds 26 = .ok (.invokevirtual 141, 3) := by decide +kernel
theorem dX9_holds_29 : decode cX9_holds 29 = .ok (.iload_n 2, 1) := by decide +kernel
theorem dX9_holds_30 : decode cX9_holds 30 = .ok (.isub, 1) := by decide +kernel
theorem dX9_holds_31 : decode cX9_holds 31 = .ok (.invokestatic 145, 3) := by decide +kernel
theorem dX9_holds_34 : decode cX9_holds 34 = .ok (.aload_n 0, 1) := by decide +kernel
theorem dX9_holds_35 : decode cX9_holds 35 = .ok (.getfield 32, 3) := by decide +kernel
theorem dX9_holds_38 : decode cX9_holds 38 = .ok (.if_icmp .gt 7, 3) := by decide +kernel
theorem dX9_holds_41 : decode cX9_holds 41 = .ok (.iconst 1, 1) := by decide +kernel
theorem dX9_holds_42 : decode cX9_holds 42 = .ok (.goto 4, 3) := by decide +kernel
theorem dX9_holds_45 : decode cX9_holds 45 = .ok (.iconst 0, 1) := by decide +kernel
theorem dX9_holds_46 : decode cX9_holds 46 = .ok (.iadd, 1) := by decide +kernel
theorem dX9_holds_47 : decode cX9_holds 47 = .ok (.istore_n 3, 1) := by decide +kernel
theorem dX9_holds_48 : decode cX9_holds 48 = .ok (.iinc 4 1, 3) := by decide +kernel
theorem dX9_holds_51 : decode cX9_holds 51 = .ok (.goto (-46), 3) := by decide +kernel
theorem dX9_holds_54 : decode cX9_holds 54 = .ok (.iload_n 3, 1) := by decide +kernel
theorem dX9_holds_55 : decode cX9_holds 55 = .ok (.ireturn, 1) := by decide +kernel
theorem dX9_dropped_0 : decode cX9_dropped 0 = .ok (.iconst 0, 1) := by decide +kernel
theorem dX9_dropped_1 : decode cX9_dropped 1 = .ok (.istore_n 2, 1) := by decide +kernel
theorem dX9_dropped_2 : decode cX9_dropped 2 = .ok (.iconst 0, 1) := by decide +kernel
theorem dX9_dropped_3 : decode cX9_dropped 3 = .ok (.istore_n 3, 1) := by decide +kernel
theorem dX9_dropped_4 : decode cX9_dropped 4 = .ok (.aload_n 0, 1) := by decide +kernel
theorem dX9_dropped_5 : decode cX9_dropped 5 = .ok (.sipush 5000, 3) := by decide +kernel
theorem dX9_dropped_8 : decode cX9_dropped 8 = .ok (.putfield 149, 3) := by decide +kernel
theorem dX9_dropped_11 : decode cX9_dropped 11 = .ok (.iconst 0, 1) := by decide +kernel
theorem dX9_dropped_12 : decode cX9_dropped 12 = .ok (.istore 4, 2) := by decide +kernel
theorem dX9_dropped_14 : decode cX9_dropped 14 = .ok (.iload 4, 2) := by decide +kernel
theorem dX9_dropped_16 : decode cX9_dropped 16 = .ok (.iconst 3, 1) := by decide +kernel
theorem dX9_dropped_17 : decode cX9_dropped 17 = .ok (.if_icmp .ge 113, 3) := by decide +kernel
theorem dX9_dropped_20 : decode cX9_dropped 20 = .ok (.iload_n 2, 1) := by decide +kernel
theorem dX9_dropped_21 : decode cX9_dropped 21 = .ok (.aload_n 0, 1) := by decide +kernel
theorem dX9_dropped_22 : decode cX9_dropped 22 = .ok (.iload 4, 2) := by decide +kernel
theorem dX9_dropped_24 : decode cX9_dropped 24 = .ok (.iload_n 1, 1) := by decide +kernel
theorem dX9_dropped_25 : decode cX9_dropped 25 = .ok (.invokevirtual 137, 3) := by decide +kernel
theorem dX9_dropped_28 : decode cX9_dropped 28 = .ok (.ifCond .eq 7, 3) := by decide +kernel
theorem dX9_dropped_31 : decode cX9_dropped 31 = .ok (.iconst 1, 1) := by decide +kernel
theorem dX9_dropped_32 : decode cX9_dropped 32 = .ok (.goto 4, 3) := by decide +kernel
theorem dX9_dropped_35 : decode cX9_dropped 35 = .ok (.iconst 0, 1) := by decide +kernel
theorem dX9_dropped_36 : decode cX9_dropped 36 = .ok (.iadd, 1) := by decide +kernel
theorem dX9_dropped_37 : decode cX9_dropped 37 = .ok (.istore_n 2, 1) := by decide +kernel
theorem dX9_dropped_38 : decode cX9_dropped 38 = .ok (.aload_n 0, 1) := by decide +kernel
theorem dX9_dropped_39 : decode cX9_dropped 39 = .ok (.iload 4, 2) := by decide +kernel
theorem dX9_dropped_41 : decode cX9_dropped 41 = .ok (.iload_n 1, 1) := by decide +kernel
theorem dX9_dropped_42 : decode cX9_dropped 42 = .ok (.invokevirtual 137, 3) := by decide +kernel
theorem dX9_dropped_45 : decode cX9_dropped 45 = .ok (.ifCond .eq 18, 3) := by decide +kernel
theorem dX9_dropped_48 : decode cX9_dropped 48 = .ok (.aload_n 0, 1) := by decide +kernel
theorem dX9_dropped_49 : decode cX9_dropped 49 = .ok (.iload 4, 2) := by decide +kernel
theorem dX9_dropped_51 : decode cX9_dropped 51 = .ok (.iload_n 1, 1) := by decide +kernel
theorem dX9_dropped_52 : decode cX9_dropped 52 = .ok (.invokevirtual 141, 3) := by decide +kernel
theorem dX9_dropped_55 : decode cX9_dropped 55 = .ok (.aload_n 0, 1) := by decide +kernel
theorem dX9_dropped_56 : decode cX9_dropped 56 = .ok (.getfield 32, 3) := by decide +kernel
theorem dX9_dropped_59 : decode cX9_dropped 59 = .ok (.isub, 1) := by decide +kernel
theorem dX9_dropped_60 : decode cX9_dropped 60 = .ok (.goto 4, 3) := by decide +kernel
theorem dX9_dropped_63 : decode cX9_dropped 63 = .ok (.iconst 0, 1) := by decide +kernel
theorem dX9_dropped_64 : decode cX9_dropped 64 = .ok (.istore 5, 2) := by decide +kernel
theorem dX9_dropped_66 : decode cX9_dropped 66 = .ok (.aload_n 0, 1) := by decide +kernel
theorem dX9_dropped_67 : decode cX9_dropped 67 = .ok (.iload 4, 2) := by decide +kernel
theorem dX9_dropped_69 : decode cX9_dropped 69 = .ok (.iload_n 1, 1) := by decide +kernel
theorem dX9_dropped_70 : decode cX9_dropped 70 = .ok (.invokevirtual 137, 3) := by decide +kernel
theorem dX9_dropped_73 : decode cX9_dropped 73 = .ok (.ifCond .eq 13, 3) := by decide +kernel
theorem dX9_dropped_76 : decode cX9_dropped 76 = .ok (.aload_n 0, 1) := by decide +kernel
theorem dX9_dropped_77 : decode cX9_dropped 77 = .ok (.iload_n 1, 1) := by decide +kernel
theorem dX9_dropped_78 : decode cX9_dropped 78 = .ok (.iload 5, 2) := by decide +kernel
theorem dX9_dropped_80 : decode cX9_dropped 80 = .ok (.invokevirtual 152, 3) := by decide +kernel
theorem dX9_dropped_83 : decode cX9_dropped 83 = .ok (.goto 4, 3) := by decide +kernel
theorem dX9_dropped_86 : decode cX9_dropped 86 = .ok (.iconst 0, 1) := by decide +kernel
theorem dX9_dropped_87 : decode cX9_dropped 87 = .ok (.istore 6, 2) := by decide +kernel
theorem dX9_dropped_89 : decode cX9_dropped 89 = .ok (.iload 6, 2) := by decide +kernel
theorem dX9_dropped_91 : decode cX9_dropped 91 = .ok (.iload_n 3, 1) := by decide +kernel
theorem dX9_dropped_92 : decode cX9_dropped 92 = .ok (.if_icmp .gt 23, 3) := by decide +kernel
theorem dX9_dropped_95 : decode cX9_dropped 95 = .ok (.iload 6, 2) := by decide +kernel
theorem dX9_dropped_97 : decode cX9_dropped 97 = .ok (.iload_n 3, 1) := by decide +kernel
theorem dX9_dropped_98 : decode cX9_dropped 98 = .ok (.if_icmp .ne 26, 3) := by decide +kernel
theorem dX9_dropped_101 : decode cX9_dropped 101 = .ok (.iload 6, 2) := by decide +kernel
theorem dX9_dropped_103 : decode cX9_dropped 103 = .ok (.ifCond .le 21, 3) := by decide +kernel
theorem dX9_dropped_106 : decode cX9_dropped 106 = .ok (.iload 5, 2) := by decide +kernel
theorem dX9_dropped_108 : decode cX9_dropped 108 = .ok (.aload_n 0, 1) := by decide +kernel
theorem dX9_dropped_109 : decode cX9_dropped 109 = .ok (.getfield 149, 3) := by decide +kernel
theorem dX9_dropped_112 : decode cX9_dropped 112 = .ok (.if_icmp .ge 12, 3) := by decide +kernel
theorem dX9_dropped_115 : decode cX9_dropped 115 = .ok (.iload 6, 2) := by decide +kernel
theorem dX9_dropped_117 : decode cX9_dropped 117 = .ok (.istore_n 3, 1) := by decide +kernel
theorem dX9_dropped_118 : decode cX9_dropped 118 = .ok (.aload_n 0, 1) := by decide +kernel
theorem dX9_dropped_119 : decode cX9_dropped 119 = .ok (.iload 5, 2) := by decide +kernel
theorem dX9_dropped_121 : decode cX9_dropped 121 = .ok (.putfield 149, 3) := by decide +kernel
theorem dX9_dropped_124 : decode cX9_dropped 124 = .ok (.iinc 4 1, 3) := by decide +kernel
theorem dX9_dropped_127 : decode cX9_dropped 127 = .ok (.goto (-113), 3) := by decide +kernel
theorem dX9_dropped_130 : decode cX9_dropped 130 = .ok (.iload_n 2, 1) := by decide +kernel
theorem dX9_dropped_131 : decode cX9_dropped 131 = .ok (.iload_n 3, 1) := by decide +kernel
theorem dX9_dropped_132 : decode cX9_dropped 132 = .ok (.isub, 1) := by decide +kernel
theorem dX9_dropped_133 : decode cX9_dropped 133 = .ok (.ireturn, 1) := by decide +kernel
theorem dX9_joins_0 : decode cX9_joins 0 = .ok (.sipush 999, 3) := by decide +kernel
theorem dX9_joins_3 : decode cX9_joins 3 = .ok (.istore_n 1, 1) := by decide +kernel
theorem dX9_joins_4 : decode cX9_joins 4 = .ok (.sipush 999, 3) := by decide +kernel
theorem dX9_joins_7 : decode cX9_joins 7 = .ok (.istore_n 2, 1) := by decide +kernel
theorem dX9_joins_8 : decode cX9_joins 8 = .ok (.aload_n 0, 1) := by decide +kernel
theorem dX9_joins_9 : decode cX9_joins 9 = .ok (.getfield 74, 3) := by decide +kernel
theorem dX9_joins_12 : decode cX9_joins 12 = .ok (.iconst 0, 1) := by decide +kernel
theorem dX9_joins_13 : decode cX9_joins 13 = .ok (.iconst 0, 1) := by decide +kernel
theorem dX9_joins_14 : decode cX9_joins 14 = .ok (.iastore, 1) := by decide +kernel
theorem dX9_joins_15 : decode cX9_joins 15 = .ok (.bipush (-20), 2) := by decide +kernel
theorem dX9_joins_17 : decode cX9_joins 17 = .ok (.istore_n 3, 1) := by decide +kernel
theorem dX9_joins_18 : decode cX9_joins 18 = .ok (.iload_n 3, 1) := by decide +kernel
theorem dX9_joins_19 : decode cX9_joins 19 = .ok (.bipush 20, 2) := by decide +kernel
theorem dX9_joins_21 : decode cX9_joins 21 = .ok (.if_icmp .gt 126, 3) := by decide +kernel
theorem dX9_joins_24 : decode cX9_joins 24 = .ok (.bipush (-20), 2) := by decide +kernel
theorem dX9_joins_26 : decode cX9_joins 26 = .ok (.istore 4, 2) := by decide +kernel
theorem dX9_joins_28 : decode cX9_joins 28 = .ok (.iload 4, 2) := by decide +kernel
theorem dX9_joins_30 : decode cX9_joins 30 = .ok (.bipush 20, 2) := by decide +kernel
theorem dX9_joins_32 : decode cX9_joins 32 = .ok (.if_icmp .gt 109, 3) := by decide +kernel
theorem dX9_joins_35 : decode cX9_joins 35 = .ok (.aload_n 0, 1) := by decide +kernel
theorem dX9_joins_36 : decode cX9_joins 36 = .ok (.getfield 74, 3) := by decide +kernel
theorem dX9_joins_39 : decode cX9_joins 39 = .ok (.iconst 1, 1) := by decide +kernel
theorem dX9_joins_40 : decode cX9_joins 40 = .ok (.iload_n 3, 1) := by decide +kernel
theorem dX9_joins_41 : decode cX9_joins 41 = .ok (.iastore, 1) := by decide +kernel
theorem dX9_joins_42 : decode cX9_joins 42 = .ok (.aload_n 0, 1) := by decide +kernel
theorem dX9_joins_43 : decode cX9_joins 43 = .ok (.getfield 74, 3) := by decide +kernel
theorem dX9_joins_46 : decode cX9_joins 46 = .ok (.iconst 2, 1) := by decide +kernel
theorem dX9_joins_47 : decode cX9_joins 47 = .ok (.iload 4, 2) := by decide +kernel
theorem dX9_joins_49 : decode cX9_joins 49 = .ok (.iastore, 1) := by decide +kernel
theorem dX9_joins_50 : decode cX9_joins 50 = .ok (.iconst 0, 1) := by decide +kernel
theorem dX9_joins_51 : decode cX9_joins 51 = .ok (.istore 5, 2) := by decide +kernel
theorem dX9_joins_53 : decode cX9_joins 53 = .ok (.iconst 0, 1) := by decide +kernel
theorem dX9_joins_54 : decode cX9_joins 54 = .ok (.istore 6, 2) := by decide +kernel
theorem dX9_joins_56 : decode cX9_joins 56 = .ok (.iload 6, 2) := by decide +kernel
theorem dX9_joins_58 : decode cX9_joins 58 = .ok (.aload_n 0, 1) := by decide +kernel
theorem dX9_joins_59 : decode cX9_joins 59 = .ok (.getfield 7, 3) := by decide +kernel
theorem dX9_joins_62 : decode cX9_joins 62 = .ok (.iconst 1, 1) := by decide +kernel
theorem dX9_joins_63 : decode cX9_joins 63 = .ok (.isub, 1) := by decide +kernel
theorem dX9_joins_64 : decode cX9_joins 64 = .ok (.if_icmp .ge 20, 3) := by decide +kernel
theorem dX9_joins_67 : decode cX9_joins 67 = .ok (.iload 5, 2) := by decide +kernel
theorem dX9_joins_69 : decode cX9_joins 69 = .ok (.aload_n 0, 1) := by decide +kernel
theorem dX9_joins_70 : decode cX9_joins 70 = .ok (.iload 6, 2) := by decide +kernel
theorem dX9_joins_72 : decode cX9_joins 72 = .ok (.invokevirtual 155, 3) := by decide +kernel
theorem dX9_joins_75 : decode cX9_joins 75 = .ok (.iadd, 1) := by decide +kernel
theorem dX9_joins_76 : decode cX9_joins 76 = .ok (.istore 5, 2) := by decide +kernel
theorem dX9_joins_78 : decode cX9_joins 78 = .ok (.iinc 6 1, 3) := by decide +kernel
theorem dX9_joins_81 : decode cX9_joins 81 = .ok (.goto (-25), 3) := by decide +kernel
theorem dX9_joins_84 : decode cX9_joins 84 = .ok (.iload_n 3, 1) := by decide +kernel
theorem dX9_joins_85 : decode cX9_joins 85 = .ok (.invokestatic 145, 3) := by decide +kernel
theorem dX9_joins_88 : decode cX9_joins 88 = .ok (.iload 4, 2) := by decide +kernel
theorem dX9_joins_90 : decode cX9_joins 90 = .ok (.invokestatic 145, 3) := by decide +kernel
theorem dX9_joins_93 : decode cX9_joins 93 = .ok (.iadd, 1) := by decide +kernel
theorem dX9_joins_94 : decode cX9_joins 94 = .ok (.istore 6, 2) := by decide +kernel
theorem dX9_joins_96 : decode cX9_joins 96 = .ok (.iload 5, 2) := by decide +kernel
theorem dX9_joins_98 : decode cX9_joins 98 = .ok (.iload_n 1, 1) := by decide +kernel
theorem dX9_joins_99 : decode cX9_joins 99 = .ok (.if_icmp .lt 15, 3) := by decide +kernel
theorem dX9_joins_102 : decode cX9_joins 102 = .ok (.iload 5, 2) := by decide +kernel
theorem dX9_joins_104 : decode cX9_joins 104 = .ok (.iload_n 1, 1) := by decide +kernel
theorem dX9_joins_105 : decode cX9_joins 105 = .ok (.if_icmp .ne 30, 3) := by decide +kernel
theorem dX9_joins_108 : decode cX9_joins 108 = .ok (.iload 6, 2) := by decide +kernel
theorem dX9_joins_110 : decode cX9_joins 110 = .ok (.iload_n 2, 1) := by decide +kernel
theorem dX9_joins_111 : decode cX9_joins 111 = .ok (.if_icmp .ge 24, 3) := by decide +kernel
theorem dX9_joins_114 : decode cX9_joins 114 = .ok (.iload 5, 2) := by decide +kernel
theorem dX9_joins_116 : decode cX9_joins 116 = .ok (.istore_n 1, 1) := by decide +kernel
theorem dX9_joins_117 : decode cX9_joins 117 = .ok (.iload 6, 2) := by decide +kernel
theorem dX9_joins_119 : decode cX9_joins 119 = .ok (.istore_n 2, 1) := by decide +kernel
theorem dX9_joins_120 : decode cX9_joins 120 = .ok (.aload_n 0, 1) := by decide +kernel
theorem dX9_joins_121 : decode cX9_joins 121 = .ok (.getfield 77, 3) := by decide +kernel
theorem dX9_joins_124 : decode cX9_joins 124 = .ok (.iconst 1, 1) := by decide +kernel
theorem dX9_joins_125 : decode cX9_joins 125 = .ok (.iload_n 3, 1) := by decide +kernel
theorem dX9_joins_126 : decode cX9_joins 126 = .ok (.iastore, 1) := by decide +kernel
theorem dX9_joins_127 : decode cX9_joins 127 = .ok (.aload_n 0, 1) := by decide +kernel
theorem dX9_joins_128 : decode cX9_joins 128 = .ok (.getfield 77, 3) := by decide +kernel
theorem dX9_joins_131 : decode cX9_joins 131 = .ok (.iconst 2, 1) := by decide +kernel
theorem dX9_joins_132 : decode cX9_joins 132 = .ok (.iload 4, 2) := by decide +kernel
theorem dX9_joins_134 : decode cX9_joins 134 = .ok (.iastore, 1) := by decide +kernel
theorem dX9_joins_135 : decode cX9_joins 135 = .ok (.iinc 4 1, 3) := by decide +kernel
theorem dX9_joins_138 : decode cX9_joins 138 = .ok (.goto (-110), 3) := by decide +kernel
theorem dX9_joins_141 : decode cX9_joins 141 = .ok (.iinc 3 1, 3) := by decide +kernel
theorem dX9_joins_144 : decode cX9_joins 144 = .ok (.goto (-126), 3) := by decide +kernel
theorem dX9_joins_147 : decode cX9_joins 147 = .ok (.aload_n 0, 1) := by decide +kernel
theorem dX9_joins_148 : decode cX9_joins 148 = .ok (.getfield 74, 3) := by decide +kernel
theorem dX9_joins_151 : decode cX9_joins 151 = .ok (.iconst 1, 1) := by decide +kernel
theorem dX9_joins_152 : decode cX9_joins 152 = .ok (.aload_n 0, 1) := by decide +kernel
theorem dX9_joins_153 : decode cX9_joins 153 = .ok (.getfield 77, 3) := by decide +kernel
theorem dX9_joins_156 : decode cX9_joins 156 = .ok (.iconst 1, 1) := by decide +kernel
theorem dX9_joins_157 : decode cX9_joins 157 = .ok (.iaload, 1) := by decide +kernel
theorem dX9_joins_158 : decode cX9_joins 158 = .ok (.iastore, 1) := by decide +kernel
theorem dX9_joins_159 : decode cX9_joins 159 = .ok (.aload_n 0, 1) := by decide +kernel
theorem dX9_joins_160 : decode cX9_joins 160 = .ok (.getfield 74, 3) := by decide +kernel
theorem dX9_joins_163 : decode cX9_joins 163 = .ok (.iconst 2, 1) := by decide +kernel
theorem dX9_joins_164 : decode cX9_joins 164 = .ok (.aload_n 0, 1) := by decide +kernel
theorem dX9_joins_165 : decode cX9_joins 165 = .ok (.getfield 77, 3) := by decide +kernel
theorem dX9_joins_168 : decode cX9_joins 168 = .ok (.iconst 2, 1) := by decide +kernel
theorem dX9_joins_169 : decode cX9_joins 169 = .ok (.iaload, 1) := by decide +kernel
theorem dX9_joins_170 : decode cX9_joins 170 = .ok (.iastore, 1) := by decide +kernel
theorem dX9_joins_171 : decode cX9_joins 171 = .ok (.iload_n 1, 1) := by decide +kernel
theorem dX9_joins_172 : decode cX9_joins 172 = .ok (.ireturn, 1) := by decide +kernel
theorem dX9_joined_0 : decode cX9_joined 0 = .ok (.iload_n 1, 1) := by decide +kernel
theorem dX9_joined_1 : decode cX9_joined 1 = .ok (.iconst 0, 1) := by decide +kernel
theorem dX9_joined_2 : decode cX9_joined 2 = .ok (.iconst 2, 1) := by decide +kernel
theorem dX9_joined_3 : decode cX9_joined 3 = .ok (.invokestatic 116, 3) := by decide +kernel
theorem dX9_joined_6 : decode cX9_joined 6 = .ok (.ifCond .ne 6, 3) := by decide +kernel
theorem dX9_joined_9 : decode cX9_joined 9 = .ok (.bipush (-100), 2) := by decide +kernel
theorem dX9_joined_11 : decode cX9_joined 11 = .ok (.ireturn, 1) := by decide +kernel
theorem dX9_joined_12 : decode cX9_joined 12 = .ok (.aload_n 0, 1) := by decide +kernel
theorem dX9_joined_13 : decode cX9_joined 13 = .ok (.invokevirtual 158, 3) := by decide +kernel
theorem dX9_joined_16 : decode cX9_joined 16 = .ok (.istore_n 2, 1) := by decide +kernel
theorem dX9_joined_17 : decode cX9_joined 17 = .ok (.iload_n 1, 1) := by decide +kernel
theorem dX9_joined_18 : decode cX9_joined 18 = .ok (.ifCond .ne 7, 3) := by decide +kernel
theorem dX9_joined_21 : decode cX9_joined 21 = .ok (.iload_n 2, 1) := by decide +kernel
theorem dX9_joined_22 : decode cX9_joined 22 = .ok (.goto 9, 3) := by decide +kernel
theorem dX9_joined_25 : decode cX9_joined 25 = .ok (.aload_n 0, 1) := by decide +kernel
theorem dX9_joined_26 : decode cX9_joined 26 = .ok (.getfield 77, 3) := by decide +kernel
theorem dX9_joined_29 : decode cX9_joined 29 = .ok (.iload_n 1, 1) := by decide +kernel
theorem dX9_joined_30 : decode cX9_joined 30 = .ok (.iaload, 1) := by decide +kernel
theorem dX9_joined_31 : decode cX9_joined 31 = .ok (.ireturn, 1) := by decide +kernel
theorem dX9_step_0 : decode cX9_step 0 = .ok (.iload_n 1, 1) := by decide +kernel
theorem dX9_step_1 : decode cX9_step 1 = .ok (.iconst 0, 1) := by decide +kernel
theorem dX9_step_2 : decode cX9_step 2 = .ok (.aload_n 0, 1) := by decide +kernel
theorem dX9_step_3 : decode cX9_step 3 = .ok (.getfield 7, 3) := by decide +kernel
theorem dX9_step_6 : decode cX9_step 6 = .ok (.iconst 2, 1) := by decide +kernel
theorem dX9_step_7 : decode cX9_step 7 = .ok (.isub, 1) := by decide +kernel
theorem dX9_step_8 : decode cX9_step 8 = .ok (.invokestatic 116, 3) := by decide +kernel
theorem dX9_step_11 : decode cX9_step 11 = .ok (.ifCond .ne 7, 3) := by decide +kernel
theorem dX9_step_14 : decode cX9_step 14 = .ok (.sipush 10000, 3) := by decide +kernel
theorem dX9_step_17 : decode cX9_step 17 = .ok (.ireturn, 1) := by decide +kernel
theorem dX9_step_18 : decode cX9_step 18 = .ok (.aload_n 0, 1) := by decide +kernel
theorem dX9_step_19 : decode cX9_step 19 = .ok (.invokevirtual 158, 3) := by decide +kernel
theorem dX9_step_22 : decode cX9_step 22 = .ok (.pop, 1) := by decide +kernel
theorem dX9_step_23 : decode cX9_step 23 = .ok (.aload_n 0, 1) := by decide +kernel
theorem dX9_step_24 : decode cX9_step 24 = .ok (.iload_n 1, 1) := by decide +kernel
theorem dX9_step_25 : decode cX9_step 25 = .ok (.invokevirtual 155, 3) := by decide +kernel
theorem dX9_step_28 : decode cX9_step 28 = .ok (.pop, 1) := by decide +kernel
theorem dX9_step_29 : decode cX9_step 29 = .ok (.aload_n 0, 1) := by decide +kernel
theorem dX9_step_30 : decode cX9_step 30 = .ok (.getfield 149, 3) := by decide +kernel
theorem dX9_step_33 : decode cX9_step 33 = .ok (.ireturn, 1) := by decide +kernel
theorem dX9_profileOf_0 : decode cX9_profileOf 0 = .ok (.iconst 0, 1) := by decide +kernel
theorem dX9_profileOf_1 : decode cX9_profileOf 1 = .ok (.istore_n 2, 1) := by decide +kernel
theorem dX9_profileOf_2 : decode cX9_profileOf 2 = .ok (.iconst 0, 1) := by decide +kernel
theorem dX9_profileOf_3 : decode cX9_profileOf 3 = .ok (.istore_n 3, 1) := by decide +kernel
theorem dX9_profileOf_4 : decode cX9_profileOf 4 = .ok (.iload_n 3, 1) := by decide +kernel
theorem dX9_profileOf_5 : decode cX9_profileOf 5 = .ok (.iload_n 1, 1) := by decide +kernel
theorem dX9_profileOf_6 : decode cX9_profileOf 6 = .ok (.if_icmp .ge 35, 3) := by decide +kernel
theorem dX9_profileOf_9 : decode cX9_profileOf 9 = .ok (.aload_n 0, 1) := by decide +kernel
theorem dX9_profileOf_10 : decode cX9_profileOf 10 = .ok (.iload_n 3, 1) := by decide +kernel
theorem dX9_profileOf_11 : decode cX9_profileOf 11 = .ok (.invokevirtual 155, 3) := by decide +kernel
theorem dX9_profileOf_14 : decode cX9_profileOf 14 = .ok (.pop, 1) := by decide +kernel
theorem dX9_profileOf_15 : decode cX9_profileOf 15 = .ok (.aload_n 0, 1) := by decide +kernel
theorem dX9_profileOf_16 : decode cX9_profileOf 16 = .ok (.getfield 149, 3) := by decide +kernel
theorem dX9_profileOf_19 : decode cX9_profileOf 19 = .ok (.sipush 5000, 3) := by decide +kernel
theorem dX9_profileOf_22 : decode cX9_profileOf 22 = .ok (.if_icmp .ne 6, 3) := by decide +kernel
theorem dX9_profileOf_25 : decode cX9_profileOf 25 = .ok (.ldc 162, 2) := by decide +kernel
theorem dX9_profileOf_27 : decode cX9_profileOf 27 = .ok (.ireturn, 1) := by decide +kernel
theorem dX9_profileOf_28 : decode cX9_profileOf 28 = .ok (.iload_n 2, 1) := by decide +kernel
theorem dX9_profileOf_29 : decode cX9_profileOf 29 = .ok (.aload_n 0, 1) := by decide +kernel
theorem dX9_profileOf_30 : decode cX9_profileOf 30 = .ok (.getfield 149, 3) := by decide +kernel
theorem dX9_profileOf_33 : decode cX9_profileOf 33 = .ok (.iadd, 1) := by decide +kernel
theorem dX9_profileOf_34 : decode cX9_profileOf 34 = .ok (.istore_n 2, 1) := by decide +kernel
theorem dX9_profileOf_35 : decode cX9_profileOf 35 = .ok (.iinc 3 1, 3) := by decide +kernel
theorem dX9_profileOf_38 : decode cX9_profileOf 38 = .ok (.goto (-34), 3) := by decide +kernel
theorem dX9_profileOf_41 : decode cX9_profileOf 41 = .ok (.iload_n 2, 1) := by decide +kernel
theorem dX9_profileOf_42 : decode cX9_profileOf 42 = .ok (.ireturn, 1) := by decide +kernel
theorem dX9_profile_0 : decode cX9_profile 0 = .ok (.aload_n 0, 1) := by decide +kernel
theorem dX9_profile_1 : decode cX9_profile 1 = .ok (.iload_n 1, 1) := by decide +kernel
theorem dX9_profile_2 : decode cX9_profile 2 = .ok (.invokevirtual 130, 3) := by decide +kernel
theorem dX9_profile_5 : decode cX9_profile 5 = .ok (.ifCond .ne 6, 3) := by decide +kernel
theorem dX9_profile_8 : decode cX9_profile 8 = .ok (.ldc 163, 2) := by decide +kernel
theorem dX9_profile_10 : decode cX9_profile 10 = .ok (.ireturn, 1) := by decide +kernel
theorem dX9_profile_11 : decode cX9_profile 11 = .ok (.aload_n 0, 1) := by decide +kernel
theorem dX9_profile_12 : decode cX9_profile 12 = .ok (.invokevirtual 158, 3) := by decide +kernel
theorem dX9_profile_15 : decode cX9_profile 15 = .ok (.pop, 1) := by decide +kernel
theorem dX9_profile_16 : decode cX9_profile 16 = .ok (.aload_n 0, 1) := by decide +kernel
theorem dX9_profile_17 : decode cX9_profile 17 = .ok (.iload_n 1, 1) := by decide +kernel
theorem dX9_profile_18 : decode cX9_profile 18 = .ok (.invokevirtual 164, 3) := by decide +kernel
theorem dX9_profile_21 : decode cX9_profile 21 = .ok (.ireturn, 1) := by decide +kernel
theorem dX9_wire_0 : decode cX9_wire 0 = .ok (.aload_n 0, 1) := by decide +kernel
theorem dX9_wire_1 : decode cX9_wire 1 = .ok (.iload_n 1, 1) := by decide +kernel
theorem dX9_wire_2 : decode cX9_wire 2 = .ok (.invokevirtual 130, 3) := by decide +kernel
theorem dX9_wire_5 : decode cX9_wire 5 = .ok (.ifCond .eq 27, 3) := by decide +kernel
theorem dX9_wire_8 : decode cX9_wire 8 = .ok (.aload_n 0, 1) := by decide +kernel
theorem dX9_wire_9 : decode cX9_wire 9 = .ok (.iload_n 2, 1) := by decide +kernel
theorem dX9_wire_10 : decode cX9_wire 10 = .ok (.invokevirtual 130, 3) := by decide +kernel
theorem dX9_wire_13 : decode cX9_wire 13 = .ok (.ifCond .eq 19, 3) := by decide +kernel
theorem dX9_wire_16 : decode cX9_wire 16 = .ok (.iload_n 1, 1) := by decide +kernel
theorem dX9_wire_17 : decode cX9_wire 17 = .ok (.iload_n 2, 1) := by decide +kernel
theorem dX9_wire_18 : decode cX9_wire 18 = .ok (.if_icmp .ge 14, 3) := by decide +kernel
theorem dX9_wire_21 : decode cX9_wire 21 = .ok (.iload_n 3, 1) := by decide +kernel
theorem dX9_wire_22 : decode cX9_wire 22 = .ok (.ldc 134, 2) := by decide +kernel
theorem dX9_wire_24 : decode cX9_wire 24 = .ok (.ldc 135, 2) := by decide +kernel
theorem dX9_wire_26 : decode cX9_wire 26 = .ok (.invokestatic 116, 3) := by decide +kernel
theorem dX9_wire_29 : decode cX9_wire 29 = .ok (.ifCond .ne 5, 3) := by decide +kernel
theorem dX9_wire_32 : decode cX9_wire 32 = .ok (.iconst (-1), 1) := by decide +kernel
theorem dX9_wire_33 : decode cX9_wire 33 = .ok (.ireturn, 1) := by decide +kernel
theorem dX9_wire_34 : decode cX9_wire 34 = .ok (.aload_n 0, 1) := by decide +kernel
theorem dX9_wire_35 : decode cX9_wire 35 = .ok (.getfield 110, 3) := by decide +kernel
theorem dX9_wire_38 : decode cX9_wire 38 = .ok (.bipush 12, 2) := by decide +kernel
theorem dX9_wire_40 : decode cX9_wire 40 = .ok (.if_icmp .ne 6, 3) := by decide +kernel
theorem dX9_wire_43 : decode cX9_wire 43 = .ok (.bipush (-3), 2) := by decide +kernel
theorem dX9_wire_45 : decode cX9_wire 45 = .ok (.ireturn, 1) := by decide +kernel
theorem dX9_wire_46 : decode cX9_wire 46 = .ok (.aload_n 0, 1) := by decide +kernel
theorem dX9_wire_47 : decode cX9_wire 47 = .ok (.getfield 35, 3) := by decide +kernel
theorem dX9_wire_50 : decode cX9_wire 50 = .ok (.aload_n 0, 1) := by decide +kernel
theorem dX9_wire_51 : decode cX9_wire 51 = .ok (.getfield 110, 3) := by decide +kernel
theorem dX9_wire_54 : decode cX9_wire 54 = .ok (.iload_n 1, 1) := by decide +kernel
theorem dX9_wire_55 : decode cX9_wire 55 = .ok (.iastore, 1) := by decide +kernel
theorem dX9_wire_56 : decode cX9_wire 56 = .ok (.aload_n 0, 1) := by decide +kernel
theorem dX9_wire_57 : decode cX9_wire 57 = .ok (.getfield 38, 3) := by decide +kernel
theorem dX9_wire_60 : decode cX9_wire 60 = .ok (.aload_n 0, 1) := by decide +kernel
theorem dX9_wire_61 : decode cX9_wire 61 = .ok (.getfield 110, 3) := by decide +kernel
theorem dX9_wire_64 : decode cX9_wire 64 = .ok (.iload_n 2, 1) := by decide +kernel
theorem dX9_wire_65 : decode cX9_wire 65 = .ok (.iastore, 1) := by decide +kernel
theorem dX9_wire_66 : decode cX9_wire 66 = .ok (.aload_n 0, 1) := by decide +kernel
theorem dX9_wire_67 : decode cX9_wire 67 = .ok (.getfield 41, 3) := by decide +kernel
theorem dX9_wire_70 : decode cX9_wire 70 = .ok (.aload_n 0, 1) := by decide +kernel
theorem dX9_wire_71 : decode cX9_wire 71 = .ok (.getfield 110, 3) := by decide +kernel
theorem dX9_wire_74 : decode cX9_wire 74 = .ok (.iload_n 3, 1) := by decide +kernel
theorem dX9_wire_75 : decode cX9_wire 75 = .ok (.iastore, 1) := by decide +kernel
theorem dX9_wire_76 : decode cX9_wire 76 = .ok (.aload_n 0, 1) := by decide +kernel
theorem dX9_wire_77 : decode cX9_wire 77 = .ok (.dup, 1) := by decide +kernel
theorem dX9_wire_78 : decode cX9_wire 78 = .ok (.getfield 110, 3) := by decide +kernel
theorem dX9_wire_81 : decode cX9_wire 81 = .ok (.iconst 1, 1) := by decide +kernel
theorem dX9_wire_82 : decode cX9_wire 82 = .ok (.iadd, 1) := by decide +kernel
theorem dX9_wire_83 : decode cX9_wire 83 = .ok (.putfield 110, 3) := by decide +kernel
theorem dX9_wire_86 : decode cX9_wire 86 = .ok (.aload_n 0, 1) := by decide +kernel
theorem dX9_wire_87 : decode cX9_wire 87 = .ok (.getfield 110, 3) := by decide +kernel
theorem dX9_wire_90 : decode cX9_wire 90 = .ok (.ireturn, 1) := by decide +kernel
theorem dX9_offOf_0 : decode cX9_offOf 0 = .ok (.aload_n 0, 1) := by decide +kernel
theorem dX9_offOf_1 : decode cX9_offOf 1 = .ok (.aload_n 0, 1) := by decide +kernel
theorem dX9_offOf_2 : decode cX9_offOf 2 = .ok (.getfield 35, 3) := by decide +kernel
theorem dX9_offOf_5 : decode cX9_offOf 5 = .ok (.iload_n 1, 1) := by decide +kernel
theorem dX9_offOf_6 : decode cX9_offOf 6 = .ok (.iaload, 1) := by decide +kernel
theorem dX9_offOf_7 : decode cX9_offOf 7 = .ok (.invokevirtual 164, 3) := by decide +kernel
theorem dX9_offOf_10 : decode cX9_offOf 10 = .ok (.istore_n 2, 1) := by decide +kernel
theorem dX9_offOf_11 : decode cX9_offOf 11 = .ok (.aload_n 0, 1) := by decide +kernel
theorem dX9_offOf_12 : decode cX9_offOf 12 = .ok (.aload_n 0, 1) := by decide +kernel
theorem dX9_offOf_13 : decode cX9_offOf 13 = .ok (.getfield 38, 3) := by decide +kernel
theorem dX9_offOf_16 : decode cX9_offOf 16 = .ok (.iload_n 1, 1) := by decide +kernel
theorem dX9_offOf_17 : decode cX9_offOf 17 = .ok (.iaload, 1) := by decide +kernel
theorem dX9_offOf_18 : decode cX9_offOf 18 = .ok (.invokevirtual 164, 3) := by decide +kernel
theorem dX9_offOf_21 : decode cX9_offOf 21 = .ok (.istore_n 3, 1) := by decide +kernel
theorem dX9_offOf_22 : decode cX9_offOf 22 = .ok (.iload_n 2, 1) := by decide +kernel
theorem dX9_offOf_23 : decode cX9_offOf 23 = .ok (.ldc 162, 2) := by decide +kernel
theorem dX9_offOf_25 : decode cX9_offOf 25 = .ok (.if_icmp .eq 9, 3) := by decide +kernel
theorem dX9_offOf_28 : decode cX9_offOf 28 = .ok (.iload_n 3, 1) := by decide +kernel
theorem dX9_offOf_29 : decode cX9_offOf 29 = .ok (.ldc 162, 2) := by decide +kernel
theorem dX9_offOf_31 : decode cX9_offOf 31 = .ok (.if_icmp .ne 8, 3) := by decide +kernel
theorem dX9_offOf_34 : decode cX9_offOf 34 = .ok (.ldc 162, 2) := by decide +kernel
theorem dX9_offOf_36 : decode cX9_offOf 36 = .ok (.goto 13, 3) := by decide +kernel
theorem dX9_offOf_39 : decode cX9_offOf 39 = .ok (.aload_n 0, 1) := by decide +kernel
theorem dX9_offOf_40 : decode cX9_offOf 40 = .ok (.getfield 41, 3) := by decide +kernel
theorem dX9_offOf_43 : decode cX9_offOf 43 = .ok (.iload_n 1, 1) := by decide +kernel
theorem dX9_offOf_44 : decode cX9_offOf 44 = .ok (.iaload, 1) := by decide +kernel
theorem dX9_offOf_45 : decode cX9_offOf 45 = .ok (.iload_n 3, 1) := by decide +kernel
theorem dX9_offOf_46 : decode cX9_offOf 46 = .ok (.iload_n 2, 1) := by decide +kernel
theorem dX9_offOf_47 : decode cX9_offOf 47 = .ok (.isub, 1) := by decide +kernel
theorem dX9_offOf_48 : decode cX9_offOf 48 = .ok (.isub, 1) := by decide +kernel
theorem dX9_offOf_49 : decode cX9_offOf 49 = .ok (.ireturn, 1) := by decide +kernel
theorem dX9_wires_0 : decode cX9_wires 0 = .ok (.iload_n 1, 1) := by decide +kernel
theorem dX9_wires_1 : decode cX9_wires 1 = .ok (.iconst 0, 1) := by decide +kernel
theorem dX9_wires_2 : decode cX9_wires 2 = .ok (.iconst 2, 1) := by decide +kernel
theorem dX9_wires_3 : decode cX9_wires 3 = .ok (.aload_n 0, 1) := by decide +kernel
theorem dX9_wires_4 : decode cX9_wires 4 = .ok (.getfield 110, 3) := by decide +kernel
theorem dX9_wires_7 : decode cX9_wires 7 = .ok (.iadd, 1) := by decide +kernel
theorem dX9_wires_8 : decode cX9_wires 8 = .ok (.invokestatic 116, 3) := by decide +kernel
theorem dX9_wires_11 : decode cX9_wires 11 = .ok (.ifCond .ne 6, 3) := by decide +kernel
theorem dX9_wires_14 : decode cX9_wires 14 = .ok (.ldc 163, 2) := by decide +kernel
theorem dX9_wires_16 : decode cX9_wires 16 = .ok (.ireturn, 1) := by decide +kernel
theorem dX9_wires_17 : decode cX9_wires 17 = .ok (.aload_n 0, 1) := by decide +kernel
theorem dX9_wires_18 : decode cX9_wires 18 = .ok (.invokevirtual 158, 3) := by decide +kernel
theorem dX9_wires_21 : decode cX9_wires 21 = .ok (.pop, 1) := by decide +kernel
theorem dX9_wires_22 : decode cX9_wires 22 = .ok (.iload_n 1, 1) := by decide +kernel
theorem dX9_wires_23 : decode cX9_wires 23 = .ok (.iconst 2, 1) := by decide +kernel
theorem dX9_wires_24 : decode cX9_wires 24 = .ok (.if_icmp .le 11, 3) := by decide +kernel
theorem dX9_wires_27 : decode cX9_wires 27 = .ok (.aload_n 0, 1) := by decide +kernel
theorem dX9_wires_28 : decode cX9_wires 28 = .ok (.iload_n 1, 1) := by decide +kernel
theorem dX9_wires_29 : decode cX9_wires 29 = .ok (.iconst 3, 1) := by decide +kernel
theorem dX9_wires_30 : decode cX9_wires 30 = .ok (.isub, 1) := by decide +kernel
theorem dX9_wires_31 : decode cX9_wires 31 = .ok (.invokevirtual 167, 3) := by decide +kernel
theorem dX9_wires_34 : decode cX9_wires 34 = .ok (.ireturn, 1) := by decide +kernel
theorem dX9_wires_35 : decode cX9_wires 35 = .ok (.iconst 0, 1) := by decide +kernel
theorem dX9_wires_36 : decode cX9_wires 36 = .ok (.istore_n 2, 1) := by decide +kernel
theorem dX9_wires_37 : decode cX9_wires 37 = .ok (.iconst 0, 1) := by decide +kernel
theorem dX9_wires_38 : decode cX9_wires 38 = .ok (.istore_n 3, 1) := by decide +kernel
theorem dX9_wires_39 : decode cX9_wires 39 = .ok (.iload_n 3, 1) := by decide +kernel
theorem dX9_wires_40 : decode cX9_wires 40 = .ok (.aload_n 0, 1) := by decide +kernel
theorem dX9_wires_41 : decode cX9_wires 41 = .ok (.getfield 110, 3) := by decide +kernel
theorem dX9_wires_44 : decode cX9_wires 44 = .ok (.if_icmp .ge 74, 3) := by decide +kernel
theorem dX9_wires_47 : decode cX9_wires 47 = .ok (.aload_n 0, 1) := by decide +kernel
theorem dX9_wires_48 : decode cX9_wires 48 = .ok (.iload_n 3, 1) := by decide +kernel
theorem dX9_wires_49 : decode cX9_wires 49 = .ok (.invokevirtual 167, 3) := by decide +kernel
theorem dX9_wires_52 : decode cX9_wires 52 = .ok (.istore 4, 2) := by decide +kernel
theorem dX9_wires_54 : decode cX9_wires 54 = .ok (.iload 4, 2) := by decide +kernel
theorem dX9_wires_56 : decode cX9_wires 56 = .ok (.ldc 162, 2) := by decide +kernel
theorem dX9_wires_58 : decode cX9_wires 58 = .ok (.if_icmp .ne 7, 3) := by decide +kernel
theorem dX9_wires_61 : decode cX9_wires 61 = .ok (.iconst 2, 1) := by decide +kernel
theorem dX9_wires_62 : decode cX9_wires 62 = .ok (.goto 34, 3) := by decide +kernel
theorem dX9_wires_65 : decode cX9_wires 65 = .ok (.iload 4, 2) := by decide +kernel
theorem dX9_wires_67 : decode cX9_wires 67 = .ok (.invokestatic 145, 3) := by decide +kernel
theorem dX9_wires_70 : decode cX9_wires 70 = .ok (.aload_n 0, 1) := by decide +kernel
theorem dX9_wires_71 : decode cX9_wires 71 = .ok (.getfield 32, 3) := by decide +kernel
theorem dX9_wires_74 : decode cX9_wires 74 = .ok (.aload_n 0, 1) := by decide +kernel
theorem dX9_wires_75 : decode cX9_wires 75 = .ok (.getfield 38, 3) := by decide +kernel
theorem dX9_wires_78 : decode cX9_wires 78 = .ok (.iload_n 3, 1) := by decide +kernel
theorem dX9_wires_79 : decode cX9_wires 79 = .ok (.iaload, 1) := by decide +kernel
theorem dX9_wires_80 : decode cX9_wires 80 = .ok (.aload_n 0, 1) := by decide +kernel
theorem dX9_wires_81 : decode cX9_wires 81 = .ok (.getfield 35, 3) := by decide +kernel
theorem dX9_wires_84 : decode cX9_wires 84 = .ok (.iload_n 3, 1) := by decide +kernel
theorem dX9_wires_85 : decode cX9_wires 85 = .ok (.iaload, 1) := by decide +kernel
theorem dX9_wires_86 : decode cX9_wires 86 = .ok (.isub, 1) := by decide +kernel
theorem dX9_wires_87 : decode cX9_wires 87 = .ok (.imul, 1) := by decide +kernel
theorem dX9_wires_88 : decode cX9_wires 88 = .ok (.if_icmp .gt 7, 3) := by decide +kernel
theorem dX9_wires_91 : decode cX9_wires 91 = .ok (.iconst 0, 1) := by decide +kernel
theorem dX9_wires_92 : decode cX9_wires 92 = .ok (.goto 4, 3) := by decide +kernel
theorem dX9_wires_95 : decode cX9_wires 95 = .ok (.iconst 1, 1) := by decide +kernel
theorem dX9_wires_96 : decode cX9_wires 96 = .ok (.istore 5, 2) := by decide +kernel
theorem dX9_wires_98 : decode cX9_wires 98 = .ok (.iload_n 2, 1) := by decide +kernel
theorem dX9_wires_99 : decode cX9_wires 99 = .ok (.iload 5, 2) := by decide +kernel
theorem dX9_wires_101 : decode cX9_wires 101 = .ok (.iload_n 1, 1) := by decide +kernel
theorem dX9_wires_102 : decode cX9_wires 102 = .ok (.if_icmp .ne 7, 3) := by decide +kernel
theorem dX9_wires_105 : decode cX9_wires 105 = .ok (.iconst 1, 1) := by decide +kernel
theorem dX9_wires_106 : decode cX9_wires 106 = .ok (.goto 4, 3) := by decide +kernel
theorem dX9_wires_109 : decode cX9_wires 109 = .ok (.iconst 0, 1) := by decide +kernel
theorem dX9_wires_110 : decode cX9_wires 110 = .ok (.iadd, 1) := by decide +kernel
theorem dX9_wires_111 : decode cX9_wires 111 = .ok (.istore_n 2, 1) := by decide +kernel
theorem dX9_wires_112 : decode cX9_wires 112 = .ok (.iinc 3 1, 3) := by decide +kernel
theorem dX9_wires_115 : decode cX9_wires 115 = .ok (.goto (-76), 3) := by decide +kernel
theorem dX9_wires_118 : decode cX9_wires 118 = .ok (.iload_n 2, 1) := by decide +kernel
theorem dX9_wires_119 : decode cX9_wires 119 = .ok (.ireturn, 1) := by decide +kernel
theorem dX9_pull_0 : decode cX9_pull 0 = .ok (.iload_n 1, 1) := by decide +kernel
theorem dX9_pull_1 : decode cX9_pull 1 = .ok (.iconst 0, 1) := by decide +kernel
theorem dX9_pull_2 : decode cX9_pull 2 = .ok (.iconst 2, 1) := by decide +kernel
theorem dX9_pull_3 : decode cX9_pull 3 = .ok (.invokestatic 116, 3) := by decide +kernel
theorem dX9_pull_6 : decode cX9_pull 6 = .ok (.ifCond .eq 23, 3) := by decide +kernel
theorem dX9_pull_9 : decode cX9_pull 9 = .ok (.iload_n 2, 1) := by decide +kernel
theorem dX9_pull_10 : decode cX9_pull 10 = .ok (.bipush (-2), 2) := by decide +kernel
theorem dX9_pull_12 : decode cX9_pull 12 = .ok (.iconst 2, 1) := by decide +kernel
theorem dX9_pull_13 : decode cX9_pull 13 = .ok (.invokestatic 116, 3) := by decide +kernel
theorem dX9_pull_16 : decode cX9_pull 16 = .ok (.ifCond .eq 13, 3) := by decide +kernel
theorem dX9_pull_19 : decode cX9_pull 19 = .ok (.iload_n 3, 1) := by decide +kernel
theorem dX9_pull_20 : decode cX9_pull 20 = .ok (.iconst 0, 1) := by decide +kernel
theorem dX9_pull_21 : decode cX9_pull 21 = .ok (.bipush 50, 2) := by decide +kernel
theorem dX9_pull_23 : decode cX9_pull 23 = .ok (.invokestatic 116, 3) := by decide +kernel
theorem dX9_pull_26 : decode cX9_pull 26 = .ok (.ifCond .ne 5, 3) := by decide +kernel
theorem dX9_pull_29 : decode cX9_pull 29 = .ok (.iconst (-1), 1) := by decide +kernel
theorem dX9_pull_30 : decode cX9_pull 30 = .ok (.ireturn, 1) := by decide +kernel
theorem dX9_pull_31 : decode cX9_pull 31 = .ok (.aload_n 0, 1) := by decide +kernel
theorem dX9_pull_32 : decode cX9_pull 32 = .ok (.getfield 44, 3) := by decide +kernel
theorem dX9_pull_35 : decode cX9_pull 35 = .ok (.iconst 5, 1) := by decide +kernel
theorem dX9_pull_36 : decode cX9_pull 36 = .ok (.iload_n 1, 1) := by decide +kernel
theorem dX9_pull_37 : decode cX9_pull 37 = .ok (.imul, 1) := by decide +kernel
theorem dX9_pull_38 : decode cX9_pull 38 = .ok (.iload_n 2, 1) := by decide +kernel
theorem dX9_pull_39 : decode cX9_pull 39 = .ok (.iadd, 1) := by decide +kernel
theorem dX9_pull_40 : decode cX9_pull 40 = .ok (.iconst 2, 1) := by decide +kernel
theorem dX9_pull_41 : decode cX9_pull 41 = .ok (.iadd, 1) := by decide +kernel
theorem dX9_pull_42 : decode cX9_pull 42 = .ok (.iaload, 1) := by decide +kernel
theorem dX9_pull_43 : decode cX9_pull 43 = .ok (.istore 4, 2) := by decide +kernel
theorem dX9_pull_45 : decode cX9_pull 45 = .ok (.aload_n 0, 1) := by decide +kernel
theorem dX9_pull_46 : decode cX9_pull 46 = .ok (.getfield 44, 3) := by decide +kernel
theorem dX9_pull_49 : decode cX9_pull 49 = .ok (.iconst 5, 1) := by decide +kernel
theorem dX9_pull_50 : decode cX9_pull 50 = .ok (.iload_n 1, 1) := by decide +kernel
theorem dX9_pull_51 : decode cX9_pull 51 = .ok (.imul, 1) := by decide +kernel
theorem dX9_pull_52 : decode cX9_pull 52 = .ok (.iload_n 2, 1) := by decide +kernel
theorem dX9_pull_53 : decode cX9_pull 53 = .ok (.iadd, 1) := by decide +kernel
theorem dX9_pull_54 : decode cX9_pull 54 = .ok (.iconst 2, 1) := by decide +kernel
theorem dX9_pull_55 : decode cX9_pull 55 = .ok (.iadd, 1) := by decide +kernel
theorem dX9_pull_56 : decode cX9_pull 56 = .ok (.iload_n 3, 1) := by decide +kernel
theorem dX9_pull_57 : decode cX9_pull 57 = .ok (.iastore, 1) := by decide +kernel
theorem dX9_pull_58 : decode cX9_pull 58 = .ok (.iload 4, 2) := by decide +kernel
theorem dX9_pull_60 : decode cX9_pull 60 = .ok (.ireturn, 1) := by decide +kernel
theorem dX9_rest_0 : decode cX9_rest 0 = .ok (.iload_n 1, 1) := by decide +kernel
theorem dX9_rest_1 : decode cX9_rest 1 = .ok (.iconst 0, 1) := by decide +kernel
theorem dX9_rest_2 : decode cX9_rest 2 = .ok (.sipush 10000, 3) := by decide +kernel
theorem dX9_rest_5 : decode cX9_rest 5 = .ok (.invokestatic 116, 3) := by decide +kernel
theorem dX9_rest_8 : decode cX9_rest 8 = .ok (.ifCond .ne 5, 3) := by decide +kernel
theorem dX9_rest_11 : decode cX9_rest 11 = .ok (.iconst (-1), 1) := by decide +kernel
theorem dX9_rest_12 : decode cX9_rest 12 = .ok (.ireturn, 1) := by decide +kernel
theorem dX9_rest_13 : decode cX9_rest 13 = .ok (.aload_n 0, 1) := by decide +kernel
theorem dX9_rest_14 : decode cX9_rest 14 = .ok (.getfield 47, 3) := by decide +kernel
theorem dX9_rest_17 : decode cX9_rest 17 = .ok (.istore_n 2, 1) := by decide +kernel
theorem dX9_rest_18 : decode cX9_rest 18 = .ok (.aload_n 0, 1) := by decide +kernel
theorem dX9_rest_19 : decode cX9_rest 19 = .ok (.iload_n 1, 1) := by decide +kernel
theorem dX9_rest_20 : decode cX9_rest 20 = .ok (.putfield 47, 3) := by decide +kernel
theorem dX9_rest_23 : decode cX9_rest 23 = .ok (.iload_n 2, 1) := by decide +kernel
theorem dX9_rest_24 : decode cX9_rest 24 = .ok (.ireturn, 1) := by decide +kernel
theorem dX9_pullOf_0 : decode cX9_pullOf 0 = .ok (.aload_n 0, 1) := by decide +kernel
theorem dX9_pullOf_1 : decode cX9_pullOf 1 = .ok (.getfield 44, 3) := by decide +kernel
theorem dX9_pullOf_4 : decode cX9_pullOf 4 = .ok (.iconst 5, 1) := by decide +kernel
theorem dX9_pullOf_5 : decode cX9_pullOf 5 = .ok (.iload_n 1, 1) := by decide +kernel
theorem dX9_pullOf_6 : decode cX9_pullOf 6 = .ok (.imul, 1) := by decide +kernel
theorem dX9_pullOf_7 : decode cX9_pullOf 7 = .ok (.iload_n 2, 1) := by decide +kernel
theorem dX9_pullOf_8 : decode cX9_pullOf 8 = .ok (.iadd, 1) := by decide +kernel
theorem dX9_pullOf_9 : decode cX9_pullOf 9 = .ok (.iconst 2, 1) := by decide +kernel
theorem dX9_pullOf_10 : decode cX9_pullOf 10 = .ok (.iadd, 1) := by decide +kernel
theorem dX9_pullOf_11 : decode cX9_pullOf 11 = .ok (.iaload, 1) := by decide +kernel
theorem dX9_pullOf_12 : decode cX9_pullOf 12 = .ok (.ireturn, 1) := by decide +kernel
theorem dX9_lays_0 : decode cX9_lays 0 = .ok (.bipush (-2), 2) := by decide +kernel
theorem dX9_lays_2 : decode cX9_lays 2 = .ok (.istore 4, 2) := by decide +kernel
theorem dX9_lays_4 : decode cX9_lays 4 = .ok (.iload 4, 2) := by decide +kernel
theorem dX9_lays_6 : decode cX9_lays 6 = .ok (.iconst 2, 1) := by decide +kernel
theorem dX9_lays_7 : decode cX9_lays 7 = .ok (.if_icmp .gt 78, 3) := by decide +kernel
theorem dX9_lays_10 : decode cX9_lays 10 = .ok (.aload_n 0, 1) := by decide +kernel
theorem dX9_lays_11 : decode cX9_lays 11 = .ok (.iload_n 2, 1) := by decide +kernel
theorem dX9_lays_12 : decode cX9_lays 12 = .ok (.iload 4, 2) := by decide +kernel
theorem dX9_lays_14 : decode cX9_lays 14 = .ok (.iadd, 1) := by decide +kernel
theorem dX9_lays_15 : decode cX9_lays 15 = .ok (.invokevirtual 130, 3) := by decide +kernel
theorem dX9_lays_18 : decode cX9_lays 18 = .ok (.ifCond .eq 15, 3) := by decide +kernel
theorem dX9_lays_21 : decode cX9_lays 21 = .ok (.iload_n 3, 1) := by decide +kernel
theorem dX9_lays_22 : decode cX9_lays 22 = .ok (.aload_n 0, 1) := by decide +kernel
theorem dX9_lays_23 : decode cX9_lays 23 = .ok (.iload_n 1, 1) := by decide +kernel
theorem dX9_lays_24 : decode cX9_lays 24 = .ok (.iload 4, 2) := by decide +kernel
theorem dX9_lays_26 : decode cX9_lays 26 = .ok (.invokevirtual 170, 3) := by decide +kernel
theorem dX9_lays_29 : decode cX9_lays 29 = .ok (.imul, 1) := by decide +kernel
theorem dX9_lays_30 : decode cX9_lays 30 = .ok (.goto 4, 3) := by decide +kernel
theorem dX9_lays_33 : decode cX9_lays 33 = .ok (.iconst 0, 1) := by decide +kernel
theorem dX9_lays_34 : decode cX9_lays 34 = .ok (.istore 5, 2) := by decide +kernel
theorem dX9_lays_36 : decode cX9_lays 36 = .ok (.aload_n 0, 1) := by decide +kernel
theorem dX9_lays_37 : decode cX9_lays 37 = .ok (.getfield 59, 3) := by decide +kernel
theorem dX9_lays_40 : decode cX9_lays 40 = .ok (.iconst 5, 1) := by decide +kernel
theorem dX9_lays_41 : decode cX9_lays 41 = .ok (.aload_n 0, 1) := by decide +kernel
theorem dX9_lays_42 : decode cX9_lays 42 = .ok (.getfield 113, 3) := by decide +kernel
theorem dX9_lays_45 : decode cX9_lays 45 = .ok (.imul, 1) := by decide +kernel
theorem dX9_lays_46 : decode cX9_lays 46 = .ok (.iload 4, 2) := by decide +kernel
theorem dX9_lays_48 : decode cX9_lays 48 = .ok (.iadd, 1) := by decide +kernel
theorem dX9_lays_49 : decode cX9_lays 49 = .ok (.iconst 2, 1) := by decide +kernel
theorem dX9_lays_50 : decode cX9_lays 50 = .ok (.iadd, 1) := by decide +kernel
theorem dX9_lays_51 : decode cX9_lays 51 = .ok (.iload 5, 2) := by decide +kernel
theorem dX9_lays_53 : decode cX9_lays 53 = .ok (.iastore, 1) := by decide +kernel
theorem dX9_lays_54 : decode cX9_lays 54 = .ok (.aload_n 0, 1) := by decide +kernel
theorem dX9_lays_55 : decode cX9_lays 55 = .ok (.iload_n 2, 1) := by decide +kernel
theorem dX9_lays_56 : decode cX9_lays 56 = .ok (.iload 4, 2) := by decide +kernel
theorem dX9_lays_58 : decode cX9_lays 58 = .ok (.iadd, 1) := by decide +kernel
theorem dX9_lays_59 : decode cX9_lays 59 = .ok (.invokevirtual 130, 3) := by decide +kernel
theorem dX9_lays_62 : decode cX9_lays 62 = .ok (.ifCond .eq 17, 3) := by decide +kernel
theorem dX9_lays_65 : decode cX9_lays 65 = .ok (.aload_n 0, 1) := by decide +kernel
theorem dX9_lays_66 : decode cX9_lays 66 = .ok (.getfield 13, 3) := by decide +kernel
theorem dX9_lays_69 : decode cX9_lays 69 = .ok (.iload_n 2, 1) := by decide +kernel
theorem dX9_lays_70 : decode cX9_lays 70 = .ok (.iload 4, 2) := by decide +kernel
theorem dX9_lays_72 : decode cX9_lays 72 = .ok (.iadd, 1) := by decide +kernel
theorem dX9_lays_73 : decode cX9_lays 73 = .ok (.dup2, 1) := by decide +kernel
theorem dX9_lays_74 : decode cX9_lays 74 = .ok (.iaload, 1) := by decide +kernel
theorem dX9_lays_75 : decode cX9_lays 75 = .ok (.iload 5, 2) := by decide +kernel
theorem dX9_lays_77 : decode cX9_lays 77 = .ok (.isub, 1) := by decide +kernel
theorem dX9_lays_78 : decode cX9_lays 78 = .ok (.iastore, 1) := by decide +kernel
theorem dX9_lays_79 : decode cX9_lays 79 = .ok (.iinc 4 1, 3) := by decide +kernel
theorem dX9_lays_82 : decode cX9_lays 82 = .ok (.goto (-78), 3) := by decide +kernel
theorem dX9_lays_85 : decode cX9_lays 85 = .ok (.aload_n 0, 1) := by decide +kernel
theorem dX9_lays_86 : decode cX9_lays 86 = .ok (.getfield 50, 3) := by decide +kernel
theorem dX9_lays_89 : decode cX9_lays 89 = .ok (.aload_n 0, 1) := by decide +kernel
theorem dX9_lays_90 : decode cX9_lays 90 = .ok (.getfield 113, 3) := by decide +kernel
theorem dX9_lays_93 : decode cX9_lays 93 = .ok (.iload_n 1, 1) := by decide +kernel
theorem dX9_lays_94 : decode cX9_lays 94 = .ok (.iastore, 1) := by decide +kernel
theorem dX9_lays_95 : decode cX9_lays 95 = .ok (.aload_n 0, 1) := by decide +kernel
theorem dX9_lays_96 : decode cX9_lays 96 = .ok (.getfield 53, 3) := by decide +kernel
theorem dX9_lays_99 : decode cX9_lays 99 = .ok (.aload_n 0, 1) := by decide +kernel
theorem dX9_lays_100 : decode cX9_lays 100 = .ok (.getfield 113, 3) := by decide +kernel
theorem dX9_lays_103 : decode cX9_lays 103 = .ok (.iload_n 2, 1) := by decide +kernel
theorem dX9_lays_104 : decode cX9_lays 104 = .ok (.iastore, 1) := by decide +kernel
theorem dX9_lays_105 : decode cX9_lays 105 = .ok (.aload_n 0, 1) := by decide +kernel
theorem dX9_lays_106 : decode cX9_lays 106 = .ok (.getfield 56, 3) := by decide +kernel
theorem dX9_lays_109 : decode cX9_lays 109 = .ok (.aload_n 0, 1) := by decide +kernel
theorem dX9_lays_110 : decode cX9_lays 110 = .ok (.getfield 113, 3) := by decide +kernel
theorem dX9_lays_113 : decode cX9_lays 113 = .ok (.iload_n 3, 1) := by decide +kernel
theorem dX9_lays_114 : decode cX9_lays 114 = .ok (.iastore, 1) := by decide +kernel
theorem dX9_lays_115 : decode cX9_lays 115 = .ok (.aload_n 0, 1) := by decide +kernel
theorem dX9_lays_116 : decode cX9_lays 116 = .ok (.dup, 1) := by decide +kernel
theorem dX9_lays_117 : decode cX9_lays 117 = .ok (.getfield 113, 3) := by decide +kernel
theorem dX9_lays_120 : decode cX9_lays 120 = .ok (.iconst 1, 1) := by decide +kernel
theorem dX9_lays_121 : decode cX9_lays 121 = .ok (.iadd, 1) := by decide +kernel
theorem dX9_lays_122 : decode cX9_lays 122 = .ok (.putfield 113, 3) := by decide +kernel
theorem dX9_lays_125 : decode cX9_lays 125 = .ok (.return_, 1) := by decide +kernel
theorem dX9_stroke_0 : decode cX9_stroke 0 = .ok (.iload_n 1, 1) := by decide +kernel
theorem dX9_stroke_1 : decode cX9_stroke 1 = .ok (.iconst 0, 1) := by decide +kernel
theorem dX9_stroke_2 : decode cX9_stroke 2 = .ok (.iconst 2, 1) := by decide +kernel
theorem dX9_stroke_3 : decode cX9_stroke 3 = .ok (.invokestatic 116, 3) := by decide +kernel
theorem dX9_stroke_6 : decode cX9_stroke 6 = .ok (.ifCond .eq 21, 3) := by decide +kernel
theorem dX9_stroke_9 : decode cX9_stroke 9 = .ok (.aload_n 0, 1) := by decide +kernel
theorem dX9_stroke_10 : decode cX9_stroke 10 = .ok (.iload_n 2, 1) := by decide +kernel
theorem dX9_stroke_11 : decode cX9_stroke 11 = .ok (.invokevirtual 130, 3) := by decide +kernel
theorem dX9_stroke_14 : decode cX9_stroke 14 = .ok (.ifCond .eq 13, 3) := by decide +kernel
theorem dX9_stroke_17 : decode cX9_stroke 17 = .ok (.iload_n 3, 1) := by decide +kernel
theorem dX9_stroke_18 : decode cX9_stroke 18 = .ok (.iconst 1, 1) := by decide +kernel
theorem dX9_stroke_19 : decode cX9_stroke 19 = .ok (.bipush 20, 2) := by decide +kernel
theorem dX9_stroke_21 : decode cX9_stroke 21 = .ok (.invokestatic 116, 3) := by decide +kernel
theorem dX9_stroke_24 : decode cX9_stroke 24 = .ok (.ifCond .ne 6, 3) := by decide +kernel
theorem dX9_stroke_27 : decode cX9_stroke 27 = .ok (.ldc 136, 2) := by decide +kernel
theorem dX9_stroke_29 : decode cX9_stroke 29 = .ok (.ireturn, 1) := by decide +kernel
theorem dX9_stroke_30 : decode cX9_stroke 30 = .ok (.bipush (-2), 2) := by decide +kernel
theorem dX9_stroke_32 : decode cX9_stroke 32 = .ok (.istore 4, 2) := by decide +kernel
theorem dX9_stroke_34 : decode cX9_stroke 34 = .ok (.iload 4, 2) := by decide +kernel
theorem dX9_stroke_36 : decode cX9_stroke 36 = .ok (.iconst 2, 1) := by decide +kernel
theorem dX9_stroke_37 : decode cX9_stroke 37 = .ok (.if_icmp .gt 47, 3) := by decide +kernel
theorem dX9_stroke_40 : decode cX9_stroke 40 = .ok (.aload_n 0, 1) := by decide +kernel
theorem dX9_stroke_41 : decode cX9_stroke 41 = .ok (.iload_n 2, 1) := by decide +kernel
theorem dX9_stroke_42 : decode cX9_stroke 42 = .ok (.iload 4, 2) := by decide +kernel
theorem dX9_stroke_44 : decode cX9_stroke 44 = .ok (.iadd, 1) := by decide +kernel
theorem dX9_stroke_45 : decode cX9_stroke 45 = .ok (.invokevirtual 130, 3) := by decide +kernel
theorem dX9_stroke_48 : decode cX9_stroke 48 = .ok (.ifCond .eq 30, 3) := by decide +kernel
theorem dX9_stroke_51 : decode cX9_stroke 51 = .ok (.aload_n 0, 1) := by decide +kernel
theorem dX9_stroke_52 : decode cX9_stroke 52 = .ok (.getfield 13, 3) := by decide +kernel
theorem dX9_stroke_55 : decode cX9_stroke 55 = .ok (.iload_n 2, 1) := by decide +kernel
theorem dX9_stroke_56 : decode cX9_stroke 56 = .ok (.iload 4, 2) := by decide +kernel
theorem dX9_stroke_58 : decode cX9_stroke 58 = .ok (.iadd, 1) := by decide +kernel
theorem dX9_stroke_59 : decode cX9_stroke 59 = .ok (.iaload, 1) := by decide +kernel
theorem dX9_stroke_60 : decode cX9_stroke 60 = .ok (.iload_n 3, 1) := by decide +kernel
theorem dX9_stroke_61 : decode cX9_stroke 61 = .ok (.aload_n 0, 1) := by decide +kernel
theorem dX9_stroke_62 : decode cX9_stroke 62 = .ok (.iload_n 1, 1) := by decide +kernel
theorem dX9_stroke_63 : decode cX9_stroke 63 = .ok (.iload 4, 2) := by decide +kernel
theorem dX9_stroke_65 : decode cX9_stroke 65 = .ok (.invokevirtual 170, 3) := by decide +kernel
theorem dX9_stroke_68 : decode cX9_stroke 68 = .ok (.imul, 1) := by decide +kernel
theorem dX9_stroke_69 : decode cX9_stroke 69 = .ok (.isub, 1) := by decide +kernel
theorem dX9_stroke_70 : decode cX9_stroke 70 = .ok (.ldc 134, 2) := by decide +kernel
theorem dX9_stroke_72 : decode cX9_stroke 72 = .ok (.if_icmp .ge 6, 3) := by decide +kernel
theorem dX9_stroke_75 : decode cX9_stroke 75 = .ok (.ldc 173, 2) := by decide +kernel
theorem dX9_stroke_77 : decode cX9_stroke 77 = .ok (.ireturn, 1) := by decide +kernel
theorem dX9_stroke_78 : decode cX9_stroke 78 = .ok (.iinc 4 1, 3) := by decide +kernel
theorem dX9_stroke_81 : decode cX9_stroke 81 = .ok (.goto (-47), 3) := by decide +kernel
theorem dX9_stroke_84 : decode cX9_stroke 84 = .ok (.aload_n 0, 1) := by decide +kernel
theorem dX9_stroke_85 : decode cX9_stroke 85 = .ok (.getfield 113, 3) := by decide +kernel
theorem dX9_stroke_88 : decode cX9_stroke 88 = .ok (.bipush 60, 2) := by decide +kernel
theorem dX9_stroke_90 : decode cX9_stroke 90 = .ok (.if_icmp .ne 6, 3) := by decide +kernel
theorem dX9_stroke_93 : decode cX9_stroke 93 = .ok (.ldc 174, 2) := by decide +kernel
theorem dX9_stroke_95 : decode cX9_stroke 95 = .ok (.ireturn, 1) := by decide +kernel
theorem dX9_stroke_96 : decode cX9_stroke 96 = .ok (.aload_n 0, 1) := by decide +kernel
theorem dX9_stroke_97 : decode cX9_stroke 97 = .ok (.iload_n 1, 1) := by decide +kernel
theorem dX9_stroke_98 : decode cX9_stroke 98 = .ok (.iload_n 2, 1) := by decide +kernel
theorem dX9_stroke_99 : decode cX9_stroke 99 = .ok (.iload_n 3, 1) := by decide +kernel
theorem dX9_stroke_100 : decode cX9_stroke 100 = .ok (.invokevirtual 175, 3) := by decide +kernel
theorem dX9_stroke_103 : decode cX9_stroke 103 = .ok (.aload_n 0, 1) := by decide +kernel
theorem dX9_stroke_104 : decode cX9_stroke 104 = .ok (.getfield 13, 3) := by decide +kernel
theorem dX9_stroke_107 : decode cX9_stroke 107 = .ok (.iload_n 2, 1) := by decide +kernel
theorem dX9_stroke_108 : decode cX9_stroke 108 = .ok (.iaload, 1) := by decide +kernel
theorem dX9_stroke_109 : decode cX9_stroke 109 = .ok (.ireturn, 1) := by decide +kernel
theorem dX9_undo_0 : decode cX9_undo 0 = .ok (.aload_n 0, 1) := by decide +kernel
theorem dX9_undo_1 : decode cX9_undo 1 = .ok (.getfield 113, 3) := by decide +kernel
theorem dX9_undo_4 : decode cX9_undo 4 = .ok (.ifCond .ne 6, 3) := by decide +kernel
theorem dX9_undo_7 : decode cX9_undo 7 = .ok (.bipush (-2), 2) := by decide +kernel
theorem dX9_undo_9 : decode cX9_undo 9 = .ok (.ireturn, 1) := by decide +kernel
theorem dX9_undo_10 : decode cX9_undo 10 = .ok (.aload_n 0, 1) := by decide +kernel
theorem dX9_undo_11 : decode cX9_undo 11 = .ok (.dup, 1) := by decide +kernel
theorem dX9_undo_12 : decode cX9_undo 12 = .ok (.getfield 113, 3) := by decide +kernel
theorem dX9_undo_15 : decode cX9_undo 15 = .ok (.iconst 1, 1) := by decide +kernel
theorem dX9_undo_16 : decode cX9_undo 16 = .ok (.isub, 1) := by decide +kernel
theorem dX9_undo_17 : decode cX9_undo 17 = .ok (.putfield 113, 3) := by decide +kernel
theorem dX9_undo_20 : decode cX9_undo 20 = .ok (.bipush (-2), 2) := by decide +kernel
theorem dX9_undo_22 : decode cX9_undo 22 = .ok (.istore_n 1, 1) := by decide +kernel
theorem dX9_undo_23 : decode cX9_undo 23 = .ok (.iload_n 1, 1) := by decide +kernel
theorem dX9_undo_24 : decode cX9_undo 24 = .ok (.iconst 2, 1) := by decide +kernel
theorem dX9_undo_25 : decode cX9_undo 25 = .ok (.if_icmp .gt 53, 3) := by decide +kernel
theorem dX9_undo_28 : decode cX9_undo 28 = .ok (.aload_n 0, 1) := by decide +kernel
theorem dX9_undo_29 : decode cX9_undo 29 = .ok (.getfield 53, 3) := by decide +kernel
theorem dX9_undo_32 : decode cX9_undo 32 = .ok (.aload_n 0, 1) := by decide +kernel
theorem dX9_undo_33 : decode cX9_undo 33 = .ok (.getfield 113, 3) := by decide +kernel
theorem dX9_undo_36 : decode cX9_undo 36 = .ok (.iaload, 1) := by decide +kernel
theorem dX9_undo_37 : decode cX9_undo 37 = .ok (.iload_n 1, 1) := by decide +kernel
theorem dX9_undo_38 : decode cX9_undo 38 = .ok (.iadd, 1) := by decide +kernel
theorem dX9_undo_39 : decode cX9_undo 39 = .ok (.istore_n 2, 1) := by decide +kernel
theorem dX9_undo_40 : decode cX9_undo 40 = .ok (.aload_n 0, 1) := by decide +kernel
theorem dX9_undo_41 : decode cX9_undo 41 = .ok (.iload_n 2, 1) := by decide +kernel
theorem dX9_undo_42 : decode cX9_undo 42 = .ok (.invokevirtual 130, 3) := by decide +kernel
theorem dX9_undo_45 : decode cX9_undo 45 = .ok (.ifCond .eq 27, 3) := by decide +kernel
theorem dX9_undo_48 : decode cX9_undo 48 = .ok (.aload_n 0, 1) := by decide +kernel
theorem dX9_undo_49 : decode cX9_undo 49 = .ok (.getfield 13, 3) := by decide +kernel
theorem dX9_undo_52 : decode cX9_undo 52 = .ok (.iload_n 2, 1) := by decide +kernel
theorem dX9_undo_53 : decode cX9_undo 53 = .ok (.dup2, 1) := by decide +kernel
theorem dX9_undo_54 : decode cX9_undo 54 = .ok (.iaload, 1) := by decide +kernel
theorem dX9_undo_55 : decode cX9_undo 55 = .ok (.aload_n 0, 1) := by decide +kernel
theorem dX9_undo_56 : decode cX9_undo 56 = .ok (.getfield 59, 3) := by decide +kernel
theorem dX9_undo_59 : decode cX9_undo 59 = .ok (.iconst 5, 1) := by decide +kernel
theorem dX9_undo_60 : decode cX9_undo 60 = .ok (.aload_n 0, 1) := by decide +kernel
theorem dX9_undo_61 : decode cX9_undo 61 = .ok (.getfield 113, 3) := by decide +kernel
theorem dX9_undo_64 : decode cX9_undo 64 = .ok (.imul, 1) := by decide +kernel
theorem dX9_undo_65 : decode cX9_undo 65 = .ok (.iload_n 1, 1) := by decide +kernel
theorem dX9_undo_66 : decode cX9_undo 66 = .ok (.iadd, 1) := by decide +kernel
theorem dX9_undo_67 : decode cX9_undo 67 = .ok (.iconst 2, 1) := by decide +kernel
theorem dX9_undo_68 : decode cX9_undo 68 = .ok (.iadd, 1) := by decide +kernel
theorem dX9_undo_69 : decode cX9_undo 69 = .ok (.iaload, 1) := by decide +kernel
theorem dX9_undo_70 : decode cX9_undo 70 = .ok (.iadd, 1) := by decide +kernel
theorem dX9_undo_71 : decode cX9_undo 71 = .ok (.iastore, 1) := by decide +kernel
theorem dX9_undo_72 : decode cX9_undo 72 = .ok (.iinc 1 1, 3) := by decide +kernel
theorem dX9_undo_75 : decode cX9_undo 75 = .ok (.goto (-52), 3) := by decide +kernel
theorem dX9_undo_78 : decode cX9_undo 78 = .ok (.aload_n 0, 1) := by decide +kernel
theorem dX9_undo_79 : decode cX9_undo 79 = .ok (.getfield 113, 3) := by decide +kernel
theorem dX9_undo_82 : decode cX9_undo 82 = .ok (.ireturn, 1) := by decide +kernel
theorem dX9_replay_0 : decode cX9_replay 0 = .ok (.aload_n 0, 1) := by decide +kernel
theorem dX9_replay_1 : decode cX9_replay 1 = .ok (.iload_n 1, 1) := by decide +kernel
theorem dX9_replay_2 : decode cX9_replay 2 = .ok (.invokevirtual 130, 3) := by decide +kernel
theorem dX9_replay_5 : decode cX9_replay 5 = .ok (.ifCond .eq 15, 3) := by decide +kernel
theorem dX9_replay_8 : decode cX9_replay 8 = .ok (.iload_n 2, 1) := by decide +kernel
theorem dX9_replay_9 : decode cX9_replay 9 = .ok (.iconst 0, 1) := by decide +kernel
theorem dX9_replay_10 : decode cX9_replay 10 = .ok (.aload_n 0, 1) := by decide +kernel
theorem dX9_replay_11 : decode cX9_replay 11 = .ok (.getfield 113, 3) := by decide +kernel
theorem dX9_replay_14 : decode cX9_replay 14 = .ok (.invokestatic 116, 3) := by decide +kernel
theorem dX9_replay_17 : decode cX9_replay 17 = .ok (.ifCond .ne 6, 3) := by decide +kernel
theorem dX9_replay_20 : decode cX9_replay 20 = .ok (.ldc 136, 2) := by decide +kernel
theorem dX9_replay_22 : decode cX9_replay 22 = .ok (.ireturn, 1) := by decide +kernel
theorem dX9_replay_23 : decode cX9_replay 23 = .ok (.aload_n 0, 1) := by decide +kernel
theorem dX9_replay_24 : decode cX9_replay 24 = .ok (.getfield 17, 3) := by decide +kernel
theorem dX9_replay_27 : decode cX9_replay 27 = .ok (.iload_n 1, 1) := by decide +kernel
theorem dX9_replay_28 : decode cX9_replay 28 = .ok (.iaload, 1) := by decide +kernel
theorem dX9_replay_29 : decode cX9_replay 29 = .ok (.istore_n 3, 1) := by decide +kernel
theorem dX9_replay_30 : decode cX9_replay 30 = .ok (.iconst 0, 1) := by decide +kernel
theorem dX9_replay_31 : decode cX9_replay 31 = .ok (.istore 4, 2) := by decide +kernel
theorem dX9_replay_33 : decode cX9_replay 33 = .ok (.iload 4, 2) := by decide +kernel
theorem dX9_replay_35 : decode cX9_replay 35 = .ok (.iload_n 2, 1) := by decide +kernel
theorem dX9_replay_36 : decode cX9_replay 36 = .ok (.if_icmp .ge 59, 3) := by decide +kernel
theorem dX9_replay_39 : decode cX9_replay 39 = .ok (.iload_n 1, 1) := by decide +kernel
theorem dX9_replay_40 : decode cX9_replay 40 = .ok (.aload_n 0, 1) := by decide +kernel
theorem dX9_replay_41 : decode cX9_replay 41 = .ok (.getfield 53, 3) := by decide +kernel
theorem dX9_replay_44 : decode cX9_replay 44 = .ok (.iload 4, 2) := by decide +kernel
theorem dX9_replay_46 : decode cX9_replay 46 = .ok (.iaload, 1) := by decide +kernel
theorem dX9_replay_47 : decode cX9_replay 47 = .ok (.isub, 1) := by decide +kernel
theorem dX9_replay_48 : decode cX9_replay 48 = .ok (.istore 5, 2) := by decide +kernel
theorem dX9_replay_50 : decode cX9_replay 50 = .ok (.iload_n 3, 1) := by decide +kernel
theorem dX9_replay_51 : decode cX9_replay 51 = .ok (.iload 5, 2) := by decide +kernel
theorem dX9_replay_53 : decode cX9_replay 53 = .ok (.bipush (-2), 2) := by decide +kernel
theorem dX9_replay_55 : decode cX9_replay 55 = .ok (.iconst 2, 1) := by decide +kernel
theorem dX9_replay_56 : decode cX9_replay 56 = .ok (.invokestatic 116, 3) := by decide +kernel
theorem dX9_replay_59 : decode cX9_replay 59 = .ok (.ifCond .eq 27, 3) := by decide +kernel
theorem dX9_replay_62 : decode cX9_replay 62 = .ok (.aload_n 0, 1) := by decide +kernel
theorem dX9_replay_63 : decode cX9_replay 63 = .ok (.getfield 56, 3) := by decide +kernel
theorem dX9_replay_66 : decode cX9_replay 66 = .ok (.iload 4, 2) := by decide +kernel
theorem dX9_replay_68 : decode cX9_replay 68 = .ok (.iaload, 1) := by decide +kernel
theorem dX9_replay_69 : decode cX9_replay 69 = .ok (.aload_n 0, 1) := by decide +kernel
theorem dX9_replay_70 : decode cX9_replay 70 = .ok (.aload_n 0, 1) := by decide +kernel
theorem dX9_replay_71 : decode cX9_replay 71 = .ok (.getfield 50, 3) := by decide +kernel
theorem dX9_replay_74 : decode cX9_replay 74 = .ok (.iload 4, 2) := by decide +kernel
theorem dX9_replay_76 : decode cX9_replay 76 = .ok (.iaload, 1) := by decide +kernel
theorem dX9_replay_77 : decode cX9_replay 77 = .ok (.iload 5, 2) := by decide +kernel
theorem dX9_replay_79 : decode cX9_replay 79 = .ok (.invokevirtual 170, 3) := by decide +kernel
theorem dX9_replay_82 : decode cX9_replay 82 = .ok (.imul, 1) := by decide +kernel
theorem dX9_replay_83 : decode cX9_replay 83 = .ok (.goto 4, 3) := by decide +kernel
theorem dX9_replay_86 : decode cX9_replay 86 = .ok (.iconst 0, 1) := by decide +kernel
theorem dX9_replay_87 : decode cX9_replay 87 = .ok (.isub, 1) := by decide +kernel
theorem dX9_replay_88 : decode cX9_replay 88 = .ok (.istore_n 3, 1) := by decide +kernel
theorem dX9_replay_89 : decode cX9_replay 89 = .ok (.iinc 4 1, 3) := by decide +kernel
theorem dX9_replay_92 : decode cX9_replay 92 = .ok (.goto (-59), 3) := by decide +kernel
theorem dX9_replay_95 : decode cX9_replay 95 = .ok (.iload_n 3, 1) := by decide +kernel
theorem dX9_replay_96 : decode cX9_replay 96 = .ok (.ireturn, 1) := by decide +kernel
theorem dX9_back_0 : decode cX9_back 0 = .ok (.iconst 1, 1) := by decide +kernel
theorem dX9_back_1 : decode cX9_back 1 = .ok (.istore_n 2, 1) := by decide +kernel
theorem dX9_back_2 : decode cX9_back 2 = .ok (.iconst 1, 1) := by decide +kernel
theorem dX9_back_3 : decode cX9_back 3 = .ok (.istore_n 3, 1) := by decide +kernel
theorem dX9_back_4 : decode cX9_back 4 = .ok (.iload_n 3, 1) := by decide +kernel
theorem dX9_back_5 : decode cX9_back 5 = .ok (.iload_n 1, 1) := by decide +kernel
theorem dX9_back_6 : decode cX9_back 6 = .ok (.if_icmp .ge 14, 3) := by decide +kernel
theorem dX9_back_9 : decode cX9_back 9 = .ok (.iload_n 2, 1) := by decide +kernel
theorem dX9_back_10 : decode cX9_back 10 = .ok (.bipush 6, 2) := by decide +kernel
theorem dX9_back_12 : decode cX9_back 12 = .ok (.imul, 1) := by decide +kernel
theorem dX9_back_13 : decode cX9_back 13 = .ok (.istore_n 2, 1) := by decide +kernel
theorem dX9_back_14 : decode cX9_back 14 = .ok (.iinc 3 1, 3) := by decide +kernel
theorem dX9_back_17 : decode cX9_back 17 = .ok (.goto (-13), 3) := by decide +kernel
theorem dX9_back_20 : decode cX9_back 20 = .ok (.iload_n 0, 1) := by decide +kernel
theorem dX9_back_21 : decode cX9_back 21 = .ok (.iload_n 2, 1) := by decide +kernel
theorem dX9_back_22 : decode cX9_back 22 = .ok (.idiv, 1) := by decide +kernel
theorem dX9_back_23 : decode cX9_back 23 = .ok (.bipush 6, 2) := by decide +kernel
theorem dX9_back_25 : decode cX9_back 25 = .ok (.irem, 1) := by decide +kernel
theorem dX9_back_26 : decode cX9_back 26 = .ok (.ireturn, 1) := by decide +kernel
theorem dX9_isRight_0 : decode cX9_isRight 0 = .ok (.iload_n 2, 1) := by decide +kernel
theorem dX9_isRight_1 : decode cX9_isRight 1 = .ok (.iconst 2, 1) := by decide +kernel
theorem dX9_isRight_2 : decode cX9_isRight 2 = .ok (.isub, 1) := by decide +kernel
theorem dX9_isRight_3 : decode cX9_isRight 3 = .ok (.istore 5, 2) := by decide +kernel
theorem dX9_isRight_5 : decode cX9_isRight 5 = .ok (.iload 5, 2) := by decide +kernel
theorem dX9_isRight_7 : decode cX9_isRight 7 = .ok (.ifCond .ge 5, 3) := by decide +kernel
theorem dX9_isRight_10 : decode cX9_isRight 10 = .ok (.iconst 1, 1) := by decide +kernel
theorem dX9_isRight_11 : decode cX9_isRight 11 = .ok (.ireturn, 1) := by decide +kernel
theorem dX9_isRight_12 : decode cX9_isRight 12 = .ok (.aload_n 0, 1) := by decide +kernel
theorem dX9_isRight_13 : decode cX9_isRight 13 = .ok (.getfield 13, 3) := by decide +kernel
theorem dX9_isRight_16 : decode cX9_isRight 16 = .ok (.iload 5, 2) := by decide +kernel
theorem dX9_isRight_18 : decode cX9_isRight 18 = .ok (.iaload, 1) := by decide +kernel
theorem dX9_isRight_19 : decode cX9_isRight 19 = .ok (.iload 4, 2) := by decide +kernel
theorem dX9_isRight_21 : decode cX9_isRight 21 = .ok (.aload_n 0, 1) := by decide +kernel
theorem dX9_isRight_22 : decode cX9_isRight 22 = .ok (.iload_n 1, 1) := by decide +kernel
theorem dX9_isRight_23 : decode cX9_isRight 23 = .ok (.bipush (-2), 2) := by decide +kernel
theorem dX9_isRight_25 : decode cX9_isRight 25 = .ok (.invokevirtual 170, 3) := by decide +kernel
theorem dX9_isRight_28 : decode cX9_isRight 28 = .ok (.imul, 1) := by decide +kernel
theorem dX9_isRight_29 : decode cX9_isRight 29 = .ok (.isub, 1) := by decide +kernel
theorem dX9_isRight_30 : decode cX9_isRight 30 = .ok (.istore 6, 2) := by decide +kernel
theorem dX9_isRight_32 : decode cX9_isRight 32 = .ok (.iconst 1, 1) := by decide +kernel
theorem dX9_isRight_33 : decode cX9_isRight 33 = .ok (.istore 7, 2) := by decide +kernel
theorem dX9_isRight_35 : decode cX9_isRight 35 = .ok (.iload 7, 2) := by decide +kernel
theorem dX9_isRight_37 : decode cX9_isRight 37 = .ok (.iconst 4, 1) := by decide +kernel
theorem dX9_isRight_38 : decode cX9_isRight 38 = .ok (.if_icmp .gt 30, 3) := by decide +kernel
theorem dX9_isRight_41 : decode cX9_isRight 41 = .ok (.iload 6, 2) := by decide +kernel
theorem dX9_isRight_43 : decode cX9_isRight 43 = .ok (.iload_n 3, 1) := by decide +kernel
theorem dX9_isRight_44 : decode cX9_isRight 44 = .ok (.iload 7, 2) := by decide +kernel
theorem dX9_isRight_46 : decode cX9_isRight 46 = .ok (.invokestatic 179, 3) := by decide +kernel
theorem dX9_isRight_49 : decode cX9_isRight 49 = .ok (.aload_n 0, 1) := by decide +kernel
theorem dX9_isRight_50 : decode cX9_isRight 50 = .ok (.iload_n 1, 1) := by decide +kernel
theorem dX9_isRight_51 : decode cX9_isRight 51 = .ok (.iload 7, 2) := by decide +kernel
theorem dX9_isRight_53 : decode cX9_isRight 53 = .ok (.iconst 2, 1) := by decide +kernel
theorem dX9_isRight_54 : decode cX9_isRight 54 = .ok (.isub, 1) := by decide +kernel
theorem dX9_isRight_55 : decode cX9_isRight 55 = .ok (.invokevirtual 170, 3) := by decide +kernel
theorem dX9_isRight_58 : decode cX9_isRight 58 = .ok (.imul, 1) := by decide +kernel
theorem dX9_isRight_59 : decode cX9_isRight 59 = .ok (.isub, 1) := by decide +kernel
theorem dX9_isRight_60 : decode cX9_isRight 60 = .ok (.istore 6, 2) := by decide +kernel
theorem dX9_isRight_62 : decode cX9_isRight 62 = .ok (.iinc 7 1, 3) := by decide +kernel
theorem dX9_isRight_65 : decode cX9_isRight 65 = .ok (.goto (-30), 3) := by decide +kernel
theorem dX9_isRight_68 : decode cX9_isRight 68 = .ok (.iload 6, 2) := by decide +kernel
theorem dX9_isRight_70 : decode cX9_isRight 70 = .ok (.iconst 0, 1) := by decide +kernel
theorem dX9_isRight_71 : decode cX9_isRight 71 = .ok (.aload_n 0, 1) := by decide +kernel
theorem dX9_isRight_72 : decode cX9_isRight 72 = .ok (.getfield 47, 3) := by decide +kernel
theorem dX9_isRight_75 : decode cX9_isRight 75 = .ok (.invokestatic 116, 3) := by decide +kernel
theorem dX9_isRight_78 : decode cX9_isRight 78 = .ok (.ireturn, 1) := by decide +kernel
theorem dX9_next_0 : decode cX9_next 0 = .ok (.iload_n 0, 1) := by decide +kernel
theorem dX9_next_1 : decode cX9_next 1 = .ok (.sipush 216, 3) := by decide +kernel
theorem dX9_next_4 : decode cX9_next 4 = .ok (.irem, 1) := by decide +kernel
theorem dX9_next_5 : decode cX9_next 5 = .ok (.bipush 6, 2) := by decide +kernel
theorem dX9_next_7 : decode cX9_next 7 = .ok (.imul, 1) := by decide +kernel
theorem dX9_next_8 : decode cX9_next 8 = .ok (.iload_n 1, 1) := by decide +kernel
theorem dX9_next_9 : decode cX9_next 9 = .ok (.iadd, 1) := by decide +kernel
theorem dX9_next_10 : decode cX9_next 10 = .ok (.ireturn, 1) := by decide +kernel
theorem dX9_most_0 : decode cX9_most 0 = .ok (.iload_n 1, 1) := by decide +kernel
theorem dX9_most_1 : decode cX9_most 1 = .ok (.aload_n 0, 1) := by decide +kernel
theorem dX9_most_2 : decode cX9_most 2 = .ok (.getfield 7, 3) := by decide +kernel
theorem dX9_most_5 : decode cX9_most 5 = .ok (.if_icmp .ge 7, 3) := by decide +kernel
theorem dX9_most_8 : decode cX9_most 8 = .ok (.iconst 5, 1) := by decide +kernel
theorem dX9_most_9 : decode cX9_most 9 = .ok (.goto 4, 3) := by decide +kernel
theorem dX9_most_12 : decode cX9_most 12 = .ok (.iconst 0, 1) := by decide +kernel
theorem dX9_most_13 : decode cX9_most 13 = .ok (.ireturn, 1) := by decide +kernel
theorem dX9_costs_0 : decode cX9_costs 0 = .ok (.aload_n 0, 1) := by decide +kernel
theorem dX9_costs_1 : decode cX9_costs 1 = .ok (.getfield 7, 3) := by decide +kernel
theorem dX9_costs_4 : decode cX9_costs 4 = .ok (.iconst 2, 1) := by decide +kernel
theorem dX9_costs_5 : decode cX9_costs 5 = .ok (.iadd, 1) := by decide +kernel
theorem dX9_costs_6 : decode cX9_costs 6 = .ok (.istore_n 2, 1) := by decide +kernel
theorem dX9_costs_7 : decode cX9_costs 7 = .ok (.iload_n 2, 1) := by decide +kernel
theorem dX9_costs_8 : decode cX9_costs 8 = .ok (.ifCond .lt 137, 3) := by decide +kernel
theorem dX9_costs_11 : decode cX9_costs 11 = .ok (.iconst 0, 1) := by decide +kernel
theorem dX9_costs_12 : decode cX9_costs 12 = .ok (.istore_n 3, 1) := by decide +kernel
theorem dX9_costs_13 : decode cX9_costs 13 = .ok (.iload_n 3, 1) := by decide +kernel
theorem dX9_costs_14 : decode cX9_costs 14 = .ok (.sipush 1296, 3) := by decide +kernel
theorem dX9_costs_17 : decode cX9_costs 17 = .ok (.if_icmp .ge 122, 3) := by decide +kernel
theorem dX9_costs_20 : decode cX9_costs 20 = .ok (.iload_n 2, 1) := by decide +kernel
theorem dX9_costs_21 : decode cX9_costs 21 = .ok (.aload_n 0, 1) := by decide +kernel
theorem dX9_costs_22 : decode cX9_costs 22 = .ok (.getfield 7, 3) := by decide +kernel
theorem dX9_costs_25 : decode cX9_costs 25 = .ok (.iconst 2, 1) := by decide +kernel
theorem dX9_costs_26 : decode cX9_costs 26 = .ok (.iadd, 1) := by decide +kernel
theorem dX9_costs_27 : decode cX9_costs 27 = .ok (.if_icmp .ne 7, 3) := by decide +kernel
theorem dX9_costs_30 : decode cX9_costs 30 = .ok (.iconst 0, 1) := by decide +kernel
theorem dX9_costs_31 : decode cX9_costs 31 = .ok (.goto 5, 3) := by decide +kernel
theorem dX9_costs_34 : decode cX9_costs 34 = .ok (.ldc 162, 2) := by decide +kernel
theorem dX9_costs_36 : decode cX9_costs 36 = .ok (.istore 4, 2) := by decide +kernel
theorem dX9_costs_38 : decode cX9_costs 38 = .ok (.iconst 0, 1) := by decide +kernel
theorem dX9_costs_39 : decode cX9_costs 39 = .ok (.istore 5, 2) := by decide +kernel
theorem dX9_costs_41 : decode cX9_costs 41 = .ok (.iload 5, 2) := by decide +kernel
theorem dX9_costs_43 : decode cX9_costs 43 = .ok (.aload_n 0, 1) := by decide +kernel
theorem dX9_costs_44 : decode cX9_costs 44 = .ok (.iload_n 2, 1) := by decide +kernel
theorem dX9_costs_45 : decode cX9_costs 45 = .ok (.invokevirtual 182, 3) := by decide +kernel
theorem dX9_costs_48 : decode cX9_costs 48 = .ok (.if_icmp .gt 71, 3) := by decide +kernel
theorem dX9_costs_51 : decode cX9_costs 51 = .ok (.iload_n 2, 1) := by decide +kernel
theorem dX9_costs_52 : decode cX9_costs 52 = .ok (.aload_n 0, 1) := by decide +kernel
theorem dX9_costs_53 : decode cX9_costs 53 = .ok (.getfield 7, 3) := by decide +kernel
theorem dX9_costs_56 : decode cX9_costs 56 = .ok (.iconst 2, 1) := by decide +kernel
theorem dX9_costs_57 : decode cX9_costs 57 = .ok (.iadd, 1) := by decide +kernel
theorem dX9_costs_58 : decode cX9_costs 58 = .ok (.if_icmp .ge 61, 3) := by decide +kernel
theorem dX9_costs_61 : decode cX9_costs 61 = .ok (.aload_n 0, 1) := by decide +kernel
theorem dX9_costs_62 : decode cX9_costs 62 = .ok (.iload_n 1, 1) := by decide +kernel
theorem dX9_costs_63 : decode cX9_costs 63 = .ok (.iload_n 2, 1) := by decide +kernel
theorem dX9_costs_64 : decode cX9_costs 64 = .ok (.iload_n 3, 1) := by decide +kernel
theorem dX9_costs_65 : decode cX9_costs 65 = .ok (.iload 5, 2) := by decide +kernel
theorem dX9_costs_67 : decode cX9_costs 67 = .ok (.invokevirtual 185, 3) := by decide +kernel
theorem dX9_costs_70 : decode cX9_costs 70 = .ok (.ifCond .eq 43, 3) := by decide +kernel
theorem dX9_costs_73 : decode cX9_costs 73 = .ok (.aload_n 0, 1) := by decide +kernel
theorem dX9_costs_74 : decode cX9_costs 74 = .ok (.getfield 80, 3) := by decide +kernel
theorem dX9_costs_77 : decode cX9_costs 77 = .ok (.sipush 1296, 3) := by decide +kernel
theorem dX9_costs_80 : decode cX9_costs 80 = .ok (.iload_n 2, 1) := by decide +kernel
theorem dX9_costs_81 : decode cX9_costs 81 = .ok (.iconst 1, 1) := by decide +kernel
theorem dX9_costs_82 : decode cX9_costs 82 = .ok (.iadd, 1) := by decide +kernel
theorem dX9_costs_83 : decode cX9_costs 83 = .ok (.imul, 1) := by decide +kernel
theorem dX9_costs_84 : decode cX9_costs 84 = .ok (.iload_n 3, 1) := by decide +kernel
theorem dX9_costs_85 : decode cX9_costs 85 = .ok (.iload 5, 2) := by decide +kernel
theorem dX9_costs_87 : decode cX9_costs 87 = .ok (.invokestatic 189, 3) := by decide +kernel
theorem dX9_costs_90 : decode cX9_costs 90 = .ok (.iadd, 1) := by decide +kernel
theorem dX9_costs_91 : decode cX9_costs 91 = .ok (.iaload, 1) := by decide +kernel
theorem dX9_costs_92 : decode cX9_costs 92 = .ok (.iload 5, 2) := by decide +kernel
theorem dX9_costs_94 : decode cX9_costs 94 = .ok (.iadd, 1) := by decide +kernel
theorem dX9_costs_95 : decode cX9_costs 95 = .ok (.istore 6, 2) := by decide +kernel
theorem dX9_costs_97 : decode cX9_costs 97 = .ok (.iload 6, 2) := by decide +kernel
theorem dX9_costs_99 : decode cX9_costs 99 = .ok (.iload 4, 2) := by decide +kernel
theorem dX9_costs_101 : decode cX9_costs 101 = .ok (.if_icmp .ge 8, 3) := by decide +kernel
theorem dX9_costs_104 : decode cX9_costs 104 = .ok (.iload 6, 2) := by decide +kernel
theorem dX9_costs_106 : decode cX9_costs 106 = .ok (.goto 5, 3) := by decide +kernel
theorem dX9_costs_109 : decode cX9_costs 109 = .ok (.iload 4, 2) := by decide +kernel
theorem dX9_costs_111 : decode cX9_costs 111 = .ok (.istore 4, 2) := by decide +kernel
theorem dX9_costs_113 : decode cX9_costs 113 = .ok (.iinc 5 1, 3) := by decide +kernel
theorem dX9_costs_116 : decode cX9_costs 116 = .ok (.goto (-75), 3) := by decide +kernel
theorem dX9_costs_119 : decode cX9_costs 119 = .ok (.aload_n 0, 1) := by decide +kernel
theorem dX9_costs_120 : decode cX9_costs 120 = .ok (.getfield 80, 3) := by decide +kernel
theorem dX9_costs_123 : decode cX9_costs 123 = .ok (.sipush 1296, 3) := by decide +kernel
theorem dX9_costs_126 : decode cX9_costs 126 = .ok (.iload_n 2, 1) := by decide +kernel
theorem dX9_costs_127 : decode cX9_costs 127 = .ok (.imul, 1) := by decide +kernel
theorem dX9_costs_128 : decode cX9_costs 128 = .ok (.iload_n 3, 1) := by decide +kernel
theorem dX9_costs_129 : decode cX9_costs 129 = .ok (.iadd, 1) := by decide +kernel
theorem dX9_costs_130 : decode cX9_costs 130 = .ok (.iload 4, 2) := by decide +kernel
theorem dX9_costs_132 : decode cX9_costs 132 = .ok (.iastore, 1) := by decide +kernel
theorem dX9_costs_133 : decode cX9_costs 133 = .ok (.iinc 3 1, 3) := by decide +kernel
theorem dX9_costs_136 : decode cX9_costs 136 = .ok (.goto (-123), 3) := by decide +kernel
theorem dX9_costs_139 : decode cX9_costs 139 = .ok (.iinc 2 (-1), 3) := by decide +kernel
theorem dX9_costs_142 : decode cX9_costs 142 = .ok (.goto (-135), 3) := by decide +kernel
theorem dX9_costs_145 : decode cX9_costs 145 = .ok (.return_, 1) := by decide +kernel
theorem dX9_plans_0 : decode cX9_plans 0 = .ok (.iconst 0, 1) := by decide +kernel
theorem dX9_plans_1 : decode cX9_plans 1 = .ok (.istore_n 2, 1) := by decide +kernel
theorem dX9_plans_2 : decode cX9_plans 2 = .ok (.iload_n 2, 1) := by decide +kernel
theorem dX9_plans_3 : decode cX9_plans 3 = .ok (.bipush 16, 2) := by decide +kernel
theorem dX9_plans_5 : decode cX9_plans 5 = .ok (.if_icmp .ge 16, 3) := by decide +kernel
theorem dX9_plans_8 : decode cX9_plans 8 = .ok (.aload_n 0, 1) := by decide +kernel
theorem dX9_plans_9 : decode cX9_plans 9 = .ok (.getfield 83, 3) := by decide +kernel
theorem dX9_plans_12 : decode cX9_plans 12 = .ok (.iload_n 2, 1) := by decide +kernel
theorem dX9_plans_13 : decode cX9_plans 13 = .ok (.iconst 0, 1) := by decide +kernel
theorem dX9_plans_14 : decode cX9_plans 14 = .ok (.iastore, 1) := by decide +kernel
theorem dX9_plans_15 : decode cX9_plans 15 = .ok (.iinc 2 1, 3) := by decide +kernel
theorem dX9_plans_18 : decode cX9_plans 18 = .ok (.goto (-16), 3) := by decide +kernel
theorem dX9_plans_21 : decode cX9_plans 21 = .ok (.iconst 0, 1) := by decide +kernel
theorem dX9_plans_22 : decode cX9_plans 22 = .ok (.istore_n 2, 1) := by decide +kernel
theorem dX9_plans_23 : decode cX9_plans 23 = .ok (.iconst (-1), 1) := by decide +kernel
theorem dX9_plans_24 : decode cX9_plans 24 = .ok (.istore_n 3, 1) := by decide +kernel
theorem dX9_plans_25 : decode cX9_plans 25 = .ok (.aload_n 0, 1) := by decide +kernel
theorem dX9_plans_26 : decode cX9_plans 26 = .ok (.iload_n 1, 1) := by decide +kernel
theorem dX9_plans_27 : decode cX9_plans 27 = .ok (.invokevirtual 192, 3) := by decide +kernel
theorem dX9_plans_30 : decode cX9_plans 30 = .ok (.iconst 0, 1) := by decide +kernel
theorem dX9_plans_31 : decode cX9_plans 31 = .ok (.istore 4, 2) := by decide +kernel
theorem dX9_plans_33 : decode cX9_plans 33 = .ok (.iload 4, 2) := by decide +kernel
theorem dX9_plans_35 : decode cX9_plans 35 = .ok (.aload_n 0, 1) := by decide +kernel
theorem dX9_plans_36 : decode cX9_plans 36 = .ok (.getfield 7, 3) := by decide +kernel
theorem dX9_plans_39 : decode cX9_plans 39 = .ok (.if_icmp .ge 111, 3) := by decide +kernel
theorem dX9_plans_42 : decode cX9_plans 42 = .ok (.aload_n 0, 1) := by decide +kernel
theorem dX9_plans_43 : decode cX9_plans 43 = .ok (.getfield 80, 3) := by decide +kernel
theorem dX9_plans_46 : decode cX9_plans 46 = .ok (.sipush 1296, 3) := by decide +kernel
theorem dX9_plans_49 : decode cX9_plans 49 = .ok (.iload 4, 2) := by decide +kernel
theorem dX9_plans_51 : decode cX9_plans 51 = .ok (.imul, 1) := by decide +kernel
theorem dX9_plans_52 : decode cX9_plans 52 = .ok (.iload_n 2, 1) := by decide +kernel
theorem dX9_plans_53 : decode cX9_plans 53 = .ok (.iadd, 1) := by decide +kernel
theorem dX9_plans_54 : decode cX9_plans 54 = .ok (.iaload, 1) := by decide +kernel
theorem dX9_plans_55 : decode cX9_plans 55 = .ok (.istore 5, 2) := by decide +kernel
theorem dX9_plans_57 : decode cX9_plans 57 = .ok (.iload 4, 2) := by decide +kernel
theorem dX9_plans_59 : decode cX9_plans 59 = .ok (.ifCond .ne 8, 3) := by decide +kernel
theorem dX9_plans_62 : decode cX9_plans 62 = .ok (.iload 5, 2) := by decide +kernel
theorem dX9_plans_64 : decode cX9_plans 64 = .ok (.goto 4, 3) := by decide +kernel
theorem dX9_plans_67 : decode cX9_plans 67 = .ok (.iload_n 3, 1) := by decide +kernel
theorem dX9_plans_68 : decode cX9_plans 68 = .ok (.istore_n 3, 1) := by decide +kernel
theorem dX9_plans_69 : decode cX9_plans 69 = .ok (.iload_n 3, 1) := by decide +kernel
theorem dX9_plans_70 : decode cX9_plans 70 = .ok (.ldc 162, 2) := by decide +kernel
theorem dX9_plans_72 : decode cX9_plans 72 = .ok (.if_icmp .lt 6, 3) := by decide +kernel
theorem dX9_plans_75 : decode cX9_plans 75 = .ok (.ldc 162, 2) := by decide +kernel
theorem dX9_plans_77 : decode cX9_plans 77 = .ok (.ireturn, 1) := by decide +kernel
theorem dX9_plans_78 : decode cX9_plans 78 = .ok (.iconst 0, 1) := by decide +kernel
theorem dX9_plans_79 : decode cX9_plans 79 = .ok (.istore 6, 2) := by decide +kernel
theorem dX9_plans_81 : decode cX9_plans 81 = .ok (.aload_n 0, 1) := by decide +kernel
theorem dX9_plans_82 : decode cX9_plans 82 = .ok (.iload_n 1, 1) := by decide +kernel
theorem dX9_plans_83 : decode cX9_plans 83 = .ok (.iload 4, 2) := by decide +kernel
theorem dX9_plans_85 : decode cX9_plans 85 = .ok (.iload_n 2, 1) := by decide +kernel
theorem dX9_plans_86 : decode cX9_plans 86 = .ok (.iload 6, 2) := by decide +kernel
theorem dX9_plans_88 : decode cX9_plans 88 = .ok (.invokevirtual 185, 3) := by decide +kernel
theorem dX9_plans_91 : decode cX9_plans 91 = .ok (.ifCond .eq 31, 3) := by decide +kernel
theorem dX9_plans_94 : decode cX9_plans 94 = .ok (.aload_n 0, 1) := by decide +kernel
theorem dX9_plans_95 : decode cX9_plans 95 = .ok (.getfield 80, 3) := by decide +kernel
theorem dX9_plans_98 : decode cX9_plans 98 = .ok (.sipush 1296, 3) := by decide +kernel
theorem dX9_plans_101 : decode cX9_plans 101 = .ok (.iload 4, 2) := by decide +kernel
theorem dX9_plans_103 : decode cX9_plans 103 = .ok (.iconst 1, 1) := by decide +kernel
theorem dX9_plans_104 : decode cX9_plans 104 = .ok (.iadd, 1) := by decide +kernel
theorem dX9_plans_105 : decode cX9_plans 105 = .ok (.imul, 1) := by decide +kernel
theorem dX9_plans_106 : decode cX9_plans 106 = .ok (.iload_n 2, 1) := by decide +kernel
theorem dX9_plans_107 : decode cX9_plans 107 = .ok (.iload 6, 2) := by decide +kernel
theorem dX9_plans_109 : decode cX9_plans 109 = .ok (.invokestatic 189, 3) := by decide +kernel
theorem dX9_plans_112 : decode cX9_plans 112 = .ok (.iadd, 1) := by decide +kernel
theorem dX9_plans_113 : decode cX9_plans 113 = .ok (.iaload, 1) := by decide +kernel
theorem dX9_plans_114 : decode cX9_plans 114 = .ok (.iload 6, 2) := by decide +kernel
theorem dX9_plans_116 : decode cX9_plans 116 = .ok (.iadd, 1) := by decide +kernel
theorem dX9_plans_117 : decode cX9_plans 117 = .ok (.iload 5, 2) := by decide +kernel
theorem dX9_plans_119 : decode cX9_plans 119 = .ok (.if_icmp .eq 9, 3) := by decide +kernel
theorem dX9_plans_122 : decode cX9_plans 122 = .ok (.iinc 6 1, 3) := by decide +kernel
theorem dX9_plans_125 : decode cX9_plans 125 = .ok (.goto (-44), 3) := by decide +kernel
theorem dX9_plans_128 : decode cX9_plans 128 = .ok (.aload_n 0, 1) := by decide +kernel
theorem dX9_plans_129 : decode cX9_plans 129 = .ok (.getfield 83, 3) := by decide +kernel
theorem dX9_plans_132 : decode cX9_plans 132 = .ok (.iload 4, 2) := by decide +kernel
theorem dX9_plans_134 : decode cX9_plans 134 = .ok (.iload 6, 2) := by decide +kernel
theorem dX9_plans_136 : decode cX9_plans 136 = .ok (.iastore, 1) := by decide +kernel
theorem dX9_plans_137 : decode cX9_plans 137 = .ok (.iload_n 2, 1) := by decide +kernel
theorem dX9_plans_138 : decode cX9_plans 138 = .ok (.iload 6, 2) := by decide +kernel
theorem dX9_plans_140 : decode cX9_plans 140 = .ok (.invokestatic 189, 3) := by decide +kernel
theorem dX9_plans_143 : decode cX9_plans 143 = .ok (.istore_n 2, 1) := by decide +kernel
theorem dX9_plans_144 : decode cX9_plans 144 = .ok (.iinc 4 1, 3) := by decide +kernel
theorem dX9_plans_147 : decode cX9_plans 147 = .ok (.goto (-114), 3) := by decide +kernel
theorem dX9_plans_150 : decode cX9_plans 150 = .ok (.iload_n 3, 1) := by decide +kernel
theorem dX9_plans_151 : decode cX9_plans 151 = .ok (.ireturn, 1) := by decide +kernel
theorem dX9_plan_0 : decode cX9_plan 0 = .ok (.iload_n 1, 1) := by decide +kernel
theorem dX9_plan_1 : decode cX9_plan 1 = .ok (.iconst 0, 1) := by decide +kernel
theorem dX9_plan_2 : decode cX9_plan 2 = .ok (.iconst 2, 1) := by decide +kernel
theorem dX9_plan_3 : decode cX9_plan 3 = .ok (.invokestatic 116, 3) := by decide +kernel
theorem dX9_plan_6 : decode cX9_plan 6 = .ok (.ifCond .eq 17, 3) := by decide +kernel
theorem dX9_plan_9 : decode cX9_plan 9 = .ok (.iload_n 2, 1) := by decide +kernel
theorem dX9_plan_10 : decode cX9_plan 10 = .ok (.iconst (-1), 1) := by decide +kernel
theorem dX9_plan_11 : decode cX9_plan 11 = .ok (.aload_n 0, 1) := by decide +kernel
theorem dX9_plan_12 : decode cX9_plan 12 = .ok (.getfield 7, 3) := by decide +kernel
theorem dX9_plan_15 : decode cX9_plan 15 = .ok (.iconst 1, 1) := by decide +kernel
theorem dX9_plan_16 : decode cX9_plan 16 = .ok (.isub, 1) := by decide +kernel
theorem dX9_plan_17 : decode cX9_plan 17 = .ok (.invokestatic 116, 3) := by decide +kernel
theorem dX9_plan_20 : decode cX9_plan 20 = .ok (.ifCond .ne 5, 3) := by decide +kernel
theorem dX9_plan_23 : decode cX9_plan 23 = .ok (.iconst (-1), 1) := by decide +kernel
theorem dX9_plan_24 : decode cX9_plan 24 = .ok (.ireturn, 1) := by decide +kernel
theorem dX9_plan_25 : decode cX9_plan 25 = .ok (.aload_n 0, 1) := by decide +kernel
theorem dX9_plan_26 : decode cX9_plan 26 = .ok (.iload_n 1, 1) := by decide +kernel
theorem dX9_plan_27 : decode cX9_plan 27 = .ok (.invokevirtual 195, 3) := by decide +kernel
theorem dX9_plan_30 : decode cX9_plan 30 = .ok (.istore_n 3, 1) := by decide +kernel
theorem dX9_plan_31 : decode cX9_plan 31 = .ok (.iload_n 3, 1) := by decide +kernel
theorem dX9_plan_32 : decode cX9_plan 32 = .ok (.ldc 162, 2) := by decide +kernel
theorem dX9_plan_34 : decode cX9_plan 34 = .ok (.if_icmp .lt 8, 3) := by decide +kernel
theorem dX9_plan_37 : decode cX9_plan 37 = .ok (.bipush (-4), 2) := by decide +kernel
theorem dX9_plan_39 : decode cX9_plan 39 = .ok (.goto 17, 3) := by decide +kernel
theorem dX9_plan_42 : decode cX9_plan 42 = .ok (.iload_n 2, 1) := by decide +kernel
theorem dX9_plan_43 : decode cX9_plan 43 = .ok (.ifCond .ge 7, 3) := by decide +kernel
theorem dX9_plan_46 : decode cX9_plan 46 = .ok (.iload_n 3, 1) := by decide +kernel
theorem dX9_plan_47 : decode cX9_plan 47 = .ok (.goto 9, 3) := by decide +kernel
theorem dX9_plan_50 : decode cX9_plan 50 = .ok (.aload_n 0, 1) := by decide +kernel
theorem dX9_plan_51 : decode cX9_plan 51 = .ok (.getfield 83, 3) := by decide +kernel
theorem dX9_plan_54 : decode cX9_plan 54 = .ok (.iload_n 2, 1) := by decide +kernel
theorem dX9_plan_55 : decode cX9_plan 55 = .ok (.iaload, 1) := by decide +kernel
theorem dX9_plan_56 : decode cX9_plan 56 = .ok (.ireturn, 1) := by decide +kernel
theorem dX9_right_0 : decode cX9_right 0 = .ok (.iload_n 1, 1) := by decide +kernel
theorem dX9_right_1 : decode cX9_right 1 = .ok (.iconst 0, 1) := by decide +kernel
theorem dX9_right_2 : decode cX9_right 2 = .ok (.iconst 2, 1) := by decide +kernel
theorem dX9_right_3 : decode cX9_right 3 = .ok (.invokestatic 116, 3) := by decide +kernel
theorem dX9_right_6 : decode cX9_right 6 = .ok (.ifCond .ne 5, 3) := by decide +kernel
theorem dX9_right_9 : decode cX9_right 9 = .ok (.iconst (-1), 1) := by decide +kernel
theorem dX9_right_10 : decode cX9_right 10 = .ok (.ireturn, 1) := by decide +kernel
theorem dX9_right_11 : decode cX9_right 11 = .ok (.iconst 0, 1) := by decide +kernel
theorem dX9_right_12 : decode cX9_right 12 = .ok (.istore_n 2, 1) := by decide +kernel
theorem dX9_right_13 : decode cX9_right 13 = .ok (.iload_n 2, 1) := by decide +kernel
theorem dX9_right_14 : decode cX9_right 14 = .ok (.sipush 1296, 3) := by decide +kernel
theorem dX9_right_17 : decode cX9_right 17 = .ok (.if_icmp .ge 24, 3) := by decide +kernel
theorem dX9_right_20 : decode cX9_right 20 = .ok (.aload_n 0, 1) := by decide +kernel
theorem dX9_right_21 : decode cX9_right 21 = .ok (.getfield 86, 3) := by decide +kernel
theorem dX9_right_24 : decode cX9_right 24 = .ok (.iload_n 2, 1) := by decide +kernel
theorem dX9_right_25 : decode cX9_right 25 = .ok (.iload_n 2, 1) := by decide +kernel
theorem dX9_right_26 : decode cX9_right 26 = .ok (.ifCond .ne 7, 3) := by decide +kernel
theorem dX9_right_29 : decode cX9_right 29 = .ok (.iconst 1, 1) := by decide +kernel
theorem dX9_right_30 : decode cX9_right 30 = .ok (.goto 4, 3) := by decide +kernel
theorem dX9_right_33 : decode cX9_right 33 = .ok (.iconst 0, 1) := by decide +kernel
theorem dX9_right_34 : decode cX9_right 34 = .ok (.bastore, 1) := by decide +kernel
theorem dX9_right_35 : decode cX9_right 35 = .ok (.iinc 2 1, 3) := by decide +kernel
theorem dX9_right_38 : decode cX9_right 38 = .ok (.goto (-25), 3) := by decide +kernel
theorem dX9_right_41 : decode cX9_right 41 = .ok (.iconst 0, 1) := by decide +kernel
theorem dX9_right_42 : decode cX9_right 42 = .ok (.istore_n 2, 1) := by decide +kernel
theorem dX9_right_43 : decode cX9_right 43 = .ok (.iload_n 2, 1) := by decide +kernel
theorem dX9_right_44 : decode cX9_right 44 = .ok (.aload_n 0, 1) := by decide +kernel
theorem dX9_right_45 : decode cX9_right 45 = .ok (.getfield 7, 3) := by decide +kernel
theorem dX9_right_48 : decode cX9_right 48 = .ok (.iconst 2, 1) := by decide +kernel
theorem dX9_right_49 : decode cX9_right 49 = .ok (.iadd, 1) := by decide +kernel
theorem dX9_right_50 : decode cX9_right 50 = .ok (.if_icmp .ge 144, 3) := by decide +kernel
theorem dX9_right_53 : decode cX9_right 53 = .ok (.sipush 1296, 3) := by decide +kernel
theorem dX9_right_56 : decode cX9_right 56 = .ok (.iload_n 2, 1) := by decide +kernel
theorem dX9_right_57 : decode cX9_right 57 = .ok (.iconst 2, 1) := by decide +kernel
theorem dX9_right_58 : decode cX9_right 58 = .ok (.irem, 1) := by decide +kernel
theorem dX9_right_59 : decode cX9_right 59 = .ok (.imul, 1) := by decide +kernel
theorem dX9_right_60 : decode cX9_right 60 = .ok (.istore_n 3, 1) := by decide +kernel
theorem dX9_right_61 : decode cX9_right 61 = .ok (.sipush 1296, 3) := by decide +kernel
theorem dX9_right_64 : decode cX9_right 64 = .ok (.iload_n 3, 1) := by decide +kernel
theorem dX9_right_65 : decode cX9_right 65 = .ok (.isub, 1) := by decide +kernel
theorem dX9_right_66 : decode cX9_right 66 = .ok (.istore 4, 2) := by decide +kernel
theorem dX9_right_68 : decode cX9_right 68 = .ok (.iconst 0, 1) := by decide +kernel
theorem dX9_right_69 : decode cX9_right 69 = .ok (.istore 5, 2) := by decide +kernel
theorem dX9_right_71 : decode cX9_right 71 = .ok (.iconst 0, 1) := by decide +kernel
theorem dX9_right_72 : decode cX9_right 72 = .ok (.istore 6, 2) := by decide +kernel
theorem dX9_right_74 : decode cX9_right 74 = .ok (.iload 6, 2) := by decide +kernel
theorem dX9_right_76 : decode cX9_right 76 = .ok (.sipush 1296, 3) := by decide +kernel
theorem dX9_right_79 : decode cX9_right 79 = .ok (.if_icmp .ge 20, 3) := by decide +kernel
theorem dX9_right_82 : decode cX9_right 82 = .ok (.aload_n 0, 1) := by decide +kernel
theorem dX9_right_83 : decode cX9_right 83 = .ok (.getfield 86, 3) := by decide +kernel
theorem dX9_right_86 : decode cX9_right 86 = .ok (.iload 4, 2) := by decide +kernel
theorem dX9_right_88 : decode cX9_right 88 = .ok (.iload 6, 2) := by decide +kernel
theorem dX9_right_90 : decode cX9_right 90 = .ok (.iadd, 1) := by decide +kernel
theorem dX9_right_91 : decode cX9_right 91 = .ok (.iconst 0, 1) := by decide +kernel
theorem dX9_right_92 : decode cX9_right 92 = .ok (.bastore, 1) := by decide +kernel
theorem dX9_right_93 : decode cX9_right 93 = .ok (.iinc 6 1, 3) := by decide +kernel
theorem dX9_right_96 : decode cX9_right 96 = .ok (.goto (-22), 3) := by decide +kernel
theorem dX9_right_99 : decode cX9_right 99 = .ok (.iconst 0, 1) := by decide +kernel
theorem dX9_right_100 : decode cX9_right 100 = .ok (.istore 6, 2) := by decide +kernel
theorem dX9_right_102 : decode cX9_right 102 = .ok (.iload 6, 2) := by decide +kernel
theorem dX9_right_104 : decode cX9_right 104 = .ok (.sipush 1296, 3) := by decide +kernel
theorem dX9_right_107 : decode cX9_right 107 = .ok (.if_icmp .ge 72, 3) := by decide +kernel
theorem dX9_right_110 : decode cX9_right 110 = .ok (.iconst 0, 1) := by decide +kernel
theorem dX9_right_111 : decode cX9_right 111 = .ok (.istore 7, 2) := by decide +kernel
theorem dX9_right_113 : decode cX9_right 113 = .ok (.iload 7, 2) := by decide +kernel
theorem dX9_right_115 : decode cX9_right 115 = .ok (.aload_n 0, 1) := by decide +kernel
theorem dX9_right_116 : decode cX9_right 116 = .ok (.iload_n 2, 1) := by decide +kernel
theorem dX9_right_117 : decode cX9_right 117 = .ok (.invokevirtual 182, 3) := by decide +kernel
theorem dX9_right_120 : decode cX9_right 120 = .ok (.if_icmp .gt 53, 3) := by decide +kernel
theorem dX9_right_123 : decode cX9_right 123 = .ok (.aload_n 0, 1) := by decide +kernel
theorem dX9_right_124 : decode cX9_right 124 = .ok (.getfield 86, 3) := by decide +kernel
theorem dX9_right_127 : decode cX9_right 127 = .ok (.iload_n 3, 1) := by decide +kernel
theorem dX9_right_128 : decode cX9_right 128 = .ok (.iload 6, 2) := by decide +kernel
theorem dX9_right_130 : decode cX9_right 130 = .ok (.iadd, 1) := by decide +kernel
theorem dX9_right_131 : decode cX9_right 131 = .ok (.baload, 1) := by decide +kernel
theorem dX9_right_132 : decode cX9_right 132 = .ok (.ifCond .eq 41, 3) := by decide +kernel
theorem dX9_right_135 : decode cX9_right 135 = .ok (.aload_n 0, 1) := by decide +kernel
theorem dX9_right_136 : decode cX9_right 136 = .ok (.iload_n 1, 1) := by decide +kernel
theorem dX9_right_137 : decode cX9_right 137 = .ok (.iload_n 2, 1) := by decide +kernel
theorem dX9_right_138 : decode cX9_right 138 = .ok (.iload 6, 2) := by decide +kernel
theorem dX9_right_140 : decode cX9_right 140 = .ok (.iload 7, 2) := by decide +kernel
theorem dX9_right_142 : decode cX9_right 142 = .ok (.invokevirtual 185, 3) := by decide +kernel
theorem dX9_right_145 : decode cX9_right 145 = .ok (.ifCond .eq 22, 3) := by decide +kernel
theorem dX9_right_148 : decode cX9_right 148 = .ok (.aload_n 0, 1) := by decide +kernel
theorem dX9_right_149 : decode cX9_right 149 = .ok (.getfield 86, 3) := by decide +kernel
theorem dX9_right_152 : decode cX9_right 152 = .ok (.iload 4, 2) := by decide +kernel
theorem dX9_right_154 : decode cX9_right 154 = .ok (.iload 6, 2) := by decide +kernel
theorem dX9_right_156 : decode cX9_right 156 = .ok (.iload 7, 2) := by decide +kernel
theorem dX9_right_158 : decode cX9_right 158 = .ok (.invokestatic 189, 3) := by decide +kernel
theorem dX9_right_161 : decode cX9_right 161 = .ok (.iadd, 1) := by decide +kernel
theorem dX9_right_162 : decode cX9_right 162 = .ok (.iconst 1, 1) := by decide +kernel
theorem dX9_right_163 : decode cX9_right 163 = .ok (.bastore, 1) := by decide +kernel
theorem dX9_right_164 : decode cX9_right 164 = .ok (.iconst 1, 1) := by decide +kernel
theorem dX9_right_165 : decode cX9_right 165 = .ok (.istore 5, 2) := by decide +kernel
theorem dX9_right_167 : decode cX9_right 167 = .ok (.iinc 7 1, 3) := by decide +kernel
theorem dX9_right_170 : decode cX9_right 170 = .ok (.goto (-57), 3) := by decide +kernel
theorem dX9_right_173 : decode cX9_right 173 = .ok (.iinc 6 1, 3) := by decide +kernel
theorem dX9_right_176 : decode cX9_right 176 = .ok (.goto (-74), 3) := by decide +kernel
theorem dX9_right_179 : decode cX9_right 179 = .ok (.iload 5, 2) := by decide +kernel
theorem dX9_right_181 : decode cX9_right 181 = .ok (.ifCond .ne 7, 3) := by decide +kernel
theorem dX9_right_184 : decode cX9_right 184 = .ok (.iload_n 2, 1) := by decide +kernel
theorem dX9_right_185 : decode cX9_right 185 = .ok (.iconst 2, 1) := by decide +kernel
theorem dX9_right_186 : decode cX9_right 186 = .ok (.isub, 1) := by decide +kernel
theorem dX9_right_187 : decode cX9_right 187 = .ok (.ireturn, 1) := by decide +kernel
theorem dX9_right_188 : decode cX9_right 188 = .ok (.iinc 2 1, 3) := by decide +kernel
theorem dX9_right_191 : decode cX9_right 191 = .ok (.goto (-148), 3) := by decide +kernel
theorem dX9_right_194 : decode cX9_right 194 = .ok (.aload_n 0, 1) := by decide +kernel
theorem dX9_right_195 : decode cX9_right 195 = .ok (.getfield 7, 3) := by decide +kernel
theorem dX9_right_198 : decode cX9_right 198 = .ok (.ireturn, 1) := by decide +kernel
theorem dX9_work_0 : decode cX9_work 0 = .ok (.iload_n 1, 1) := by decide +kernel
theorem dX9_work_1 : decode cX9_work 1 = .ok (.iconst 0, 1) := by decide +kernel
theorem dX9_work_2 : decode cX9_work 2 = .ok (.iconst 2, 1) := by decide +kernel
theorem dX9_work_3 : decode cX9_work 3 = .ok (.invokestatic 116, 3) := by decide +kernel
theorem dX9_work_6 : decode cX9_work 6 = .ok (.ifCond .ne 5, 3) := by decide +kernel
theorem dX9_work_9 : decode cX9_work 9 = .ok (.iconst (-1), 1) := by decide +kernel
theorem dX9_work_10 : decode cX9_work 10 = .ok (.ireturn, 1) := by decide +kernel
theorem dX9_work_11 : decode cX9_work 11 = .ok (.aload_n 0, 1) := by decide +kernel
theorem dX9_work_12 : decode cX9_work 12 = .ok (.iload_n 1, 1) := by decide +kernel
theorem dX9_work_13 : decode cX9_work 13 = .ok (.invokevirtual 195, 3) := by decide +kernel
theorem dX9_work_16 : decode cX9_work 16 = .ok (.ldc 162, 2) := by decide +kernel
theorem dX9_work_18 : decode cX9_work 18 = .ok (.if_icmp .lt 6, 3) := by decide +kernel
theorem dX9_work_21 : decode cX9_work 21 = .ok (.bipush (-2), 2) := by decide +kernel
theorem dX9_work_23 : decode cX9_work 23 = .ok (.ireturn, 1) := by decide +kernel
theorem dX9_work_24 : decode cX9_work 24 = .ok (.iconst 0, 1) := by decide +kernel
theorem dX9_work_25 : decode cX9_work 25 = .ok (.istore_n 2, 1) := by decide +kernel
theorem dX9_work_26 : decode cX9_work 26 = .ok (.iconst 0, 1) := by decide +kernel
theorem dX9_work_27 : decode cX9_work 27 = .ok (.istore_n 3, 1) := by decide +kernel
theorem dX9_work_28 : decode cX9_work 28 = .ok (.iload_n 3, 1) := by decide +kernel
theorem dX9_work_29 : decode cX9_work 29 = .ok (.aload_n 0, 1) := by decide +kernel
theorem dX9_work_30 : decode cX9_work 30 = .ok (.getfield 7, 3) := by decide +kernel
theorem dX9_work_33 : decode cX9_work 33 = .ok (.if_icmp .ge 26, 3) := by decide +kernel
theorem dX9_work_36 : decode cX9_work 36 = .ok (.iload_n 2, 1) := by decide +kernel
theorem dX9_work_37 : decode cX9_work 37 = .ok (.aload_n 0, 1) := by decide +kernel
theorem dX9_work_38 : decode cX9_work 38 = .ok (.getfield 83, 3) := by decide +kernel
theorem dX9_work_41 : decode cX9_work 41 = .ok (.iload_n 3, 1) := by decide +kernel
theorem dX9_work_42 : decode cX9_work 42 = .ok (.iaload, 1) := by decide +kernel
theorem dX9_work_43 : decode cX9_work 43 = .ok (.ifCond .le 7, 3) := by decide +kernel
theorem dX9_work_46 : decode cX9_work 46 = .ok (.iconst 1, 1) := by decide +kernel
theorem dX9_work_47 : decode cX9_work 47 = .ok (.goto 4, 3) := by decide +kernel
theorem dX9_work_50 : decode cX9_work 50 = .ok (.iconst 0, 1) := by decide +kernel
theorem dX9_work_51 : decode cX9_work 51 = .ok (.iadd, 1) := by decide +kernel
theorem dX9_work_52 : decode cX9_work 52 = .ok (.istore_n 2, 1) := by decide +kernel
theorem dX9_work_53 : decode cX9_work 53 = .ok (.iinc 3 1, 3) := by decide +kernel
theorem dX9_work_56 : decode cX9_work 56 = .ok (.goto (-28), 3) := by decide +kernel
theorem dX9_work_59 : decode cX9_work 59 = .ok (.aload_n 0, 1) := by decide +kernel
theorem dX9_work_60 : decode cX9_work 60 = .ok (.getfield 113, 3) := by decide +kernel
theorem dX9_work_63 : decode cX9_work 63 = .ok (.iload_n 2, 1) := by decide +kernel
theorem dX9_work_64 : decode cX9_work 64 = .ok (.iadd, 1) := by decide +kernel
theorem dX9_work_65 : decode cX9_work 65 = .ok (.bipush 60, 2) := by decide +kernel
theorem dX9_work_67 : decode cX9_work 67 = .ok (.if_icmp .le 6, 3) := by decide +kernel
theorem dX9_work_70 : decode cX9_work 70 = .ok (.bipush (-3), 2) := by decide +kernel
theorem dX9_work_72 : decode cX9_work 72 = .ok (.ireturn, 1) := by decide +kernel
theorem dX9_work_73 : decode cX9_work 73 = .ok (.iconst 0, 1) := by decide +kernel
theorem dX9_work_74 : decode cX9_work 74 = .ok (.istore_n 3, 1) := by decide +kernel
theorem dX9_work_75 : decode cX9_work 75 = .ok (.iload_n 3, 1) := by decide +kernel
theorem dX9_work_76 : decode cX9_work 76 = .ok (.aload_n 0, 1) := by decide +kernel
theorem dX9_work_77 : decode cX9_work 77 = .ok (.getfield 7, 3) := by decide +kernel
theorem dX9_work_80 : decode cX9_work 80 = .ok (.if_icmp .ge 30, 3) := by decide +kernel
theorem dX9_work_83 : decode cX9_work 83 = .ok (.aload_n 0, 1) := by decide +kernel
theorem dX9_work_84 : decode cX9_work 84 = .ok (.getfield 83, 3) := by decide +kernel
theorem dX9_work_87 : decode cX9_work 87 = .ok (.iload_n 3, 1) := by decide +kernel
theorem dX9_work_88 : decode cX9_work 88 = .ok (.iaload, 1) := by decide +kernel
theorem dX9_work_89 : decode cX9_work 89 = .ok (.ifCond .le 15, 3) := by decide +kernel
theorem dX9_work_92 : decode cX9_work 92 = .ok (.aload_n 0, 1) := by decide +kernel
theorem dX9_work_93 : decode cX9_work 93 = .ok (.iload_n 1, 1) := by decide +kernel
theorem dX9_work_94 : decode cX9_work 94 = .ok (.iload_n 3, 1) := by decide +kernel
theorem dX9_work_95 : decode cX9_work 95 = .ok (.aload_n 0, 1) := by decide +kernel
theorem dX9_work_96 : decode cX9_work 96 = .ok (.getfield 83, 3) := by decide +kernel
theorem dX9_work_99 : decode cX9_work 99 = .ok (.iload_n 3, 1) := by decide +kernel
theorem dX9_work_100 : decode cX9_work 100 = .ok (.iaload, 1) := by decide +kernel
theorem dX9_work_101 : decode cX9_work 101 = .ok (.invokevirtual 175, 3) := by decide +kernel
theorem dX9_work_104 : decode cX9_work 104 = .ok (.iinc 3 1, 3) := by decide +kernel
theorem dX9_work_107 : decode cX9_work 107 = .ok (.goto (-32), 3) := by decide +kernel
theorem dX9_work_110 : decode cX9_work 110 = .ok (.iload_n 2, 1) := by decide +kernel
theorem dX9_work_111 : decode cX9_work 111 = .ok (.ireturn, 1) := by decide +kernel
theorem dX9_bend_0 : decode cX9_bend 0 = .ok (.iload_n 1, 1) := by decide +kernel
theorem dX9_bend_1 : decode cX9_bend 1 = .ok (.iconst 0, 1) := by decide +kernel
theorem dX9_bend_2 : decode cX9_bend 2 = .ok (.bipush 6, 2) := by decide +kernel
theorem dX9_bend_4 : decode cX9_bend 4 = .ok (.invokestatic 116, 3) := by decide +kernel
theorem dX9_bend_7 : decode cX9_bend 7 = .ok (.ifCond .eq 24, 3) := by decide +kernel
theorem dX9_bend_10 : decode cX9_bend 10 = .ok (.aload_n 0, 1) := by decide +kernel
theorem dX9_bend_11 : decode cX9_bend 11 = .ok (.iload_n 2, 1) := by decide +kernel
theorem dX9_bend_12 : decode cX9_bend 12 = .ok (.invokevirtual 130, 3) := by decide +kernel
theorem dX9_bend_15 : decode cX9_bend 15 = .ok (.ifCond .eq 16, 3) := by decide +kernel
theorem dX9_bend_18 : decode cX9_bend 18 = .ok (.iload_n 3, 1) := by decide +kernel
theorem dX9_bend_19 : decode cX9_bend 19 = .ok (.sipush (-500), 3) := by decide +kernel
theorem dX9_bend_22 : decode cX9_bend 22 = .ok (.sipush 500, 3) := by decide +kernel
theorem dX9_bend_25 : decode cX9_bend 25 = .ok (.invokestatic 116, 3) := by decide +kernel
theorem dX9_bend_28 : decode cX9_bend 28 = .ok (.ifCond .ne 7, 3) := by decide +kernel
theorem dX9_bend_31 : decode cX9_bend 31 = .ok (.sipush (-1000), 3) := by decide +kernel
theorem dX9_bend_34 : decode cX9_bend 34 = .ok (.ireturn, 1) := by decide +kernel
theorem dX9_bend_35 : decode cX9_bend 35 = .ok (.aload_n 0, 1) := by decide +kernel
theorem dX9_bend_36 : decode cX9_bend 36 = .ok (.getfield 62, 3) := by decide +kernel
theorem dX9_bend_39 : decode cX9_bend 39 = .ok (.bipush 16, 2) := by decide +kernel
theorem dX9_bend_41 : decode cX9_bend 41 = .ok (.iload_n 1, 1) := by decide +kernel
theorem dX9_bend_42 : decode cX9_bend 42 = .ok (.imul, 1) := by decide +kernel
theorem dX9_bend_43 : decode cX9_bend 43 = .ok (.iload_n 2, 1) := by decide +kernel
theorem dX9_bend_44 : decode cX9_bend 44 = .ok (.iadd, 1) := by decide +kernel
theorem dX9_bend_45 : decode cX9_bend 45 = .ok (.iaload, 1) := by decide +kernel
theorem dX9_bend_46 : decode cX9_bend 46 = .ok (.istore 4, 2) := by decide +kernel
theorem dX9_bend_48 : decode cX9_bend 48 = .ok (.aload_n 0, 1) := by decide +kernel
theorem dX9_bend_49 : decode cX9_bend 49 = .ok (.getfield 62, 3) := by decide +kernel
theorem dX9_bend_52 : decode cX9_bend 52 = .ok (.bipush 16, 2) := by decide +kernel
theorem dX9_bend_54 : decode cX9_bend 54 = .ok (.iload_n 1, 1) := by decide +kernel
theorem dX9_bend_55 : decode cX9_bend 55 = .ok (.imul, 1) := by decide +kernel
theorem dX9_bend_56 : decode cX9_bend 56 = .ok (.iload_n 2, 1) := by decide +kernel
theorem dX9_bend_57 : decode cX9_bend 57 = .ok (.iadd, 1) := by decide +kernel
theorem dX9_bend_58 : decode cX9_bend 58 = .ok (.iload_n 3, 1) := by decide +kernel
theorem dX9_bend_59 : decode cX9_bend 59 = .ok (.iastore, 1) := by decide +kernel
theorem dX9_bend_60 : decode cX9_bend 60 = .ok (.iload 4, 2) := by decide +kernel
theorem dX9_bend_62 : decode cX9_bend 62 = .ok (.ireturn, 1) := by decide +kernel
theorem dX9_spreads_0 : decode cX9_spreads 0 = .ok (.iconst 0, 1) := by decide +kernel
theorem dX9_spreads_1 : decode cX9_spreads 1 = .ok (.istore_n 1, 1) := by decide +kernel
theorem dX9_spreads_2 : decode cX9_spreads 2 = .ok (.iconst 0, 1) := by decide +kernel
theorem dX9_spreads_3 : decode cX9_spreads 3 = .ok (.istore_n 2, 1) := by decide +kernel
theorem dX9_spreads_4 : decode cX9_spreads 4 = .ok (.iload_n 2, 1) := by decide +kernel
theorem dX9_spreads_5 : decode cX9_spreads 5 = .ok (.bipush 6, 2) := by decide +kernel
theorem dX9_spreads_7 : decode cX9_spreads 7 = .ok (.if_icmp .ge 26, 3) := by decide +kernel
theorem dX9_spreads_10 : decode cX9_spreads 10 = .ok (.iload_n 1, 1) := by decide +kernel
theorem dX9_spreads_11 : decode cX9_spreads 11 = .ok (.aload_n 0, 1) := by decide +kernel
theorem dX9_spreads_12 : decode cX9_spreads 12 = .ok (.getfield 90, 3) := by decide +kernel
theorem dX9_spreads_15 : decode cX9_spreads 15 = .ok (.iload_n 2, 1) := by decide +kernel
theorem dX9_spreads_16 : decode cX9_spreads 16 = .ok (.iaload, 1) := by decide +kernel
theorem dX9_spreads_17 : decode cX9_spreads 17 = .ok (.ifCond .le 7, 3) := by decide +kernel
theorem dX9_spreads_20 : decode cX9_spreads 20 = .ok (.iconst 1, 1) := by decide +kernel
theorem dX9_spreads_21 : decode cX9_spreads 21 = .ok (.goto 4, 3) := by decide +kernel
theorem dX9_spreads_24 : decode cX9_spreads 24 = .ok (.iconst 0, 1) := by decide +kernel
theorem dX9_spreads_25 : decode cX9_spreads 25 = .ok (.iadd, 1) := by decide +kernel
theorem dX9_spreads_26 : decode cX9_spreads 26 = .ok (.istore_n 1, 1) := by decide +kernel
theorem dX9_spreads_27 : decode cX9_spreads 27 = .ok (.iinc 2 1, 3) := by decide +kernel
theorem dX9_spreads_30 : decode cX9_spreads 30 = .ok (.goto (-26), 3) := by decide +kernel
theorem dX9_spreads_33 : decode cX9_spreads 33 = .ok (.iload_n 1, 1) := by decide +kernel
theorem dX9_spreads_34 : decode cX9_spreads 34 = .ok (.iconst 3, 1) := by decide +kernel
theorem dX9_spreads_35 : decode cX9_spreads 35 = .ok (.if_icmp .le 4, 3) := by decide +kernel
theorem dX9_spreads_38 : decode cX9_spreads 38 = .ok (.return_, 1) := by decide +kernel
theorem dX9_spreads_39 : decode cX9_spreads 39 = .ok (.ldc 162, 2) := by decide +kernel
theorem dX9_spreads_41 : decode cX9_spreads 41 = .ok (.istore_n 2, 1) := by decide +kernel
theorem dX9_spreads_42 : decode cX9_spreads 42 = .ok (.ldc 136, 2) := by decide +kernel
theorem dX9_spreads_44 : decode cX9_spreads 44 = .ok (.istore_n 3, 1) := by decide +kernel
theorem dX9_spreads_45 : decode cX9_spreads 45 = .ok (.iconst 0, 1) := by decide +kernel
theorem dX9_spreads_46 : decode cX9_spreads 46 = .ok (.istore 4, 2) := by decide +kernel
theorem dX9_spreads_48 : decode cX9_spreads 48 = .ok (.iload 4, 2) := by decide +kernel
theorem dX9_spreads_50 : decode cX9_spreads 50 = .ok (.aload_n 0, 1) := by decide +kernel
theorem dX9_spreads_51 : decode cX9_spreads 51 = .ok (.getfield 7, 3) := by decide +kernel
theorem dX9_spreads_54 : decode cX9_spreads 54 = .ok (.if_icmp .ge 92, 3) := by decide +kernel
theorem dX9_spreads_57 : decode cX9_spreads 57 = .ok (.bipush 12, 2) := by decide +kernel
theorem dX9_spreads_59 : decode cX9_spreads 59 = .ok (.aload_n 0, 1) := by decide +kernel
theorem dX9_spreads_60 : decode cX9_spreads 60 = .ok (.getfield 62, 3) := by decide +kernel
theorem dX9_spreads_63 : decode cX9_spreads 63 = .ok (.bipush 96, 2) := by decide +kernel
theorem dX9_spreads_65 : decode cX9_spreads 65 = .ok (.iload 4, 2) := by decide +kernel
theorem dX9_spreads_67 : decode cX9_spreads 67 = .ok (.iadd, 1) := by decide +kernel
theorem dX9_spreads_68 : decode cX9_spreads 68 = .ok (.iaload, 1) := by decide +kernel
theorem dX9_spreads_69 : decode cX9_spreads 69 = .ok (.imul, 1) := by decide +kernel
theorem dX9_spreads_70 : decode cX9_spreads 70 = .ok (.istore 5, 2) := by decide +kernel
theorem dX9_spreads_72 : decode cX9_spreads 72 = .ok (.iconst 0, 1) := by decide +kernel
theorem dX9_spreads_73 : decode cX9_spreads 73 = .ok (.istore 6, 2) := by decide +kernel
theorem dX9_spreads_75 : decode cX9_spreads 75 = .ok (.iload 6, 2) := by decide +kernel
theorem dX9_spreads_77 : decode cX9_spreads 77 = .ok (.bipush 6, 2) := by decide +kernel
theorem dX9_spreads_79 : decode cX9_spreads 79 = .ok (.if_icmp .ge 35, 3) := by decide +kernel
theorem dX9_spreads_82 : decode cX9_spreads 82 = .ok (.iload 5, 2) := by decide +kernel
theorem dX9_spreads_84 : decode cX9_spreads 84 = .ok (.aload_n 0, 1) := by decide +kernel
theorem dX9_spreads_85 : decode cX9_spreads 85 = .ok (.getfield 90, 3) := by decide +kernel
theorem dX9_spreads_88 : decode cX9_spreads 88 = .ok (.iload 6, 2) := by decide +kernel
theorem dX9_spreads_90 : decode cX9_spreads 90 = .ok (.iaload, 1) := by decide +kernel
theorem dX9_spreads_91 : decode cX9_spreads 91 = .ok (.aload_n 0, 1) := by decide +kernel
theorem dX9_spreads_92 : decode cX9_spreads 92 = .ok (.getfield 62, 3) := by decide +kernel
theorem dX9_spreads_95 : decode cX9_spreads 95 = .ok (.bipush 16, 2) := by decide +kernel
theorem dX9_spreads_97 : decode cX9_spreads 97 = .ok (.iload 6, 2) := by decide +kernel
theorem dX9_spreads_99 : decode cX9_spreads 99 = .ok (.imul, 1) := by decide +kernel
theorem dX9_spreads_100 : decode cX9_spreads 100 = .ok (.iload 4, 2) := by decide +kernel
theorem dX9_spreads_102 : decode cX9_spreads 102 = .ok (.iadd, 1) := by decide +kernel
theorem dX9_spreads_103 : decode cX9_spreads 103 = .ok (.iaload, 1) := by decide +kernel
theorem dX9_spreads_104 : decode cX9_spreads 104 = .ok (.imul, 1) := by decide +kernel
theorem dX9_spreads_105 : decode cX9_spreads 105 = .ok (.isub, 1) := by decide +kernel
theorem dX9_spreads_106 : decode cX9_spreads 106 = .ok (.istore 5, 2) := by decide +kernel
theorem dX9_spreads_108 : decode cX9_spreads 108 = .ok (.iinc 6 1, 3) := by decide +kernel
theorem dX9_spreads_111 : decode cX9_spreads 111 = .ok (.goto (-36), 3) := by decide +kernel
theorem dX9_spreads_114 : decode cX9_spreads 114 = .ok (.iload 5, 2) := by decide +kernel
theorem dX9_spreads_116 : decode cX9_spreads 116 = .ok (.iload_n 2, 1) := by decide +kernel
theorem dX9_spreads_117 : decode cX9_spreads 117 = .ok (.if_icmp .ge 8, 3) := by decide +kernel
theorem dX9_spreads_120 : decode cX9_spreads 120 = .ok (.iload 5, 2) := by decide +kernel
theorem dX9_spreads_122 : decode cX9_spreads 122 = .ok (.goto 4, 3) := by decide +kernel
theorem dX9_spreads_125 : decode cX9_spreads 125 = .ok (.iload_n 2, 1) := by decide +kernel
theorem dX9_spreads_126 : decode cX9_spreads 126 = .ok (.istore_n 2, 1) := by decide +kernel
theorem dX9_spreads_127 : decode cX9_spreads 127 = .ok (.iload 5, 2) := by decide +kernel
theorem dX9_spreads_129 : decode cX9_spreads 129 = .ok (.iload_n 3, 1) := by decide +kernel
theorem dX9_spreads_130 : decode cX9_spreads 130 = .ok (.if_icmp .le 8, 3) := by decide +kernel
theorem dX9_spreads_133 : decode cX9_spreads 133 = .ok (.iload 5, 2) := by decide +kernel
theorem dX9_spreads_135 : decode cX9_spreads 135 = .ok (.goto 4, 3) := by decide +kernel
theorem dX9_spreads_138 : decode cX9_spreads 138 = .ok (.iload_n 3, 1) := by decide +kernel
theorem dX9_spreads_139 : decode cX9_spreads 139 = .ok (.istore_n 3, 1) := by decide +kernel
theorem dX9_spreads_140 : decode cX9_spreads 140 = .ok (.iinc 4 1, 3) := by decide +kernel
theorem dX9_spreads_143 : decode cX9_spreads 143 = .ok (.goto (-95), 3) := by decide +kernel
theorem dX9_spreads_146 : decode cX9_spreads 146 = .ok (.iload_n 3, 1) := by decide +kernel
theorem dX9_spreads_147 : decode cX9_spreads 147 = .ok (.iload_n 2, 1) := by decide +kernel
theorem dX9_spreads_148 : decode cX9_spreads 148 = .ok (.isub, 1) := by decide +kernel
theorem dX9_spreads_149 : decode cX9_spreads 149 = .ok (.aload_n 0, 1) := by decide +kernel
theorem dX9_spreads_150 : decode cX9_spreads 150 = .ok (.getfield 198, 3) := by decide +kernel
theorem dX9_spreads_153 : decode cX9_spreads 153 = .ok (.if_icmp .ge 40, 3) := by decide +kernel
theorem dX9_spreads_156 : decode cX9_spreads 156 = .ok (.aload_n 0, 1) := by decide +kernel
theorem dX9_spreads_157 : decode cX9_spreads 157 = .ok (.iload_n 3, 1) := by decide +kernel
theorem dX9_spreads_158 : decode cX9_spreads 158 = .ok (.iload_n 2, 1) := by decide +kernel
theorem dX9_spreads_159 : decode cX9_spreads 159 = .ok (.isub, 1) := by decide +kernel
theorem dX9_spreads_160 : decode cX9_spreads 160 = .ok (.putfield 198, 3) := by decide +kernel
theorem dX9_spreads_163 : decode cX9_spreads 163 = .ok (.iconst 0, 1) := by decide +kernel
theorem dX9_spreads_164 : decode cX9_spreads 164 = .ok (.istore 4, 2) := by decide +kernel
theorem dX9_spreads_166 : decode cX9_spreads 166 = .ok (.iload 4, 2) := by decide +kernel
theorem dX9_spreads_168 : decode cX9_spreads 168 = .ok (.bipush 6, 2) := by decide +kernel
theorem dX9_spreads_170 : decode cX9_spreads 170 = .ok (.if_icmp .ge 23, 3) := by decide +kernel
theorem dX9_spreads_173 : decode cX9_spreads 173 = .ok (.aload_n 0, 1) := by decide +kernel
theorem dX9_spreads_174 : decode cX9_spreads 174 = .ok (.getfield 93, 3) := by decide +kernel
theorem dX9_spreads_177 : decode cX9_spreads 177 = .ok (.iload 4, 2) := by decide +kernel
theorem dX9_spreads_179 : decode cX9_spreads 179 = .ok (.aload_n 0, 1) := by decide +kernel
theorem dX9_spreads_180 : decode cX9_spreads 180 = .ok (.getfield 90, 3) := by decide +kernel
theorem dX9_spreads_183 : decode cX9_spreads 183 = .ok (.iload 4, 2) := by decide +kernel
theorem dX9_spreads_185 : decode cX9_spreads 185 = .ok (.iaload, 1) := by decide +kernel
theorem dX9_spreads_186 : decode cX9_spreads 186 = .ok (.iastore, 1) := by decide +kernel
theorem dX9_spreads_187 : decode cX9_spreads 187 = .ok (.iinc 4 1, 3) := by decide +kernel
theorem dX9_spreads_190 : decode cX9_spreads 190 = .ok (.goto (-24), 3) := by decide +kernel
theorem dX9_spreads_193 : decode cX9_spreads 193 = .ok (.return_, 1) := by decide +kernel
theorem dX9_bear_0 : decode cX9_bear 0 = .ok (.iload_n 1, 1) := by decide +kernel
theorem dX9_bear_1 : decode cX9_bear 1 = .ok (.iconst (-1), 1) := by decide +kernel
theorem dX9_bear_2 : decode cX9_bear 2 = .ok (.iconst 5, 1) := by decide +kernel
theorem dX9_bear_3 : decode cX9_bear 3 = .ok (.invokestatic 116, 3) := by decide +kernel
theorem dX9_bear_6 : decode cX9_bear 6 = .ok (.ifCond .ne 5, 3) := by decide +kernel
theorem dX9_bear_9 : decode cX9_bear 9 = .ok (.iconst (-1), 1) := by decide +kernel
theorem dX9_bear_10 : decode cX9_bear 10 = .ok (.ireturn, 1) := by decide +kernel
theorem dX9_bear_11 : decode cX9_bear 11 = .ok (.aload_n 0, 1) := by decide +kernel
theorem dX9_bear_12 : decode cX9_bear 12 = .ok (.ldc 162, 2) := by decide +kernel
theorem dX9_bear_14 : decode cX9_bear 14 = .ok (.putfield 198, 3) := by decide +kernel
theorem dX9_bear_17 : decode cX9_bear 17 = .ok (.bipush 12, 2) := by decide +kernel
theorem dX9_bear_19 : decode cX9_bear 19 = .ok (.istore_n 2, 1) := by decide +kernel
theorem dX9_bear_20 : decode cX9_bear 20 = .ok (.iload_n 2, 1) := by decide +kernel
theorem dX9_bear_21 : decode cX9_bear 21 = .ok (.ifCond .lt 153, 3) := by decide +kernel
theorem dX9_bear_24 : decode cX9_bear 24 = .ok (.bipush 12, 2) := by decide +kernel
theorem dX9_bear_26 : decode cX9_bear 26 = .ok (.iload_n 2, 1) := by decide +kernel
theorem dX9_bear_27 : decode cX9_bear 27 = .ok (.isub, 1) := by decide +kernel
theorem dX9_bear_28 : decode cX9_bear 28 = .ok (.istore_n 3, 1) := by decide +kernel
theorem dX9_bear_29 : decode cX9_bear 29 = .ok (.iload_n 3, 1) := by decide +kernel
theorem dX9_bear_30 : decode cX9_bear 30 = .ok (.ifCond .lt 138, 3) := by decide +kernel
theorem dX9_bear_33 : decode cX9_bear 33 = .ok (.bipush 12, 2) := by decide +kernel
theorem dX9_bear_35 : decode cX9_bear 35 = .ok (.iload_n 2, 1) := by decide +kernel
theorem dX9_bear_36 : decode cX9_bear 36 = .ok (.isub, 1) := by decide +kernel
theorem dX9_bear_37 : decode cX9_bear 37 = .ok (.iload_n 3, 1) := by decide +kernel
theorem dX9_bear_38 : decode cX9_bear 38 = .ok (.isub, 1) := by decide +kernel
theorem dX9_bear_39 : decode cX9_bear 39 = .ok (.istore 4, 2) := by decide +kernel
theorem dX9_bear_41 : decode cX9_bear 41 = .ok (.iload 4, 2) := by decide +kernel
theorem dX9_bear_43 : decode cX9_bear 43 = .ok (.ifCond .lt 119, 3) := by decide +kernel
theorem dX9_bear_46 : decode cX9_bear 46 = .ok (.bipush 12, 2) := by decide +kernel
theorem dX9_bear_48 : decode cX9_bear 48 = .ok (.iload_n 2, 1) := by decide +kernel
theorem dX9_bear_49 : decode cX9_bear 49 = .ok (.isub, 1) := by decide +kernel
theorem dX9_bear_50 : decode cX9_bear 50 = .ok (.iload_n 3, 1) := by decide +kernel
theorem dX9_bear_51 : decode cX9_bear 51 = .ok (.isub, 1) := by decide +kernel
theorem dX9_bear_52 : decode cX9_bear 52 = .ok (.iload 4, 2) := by decide +kernel
theorem dX9_bear_54 : decode cX9_bear 54 = .ok (.isub, 1) := by decide +kernel
theorem dX9_bear_55 : decode cX9_bear 55 = .ok (.istore 5, 2) := by decide +kernel
theorem dX9_bear_57 : decode cX9_bear 57 = .ok (.iload 5, 2) := by decide +kernel
theorem dX9_bear_59 : decode cX9_bear 59 = .ok (.ifCond .lt 97, 3) := by decide +kernel
theorem dX9_bear_62 : decode cX9_bear 62 = .ok (.bipush 12, 2) := by decide +kernel
theorem dX9_bear_64 : decode cX9_bear 64 = .ok (.iload_n 2, 1) := by decide +kernel
theorem dX9_bear_65 : decode cX9_bear 65 = .ok (.isub, 1) := by decide +kernel
theorem dX9_bear_66 : decode cX9_bear 66 = .ok (.iload_n 3, 1) := by decide +kernel
theorem dX9_bear_67 : decode cX9_bear 67 = .ok (.isub, 1) := by decide +kernel
theorem dX9_bear_68 : decode cX9_bear 68 = .ok (.iload 4, 2) := by decide +kernel
theorem dX9_bear_70 : decode cX9_bear 70 = .ok (.isub, 1) := by decide +kernel
theorem dX9_bear_71 : decode cX9_bear 71 = .ok (.iload 5, 2) := by decide +kernel
theorem dX9_bear_73 : decode cX9_bear 73 = .ok (.isub, 1) := by decide +kernel
theorem dX9_bear_74 : decode cX9_bear 74 = .ok (.istore 6, 2) := by decide +kernel
theorem dX9_bear_76 : decode cX9_bear 76 = .ok (.iload 6, 2) := by decide +kernel
theorem dX9_bear_78 : decode cX9_bear 78 = .ok (.ifCond .lt 72, 3) := by decide +kernel
theorem dX9_bear_81 : decode cX9_bear 81 = .ok (.aload_n 0, 1) := by decide +kernel
theorem dX9_bear_82 : decode cX9_bear 82 = .ok (.getfield 90, 3) := by decide +kernel
theorem dX9_bear_85 : decode cX9_bear 85 = .ok (.iconst 0, 1) := by decide +kernel
theorem dX9_bear_86 : decode cX9_bear 86 = .ok (.iload_n 2, 1) := by decide +kernel
theorem dX9_bear_87 : decode cX9_bear 87 = .ok (.iastore, 1) := by decide +kernel
theorem dX9_bear_88 : decode cX9_bear 88 = .ok (.aload_n 0, 1) := by decide +kernel
theorem dX9_bear_89 : decode cX9_bear 89 = .ok (.getfield 90, 3) := by decide +kernel
theorem dX9_bear_92 : decode cX9_bear 92 = .ok (.iconst 1, 1) := by decide +kernel
theorem dX9_bear_93 : decode cX9_bear 93 = .ok (.iload_n 3, 1) := by decide +kernel
theorem dX9_bear_94 : decode cX9_bear 94 = .ok (.iastore, 1) := by decide +kernel
theorem dX9_bear_95 : decode cX9_bear 95 = .ok (.aload_n 0, 1) := by decide +kernel
theorem dX9_bear_96 : decode cX9_bear 96 = .ok (.getfield 90, 3) := by decide +kernel
theorem dX9_bear_99 : decode cX9_bear 99 = .ok (.iconst 2, 1) := by decide +kernel
theorem dX9_bear_100 : decode cX9_bear 100 = .ok (.iload 4, 2) := by decide +kernel
theorem dX9_bear_102 : decode cX9_bear 102 = .ok (.iastore, 1) := by decide +kernel
theorem dX9_bear_103 : decode cX9_bear 103 = .ok (.aload_n 0, 1) := by decide +kernel
theorem dX9_bear_104 : decode cX9_bear 104 = .ok (.getfield 90, 3) := by decide +kernel
theorem dX9_bear_107 : decode cX9_bear 107 = .ok (.iconst 3, 1) := by decide +kernel
theorem dX9_bear_108 : decode cX9_bear 108 = .ok (.iload 5, 2) := by decide +kernel
theorem dX9_bear_110 : decode cX9_bear 110 = .ok (.iastore, 1) := by decide +kernel
theorem dX9_bear_111 : decode cX9_bear 111 = .ok (.aload_n 0, 1) := by decide +kernel
theorem dX9_bear_112 : decode cX9_bear 112 = .ok (.getfield 90, 3) := by decide +kernel
theorem dX9_bear_115 : decode cX9_bear 115 = .ok (.iconst 4, 1) := by decide +kernel
theorem dX9_bear_116 : decode cX9_bear 116 = .ok (.iload 6, 2) := by decide +kernel
theorem dX9_bear_118 : decode cX9_bear 118 = .ok (.iastore, 1) := by decide +kernel
theorem dX9_bear_119 : decode cX9_bear 119 = .ok (.aload_n 0, 1) := by decide +kernel
theorem dX9_bear_120 : decode cX9_bear 120 = .ok (.getfield 90, 3) := by decide +kernel
theorem dX9_bear_123 : decode cX9_bear 123 = .ok (.iconst 5, 1) := by decide +kernel
theorem dX9_bear_124 : decode cX9_bear 124 = .ok (.bipush 12, 2) := by decide +kernel
theorem dX9_bear_126 : decode cX9_bear 126 = .ok (.iload_n 2, 1) := by decide +kernel
theorem dX9_bear_127 : decode cX9_bear 127 = .ok (.isub, 1) := by decide +kernel
theorem dX9_bear_128 : decode cX9_bear 128 = .ok (.iload_n 3, 1) := by decide +kernel
theorem dX9_bear_129 : decode cX9_bear 129 = .ok (.isub, 1) := by decide +kernel
theorem dX9_bear_130 : decode cX9_bear 130 = .ok (.iload 4, 2) := by decide +kernel
theorem dX9_bear_132 : decode cX9_bear 132 = .ok (.isub, 1) := by decide +kernel
theorem dX9_bear_133 : decode cX9_bear 133 = .ok (.iload 5, 2) := by decide +kernel
theorem dX9_bear_135 : decode cX9_bear 135 = .ok (.isub, 1) := by decide +kernel
theorem dX9_bear_136 : decode cX9_bear 136 = .ok (.iload 6, 2) := by decide +kernel
theorem dX9_bear_138 : decode cX9_bear 138 = .ok (.isub, 1) := by decide +kernel
theorem dX9_bear_139 : decode cX9_bear 139 = .ok (.iastore, 1) := by decide +kernel
theorem dX9_bear_140 : decode cX9_bear 140 = .ok (.aload_n 0, 1) := by decide +kernel
theorem dX9_bear_141 : decode cX9_bear 141 = .ok (.invokevirtual 201, 3) := by decide +kernel
theorem dX9_bear_144 : decode cX9_bear 144 = .ok (.iinc 6 (-1), 3) := by decide +kernel
theorem dX9_bear_147 : decode cX9_bear 147 = .ok (.goto (-71), 3) := by decide +kernel
theorem dX9_bear_150 : decode cX9_bear 150 = .ok (.iinc 5 (-1), 3) := by decide +kernel
theorem dX9_bear_153 : decode cX9_bear 153 = .ok (.goto (-96), 3) := by decide +kernel
theorem dX9_bear_156 : decode cX9_bear 156 = .ok (.iinc 4 (-1), 3) := by decide +kernel
theorem dX9_bear_159 : decode cX9_bear 159 = .ok (.goto (-118), 3) := by decide +kernel
theorem dX9_bear_162 : decode cX9_bear 162 = .ok (.iinc 3 (-1), 3) := by decide +kernel
theorem dX9_bear_165 : decode cX9_bear 165 = .ok (.goto (-136), 3) := by decide +kernel
theorem dX9_bear_168 : decode cX9_bear 168 = .ok (.iinc 2 (-1), 3) := by decide +kernel
theorem dX9_bear_171 : decode cX9_bear 171 = .ok (.goto (-151), 3) := by decide +kernel
theorem dX9_bear_174 : decode cX9_bear 174 = .ok (.iload_n 1, 1) := by decide +kernel
theorem dX9_bear_175 : decode cX9_bear 175 = .ok (.ifCond .ge 10, 3) := by decide +kernel
theorem dX9_bear_178 : decode cX9_bear 178 = .ok (.aload_n 0, 1) := by decide +kernel
theorem dX9_bear_179 : decode cX9_bear 179 = .ok (.getfield 198, 3) := by decide +kernel
theorem dX9_bear_182 : decode cX9_bear 182 = .ok (.goto 9, 3) := by decide +kernel
theorem dX9_bear_185 : decode cX9_bear 185 = .ok (.aload_n 0, 1) := by decide +kernel
theorem dX9_bear_186 : decode cX9_bear 186 = .ok (.getfield 93, 3) := by decide +kernel
theorem dX9_bear_189 : decode cX9_bear 189 = .ok (.iload_n 1, 1) := by decide +kernel
theorem dX9_bear_190 : decode cX9_bear 190 = .ok (.iaload, 1) := by decide +kernel
theorem dX9_bear_191 : decode cX9_bear 191 = .ok (.ireturn, 1) := by decide +kernel
theorem dX9_warm_0 : decode cX9_warm 0 = .ok (.iload_n 1, 1) := by decide +kernel
theorem dX9_warm_1 : decode cX9_warm 1 = .ok (.iconst 0, 1) := by decide +kernel
theorem dX9_warm_2 : decode cX9_warm 2 = .ok (.bipush 8, 2) := by decide +kernel
theorem dX9_warm_4 : decode cX9_warm 4 = .ok (.invokestatic 116, 3) := by decide +kernel
theorem dX9_warm_7 : decode cX9_warm 7 = .ok (.ifCond .eq 14, 3) := by decide +kernel
theorem dX9_warm_10 : decode cX9_warm 10 = .ok (.iload_n 2, 1) := by decide +kernel
theorem dX9_warm_11 : decode cX9_warm 11 = .ok (.ldc 134, 2) := by decide +kernel
theorem dX9_warm_13 : decode cX9_warm 13 = .ok (.ldc 135, 2) := by decide +kernel
theorem dX9_warm_15 : decode cX9_warm 15 = .ok (.invokestatic 116, 3) := by decide +kernel
theorem dX9_warm_18 : decode cX9_warm 18 = .ok (.ifCond .ne 6, 3) := by decide +kernel
theorem dX9_warm_21 : decode cX9_warm 21 = .ok (.ldc 136, 2) := by decide +kernel
theorem dX9_warm_23 : decode cX9_warm 23 = .ok (.ireturn, 1) := by decide +kernel
theorem dX9_warm_24 : decode cX9_warm 24 = .ok (.aload_n 0, 1) := by decide +kernel
theorem dX9_warm_25 : decode cX9_warm 25 = .ok (.getfield 65, 3) := by decide +kernel
theorem dX9_warm_28 : decode cX9_warm 28 = .ok (.iload_n 1, 1) := by decide +kernel
theorem dX9_warm_29 : decode cX9_warm 29 = .ok (.iaload, 1) := by decide +kernel
theorem dX9_warm_30 : decode cX9_warm 30 = .ok (.istore_n 3, 1) := by decide +kernel
theorem dX9_warm_31 : decode cX9_warm 31 = .ok (.aload_n 0, 1) := by decide +kernel
theorem dX9_warm_32 : decode cX9_warm 32 = .ok (.getfield 65, 3) := by decide +kernel
theorem dX9_warm_35 : decode cX9_warm 35 = .ok (.iload_n 1, 1) := by decide +kernel
theorem dX9_warm_36 : decode cX9_warm 36 = .ok (.iload_n 2, 1) := by decide +kernel
theorem dX9_warm_37 : decode cX9_warm 37 = .ok (.iastore, 1) := by decide +kernel
theorem dX9_warm_38 : decode cX9_warm 38 = .ok (.iload_n 3, 1) := by decide +kernel
theorem dX9_warm_39 : decode cX9_warm 39 = .ok (.ireturn, 1) := by decide +kernel
theorem dX9_down_0 : decode cX9_down 0 = .ok (.iload_n 0, 1) := by decide +kernel
theorem dX9_down_1 : decode cX9_down 1 = .ok (.ifCond .lt 9, 3) := by decide +kernel
theorem dX9_down_4 : decode cX9_down 4 = .ok (.iload_n 0, 1) := by decide +kernel
theorem dX9_down_5 : decode cX9_down 5 = .ok (.iload_n 1, 1) := by decide +kernel
theorem dX9_down_6 : decode cX9_down 6 = .ok (.idiv, 1) := by decide +kernel
theorem dX9_down_7 : decode cX9_down 7 = .ok (.goto 11, 3) := by decide +kernel
theorem dX9_down_10 : decode cX9_down 10 = .ok (.iload_n 1, 1) := by decide +kernel
theorem dX9_down_11 : decode cX9_down 11 = .ok (.iconst 1, 1) := by decide +kernel
theorem dX9_down_12 : decode cX9_down 12 = .ok (.isub, 1) := by decide +kernel
theorem dX9_down_13 : decode cX9_down 13 = .ok (.iload_n 0, 1) := by decide +kernel
theorem dX9_down_14 : decode cX9_down 14 = .ok (.isub, 1) := by decide +kernel
theorem dX9_down_15 : decode cX9_down 15 = .ok (.iload_n 1, 1) := by decide +kernel
theorem dX9_down_16 : decode cX9_down 16 = .ok (.idiv, 1) := by decide +kernel
theorem dX9_down_17 : decode cX9_down 17 = .ok (.ineg, 1) := by decide +kernel
theorem dX9_down_18 : decode cX9_down 18 = .ok (.ireturn, 1) := by decide +kernel
theorem dX9_passes_0 : decode cX9_passes 0 = .ok (.aload_n 0, 1) := by decide +kernel
theorem dX9_passes_1 : decode cX9_passes 1 = .ok (.getfield 96, 3) := by decide +kernel
theorem dX9_passes_4 : decode cX9_passes 4 = .ok (.iconst 0, 1) := by decide +kernel
theorem dX9_passes_5 : decode cX9_passes 5 = .ok (.aload_n 0, 1) := by decide +kernel
theorem dX9_passes_6 : decode cX9_passes 6 = .ok (.getfield 65, 3) := by decide +kernel
theorem dX9_passes_9 : decode cX9_passes 9 = .ok (.bipush 8, 2) := by decide +kernel
theorem dX9_passes_11 : decode cX9_passes 11 = .ok (.iaload, 1) := by decide +kernel
theorem dX9_passes_12 : decode cX9_passes 12 = .ok (.iastore, 1) := by decide +kernel
theorem dX9_passes_13 : decode cX9_passes 13 = .ok (.aload_n 0, 1) := by decide +kernel
theorem dX9_passes_14 : decode cX9_passes 14 = .ok (.getfield 96, 3) := by decide +kernel
theorem dX9_passes_17 : decode cX9_passes 17 = .ok (.bipush 9, 2) := by decide +kernel
theorem dX9_passes_19 : decode cX9_passes 19 = .ok (.aload_n 0, 1) := by decide +kernel
theorem dX9_passes_20 : decode cX9_passes 20 = .ok (.getfield 65, 3) := by decide +kernel
theorem dX9_passes_23 : decode cX9_passes 23 = .ok (.bipush 8, 2) := by decide +kernel
theorem dX9_passes_25 : decode cX9_passes 25 = .ok (.iaload, 1) := by decide +kernel
theorem dX9_passes_26 : decode cX9_passes 26 = .ok (.iastore, 1) := by decide +kernel
theorem dX9_passes_27 : decode cX9_passes 27 = .ok (.iconst 0, 1) := by decide +kernel
theorem dX9_passes_28 : decode cX9_passes 28 = .ok (.istore_n 1, 1) := by decide +kernel
theorem dX9_passes_29 : decode cX9_passes 29 = .ok (.iload_n 1, 1) := by decide +kernel
theorem dX9_passes_30 : decode cX9_passes 30 = .ok (.bipush 8, 2) := by decide +kernel
theorem dX9_passes_32 : decode cX9_passes 32 = .ok (.if_icmp .ge 23, 3) := by decide +kernel
theorem dX9_passes_35 : decode cX9_passes 35 = .ok (.aload_n 0, 1) := by decide +kernel
theorem dX9_passes_36 : decode cX9_passes 36 = .ok (.getfield 96, 3) := by decide +kernel
theorem dX9_passes_39 : decode cX9_passes 39 = .ok (.iload_n 1, 1) := by decide +kernel
theorem dX9_passes_40 : decode cX9_passes 40 = .ok (.iconst 1, 1) := by decide +kernel
theorem dX9_passes_41 : decode cX9_passes 41 = .ok (.iadd, 1) := by decide +kernel
theorem dX9_passes_42 : decode cX9_passes 42 = .ok (.aload_n 0, 1) := by decide +kernel
theorem dX9_passes_43 : decode cX9_passes 43 = .ok (.getfield 65, 3) := by decide +kernel
theorem dX9_passes_46 : decode cX9_passes 46 = .ok (.iload_n 1, 1) := by decide +kernel
theorem dX9_passes_47 : decode cX9_passes 47 = .ok (.iaload, 1) := by decide +kernel
theorem dX9_passes_48 : decode cX9_passes 48 = .ok (.iastore, 1) := by decide +kernel
theorem dX9_passes_49 : decode cX9_passes 49 = .ok (.iinc 1 1, 3) := by decide +kernel
theorem dX9_passes_52 : decode cX9_passes 52 = .ok (.goto (-23), 3) := by decide +kernel
theorem dX9_passes_55 : decode cX9_passes 55 = .ok (.iconst 0, 1) := by decide +kernel
theorem dX9_passes_56 : decode cX9_passes 56 = .ok (.istore_n 1, 1) := by decide +kernel
theorem dX9_passes_57 : decode cX9_passes 57 = .ok (.iload_n 1, 1) := by decide +kernel
theorem dX9_passes_58 : decode cX9_passes 58 = .ok (.bipush 8, 2) := by decide +kernel
theorem dX9_passes_60 : decode cX9_passes 60 = .ok (.if_icmp .ge 48, 3) := by decide +kernel
theorem dX9_passes_63 : decode cX9_passes 63 = .ok (.aload_n 0, 1) := by decide +kernel
theorem dX9_passes_64 : decode cX9_passes 64 = .ok (.getfield 65, 3) := by decide +kernel
theorem dX9_passes_67 : decode cX9_passes 67 = .ok (.iload_n 1, 1) := by decide +kernel
theorem dX9_passes_68 : decode cX9_passes 68 = .ok (.dup2, 1) := by decide +kernel
theorem dX9_passes_69 : decode cX9_passes 69 = .ok (.iaload, 1) := by decide +kernel
theorem dX9_passes_70 : decode cX9_passes 70 = .ok (.aload_n 0, 1) := by decide +kernel
theorem dX9_passes_71 : decode cX9_passes 71 = .ok (.getfield 96, 3) := by decide +kernel
theorem dX9_passes_74 : decode cX9_passes 74 = .ok (.iload_n 1, 1) := by decide +kernel
theorem dX9_passes_75 : decode cX9_passes 75 = .ok (.iaload, 1) := by decide +kernel
theorem dX9_passes_76 : decode cX9_passes 76 = .ok (.aload_n 0, 1) := by decide +kernel
theorem dX9_passes_77 : decode cX9_passes 77 = .ok (.getfield 96, 3) := by decide +kernel
theorem dX9_passes_80 : decode cX9_passes 80 = .ok (.iload_n 1, 1) := by decide +kernel
theorem dX9_passes_81 : decode cX9_passes 81 = .ok (.iconst 2, 1) := by decide +kernel
theorem dX9_passes_82 : decode cX9_passes 82 = .ok (.iadd, 1) := by decide +kernel
theorem dX9_passes_83 : decode cX9_passes 83 = .ok (.iaload, 1) := by decide +kernel
theorem dX9_passes_84 : decode cX9_passes 84 = .ok (.iadd, 1) := by decide +kernel
theorem dX9_passes_85 : decode cX9_passes 85 = .ok (.iconst 2, 1) := by decide +kernel
theorem dX9_passes_86 : decode cX9_passes 86 = .ok (.aload_n 0, 1) := by decide +kernel
theorem dX9_passes_87 : decode cX9_passes 87 = .ok (.getfield 96, 3) := by decide +kernel
theorem dX9_passes_90 : decode cX9_passes 90 = .ok (.iload_n 1, 1) := by decide +kernel
theorem dX9_passes_91 : decode cX9_passes 91 = .ok (.iconst 1, 1) := by decide +kernel
theorem dX9_passes_92 : decode cX9_passes 92 = .ok (.iadd, 1) := by decide +kernel
theorem dX9_passes_93 : decode cX9_passes 93 = .ok (.iaload, 1) := by decide +kernel
theorem dX9_passes_94 : decode cX9_passes 94 = .ok (.imul, 1) := by decide +kernel
theorem dX9_passes_95 : decode cX9_passes 95 = .ok (.isub, 1) := by decide +kernel
theorem dX9_passes_96 : decode cX9_passes 96 = .ok (.iconst 4, 1) := by decide +kernel
theorem dX9_passes_97 : decode cX9_passes 97 = .ok (.invokestatic 204, 3) := by decide +kernel
theorem dX9_passes_100 : decode cX9_passes 100 = .ok (.iadd, 1) := by decide +kernel
theorem dX9_passes_101 : decode cX9_passes 101 = .ok (.iastore, 1) := by decide +kernel
theorem dX9_passes_102 : decode cX9_passes 102 = .ok (.iinc 1 1, 3) := by decide +kernel
theorem dX9_passes_105 : decode cX9_passes 105 = .ok (.goto (-48), 3) := by decide +kernel
theorem dX9_passes_108 : decode cX9_passes 108 = .ok (.return_, 1) := by decide +kernel
theorem dX9_apart_0 : decode cX9_apart 0 = .ok (.aload_n 0, 1) := by decide +kernel
theorem dX9_apart_1 : decode cX9_apart 1 = .ok (.getfield 65, 3) := by decide +kernel
theorem dX9_apart_4 : decode cX9_apart 4 = .ok (.iconst 0, 1) := by decide +kernel
theorem dX9_apart_5 : decode cX9_apart 5 = .ok (.iaload, 1) := by decide +kernel
theorem dX9_apart_6 : decode cX9_apart 6 = .ok (.istore_n 2, 1) := by decide +kernel
theorem dX9_apart_7 : decode cX9_apart 7 = .ok (.aload_n 0, 1) := by decide +kernel
theorem dX9_apart_8 : decode cX9_apart 8 = .ok (.getfield 65, 3) := by decide +kernel
theorem dX9_apart_11 : decode cX9_apart 11 = .ok (.iconst 0, 1) := by decide +kernel
theorem dX9_apart_12 : decode cX9_apart 12 = .ok (.iaload, 1) := by decide +kernel
theorem dX9_apart_13 : decode cX9_apart 13 = .ok (.istore_n 3, 1) := by decide +kernel
theorem dX9_apart_14 : decode cX9_apart 14 = .ok (.iconst 1, 1) := by decide +kernel
theorem dX9_apart_15 : decode cX9_apart 15 = .ok (.istore 4, 2) := by decide +kernel
theorem dX9_apart_17 : decode cX9_apart 17 = .ok (.iload 4, 2) := by decide +kernel
theorem dX9_apart_19 : decode cX9_apart 19 = .ok (.iload_n 1, 1) := by decide +kernel
theorem dX9_apart_20 : decode cX9_apart 20 = .ok (.if_icmp .ge 55, 3) := by decide +kernel
theorem dX9_apart_23 : decode cX9_apart 23 = .ok (.aload_n 0, 1) := by decide +kernel
theorem dX9_apart_24 : decode cX9_apart 24 = .ok (.getfield 65, 3) := by decide +kernel
theorem dX9_apart_27 : decode cX9_apart 27 = .ok (.iload 4, 2) := by decide +kernel
theorem dX9_apart_29 : decode cX9_apart 29 = .ok (.iaload, 1) := by decide +kernel
theorem dX9_apart_30 : decode cX9_apart 30 = .ok (.iload_n 2, 1) := by decide +kernel
theorem dX9_apart_31 : decode cX9_apart 31 = .ok (.if_icmp .ge 13, 3) := by decide +kernel
theorem dX9_apart_34 : decode cX9_apart 34 = .ok (.aload_n 0, 1) := by decide +kernel
theorem dX9_apart_35 : decode cX9_apart 35 = .ok (.getfield 65, 3) := by decide +kernel
theorem dX9_apart_38 : decode cX9_apart 38 = .ok (.iload 4, 2) := by decide +kernel
theorem dX9_apart_40 : decode cX9_apart 40 = .ok (.iaload, 1) := by decide +kernel
theorem dX9_apart_41 : decode cX9_apart 41 = .ok (.goto 4, 3) := by decide +kernel
theorem dX9_apart_44 : decode cX9_apart 44 = .ok (.iload_n 2, 1) := by decide +kernel
theorem dX9_apart_45 : decode cX9_apart 45 = .ok (.istore_n 2, 1) := by decide +kernel
theorem dX9_apart_46 : decode cX9_apart 46 = .ok (.aload_n 0, 1) := by decide +kernel
theorem dX9_apart_47 : decode cX9_apart 47 = .ok (.getfield 65, 3) := by decide +kernel
theorem dX9_apart_50 : decode cX9_apart 50 = .ok (.iload 4, 2) := by decide +kernel
theorem dX9_apart_52 : decode cX9_apart 52 = .ok (.iaload, 1) := by decide +kernel
theorem dX9_apart_53 : decode cX9_apart 53 = .ok (.iload_n 3, 1) := by decide +kernel
theorem dX9_apart_54 : decode cX9_apart 54 = .ok (.if_icmp .le 13, 3) := by decide +kernel
theorem dX9_apart_57 : decode cX9_apart 57 = .ok (.aload_n 0, 1) := by decide +kernel
theorem dX9_apart_58 : decode cX9_apart 58 = .ok (.getfield 65, 3) := by decide +kernel
theorem dX9_apart_61 : decode cX9_apart 61 = .ok (.iload 4, 2) := by decide +kernel
theorem dX9_apart_63 : decode cX9_apart 63 = .ok (.iaload, 1) := by decide +kernel
theorem dX9_apart_64 : decode cX9_apart 64 = .ok (.goto 4, 3) := by decide +kernel
theorem dX9_apart_67 : decode cX9_apart 67 = .ok (.iload_n 3, 1) := by decide +kernel
theorem dX9_apart_68 : decode cX9_apart 68 = .ok (.istore_n 3, 1) := by decide +kernel
theorem dX9_apart_69 : decode cX9_apart 69 = .ok (.iinc 4 1, 3) := by decide +kernel
theorem dX9_apart_72 : decode cX9_apart 72 = .ok (.goto (-55), 3) := by decide +kernel
theorem dX9_apart_75 : decode cX9_apart 75 = .ok (.iload_n 3, 1) := by decide +kernel
theorem dX9_apart_76 : decode cX9_apart 76 = .ok (.iload_n 2, 1) := by decide +kernel
theorem dX9_apart_77 : decode cX9_apart 77 = .ok (.isub, 1) := by decide +kernel
theorem dX9_apart_78 : decode cX9_apart 78 = .ok (.ireturn, 1) := by decide +kernel
theorem dX9_cool_0 : decode cX9_cool 0 = .ok (.iload_n 1, 1) := by decide +kernel
theorem dX9_cool_1 : decode cX9_cool 1 = .ok (.iconst 1, 1) := by decide +kernel
theorem dX9_cool_2 : decode cX9_cool 2 = .ok (.sipush 1000, 3) := by decide +kernel
theorem dX9_cool_5 : decode cX9_cool 5 = .ok (.invokestatic 116, 3) := by decide +kernel
theorem dX9_cool_8 : decode cX9_cool 8 = .ok (.ifCond .ne 5, 3) := by decide +kernel
theorem dX9_cool_11 : decode cX9_cool 11 = .ok (.iconst (-1), 1) := by decide +kernel
theorem dX9_cool_12 : decode cX9_cool 12 = .ok (.ireturn, 1) := by decide +kernel
theorem dX9_cool_13 : decode cX9_cool 13 = .ok (.iconst 0, 1) := by decide +kernel
theorem dX9_cool_14 : decode cX9_cool 14 = .ok (.istore_n 2, 1) := by decide +kernel
theorem dX9_cool_15 : decode cX9_cool 15 = .ok (.iload_n 2, 1) := by decide +kernel
theorem dX9_cool_16 : decode cX9_cool 16 = .ok (.iload_n 1, 1) := by decide +kernel
theorem dX9_cool_17 : decode cX9_cool 17 = .ok (.if_icmp .ge 13, 3) := by decide +kernel
theorem dX9_cool_20 : decode cX9_cool 20 = .ok (.aload_n 0, 1) := by decide +kernel
theorem dX9_cool_21 : decode cX9_cool 21 = .ok (.invokevirtual 207, 3) := by decide +kernel
theorem dX9_cool_24 : decode cX9_cool 24 = .ok (.iinc 2 1, 3) := by decide +kernel
theorem dX9_cool_27 : decode cX9_cool 27 = .ok (.goto (-12), 3) := by decide +kernel
theorem dX9_cool_30 : decode cX9_cool 30 = .ok (.aload_n 0, 1) := by decide +kernel
theorem dX9_cool_31 : decode cX9_cool 31 = .ok (.bipush 8, 2) := by decide +kernel
theorem dX9_cool_33 : decode cX9_cool 33 = .ok (.invokevirtual 210, 3) := by decide +kernel
theorem dX9_cool_36 : decode cX9_cool 36 = .ok (.ireturn, 1) := by decide +kernel
theorem dX9_still_0 : decode cX9_still 0 = .ok (.iload_n 1, 1) := by decide +kernel
theorem dX9_still_1 : decode cX9_still 1 = .ok (.iconst 0, 1) := by decide +kernel
theorem dX9_still_2 : decode cX9_still 2 = .ok (.ldc 135, 2) := by decide +kernel
theorem dX9_still_4 : decode cX9_still 4 = .ok (.invokestatic 116, 3) := by decide +kernel
theorem dX9_still_7 : decode cX9_still 7 = .ok (.ifCond .ne 5, 3) := by decide +kernel
theorem dX9_still_10 : decode cX9_still 10 = .ok (.iconst (-1), 1) := by decide +kernel
theorem dX9_still_11 : decode cX9_still 11 = .ok (.ireturn, 1) := by decide +kernel
theorem dX9_still_12 : decode cX9_still 12 = .ok (.iconst 0, 1) := by decide +kernel
theorem dX9_still_13 : decode cX9_still 13 = .ok (.istore_n 2, 1) := by decide +kernel
theorem dX9_still_14 : decode cX9_still 14 = .ok (.iload_n 2, 1) := by decide +kernel
theorem dX9_still_15 : decode cX9_still 15 = .ok (.bipush 9, 2) := by decide +kernel
theorem dX9_still_17 : decode cX9_still 17 = .ok (.if_icmp .ge 21, 3) := by decide +kernel
theorem dX9_still_20 : decode cX9_still 20 = .ok (.aload_n 0, 1) := by decide +kernel
theorem dX9_still_21 : decode cX9_still 21 = .ok (.getfield 99, 3) := by decide +kernel
theorem dX9_still_24 : decode cX9_still 24 = .ok (.iload_n 2, 1) := by decide +kernel
theorem dX9_still_25 : decode cX9_still 25 = .ok (.aload_n 0, 1) := by decide +kernel
theorem dX9_still_26 : decode cX9_still 26 = .ok (.getfield 65, 3) := by decide +kernel
theorem dX9_still_29 : decode cX9_still 29 = .ok (.iload_n 2, 1) := by decide +kernel
theorem dX9_still_30 : decode cX9_still 30 = .ok (.iaload, 1) := by decide +kernel
theorem dX9_still_31 : decode cX9_still 31 = .ok (.iastore, 1) := by decide +kernel
theorem dX9_still_32 : decode cX9_still 32 = .ok (.iinc 2 1, 3) := by decide +kernel
theorem dX9_still_35 : decode cX9_still 35 = .ok (.goto (-21), 3) := by decide +kernel
theorem dX9_still_38 : decode cX9_still 38 = .ok (.iconst 0, 1) := by decide +kernel
theorem dX9_still_39 : decode cX9_still 39 = .ok (.istore_n 2, 1) := by decide +kernel
theorem dX9_still_40 : decode cX9_still 40 = .ok (.iload_n 2, 1) := by decide +kernel
theorem dX9_still_41 : decode cX9_still 41 = .ok (.sipush 2000, 3) := by decide +kernel
theorem dX9_still_44 : decode cX9_still 44 = .ok (.if_icmp .gt 23, 3) := by decide +kernel
theorem dX9_still_47 : decode cX9_still 47 = .ok (.aload_n 0, 1) := by decide +kernel
theorem dX9_still_48 : decode cX9_still 48 = .ok (.bipush 9, 2) := by decide +kernel
theorem dX9_still_50 : decode cX9_still 50 = .ok (.invokevirtual 210, 3) := by decide +kernel
theorem dX9_still_53 : decode cX9_still 53 = .ok (.iload_n 1, 1) := by decide +kernel
theorem dX9_still_54 : decode cX9_still 54 = .ok (.if_icmp .le 13, 3) := by decide +kernel
theorem dX9_still_57 : decode cX9_still 57 = .ok (.aload_n 0, 1) := by decide +kernel
theorem dX9_still_58 : decode cX9_still 58 = .ok (.invokevirtual 207, 3) := by decide +kernel
theorem dX9_still_61 : decode cX9_still 61 = .ok (.iinc 2 1, 3) := by decide +kernel
theorem dX9_still_64 : decode cX9_still 64 = .ok (.goto (-24), 3) := by decide +kernel
theorem dX9_still_67 : decode cX9_still 67 = .ok (.iconst 0, 1) := by decide +kernel
theorem dX9_still_68 : decode cX9_still 68 = .ok (.istore_n 3, 1) := by decide +kernel
theorem dX9_still_69 : decode cX9_still 69 = .ok (.iload_n 3, 1) := by decide +kernel
theorem dX9_still_70 : decode cX9_still 70 = .ok (.bipush 9, 2) := by decide +kernel
theorem dX9_still_72 : decode cX9_still 72 = .ok (.if_icmp .ge 21, 3) := by decide +kernel
theorem dX9_still_75 : decode cX9_still 75 = .ok (.aload_n 0, 1) := by decide +kernel
theorem dX9_still_76 : decode cX9_still 76 = .ok (.getfield 65, 3) := by decide +kernel
theorem dX9_still_79 : decode cX9_still 79 = .ok (.iload_n 3, 1) := by decide +kernel
theorem dX9_still_80 : decode cX9_still 80 = .ok (.aload_n 0, 1) := by decide +kernel
theorem dX9_still_81 : decode cX9_still 81 = .ok (.getfield 99, 3) := by decide +kernel
theorem dX9_still_84 : decode cX9_still 84 = .ok (.iload_n 3, 1) := by decide +kernel
theorem dX9_still_85 : decode cX9_still 85 = .ok (.iaload, 1) := by decide +kernel
theorem dX9_still_86 : decode cX9_still 86 = .ok (.iastore, 1) := by decide +kernel
theorem dX9_still_87 : decode cX9_still 87 = .ok (.iinc 3 1, 3) := by decide +kernel
theorem dX9_still_90 : decode cX9_still 90 = .ok (.goto (-21), 3) := by decide +kernel
theorem dX9_still_93 : decode cX9_still 93 = .ok (.iload_n 2, 1) := by decide +kernel
theorem dX9_still_94 : decode cX9_still 94 = .ok (.sipush 2000, 3) := by decide +kernel
theorem dX9_still_97 : decode cX9_still 97 = .ok (.if_icmp .le 8, 3) := by decide +kernel
theorem dX9_still_100 : decode cX9_still 100 = .ok (.bipush (-4), 2) := by decide +kernel
theorem dX9_still_102 : decode cX9_still 102 = .ok (.goto 4, 3) := by decide +kernel
theorem dX9_still_105 : decode cX9_still 105 = .ok (.iload_n 2, 1) := by decide +kernel
theorem dX9_still_106 : decode cX9_still 106 = .ok (.ireturn, 1) := by decide +kernel
theorem dX9_warmth_0 : decode cX9_warmth 0 = .ok (.iload_n 1, 1) := by decide +kernel
theorem dX9_warmth_1 : decode cX9_warmth 1 = .ok (.iconst 0, 1) := by decide +kernel
theorem dX9_warmth_2 : decode cX9_warmth 2 = .ok (.bipush 8, 2) := by decide +kernel
theorem dX9_warmth_4 : decode cX9_warmth 4 = .ok (.invokestatic 116, 3) := by decide +kernel
theorem dX9_warmth_7 : decode cX9_warmth 7 = .ok (.ifCond .eq 12, 3) := by decide +kernel
theorem dX9_warmth_10 : decode cX9_warmth 10 = .ok (.aload_n 0, 1) := by decide +kernel
theorem dX9_warmth_11 : decode cX9_warmth 11 = .ok (.getfield 65, 3) := by decide +kernel
theorem dX9_warmth_14 : decode cX9_warmth 14 = .ok (.iload_n 1, 1) := by decide +kernel
theorem dX9_warmth_15 : decode cX9_warmth 15 = .ok (.iaload, 1) := by decide +kernel
theorem dX9_warmth_16 : decode cX9_warmth 16 = .ok (.goto 5, 3) := by decide +kernel
theorem dX9_warmth_19 : decode cX9_warmth 19 = .ok (.ldc 136, 2) := by decide +kernel
theorem dX9_warmth_21 : decode cX9_warmth 21 = .ok (.ireturn, 1) := by decide +kernel
theorem dX9_grit_0 : decode cX9_grit 0 = .ok (.iload_n 1, 1) := by decide +kernel
theorem dX9_grit_1 : decode cX9_grit 1 = .ok (.iconst 1, 1) := by decide +kernel
theorem dX9_grit_2 : decode cX9_grit 2 = .ok (.bipush 100, 2) := by decide +kernel
theorem dX9_grit_4 : decode cX9_grit 4 = .ok (.invokestatic 116, 3) := by decide +kernel
theorem dX9_grit_7 : decode cX9_grit 7 = .ok (.ifCond .eq 14, 3) := by decide +kernel
theorem dX9_grit_10 : decode cX9_grit 10 = .ok (.iload_n 2, 1) := by decide +kernel
theorem dX9_grit_11 : decode cX9_grit 11 = .ok (.iconst 0, 1) := by decide +kernel
theorem dX9_grit_12 : decode cX9_grit 12 = .ok (.sipush 200, 3) := by decide +kernel
theorem dX9_grit_15 : decode cX9_grit 15 = .ok (.invokestatic 116, 3) := by decide +kernel
theorem dX9_grit_18 : decode cX9_grit 18 = .ok (.ifCond .ne 5, 3) := by decide +kernel
theorem dX9_grit_21 : decode cX9_grit 21 = .ok (.iconst (-1), 1) := by decide +kernel
theorem dX9_grit_22 : decode cX9_grit 22 = .ok (.ireturn, 1) := by decide +kernel
theorem dX9_grit_23 : decode cX9_grit 23 = .ok (.aload_n 0, 1) := by decide +kernel
theorem dX9_grit_24 : decode cX9_grit 24 = .ok (.getfield 213, 3) := by decide +kernel
theorem dX9_grit_27 : decode cX9_grit 27 = .ok (.bipush 6, 2) := by decide +kernel
theorem dX9_grit_29 : decode cX9_grit 29 = .ok (.if_icmp .ne 6, 3) := by decide +kernel
theorem dX9_grit_32 : decode cX9_grit 32 = .ok (.bipush (-3), 2) := by decide +kernel
theorem dX9_grit_34 : decode cX9_grit 34 = .ok (.ireturn, 1) := by decide +kernel
theorem dX9_grit_35 : decode cX9_grit 35 = .ok (.aload_n 0, 1) := by decide +kernel
theorem dX9_grit_36 : decode cX9_grit 36 = .ok (.getfield 68, 3) := by decide +kernel
theorem dX9_grit_39 : decode cX9_grit 39 = .ok (.aload_n 0, 1) := by decide +kernel
theorem dX9_grit_40 : decode cX9_grit 40 = .ok (.getfield 213, 3) := by decide +kernel
theorem dX9_grit_43 : decode cX9_grit 43 = .ok (.iload_n 1, 1) := by decide +kernel
theorem dX9_grit_44 : decode cX9_grit 44 = .ok (.iastore, 1) := by decide +kernel
theorem dX9_grit_45 : decode cX9_grit 45 = .ok (.aload_n 0, 1) := by decide +kernel
theorem dX9_grit_46 : decode cX9_grit 46 = .ok (.getfield 71, 3) := by decide +kernel
theorem dX9_grit_49 : decode cX9_grit 49 = .ok (.aload_n 0, 1) := by decide +kernel
theorem dX9_grit_50 : decode cX9_grit 50 = .ok (.getfield 213, 3) := by decide +kernel
theorem dX9_grit_53 : decode cX9_grit 53 = .ok (.iload_n 2, 1) := by decide +kernel
theorem dX9_grit_54 : decode cX9_grit 54 = .ok (.iastore, 1) := by decide +kernel
theorem dX9_grit_55 : decode cX9_grit 55 = .ok (.aload_n 0, 1) := by decide +kernel
theorem dX9_grit_56 : decode cX9_grit 56 = .ok (.dup, 1) := by decide +kernel
theorem dX9_grit_57 : decode cX9_grit 57 = .ok (.getfield 213, 3) := by decide +kernel
theorem dX9_grit_60 : decode cX9_grit 60 = .ok (.iconst 1, 1) := by decide +kernel
theorem dX9_grit_61 : decode cX9_grit 61 = .ok (.iadd, 1) := by decide +kernel
theorem dX9_grit_62 : decode cX9_grit 62 = .ok (.putfield 213, 3) := by decide +kernel
theorem dX9_grit_65 : decode cX9_grit 65 = .ok (.aload_n 0, 1) := by decide +kernel
theorem dX9_grit_66 : decode cX9_grit 66 = .ok (.getfield 213, 3) := by decide +kernel
theorem dX9_grit_69 : decode cX9_grit 69 = .ok (.iconst 1, 1) := by decide +kernel
theorem dX9_grit_70 : decode cX9_grit 70 = .ok (.isub, 1) := by decide +kernel
theorem dX9_grit_71 : decode cX9_grit 71 = .ok (.ireturn, 1) := by decide +kernel
theorem dX9_slack_0 : decode cX9_slack 0 = .ok (.iload_n 1, 1) := by decide +kernel
theorem dX9_slack_1 : decode cX9_slack 1 = .ok (.iconst 0, 1) := by decide +kernel
theorem dX9_slack_2 : decode cX9_slack 2 = .ok (.bipush 100, 2) := by decide +kernel
theorem dX9_slack_4 : decode cX9_slack 4 = .ok (.invokestatic 116, 3) := by decide +kernel
theorem dX9_slack_7 : decode cX9_slack 7 = .ok (.ifCond .ne 5, 3) := by decide +kernel
theorem dX9_slack_10 : decode cX9_slack 10 = .ok (.iconst (-1), 1) := by decide +kernel
theorem dX9_slack_11 : decode cX9_slack 11 = .ok (.ireturn, 1) := by decide +kernel
theorem dX9_slack_12 : decode cX9_slack 12 = .ok (.aload_n 0, 1) := by decide +kernel
theorem dX9_slack_13 : decode cX9_slack 13 = .ok (.getfield 216, 3) := by decide +kernel
theorem dX9_slack_16 : decode cX9_slack 16 = .ok (.istore_n 2, 1) := by decide +kernel
theorem dX9_slack_17 : decode cX9_slack 17 = .ok (.aload_n 0, 1) := by decide +kernel
theorem dX9_slack_18 : decode cX9_slack 18 = .ok (.iload_n 1, 1) := by decide +kernel
theorem dX9_slack_19 : decode cX9_slack 19 = .ok (.putfield 216, 3) := by decide +kernel
theorem dX9_slack_22 : decode cX9_slack 22 = .ok (.iload_n 2, 1) := by decide +kernel
theorem dX9_slack_23 : decode cX9_slack 23 = .ok (.ireturn, 1) := by decide +kernel
theorem dX9_cell_0 : decode cX9_cell 0 = .ok (.bipush 7, 2) := by decide +kernel
theorem dX9_cell_2 : decode cX9_cell 2 = .ok (.iload_n 0, 1) := by decide +kernel
theorem dX9_cell_3 : decode cX9_cell 3 = .ok (.imul, 1) := by decide +kernel
theorem dX9_cell_4 : decode cX9_cell 4 = .ok (.iload_n 1, 1) := by decide +kernel
theorem dX9_cell_5 : decode cX9_cell 5 = .ok (.iadd, 1) := by decide +kernel
theorem dX9_cell_6 : decode cX9_cell 6 = .ok (.sipush 2101, 3) := by decide +kernel
theorem dX9_cell_9 : decode cX9_cell 9 = .ok (.imul, 1) := by decide +kernel
theorem dX9_cell_10 : decode cX9_cell 10 = .ok (.iload_n 2, 1) := by decide +kernel
theorem dX9_cell_11 : decode cX9_cell 11 = .ok (.iadd, 1) := by decide +kernel
theorem dX9_cell_12 : decode cX9_cell 12 = .ok (.ireturn, 1) := by decide +kernel
theorem dX9_with_0 : decode cX9_with 0 = .ok (.iload_n 3, 1) := by decide +kernel
theorem dX9_with_1 : decode cX9_with 1 = .ok (.iload 4, 2) := by decide +kernel
theorem dX9_with_3 : decode cX9_with 3 = .ok (.aload_n 0, 1) := by decide +kernel
theorem dX9_with_4 : decode cX9_with 4 = .ok (.getfield 68, 3) := by decide +kernel
theorem dX9_with_7 : decode cX9_with 7 = .ok (.iload_n 1, 1) := by decide +kernel
theorem dX9_with_8 : decode cX9_with 8 = .ok (.iaload, 1) := by decide +kernel
theorem dX9_with_9 : decode cX9_with 9 = .ok (.imul, 1) := by decide +kernel
theorem dX9_with_10 : decode cX9_with 10 = .ok (.iadd, 1) := by decide +kernel
theorem dX9_with_11 : decode cX9_with 11 = .ok (.istore 6, 2) := by decide +kernel
theorem dX9_with_13 : decode cX9_with 13 = .ok (.iload 6, 2) := by decide +kernel
theorem dX9_with_15 : decode cX9_with 15 = .ok (.iload 5, 2) := by decide +kernel
theorem dX9_with_17 : decode cX9_with 17 = .ok (.if_icmp .gt 49, 3) := by decide +kernel
theorem dX9_with_20 : decode cX9_with 20 = .ok (.iload 4, 2) := by decide +kernel
theorem dX9_with_22 : decode cX9_with 22 = .ok (.ifCond .le 29, 3) := by decide +kernel
theorem dX9_with_25 : decode cX9_with 25 = .ok (.iload_n 2, 1) := by decide +kernel
theorem dX9_with_26 : decode cX9_with 26 = .ok (.bipush 6, 2) := by decide +kernel
theorem dX9_with_28 : decode cX9_with 28 = .ok (.if_icmp .ge 23, 3) := by decide +kernel
theorem dX9_with_31 : decode cX9_with 31 = .ok (.iload 4, 2) := by decide +kernel
theorem dX9_with_33 : decode cX9_with 33 = .ok (.aload_n 0, 1) := by decide +kernel
theorem dX9_with_34 : decode cX9_with 34 = .ok (.getfield 68, 3) := by decide +kernel
theorem dX9_with_37 : decode cX9_with 37 = .ok (.iload_n 1, 1) := by decide +kernel
theorem dX9_with_38 : decode cX9_with 38 = .ok (.iaload, 1) := by decide +kernel
theorem dX9_with_39 : decode cX9_with 39 = .ok (.imul, 1) := by decide +kernel
theorem dX9_with_40 : decode cX9_with 40 = .ok (.iconst 3, 1) := by decide +kernel
theorem dX9_with_41 : decode cX9_with 41 = .ok (.aload_n 0, 1) := by decide +kernel
theorem dX9_with_42 : decode cX9_with 42 = .ok (.getfield 71, 3) := by decide +kernel
theorem dX9_with_45 : decode cX9_with 45 = .ok (.iload_n 2, 1) := by decide +kernel
theorem dX9_with_46 : decode cX9_with 46 = .ok (.iaload, 1) := by decide +kernel
theorem dX9_with_47 : decode cX9_with 47 = .ok (.imul, 1) := by decide +kernel
theorem dX9_with_48 : decode cX9_with 48 = .ok (.if_icmp .lt 18, 3) := by decide +kernel
theorem dX9_with_51 : decode cX9_with 51 = .ok (.iload 4, 2) := by decide +kernel
theorem dX9_with_53 : decode cX9_with 53 = .ok (.ifCond .ne 16, 3) := by decide +kernel
theorem dX9_with_56 : decode cX9_with 56 = .ok (.iload_n 1, 1) := by decide +kernel
theorem dX9_with_57 : decode cX9_with 57 = .ok (.aload_n 0, 1) := by decide +kernel
theorem dX9_with_58 : decode cX9_with 58 = .ok (.getfield 213, 3) := by decide +kernel
theorem dX9_with_61 : decode cX9_with 61 = .ok (.iconst 1, 1) := by decide +kernel
theorem dX9_with_62 : decode cX9_with 62 = .ok (.isub, 1) := by decide +kernel
theorem dX9_with_63 : decode cX9_with 63 = .ok (.if_icmp .ne 6, 3) := by decide +kernel
theorem dX9_with_66 : decode cX9_with 66 = .ok (.ldc 162, 2) := by decide +kernel
theorem dX9_with_68 : decode cX9_with 68 = .ok (.ireturn, 1) := by decide +kernel
theorem dX9_with_69 : decode cX9_with 69 = .ok (.aload_n 0, 1) := by decide +kernel
theorem dX9_with_70 : decode cX9_with 70 = .ok (.getfield 103, 3) := by decide +kernel
theorem dX9_with_73 : decode cX9_with 73 = .ok (.iload_n 1, 1) := by decide +kernel
theorem dX9_with_74 : decode cX9_with 74 = .ok (.iconst 1, 1) := by decide +kernel
theorem dX9_with_75 : decode cX9_with 75 = .ok (.iadd, 1) := by decide +kernel
theorem dX9_with_76 : decode cX9_with 76 = .ok (.iload 4, 2) := by decide +kernel
theorem dX9_with_78 : decode cX9_with 78 = .ok (.ifCond .le 7, 3) := by decide +kernel
theorem dX9_with_81 : decode cX9_with 81 = .ok (.iload_n 1, 1) := by decide +kernel
theorem dX9_with_82 : decode cX9_with 82 = .ok (.goto 4, 3) := by decide +kernel
theorem dX9_with_85 : decode cX9_with 85 = .ok (.iload_n 2, 1) := by decide +kernel
theorem dX9_with_86 : decode cX9_with 86 = .ok (.iload 6, 2) := by decide +kernel
theorem dX9_with_88 : decode cX9_with 88 = .ok (.invokestatic 219, 3) := by decide +kernel
theorem dX9_with_91 : decode cX9_with 91 = .ok (.iaload, 1) := by decide +kernel
theorem dX9_with_92 : decode cX9_with 92 = .ok (.iload 4, 2) := by decide +kernel
theorem dX9_with_94 : decode cX9_with 94 = .ok (.iadd, 1) := by decide +kernel
theorem dX9_with_95 : decode cX9_with 95 = .ok (.ireturn, 1) := by decide +kernel
theorem dX9_wetsBy_0 : decode cX9_wetsBy 0 = .ok (.iload_n 1, 1) := by decide +kernel
theorem dX9_wetsBy_1 : decode cX9_wetsBy 1 = .ok (.aload_n 0, 1) := by decide +kernel
theorem dX9_wetsBy_2 : decode cX9_wetsBy 2 = .ok (.getfield 216, 3) := by decide +kernel
theorem dX9_wetsBy_5 : decode cX9_wetsBy 5 = .ok (.iadd, 1) := by decide +kernel
theorem dX9_wetsBy_6 : decode cX9_wetsBy 6 = .ok (.istore_n 2, 1) := by decide +kernel
theorem dX9_wetsBy_7 : decode cX9_wetsBy 7 = .ok (.aload_n 0, 1) := by decide +kernel
theorem dX9_wetsBy_8 : decode cX9_wetsBy 8 = .ok (.getfield 213, 3) := by decide +kernel
theorem dX9_wetsBy_11 : decode cX9_wetsBy 11 = .ok (.istore_n 3, 1) := by decide +kernel
theorem dX9_wetsBy_12 : decode cX9_wetsBy 12 = .ok (.iload_n 3, 1) := by decide +kernel
theorem dX9_wetsBy_13 : decode cX9_wetsBy 13 = .ok (.ifCond .lt 147, 3) := by decide +kernel
theorem dX9_wetsBy_16 : decode cX9_wetsBy 16 = .ok (.iconst 0, 1) := by decide +kernel
theorem dX9_wetsBy_17 : decode cX9_wetsBy 17 = .ok (.istore 4, 2) := by decide +kernel
theorem dX9_wetsBy_19 : decode cX9_wetsBy 19 = .ok (.iload 4, 2) := by decide +kernel
theorem dX9_wetsBy_21 : decode cX9_wetsBy 21 = .ok (.bipush 7, 2) := by decide +kernel
theorem dX9_wetsBy_23 : decode cX9_wetsBy 23 = .ok (.if_icmp .ge 131, 3) := by decide +kernel
theorem dX9_wetsBy_26 : decode cX9_wetsBy 26 = .ok (.iconst 0, 1) := by decide +kernel
theorem dX9_wetsBy_27 : decode cX9_wetsBy 27 = .ok (.istore 5, 2) := by decide +kernel
theorem dX9_wetsBy_29 : decode cX9_wetsBy 29 = .ok (.iload 5, 2) := by decide +kernel
theorem dX9_wetsBy_31 : decode cX9_wetsBy 31 = .ok (.iload_n 2, 1) := by decide +kernel
theorem dX9_wetsBy_32 : decode cX9_wetsBy 32 = .ok (.if_icmp .gt 116, 3) := by decide +kernel
theorem dX9_wetsBy_35 : decode cX9_wetsBy 35 = .ok (.iload_n 3, 1) := by decide +kernel
theorem dX9_wetsBy_36 : decode cX9_wetsBy 36 = .ok (.aload_n 0, 1) := by decide +kernel
theorem dX9_wetsBy_37 : decode cX9_wetsBy 37 = .ok (.getfield 213, 3) := by decide +kernel
theorem dX9_wetsBy_40 : decode cX9_wetsBy 40 = .ok (.if_icmp .ne 13, 3) := by decide +kernel
theorem dX9_wetsBy_43 : decode cX9_wetsBy 43 = .ok (.iload 5, 2) := by decide +kernel
theorem dX9_wetsBy_45 : decode cX9_wetsBy 45 = .ok (.iload_n 1, 1) := by decide +kernel
theorem dX9_wetsBy_46 : decode cX9_wetsBy 46 = .ok (.if_icmp .lt 7, 3) := by decide +kernel
theorem dX9_wetsBy_49 : decode cX9_wetsBy 49 = .ok (.iconst 0, 1) := by decide +kernel
theorem dX9_wetsBy_50 : decode cX9_wetsBy 50 = .ok (.goto 5, 3) := by decide +kernel
theorem dX9_wetsBy_53 : decode cX9_wetsBy 53 = .ok (.ldc 162, 2) := by decide +kernel
theorem dX9_wetsBy_55 : decode cX9_wetsBy 55 = .ok (.istore 6, 2) := by decide +kernel
theorem dX9_wetsBy_57 : decode cX9_wetsBy 57 = .ok (.iconst 0, 1) := by decide +kernel
theorem dX9_wetsBy_58 : decode cX9_wetsBy 58 = .ok (.istore 7, 2) := by decide +kernel
theorem dX9_wetsBy_60 : decode cX9_wetsBy 60 = .ok (.iload 7, 2) := by decide +kernel
theorem dX9_wetsBy_62 : decode cX9_wetsBy 62 = .ok (.bipush 30, 2) := by decide +kernel
theorem dX9_wetsBy_64 : decode cX9_wetsBy 64 = .ok (.if_icmp .gt 63, 3) := by decide +kernel
theorem dX9_wetsBy_67 : decode cX9_wetsBy 67 = .ok (.iload_n 3, 1) := by decide +kernel
theorem dX9_wetsBy_68 : decode cX9_wetsBy 68 = .ok (.aload_n 0, 1) := by decide +kernel
theorem dX9_wetsBy_69 : decode cX9_wetsBy 69 = .ok (.getfield 213, 3) := by decide +kernel
theorem dX9_wetsBy_72 : decode cX9_wetsBy 72 = .ok (.if_icmp .ge 55, 3) := by decide +kernel
theorem dX9_wetsBy_75 : decode cX9_wetsBy 75 = .ok (.iload 5, 2) := by decide +kernel
theorem dX9_wetsBy_77 : decode cX9_wetsBy 77 = .ok (.iload 7, 2) := by decide +kernel
theorem dX9_wetsBy_79 : decode cX9_wetsBy 79 = .ok (.aload_n 0, 1) := by decide +kernel
theorem dX9_wetsBy_80 : decode cX9_wetsBy 80 = .ok (.getfield 68, 3) := by decide +kernel
theorem dX9_wetsBy_83 : decode cX9_wetsBy 83 = .ok (.iload_n 3, 1) := by decide +kernel
theorem dX9_wetsBy_84 : decode cX9_wetsBy 84 = .ok (.iaload, 1) := by decide +kernel
theorem dX9_wetsBy_85 : decode cX9_wetsBy 85 = .ok (.imul, 1) := by decide +kernel
theorem dX9_wetsBy_86 : decode cX9_wetsBy 86 = .ok (.iadd, 1) := by decide +kernel
theorem dX9_wetsBy_87 : decode cX9_wetsBy 87 = .ok (.iload_n 2, 1) := by decide +kernel
theorem dX9_wetsBy_88 : decode cX9_wetsBy 88 = .ok (.if_icmp .gt 39, 3) := by decide +kernel
theorem dX9_wetsBy_91 : decode cX9_wetsBy 91 = .ok (.aload_n 0, 1) := by decide +kernel
theorem dX9_wetsBy_92 : decode cX9_wetsBy 92 = .ok (.iload_n 3, 1) := by decide +kernel
theorem dX9_wetsBy_93 : decode cX9_wetsBy 93 = .ok (.iload 4, 2) := by decide +kernel
theorem dX9_wetsBy_95 : decode cX9_wetsBy 95 = .ok (.iload 5, 2) := by decide +kernel
theorem dX9_wetsBy_97 : decode cX9_wetsBy 97 = .ok (.iload 7, 2) := by decide +kernel
theorem dX9_wetsBy_99 : decode cX9_wetsBy 99 = .ok (.iload_n 2, 1) := by decide +kernel
theorem dX9_wetsBy_100 : decode cX9_wetsBy 100 = .ok (.invokevirtual 223, 3) := by decide +kernel
theorem dX9_wetsBy_103 : decode cX9_wetsBy 103 = .ok (.istore 8, 2) := by decide +kernel
theorem dX9_wetsBy_105 : decode cX9_wetsBy 105 = .ok (.iload 8, 2) := by decide +kernel
theorem dX9_wetsBy_107 : decode cX9_wetsBy 107 = .ok (.iload 6, 2) := by decide +kernel
theorem dX9_wetsBy_109 : decode cX9_wetsBy 109 = .ok (.if_icmp .ge 8, 3) := by decide +kernel
theorem dX9_wetsBy_112 : decode cX9_wetsBy 112 = .ok (.iload 8, 2) := by decide +kernel
theorem dX9_wetsBy_114 : decode cX9_wetsBy 114 = .ok (.goto 5, 3) := by decide +kernel
theorem dX9_wetsBy_117 : decode cX9_wetsBy 117 = .ok (.iload 6, 2) := by decide +kernel
theorem dX9_wetsBy_119 : decode cX9_wetsBy 119 = .ok (.istore 6, 2) := by decide +kernel
theorem dX9_wetsBy_121 : decode cX9_wetsBy 121 = .ok (.iinc 7 1, 3) := by decide +kernel
theorem dX9_wetsBy_124 : decode cX9_wetsBy 124 = .ok (.goto (-64), 3) := by decide +kernel
theorem dX9_wetsBy_127 : decode cX9_wetsBy 127 = .ok (.aload_n 0, 1) := by decide +kernel
theorem dX9_wetsBy_128 : decode cX9_wetsBy 128 = .ok (.getfield 103, 3) := by decide +kernel
theorem dX9_wetsBy_131 : decode cX9_wetsBy 131 = .ok (.iload_n 3, 1) := by decide +kernel
theorem dX9_wetsBy_132 : decode cX9_wetsBy 132 = .ok (.iload 4, 2) := by decide +kernel
theorem dX9_wetsBy_134 : decode cX9_wetsBy 134 = .ok (.iload 5, 2) := by decide +kernel
theorem dX9_wetsBy_136 : decode cX9_wetsBy 136 = .ok (.invokestatic 219, 3) := by decide +kernel
theorem dX9_wetsBy_139 : decode cX9_wetsBy 139 = .ok (.iload 6, 2) := by decide +kernel
theorem dX9_wetsBy_141 : decode cX9_wetsBy 141 = .ok (.iastore, 1) := by decide +kernel
theorem dX9_wetsBy_142 : decode cX9_wetsBy 142 = .ok (.iinc 5 1, 3) := by decide +kernel
theorem dX9_wetsBy_145 : decode cX9_wetsBy 145 = .ok (.goto (-116), 3) := by decide +kernel
theorem dX9_wetsBy_148 : decode cX9_wetsBy 148 = .ok (.iinc 4 1, 3) := by decide +kernel
theorem dX9_wetsBy_151 : decode cX9_wetsBy 151 = .ok (.goto (-132), 3) := by decide +kernel
theorem dX9_wetsBy_154 : decode cX9_wetsBy 154 = .ok (.iinc 3 (-1), 3) := by decide +kernel
theorem dX9_wetsBy_157 : decode cX9_wetsBy 157 = .ok (.goto (-145), 3) := by decide +kernel
theorem dX9_wetsBy_160 : decode cX9_wetsBy 160 = .ok (.return_, 1) := by decide +kernel
theorem dX9_wets_0 : decode cX9_wets 0 = .ok (.iload_n 1, 1) := by decide +kernel
theorem dX9_wets_1 : decode cX9_wets 1 = .ok (.iconst 1, 1) := by decide +kernel
theorem dX9_wets_2 : decode cX9_wets 2 = .ok (.sipush 2000, 3) := by decide +kernel
theorem dX9_wets_5 : decode cX9_wets 5 = .ok (.invokestatic 116, 3) := by decide +kernel
theorem dX9_wets_8 : decode cX9_wets 8 = .ok (.ifCond .eq 17, 3) := by decide +kernel
theorem dX9_wets_11 : decode cX9_wets 11 = .ok (.iload_n 2, 1) := by decide +kernel
theorem dX9_wets_12 : decode cX9_wets 12 = .ok (.iconst (-1), 1) := by decide +kernel
theorem dX9_wets_13 : decode cX9_wets 13 = .ok (.aload_n 0, 1) := by decide +kernel
theorem dX9_wets_14 : decode cX9_wets 14 = .ok (.getfield 213, 3) := by decide +kernel
theorem dX9_wets_17 : decode cX9_wets 17 = .ok (.iconst 1, 1) := by decide +kernel
theorem dX9_wets_18 : decode cX9_wets 18 = .ok (.isub, 1) := by decide +kernel
theorem dX9_wets_19 : decode cX9_wets 19 = .ok (.invokestatic 116, 3) := by decide +kernel
theorem dX9_wets_22 : decode cX9_wets 22 = .ok (.ifCond .ne 5, 3) := by decide +kernel
theorem dX9_wets_25 : decode cX9_wets 25 = .ok (.iconst (-1), 1) := by decide +kernel
theorem dX9_wets_26 : decode cX9_wets 26 = .ok (.ireturn, 1) := by decide +kernel
theorem dX9_wets_27 : decode cX9_wets 27 = .ok (.aload_n 0, 1) := by decide +kernel
theorem dX9_wets_28 : decode cX9_wets 28 = .ok (.iload_n 1, 1) := by decide +kernel
theorem dX9_wets_29 : decode cX9_wets 29 = .ok (.invokevirtual 227, 3) := by decide +kernel
theorem dX9_wets_32 : decode cX9_wets 32 = .ok (.aload_n 0, 1) := by decide +kernel
theorem dX9_wets_33 : decode cX9_wets 33 = .ok (.getfield 213, 3) := by decide +kernel
theorem dX9_wets_36 : decode cX9_wets 36 = .ok (.ifCond .ne 8, 3) := by decide +kernel
theorem dX9_wets_39 : decode cX9_wets 39 = .ok (.ldc 162, 2) := by decide +kernel
theorem dX9_wets_41 : decode cX9_wets 41 = .ok (.goto 15, 3) := by decide +kernel
theorem dX9_wets_44 : decode cX9_wets 44 = .ok (.aload_n 0, 1) := by decide +kernel
theorem dX9_wets_45 : decode cX9_wets 45 = .ok (.getfield 103, 3) := by decide +kernel
theorem dX9_wets_48 : decode cX9_wets 48 = .ok (.iconst 0, 1) := by decide +kernel
theorem dX9_wets_49 : decode cX9_wets 49 = .ok (.bipush 6, 2) := by decide +kernel
theorem dX9_wets_51 : decode cX9_wets 51 = .ok (.iconst 0, 1) := by decide +kernel
theorem dX9_wets_52 : decode cX9_wets 52 = .ok (.invokestatic 219, 3) := by decide +kernel
theorem dX9_wets_55 : decode cX9_wets 55 = .ok (.iaload, 1) := by decide +kernel
theorem dX9_wets_56 : decode cX9_wets 56 = .ok (.istore_n 3, 1) := by decide +kernel
theorem dX9_wets_57 : decode cX9_wets 57 = .ok (.iload_n 3, 1) := by decide +kernel
theorem dX9_wets_58 : decode cX9_wets 58 = .ok (.ldc 162, 2) := by decide +kernel
theorem dX9_wets_60 : decode cX9_wets 60 = .ok (.if_icmp .lt 6, 3) := by decide +kernel
theorem dX9_wets_63 : decode cX9_wets 63 = .ok (.bipush (-4), 2) := by decide +kernel
theorem dX9_wets_65 : decode cX9_wets 65 = .ok (.ireturn, 1) := by decide +kernel
theorem dX9_wets_66 : decode cX9_wets 66 = .ok (.bipush 6, 2) := by decide +kernel
theorem dX9_wets_68 : decode cX9_wets 68 = .ok (.istore 4, 2) := by decide +kernel
theorem dX9_wets_70 : decode cX9_wets 70 = .ok (.iconst 0, 1) := by decide +kernel
theorem dX9_wets_71 : decode cX9_wets 71 = .ok (.istore 5, 2) := by decide +kernel
theorem dX9_wets_73 : decode cX9_wets 73 = .ok (.iload_n 3, 1) := by decide +kernel
theorem dX9_wets_74 : decode cX9_wets 74 = .ok (.istore 6, 2) := by decide +kernel
theorem dX9_wets_76 : decode cX9_wets 76 = .ok (.iconst 0, 1) := by decide +kernel
theorem dX9_wets_77 : decode cX9_wets 77 = .ok (.istore 7, 2) := by decide +kernel
theorem dX9_wets_79 : decode cX9_wets 79 = .ok (.iload 7, 2) := by decide +kernel
theorem dX9_wets_81 : decode cX9_wets 81 = .ok (.iload_n 2, 1) := by decide +kernel
theorem dX9_wets_82 : decode cX9_wets 82 = .ok (.if_icmp .gt 83, 3) := by decide +kernel
theorem dX9_wets_85 : decode cX9_wets 85 = .ok (.bipush 30, 2) := by decide +kernel
theorem dX9_wets_87 : decode cX9_wets 87 = .ok (.istore 6, 2) := by decide +kernel
theorem dX9_wets_89 : decode cX9_wets 89 = .ok (.aload_n 0, 1) := by decide +kernel
theorem dX9_wets_90 : decode cX9_wets 90 = .ok (.iload 7, 2) := by decide +kernel
theorem dX9_wets_92 : decode cX9_wets 92 = .ok (.iload 4, 2) := by decide +kernel
theorem dX9_wets_94 : decode cX9_wets 94 = .ok (.iload 5, 2) := by decide +kernel
theorem dX9_wets_96 : decode cX9_wets 96 = .ok (.iload 6, 2) := by decide +kernel
theorem dX9_wets_98 : decode cX9_wets 98 = .ok (.iload_n 1, 1) := by decide +kernel
theorem dX9_wets_99 : decode cX9_wets 99 = .ok (.aload_n 0, 1) := by decide +kernel
theorem dX9_wets_100 : decode cX9_wets 100 = .ok (.getfield 216, 3) := by decide +kernel
theorem dX9_wets_103 : decode cX9_wets 103 = .ok (.iadd, 1) := by decide +kernel
theorem dX9_wets_104 : decode cX9_wets 104 = .ok (.invokevirtual 223, 3) := by decide +kernel
theorem dX9_wets_107 : decode cX9_wets 107 = .ok (.aload_n 0, 1) := by decide +kernel
theorem dX9_wets_108 : decode cX9_wets 108 = .ok (.getfield 103, 3) := by decide +kernel
theorem dX9_wets_111 : decode cX9_wets 111 = .ok (.iload 7, 2) := by decide +kernel
theorem dX9_wets_113 : decode cX9_wets 113 = .ok (.iload 4, 2) := by decide +kernel
theorem dX9_wets_115 : decode cX9_wets 115 = .ok (.iload 5, 2) := by decide +kernel
theorem dX9_wets_117 : decode cX9_wets 117 = .ok (.invokestatic 219, 3) := by decide +kernel
theorem dX9_wets_120 : decode cX9_wets 120 = .ok (.iaload, 1) := by decide +kernel
theorem dX9_wets_121 : decode cX9_wets 121 = .ok (.if_icmp .eq 9, 3) := by decide +kernel
theorem dX9_wets_124 : decode cX9_wets 124 = .ok (.iinc 6 (-1), 3) := by decide +kernel
theorem dX9_wets_127 : decode cX9_wets 127 = .ok (.goto (-38), 3) := by decide +kernel
theorem dX9_wets_130 : decode cX9_wets 130 = .ok (.iload 5, 2) := by decide +kernel
theorem dX9_wets_132 : decode cX9_wets 132 = .ok (.iload 6, 2) := by decide +kernel
theorem dX9_wets_134 : decode cX9_wets 134 = .ok (.aload_n 0, 1) := by decide +kernel
theorem dX9_wets_135 : decode cX9_wets 135 = .ok (.getfield 68, 3) := by decide +kernel
theorem dX9_wets_138 : decode cX9_wets 138 = .ok (.iload 7, 2) := by decide +kernel
theorem dX9_wets_140 : decode cX9_wets 140 = .ok (.iaload, 1) := by decide +kernel
theorem dX9_wets_141 : decode cX9_wets 141 = .ok (.imul, 1) := by decide +kernel
theorem dX9_wets_142 : decode cX9_wets 142 = .ok (.iadd, 1) := by decide +kernel
theorem dX9_wets_143 : decode cX9_wets 143 = .ok (.istore 5, 2) := by decide +kernel
theorem dX9_wets_145 : decode cX9_wets 145 = .ok (.iload 6, 2) := by decide +kernel
theorem dX9_wets_147 : decode cX9_wets 147 = .ok (.ifCond .le 8, 3) := by decide +kernel
theorem dX9_wets_150 : decode cX9_wets 150 = .ok (.iload 7, 2) := by decide +kernel
theorem dX9_wets_152 : decode cX9_wets 152 = .ok (.goto 5, 3) := by decide +kernel
theorem dX9_wets_155 : decode cX9_wets 155 = .ok (.iload 4, 2) := by decide +kernel
theorem dX9_wets_157 : decode cX9_wets 157 = .ok (.istore 4, 2) := by decide +kernel
theorem dX9_wets_159 : decode cX9_wets 159 = .ok (.iinc 7 1, 3) := by decide +kernel
theorem dX9_wets_162 : decode cX9_wets 162 = .ok (.goto (-83), 3) := by decide +kernel
theorem dX9_wets_165 : decode cX9_wets 165 = .ok (.iload 6, 2) := by decide +kernel
theorem dX9_wets_167 : decode cX9_wets 167 = .ok (.ireturn, 1) := by decide +kernel
theorem dX9_count_0 : decode cX9_count 0 = .ok (.iconst 0, 1) := by decide +kernel
theorem dX9_count_1 : decode cX9_count 1 = .ok (.istore_n 2, 1) := by decide +kernel
theorem dX9_count_2 : decode cX9_count 2 = .ok (.iconst 0, 1) := by decide +kernel
theorem dX9_count_3 : decode cX9_count 3 = .ok (.istore_n 3, 1) := by decide +kernel
theorem dX9_count_4 : decode cX9_count 4 = .ok (.iconst 0, 1) := by decide +kernel
theorem dX9_count_5 : decode cX9_count 5 = .ok (.istore 4, 2) := by decide +kernel
theorem dX9_count_7 : decode cX9_count 7 = .ok (.iload 4, 2) := by decide +kernel
theorem dX9_count_9 : decode cX9_count 9 = .ok (.bipush 45, 2) := by decide +kernel
theorem dX9_count_11 : decode cX9_count 11 = .ok (.if_icmp .ge 30, 3) := by decide +kernel
theorem dX9_count_14 : decode cX9_count 14 = .ok (.iload_n 2, 1) := by decide +kernel
theorem dX9_count_15 : decode cX9_count 15 = .ok (.aload_n 0, 1) := by decide +kernel
theorem dX9_count_16 : decode cX9_count 16 = .ok (.getfield 29, 3) := by decide +kernel
theorem dX9_count_19 : decode cX9_count 19 = .ok (.iload 4, 2) := by decide +kernel
theorem dX9_count_21 : decode cX9_count 21 = .ok (.iaload, 1) := by decide +kernel
theorem dX9_count_22 : decode cX9_count 22 = .ok (.sipush 5000, 3) := by decide +kernel
theorem dX9_count_25 : decode cX9_count 25 = .ok (.if_icmp .eq 7, 3) := by decide +kernel
theorem dX9_count_28 : decode cX9_count 28 = .ok (.iconst 1, 1) := by decide +kernel
theorem dX9_count_29 : decode cX9_count 29 = .ok (.goto 4, 3) := by decide +kernel
theorem dX9_count_32 : decode cX9_count 32 = .ok (.iconst 0, 1) := by decide +kernel
theorem dX9_count_33 : decode cX9_count 33 = .ok (.iadd, 1) := by decide +kernel
theorem dX9_count_34 : decode cX9_count 34 = .ok (.istore_n 2, 1) := by decide +kernel
theorem dX9_count_35 : decode cX9_count 35 = .ok (.iinc 4 1, 3) := by decide +kernel
theorem dX9_count_38 : decode cX9_count 38 = .ok (.goto (-31), 3) := by decide +kernel
theorem dX9_count_41 : decode cX9_count 41 = .ok (.iconst 0, 1) := by decide +kernel
theorem dX9_count_42 : decode cX9_count 42 = .ok (.istore 4, 2) := by decide +kernel
theorem dX9_count_44 : decode cX9_count 44 = .ok (.iload 4, 2) := by decide +kernel
theorem dX9_count_46 : decode cX9_count 46 = .ok (.aload_n 0, 1) := by decide +kernel
theorem dX9_count_47 : decode cX9_count 47 = .ok (.getfield 113, 3) := by decide +kernel
theorem dX9_count_50 : decode cX9_count 50 = .ok (.if_icmp .ge 19, 3) := by decide +kernel
theorem dX9_count_53 : decode cX9_count 53 = .ok (.iload_n 3, 1) := by decide +kernel
theorem dX9_count_54 : decode cX9_count 54 = .ok (.aload_n 0, 1) := by decide +kernel
theorem dX9_count_55 : decode cX9_count 55 = .ok (.getfield 56, 3) := by decide +kernel
theorem dX9_count_58 : decode cX9_count 58 = .ok (.iload 4, 2) := by decide +kernel
theorem dX9_count_60 : decode cX9_count 60 = .ok (.iaload, 1) := by decide +kernel
theorem dX9_count_61 : decode cX9_count 61 = .ok (.iadd, 1) := by decide +kernel
theorem dX9_count_62 : decode cX9_count 62 = .ok (.istore_n 3, 1) := by decide +kernel
theorem dX9_count_63 : decode cX9_count 63 = .ok (.iinc 4 1, 3) := by decide +kernel
theorem dX9_count_66 : decode cX9_count 66 = .ok (.goto (-22), 3) := by decide +kernel
theorem dX9_count_69 : decode cX9_count 69 = .ok (.iload_n 1, 1) := by decide +kernel
theorem dX9_count_70 : decode cX9_count 70 = .ok (.tableswitch 62 0 5 #[38, 43, 45, 50, 55, 57], 38) := by decide +kernel
theorem dX9_count_108 : decode cX9_count 108 = .ok (.aload_n 0, 1) := by decide +kernel
theorem dX9_count_109 : decode cX9_count 109 = .ok (.getfield 7, 3) := by decide +kernel
theorem dX9_count_112 : decode cX9_count 112 = .ok (.ireturn, 1) := by decide +kernel
theorem dX9_count_113 : decode cX9_count 113 = .ok (.iload_n 2, 1) := by decide +kernel
theorem dX9_count_114 : decode cX9_count 114 = .ok (.ireturn, 1) := by decide +kernel
theorem dX9_count_115 : decode cX9_count 115 = .ok (.aload_n 0, 1) := by decide +kernel
theorem dX9_count_116 : decode cX9_count 116 = .ok (.getfield 110, 3) := by decide +kernel
theorem dX9_count_119 : decode cX9_count 119 = .ok (.ireturn, 1) := by decide +kernel
theorem dX9_count_120 : decode cX9_count 120 = .ok (.aload_n 0, 1) := by decide +kernel
theorem dX9_count_121 : decode cX9_count 121 = .ok (.getfield 113, 3) := by decide +kernel
theorem dX9_count_124 : decode cX9_count 124 = .ok (.ireturn, 1) := by decide +kernel
theorem dX9_count_125 : decode cX9_count 125 = .ok (.iload_n 3, 1) := by decide +kernel
theorem dX9_count_126 : decode cX9_count 126 = .ok (.ireturn, 1) := by decide +kernel
theorem dX9_count_127 : decode cX9_count 127 = .ok (.aload_n 0, 1) := by decide +kernel
theorem dX9_count_128 : decode cX9_count 128 = .ok (.getfield 213, 3) := by decide +kernel
theorem dX9_count_131 : decode cX9_count 131 = .ok (.ireturn, 1) := by decide +kernel
theorem dX9_count_132 : decode cX9_count 132 = .ok (.iconst (-1), 1) := by decide +kernel
theorem dX9_count_133 : decode cX9_count 133 = .ok (.ireturn, 1) := by decide +kernel
theorem dJ6_bitCount_0f7a4_0 : decode cJ6_bitCount_0f7a4 0 = .ok (.iload_n 0, 1) := by decide +kernel
theorem dJ6_bitCount_0f7a4_1 : decode cJ6_bitCount_0f7a4 1 = .ok (.iload_n 0, 1) := by decide +kernel
theorem dJ6_bitCount_0f7a4_2 : decode cJ6_bitCount_0f7a4 2 = .ok (.iconst 1, 1) := by decide +kernel
theorem dJ6_bitCount_0f7a4_3 : decode cJ6_bitCount_0f7a4 3 = .ok (.iushr, 1) := by decide +kernel
theorem dJ6_bitCount_0f7a4_4 : decode cJ6_bitCount_0f7a4 4 = .ok (.ldc_w 265, 3) := by decide +kernel
theorem dJ6_bitCount_0f7a4_7 : decode cJ6_bitCount_0f7a4 7 = .ok (.iand, 1) := by decide +kernel
theorem dJ6_bitCount_0f7a4_8 : decode cJ6_bitCount_0f7a4 8 = .ok (.isub, 1) := by decide +kernel
theorem dJ6_bitCount_0f7a4_9 : decode cJ6_bitCount_0f7a4 9 = .ok (.istore_n 0, 1) := by decide +kernel
theorem dJ6_bitCount_0f7a4_10 : decode cJ6_bitCount_0f7a4 10 = .ok (.iload_n 0, 1) := by decide +kernel
theorem dJ6_bitCount_0f7a4_11 : decode cJ6_bitCount_0f7a4 11 = .ok (.ldc_w 266, 3) := by decide +kernel
theorem dJ6_bitCount_0f7a4_14 : decode cJ6_bitCount_0f7a4 14 = .ok (.iand, 1) := by decide +kernel
theorem dJ6_bitCount_0f7a4_15 : decode cJ6_bitCount_0f7a4 15 = .ok (.iload_n 0, 1) := by decide +kernel
theorem dJ6_bitCount_0f7a4_16 : decode cJ6_bitCount_0f7a4 16 = .ok (.iconst 2, 1) := by decide +kernel
theorem dJ6_bitCount_0f7a4_17 : decode cJ6_bitCount_0f7a4 17 = .ok (.iushr, 1) := by decide +kernel
theorem dJ6_bitCount_0f7a4_18 : decode cJ6_bitCount_0f7a4 18 = .ok (.ldc_w 266, 3) := by decide +kernel
theorem dJ6_bitCount_0f7a4_21 : decode cJ6_bitCount_0f7a4 21 = .ok (.iand, 1) := by decide +kernel
theorem dJ6_bitCount_0f7a4_22 : decode cJ6_bitCount_0f7a4 22 = .ok (.iadd, 1) := by decide +kernel
theorem dJ6_bitCount_0f7a4_23 : decode cJ6_bitCount_0f7a4 23 = .ok (.istore_n 0, 1) := by decide +kernel
theorem dJ6_bitCount_0f7a4_24 : decode cJ6_bitCount_0f7a4 24 = .ok (.iload_n 0, 1) := by decide +kernel
theorem dJ6_bitCount_0f7a4_25 : decode cJ6_bitCount_0f7a4 25 = .ok (.iload_n 0, 1) := by decide +kernel
theorem dJ6_bitCount_0f7a4_26 : decode cJ6_bitCount_0f7a4 26 = .ok (.iconst 4, 1) := by decide +kernel
theorem dJ6_bitCount_0f7a4_27 : decode cJ6_bitCount_0f7a4 27 = .ok (.iushr, 1) := by decide +kernel
theorem dJ6_bitCount_0f7a4_28 : decode cJ6_bitCount_0f7a4 28 = .ok (.iadd, 1) := by decide +kernel
theorem dJ6_bitCount_0f7a4_29 : decode cJ6_bitCount_0f7a4 29 = .ok (.ldc_w 267, 3) := by decide +kernel
theorem dJ6_bitCount_0f7a4_32 : decode cJ6_bitCount_0f7a4 32 = .ok (.iand, 1) := by decide +kernel
theorem dJ6_bitCount_0f7a4_33 : decode cJ6_bitCount_0f7a4 33 = .ok (.istore_n 0, 1) := by decide +kernel
theorem dJ6_bitCount_0f7a4_34 : decode cJ6_bitCount_0f7a4 34 = .ok (.iload_n 0, 1) := by decide +kernel
theorem dJ6_bitCount_0f7a4_35 : decode cJ6_bitCount_0f7a4 35 = .ok (.iload_n 0, 1) := by decide +kernel
theorem dJ6_bitCount_0f7a4_36 : decode cJ6_bitCount_0f7a4 36 = .ok (.bipush 8, 2) := by decide +kernel
theorem dJ6_bitCount_0f7a4_38 : decode cJ6_bitCount_0f7a4 38 = .ok (.iushr, 1) := by decide +kernel
theorem dJ6_bitCount_0f7a4_39 : decode cJ6_bitCount_0f7a4 39 = .ok (.iadd, 1) := by decide +kernel
theorem dJ6_bitCount_0f7a4_40 : decode cJ6_bitCount_0f7a4 40 = .ok (.istore_n 0, 1) := by decide +kernel
theorem dJ6_bitCount_0f7a4_41 : decode cJ6_bitCount_0f7a4 41 = .ok (.iload_n 0, 1) := by decide +kernel
theorem dJ6_bitCount_0f7a4_42 : decode cJ6_bitCount_0f7a4 42 = .ok (.iload_n 0, 1) := by decide +kernel
theorem dJ6_bitCount_0f7a4_43 : decode cJ6_bitCount_0f7a4 43 = .ok (.bipush 16, 2) := by decide +kernel
theorem dJ6_bitCount_0f7a4_45 : decode cJ6_bitCount_0f7a4 45 = .ok (.iushr, 1) := by decide +kernel
theorem dJ6_bitCount_0f7a4_46 : decode cJ6_bitCount_0f7a4 46 = .ok (.iadd, 1) := by decide +kernel
theorem dJ6_bitCount_0f7a4_47 : decode cJ6_bitCount_0f7a4 47 = .ok (.istore_n 0, 1) := by decide +kernel
theorem dJ6_bitCount_0f7a4_48 : decode cJ6_bitCount_0f7a4 48 = .ok (.iload_n 0, 1) := by decide +kernel
theorem dJ6_bitCount_0f7a4_49 : decode cJ6_bitCount_0f7a4 49 = .ok (.bipush 63, 2) := by decide +kernel
theorem dJ6_bitCount_0f7a4_51 : decode cJ6_bitCount_0f7a4 51 = .ok (.iand, 1) := by decide +kernel
theorem dJ6_bitCount_0f7a4_52 : decode cJ6_bitCount_0f7a4 52 = .ok (.ireturn, 1) := by decide +kernel
theorem dJ9_floorDiv_7cf53_0 : decode cJ9_floorDiv_7cf53 0 = .ok (.iload_n 0, 1) := by decide +kernel
theorem dJ9_floorDiv_7cf53_1 : decode cJ9_floorDiv_7cf53 1 = .ok (.iload_n 1, 1) := by decide +kernel
theorem dJ9_floorDiv_7cf53_2 : decode cJ9_floorDiv_7cf53 2 = .ok (.idiv, 1) := by decide +kernel
theorem dJ9_floorDiv_7cf53_3 : decode cJ9_floorDiv_7cf53 3 = .ok (.istore_n 2, 1) := by decide +kernel
theorem dJ9_floorDiv_7cf53_4 : decode cJ9_floorDiv_7cf53 4 = .ok (.iload_n 0, 1) := by decide +kernel
theorem dJ9_floorDiv_7cf53_5 : decode cJ9_floorDiv_7cf53 5 = .ok (.iload_n 1, 1) := by decide +kernel
theorem dJ9_floorDiv_7cf53_6 : decode cJ9_floorDiv_7cf53 6 = .ok (.ixor, 1) := by decide +kernel
theorem dJ9_floorDiv_7cf53_7 : decode cJ9_floorDiv_7cf53 7 = .ok (.ifCond .ge 14, 3) := by decide +kernel
theorem dJ9_floorDiv_7cf53_10 : decode cJ9_floorDiv_7cf53 10 = .ok (.iload_n 2, 1) := by decide +kernel
theorem dJ9_floorDiv_7cf53_11 : decode cJ9_floorDiv_7cf53 11 = .ok (.iload_n 1, 1) := by decide +kernel
theorem dJ9_floorDiv_7cf53_12 : decode cJ9_floorDiv_7cf53 12 = .ok (.imul, 1) := by decide +kernel
theorem dJ9_floorDiv_7cf53_13 : decode cJ9_floorDiv_7cf53 13 = .ok (.iload_n 0, 1) := by decide +kernel
theorem dJ9_floorDiv_7cf53_14 : decode cJ9_floorDiv_7cf53 14 = .ok (.if_icmp .eq 7, 3) := by decide +kernel
theorem dJ9_floorDiv_7cf53_17 : decode cJ9_floorDiv_7cf53 17 = .ok (.iload_n 2, 1) := by decide +kernel
theorem dJ9_floorDiv_7cf53_18 : decode cJ9_floorDiv_7cf53 18 = .ok (.iconst 1, 1) := by decide +kernel
theorem dJ9_floorDiv_7cf53_19 : decode cJ9_floorDiv_7cf53 19 = .ok (.isub, 1) := by decide +kernel
theorem dJ9_floorDiv_7cf53_20 : decode cJ9_floorDiv_7cf53 20 = .ok (.ireturn, 1) := by decide +kernel
theorem dJ9_floorDiv_7cf53_21 : decode cJ9_floorDiv_7cf53 21 = .ok (.iload_n 2, 1) := by decide +kernel
theorem dJ9_floorDiv_7cf53_22 : decode cJ9_floorDiv_7cf53 22 = .ok (.ireturn, 1) := by decide +kernel
theorem dJ9_abs_0f7a4_0 : decode cJ9_abs_0f7a4 0 = .ok (.iload_n 0, 1) := by decide +kernel
theorem dJ9_abs_0f7a4_1 : decode cJ9_abs_0f7a4 1 = .ok (.ifCond .ge 8, 3) := by decide +kernel
theorem dJ9_abs_0f7a4_4 : decode cJ9_abs_0f7a4 4 = .ok (.iload_n 0, 1) := by decide +kernel
theorem dJ9_abs_0f7a4_5 : decode cJ9_abs_0f7a4 5 = .ok (.ineg, 1) := by decide +kernel
theorem dJ9_abs_0f7a4_6 : decode cJ9_abs_0f7a4 6 = .ok (.goto 4, 3) := by decide +kernel
theorem dJ9_abs_0f7a4_9 : decode cJ9_abs_0f7a4 9 = .ok (.iload_n 0, 1) := by decide +kernel
theorem dJ9_abs_0f7a4_10 : decode cJ9_abs_0f7a4 10 = .ok (.ireturn, 1) := by decide +kernel
theorem dJ9_abs_067f4_0 : decode cJ9_abs_067f4 0 = .ok (.lload_n 0, 1) := by decide +kernel
theorem dJ9_abs_067f4_1 : decode cJ9_abs_067f4 1 = .ok (.lconst 0, 1) := by decide +kernel
theorem dJ9_abs_067f4_2 : decode cJ9_abs_067f4 2 = .ok (.lcmp, 1) := by decide +kernel
theorem dJ9_abs_067f4_3 : decode cJ9_abs_067f4 3 = .ok (.ifCond .ge 8, 3) := by decide +kernel
theorem dJ9_abs_067f4_6 : decode cJ9_abs_067f4 6 = .ok (.lload_n 0, 1) := by decide +kernel
theorem dJ9_abs_067f4_7 : decode cJ9_abs_067f4 7 = .ok (.lneg, 1) := by decide +kernel
theorem dJ9_abs_067f4_8 : decode cJ9_abs_067f4 8 = .ok (.goto 4, 3) := by decide +kernel
theorem dJ9_abs_067f4_11 : decode cJ9_abs_067f4 11 = .ok (.lload_n 0, 1) := by decide +kernel
theorem dJ9_abs_067f4_12 : decode cJ9_abs_067f4 12 = .ok (.lreturn, 1) := by decide +kernel
theorem dJ9_max_7cf53_0 : decode cJ9_max_7cf53 0 = .ok (.iload_n 0, 1) := by decide +kernel
theorem dJ9_max_7cf53_1 : decode cJ9_max_7cf53 1 = .ok (.iload_n 1, 1) := by decide +kernel
theorem dJ9_max_7cf53_2 : decode cJ9_max_7cf53 2 = .ok (.if_icmp .lt 7, 3) := by decide +kernel
theorem dJ9_max_7cf53_5 : decode cJ9_max_7cf53 5 = .ok (.iload_n 0, 1) := by decide +kernel
theorem dJ9_max_7cf53_6 : decode cJ9_max_7cf53 6 = .ok (.goto 4, 3) := by decide +kernel
theorem dJ9_max_7cf53_9 : decode cJ9_max_7cf53 9 = .ok (.iload_n 1, 1) := by decide +kernel
theorem dJ9_max_7cf53_10 : decode cJ9_max_7cf53 10 = .ok (.ireturn, 1) := by decide +kernel
theorem dJ9_min_7cf53_0 : decode cJ9_min_7cf53 0 = .ok (.iload_n 0, 1) := by decide +kernel
theorem dJ9_min_7cf53_1 : decode cJ9_min_7cf53 1 = .ok (.iload_n 1, 1) := by decide +kernel
theorem dJ9_min_7cf53_2 : decode cJ9_min_7cf53 2 = .ok (.if_icmp .gt 7, 3) := by decide +kernel
theorem dJ9_min_7cf53_5 : decode cJ9_min_7cf53 5 = .ok (.iload_n 0, 1) := by decide +kernel
theorem dJ9_min_7cf53_6 : decode cJ9_min_7cf53 6 = .ok (.goto 4, 3) := by decide +kernel
theorem dJ9_min_7cf53_9 : decode cJ9_min_7cf53 9 = .ok (.iload_n 1, 1) := by decide +kernel
theorem dJ9_min_7cf53_10 : decode cJ9_min_7cf53 10 = .ok (.ireturn, 1) := by decide +kernel
theorem dJ7_fill_53178_0 : decode cJ7_fill_53178 0 = .ok (.iconst 0, 1) := by decide +kernel
theorem dJ7_fill_53178_1 : decode cJ7_fill_53178 1 = .ok (.istore_n 2, 1) := by decide +kernel
theorem dJ7_fill_53178_2 : decode cJ7_fill_53178 2 = .ok (.aload_n 0, 1) := by decide +kernel
theorem dJ7_fill_53178_3 : decode cJ7_fill_53178 3 = .ok (.arraylength, 1) := by decide +kernel
theorem dJ7_fill_53178_4 : decode cJ7_fill_53178 4 = .ok (.istore_n 3, 1) := by decide +kernel
theorem dJ7_fill_53178_5 : decode cJ7_fill_53178 5 = .ok (.iload_n 2, 1) := by decide +kernel
theorem dJ7_fill_53178_6 : decode cJ7_fill_53178 6 = .ok (.iload_n 3, 1) := by decide +kernel
theorem dJ7_fill_53178_7 : decode cJ7_fill_53178 7 = .ok (.if_icmp .ge 13, 3) := by decide +kernel
theorem dJ7_fill_53178_10 : decode cJ7_fill_53178 10 = .ok (.aload_n 0, 1) := by decide +kernel
theorem dJ7_fill_53178_11 : decode cJ7_fill_53178 11 = .ok (.iload_n 2, 1) := by decide +kernel
theorem dJ7_fill_53178_12 : decode cJ7_fill_53178 12 = .ok (.iload_n 1, 1) := by decide +kernel
theorem dJ7_fill_53178_13 : decode cJ7_fill_53178 13 = .ok (.iastore, 1) := by decide +kernel
theorem dJ7_fill_53178_14 : decode cJ7_fill_53178 14 = .ok (.iinc 2 1, 3) := by decide +kernel
theorem dJ7_fill_53178_17 : decode cJ7_fill_53178 17 = .ok (.goto (-12), 3) := by decide +kernel
theorem dJ7_fill_53178_20 : decode cJ7_fill_53178 20 = .ok (.return_, 1) := by decide +kernel
theorem dL_law_0 : decode cL_law 0 = .ok (.new 7, 3) := by decide +kernel
theorem dL_law_3 : decode cL_law 3 = .ok (.dup, 1) := by decide +kernel
theorem dL_law_4 : decode cL_law 4 = .ok (.invokespecial 9, 3) := by decide +kernel
theorem dL_law_7 : decode cL_law 7 = .ok (.astore_n 1, 1) := by decide +kernel
theorem dL_law_8 : decode cL_law 8 = .ok (.new 10, 3) := by decide +kernel
theorem dL_law_11 : decode cL_law 11 = .ok (.dup, 1) := by decide +kernel
theorem dL_law_12 : decode cL_law 12 = .ok (.invokespecial 12, 3) := by decide +kernel
theorem dL_law_15 : decode cL_law 15 = .ok (.astore_n 2, 1) := by decide +kernel
theorem dL_law_16 : decode cL_law 16 = .ok (.iconst 0, 1) := by decide +kernel
theorem dL_law_17 : decode cL_law 17 = .ok (.istore_n 3, 1) := by decide +kernel
theorem dL_law_18 : decode cL_law 18 = .ok (.iload_n 3, 1) := by decide +kernel
theorem dL_law_19 : decode cL_law 19 = .ok (.aload_n 0, 1) := by decide +kernel
theorem dL_law_20 : decode cL_law 20 = .ok (.arraylength, 1) := by decide +kernel
theorem dL_law_21 : decode cL_law 21 = .ok (.iconst 4, 1) := by decide +kernel
theorem dL_law_22 : decode cL_law 22 = .ok (.isub, 1) := by decide +kernel
theorem dL_law_23 : decode cL_law 23 = .ok (.if_icmp .gt 1022, 3) := by decide +kernel
theorem dL_law_26 : decode cL_law 26 = .ok (.aload_n 0, 1) := by decide +kernel
theorem dL_law_27 : decode cL_law 27 = .ok (.iload_n 3, 1) := by decide +kernel
theorem dL_law_28 : decode cL_law 28 = .ok (.iaload, 1) := by decide +kernel
theorem dL_law_29 : decode cL_law 29 = .ok (.bipush 31, 2) := by decide +kernel
theorem dL_law_31 : decode cL_law 31 = .ok (.iand, 1) := by decide +kernel
theorem dL_law_32 : decode cL_law 32 = .ok (.tableswitch 1007 0 29 #[136, 159, 202, 236, 269, 292, 335, 358, 381, 404, 427, 470, 493, 536, 559, 602, 615, 648, 681, 704, 727, 770, 793, 826, 849, 872, 895, 928, 951, 984], 136) := by decide +kernel
theorem dL_law_168 : decode cL_law 168 = .ok (.aload_n 1, 1) := by decide +kernel
theorem dL_law_169 : decode cL_law 169 = .ok (.aload_n 0, 1) := by decide +kernel
theorem dL_law_170 : decode cL_law 170 = .ok (.iload_n 3, 1) := by decide +kernel
theorem dL_law_171 : decode cL_law 171 = .ok (.iconst 1, 1) := by decide +kernel
theorem dL_law_172 : decode cL_law 172 = .ok (.iadd, 1) := by decide +kernel
theorem dL_law_173 : decode cL_law 173 = .ok (.iaload, 1) := by decide +kernel
theorem dL_law_174 : decode cL_law 174 = .ok (.invokevirtual 13, 3) := by decide +kernel
theorem dL_law_177 : decode cL_law 177 = .ok (.aload_n 2, 1) := by decide +kernel
theorem dL_law_178 : decode cL_law 178 = .ok (.aload_n 0, 1) := by decide +kernel
theorem dL_law_179 : decode cL_law 179 = .ok (.iload_n 3, 1) := by decide +kernel
theorem dL_law_180 : decode cL_law 180 = .ok (.iconst 1, 1) := by decide +kernel
theorem dL_law_181 : decode cL_law 181 = .ok (.iadd, 1) := by decide +kernel
theorem dL_law_182 : decode cL_law 182 = .ok (.iaload, 1) := by decide +kernel
theorem dL_law_183 : decode cL_law 183 = .ok (.invokevirtual 17, 3) := by decide +kernel
theorem dL_law_186 : decode cL_law 186 = .ok (.if_icmp .eq 853, 3) := by decide +kernel
theorem dL_law_189 : decode cL_law 189 = .ok (.iconst 0, 1) := by decide +kernel
theorem dL_law_190 : decode cL_law 190 = .ok (.ireturn, 1) := by decide +kernel
theorem dL_law_191 : decode cL_law 191 = .ok (.aload_n 1, 1) := by decide +kernel
theorem dL_law_192 : decode cL_law 192 = .ok (.aload_n 0, 1) := by decide +kernel
theorem dL_law_193 : decode cL_law 193 = .ok (.iload_n 3, 1) := by decide +kernel
theorem dL_law_194 : decode cL_law 194 = .ok (.iconst 1, 1) := by decide +kernel
theorem dL_law_195 : decode cL_law 195 = .ok (.iadd, 1) := by decide +kernel
theorem dL_law_196 : decode cL_law 196 = .ok (.iaload, 1) := by decide +kernel
theorem dL_law_197 : decode cL_law 197 = .ok (.aload_n 0, 1) := by decide +kernel
theorem dL_law_198 : decode cL_law 198 = .ok (.iload_n 3, 1) := by decide +kernel
theorem dL_law_199 : decode cL_law 199 = .ok (.iconst 2, 1) := by decide +kernel
theorem dL_law_200 : decode cL_law 200 = .ok (.iadd, 1) := by decide +kernel
theorem dL_law_201 : decode cL_law 201 = .ok (.iaload, 1) := by decide +kernel
theorem dL_law_202 : decode cL_law 202 = .ok (.aload_n 0, 1) := by decide +kernel
theorem dL_law_203 : decode cL_law 203 = .ok (.iload_n 3, 1) := by decide +kernel
theorem dL_law_204 : decode cL_law 204 = .ok (.iconst 3, 1) := by decide +kernel
theorem dL_law_205 : decode cL_law 205 = .ok (.iadd, 1) := by decide +kernel
theorem dL_law_206 : decode cL_law 206 = .ok (.iaload, 1) := by decide +kernel
theorem dL_law_207 : decode cL_law 207 = .ok (.invokevirtual 18, 3) := by decide +kernel
theorem dL_law_210 : decode cL_law 210 = .ok (.aload_n 2, 1) := by decide +kernel
theorem dL_law_211 : decode cL_law 211 = .ok (.aload_n 0, 1) := by decide +kernel
theorem dL_law_212 : decode cL_law 212 = .ok (.iload_n 3, 1) := by decide +kernel
theorem dL_law_213 : decode cL_law 213 = .ok (.iconst 1, 1) := by decide +kernel
theorem dL_law_214 : decode cL_law 214 = .ok (.iadd, 1) := by decide +kernel
theorem dL_law_215 : decode cL_law 215 = .ok (.iaload, 1) := by decide +kernel
theorem dL_law_216 : decode cL_law 216 = .ok (.aload_n 0, 1) := by decide +kernel
theorem dL_law_217 : decode cL_law 217 = .ok (.iload_n 3, 1) := by decide +kernel
theorem dL_law_218 : decode cL_law 218 = .ok (.iconst 2, 1) := by decide +kernel
theorem dL_law_219 : decode cL_law 219 = .ok (.iadd, 1) := by decide +kernel
theorem dL_law_220 : decode cL_law 220 = .ok (.iaload, 1) := by decide +kernel
theorem dL_law_221 : decode cL_law 221 = .ok (.aload_n 0, 1) := by decide +kernel
theorem dL_law_222 : decode cL_law 222 = .ok (.iload_n 3, 1) := by decide +kernel
theorem dL_law_223 : decode cL_law 223 = .ok (.iconst 3, 1) := by decide +kernel
theorem dL_law_224 : decode cL_law 224 = .ok (.iadd, 1) := by decide +kernel
theorem dL_law_225 : decode cL_law 225 = .ok (.iaload, 1) := by decide +kernel
theorem dL_law_226 : decode cL_law 226 = .ok (.invokevirtual 22, 3) := by decide +kernel
theorem dL_law_229 : decode cL_law 229 = .ok (.if_icmp .eq 810, 3) := by decide +kernel
theorem dL_law_232 : decode cL_law 232 = .ok (.iconst 0, 1) := by decide +kernel
theorem dL_law_233 : decode cL_law 233 = .ok (.ireturn, 1) := by decide +kernel
theorem dL_law_234 : decode cL_law 234 = .ok (.aload_n 1, 1) := by decide +kernel
theorem dL_law_235 : decode cL_law 235 = .ok (.aload_n 0, 1) := by decide +kernel
theorem dL_law_236 : decode cL_law 236 = .ok (.iload_n 3, 1) := by decide +kernel
theorem dL_law_237 : decode cL_law 237 = .ok (.iconst 1, 1) := by decide +kernel
theorem dL_law_238 : decode cL_law 238 = .ok (.iadd, 1) := by decide +kernel
theorem dL_law_239 : decode cL_law 239 = .ok (.iaload, 1) := by decide +kernel
theorem dL_law_240 : decode cL_law 240 = .ok (.aload_n 0, 1) := by decide +kernel
theorem dL_law_241 : decode cL_law 241 = .ok (.iload_n 3, 1) := by decide +kernel
theorem dL_law_242 : decode cL_law 242 = .ok (.iconst 2, 1) := by decide +kernel
theorem dL_law_243 : decode cL_law 243 = .ok (.iadd, 1) := by decide +kernel
theorem dL_law_244 : decode cL_law 244 = .ok (.iaload, 1) := by decide +kernel
theorem dL_law_245 : decode cL_law 245 = .ok (.invokevirtual 23, 3) := by decide +kernel
theorem dL_law_248 : decode cL_law 248 = .ok (.aload_n 2, 1) := by decide +kernel
theorem dL_law_249 : decode cL_law 249 = .ok (.aload_n 0, 1) := by decide +kernel
theorem dL_law_250 : decode cL_law 250 = .ok (.iload_n 3, 1) := by decide +kernel
theorem dL_law_251 : decode cL_law 251 = .ok (.iconst 1, 1) := by decide +kernel
theorem dL_law_252 : decode cL_law 252 = .ok (.iadd, 1) := by decide +kernel
theorem dL_law_253 : decode cL_law 253 = .ok (.iaload, 1) := by decide +kernel
theorem dL_law_254 : decode cL_law 254 = .ok (.aload_n 0, 1) := by decide +kernel
theorem dL_law_255 : decode cL_law 255 = .ok (.iload_n 3, 1) := by decide +kernel
theorem dL_law_256 : decode cL_law 256 = .ok (.iconst 2, 1) := by decide +kernel
theorem dL_law_257 : decode cL_law 257 = .ok (.iadd, 1) := by decide +kernel
theorem dL_law_258 : decode cL_law 258 = .ok (.iaload, 1) := by decide +kernel
theorem dL_law_259 : decode cL_law 259 = .ok (.invokevirtual 27, 3) := by decide +kernel
theorem dL_law_262 : decode cL_law 262 = .ok (.lcmp, 1) := by decide +kernel
theorem dL_law_263 : decode cL_law 263 = .ok (.ifCond .eq 776, 3) := by decide +kernel
theorem dL_law_266 : decode cL_law 266 = .ok (.iconst 0, 1) := by decide +kernel
theorem dL_law_267 : decode cL_law 267 = .ok (.ireturn, 1) := by decide +kernel
theorem dL_law_268 : decode cL_law 268 = .ok (.aload_n 1, 1) := by decide +kernel
theorem dL_law_269 : decode cL_law 269 = .ok (.aload_n 0, 1) := by decide +kernel
theorem dL_law_270 : decode cL_law 270 = .ok (.iload_n 3, 1) := by decide +kernel
theorem dL_law_271 : decode cL_law 271 = .ok (.iconst 1, 1) := by decide +kernel
theorem dL_law_272 : decode cL_law 272 = .ok (.iadd, 1) := by decide +kernel
theorem dL_law_273 : decode cL_law 273 = .ok (.iaload, 1) := by decide +kernel
theorem dL_law_274 : decode cL_law 274 = .ok (.aload_n 0, 1) := by decide +kernel
theorem dL_law_275 : decode cL_law 275 = .ok (.iload_n 3, 1) := by decide +kernel
theorem dL_law_276 : decode cL_law 276 = .ok (.iconst 2, 1) := by decide +kernel
theorem dL_law_277 : decode cL_law 277 = .ok (.iadd, 1) := by decide +kernel
theorem dL_law_278 : decode cL_law 278 = .ok (.iaload, 1) := by decide +kernel
theorem dL_law_279 : decode cL_law 279 = .ok (.invokevirtual 28, 3) := by decide +kernel
theorem dL_law_282 : decode cL_law 282 = .ok (.aload_n 2, 1) := by decide +kernel
theorem dL_law_283 : decode cL_law 283 = .ok (.aload_n 0, 1) := by decide +kernel
theorem dL_law_284 : decode cL_law 284 = .ok (.iload_n 3, 1) := by decide +kernel
theorem dL_law_285 : decode cL_law 285 = .ok (.iconst 1, 1) := by decide +kernel
theorem dL_law_286 : decode cL_law 286 = .ok (.iadd, 1) := by decide +kernel
theorem dL_law_287 : decode cL_law 287 = .ok (.iaload, 1) := by decide +kernel
theorem dL_law_288 : decode cL_law 288 = .ok (.aload_n 0, 1) := by decide +kernel
theorem dL_law_289 : decode cL_law 289 = .ok (.iload_n 3, 1) := by decide +kernel
theorem dL_law_290 : decode cL_law 290 = .ok (.iconst 2, 1) := by decide +kernel
theorem dL_law_291 : decode cL_law 291 = .ok (.iadd, 1) := by decide +kernel
theorem dL_law_292 : decode cL_law 292 = .ok (.iaload, 1) := by decide +kernel
theorem dL_law_293 : decode cL_law 293 = .ok (.invokevirtual 32, 3) := by decide +kernel
theorem dL_law_296 : decode cL_law 296 = .ok (.if_icmp .eq 743, 3) := by decide +kernel
theorem dL_law_299 : decode cL_law 299 = .ok (.iconst 0, 1) := by decide +kernel
theorem dL_law_300 : decode cL_law 300 = .ok (.ireturn, 1) := by decide +kernel
theorem dL_law_301 : decode cL_law 301 = .ok (.aload_n 1, 1) := by decide +kernel
theorem dL_law_302 : decode cL_law 302 = .ok (.aload_n 0, 1) := by decide +kernel
theorem dL_law_303 : decode cL_law 303 = .ok (.iload_n 3, 1) := by decide +kernel
theorem dL_law_304 : decode cL_law 304 = .ok (.iconst 1, 1) := by decide +kernel
theorem dL_law_305 : decode cL_law 305 = .ok (.iadd, 1) := by decide +kernel
theorem dL_law_306 : decode cL_law 306 = .ok (.iaload, 1) := by decide +kernel
theorem dL_law_307 : decode cL_law 307 = .ok (.invokevirtual 33, 3) := by decide +kernel
theorem dL_law_310 : decode cL_law 310 = .ok (.aload_n 2, 1) := by decide +kernel
theorem dL_law_311 : decode cL_law 311 = .ok (.aload_n 0, 1) := by decide +kernel
theorem dL_law_312 : decode cL_law 312 = .ok (.iload_n 3, 1) := by decide +kernel
theorem dL_law_313 : decode cL_law 313 = .ok (.iconst 1, 1) := by decide +kernel
theorem dL_law_314 : decode cL_law 314 = .ok (.iadd, 1) := by decide +kernel
theorem dL_law_315 : decode cL_law 315 = .ok (.iaload, 1) := by decide +kernel
theorem dL_law_316 : decode cL_law 316 = .ok (.invokevirtual 36, 3) := by decide +kernel
theorem dL_law_319 : decode cL_law 319 = .ok (.if_icmp .eq 720, 3) := by decide +kernel
theorem dL_law_322 : decode cL_law 322 = .ok (.iconst 0, 1) := by decide +kernel
theorem dL_law_323 : decode cL_law 323 = .ok (.ireturn, 1) := by decide +kernel
theorem dL_law_324 : decode cL_law 324 = .ok (.aload_n 1, 1) := by decide +kernel
theorem dL_law_325 : decode cL_law 325 = .ok (.aload_n 0, 1) := by decide +kernel
theorem dL_law_326 : decode cL_law 326 = .ok (.iload_n 3, 1) := by decide +kernel
theorem dL_law_327 : decode cL_law 327 = .ok (.iconst 1, 1) := by decide +kernel
theorem dL_law_328 : decode cL_law 328 = .ok (.iadd, 1) := by decide +kernel
theorem dL_law_329 : decode cL_law 329 = .ok (.iaload, 1) := by decide +kernel
theorem dL_law_330 : decode cL_law 330 = .ok (.aload_n 0, 1) := by decide +kernel
theorem dL_law_331 : decode cL_law 331 = .ok (.iload_n 3, 1) := by decide +kernel
theorem dL_law_332 : decode cL_law 332 = .ok (.iconst 2, 1) := by decide +kernel
theorem dL_law_333 : decode cL_law 333 = .ok (.iadd, 1) := by decide +kernel
theorem dL_law_334 : decode cL_law 334 = .ok (.iaload, 1) := by decide +kernel
theorem dL_law_335 : decode cL_law 335 = .ok (.aload_n 0, 1) := by decide +kernel
theorem dL_law_336 : decode cL_law 336 = .ok (.iload_n 3, 1) := by decide +kernel
theorem dL_law_337 : decode cL_law 337 = .ok (.iconst 3, 1) := by decide +kernel
theorem dL_law_338 : decode cL_law 338 = .ok (.iadd, 1) := by decide +kernel
theorem dL_law_339 : decode cL_law 339 = .ok (.iaload, 1) := by decide +kernel
theorem dL_law_340 : decode cL_law 340 = .ok (.invokevirtual 37, 3) := by decide +kernel
theorem dL_law_343 : decode cL_law 343 = .ok (.aload_n 2, 1) := by decide +kernel
theorem dL_law_344 : decode cL_law 344 = .ok (.aload_n 0, 1) := by decide +kernel
theorem dL_law_345 : decode cL_law 345 = .ok (.iload_n 3, 1) := by decide +kernel
theorem dL_law_346 : decode cL_law 346 = .ok (.iconst 1, 1) := by decide +kernel
theorem dL_law_347 : decode cL_law 347 = .ok (.iadd, 1) := by decide +kernel
theorem dL_law_348 : decode cL_law 348 = .ok (.iaload, 1) := by decide +kernel
theorem dL_law_349 : decode cL_law 349 = .ok (.aload_n 0, 1) := by decide +kernel
theorem dL_law_350 : decode cL_law 350 = .ok (.iload_n 3, 1) := by decide +kernel
theorem dL_law_351 : decode cL_law 351 = .ok (.iconst 2, 1) := by decide +kernel
theorem dL_law_352 : decode cL_law 352 = .ok (.iadd, 1) := by decide +kernel
theorem dL_law_353 : decode cL_law 353 = .ok (.iaload, 1) := by decide +kernel
theorem dL_law_354 : decode cL_law 354 = .ok (.aload_n 0, 1) := by decide +kernel
theorem dL_law_355 : decode cL_law 355 = .ok (.iload_n 3, 1) := by decide +kernel
theorem dL_law_356 : decode cL_law 356 = .ok (.iconst 3, 1) := by decide +kernel
theorem dL_law_357 : decode cL_law 357 = .ok (.iadd, 1) := by decide +kernel
theorem dL_law_358 : decode cL_law 358 = .ok (.iaload, 1) := by decide +kernel
theorem dL_law_359 : decode cL_law 359 = .ok (.invokevirtual 40, 3) := by decide +kernel
theorem dL_law_362 : decode cL_law 362 = .ok (.if_icmp .eq 677, 3) := by decide +kernel
theorem dL_law_365 : decode cL_law 365 = .ok (.iconst 0, 1) := by decide +kernel
theorem dL_law_366 : decode cL_law 366 = .ok (.ireturn, 1) := by decide +kernel
theorem dL_law_367 : decode cL_law 367 = .ok (.aload_n 1, 1) := by decide +kernel
theorem dL_law_368 : decode cL_law 368 = .ok (.aload_n 0, 1) := by decide +kernel
theorem dL_law_369 : decode cL_law 369 = .ok (.iload_n 3, 1) := by decide +kernel
theorem dL_law_370 : decode cL_law 370 = .ok (.iconst 1, 1) := by decide +kernel
theorem dL_law_371 : decode cL_law 371 = .ok (.iadd, 1) := by decide +kernel
theorem dL_law_372 : decode cL_law 372 = .ok (.iaload, 1) := by decide +kernel
theorem dL_law_373 : decode cL_law 373 = .ok (.invokevirtual 41, 3) := by decide +kernel
theorem dL_law_376 : decode cL_law 376 = .ok (.aload_n 2, 1) := by decide +kernel
theorem dL_law_377 : decode cL_law 377 = .ok (.aload_n 0, 1) := by decide +kernel
theorem dL_law_378 : decode cL_law 378 = .ok (.iload_n 3, 1) := by decide +kernel
theorem dL_law_379 : decode cL_law 379 = .ok (.iconst 1, 1) := by decide +kernel
theorem dL_law_380 : decode cL_law 380 = .ok (.iadd, 1) := by decide +kernel
theorem dL_law_381 : decode cL_law 381 = .ok (.iaload, 1) := by decide +kernel
theorem dL_law_382 : decode cL_law 382 = .ok (.invokevirtual 44, 3) := by decide +kernel
theorem dL_law_385 : decode cL_law 385 = .ok (.if_icmp .eq 654, 3) := by decide +kernel
theorem dL_law_388 : decode cL_law 388 = .ok (.iconst 0, 1) := by decide +kernel
theorem dL_law_389 : decode cL_law 389 = .ok (.ireturn, 1) := by decide +kernel
theorem dL_law_390 : decode cL_law 390 = .ok (.aload_n 1, 1) := by decide +kernel
theorem dL_law_391 : decode cL_law 391 = .ok (.aload_n 0, 1) := by decide +kernel
theorem dL_law_392 : decode cL_law 392 = .ok (.iload_n 3, 1) := by decide +kernel
theorem dL_law_393 : decode cL_law 393 = .ok (.iconst 1, 1) := by decide +kernel
theorem dL_law_394 : decode cL_law 394 = .ok (.iadd, 1) := by decide +kernel
theorem dL_law_395 : decode cL_law 395 = .ok (.iaload, 1) := by decide +kernel
theorem dL_law_396 : decode cL_law 396 = .ok (.invokevirtual 45, 3) := by decide +kernel
theorem dL_law_399 : decode cL_law 399 = .ok (.aload_n 2, 1) := by decide +kernel
theorem dL_law_400 : decode cL_law 400 = .ok (.aload_n 0, 1) := by decide +kernel
theorem dL_law_401 : decode cL_law 401 = .ok (.iload_n 3, 1) := by decide +kernel
theorem dL_law_402 : decode cL_law 402 = .ok (.iconst 1, 1) := by decide +kernel
theorem dL_law_403 : decode cL_law 403 = .ok (.iadd, 1) := by decide +kernel
theorem dL_law_404 : decode cL_law 404 = .ok (.iaload, 1) := by decide +kernel
theorem dL_law_405 : decode cL_law 405 = .ok (.invokevirtual 48, 3) := by decide +kernel
theorem dL_law_408 : decode cL_law 408 = .ok (.if_icmp .eq 631, 3) := by decide +kernel
theorem dL_law_411 : decode cL_law 411 = .ok (.iconst 0, 1) := by decide +kernel
theorem dL_law_412 : decode cL_law 412 = .ok (.ireturn, 1) := by decide +kernel
theorem dL_law_413 : decode cL_law 413 = .ok (.aload_n 1, 1) := by decide +kernel
theorem dL_law_414 : decode cL_law 414 = .ok (.aload_n 0, 1) := by decide +kernel
theorem dL_law_415 : decode cL_law 415 = .ok (.iload_n 3, 1) := by decide +kernel
theorem dL_law_416 : decode cL_law 416 = .ok (.iconst 1, 1) := by decide +kernel
theorem dL_law_417 : decode cL_law 417 = .ok (.iadd, 1) := by decide +kernel
theorem dL_law_418 : decode cL_law 418 = .ok (.iaload, 1) := by decide +kernel
theorem dL_law_419 : decode cL_law 419 = .ok (.invokevirtual 49, 3) := by decide +kernel
theorem dL_law_422 : decode cL_law 422 = .ok (.aload_n 2, 1) := by decide +kernel
theorem dL_law_423 : decode cL_law 423 = .ok (.aload_n 0, 1) := by decide +kernel
theorem dL_law_424 : decode cL_law 424 = .ok (.iload_n 3, 1) := by decide +kernel
theorem dL_law_425 : decode cL_law 425 = .ok (.iconst 1, 1) := by decide +kernel
theorem dL_law_426 : decode cL_law 426 = .ok (.iadd, 1) := by decide +kernel
theorem dL_law_427 : decode cL_law 427 = .ok (.iaload, 1) := by decide +kernel
theorem dL_law_428 : decode cL_law 428 = .ok (.invokevirtual 52, 3) := by decide +kernel
theorem dL_law_431 : decode cL_law 431 = .ok (.if_icmp .eq 608, 3) := by decide +kernel
theorem dL_law_434 : decode cL_law 434 = .ok (.iconst 0, 1) := by decide +kernel
theorem dL_law_435 : decode cL_law 435 = .ok (.ireturn, 1) := by decide +kernel
theorem dL_law_436 : decode cL_law 436 = .ok (.aload_n 1, 1) := by decide +kernel
theorem dL_law_437 : decode cL_law 437 = .ok (.aload_n 0, 1) := by decide +kernel
theorem dL_law_438 : decode cL_law 438 = .ok (.iload_n 3, 1) := by decide +kernel
theorem dL_law_439 : decode cL_law 439 = .ok (.iconst 1, 1) := by decide +kernel
theorem dL_law_440 : decode cL_law 440 = .ok (.iadd, 1) := by decide +kernel
theorem dL_law_441 : decode cL_law 441 = .ok (.iaload, 1) := by decide +kernel
theorem dL_law_442 : decode cL_law 442 = .ok (.invokevirtual 53, 3) := by decide +kernel
theorem dL_law_445 : decode cL_law 445 = .ok (.aload_n 2, 1) := by decide +kernel
theorem dL_law_446 : decode cL_law 446 = .ok (.aload_n 0, 1) := by decide +kernel
theorem dL_law_447 : decode cL_law 447 = .ok (.iload_n 3, 1) := by decide +kernel
theorem dL_law_448 : decode cL_law 448 = .ok (.iconst 1, 1) := by decide +kernel
theorem dL_law_449 : decode cL_law 449 = .ok (.iadd, 1) := by decide +kernel
theorem dL_law_450 : decode cL_law 450 = .ok (.iaload, 1) := by decide +kernel
theorem dL_law_451 : decode cL_law 451 = .ok (.invokevirtual 56, 3) := by decide +kernel
theorem dL_law_454 : decode cL_law 454 = .ok (.if_icmp .eq 585, 3) := by decide +kernel
theorem dL_law_457 : decode cL_law 457 = .ok (.iconst 0, 1) := by decide +kernel
theorem dL_law_458 : decode cL_law 458 = .ok (.ireturn, 1) := by decide +kernel
theorem dL_law_459 : decode cL_law 459 = .ok (.aload_n 1, 1) := by decide +kernel
theorem dL_law_460 : decode cL_law 460 = .ok (.aload_n 0, 1) := by decide +kernel
theorem dL_law_461 : decode cL_law 461 = .ok (.iload_n 3, 1) := by decide +kernel
theorem dL_law_462 : decode cL_law 462 = .ok (.iconst 1, 1) := by decide +kernel
theorem dL_law_463 : decode cL_law 463 = .ok (.iadd, 1) := by decide +kernel
theorem dL_law_464 : decode cL_law 464 = .ok (.iaload, 1) := by decide +kernel
theorem dL_law_465 : decode cL_law 465 = .ok (.aload_n 0, 1) := by decide +kernel
theorem dL_law_466 : decode cL_law 466 = .ok (.iload_n 3, 1) := by decide +kernel
theorem dL_law_467 : decode cL_law 467 = .ok (.iconst 2, 1) := by decide +kernel
theorem dL_law_468 : decode cL_law 468 = .ok (.iadd, 1) := by decide +kernel
theorem dL_law_469 : decode cL_law 469 = .ok (.iaload, 1) := by decide +kernel
theorem dL_law_470 : decode cL_law 470 = .ok (.aload_n 0, 1) := by decide +kernel
theorem dL_law_471 : decode cL_law 471 = .ok (.iload_n 3, 1) := by decide +kernel
theorem dL_law_472 : decode cL_law 472 = .ok (.iconst 3, 1) := by decide +kernel
theorem dL_law_473 : decode cL_law 473 = .ok (.iadd, 1) := by decide +kernel
theorem dL_law_474 : decode cL_law 474 = .ok (.iaload, 1) := by decide +kernel
theorem dL_law_475 : decode cL_law 475 = .ok (.invokevirtual 57, 3) := by decide +kernel
theorem dL_law_478 : decode cL_law 478 = .ok (.aload_n 2, 1) := by decide +kernel
theorem dL_law_479 : decode cL_law 479 = .ok (.aload_n 0, 1) := by decide +kernel
theorem dL_law_480 : decode cL_law 480 = .ok (.iload_n 3, 1) := by decide +kernel
theorem dL_law_481 : decode cL_law 481 = .ok (.iconst 1, 1) := by decide +kernel
theorem dL_law_482 : decode cL_law 482 = .ok (.iadd, 1) := by decide +kernel
theorem dL_law_483 : decode cL_law 483 = .ok (.iaload, 1) := by decide +kernel
theorem dL_law_484 : decode cL_law 484 = .ok (.aload_n 0, 1) := by decide +kernel
theorem dL_law_485 : decode cL_law 485 = .ok (.iload_n 3, 1) := by decide +kernel
theorem dL_law_486 : decode cL_law 486 = .ok (.iconst 2, 1) := by decide +kernel
theorem dL_law_487 : decode cL_law 487 = .ok (.iadd, 1) := by decide +kernel
theorem dL_law_488 : decode cL_law 488 = .ok (.iaload, 1) := by decide +kernel
theorem dL_law_489 : decode cL_law 489 = .ok (.aload_n 0, 1) := by decide +kernel
theorem dL_law_490 : decode cL_law 490 = .ok (.iload_n 3, 1) := by decide +kernel
theorem dL_law_491 : decode cL_law 491 = .ok (.iconst 3, 1) := by decide +kernel
theorem dL_law_492 : decode cL_law 492 = .ok (.iadd, 1) := by decide +kernel
theorem dL_law_493 : decode cL_law 493 = .ok (.iaload, 1) := by decide +kernel
theorem dL_law_494 : decode cL_law 494 = .ok (.invokevirtual 60, 3) := by decide +kernel
theorem dL_law_497 : decode cL_law 497 = .ok (.if_icmp .eq 542, 3) := by decide +kernel
theorem dL_law_500 : decode cL_law 500 = .ok (.iconst 0, 1) := by decide +kernel
theorem dL_law_501 : decode cL_law 501 = .ok (.ireturn, 1) := by decide +kernel
theorem dL_law_502 : decode cL_law 502 = .ok (.aload_n 1, 1) := by decide +kernel
theorem dL_law_503 : decode cL_law 503 = .ok (.aload_n 0, 1) := by decide +kernel
theorem dL_law_504 : decode cL_law 504 = .ok (.iload_n 3, 1) := by decide +kernel
theorem dL_law_505 : decode cL_law 505 = .ok (.iconst 1, 1) := by decide +kernel
theorem dL_law_506 : decode cL_law 506 = .ok (.iadd, 1) := by decide +kernel
theorem dL_law_507 : decode cL_law 507 = .ok (.iaload, 1) := by decide +kernel
theorem dL_law_508 : decode cL_law 508 = .ok (.invokevirtual 61, 3) := by decide +kernel
theorem dL_law_511 : decode cL_law 511 = .ok (.aload_n 2, 1) := by decide +kernel
theorem dL_law_512 : decode cL_law 512 = .ok (.aload_n 0, 1) := by decide +kernel
theorem dL_law_513 : decode cL_law 513 = .ok (.iload_n 3, 1) := by decide +kernel
theorem dL_law_514 : decode cL_law 514 = .ok (.iconst 1, 1) := by decide +kernel
theorem dL_law_515 : decode cL_law 515 = .ok (.iadd, 1) := by decide +kernel
theorem dL_law_516 : decode cL_law 516 = .ok (.iaload, 1) := by decide +kernel
theorem dL_law_517 : decode cL_law 517 = .ok (.invokevirtual 64, 3) := by decide +kernel
theorem dL_law_520 : decode cL_law 520 = .ok (.if_icmp .eq 519, 3) := by decide +kernel
theorem dL_law_523 : decode cL_law 523 = .ok (.iconst 0, 1) := by decide +kernel
theorem dL_law_524 : decode cL_law 524 = .ok (.ireturn, 1) := by decide +kernel
theorem dL_law_525 : decode cL_law 525 = .ok (.aload_n 1, 1) := by decide +kernel
theorem dL_law_526 : decode cL_law 526 = .ok (.aload_n 0, 1) := by decide +kernel
theorem dL_law_527 : decode cL_law 527 = .ok (.iload_n 3, 1) := by decide +kernel
theorem dL_law_528 : decode cL_law 528 = .ok (.iconst 1, 1) := by decide +kernel
theorem dL_law_529 : decode cL_law 529 = .ok (.iadd, 1) := by decide +kernel
theorem dL_law_530 : decode cL_law 530 = .ok (.iaload, 1) := by decide +kernel
theorem dL_law_531 : decode cL_law 531 = .ok (.aload_n 0, 1) := by decide +kernel
theorem dL_law_532 : decode cL_law 532 = .ok (.iload_n 3, 1) := by decide +kernel
theorem dL_law_533 : decode cL_law 533 = .ok (.iconst 2, 1) := by decide +kernel
theorem dL_law_534 : decode cL_law 534 = .ok (.iadd, 1) := by decide +kernel
theorem dL_law_535 : decode cL_law 535 = .ok (.iaload, 1) := by decide +kernel
theorem dL_law_536 : decode cL_law 536 = .ok (.aload_n 0, 1) := by decide +kernel
theorem dL_law_537 : decode cL_law 537 = .ok (.iload_n 3, 1) := by decide +kernel
theorem dL_law_538 : decode cL_law 538 = .ok (.iconst 3, 1) := by decide +kernel
theorem dL_law_539 : decode cL_law 539 = .ok (.iadd, 1) := by decide +kernel
theorem dL_law_540 : decode cL_law 540 = .ok (.iaload, 1) := by decide +kernel
theorem dL_law_541 : decode cL_law 541 = .ok (.invokevirtual 65, 3) := by decide +kernel
theorem dL_law_544 : decode cL_law 544 = .ok (.aload_n 2, 1) := by decide +kernel
theorem dL_law_545 : decode cL_law 545 = .ok (.aload_n 0, 1) := by decide +kernel
theorem dL_law_546 : decode cL_law 546 = .ok (.iload_n 3, 1) := by decide +kernel
theorem dL_law_547 : decode cL_law 547 = .ok (.iconst 1, 1) := by decide +kernel
theorem dL_law_548 : decode cL_law 548 = .ok (.iadd, 1) := by decide +kernel
theorem dL_law_549 : decode cL_law 549 = .ok (.iaload, 1) := by decide +kernel
theorem dL_law_550 : decode cL_law 550 = .ok (.aload_n 0, 1) := by decide +kernel
theorem dL_law_551 : decode cL_law 551 = .ok (.iload_n 3, 1) := by decide +kernel
theorem dL_law_552 : decode cL_law 552 = .ok (.iconst 2, 1) := by decide +kernel
theorem dL_law_553 : decode cL_law 553 = .ok (.iadd, 1) := by decide +kernel
theorem dL_law_554 : decode cL_law 554 = .ok (.iaload, 1) := by decide +kernel
theorem dL_law_555 : decode cL_law 555 = .ok (.aload_n 0, 1) := by decide +kernel
theorem dL_law_556 : decode cL_law 556 = .ok (.iload_n 3, 1) := by decide +kernel
theorem dL_law_557 : decode cL_law 557 = .ok (.iconst 3, 1) := by decide +kernel
theorem dL_law_558 : decode cL_law 558 = .ok (.iadd, 1) := by decide +kernel
theorem dL_law_559 : decode cL_law 559 = .ok (.iaload, 1) := by decide +kernel
theorem dL_law_560 : decode cL_law 560 = .ok (.invokevirtual 68, 3) := by decide +kernel
theorem dL_law_563 : decode cL_law 563 = .ok (.if_icmp .eq 476, 3) := by decide +kernel
theorem dL_law_566 : decode cL_law 566 = .ok (.iconst 0, 1) := by decide +kernel
theorem dL_law_567 : decode cL_law 567 = .ok (.ireturn, 1) := by decide +kernel
theorem dL_law_568 : decode cL_law 568 = .ok (.aload_n 1, 1) := by decide +kernel
theorem dL_law_569 : decode cL_law 569 = .ok (.aload_n 0, 1) := by decide +kernel
theorem dL_law_570 : decode cL_law 570 = .ok (.iload_n 3, 1) := by decide +kernel
theorem dL_law_571 : decode cL_law 571 = .ok (.iconst 1, 1) := by decide +kernel
theorem dL_law_572 : decode cL_law 572 = .ok (.iadd, 1) := by decide +kernel
theorem dL_law_573 : decode cL_law 573 = .ok (.iaload, 1) := by decide +kernel
theorem dL_law_574 : decode cL_law 574 = .ok (.invokevirtual 69, 3) := by decide +kernel
theorem dL_law_577 : decode cL_law 577 = .ok (.aload_n 2, 1) := by decide +kernel
theorem dL_law_578 : decode cL_law 578 = .ok (.aload_n 0, 1) := by decide +kernel
theorem dL_law_579 : decode cL_law 579 = .ok (.iload_n 3, 1) := by decide +kernel
theorem dL_law_580 : decode cL_law 580 = .ok (.iconst 1, 1) := by decide +kernel
theorem dL_law_581 : decode cL_law 581 = .ok (.iadd, 1) := by decide +kernel
theorem dL_law_582 : decode cL_law 582 = .ok (.iaload, 1) := by decide +kernel
theorem dL_law_583 : decode cL_law 583 = .ok (.invokevirtual 72, 3) := by decide +kernel
theorem dL_law_586 : decode cL_law 586 = .ok (.if_icmp .eq 453, 3) := by decide +kernel
theorem dL_law_589 : decode cL_law 589 = .ok (.iconst 0, 1) := by decide +kernel
theorem dL_law_590 : decode cL_law 590 = .ok (.ireturn, 1) := by decide +kernel
theorem dL_law_591 : decode cL_law 591 = .ok (.aload_n 1, 1) := by decide +kernel
theorem dL_law_592 : decode cL_law 592 = .ok (.aload_n 0, 1) := by decide +kernel
theorem dL_law_593 : decode cL_law 593 = .ok (.iload_n 3, 1) := by decide +kernel
theorem dL_law_594 : decode cL_law 594 = .ok (.iconst 1, 1) := by decide +kernel
theorem dL_law_595 : decode cL_law 595 = .ok (.iadd, 1) := by decide +kernel
theorem dL_law_596 : decode cL_law 596 = .ok (.iaload, 1) := by decide +kernel
theorem dL_law_597 : decode cL_law 597 = .ok (.aload_n 0, 1) := by decide +kernel
theorem dL_law_598 : decode cL_law 598 = .ok (.iload_n 3, 1) := by decide +kernel
theorem dL_law_599 : decode cL_law 599 = .ok (.iconst 2, 1) := by decide +kernel
theorem dL_law_600 : decode cL_law 600 = .ok (.iadd, 1) := by decide +kernel
theorem dL_law_601 : decode cL_law 601 = .ok (.iaload, 1) := by decide +kernel
theorem dL_law_602 : decode cL_law 602 = .ok (.aload_n 0, 1) := by decide +kernel
theorem dL_law_603 : decode cL_law 603 = .ok (.iload_n 3, 1) := by decide +kernel
theorem dL_law_604 : decode cL_law 604 = .ok (.iconst 3, 1) := by decide +kernel
theorem dL_law_605 : decode cL_law 605 = .ok (.iadd, 1) := by decide +kernel
theorem dL_law_606 : decode cL_law 606 = .ok (.iaload, 1) := by decide +kernel
theorem dL_law_607 : decode cL_law 607 = .ok (.invokevirtual 73, 3) := by decide +kernel
theorem dL_law_610 : decode cL_law 610 = .ok (.aload_n 2, 1) := by decide +kernel
theorem dL_law_611 : decode cL_law 611 = .ok (.aload_n 0, 1) := by decide +kernel
theorem dL_law_612 : decode cL_law 612 = .ok (.iload_n 3, 1) := by decide +kernel
theorem dL_law_613 : decode cL_law 613 = .ok (.iconst 1, 1) := by decide +kernel
theorem dL_law_614 : decode cL_law 614 = .ok (.iadd, 1) := by decide +kernel
theorem dL_law_615 : decode cL_law 615 = .ok (.iaload, 1) := by decide +kernel
theorem dL_law_616 : decode cL_law 616 = .ok (.aload_n 0, 1) := by decide +kernel
theorem dL_law_617 : decode cL_law 617 = .ok (.iload_n 3, 1) := by decide +kernel
theorem dL_law_618 : decode cL_law 618 = .ok (.iconst 2, 1) := by decide +kernel
theorem dL_law_619 : decode cL_law 619 = .ok (.iadd, 1) := by decide +kernel
theorem dL_law_620 : decode cL_law 620 = .ok (.iaload, 1) := by decide +kernel
theorem dL_law_621 : decode cL_law 621 = .ok (.aload_n 0, 1) := by decide +kernel
theorem dL_law_622 : decode cL_law 622 = .ok (.iload_n 3, 1) := by decide +kernel
theorem dL_law_623 : decode cL_law 623 = .ok (.iconst 3, 1) := by decide +kernel
theorem dL_law_624 : decode cL_law 624 = .ok (.iadd, 1) := by decide +kernel
theorem dL_law_625 : decode cL_law 625 = .ok (.iaload, 1) := by decide +kernel
theorem dL_law_626 : decode cL_law 626 = .ok (.invokevirtual 76, 3) := by decide +kernel
theorem dL_law_629 : decode cL_law 629 = .ok (.if_icmp .eq 410, 3) := by decide +kernel
theorem dL_law_632 : decode cL_law 632 = .ok (.iconst 0, 1) := by decide +kernel
theorem dL_law_633 : decode cL_law 633 = .ok (.ireturn, 1) := by decide +kernel
theorem dL_law_634 : decode cL_law 634 = .ok (.aload_n 1, 1) := by decide +kernel
theorem dL_law_635 : decode cL_law 635 = .ok (.invokevirtual 77, 3) := by decide +kernel
theorem dL_law_638 : decode cL_law 638 = .ok (.aload_n 2, 1) := by decide +kernel
theorem dL_law_639 : decode cL_law 639 = .ok (.invokevirtual 81, 3) := by decide +kernel
theorem dL_law_642 : decode cL_law 642 = .ok (.if_icmp .eq 397, 3) := by decide +kernel
theorem dL_law_645 : decode cL_law 645 = .ok (.iconst 0, 1) := by decide +kernel
theorem dL_law_646 : decode cL_law 646 = .ok (.ireturn, 1) := by decide +kernel
theorem dL_law_647 : decode cL_law 647 = .ok (.aload_n 1, 1) := by decide +kernel
theorem dL_law_648 : decode cL_law 648 = .ok (.aload_n 0, 1) := by decide +kernel
theorem dL_law_649 : decode cL_law 649 = .ok (.iload_n 3, 1) := by decide +kernel
theorem dL_law_650 : decode cL_law 650 = .ok (.iconst 1, 1) := by decide +kernel
theorem dL_law_651 : decode cL_law 651 = .ok (.iadd, 1) := by decide +kernel
theorem dL_law_652 : decode cL_law 652 = .ok (.iaload, 1) := by decide +kernel
theorem dL_law_653 : decode cL_law 653 = .ok (.aload_n 0, 1) := by decide +kernel
theorem dL_law_654 : decode cL_law 654 = .ok (.iload_n 3, 1) := by decide +kernel
theorem dL_law_655 : decode cL_law 655 = .ok (.iconst 2, 1) := by decide +kernel
theorem dL_law_656 : decode cL_law 656 = .ok (.iadd, 1) := by decide +kernel
theorem dL_law_657 : decode cL_law 657 = .ok (.iaload, 1) := by decide +kernel
theorem dL_law_658 : decode cL_law 658 = .ok (.invokevirtual 82, 3) := by decide +kernel
theorem dL_law_661 : decode cL_law 661 = .ok (.aload_n 2, 1) := by decide +kernel
theorem dL_law_662 : decode cL_law 662 = .ok (.aload_n 0, 1) := by decide +kernel
theorem dL_law_663 : decode cL_law 663 = .ok (.iload_n 3, 1) := by decide +kernel
theorem dL_law_664 : decode cL_law 664 = .ok (.iconst 1, 1) := by decide +kernel
theorem dL_law_665 : decode cL_law 665 = .ok (.iadd, 1) := by decide +kernel
theorem dL_law_666 : decode cL_law 666 = .ok (.iaload, 1) := by decide +kernel
theorem dL_law_667 : decode cL_law 667 = .ok (.aload_n 0, 1) := by decide +kernel
theorem dL_law_668 : decode cL_law 668 = .ok (.iload_n 3, 1) := by decide +kernel
theorem dL_law_669 : decode cL_law 669 = .ok (.iconst 2, 1) := by decide +kernel
theorem dL_law_670 : decode cL_law 670 = .ok (.iadd, 1) := by decide +kernel
theorem dL_law_671 : decode cL_law 671 = .ok (.iaload, 1) := by decide +kernel
theorem dL_law_672 : decode cL_law 672 = .ok (.invokevirtual 85, 3) := by decide +kernel
theorem dL_law_675 : decode cL_law 675 = .ok (.if_icmp .eq 364, 3) := by decide +kernel
theorem dL_law_678 : decode cL_law 678 = .ok (.iconst 0, 1) := by decide +kernel
theorem dL_law_679 : decode cL_law 679 = .ok (.ireturn, 1) := by decide +kernel
theorem dL_law_680 : decode cL_law 680 = .ok (.aload_n 1, 1) := by decide +kernel
theorem dL_law_681 : decode cL_law 681 = .ok (.aload_n 0, 1) := by decide +kernel
theorem dL_law_682 : decode cL_law 682 = .ok (.iload_n 3, 1) := by decide +kernel
theorem dL_law_683 : decode cL_law 683 = .ok (.iconst 1, 1) := by decide +kernel
theorem dL_law_684 : decode cL_law 684 = .ok (.iadd, 1) := by decide +kernel
theorem dL_law_685 : decode cL_law 685 = .ok (.iaload, 1) := by decide +kernel
theorem dL_law_686 : decode cL_law 686 = .ok (.aload_n 0, 1) := by decide +kernel
theorem dL_law_687 : decode cL_law 687 = .ok (.iload_n 3, 1) := by decide +kernel
theorem dL_law_688 : decode cL_law 688 = .ok (.iconst 2, 1) := by decide +kernel
theorem dL_law_689 : decode cL_law 689 = .ok (.iadd, 1) := by decide +kernel
theorem dL_law_690 : decode cL_law 690 = .ok (.iaload, 1) := by decide +kernel
theorem dL_law_691 : decode cL_law 691 = .ok (.invokevirtual 86, 3) := by decide +kernel
theorem dL_law_694 : decode cL_law 694 = .ok (.aload_n 2, 1) := by decide +kernel
theorem dL_law_695 : decode cL_law 695 = .ok (.aload_n 0, 1) := by decide +kernel
theorem dL_law_696 : decode cL_law 696 = .ok (.iload_n 3, 1) := by decide +kernel
theorem dL_law_697 : decode cL_law 697 = .ok (.iconst 1, 1) := by decide +kernel
theorem dL_law_698 : decode cL_law 698 = .ok (.iadd, 1) := by decide +kernel
theorem dL_law_699 : decode cL_law 699 = .ok (.iaload, 1) := by decide +kernel
theorem dL_law_700 : decode cL_law 700 = .ok (.aload_n 0, 1) := by decide +kernel
theorem dL_law_701 : decode cL_law 701 = .ok (.iload_n 3, 1) := by decide +kernel
theorem dL_law_702 : decode cL_law 702 = .ok (.iconst 2, 1) := by decide +kernel
theorem dL_law_703 : decode cL_law 703 = .ok (.iadd, 1) := by decide +kernel
theorem dL_law_704 : decode cL_law 704 = .ok (.iaload, 1) := by decide +kernel
theorem dL_law_705 : decode cL_law 705 = .ok (.invokevirtual 89, 3) := by decide +kernel
theorem dL_law_708 : decode cL_law 708 = .ok (.if_icmp .eq 331, 3) := by decide +kernel
theorem dL_law_711 : decode cL_law 711 = .ok (.iconst 0, 1) := by decide +kernel
theorem dL_law_712 : decode cL_law 712 = .ok (.ireturn, 1) := by decide +kernel
theorem dL_law_713 : decode cL_law 713 = .ok (.aload_n 1, 1) := by decide +kernel
theorem dL_law_714 : decode cL_law 714 = .ok (.aload_n 0, 1) := by decide +kernel
theorem dL_law_715 : decode cL_law 715 = .ok (.iload_n 3, 1) := by decide +kernel
theorem dL_law_716 : decode cL_law 716 = .ok (.iconst 1, 1) := by decide +kernel
theorem dL_law_717 : decode cL_law 717 = .ok (.iadd, 1) := by decide +kernel
theorem dL_law_718 : decode cL_law 718 = .ok (.iaload, 1) := by decide +kernel
theorem dL_law_719 : decode cL_law 719 = .ok (.invokevirtual 90, 3) := by decide +kernel
theorem dL_law_722 : decode cL_law 722 = .ok (.aload_n 2, 1) := by decide +kernel
theorem dL_law_723 : decode cL_law 723 = .ok (.aload_n 0, 1) := by decide +kernel
theorem dL_law_724 : decode cL_law 724 = .ok (.iload_n 3, 1) := by decide +kernel
theorem dL_law_725 : decode cL_law 725 = .ok (.iconst 1, 1) := by decide +kernel
theorem dL_law_726 : decode cL_law 726 = .ok (.iadd, 1) := by decide +kernel
theorem dL_law_727 : decode cL_law 727 = .ok (.iaload, 1) := by decide +kernel
theorem dL_law_728 : decode cL_law 728 = .ok (.invokevirtual 93, 3) := by decide +kernel
theorem dL_law_731 : decode cL_law 731 = .ok (.if_icmp .eq 308, 3) := by decide +kernel
theorem dL_law_734 : decode cL_law 734 = .ok (.iconst 0, 1) := by decide +kernel
theorem dL_law_735 : decode cL_law 735 = .ok (.ireturn, 1) := by decide +kernel
theorem dL_law_736 : decode cL_law 736 = .ok (.aload_n 1, 1) := by decide +kernel
theorem dL_law_737 : decode cL_law 737 = .ok (.aload_n 0, 1) := by decide +kernel
theorem dL_law_738 : decode cL_law 738 = .ok (.iload_n 3, 1) := by decide +kernel
theorem dL_law_739 : decode cL_law 739 = .ok (.iconst 1, 1) := by decide +kernel
theorem dL_law_740 : decode cL_law 740 = .ok (.iadd, 1) := by decide +kernel
theorem dL_law_741 : decode cL_law 741 = .ok (.iaload, 1) := by decide +kernel
theorem dL_law_742 : decode cL_law 742 = .ok (.invokevirtual 94, 3) := by decide +kernel
theorem dL_law_745 : decode cL_law 745 = .ok (.aload_n 2, 1) := by decide +kernel
theorem dL_law_746 : decode cL_law 746 = .ok (.aload_n 0, 1) := by decide +kernel
theorem dL_law_747 : decode cL_law 747 = .ok (.iload_n 3, 1) := by decide +kernel
theorem dL_law_748 : decode cL_law 748 = .ok (.iconst 1, 1) := by decide +kernel
theorem dL_law_749 : decode cL_law 749 = .ok (.iadd, 1) := by decide +kernel
theorem dL_law_750 : decode cL_law 750 = .ok (.iaload, 1) := by decide +kernel
theorem dL_law_751 : decode cL_law 751 = .ok (.invokevirtual 97, 3) := by decide +kernel
theorem dL_law_754 : decode cL_law 754 = .ok (.if_icmp .eq 285, 3) := by decide +kernel
theorem dL_law_757 : decode cL_law 757 = .ok (.iconst 0, 1) := by decide +kernel
theorem dL_law_758 : decode cL_law 758 = .ok (.ireturn, 1) := by decide +kernel
theorem dL_law_759 : decode cL_law 759 = .ok (.aload_n 1, 1) := by decide +kernel
theorem dL_law_760 : decode cL_law 760 = .ok (.aload_n 0, 1) := by decide +kernel
theorem dL_law_761 : decode cL_law 761 = .ok (.iload_n 3, 1) := by decide +kernel
theorem dL_law_762 : decode cL_law 762 = .ok (.iconst 1, 1) := by decide +kernel
theorem dL_law_763 : decode cL_law 763 = .ok (.iadd, 1) := by decide +kernel
theorem dL_law_764 : decode cL_law 764 = .ok (.iaload, 1) := by decide +kernel
theorem dL_law_765 : decode cL_law 765 = .ok (.aload_n 0, 1) := by decide +kernel
theorem dL_law_766 : decode cL_law 766 = .ok (.iload_n 3, 1) := by decide +kernel
theorem dL_law_767 : decode cL_law 767 = .ok (.iconst 2, 1) := by decide +kernel
theorem dL_law_768 : decode cL_law 768 = .ok (.iadd, 1) := by decide +kernel
theorem dL_law_769 : decode cL_law 769 = .ok (.iaload, 1) := by decide +kernel
theorem dL_law_770 : decode cL_law 770 = .ok (.aload_n 0, 1) := by decide +kernel
theorem dL_law_771 : decode cL_law 771 = .ok (.iload_n 3, 1) := by decide +kernel
theorem dL_law_772 : decode cL_law 772 = .ok (.iconst 3, 1) := by decide +kernel
theorem dL_law_773 : decode cL_law 773 = .ok (.iadd, 1) := by decide +kernel
theorem dL_law_774 : decode cL_law 774 = .ok (.iaload, 1) := by decide +kernel
theorem dL_law_775 : decode cL_law 775 = .ok (.invokevirtual 98, 3) := by decide +kernel
theorem dL_law_778 : decode cL_law 778 = .ok (.aload_n 2, 1) := by decide +kernel
theorem dL_law_779 : decode cL_law 779 = .ok (.aload_n 0, 1) := by decide +kernel
theorem dL_law_780 : decode cL_law 780 = .ok (.iload_n 3, 1) := by decide +kernel
theorem dL_law_781 : decode cL_law 781 = .ok (.iconst 1, 1) := by decide +kernel
theorem dL_law_782 : decode cL_law 782 = .ok (.iadd, 1) := by decide +kernel
theorem dL_law_783 : decode cL_law 783 = .ok (.iaload, 1) := by decide +kernel
theorem dL_law_784 : decode cL_law 784 = .ok (.aload_n 0, 1) := by decide +kernel
theorem dL_law_785 : decode cL_law 785 = .ok (.iload_n 3, 1) := by decide +kernel
theorem dL_law_786 : decode cL_law 786 = .ok (.iconst 2, 1) := by decide +kernel
theorem dL_law_787 : decode cL_law 787 = .ok (.iadd, 1) := by decide +kernel
theorem dL_law_788 : decode cL_law 788 = .ok (.iaload, 1) := by decide +kernel
theorem dL_law_789 : decode cL_law 789 = .ok (.aload_n 0, 1) := by decide +kernel
theorem dL_law_790 : decode cL_law 790 = .ok (.iload_n 3, 1) := by decide +kernel
theorem dL_law_791 : decode cL_law 791 = .ok (.iconst 3, 1) := by decide +kernel
theorem dL_law_792 : decode cL_law 792 = .ok (.iadd, 1) := by decide +kernel
theorem dL_law_793 : decode cL_law 793 = .ok (.iaload, 1) := by decide +kernel
theorem dL_law_794 : decode cL_law 794 = .ok (.invokevirtual 101, 3) := by decide +kernel
theorem dL_law_797 : decode cL_law 797 = .ok (.if_icmp .eq 242, 3) := by decide +kernel
theorem dL_law_800 : decode cL_law 800 = .ok (.iconst 0, 1) := by decide +kernel
theorem dL_law_801 : decode cL_law 801 = .ok (.ireturn, 1) := by decide +kernel
theorem dL_law_802 : decode cL_law 802 = .ok (.aload_n 1, 1) := by decide +kernel
theorem dL_law_803 : decode cL_law 803 = .ok (.aload_n 0, 1) := by decide +kernel
theorem dL_law_804 : decode cL_law 804 = .ok (.iload_n 3, 1) := by decide +kernel
theorem dL_law_805 : decode cL_law 805 = .ok (.iconst 1, 1) := by decide +kernel
theorem dL_law_806 : decode cL_law 806 = .ok (.iadd, 1) := by decide +kernel
theorem dL_law_807 : decode cL_law 807 = .ok (.iaload, 1) := by decide +kernel
theorem dL_law_808 : decode cL_law 808 = .ok (.invokevirtual 102, 3) := by decide +kernel
theorem dL_law_811 : decode cL_law 811 = .ok (.aload_n 2, 1) := by decide +kernel
theorem dL_law_812 : decode cL_law 812 = .ok (.aload_n 0, 1) := by decide +kernel
theorem dL_law_813 : decode cL_law 813 = .ok (.iload_n 3, 1) := by decide +kernel
theorem dL_law_814 : decode cL_law 814 = .ok (.iconst 1, 1) := by decide +kernel
theorem dL_law_815 : decode cL_law 815 = .ok (.iadd, 1) := by decide +kernel
theorem dL_law_816 : decode cL_law 816 = .ok (.iaload, 1) := by decide +kernel
theorem dL_law_817 : decode cL_law 817 = .ok (.invokevirtual 105, 3) := by decide +kernel
theorem dL_law_820 : decode cL_law 820 = .ok (.if_icmp .eq 219, 3) := by decide +kernel
theorem dL_law_823 : decode cL_law 823 = .ok (.iconst 0, 1) := by decide +kernel
theorem dL_law_824 : decode cL_law 824 = .ok (.ireturn, 1) := by decide +kernel
theorem dL_law_825 : decode cL_law 825 = .ok (.aload_n 1, 1) := by decide +kernel
theorem dL_law_826 : decode cL_law 826 = .ok (.aload_n 0, 1) := by decide +kernel
theorem dL_law_827 : decode cL_law 827 = .ok (.iload_n 3, 1) := by decide +kernel
theorem dL_law_828 : decode cL_law 828 = .ok (.iconst 1, 1) := by decide +kernel
theorem dL_law_829 : decode cL_law 829 = .ok (.iadd, 1) := by decide +kernel
theorem dL_law_830 : decode cL_law 830 = .ok (.iaload, 1) := by decide +kernel
theorem dL_law_831 : decode cL_law 831 = .ok (.aload_n 0, 1) := by decide +kernel
theorem dL_law_832 : decode cL_law 832 = .ok (.iload_n 3, 1) := by decide +kernel
theorem dL_law_833 : decode cL_law 833 = .ok (.iconst 2, 1) := by decide +kernel
theorem dL_law_834 : decode cL_law 834 = .ok (.iadd, 1) := by decide +kernel
theorem dL_law_835 : decode cL_law 835 = .ok (.iaload, 1) := by decide +kernel
theorem dL_law_836 : decode cL_law 836 = .ok (.invokevirtual 106, 3) := by decide +kernel
theorem dL_law_839 : decode cL_law 839 = .ok (.aload_n 2, 1) := by decide +kernel
theorem dL_law_840 : decode cL_law 840 = .ok (.aload_n 0, 1) := by decide +kernel
theorem dL_law_841 : decode cL_law 841 = .ok (.iload_n 3, 1) := by decide +kernel
theorem dL_law_842 : decode cL_law 842 = .ok (.iconst 1, 1) := by decide +kernel
theorem dL_law_843 : decode cL_law 843 = .ok (.iadd, 1) := by decide +kernel
theorem dL_law_844 : decode cL_law 844 = .ok (.iaload, 1) := by decide +kernel
theorem dL_law_845 : decode cL_law 845 = .ok (.aload_n 0, 1) := by decide +kernel
theorem dL_law_846 : decode cL_law 846 = .ok (.iload_n 3, 1) := by decide +kernel
theorem dL_law_847 : decode cL_law 847 = .ok (.iconst 2, 1) := by decide +kernel
theorem dL_law_848 : decode cL_law 848 = .ok (.iadd, 1) := by decide +kernel
theorem dL_law_849 : decode cL_law 849 = .ok (.iaload, 1) := by decide +kernel
theorem dL_law_850 : decode cL_law 850 = .ok (.invokevirtual 109, 3) := by decide +kernel
theorem dL_law_853 : decode cL_law 853 = .ok (.if_icmp .eq 186, 3) := by decide +kernel
theorem dL_law_856 : decode cL_law 856 = .ok (.iconst 0, 1) := by decide +kernel
theorem dL_law_857 : decode cL_law 857 = .ok (.ireturn, 1) := by decide +kernel
theorem dL_law_858 : decode cL_law 858 = .ok (.aload_n 1, 1) := by decide +kernel
theorem dL_law_859 : decode cL_law 859 = .ok (.aload_n 0, 1) := by decide +kernel
theorem dL_law_860 : decode cL_law 860 = .ok (.iload_n 3, 1) := by decide +kernel
theorem dL_law_861 : decode cL_law 861 = .ok (.iconst 1, 1) := by decide +kernel
theorem dL_law_862 : decode cL_law 862 = .ok (.iadd, 1) := by decide +kernel
theorem dL_law_863 : decode cL_law 863 = .ok (.iaload, 1) := by decide +kernel
theorem dL_law_864 : decode cL_law 864 = .ok (.invokevirtual 110, 3) := by decide +kernel
theorem dL_law_867 : decode cL_law 867 = .ok (.aload_n 2, 1) := by decide +kernel
theorem dL_law_868 : decode cL_law 868 = .ok (.aload_n 0, 1) := by decide +kernel
theorem dL_law_869 : decode cL_law 869 = .ok (.iload_n 3, 1) := by decide +kernel
theorem dL_law_870 : decode cL_law 870 = .ok (.iconst 1, 1) := by decide +kernel
theorem dL_law_871 : decode cL_law 871 = .ok (.iadd, 1) := by decide +kernel
theorem dL_law_872 : decode cL_law 872 = .ok (.iaload, 1) := by decide +kernel
theorem dL_law_873 : decode cL_law 873 = .ok (.invokevirtual 113, 3) := by decide +kernel
theorem dL_law_876 : decode cL_law 876 = .ok (.if_icmp .eq 163, 3) := by decide +kernel
theorem dL_law_879 : decode cL_law 879 = .ok (.iconst 0, 1) := by decide +kernel
theorem dL_law_880 : decode cL_law 880 = .ok (.ireturn, 1) := by decide +kernel
theorem dL_law_881 : decode cL_law 881 = .ok (.aload_n 1, 1) := by decide +kernel
theorem dL_law_882 : decode cL_law 882 = .ok (.aload_n 0, 1) := by decide +kernel
theorem dL_law_883 : decode cL_law 883 = .ok (.iload_n 3, 1) := by decide +kernel
theorem dL_law_884 : decode cL_law 884 = .ok (.iconst 1, 1) := by decide +kernel
theorem dL_law_885 : decode cL_law 885 = .ok (.iadd, 1) := by decide +kernel
theorem dL_law_886 : decode cL_law 886 = .ok (.iaload, 1) := by decide +kernel
theorem dL_law_887 : decode cL_law 887 = .ok (.invokevirtual 114, 3) := by decide +kernel
theorem dL_law_890 : decode cL_law 890 = .ok (.aload_n 2, 1) := by decide +kernel
theorem dL_law_891 : decode cL_law 891 = .ok (.aload_n 0, 1) := by decide +kernel
theorem dL_law_892 : decode cL_law 892 = .ok (.iload_n 3, 1) := by decide +kernel
theorem dL_law_893 : decode cL_law 893 = .ok (.iconst 1, 1) := by decide +kernel
theorem dL_law_894 : decode cL_law 894 = .ok (.iadd, 1) := by decide +kernel
theorem dL_law_895 : decode cL_law 895 = .ok (.iaload, 1) := by decide +kernel
theorem dL_law_896 : decode cL_law 896 = .ok (.invokevirtual 117, 3) := by decide +kernel
theorem dL_law_899 : decode cL_law 899 = .ok (.if_icmp .eq 140, 3) := by decide +kernel
theorem dL_law_902 : decode cL_law 902 = .ok (.iconst 0, 1) := by decide +kernel
theorem dL_law_903 : decode cL_law 903 = .ok (.ireturn, 1) := by decide +kernel
theorem dL_law_904 : decode cL_law 904 = .ok (.aload_n 1, 1) := by decide +kernel
theorem dL_law_905 : decode cL_law 905 = .ok (.aload_n 0, 1) := by decide +kernel
theorem dL_law_906 : decode cL_law 906 = .ok (.iload_n 3, 1) := by decide +kernel
theorem dL_law_907 : decode cL_law 907 = .ok (.iconst 1, 1) := by decide +kernel
theorem dL_law_908 : decode cL_law 908 = .ok (.iadd, 1) := by decide +kernel
theorem dL_law_909 : decode cL_law 909 = .ok (.iaload, 1) := by decide +kernel
theorem dL_law_910 : decode cL_law 910 = .ok (.invokevirtual 118, 3) := by decide +kernel
theorem dL_law_913 : decode cL_law 913 = .ok (.aload_n 2, 1) := by decide +kernel
theorem dL_law_914 : decode cL_law 914 = .ok (.aload_n 0, 1) := by decide +kernel
theorem dL_law_915 : decode cL_law 915 = .ok (.iload_n 3, 1) := by decide +kernel
theorem dL_law_916 : decode cL_law 916 = .ok (.iconst 1, 1) := by decide +kernel
theorem dL_law_917 : decode cL_law 917 = .ok (.iadd, 1) := by decide +kernel
theorem dL_law_918 : decode cL_law 918 = .ok (.iaload, 1) := by decide +kernel
theorem dL_law_919 : decode cL_law 919 = .ok (.invokevirtual 121, 3) := by decide +kernel
theorem dL_law_922 : decode cL_law 922 = .ok (.if_icmp .eq 117, 3) := by decide +kernel
theorem dL_law_925 : decode cL_law 925 = .ok (.iconst 0, 1) := by decide +kernel
theorem dL_law_926 : decode cL_law 926 = .ok (.ireturn, 1) := by decide +kernel
theorem dL_law_927 : decode cL_law 927 = .ok (.aload_n 1, 1) := by decide +kernel
theorem dL_law_928 : decode cL_law 928 = .ok (.aload_n 0, 1) := by decide +kernel
theorem dL_law_929 : decode cL_law 929 = .ok (.iload_n 3, 1) := by decide +kernel
theorem dL_law_930 : decode cL_law 930 = .ok (.iconst 1, 1) := by decide +kernel
theorem dL_law_931 : decode cL_law 931 = .ok (.iadd, 1) := by decide +kernel
theorem dL_law_932 : decode cL_law 932 = .ok (.iaload, 1) := by decide +kernel
theorem dL_law_933 : decode cL_law 933 = .ok (.aload_n 0, 1) := by decide +kernel
theorem dL_law_934 : decode cL_law 934 = .ok (.iload_n 3, 1) := by decide +kernel
theorem dL_law_935 : decode cL_law 935 = .ok (.iconst 2, 1) := by decide +kernel
theorem dL_law_936 : decode cL_law 936 = .ok (.iadd, 1) := by decide +kernel
theorem dL_law_937 : decode cL_law 937 = .ok (.iaload, 1) := by decide +kernel
theorem dL_law_938 : decode cL_law 938 = .ok (.invokevirtual 122, 3) := by decide +kernel
theorem dL_law_941 : decode cL_law 941 = .ok (.aload_n 2, 1) := by decide +kernel
theorem dL_law_942 : decode cL_law 942 = .ok (.aload_n 0, 1) := by decide +kernel
theorem dL_law_943 : decode cL_law 943 = .ok (.iload_n 3, 1) := by decide +kernel
theorem dL_law_944 : decode cL_law 944 = .ok (.iconst 1, 1) := by decide +kernel
theorem dL_law_945 : decode cL_law 945 = .ok (.iadd, 1) := by decide +kernel
theorem dL_law_946 : decode cL_law 946 = .ok (.iaload, 1) := by decide +kernel
theorem dL_law_947 : decode cL_law 947 = .ok (.aload_n 0, 1) := by decide +kernel
theorem dL_law_948 : decode cL_law 948 = .ok (.iload_n 3, 1) := by decide +kernel
theorem dL_law_949 : decode cL_law 949 = .ok (.iconst 2, 1) := by decide +kernel
theorem dL_law_950 : decode cL_law 950 = .ok (.iadd, 1) := by decide +kernel
theorem dL_law_951 : decode cL_law 951 = .ok (.iaload, 1) := by decide +kernel
theorem dL_law_952 : decode cL_law 952 = .ok (.invokevirtual 125, 3) := by decide +kernel
theorem dL_law_955 : decode cL_law 955 = .ok (.if_icmp .eq 84, 3) := by decide +kernel
theorem dL_law_958 : decode cL_law 958 = .ok (.iconst 0, 1) := by decide +kernel
theorem dL_law_959 : decode cL_law 959 = .ok (.ireturn, 1) := by decide +kernel
theorem dL_law_960 : decode cL_law 960 = .ok (.aload_n 1, 1) := by decide +kernel
theorem dL_law_961 : decode cL_law 961 = .ok (.aload_n 0, 1) := by decide +kernel
theorem dL_law_962 : decode cL_law 962 = .ok (.iload_n 3, 1) := by decide +kernel
theorem dL_law_963 : decode cL_law 963 = .ok (.iconst 1, 1) := by decide +kernel
theorem dL_law_964 : decode cL_law 964 = .ok (.iadd, 1) := by decide +kernel
theorem dL_law_965 : decode cL_law 965 = .ok (.iaload, 1) := by decide +kernel
theorem dL_law_966 : decode cL_law 966 = .ok (.invokevirtual 126, 3) := by decide +kernel
theorem dL_law_969 : decode cL_law 969 = .ok (.aload_n 2, 1) := by decide +kernel
theorem dL_law_970 : decode cL_law 970 = .ok (.aload_n 0, 1) := by decide +kernel
theorem dL_law_971 : decode cL_law 971 = .ok (.iload_n 3, 1) := by decide +kernel
theorem dL_law_972 : decode cL_law 972 = .ok (.iconst 1, 1) := by decide +kernel
theorem dL_law_973 : decode cL_law 973 = .ok (.iadd, 1) := by decide +kernel
theorem dL_law_974 : decode cL_law 974 = .ok (.iaload, 1) := by decide +kernel
theorem dL_law_975 : decode cL_law 975 = .ok (.invokevirtual 129, 3) := by decide +kernel
theorem dL_law_978 : decode cL_law 978 = .ok (.if_icmp .eq 61, 3) := by decide +kernel
theorem dL_law_981 : decode cL_law 981 = .ok (.iconst 0, 1) := by decide +kernel
theorem dL_law_982 : decode cL_law 982 = .ok (.ireturn, 1) := by decide +kernel
theorem dL_law_983 : decode cL_law 983 = .ok (.aload_n 1, 1) := by decide +kernel
theorem dL_law_984 : decode cL_law 984 = .ok (.aload_n 0, 1) := by decide +kernel
theorem dL_law_985 : decode cL_law 985 = .ok (.iload_n 3, 1) := by decide +kernel
theorem dL_law_986 : decode cL_law 986 = .ok (.iconst 1, 1) := by decide +kernel
theorem dL_law_987 : decode cL_law 987 = .ok (.iadd, 1) := by decide +kernel
theorem dL_law_988 : decode cL_law 988 = .ok (.iaload, 1) := by decide +kernel
theorem dL_law_989 : decode cL_law 989 = .ok (.aload_n 0, 1) := by decide +kernel
theorem dL_law_990 : decode cL_law 990 = .ok (.iload_n 3, 1) := by decide +kernel
theorem dL_law_991 : decode cL_law 991 = .ok (.iconst 2, 1) := by decide +kernel
theorem dL_law_992 : decode cL_law 992 = .ok (.iadd, 1) := by decide +kernel
theorem dL_law_993 : decode cL_law 993 = .ok (.iaload, 1) := by decide +kernel
theorem dL_law_994 : decode cL_law 994 = .ok (.invokevirtual 130, 3) := by decide +kernel
theorem dL_law_997 : decode cL_law 997 = .ok (.aload_n 2, 1) := by decide +kernel
theorem dL_law_998 : decode cL_law 998 = .ok (.aload_n 0, 1) := by decide +kernel
theorem dL_law_999 : decode cL_law 999 = .ok (.iload_n 3, 1) := by decide +kernel
theorem dL_law_1000 : decode cL_law 1000 = .ok (.iconst 1, 1) := by decide +kernel
theorem dL_law_1001 : decode cL_law 1001 = .ok (.iadd, 1) := by decide +kernel
theorem dL_law_1002 : decode cL_law 1002 = .ok (.iaload, 1) := by decide +kernel
theorem dL_law_1003 : decode cL_law 1003 = .ok (.aload_n 0, 1) := by decide +kernel
theorem dL_law_1004 : decode cL_law 1004 = .ok (.iload_n 3, 1) := by decide +kernel
theorem dL_law_1005 : decode cL_law 1005 = .ok (.iconst 2, 1) := by decide +kernel
theorem dL_law_1006 : decode cL_law 1006 = .ok (.iadd, 1) := by decide +kernel
theorem dL_law_1007 : decode cL_law 1007 = .ok (.iaload, 1) := by decide +kernel
theorem dL_law_1008 : decode cL_law 1008 = .ok (.invokevirtual 133, 3) := by decide +kernel
theorem dL_law_1011 : decode cL_law 1011 = .ok (.if_icmp .eq 28, 3) := by decide +kernel
theorem dL_law_1014 : decode cL_law 1014 = .ok (.iconst 0, 1) := by decide +kernel
theorem dL_law_1015 : decode cL_law 1015 = .ok (.ireturn, 1) := by decide +kernel
theorem dL_law_1016 : decode cL_law 1016 = .ok (.aload_n 1, 1) := by decide +kernel
theorem dL_law_1017 : decode cL_law 1017 = .ok (.aload_n 0, 1) := by decide +kernel
theorem dL_law_1018 : decode cL_law 1018 = .ok (.iload_n 3, 1) := by decide +kernel
theorem dL_law_1019 : decode cL_law 1019 = .ok (.iconst 1, 1) := by decide +kernel
theorem dL_law_1020 : decode cL_law 1020 = .ok (.iadd, 1) := by decide +kernel
theorem dL_law_1021 : decode cL_law 1021 = .ok (.iaload, 1) := by decide +kernel
theorem dL_law_1022 : decode cL_law 1022 = .ok (.invokevirtual 134, 3) := by decide +kernel
theorem dL_law_1025 : decode cL_law 1025 = .ok (.aload_n 2, 1) := by decide +kernel
theorem dL_law_1026 : decode cL_law 1026 = .ok (.aload_n 0, 1) := by decide +kernel
theorem dL_law_1027 : decode cL_law 1027 = .ok (.iload_n 3, 1) := by decide +kernel
theorem dL_law_1028 : decode cL_law 1028 = .ok (.iconst 1, 1) := by decide +kernel
theorem dL_law_1029 : decode cL_law 1029 = .ok (.iadd, 1) := by decide +kernel
theorem dL_law_1030 : decode cL_law 1030 = .ok (.iaload, 1) := by decide +kernel
theorem dL_law_1031 : decode cL_law 1031 = .ok (.invokevirtual 137, 3) := by decide +kernel
theorem dL_law_1034 : decode cL_law 1034 = .ok (.if_icmp .eq 5, 3) := by decide +kernel
theorem dL_law_1037 : decode cL_law 1037 = .ok (.iconst 0, 1) := by decide +kernel
theorem dL_law_1038 : decode cL_law 1038 = .ok (.ireturn, 1) := by decide +kernel
theorem dL_law_1039 : decode cL_law 1039 = .ok (.iinc 3 4, 3) := by decide +kernel
theorem dL_law_1042 : decode cL_law 1042 = .ok (.goto (-1024), 3) := by decide +kernel
theorem dL_law_1045 : decode cL_law 1045 = .ok (.iconst 1, 1) := by decide +kernel
theorem dL_law_1046 : decode cL_law 1046 = .ok (.ireturn, 1) := by decide +kernel
end
section
/-! methods without cells, and of the JDK -/
theorem wm_of2 {d : Nat} {M : zMt} {av : List Value} {σ : zS} {K : List Value → zS → Prop} {L0 : List (Option Value)} (hm : zCm M) (hz : M.2.2.2.2.2 = 0 ∨ σ.1 = M.2.2.2.2.1) (hlen : (zArgs av).length ≤ M.2.2.1) (hL : zArgs av ++ List.replicate (M.2.2.1 - (zArgs av).length) none = L0) (h : wx d M 0 L0 [] σ K) : wm d M av σ K := wm_of (nL := 0) hm hz hlen hL h
/-- the numbers once all is made -/
abbrev zG (mm : zM) : zS := (154, zRF, mm)
theorem wx_eqb {P : Prop} [Decidable P] {d : Nat} {M : zMt} {pc : Nat} {L : List (Option Value)} {st : List Value} {σ : zS} {K : List Value → zS → Prop} {off : Int} {tgt : Nat} (hd : decode M.2.1 pc = .ok (.ifCond .eq off, 3)) (ht : (pc : Int) + off = (tgt : Int)) (kt : ¬ P → wx d M tgt L st σ K) (kf : P → wx d M (pc + 3) L st σ K) : wx d M pc L (.int (if P then 1 else 0) :: st) σ K :=
  wx_if_eq hd ht (fun h => kt (fun q => by rw [if_pos q] at h; exact absurd h (by decide))) (fun h => kf (Decidable.byContradiction fun q => h (if_neg q)))
theorem wx_neb {P : Prop} [Decidable P] {d : Nat} {M : zMt} {pc : Nat} {L : List (Option Value)} {st : List Value} {σ : zS} {K : List Value → zS → Prop} {off : Int} {tgt : Nat} (hd : decode M.2.1 pc = .ok (.ifCond .ne off, 3)) (ht : (pc : Int) + off = (tgt : Int)) (kt : P → wx d M tgt L st σ K) (kf : ¬ P → wx d M (pc + 3) L st σ K) : wx d M pc L (.int (if P then 1 else 0) :: st) σ K :=
  wx_if_ne hd ht (fun h => kt (Decidable.byContradiction fun q => h (if_neg q))) (fun h => kf (fun q => by rw [if_pos q] at h; exact absurd h (by decide)))
theorem zk {α : Type} {P : α → Prop} {a b : α} (h : P a) (e : a = b) : P b := e ▸ h
theorem zki {K : List Value → zS → Prop} {σ : zS} {a b : Int32} (h : K [.int a] σ) (e : a = b) : K [.int b] σ := e ▸ h
theorem znb {P : Prop} [Decidable P] : narrow .boolean (.int (if P then 1 else 0)) = .int (if P then 1 else 0) := by
  by_cases h : P
  · rw [if_pos h]; rfl
  · rw [if_neg h]; rfl
/-- a number of either sign -/
def zi (z : Int) : Int32 := Int32.ofInt z
theorem zi_add (a b : Int) : zi a + zi b = zi (a + b) := (Int32.ofInt_add a b).symm
theorem zi_sub (a b : Int) : zi a - zi b = zi (a - b) := (Int32.ofInt_sub a b).symm
theorem zi_mul (a b : Int) : zi a * zi b = zi (a * b) := (Int32.ofInt_mul a b).symm
theorem zi_neg (a : Int) : -zi a = zi (-a) := (Int32.ofInt_neg a).symm
theorem zi_of (x : Int32) : zi x.toInt = x := Int32.ofInt_toInt x
theorem zi_toInt {z : Int} (h1 : -2147483648 ≤ z) (h2 : z < 2147483648) : (zi z).toInt = z := Int32.toInt_ofInt_of_le (by simpa using h1) (by simpa using h2)
theorem zi_nI (n : Nat) : nI n = zi (n : Int) := by
  unfold nI zi
  first | rfl | exact (Int32.ofInt_eq_ofNat).symm
theorem zi_le {a b : Int} (h1 : -2147483648 ≤ a ∧ a < 2147483648) (h2 : -2147483648 ≤ b ∧ b < 2147483648) : zi a ≤ zi b ↔ a ≤ b := by
  rw [Int32.le_iff_toInt_le, zi_toInt h1.1 h1.2, zi_toInt h2.1 h2.2]
theorem zi_lt {a b : Int} (h1 : -2147483648 ≤ a ∧ a < 2147483648) (h2 : -2147483648 ≤ b ∧ b < 2147483648) : zi a < zi b ↔ a < b := by
  rw [Int32.lt_iff_toInt_lt, zi_toInt h1.1 h1.2, zi_toInt h2.1 h2.2]
theorem zi_eq {a b : Int} (h1 : -2147483648 ≤ a ∧ a < 2147483648) (h2 : -2147483648 ≤ b ∧ b < 2147483648) : zi a = zi b ↔ a = b := by
  rw [← Int32.toInt_inj, zi_toInt h1.1 h1.2, zi_toInt h2.1 h2.2]
theorem zrng (x : Int32) : -2147483648 ≤ x.toInt ∧ x.toInt < 2147483648 := ⟨by simpa using Int32.le_toInt x, by simpa using Int32.toInt_lt x⟩
/-- v is from a to c -/
def zW (v a c : Int32) : Prop := a ≤ v ∧ v ≤ c
theorem zW_def (v a c : Int32) : zW v a c ↔ a.toInt ≤ v.toInt ∧ v.toInt ≤ c.toInt := by
  unfold zW
  rw [Int32.le_iff_toInt_le, Int32.le_iff_toInt_le]
theorem zW_dec (v a c : Int32) : (if a ≤ v ∧ v ≤ c then (1 : Int32) else 0) = if a ≤ v ∧ v ≤ c then 1 else 0 := rfl
theorem z_nle {a b : Int32} (h : ¬ a ≤ b) : b < a := Int32.not_le.mp h
theorem z_nlt {a b : Int32} (h : ¬ a < b) : b ≤ a := Int32.not_lt.mp h
theorem z_ltn {a b : Int32} (h : a < b) : ¬ b ≤ a := Int32.not_le.mpr h
theorem z_ngt {a b : Int32} (h : ¬ b < a) : a ≤ b := Int32.not_lt.mp h
theorem z_ltn2 {a : Int32} (h : 0 ≤ a) : ¬ a < 0 := fun q => z_ltn q h
theorem zkl {K : List Value → zS → Prop} {σ : zS} {a b : Int64} (h : K [.long a] σ) (e : a = b) : K [.long b] σ := e ▸ h
section ZGG
variable {d : Nat} {M M' : zMt} {pc idx : Nat} {L : List (Option Value)} {rest st av : List Value} {K : List Value → zS → Prop} {mm : zM}
theorem wx_getIG {idx ci j k : Nat} {fin : Bool} {ty0 : FieldType} (hd : decode M.2.1 pc = .ok (.getfield idx, 3)) (hf : zF M.1.cls idx ci j fin ty0) (hk : (zK k).1 = ci) (hj : zIR ci j = false) (hkn : k < 154) (kk : wx d M (pc + 3) L (.int (mm k j) :: st) (zG mm) K) : wx d M pc L (.ref k :: st) (zG mm) K := wx_getI hd hf hk hj hkn kk
theorem wx_getRG {idx ci j k t : Nat} {fin : Bool} {ty0 : FieldType} (hd : decode M.2.1 pc = .ok (.getfield idx, 3)) (hf : zF M.1.cls idx ci j fin ty0) (hk : (zK k).1 = ci) (hj : zIR ci j = true) (hkn : k < 154) (ht : zRF k j = some t) (kk : wx d M (pc + 3) L (.ref t :: st) (zG mm) K) : wx d M pc L (.ref k :: st) (zG mm) K := wx_getR hd hf hk hj hkn ht kk
theorem wx_putIG {idx ci j k : Nat} {ty0 : FieldType} {v : Int32} (hd : decode M.2.1 pc = .ok (.putfield idx, 3)) (hf : zF M.1.cls idx ci j false ty0) (hk : (zK k).1 = ci) (hj : zIR ci j = false) (hkn : k < 154) (hnar : narrow ty0 (.int v) = .int v) (hfit : fits ty0 (.int v) = true) (kk : wx d M (pc + 3) L st (zG (zU mm k j v)) K) : wx d M pc L (.int v :: .ref k :: st) (zG mm) K := wx_putI hd hf hk hj hkn hnar hfit kk
theorem wx_ialdG {k n j : Nat} {i : Int32} (hd : decode M.2.1 pc = .ok (.iaload, 1)) (hk : zK k = (10, n)) (hkn : k < 154) (hi : i = nI j) (hj : j < n ∧ n < 2 ^ 31) (kk : wx d M (pc + 1) L (.int (mm k j) :: st) (zG mm) K) : wx d M pc L (.int i :: .ref k :: st) (zG mm) K := wx_ialdN hd hk hkn hi hj kk
theorem wx_zaldG {k n j : Nat} {i : Int32} (hd : decode M.2.1 pc = .ok (.baload, 1)) (hk : zK k = (11, n)) (hkn : k < 154) (hi : i = nI j) (hj : j < n ∧ n < 2 ^ 31) (kk : wx d M (pc + 1) L (.int (mm k j) :: st) (zG mm) K) : wx d M pc L (.int i :: .ref k :: st) (zG mm) K := wx_zaldN hd hk hkn hi hj kk
theorem wx_iastG {k n j : Nat} {i v : Int32} (hd : decode M.2.1 pc = .ok (.iastore, 1)) (hk : zK k = (10, n)) (hkn : k < 154) (hi : i = nI j) (hj : j < n ∧ n < 2 ^ 31) (kk : wx d M (pc + 1) L st (zG (zU mm k j v)) K) : wx d M pc L (.int v :: .int i :: .ref k :: st) (zG mm) K := wx_iastN hd hk hkn hi hj kk
theorem wx_zastG {k n j : Nat} {i v : Int32} (hd : decode M.2.1 pc = .ok (.bastore, 1)) (hk : zK k = (11, n)) (hkn : k < 154) (hi : i = nI j) (hj : j < n ∧ n < 2 ^ 31) (hv : vp_nar .boolean v = v) (kk : wx d M (pc + 1) L st (zG (zU mm k j v)) K) : wx d M pc L (.int v :: .int i :: .ref k :: st) (zG mm) K := wx_zastN hd hk hkn hi hj hv kk
theorem wx_aaldG {k n j : Nat} {i : Int32} (hd : decode M.2.1 pc = .ok (.aaload, 1)) (hk : zK k = (12, n)) (hkn : k < 154) (hi : i = nI j) (hj : j < n ∧ n < 2 ^ 31) (kk : wx d M (pc + 1) L (.ref (k + 1 + j) :: st) (zG mm) K) : wx d M pc L (.int i :: .ref k :: st) (zG mm) K := wx_aaldN hd hk hkn hi hj (zRF_out hk hkn hj.1) kk
theorem wx_acopyG {ka kb na nb : Nat} {sp dp n : Int32} {x y z : Nat} (hd : decode M.2.1 pc = .ok (.invokestatic idx, 3)) (w1 : Cond.methodLink M.1.cls idx arraycopyName ∈ zT) (w2 : Cond.native arraycopyName ∈ zT) (w3 : Cond.static arraycopyName ∈ zT) (w4 : Cond.initialized "java/lang/System" ∈ zT) (hka : zK ka = (10, na)) (hkb : zK kb = (10, nb)) (ha : ka < 154) (hkn : kb < 154)
    (h1 : ¬ sp < 0) (h2 : ¬ dp < 0) (h3 : ¬ n < 0) (h4 : sp.toNatClampNeg + n.toNatClampNeg ≤ na) (h5 : dp.toNatClampNeg + n.toNatClampNeg ≤ nb) (e1 : sp.toNatClampNeg = x) (e2 : dp.toNatClampNeg = y) (e3 : n.toNatClampNeg = z) (hrest : (rest.map fun v => v.category).sum ≤ 8)
    (kk : wx (d + 1) M (pc + 3) L rest (zG (va_up mm kb (va_cpy (mm ka) (mm kb) x y z))) K) : wx (d + 1) M pc L (.int n :: .int dp :: .ref kb :: .int sp :: .ref ka :: rest) (zG mm) K := by
  subst e1; subst e2; subst e3
  exact wx_acopy hd w1 w2 w3 w4 hka hkb ha hkn h1 h2 h3 h4 h5 hrest kk
end ZGG
theorem s_X8_within {d : Nat} {K : List Value → zS → Prop} {σ : zS} (a b c : Int32) (hK : K [.int (if b ≤ a ∧ a ≤ c then 1 else 0)] σ) : wm (d) mX8_within [.int a, .int b, .int c] σ K := by
  refine wm_of2 (L0 := [some (.int a), some (.int b), some (.int c)]) zCm_X8_within (Or.inl rfl) (Nat.le_of_ble_eq_true rfl) rfl ?_
  refine wx_iload_n (i := 0) dX8_within_0 rfl rfl ?_
  refine wx_iload_n (i := 1) dX8_within_1 rfl rfl ?_
  refine wx_icmp_lt (tgt := 14) dX8_within_2 (by decide) (fun h2 => ?_) (fun h2 => ?_)
  · skip
    refine wx_iconst (v := 0) dX8_within_14 (by decide) ?_
    refine wx_iret dX8_within_15 rfl rfl (Or.inl rfl) ?_
    first | exact zki hK (if_pos ⟨z_nlt (by assumption), z_nlt (by assumption)⟩) | exact zki hK (if_neg (fun q => z_ltn (by assumption) q.1)) | exact zki hK (if_neg (fun q => z_ltn (by assumption) q.2))
  · skip
    refine wx_iload_n (i := 0) dX8_within_5 rfl rfl ?_
    refine wx_iload_n (i := 2) dX8_within_6 rfl rfl ?_
    refine wx_icmp_gt (tgt := 14) dX8_within_7 (by decide) (fun h7 => ?_) (fun h7 => ?_)
    · skip
      refine wx_iconst (v := 0) dX8_within_14 (by decide) ?_
      refine wx_iret dX8_within_15 rfl rfl (Or.inl rfl) ?_
      first | exact zki hK (if_pos ⟨z_nlt (by assumption), z_nlt (by assumption)⟩) | exact zki hK (if_neg (fun q => z_ltn (by assumption) q.1)) | exact zki hK (if_neg (fun q => z_ltn (by assumption) q.2))
    · skip
      refine wx_iconst (v := 1) dX8_within_10 (by decide) ?_
      refine wx_goto (tgt := 15) dX8_within_11 (by decide) ?_
      refine wx_iret dX8_within_15 rfl rfl (Or.inl rfl) ?_
      first | exact zki hK (if_pos ⟨z_nlt (by assumption), z_nlt (by assumption)⟩) | exact zki hK (if_neg (fun q => z_ltn (by assumption) q.1)) | exact zki hK (if_neg (fun q => z_ltn (by assumption) q.2))
theorem s_X9_in {d : Nat} {K : List Value → zS → Prop} {σ : zS} (a b c : Int32) (hK : K [.int (if b ≤ a ∧ a ≤ c then 1 else 0)] σ) : wm (d) mX9_in [.int a, .int b, .int c] σ K := by
  refine wm_of2 (L0 := [some (.int a), some (.int b), some (.int c)]) zCm_X9_in (Or.inl rfl) (Nat.le_of_ble_eq_true rfl) rfl ?_
  refine wx_iload_n (i := 0) dX9_in_0 rfl rfl ?_
  refine wx_iload_n (i := 1) dX9_in_1 rfl rfl ?_
  refine wx_icmp_lt (tgt := 14) dX9_in_2 (by decide) (fun h2 => ?_) (fun h2 => ?_)
  · skip
    refine wx_iconst (v := 0) dX9_in_14 (by decide) ?_
    refine wx_iret dX9_in_15 rfl rfl (Or.inl rfl) ?_
    first | exact zki hK (if_pos ⟨z_nlt (by assumption), z_nlt (by assumption)⟩) | exact zki hK (if_neg (fun q => z_ltn (by assumption) q.1)) | exact zki hK (if_neg (fun q => z_ltn (by assumption) q.2))
  · skip
    refine wx_iload_n (i := 0) dX9_in_5 rfl rfl ?_
    refine wx_iload_n (i := 2) dX9_in_6 rfl rfl ?_
    refine wx_icmp_gt (tgt := 14) dX9_in_7 (by decide) (fun h7 => ?_) (fun h7 => ?_)
    · skip
      refine wx_iconst (v := 0) dX9_in_14 (by decide) ?_
      refine wx_iret dX9_in_15 rfl rfl (Or.inl rfl) ?_
      first | exact zki hK (if_pos ⟨z_nlt (by assumption), z_nlt (by assumption)⟩) | exact zki hK (if_neg (fun q => z_ltn (by assumption) q.1)) | exact zki hK (if_neg (fun q => z_ltn (by assumption) q.2))
    · skip
      refine wx_iconst (v := 1) dX9_in_10 (by decide) ?_
      refine wx_goto (tgt := 15) dX9_in_11 (by decide) ?_
      refine wx_iret dX9_in_15 rfl rfl (Or.inl rfl) ?_
      first | exact zki hK (if_pos ⟨z_nlt (by assumption), z_nlt (by assumption)⟩) | exact zki hK (if_neg (fun q => z_ltn (by assumption) q.1)) | exact zki hK (if_neg (fun q => z_ltn (by assumption) q.2))
theorem s_X8_isTool {d : Nat} {K : List Value → zS → Prop} {σ : zS} (a : Int32) (hK : K [.int (if 0 ≤ a ∧ a ≤ 2 then 1 else 0)] σ) : wm (d + 1) mX8_isTool [.int a] σ K := by
  refine wm_of2 (L0 := [some (.int a)]) zCm_X8_isTool (Or.inl rfl) (Nat.le_of_ble_eq_true rfl) rfl ?_
  refine wx_iload_n (i := 0) dX8_isTool_0 rfl rfl ?_
  refine wx_iconst (v := 0) dX8_isTool_1 (by decide) ?_
  refine wx_iconst (v := 2) dX8_isTool_2 (by decide) ?_
  refine wx_S3 dX8_isTool_3 zPS_X8_within zLk_X8_73 (Nat.le_of_ble_eq_true rfl) (Or.inr rfl) ?_
  refine s_X8_within _ _ _ ?_
  refine wx_r1 ?_
  refine wx_iret dX8_isTool_6 rfl znb (Or.inl rfl) ?_
  exact hK
theorem s_X8_isZone {d : Nat} {K : List Value → zS → Prop} {mm : zM} (a : Int32) (hK : K [.int (if 0 ≤ a ∧ a ≤ mm 0 8 - 1 then 1 else 0)] (zG mm)) : wm (d + 1) mX8_isZone [.ref 0, .int a] (zG mm) K := by
  refine wm_of2 (L0 := [some (.ref 0), some (.int a)]) zCm_X8_isZone (Or.inl rfl) (Nat.le_of_ble_eq_true rfl) rfl ?_
  refine wx_iload_n (i := 1) dX8_isZone_0 rfl rfl ?_
  refine wx_iconst (v := 0) dX8_isZone_1 (by decide) ?_
  refine wx_aload_n (i := 0) dX8_isZone_2 rfl rfl ?_
  refine wx_getIG (k := 0) dX8_isZone_3 zF_X8_69 zKo_0 rfl (Nat.le_of_ble_eq_true rfl) ?_
  refine wx_iconst (v := 1) dX8_isZone_6 (by decide) ?_
  refine wx_isub dX8_isZone_7 ?_
  refine wx_S3 dX8_isZone_8 zPS_X8_within zLk_X8_73 (Nat.le_of_ble_eq_true rfl) (Or.inr rfl) ?_
  refine s_X8_within _ _ _ ?_
  refine wx_r1 ?_
  refine wx_iret dX8_isZone_11 rfl znb (Or.inl rfl) ?_
  exact hK
theorem s_X8_isStep {d : Nat} {K : List Value → zS → Prop} {mm : zM} (a : Int32) (hK : K [.int (if 0 ≤ a ∧ a ≤ mm 0 8 - 2 then 1 else 0)] (zG mm)) : wm (d + 1) mX8_isStep [.ref 0, .int a] (zG mm) K := by
  refine wm_of2 (L0 := [some (.ref 0), some (.int a)]) zCm_X8_isStep (Or.inl rfl) (Nat.le_of_ble_eq_true rfl) rfl ?_
  refine wx_iload_n (i := 1) dX8_isStep_0 rfl rfl ?_
  refine wx_iconst (v := 0) dX8_isStep_1 (by decide) ?_
  refine wx_aload_n (i := 0) dX8_isStep_2 rfl rfl ?_
  refine wx_getIG (k := 0) dX8_isStep_3 zF_X8_69 zKo_0 rfl (Nat.le_of_ble_eq_true rfl) ?_
  refine wx_iconst (v := 2) dX8_isStep_6 (by decide) ?_
  refine wx_isub dX8_isStep_7 ?_
  refine wx_S3 dX8_isStep_8 zPS_X8_within zLk_X8_73 (Nat.le_of_ble_eq_true rfl) (Or.inr rfl) ?_
  refine s_X8_within _ _ _ ?_
  refine wx_r1 ?_
  refine wx_iret dX8_isStep_11 rfl znb (Or.inl rfl) ?_
  exact hK
theorem s_X0_isThere {d : Nat} {K : List Value → zS → Prop} {mm : zM} (a : Int32) (hK : K [.int (if 0 ≤ a ∧ a ≤ mm 17 7 - 1 then 1 else 0)] (zG mm)) : wm (d + 1) mX0_isThere [.ref 17, .int a] (zG mm) K := by
  refine wm_of2 (L0 := [some (.ref 17), some (.int a)]) zCm_X0_isThere (Or.inl rfl) (Nat.le_of_ble_eq_true rfl) rfl ?_
  refine wx_iload_n (i := 1) dX0_isThere_0 rfl rfl ?_
  refine wx_iconst (v := 0) dX0_isThere_1 (by decide) ?_
  refine wx_aload_n (i := 0) dX0_isThere_2 rfl rfl ?_
  refine wx_getIG (k := 17) dX0_isThere_3 zF_X0_35 zKo_17 rfl (Nat.le_of_ble_eq_true rfl) ?_
  refine wx_iconst (v := 1) dX0_isThere_6 (by decide) ?_
  refine wx_isub dX0_isThere_7 ?_
  refine wx_SN3 dX0_isThere_8 zPS_X8_within zLn_X0_63 (Nat.le_of_ble_eq_true rfl) (Or.inr rfl) ?_
  refine s_X8_within _ _ _ ?_
  refine wx_r1 ?_
  refine wx_iret dX0_isThere_11 rfl znb (Or.inl rfl) ?_
  exact hK
theorem s_X9_isZone {d : Nat} {K : List Value → zS → Prop} {mm : zM} (a : Int32) (hK : K [.int (if 0 ≤ a ∧ a ≤ mm 128 0 - 1 then 1 else 0)] (zG mm)) : wm (d + 1) mX9_isZone [.ref 128, .int a] (zG mm) K := by
  refine wm_of2 (L0 := [some (.ref 128), some (.int a)]) zCm_X9_isZone (Or.inl rfl) (Nat.le_of_ble_eq_true rfl) rfl ?_
  refine wx_iload_n (i := 1) dX9_isZone_0 rfl rfl ?_
  refine wx_iconst (v := 0) dX9_isZone_1 (by decide) ?_
  refine wx_aload_n (i := 0) dX9_isZone_2 rfl rfl ?_
  refine wx_getIG (k := 128) dX9_isZone_3 zF_X9_7 zKo_128 rfl (Nat.le_of_ble_eq_true rfl) ?_
  refine wx_iconst (v := 1) dX9_isZone_6 (by decide) ?_
  refine wx_isub dX9_isZone_7 ?_
  refine wx_S3 dX9_isZone_8 zPS_X9_in zLk_X9_116 (Nat.le_of_ble_eq_true rfl) (Or.inr rfl) ?_
  refine s_X9_in _ _ _ ?_
  refine wx_r1 ?_
  refine wx_iret dX9_isZone_11 rfl znb (Or.inl rfl) ?_
  exact hK
theorem s_X9_size {d : Nat} {K : List Value → zS → Prop} {σ : zS} (a : Int32) (hK : K [.int (if a < 0 then -a else a)] σ) : wm (d) mX9_size [.int a] σ K := by
  refine wm_of2 (L0 := [some (.int a)]) zCm_X9_size (Or.inl rfl) (Nat.le_of_ble_eq_true rfl) rfl ?_
  refine wx_iload_n (i := 0) dX9_size_0 rfl rfl ?_
  refine wx_if_ge (tgt := 9) dX9_size_1 (by decide) (fun h1 => ?_) (fun h1 => ?_)
  · skip
    refine wx_iload_n (i := 0) dX9_size_9 rfl rfl ?_
    refine wx_iret dX9_size_10 rfl rfl (Or.inl rfl) ?_
    first | exact zki hK (if_pos (z_nle (by assumption))) | exact zki hK (if_neg (z_ltn2 (by assumption)))
  · skip
    refine wx_iload_n (i := 0) dX9_size_4 rfl rfl ?_
    refine wx_ineg dX9_size_5 ?_
    refine wx_goto (tgt := 10) dX9_size_6 (by decide) ?_
    refine wx_iret dX9_size_10 rfl rfl (Or.inl rfl) ?_
    first | exact zki hK (if_pos (z_nle (by assumption))) | exact zki hK (if_neg (z_ltn2 (by assumption)))
theorem s_J9_max_7cf53 {d : Nat} {K : List Value → zS → Prop} {σ : zS} (a b : Int32) (hK : K [.int (if b ≤ a then a else b)] σ) : wm (d) mJ9_max_7cf53 [.int a, .int b] σ K := by
  refine wm_of2 (L0 := [some (.int a), some (.int b)]) zCm_J9_max_7cf53 (Or.inl rfl) (Nat.le_of_ble_eq_true rfl) rfl ?_
  refine wx_iload_n (i := 0) dJ9_max_7cf53_0 rfl rfl ?_
  refine wx_iload_n (i := 1) dJ9_max_7cf53_1 rfl rfl ?_
  refine wx_icmp_lt (tgt := 9) dJ9_max_7cf53_2 (by decide) (fun h2 => ?_) (fun h2 => ?_)
  · skip
    refine wx_iload_n (i := 1) dJ9_max_7cf53_9 rfl rfl ?_
    refine wx_iret dJ9_max_7cf53_10 rfl rfl (Or.inl rfl) ?_
    first | exact zki hK (if_pos (z_nlt (by assumption))) | exact zki hK (if_neg (z_ltn (by assumption)))
  · skip
    refine wx_iload_n (i := 0) dJ9_max_7cf53_5 rfl rfl ?_
    refine wx_goto (tgt := 10) dJ9_max_7cf53_6 (by decide) ?_
    refine wx_iret dJ9_max_7cf53_10 rfl rfl (Or.inl rfl) ?_
    first | exact zki hK (if_pos (z_nlt (by assumption))) | exact zki hK (if_neg (z_ltn (by assumption)))
theorem s_J9_min_7cf53 {d : Nat} {K : List Value → zS → Prop} {σ : zS} (a b : Int32) (hK : K [.int (if a ≤ b then a else b)] σ) : wm (d) mJ9_min_7cf53 [.int a, .int b] σ K := by
  refine wm_of2 (L0 := [some (.int a), some (.int b)]) zCm_J9_min_7cf53 (Or.inl rfl) (Nat.le_of_ble_eq_true rfl) rfl ?_
  refine wx_iload_n (i := 0) dJ9_min_7cf53_0 rfl rfl ?_
  refine wx_iload_n (i := 1) dJ9_min_7cf53_1 rfl rfl ?_
  refine wx_icmp_gt (tgt := 9) dJ9_min_7cf53_2 (by decide) (fun h2 => ?_) (fun h2 => ?_)
  · skip
    refine wx_iload_n (i := 1) dJ9_min_7cf53_9 rfl rfl ?_
    refine wx_iret dJ9_min_7cf53_10 rfl rfl (Or.inl rfl) ?_
    first | exact zki hK (if_pos (z_ngt (by assumption))) | exact zki hK (if_neg (z_ltn (by assumption)))
  · skip
    refine wx_iload_n (i := 0) dJ9_min_7cf53_5 rfl rfl ?_
    refine wx_goto (tgt := 10) dJ9_min_7cf53_6 (by decide) ?_
    refine wx_iret dJ9_min_7cf53_10 rfl rfl (Or.inl rfl) ?_
    first | exact zki hK (if_pos (z_ngt (by assumption))) | exact zki hK (if_neg (z_ltn (by assumption)))
theorem s_J9_abs_0f7a4 {d : Nat} {K : List Value → zS → Prop} {σ : zS} (a : Int32) (hK : K [.int (if 0 ≤ a then a else -a)] σ) : wm (d) mJ9_abs_0f7a4 [.int a] σ K := by
  refine wm_of2 (L0 := [some (.int a)]) zCm_J9_abs_0f7a4 (Or.inl rfl) (Nat.le_of_ble_eq_true rfl) rfl ?_
  refine wx_iload_n (i := 0) dJ9_abs_0f7a4_0 rfl rfl ?_
  refine wx_if_ge (tgt := 9) dJ9_abs_0f7a4_1 (by decide) (fun h1 => ?_) (fun h1 => ?_)
  · skip
    refine wx_iload_n (i := 0) dJ9_abs_0f7a4_9 rfl rfl ?_
    refine wx_iret dJ9_abs_0f7a4_10 rfl rfl (Or.inl rfl) ?_
    first | exact zki hK (if_pos (by assumption)) | exact zki hK (if_neg (by assumption))
  · skip
    refine wx_iload_n (i := 0) dJ9_abs_0f7a4_4 rfl rfl ?_
    refine wx_ineg dJ9_abs_0f7a4_5 ?_
    refine wx_goto (tgt := 10) dJ9_abs_0f7a4_6 (by decide) ?_
    refine wx_iret dJ9_abs_0f7a4_10 rfl rfl (Or.inl rfl) ?_
    first | exact zki hK (if_pos (by assumption)) | exact zki hK (if_neg (by assumption))
theorem s_J9_abs_067f4 {d : Nat} {K : List Value → zS → Prop} {σ : zS} (a : Int64) (hK : K [.long (if 0 ≤ lg_cmp a 0 then a else -a)] σ) : wm (d) mJ9_abs_067f4 [.long a] σ K := by
  refine wm_of2 (L0 := [some (.long a), none]) zCm_J9_abs_067f4 (Or.inl rfl) (Nat.le_of_ble_eq_true rfl) rfl ?_
  refine wx_lload_n (i := 0) dJ9_abs_067f4_0 rfl rfl ?_
  refine wx_lconst (v := 0) dJ9_abs_067f4_1 (by decide) ?_
  refine wx_lcmp dJ9_abs_067f4_2 ?_
  refine wx_if_ge (tgt := 11) dJ9_abs_067f4_3 (by decide) (fun h3 => ?_) (fun h3 => ?_)
  · skip
    refine wx_lload_n (i := 0) dJ9_abs_067f4_11 rfl rfl ?_
    refine wx_lret dJ9_abs_067f4_12 rfl (Or.inl rfl) ?_
    first | exact zkl hK (if_pos (by assumption)) | exact zkl hK (if_neg (by assumption))
  · skip
    refine wx_lload_n (i := 0) dJ9_abs_067f4_6 rfl rfl ?_
    refine wx_lneg dJ9_abs_067f4_7 ?_
    refine wx_goto (tgt := 12) dJ9_abs_067f4_8 (by decide) ?_
    refine wx_lret dJ9_abs_067f4_12 rfl (Or.inl rfl) ?_
    first | exact zkl hK (if_pos (by assumption)) | exact zkl hK (if_neg (by assumption))
/-- the first i places of cell k are v -/
def zFl (mm : zM) (k i : Nat) (v : Int32) : zM := va_up mm k (fun j => if j < i then v else mm k j)
theorem zFl_0 (mm : zM) (k : Nat) (v : Int32) : zFl mm k 0 v = mm := by
  funext a
  by_cases h : a = k
  · subst h; simp [zFl, va_up]
  · simp [zFl, va_up, h]
theorem zFl_succ (mm : zM) (k i : Nat) (v : Int32) : zU (zFl mm k i v) k i v = zFl mm k (i + 1) v := by
  funext a j
  by_cases h : a = k
  · subst h
    by_cases e : j = i
    · subst e; simp [zFl, zU, va_up, upd]
    · simp only [zFl, zU, va_up, upd, if_pos, e, if_false]
      by_cases g : j < i
      · rw [if_pos g, if_pos (by omega)]
      · rw [if_neg g, if_neg (by omega)]
  · simp [zFl, zU, va_up, h]
theorem lp_fill {d : Nat} {K : List Value → zS → Prop} {sn : Nat} {rf : zR} {mm : zM} {k n : Nat} {v : Int32} (hk : zK k = (10, n)) (hkn : k < sn) (hn : n < 2 ^ 31) (hK : K [] (sn, rf, zFl mm k n v)) : ∀ c i : Nat, i + c = n → wx d mJ7_fill_53178 5 [some (.ref k), some (.int v), some (.int (nI i)), some (.int (nI n))] [] (sn, rf, zFl mm k i v) K := by
  intro c
  induction c with
  | zero =>
    intro i hi
    have hi : i = n := by omega
    subst hi
    refine wx_iload_n (i := 2) dJ7_fill_53178_5 rfl rfl ?_
    refine wx_iload_n (i := 3) dJ7_fill_53178_6 rfl rfl ?_
    refine wx_icmp_ge (tgt := 20) dJ7_fill_53178_7 (by decide) (fun h7 => ?_) (fun h7 => ?_)
    · skip
      refine wx_vret dJ7_fill_53178_20 rfl (Or.inl rfl) ?_
      exact hK
    · exact absurd (nI_le (Nat.le_refl _) hn) h7 --end
  | succ c ih =>
    intro i hi
    refine wx_iload_n (i := 2) dJ7_fill_53178_5 rfl rfl ?_
    refine wx_iload_n (i := 3) dJ7_fill_53178_6 rfl rfl ?_
    refine wx_icmp_ge (tgt := 20) dJ7_fill_53178_7 (by decide) (fun h7 => ?_) (fun h7 => ?_)
    · exact absurd h7 (nI_ge (by omega) hn) --end
    · skip
      refine wx_aload_n (i := 0) dJ7_fill_53178_10 rfl rfl ?_
      refine wx_iload_n (i := 2) dJ7_fill_53178_11 rfl rfl ?_
      refine wx_iload_n (i := 1) dJ7_fill_53178_12 rfl rfl ?_
      refine wx_iastN (j := i) dJ7_fill_53178_13 hk hkn rfl ?_ ?_
      · exact ⟨by omega, hn⟩
      refine wx_inc (c := 1) dJ7_fill_53178_14 rfl (by decide) (Nat.le_of_ble_eq_true rfl) rfl ?_
      refine wx_goto (tgt := 5) dJ7_fill_53178_17 (by decide) ?_
      rw [nI_1]
      rw [zFl_succ]
      exact ih (i + 1) (by omega)
theorem s_J7_fill {d : Nat} {K : List Value → zS → Prop} {sn : Nat} {rf : zR} {mm : zM} {k n : Nat} {v : Int32} (hk : zK k = (10, n)) (hkn : k < sn) (hn : n < 2 ^ 31) (hK : K [] (sn, rf, zFl mm k n v)) : wm d mJ7_fill_53178 [.ref k, .int v] (sn, rf, mm) K := by
  refine wm_of2 (L0 := [some (.ref k), some (.int v), none, none]) zCm_J7_fill_53178 (Or.inl rfl) (Nat.le_of_ble_eq_true rfl) rfl ?_
  refine wx_iconst (v := 0) dJ7_fill_53178_0 (by decide) ?_
  refine wx_istore_n (i := 2) dJ7_fill_53178_1 rfl (Nat.le_of_ble_eq_true rfl) rfl ?_
  refine wx_aload_n (i := 0) dJ7_fill_53178_2 rfl rfl ?_
  refine wx_alen dJ7_fill_53178_3 hk hkn ?_
  refine wx_istore_n (i := 3) dJ7_fill_53178_4 rfl (Nat.le_of_ble_eq_true rfl) rfl ?_
  have h := lp_fill (d := d) (mm := mm) hk hkn hn hK n 0 (by omega)
  rw [zFl_0] at h
  exact h
section ZGF
variable {d : Nat} {K : List Value → zS → Prop} {mm : zM}
theorem s_J7_fillG {k n : Nat} {v : Int32} (hk : zK k = (10, n)) (hkn : k < 154) (hn : n < 2 ^ 31) (hK : K [] (zG (zFl mm k n v))) : wm d mJ7_fill_53178 [.ref k, .int v] (zG mm) K := s_J7_fill hk hkn hn hK
end ZGF
end
section
/-! the bench -/
theorem zl_0 : (0 : Int32) = zi 0 := rfl
theorem zl_1 : (1 : Int32) = zi 1 := rfl
theorem zl_2 : (2 : Int32) = zi 2 := rfl
theorem zl_3 : (3 : Int32) = zi 3 := rfl
theorem zl_4 : (4 : Int32) = zi 4 := rfl
theorem zl_5 : (5 : Int32) = zi 5 := rfl
theorem zl_6 : (6 : Int32) = zi 6 := rfl
theorem zl_7 : (7 : Int32) = zi 7 := rfl
theorem zl_8 : (8 : Int32) = zi 8 := rfl
theorem zl_9 : (9 : Int32) = zi 9 := rfl
theorem zl_10 : (10 : Int32) = zi 10 := rfl
theorem zl_11 : (11 : Int32) = zi 11 := rfl
theorem zl_12 : (12 : Int32) = zi 12 := rfl
theorem zl_13 : (13 : Int32) = zi 13 := rfl
theorem zl_14 : (14 : Int32) = zi 14 := rfl
theorem zl_15 : (15 : Int32) = zi 15 := rfl
theorem zl_16 : (16 : Int32) = zi 16 := rfl
theorem zl_17 : (17 : Int32) = zi 17 := rfl
theorem zl_18 : (18 : Int32) = zi 18 := rfl
theorem zl_19 : (19 : Int32) = zi 19 := rfl
theorem zl_20 : (20 : Int32) = zi 20 := rfl
theorem zl_30 : (30 : Int32) = zi 30 := rfl
theorem zl_50 : (50 : Int32) = zi 50 := rfl
theorem zl_60 : (60 : Int32) = zi 60 := rfl
theorem zl_100 : (100 : Int32) = zi 100 := rfl
theorem zl_101 : (101 : Int32) = zi 101 := rfl
theorem zl_150 : (150 : Int32) = zi 150 := rfl
theorem zl_200 : (200 : Int32) = zi 200 := rfl
theorem zl_216 : (216 : Int32) = zi 216 := rfl
theorem zl_255 : (255 : Int32) = zi 255 := rfl
theorem zl_500 : (500 : Int32) = zi 500 := rfl
theorem zl_999 : (999 : Int32) = zi 999 := rfl
theorem zl_1000 : (1000 : Int32) = zi 1000 := rfl
theorem zl_1296 : (1296 : Int32) = zi 1296 := rfl
theorem zl_2000 : (2000 : Int32) = zi 2000 := rfl
theorem zl_2100 : (2100 : Int32) = zi 2100 := rfl
theorem zl_2101 : (2101 : Int32) = zi 2101 := rfl
theorem zl_5000 : (5000 : Int32) = zi 5000 := rfl
theorem zl_10000 : (10000 : Int32) = zi 10000 := rfl
theorem zl_100000 : (100000 : Int32) = zi 100000 := rfl
theorem zl_1000000 : (1000000 : Int32) = zi 1000000 := rfl
theorem zl_2000000 : (2000000 : Int32) = zi 2000000 := rfl
theorem zm_1 : (-1 : Int32) = zi (-1) := rfl
theorem zm_2 : (-2 : Int32) = zi (-2) := rfl
theorem zm_3 : (-3 : Int32) = zi (-3) := rfl
theorem zm_4 : (-4 : Int32) = zi (-4) := rfl
theorem zm_20 : (-20 : Int32) = zi (-20) := rfl
theorem zm_30 : (-30 : Int32) = zi (-30) := rfl
theorem zm_100 : (-100 : Int32) = zi (-100) := rfl
theorem zm_500 : (-500 : Int32) = zi (-500) := rfl
theorem zm_1000 : (-1000 : Int32) = zi (-1000) := rfl
theorem zm_10000 : (-10000 : Int32) = zi (-10000) := rfl
theorem zm_100000 : (-100000 : Int32) = zi (-100000) := rfl
theorem zm_1000000 : (-1000000 : Int32) = zi (-1000000) := rfl
theorem zm_1000002 : (-1000002 : Int32) = zi (-1000002) := rfl
theorem zm_1000003 : (-1000003 : Int32) = zi (-1000003) := rfl
/-- what a tool pulls at d -/
def zPu (mm : zM) (t : Nat) (x : Int) : Int32 := if -2 ≤ x ∧ x ≤ 2 then mm (20 + 1 + t) (x + 2).toNat else 0
theorem s_X0_heightOf {d : Nat} {K : List Value → zS → Prop} {mm : zM} {z : Nat} (hz : z < 16) (hK : K [.int (mm 18 z)] (zG mm)) : wm (d) mX0_heightOf [.ref 17, .int (nI z)] (zG mm) K := by
  refine wm_of2 (L0 := [some (.ref 17), some (.int (nI z))]) zCm_X0_heightOf (Or.inl rfl) (Nat.le_of_ble_eq_true rfl) rfl ?_
  refine wx_aload_n (i := 0) dX0_heightOf_0 rfl rfl ?_
  refine wx_getRG (k := 17) (t := 18) dX0_heightOf_1 zF_X0_9 zKo_17 rfl (Nat.le_of_ble_eq_true rfl) zRf_17_0 ?_
  refine wx_iload_n (i := 1) dX0_heightOf_4 rfl rfl ?_
  refine wx_ialdG (k := 18) dX0_heightOf_5 zK_18 (Nat.le_of_ble_eq_true rfl) rfl ?_ ?_
  · exact ⟨hz, by decide⟩
  refine wx_iret dX0_heightOf_6 rfl rfl (Or.inl rfl) ?_
  exact hK
theorem s_X0_howMany {d : Nat} {K : List Value → zS → Prop} {mm : zM} (hK : K [.int (mm 17 8)] (zG mm)) : wm (d) mX0_howMany [.ref 17] (zG mm) K := by
  refine wm_of2 (L0 := [some (.ref 17)]) zCm_X0_howMany (Or.inl rfl) (Nat.le_of_ble_eq_true rfl) rfl ?_
  refine wx_aload_n (i := 0) dX0_howMany_0 rfl rfl ?_
  refine wx_getIG (k := 17) dX0_howMany_1 zF_X0_39 zKo_17 rfl (Nat.le_of_ble_eq_true rfl) ?_
  refine wx_iret dX0_howMany_4 rfl rfl (Or.inl rfl) ?_
  exact hK
theorem s_X0_howManyChanges {d : Nat} {K : List Value → zS → Prop} {mm : zM} (hK : K [.int (mm 17 10)] (zG mm)) : wm (d) mX0_howManyChanges [.ref 17] (zG mm) K := by
  refine wm_of2 (L0 := [some (.ref 17)]) zCm_X0_howManyChanges (Or.inl rfl) (Nat.le_of_ble_eq_true rfl) rfl ?_
  refine wx_aload_n (i := 0) dX0_howManyChanges_0 rfl rfl ?_
  refine wx_getIG (k := 17) dX0_howManyChanges_1 zF_X0_45 zKo_17 rfl (Nat.le_of_ble_eq_true rfl) ?_
  refine wx_iret dX0_howManyChanges_4 rfl rfl (Or.inl rfl) ?_
  exact hK
theorem s_X0_howManyZones {d : Nat} {K : List Value → zS → Prop} {mm : zM} (hK : K [.int (mm 17 7)] (zG mm)) : wm (d) mX0_howManyZones [.ref 17] (zG mm) K := by
  refine wm_of2 (L0 := [some (.ref 17)]) zCm_X0_howManyZones (Or.inl rfl) (Nat.le_of_ble_eq_true rfl) rfl ?_
  refine wx_aload_n (i := 0) dX0_howManyZones_0 rfl rfl ?_
  refine wx_getIG (k := 17) dX0_howManyZones_1 zF_X0_35 zKo_17 rfl (Nat.le_of_ble_eq_true rfl) ?_
  refine wx_iret dX0_howManyZones_4 rfl rfl (Or.inl rfl) ?_
  exact hK
theorem s_X0_restOf {d : Nat} {K : List Value → zS → Prop} {mm : zM} (hK : K [.int (mm 17 9)] (zG mm)) : wm (d) mX0_restOf [.ref 17] (zG mm) K := by
  refine wm_of2 (L0 := [some (.ref 17)]) zCm_X0_restOf (Or.inl rfl) (Nat.le_of_ble_eq_true rfl) rfl ?_
  refine wx_aload_n (i := 0) dX0_restOf_0 rfl rfl ?_
  refine wx_getIG (k := 17) dX0_restOf_1 zF_X0_42 zKo_17 rfl (Nat.le_of_ble_eq_true rfl) ?_
  refine wx_iret dX0_restOf_4 rfl rfl (Or.inl rfl) ?_
  exact hK
theorem s_X0_roomLeft {d : Nat} {K : List Value → zS → Prop} {mm : zM} (hK : K [.int (60 - mm 17 8)] (zG mm)) : wm (d) mX0_roomLeft [.ref 17] (zG mm) K := by
  refine wm_of2 (L0 := [some (.ref 17)]) zCm_X0_roomLeft (Or.inl rfl) (Nat.le_of_ble_eq_true rfl) rfl ?_
  refine wx_bipush (v := 60) dX0_roomLeft_0 (by decide) ?_
  refine wx_aload_n (i := 0) dX0_roomLeft_2 rfl rfl ?_
  refine wx_getIG (k := 17) dX0_roomLeft_3 zF_X0_39 zKo_17 rfl (Nat.le_of_ble_eq_true rfl) ?_
  refine wx_isub dX0_roomLeft_6 ?_
  refine wx_iret dX0_roomLeft_7 rfl rfl (Or.inl rfl) ?_
  exact hK
theorem s_X0_keepAsTold {d : Nat} {K : List Value → zS → Prop} {mm : zM} (hK : K [] (zG (zU (zU (va_up mm 19 (va_cpy (mm 18) (mm 19) 0 0 16)) 17 8 0) 17 10 (mm 17 10 + 1)))) : wm (d + 1) mX0_keepAsTold [.ref 17] (zG mm) K := by
  refine wm_of2 (L0 := [some (.ref 17)]) zCm_X0_keepAsTold (Or.inl rfl) (Nat.le_of_ble_eq_true rfl) rfl ?_
  refine wx_aload_n (i := 0) dX0_keepAsTold_0 rfl rfl ?_
  refine wx_getRG (k := 17) (t := 18) dX0_keepAsTold_1 zF_X0_9 zKo_17 rfl (Nat.le_of_ble_eq_true rfl) zRf_17_0 ?_
  refine wx_iconst (v := 0) dX0_keepAsTold_4 (by decide) ?_
  refine wx_aload_n (i := 0) dX0_keepAsTold_5 rfl rfl ?_
  refine wx_getRG (k := 17) (t := 19) dX0_keepAsTold_6 zF_X0_15 zKo_17 rfl (Nat.le_of_ble_eq_true rfl) zRf_17_1 ?_
  refine wx_iconst (v := 0) dX0_keepAsTold_9 (by decide) ?_
  refine wx_bipush (v := 16) dX0_keepAsTold_10 (by decide) ?_
  refine wx_acopyG (x := 0) (y := 0) (z := 16) dX0_keepAsTold_12 zLk_X0_57 zAc_n zAc_s zAc_i zK_18 zK_19 (Nat.le_of_ble_eq_true rfl) (Nat.le_of_ble_eq_true rfl) (by decide) (by decide) (by decide) (by decide) (by decide) (by decide) (by decide) (by decide) (Nat.le_of_ble_eq_true rfl) ?_
  refine wx_aload_n (i := 0) dX0_keepAsTold_15 rfl rfl ?_
  refine wx_iconst (v := 0) dX0_keepAsTold_16 (by decide) ?_
  refine wx_putIG (k := 17) dX0_keepAsTold_17 zF_X0_39 zKo_17 rfl (Nat.le_of_ble_eq_true rfl) rfl rfl ?_
  refine wx_aload_n (i := 0) dX0_keepAsTold_20 rfl rfl ?_
  refine wx_dup dX0_keepAsTold_21 rfl ?_
  refine wx_getIG (k := 17) dX0_keepAsTold_22 zF_X0_45 zKo_17 rfl (Nat.le_of_ble_eq_true rfl) ?_
  refine wx_iconst (v := 1) dX0_keepAsTold_25 (by decide) ?_
  refine wx_iadd dX0_keepAsTold_26 ?_
  refine wx_putIG (k := 17) dX0_keepAsTold_27 zF_X0_45 zKo_17 rfl (Nat.le_of_ble_eq_true rfl) rfl rfl ?_
  refine wx_vret dX0_keepAsTold_30 rfl (Or.inl rfl) ?_
  exact hK
theorem s_X0_tellRest {d : Nat} {K : List Value → zS → Prop} {mm : zM} (v : Int32) (hK : K [.int (mm 17 9)] (zG (zU (zU mm 17 9 v) 17 10 (mm 17 10 + 1)))) : wm (d) mX0_tellRest [.ref 17, .int v] (zG mm) K := by
  refine wm_of2 (L0 := [some (.ref 17), some (.int v), none]) zCm_X0_tellRest (Or.inl rfl) (Nat.le_of_ble_eq_true rfl) rfl ?_
  refine wx_aload_n (i := 0) dX0_tellRest_0 rfl rfl ?_
  refine wx_getIG (k := 17) dX0_tellRest_1 zF_X0_42 zKo_17 rfl (Nat.le_of_ble_eq_true rfl) ?_
  refine wx_istore_n (i := 2) dX0_tellRest_4 rfl (Nat.le_of_ble_eq_true rfl) rfl ?_
  refine wx_aload_n (i := 0) dX0_tellRest_5 rfl rfl ?_
  refine wx_iload_n (i := 1) dX0_tellRest_6 rfl rfl ?_
  refine wx_putIG (k := 17) dX0_tellRest_7 zF_X0_42 zKo_17 rfl (Nat.le_of_ble_eq_true rfl) rfl rfl ?_
  refine wx_aload_n (i := 0) dX0_tellRest_10 rfl rfl ?_
  refine wx_dup dX0_tellRest_11 rfl ?_
  refine wx_getIG (k := 17) dX0_tellRest_12 zF_X0_45 zKo_17 rfl (Nat.le_of_ble_eq_true rfl) ?_
  refine wx_iconst (v := 1) dX0_tellRest_15 (by decide) ?_
  refine wx_iadd dX0_tellRest_16 ?_
  refine wx_putIG (k := 17) dX0_tellRest_17 zF_X0_45 zKo_17 rfl (Nat.le_of_ble_eq_true rfl) rfl rfl ?_
  refine wx_iload_n (i := 2) dX0_tellRest_20 rfl rfl ?_
  refine wx_iret dX0_tellRest_21 rfl rfl (Or.inl rfl) ?_
  exact hK
theorem s_X0_tellHeight {d : Nat} {K : List Value → zS → Prop} {mm : zM} {z : Nat} (v : Int32) (hz : z < 16) (hK : K [.int (mm 18 z)] (zG (zU (zU (va_up (zU mm 18 z v) 19 (va_cpy (zU mm 18 z v 18) (mm 19) 0 0 16)) 17 8 0) 17 10 (mm 17 10 + 1)))) : wm (d + 2) mX0_tellHeight [.ref 17, .int (nI z), .int v] (zG mm) K := by
  refine wm_of2 (L0 := [some (.ref 17), some (.int (nI z)), some (.int v), none]) zCm_X0_tellHeight (Or.inl rfl) (Nat.le_of_ble_eq_true rfl) rfl ?_
  refine wx_aload_n (i := 0) dX0_tellHeight_0 rfl rfl ?_
  refine wx_getRG (k := 17) (t := 18) dX0_tellHeight_1 zF_X0_9 zKo_17 rfl (Nat.le_of_ble_eq_true rfl) zRf_17_0 ?_
  refine wx_iload_n (i := 1) dX0_tellHeight_4 rfl rfl ?_
  refine wx_ialdG (k := 18) dX0_tellHeight_5 zK_18 (Nat.le_of_ble_eq_true rfl) rfl ?_ ?_
  · exact ⟨hz, by decide⟩
  refine wx_istore_n (i := 3) dX0_tellHeight_6 rfl (Nat.le_of_ble_eq_true rfl) rfl ?_
  refine wx_aload_n (i := 0) dX0_tellHeight_7 rfl rfl ?_
  refine wx_getRG (k := 17) (t := 18) dX0_tellHeight_8 zF_X0_9 zKo_17 rfl (Nat.le_of_ble_eq_true rfl) zRf_17_0 ?_
  refine wx_iload_n (i := 1) dX0_tellHeight_11 rfl rfl ?_
  refine wx_iload_n (i := 2) dX0_tellHeight_12 rfl rfl ?_
  refine wx_iastG (k := 18) dX0_tellHeight_13 zK_18 (Nat.le_of_ble_eq_true rfl) rfl ?_ ?_
  · exact ⟨hz, by decide⟩
  refine wx_aload_n (i := 0) dX0_tellHeight_14 rfl rfl ?_
  refine wx_V0 dX0_tellHeight_15 zPV_X0_keepAsTold zLk_X0_54 rfl (Nat.le_of_ble_eq_true rfl) (Nat.le_of_ble_eq_true rfl) (Or.inr rfl) ?_
  refine s_X0_keepAsTold ?_
  refine wx_r0 ?_
  refine wx_iload_n (i := 3) dX0_tellHeight_18 rfl rfl ?_
  refine wx_iret dX0_tellHeight_19 rfl rfl (Or.inl rfl) ?_
  exact hK
theorem s_X0_tellPull {d : Nat} {K : List Value → zS → Prop} {mm : zM} {t e : Nat} (v : Int32) (ht : t < 3) (he : e < 5) (hK : K [.int (mm (20 + 1 + t) e)] (zG (zU (zU mm (20 + 1 + t) e v) 17 10 (mm 17 10 + 1)))) : wm (d) mX0_tellPull [.ref 17, .int (nI t), .int (zi (e - 2)), .int v] (zG mm) K := by
  refine wm_of2 (L0 := [some (.ref 17), some (.int (nI t)), some (.int (zi (e - 2))), some (.int v), none]) zCm_X0_tellPull (Or.inl rfl) (Nat.le_of_ble_eq_true rfl) rfl ?_
  refine wx_aload_n (i := 0) dX0_tellPull_0 rfl rfl ?_
  refine wx_getRG (k := 17) (t := 20) dX0_tellPull_1 zF_X0_20 zKo_17 rfl (Nat.le_of_ble_eq_true rfl) zRf_17_2 ?_
  refine wx_iload_n (i := 1) dX0_tellPull_4 rfl rfl ?_
  refine wx_aaldG (k := 20) dX0_tellPull_5 zK_20 (Nat.le_of_ble_eq_true rfl) rfl ?_ ?_
  · exact ⟨ht, by decide⟩
  refine wx_iload_n (i := 2) dX0_tellPull_6 rfl rfl ?_
  refine wx_iconst (v := 2) dX0_tellPull_7 (by decide) ?_
  refine wx_iadd dX0_tellPull_8 ?_
  refine wx_ialdG (j := e) dX0_tellPull_9 (zKin_20 _ (by omega)) (zKlt_20 _ (by omega)) ?_ ?_ ?_
  · (simp only [zl_2, zi_nI, zi_add, zi_sub, zi_mul] <;> first | done | exact congrArg zi (by omega))
  · exact ⟨he, by decide⟩
  refine wx_istore dX0_tellPull_10 (Nat.le_of_ble_eq_true rfl) rfl ?_
  refine wx_aload_n (i := 0) dX0_tellPull_12 rfl rfl ?_
  refine wx_getRG (k := 17) (t := 20) dX0_tellPull_13 zF_X0_20 zKo_17 rfl (Nat.le_of_ble_eq_true rfl) zRf_17_2 ?_
  refine wx_iload_n (i := 1) dX0_tellPull_16 rfl rfl ?_
  refine wx_aaldG (k := 20) dX0_tellPull_17 zK_20 (Nat.le_of_ble_eq_true rfl) rfl ?_ ?_
  · exact ⟨ht, by decide⟩
  refine wx_iload_n (i := 2) dX0_tellPull_18 rfl rfl ?_
  refine wx_iconst (v := 2) dX0_tellPull_19 (by decide) ?_
  refine wx_iadd dX0_tellPull_20 ?_
  refine wx_iload_n (i := 3) dX0_tellPull_21 rfl rfl ?_
  refine wx_iastG (j := e) dX0_tellPull_22 (zKin_20 _ (by omega)) (zKlt_20 _ (by omega)) ?_ ?_ ?_
  · (simp only [zl_2, zi_nI, zi_add, zi_sub, zi_mul] <;> first | done | exact congrArg zi (by omega))
  · exact ⟨he, by decide⟩
  refine wx_aload_n (i := 0) dX0_tellPull_23 rfl rfl ?_
  refine wx_dup dX0_tellPull_24 rfl ?_
  refine wx_getIG (k := 17) dX0_tellPull_25 zF_X0_45 zKo_17 rfl (Nat.le_of_ble_eq_true rfl) ?_
  refine wx_iconst (v := 1) dX0_tellPull_28 (by decide) ?_
  refine wx_iadd dX0_tellPull_29 ?_
  refine wx_putIG (k := 17) dX0_tellPull_30 zF_X0_45 zKo_17 rfl (Nat.le_of_ble_eq_true rfl) rfl rfl ?_
  refine wx_iload dX0_tellPull_33 rfl ?_
  refine wx_iret dX0_tellPull_35 rfl rfl (Or.inl rfl) ?_
  refine zk (P := fun q => K [.int (mm (20 + 1 + t) e)] (zG (zU (zU mm (20 + 1 + t) e v) 17 10 q))) hK ?_
  exact (congrArg (fun x => x + 1) (zU_off (fun q => by omega))).symm
theorem s_X0_pullOf {d : Nat} {K : List Value → zS → Prop} {mm : zM} {t : Nat} {x : Int} (ht : t < 3) (hx : -1000 ≤ x ∧ x ≤ 1000) (hK : K [.int (zPu mm t x)] (zG mm)) : wm (d + 1) mX0_pullOf [.ref 17, .int (nI t), .int (zi x)] (zG mm) K := by
  refine wm_of2 (L0 := [some (.ref 17), some (.int (nI t)), some (.int (zi x))]) zCm_X0_pullOf (Or.inl rfl) (Nat.le_of_ble_eq_true rfl) rfl ?_
  refine wx_iload_n (i := 2) dX0_pullOf_0 rfl rfl ?_
  refine wx_bipush (v := (-2)) dX0_pullOf_1 (by decide) ?_
  refine wx_iconst (v := 2) dX0_pullOf_3 (by decide) ?_
  refine wx_SN3 dX0_pullOf_4 zPS_X8_within zLn_X0_63 (Nat.le_of_ble_eq_true rfl) (Or.inr rfl) ?_
  refine s_X8_within _ _ _ ?_
  refine wx_r1 ?_
  refine wx_eqb (tgt := 23) dX0_pullOf_7 (by decide) (fun h7 => ?_) (fun h7 => ?_)
  · have h7 : ¬ (-2 ≤ x ∧ x ≤ 2) := fun q => h7 (by rw [zm_2, zi_le (by omega) (by omega), zl_2, zi_le (by omega) (by omega)]; exact q)
    refine wx_iconst (v := 0) dX0_pullOf_23 (by decide) ?_
    refine wx_iret dX0_pullOf_24 rfl rfl (Or.inl rfl) ?_
    first | exact zki hK (if_pos h7) | exact zki hK (if_neg h7)
  · have h7 : -2 ≤ x ∧ x ≤ 2 := by rw [zm_2, zi_le (by omega) (by omega), zl_2, zi_le (by omega) (by omega)] at h7; exact h7
    refine wx_aload_n (i := 0) dX0_pullOf_10 rfl rfl ?_
    refine wx_getRG (k := 17) (t := 20) dX0_pullOf_11 zF_X0_20 zKo_17 rfl (Nat.le_of_ble_eq_true rfl) zRf_17_2 ?_
    refine wx_iload_n (i := 1) dX0_pullOf_14 rfl rfl ?_
    refine wx_aaldG (k := 20) dX0_pullOf_15 zK_20 (Nat.le_of_ble_eq_true rfl) rfl ?_ ?_
    · exact ⟨ht, by decide⟩
    refine wx_iload_n (i := 2) dX0_pullOf_16 rfl rfl ?_
    refine wx_iconst (v := 2) dX0_pullOf_17 (by decide) ?_
    refine wx_iadd dX0_pullOf_18 ?_
    refine wx_ialdG (j := (x + 2).toNat) dX0_pullOf_19 (zKin_20 _ (by omega)) (zKlt_20 _ (by omega)) ?_ ?_ ?_
    · (simp only [zl_2, zi_nI, zi_add, zi_sub, zi_mul] <;> first | done | exact congrArg zi (by omega))
    · exact ⟨by omega, by decide⟩
    refine wx_goto (tgt := 24) dX0_pullOf_20 (by decide) ?_
    refine wx_iret dX0_pullOf_24 rfl rfl (Or.inl rfl) ?_
    first | exact zki hK (if_pos h7) | exact zki hK (if_neg h7)
/-- the sum of the first i -/
def zMs (f : Nat → Int32) : Nat → Int32
  | 0 => 0
  | i + 1 => zMs f i + f i
theorem lp_minutes {d : Nat} {K : List Value → zS → Prop} {mm : zM} {n : Nat} (hs : mm 17 8 = nI n) (hn : n ≤ 60) (hK : K [.int (zMs (mm 26) n)] (zG mm)) : ∀ c i : Nat, i + c = n → wx (d) mX0_minutesTogether 4 [some (.ref 17), some (.int (zMs (mm 26) i)), some (.int (nI i))] [] (zG mm) K := by
  intro c
  induction c with
  | zero =>
    intro i hi 
    refine wx_iload_n (i := 2) dX0_minutesTogether_4 rfl rfl ?_
    refine wx_aload_n (i := 0) dX0_minutesTogether_5 rfl rfl ?_
    refine wx_getIG (k := 17) dX0_minutesTogether_6 zF_X0_39 zKo_17 rfl (Nat.le_of_ble_eq_true rfl) ?_
    refine wx_icmp_ge (tgt := 27) dX0_minutesTogether_9 (by decide) (fun h9 => ?_) (fun h9 => ?_)
    · skip
      have hin : i = n := by omega
      subst hin
      refine wx_iload_n (i := 1) dX0_minutesTogether_27 rfl rfl ?_
      refine wx_iret dX0_minutesTogether_28 rfl rfl (Or.inl rfl) ?_
      exact hK
    · exact absurd (by show mm 17 8 ≤ nI i; rw [hs]; exact nI_le (by omega) (by omega)) h9 --end
  | succ c ih =>
    intro i hi 
    refine wx_iload_n (i := 2) dX0_minutesTogether_4 rfl rfl ?_
    refine wx_aload_n (i := 0) dX0_minutesTogether_5 rfl rfl ?_
    refine wx_getIG (k := 17) dX0_minutesTogether_6 zF_X0_39 zKo_17 rfl (Nat.le_of_ble_eq_true rfl) ?_
    refine wx_icmp_ge (tgt := 27) dX0_minutesTogether_9 (by decide) (fun h9 => ?_) (fun h9 => ?_)
    · exact absurd h9 (by show ¬ mm 17 8 ≤ nI i; rw [hs]; exact nI_ge (by omega) (by omega)) --end
    · skip
      refine wx_iload_n (i := 1) dX0_minutesTogether_12 rfl rfl ?_
      refine wx_aload_n (i := 0) dX0_minutesTogether_13 rfl rfl ?_
      refine wx_getRG (k := 17) (t := 26) dX0_minutesTogether_14 zF_X0_29 zKo_17 rfl (Nat.le_of_ble_eq_true rfl) zRf_17_5 ?_
      refine wx_iload_n (i := 2) dX0_minutesTogether_17 rfl rfl ?_
      refine wx_ialdG (k := 26) dX0_minutesTogether_18 zK_26 (Nat.le_of_ble_eq_true rfl) rfl ?_ ?_
      · exact ⟨by omega, by decide⟩
      refine wx_iadd dX0_minutesTogether_19 ?_
      refine wx_istore_n (i := 1) dX0_minutesTogether_20 rfl (Nat.le_of_ble_eq_true rfl) rfl ?_
      refine wx_inc (c := 1) dX0_minutesTogether_21 rfl (by decide) (Nat.le_of_ble_eq_true rfl) rfl ?_
      refine wx_goto (tgt := 4) dX0_minutesTogether_24 (by decide) ?_
      rw [nI_1]
      exact ih (i + 1) (by omega)
theorem s_X0_minutesTogether {d : Nat} {K : List Value → zS → Prop} {mm : zM} {n : Nat} (hs : mm 17 8 = nI n) (hn : n ≤ 60) (hK : K [.int (zMs (mm 26) n)] (zG mm)) : wm (d) mX0_minutesTogether [.ref 17] (zG mm) K := by
  refine wm_of2 (L0 := [some (.ref 17), none, none]) zCm_X0_minutesTogether (Or.inl rfl) (Nat.le_of_ble_eq_true rfl) rfl ?_
  refine wx_iconst (v := 0) dX0_minutesTogether_0 (by decide) ?_
  refine wx_istore_n (i := 1) dX0_minutesTogether_1 rfl (Nat.le_of_ble_eq_true rfl) rfl ?_
  refine wx_iconst (v := 0) dX0_minutesTogether_2 (by decide) ?_
  refine wx_istore_n (i := 2) dX0_minutesTogether_3 rfl (Nat.le_of_ble_eq_true rfl) rfl ?_
  exact lp_minutes hs hn hK n 0 (by omega)
/-- zone z + (e - 2) is there -/
def zTh (n z e : Nat) : Prop := 2 ≤ z + e ∧ z + e < n + 2
/-- a stroke would sink the zone at e -/
def zSk (mm : zM) (n z : Nat) (m : Int32) (p : Nat → Int32) (h : Nat → Int32) (e : Nat) : Prop := zTh n z e ∧ h (z + e - 2) - m * p e < -100000
theorem zTh_i {n z e : Nat} (hn : n ≤ 16) (hz : z < n) (he : e < 5) (x : Int32) (hx : x = nI n) : (0 ≤ nI z + zi ((e : Int) - 2) ∧ nI z + zi ((e : Int) - 2) ≤ x - 1) ↔ zTh n z e := by
  subst hx
  unfold zTh
  rw [zi_nI, zi_nI, zi_add, zl_1, zi_sub, zl_0, zi_le (by omega) (by omega), zi_le (by omega) (by omega)]
  omega
theorem zd_succ (e : Nat) : zi ((e : Int) - 2) + 1 = zi (((e + 1 : Nat) : Int) - 2) := by
  rw [zl_1, zi_add]
  exact congrArg zi (by omega)
theorem zPu_in (mm : zM) {t e : Nat} (he : e < 5) : zPu mm t ((e : Int) - 2) = mm (20 + 1 + t) e := by
  unfold zPu
  rw [if_pos (by omega)]
  exact congrArg _ (by omega)
theorem lp_sink {d : Nat} {K : List Value → zS → Prop} {mm : zM} {n z t : Nat} {m : Int32} (hn : 4 ≤ n ∧ n ≤ 16) (hz : z < n) (ht : t < 3) (hzn : mm 17 7 = nI n) (h1 : (∃ e, e < 5 ∧ zSk mm n z m (mm (20 + 1 + t)) (mm 18) e) → K [.int 1] (zG mm)) (h0 : ¬ (∃ e, e < 5 ∧ zSk mm n z m (mm (20 + 1 + t)) (mm 18) e) → K [.int 0] (zG mm)) : ∀ c i : Nat, i + c = 5 → (∀ e, e < i → ¬ zSk mm n z m (mm (20 + 1 + t)) (mm 18) e) → wx (d + 2) mX0_wouldSink 4 [some (.ref 17), some (.int (nI t)), some (.int (nI z)), some (.int m), some (.int (zi ((i : Int) - 2)))] [] (zG mm) K := by
  intro c
  induction c with
  | zero =>
    intro i hi hno
    refine wx_iload dX0_wouldSink_4 rfl ?_
    refine wx_iconst (v := 2) dX0_wouldSink_6 (by decide) ?_
    refine wx_icmp_gt (tgt := 53) dX0_wouldSink_7 (by decide) (fun h7 => ?_) (fun h7 => ?_)
    · skip
      refine wx_iconst (v := 0) dX0_wouldSink_53 (by decide) ?_
      refine wx_iret dX0_wouldSink_54 rfl rfl (Or.inl rfl) (h0 (fun q => ?_))
      obtain ⟨e, he, h⟩ := q
      exact hno e (by omega) h
    · exact absurd (by rw [zl_2]; exact (zi_lt (by omega) (by omega)).mpr (by omega)) h7 --end
  | succ c ih =>
    intro i hi hno
    have he : i < 5 := by omega
    refine wx_iload dX0_wouldSink_4 rfl ?_
    refine wx_iconst (v := 2) dX0_wouldSink_6 (by decide) ?_
    refine wx_icmp_gt (tgt := 53) dX0_wouldSink_7 (by decide) (fun h7 => ?_) (fun h7 => ?_)
    · exact absurd h7 (by rw [zl_2, zi_lt (by omega) (by omega)]; omega) --end
    · skip
      refine wx_aload_n (i := 0) dX0_wouldSink_10 rfl rfl ?_
      refine wx_iload_n (i := 2) dX0_wouldSink_11 rfl rfl ?_
      refine wx_iload dX0_wouldSink_12 rfl ?_
      refine wx_iadd dX0_wouldSink_14 ?_
      refine wx_V1 dX0_wouldSink_15 zPV_X0_isThere zLk_X0_67 rfl (Nat.le_of_ble_eq_true rfl) (Nat.le_of_ble_eq_true rfl) (Or.inr rfl) ?_
      refine s_X0_isThere _ ?_
      refine wx_r1 ?_
      refine wx_eqb (tgt := 47) dX0_wouldSink_18 (by decide) (fun h18 => ?_) (fun h18 => ?_)
      · rw [zTh_i hn.2 hz he _ hzn] at h18
        refine wx_inc (c := 1) dX0_wouldSink_47 rfl (by decide) (Nat.le_of_ble_eq_true rfl) rfl ?_
        refine wx_goto (tgt := 4) dX0_wouldSink_50 (by decide) ?_
        rw [zd_succ]
        refine ih (i + 1) (by omega) (fun e h => ?_)
        rcases Nat.lt_or_ge e i with q | q
        · exact hno e q
        · rw [show e = i by omega]
          first | exact hs | exact fun w => h18 w.1
      · rw [zTh_i hn.2 hz he _ hzn] at h18
        have hth : zTh n z i := h18
        unfold zTh at h18
        refine wx_aload_n (i := 0) dX0_wouldSink_21 rfl rfl ?_
        refine wx_getRG (k := 17) (t := 18) dX0_wouldSink_22 zF_X0_9 zKo_17 rfl (Nat.le_of_ble_eq_true rfl) zRf_17_0 ?_
        refine wx_iload_n (i := 2) dX0_wouldSink_25 rfl rfl ?_
        refine wx_iload dX0_wouldSink_26 rfl ?_
        refine wx_iadd dX0_wouldSink_28 ?_
        refine wx_ialdG (k := 18) (j := z + i - 2) dX0_wouldSink_29 zK_18 (Nat.le_of_ble_eq_true rfl) ?_ ?_ ?_
        · (simp only [zi_nI, zi_add] <;> first | done | exact congrArg zi (by omega))
        · exact ⟨by omega, by decide⟩
        refine wx_iload_n (i := 3) dX0_wouldSink_30 rfl rfl ?_
        refine wx_aload_n (i := 0) dX0_wouldSink_31 rfl rfl ?_
        refine wx_iload_n (i := 1) dX0_wouldSink_32 rfl rfl ?_
        refine wx_iload dX0_wouldSink_33 rfl ?_
        refine wx_V2 dX0_wouldSink_35 zPV_X0_pullOf zLk_X0_71 rfl (Nat.le_of_ble_eq_true rfl) (Nat.le_of_ble_eq_true rfl) (Or.inr rfl) ?_
        refine s_X0_pullOf ht (by omega) ?_
        rw [zPu_in mm he]
        refine wx_r1 ?_
        refine wx_imul dX0_wouldSink_38 ?_
        refine wx_isub dX0_wouldSink_39 ?_
        refine wx_ldc dX0_wouldSink_40 zKc_X0_75 ?_
        refine wx_icmp_ge (tgt := 47) dX0_wouldSink_42 (by decide) (fun h42 => ?_) (fun h42 => ?_)
        · have hs : ¬ zSk mm n z m (mm (20 + 1 + t)) (mm 18) i := fun q => z_ltn q.2 h42
          refine wx_inc (c := 1) dX0_wouldSink_47 rfl (by decide) (Nat.le_of_ble_eq_true rfl) rfl ?_
          refine wx_goto (tgt := 4) dX0_wouldSink_50 (by decide) ?_
          rw [zd_succ]
          refine ih (i + 1) (by omega) (fun e h => ?_)
          rcases Nat.lt_or_ge e i with q | q
          · exact hno e q
          · rw [show e = i by omega]
            first | exact hs | exact fun w => h18 w.1
        · skip
          refine wx_iconst (v := 1) dX0_wouldSink_45 (by decide) ?_
          refine wx_iret dX0_wouldSink_46 rfl rfl (Or.inl rfl) ?_
          exact h1 ⟨i, he, hth, z_nle h42⟩
theorem s_X0_wouldSink {d : Nat} {K : List Value → zS → Prop} {mm : zM} {n z t : Nat} {m : Int32} (hn : 4 ≤ n ∧ n ≤ 16) (hz : z < n) (ht : t < 3) (hzn : mm 17 7 = nI n) (h1 : (∃ e, e < 5 ∧ zSk mm n z m (mm (20 + 1 + t)) (mm 18) e) → K [.int 1] (zG mm)) (h0 : ¬ (∃ e, e < 5 ∧ zSk mm n z m (mm (20 + 1 + t)) (mm 18) e) → K [.int 0] (zG mm)) : wm (d + 2) mX0_wouldSink [.ref 17, .int (nI t), .int (nI z), .int m] (zG mm) K := by
  refine wm_of2 (L0 := [some (.ref 17), some (.int (nI t)), some (.int (nI z)), some (.int m), none]) zCm_X0_wouldSink (Or.inl rfl) (Nat.le_of_ble_eq_true rfl) rfl ?_
  refine wx_bipush (v := (-2)) dX0_wouldSink_0 (by decide) ?_
  refine wx_istore dX0_wouldSink_2 (Nat.le_of_ble_eq_true rfl) rfl ?_
  exact lp_sink hn hz ht hzn h1 h0 5 0 (by omega) (fun e h => absurd h (Nat.not_lt_zero e))
theorem wx_weak {d : Nat} {M : zMt} {pc : Nat} {L : List (Option Value)} {st : List Value} {σ : zS} {K : List Value → zS → Prop} (i : Nat) (h : wx d M pc (L.set i none) st σ K) : wx d M pc L st σ K := by
  intro X p l e R s m args below meth c Q nn hC hn hr H locs ls hW hS hl
  refine h X p l e R s m args below meth c Q nn hC hn hr H locs ls hW hS ⟨hl.1, hl.2.1, fun q hq => hl.2.2 q ?_⟩
  obtain ⟨v, h1, h2⟩ := zPairs_mem hq
  have e : L[q.1]? = some (some v) := by
    by_cases z : q.1 = i
    · rw [z] at h1
      have hlt : i < L.length := by have := (List.getElem?_eq_some_iff.mp h1).1; rwa [List.length_set] at this
      rw [List.getElem?_set_self hlt] at h1
      cases h1
    · rw [List.getElem?_set_ne (fun w => z w.symm)] at h1
      exact h1
  have := zPairs_in (X := X) e
  rw [← h2] at this
  exact this
theorem zkm {K : List Value → zS → Prop} {r : List Value} {a b : zM} (h : K r (zG a)) (e : a = b) : K r (zG b) := e ▸ h
/-- heights when the first e places of a stroke are done -/
def zHt (n z : Nat) (m : Int32) (p h : Nat → Int32) (e : Nat) : Nat → Int32 := fun i => if i < n ∧ z ≤ i + 2 ∧ i + 2 < z + e then h i - m * p (i + 2 - z) else h i
/-- what a stroke takes at e -/
noncomputable def zTk (n z : Nat) (m : Int32) (p : Nat → Int32) (e : Nat) : Int32 := if 2 ≤ z + e ∧ z + e < n + 2 then m * p e else 0
noncomputable def zSt (mm : zM) (ck ch n z : Nat) (m : Int32) (p : Nat → Int32) (e : Nat) : zM := va_up (va_up mm ck (fun j => if j < e then zTk n z m p j else mm ck j)) ch (zHt n z m p (mm ch) e)
theorem zHt_0 (n z : Nat) (m : Int32) (p h : Nat → Int32) : zHt n z m p h 0 = h := by
  funext i
  unfold zHt
  rw [if_neg (by omega)]
theorem zSt_0 (mm : zM) (ck ch n z : Nat) (m : Int32) (p : Nat → Int32) (hne : ck ≠ ch) : zSt mm ck ch n z m p 0 = mm := by
  funext a
  unfold zSt
  rw [zHt_0]
  by_cases h : a = ch
  · subst h; simp [va_up]
  · by_cases g : a = ck
    · subst g; simp [va_up, h]
    · simp [va_up, h, g]
theorem zHt_succ {n z e : Nat} {m : Int32} {p h : Nat → Int32} (hth : zTh n z e) : upd (zHt n z m p h e) (z + e - 2) (zHt n z m p h e (z + e - 2) - m * p e) = zHt n z m p h (e + 1) := by
  unfold zTh at hth
  funext i
  unfold upd zHt
  by_cases q : i = z + e - 2
  · rw [if_pos q, if_neg (by omega), if_pos (by omega), q]
    rw [show z + e - 2 + 2 - z = e by omega]
  · rw [if_neg q]
    by_cases g : i < n ∧ z ≤ i + 2 ∧ i + 2 < z + e
    · rw [if_pos g, if_pos (by omega)]
    · rw [if_neg g, if_neg (by omega)]
theorem zHt_same {n z e : Nat} {m : Int32} {p h : Nat → Int32} (hth : ¬ zTh n z e) : zHt n z m p h e = zHt n z m p h (e + 1) := by
  unfold zTh at hth
  funext i
  unfold zHt
  by_cases g : i < n ∧ z ≤ i + 2 ∧ i + 2 < z + e
  · rw [if_pos g, if_pos (by omega)]
  · rw [if_neg g, if_neg (by omega)]
theorem zSt_T {mm : zM} {ck ch n z e : Nat} {m : Int32} {p : Nat → Int32} (hne : ck ≠ ch) (hth : zTh n z e) : zU (zU (zSt mm ck ch n z m p e) ck e (m * p e)) ch (z + e - 2) (zSt mm ck ch n z m p e ch (z + e - 2) - m * p e) = zSt mm ck ch n z m p (e + 1) := by
  funext a
  by_cases h : a = ch
  · subst h
    have e1 : zSt mm ck a n z m p e a = zHt n z m p (mm a) e := by simp [zSt, va_up]
    have e2 : zSt mm ck a n z m p (e + 1) a = zHt n z m p (mm a) (e + 1) := by simp [zSt, va_up]
    rw [zU_at, zU_ne (Ne.symm hne), e1, e2, zHt_succ hth]
  · rw [zU_ne h]
    by_cases g : a = ck
    · subst g
      rw [zU_at]
      have e1 : ∀ q, zSt mm a ch n z m p q a = fun j => if j < q then zTk n z m p j else mm a j := fun q => by simp [zSt, va_up, h]
      rw [e1, e1]
      funext j
      unfold upd
      by_cases q : j = e
      · subst q
        rw [if_pos rfl, if_pos (by omega)]
        unfold zTk
        rw [if_pos (show 2 ≤ z + j ∧ z + j < n + 2 from hth)]
      · rw [if_neg q]
        show (if j < e then zTk n z m p j else mm a j) = _
        by_cases w : j < e
        · rw [if_pos w, if_pos (by omega)]
        · rw [if_neg w, if_neg (by omega)]
    · rw [zU_ne g]
      simp [zSt, va_up, h, g]
theorem zSt_F {mm : zM} {ck ch n z e : Nat} {m : Int32} {p : Nat → Int32} (hne : ck ≠ ch) (hth : ¬ zTh n z e) : zU (zSt mm ck ch n z m p e) ck e 0 = zSt mm ck ch n z m p (e + 1) := by
  funext a
  by_cases h : a = ch
  · subst h
    rw [zU_ne (Ne.symm hne)]
    simp only [zSt, va_up, if_true]
    exact zHt_same hth
  · by_cases g : a = ck
    · subst g
      rw [zU_at]
      have e1 : ∀ q, zSt mm a ch n z m p q a = fun j => if j < q then zTk n z m p j else mm a j := fun q => by simp [zSt, va_up, h]
      rw [e1, e1]
      funext j
      unfold upd
      by_cases q : j = e
      · subst q
        rw [if_pos rfl, if_pos (by omega)]
        unfold zTk
        rw [if_neg (show ¬ (2 ≤ z + j ∧ z + j < n + 2) from hth)]
      · rw [if_neg q]
        show (if j < e then zTk n z m p j else mm a j) = _
        by_cases w : j < e
        · rw [if_pos w, if_pos (by omega)]
        · rw [if_neg w, if_neg (by omega)]
    · rw [zU_ne g]
      simp [zSt, va_up, h, g]
theorem zSt_off {mm : zM} {ck ch n z e a : Nat} {m : Int32} {p : Nat → Int32} (h1 : a ≠ ck) (h2 : a ≠ ch) : zSt mm ck ch n z m p e a = mm a := by simp [zSt, va_up, h1, h2]
theorem zSt_ch {mm : zM} {ck ch n z e : Nat} {m : Int32} {p : Nat → Int32} : zSt mm ck ch n z m p e ch = zHt n z m p (mm ch) e := by simp [zSt, va_up]
theorem lp_do {d : Nat} {K : List Value → zS → Prop} {mm : zM} {n z t : Nat} {m : Int32} (hn : 4 ≤ n ∧ n ≤ 16) (hz : z < n) (ht : t < 3) (hzn : mm 17 7 = nI n) {k : Nat} (hk : k < 60) (hks : mm 17 8 = nI k) (hx : wx (d + 2) mX0_doStroke 93 [some (.ref 17), some (.int (nI t)), some (.int (nI z)), some (.int m), none, none] [] (zG (zSt mm (27 + 1 + k) 18 n z m (mm (20 + 1 + t)) 5)) K) : ∀ c i : Nat, i + c = 5 → wx (d + 2) mX0_doStroke 14 [some (.ref 17), some (.int (nI t)), some (.int (nI z)), some (.int m), some (.int (zi ((i : Int) - 2))), none] [] (zG (zSt mm (27 + 1 + k) 18 n z m (mm (20 + 1 + t)) i)) K := by
  intro c
  induction c with
  | zero =>
    intro i hi
    have hin : i = 5 := by omega
    subst hin
    refine wx_iload dX0_doStroke_14 rfl ?_
    refine wx_iconst (v := 2) dX0_doStroke_16 (by decide) ?_
    refine wx_icmp_gt (tgt := 93) dX0_doStroke_17 (by decide) (fun h17 => ?_) (fun h17 => ?_)
    · skip
      refine wx_weak 4 ?_
      exact hx
    · exact absurd (by rw [zl_2]; exact (zi_lt (by omega) (by omega)).mpr (by omega)) h17 --end
  | succ c ih =>
    intro i hi
    have he : i < 5 := by omega
    have ep : zSt mm (27 + 1 + k) 18 n z m (mm (20 + 1 + t)) i (20 + 1 + t) = mm (20 + 1 + t) := zSt_off (by omega) (by omega)
    have e17 : zSt mm (27 + 1 + k) 18 n z m (mm (20 + 1 + t)) i 17 = mm 17 := zSt_off (by omega) (by omega)
    have hzn2 : zSt mm (27 + 1 + k) 18 n z m (mm (20 + 1 + t)) i 17 7 = nI n := by rw [e17]; exact hzn
    have hks2 : zSt mm (27 + 1 + k) 18 n z m (mm (20 + 1 + t)) i 17 8 = nI k := by rw [e17]; exact hks
    refine wx_iload dX0_doStroke_14 rfl ?_
    refine wx_iconst (v := 2) dX0_doStroke_16 (by decide) ?_
    refine wx_icmp_gt (tgt := 93) dX0_doStroke_17 (by decide) (fun h17 => ?_) (fun h17 => ?_)
    · exact absurd h17 (by rw [zl_2, zi_lt (by omega) (by omega)]; omega) --end
    · skip
      refine wx_aload_n (i := 0) dX0_doStroke_20 rfl rfl ?_
      refine wx_iload_n (i := 2) dX0_doStroke_21 rfl rfl ?_
      refine wx_iload dX0_doStroke_22 rfl ?_
      refine wx_iadd dX0_doStroke_24 ?_
      refine wx_V1 dX0_doStroke_25 zPV_X0_isThere zLk_X0_67 rfl (Nat.le_of_ble_eq_true rfl) (Nat.le_of_ble_eq_true rfl) (Or.inr rfl) ?_
      refine s_X0_isThere _ ?_
      refine wx_r1 ?_
      refine wx_eqb (tgt := 43) dX0_doStroke_28 (by decide) (fun h28 => ?_) (fun h28 => ?_)
      · rw [zTh_i hn.2 hz he _ hzn2] at h28
        refine wx_iconst (v := 0) dX0_doStroke_43 (by decide) ?_
        refine wx_istore dX0_doStroke_44 (Nat.le_of_ble_eq_true rfl) rfl ?_
        refine wx_aload_n (i := 0) dX0_doStroke_46 rfl rfl ?_
        refine wx_getRG (k := 17) (t := 27) dX0_doStroke_47 zF_X0_32 zKo_17 rfl (Nat.le_of_ble_eq_true rfl) zRf_17_6 ?_
        refine wx_aload_n (i := 0) dX0_doStroke_50 rfl rfl ?_
        refine wx_getIG (k := 17) dX0_doStroke_51 zF_X0_39 zKo_17 rfl (Nat.le_of_ble_eq_true rfl) ?_
        refine wx_aaldG (k := 27) (j := k) dX0_doStroke_54 zK_27 (Nat.le_of_ble_eq_true rfl) ?_ ?_ ?_
        · exact hks2
        · exact ⟨hk, by decide⟩
        refine wx_iload dX0_doStroke_55 rfl ?_
        refine wx_iconst (v := 2) dX0_doStroke_57 (by decide) ?_
        refine wx_iadd dX0_doStroke_58 ?_
        refine wx_iload dX0_doStroke_59 rfl ?_
        refine wx_iastG (j := i) dX0_doStroke_61 (zKin_27 _ (by omega)) (zKlt_27 _ (by omega)) ?_ ?_ ?_
        · (simp only [zl_2, zi_nI, zi_add, zi_sub] <;> first | done | exact congrArg zi (by omega))
        · exact ⟨by omega, by decide⟩
        refine wx_aload_n (i := 0) dX0_doStroke_62 rfl rfl ?_
        refine wx_iload_n (i := 2) dX0_doStroke_63 rfl rfl ?_
        refine wx_iload dX0_doStroke_64 rfl ?_
        refine wx_iadd dX0_doStroke_66 ?_
        refine wx_V1 dX0_doStroke_67 zPV_X0_isThere zLk_X0_67 rfl (Nat.le_of_ble_eq_true rfl) (Nat.le_of_ble_eq_true rfl) (Or.inr rfl) ?_
        refine s_X0_isThere _ ?_
        refine wx_r1 ?_
        refine wx_eqb (tgt := 87) dX0_doStroke_70 (by decide) (fun h70 => ?_) (fun h70 => ?_)
        · rw [zTh_i hn.2 hz he _ (show zU (zSt mm (27 + 1 + k) 18 n z m (mm (20 + 1 + t)) i) (27 + 1 + k) i _ 17 7 = nI n by rw [zU_ne (by omega)]; exact hzn2)] at h70
          refine wx_inc (c := 1) dX0_doStroke_87 rfl (by decide) (Nat.le_of_ble_eq_true rfl) rfl ?_
          refine wx_goto (tgt := 14) dX0_doStroke_90 (by decide) ?_
          refine wx_weak 5 ?_
          rw [zd_succ]
          first
            | exact absurd hth h70
            | exact absurd h70 h28
            | (rw [show zU (zSt mm (27 + 1 + k) 18 n z m (mm (20 + 1 + t)) i) (27 + 1 + k) i (m * mm (20 + 1 + t) i) 18 (z + i - 2) = zSt mm (27 + 1 + k) 18 n z m (mm (20 + 1 + t)) i 18 (z + i - 2) from congrFun (zU_ne (by omega)) _, zSt_T (by omega) hth]
               exact ih (i + 1) (by omega))
            | (rw [zSt_F (by omega) h28]
               exact ih (i + 1) (by omega))
            | exact (0 : Nat)
        · rw [zTh_i hn.2 hz he _ (show zU (zSt mm (27 + 1 + k) 18 n z m (mm (20 + 1 + t)) i) (27 + 1 + k) i _ 17 7 = nI n by rw [zU_ne (by omega)]; exact hzn2)] at h70
          have hz70 : 2 ≤ z + i ∧ z + i < n + 2 := h70
          refine wx_aload_n (i := 0) dX0_doStroke_73 rfl rfl ?_
          refine wx_getRG (k := 17) (t := 18) dX0_doStroke_74 zF_X0_9 zKo_17 rfl (Nat.le_of_ble_eq_true rfl) zRf_17_0 ?_
          refine wx_iload_n (i := 2) dX0_doStroke_77 rfl rfl ?_
          refine wx_iload dX0_doStroke_78 rfl ?_
          refine wx_iadd dX0_doStroke_80 ?_
          refine wx_dup2 dX0_doStroke_81 rfl rfl ?_
          refine wx_ialdG (k := 18) (j := z + i - 2) dX0_doStroke_82 zK_18 (Nat.le_of_ble_eq_true rfl) ?_ ?_ ?_
          · (simp only [zi_nI, zi_add] <;> first | done | exact congrArg zi (by omega))
          · exact ⟨by omega, by decide⟩
          refine wx_iload dX0_doStroke_83 rfl ?_
          refine wx_isub dX0_doStroke_85 ?_
          refine wx_iastG (k := 18) (j := z + i - 2) dX0_doStroke_86 zK_18 (Nat.le_of_ble_eq_true rfl) ?_ ?_ ?_
          · (simp only [zi_nI, zi_add] <;> first | done | exact congrArg zi (by omega))
          · exact ⟨by omega, by decide⟩
          refine wx_inc (c := 1) dX0_doStroke_87 rfl (by decide) (Nat.le_of_ble_eq_true rfl) rfl ?_
          refine wx_goto (tgt := 14) dX0_doStroke_90 (by decide) ?_
          refine wx_weak 5 ?_
          rw [zd_succ]
          first
            | exact absurd hth h70
            | exact absurd h70 h28
            | (rw [show zU (zSt mm (27 + 1 + k) 18 n z m (mm (20 + 1 + t)) i) (27 + 1 + k) i (m * mm (20 + 1 + t) i) 18 (z + i - 2) = zSt mm (27 + 1 + k) 18 n z m (mm (20 + 1 + t)) i 18 (z + i - 2) from congrFun (zU_ne (by omega)) _, zSt_T (by omega) hth]
               exact ih (i + 1) (by omega))
            | (rw [zSt_F (by omega) h28]
               exact ih (i + 1) (by omega))
            | exact (0 : Nat)
      · rw [zTh_i hn.2 hz he _ hzn2] at h28
        have hth : zTh n z i := h28
        refine wx_iload_n (i := 3) dX0_doStroke_31 rfl rfl ?_
        refine wx_aload_n (i := 0) dX0_doStroke_32 rfl rfl ?_
        refine wx_iload_n (i := 1) dX0_doStroke_33 rfl rfl ?_
        refine wx_iload dX0_doStroke_34 rfl ?_
        refine wx_V2 dX0_doStroke_36 zPV_X0_pullOf zLk_X0_71 rfl (Nat.le_of_ble_eq_true rfl) (Nat.le_of_ble_eq_true rfl) (Or.inr rfl) ?_
        refine s_X0_pullOf ht (by omega) ?_
        rw [zPu_in _ he, ep]
        refine wx_r1 ?_
        refine wx_imul dX0_doStroke_39 ?_
        refine wx_goto (tgt := 44) dX0_doStroke_40 (by decide) ?_
        refine wx_istore dX0_doStroke_44 (Nat.le_of_ble_eq_true rfl) rfl ?_
        refine wx_aload_n (i := 0) dX0_doStroke_46 rfl rfl ?_
        refine wx_getRG (k := 17) (t := 27) dX0_doStroke_47 zF_X0_32 zKo_17 rfl (Nat.le_of_ble_eq_true rfl) zRf_17_6 ?_
        refine wx_aload_n (i := 0) dX0_doStroke_50 rfl rfl ?_
        refine wx_getIG (k := 17) dX0_doStroke_51 zF_X0_39 zKo_17 rfl (Nat.le_of_ble_eq_true rfl) ?_
        refine wx_aaldG (k := 27) (j := k) dX0_doStroke_54 zK_27 (Nat.le_of_ble_eq_true rfl) ?_ ?_ ?_
        · exact hks2
        · exact ⟨hk, by decide⟩
        refine wx_iload dX0_doStroke_55 rfl ?_
        refine wx_iconst (v := 2) dX0_doStroke_57 (by decide) ?_
        refine wx_iadd dX0_doStroke_58 ?_
        refine wx_iload dX0_doStroke_59 rfl ?_
        refine wx_iastG (j := i) dX0_doStroke_61 (zKin_27 _ (by omega)) (zKlt_27 _ (by omega)) ?_ ?_ ?_
        · (simp only [zl_2, zi_nI, zi_add, zi_sub] <;> first | done | exact congrArg zi (by omega))
        · exact ⟨by omega, by decide⟩
        refine wx_aload_n (i := 0) dX0_doStroke_62 rfl rfl ?_
        refine wx_iload_n (i := 2) dX0_doStroke_63 rfl rfl ?_
        refine wx_iload dX0_doStroke_64 rfl ?_
        refine wx_iadd dX0_doStroke_66 ?_
        refine wx_V1 dX0_doStroke_67 zPV_X0_isThere zLk_X0_67 rfl (Nat.le_of_ble_eq_true rfl) (Nat.le_of_ble_eq_true rfl) (Or.inr rfl) ?_
        refine s_X0_isThere _ ?_
        refine wx_r1 ?_
        refine wx_eqb (tgt := 87) dX0_doStroke_70 (by decide) (fun h70 => ?_) (fun h70 => ?_)
        · rw [zTh_i hn.2 hz he _ (show zU (zSt mm (27 + 1 + k) 18 n z m (mm (20 + 1 + t)) i) (27 + 1 + k) i _ 17 7 = nI n by rw [zU_ne (by omega)]; exact hzn2)] at h70
          refine wx_inc (c := 1) dX0_doStroke_87 rfl (by decide) (Nat.le_of_ble_eq_true rfl) rfl ?_
          refine wx_goto (tgt := 14) dX0_doStroke_90 (by decide) ?_
          refine wx_weak 5 ?_
          rw [zd_succ]
          first
            | exact absurd hth h70
            | exact absurd h70 h28
            | (rw [show zU (zSt mm (27 + 1 + k) 18 n z m (mm (20 + 1 + t)) i) (27 + 1 + k) i (m * mm (20 + 1 + t) i) 18 (z + i - 2) = zSt mm (27 + 1 + k) 18 n z m (mm (20 + 1 + t)) i 18 (z + i - 2) from congrFun (zU_ne (by omega)) _, zSt_T (by omega) hth]
               exact ih (i + 1) (by omega))
            | (rw [zSt_F (by omega) h28]
               exact ih (i + 1) (by omega))
            | exact (0 : Nat)
        · rw [zTh_i hn.2 hz he _ (show zU (zSt mm (27 + 1 + k) 18 n z m (mm (20 + 1 + t)) i) (27 + 1 + k) i _ 17 7 = nI n by rw [zU_ne (by omega)]; exact hzn2)] at h70
          have hz70 : 2 ≤ z + i ∧ z + i < n + 2 := h70
          refine wx_aload_n (i := 0) dX0_doStroke_73 rfl rfl ?_
          refine wx_getRG (k := 17) (t := 18) dX0_doStroke_74 zF_X0_9 zKo_17 rfl (Nat.le_of_ble_eq_true rfl) zRf_17_0 ?_
          refine wx_iload_n (i := 2) dX0_doStroke_77 rfl rfl ?_
          refine wx_iload dX0_doStroke_78 rfl ?_
          refine wx_iadd dX0_doStroke_80 ?_
          refine wx_dup2 dX0_doStroke_81 rfl rfl ?_
          refine wx_ialdG (k := 18) (j := z + i - 2) dX0_doStroke_82 zK_18 (Nat.le_of_ble_eq_true rfl) ?_ ?_ ?_
          · (simp only [zi_nI, zi_add] <;> first | done | exact congrArg zi (by omega))
          · exact ⟨by omega, by decide⟩
          refine wx_iload dX0_doStroke_83 rfl ?_
          refine wx_isub dX0_doStroke_85 ?_
          refine wx_iastG (k := 18) (j := z + i - 2) dX0_doStroke_86 zK_18 (Nat.le_of_ble_eq_true rfl) ?_ ?_ ?_
          · (simp only [zi_nI, zi_add] <;> first | done | exact congrArg zi (by omega))
          · exact ⟨by omega, by decide⟩
          refine wx_inc (c := 1) dX0_doStroke_87 rfl (by decide) (Nat.le_of_ble_eq_true rfl) rfl ?_
          refine wx_goto (tgt := 14) dX0_doStroke_90 (by decide) ?_
          refine wx_weak 5 ?_
          rw [zd_succ]
          first
            | exact absurd hth h70
            | exact absurd h70 h28
            | (rw [show zU (zSt mm (27 + 1 + k) 18 n z m (mm (20 + 1 + t)) i) (27 + 1 + k) i (m * mm (20 + 1 + t) i) 18 (z + i - 2) = zSt mm (27 + 1 + k) 18 n z m (mm (20 + 1 + t)) i 18 (z + i - 2) from congrFun (zU_ne (by omega)) _, zSt_T (by omega) hth]
               exact ih (i + 1) (by omega))
            | (rw [zSt_F (by omega) h28]
               exact ih (i + 1) (by omega))
            | exact (0 : Nat)
/-- the cells behind a stroke done as the k-th -/
noncomputable def zDo (mm : zM) (n z t : Nat) (m : Int32) (k : Nat) : zM := zU (zU (zU (zU (zU (zSt mm (27 + 1 + k) 18 n z m (mm (20 + 1 + t)) 5) 24 k (nI t)) 25 k (nI z)) 26 k m) 17 8 (nI (k + 1))) 17 10 (mm 17 10 + 1)
theorem lp_do2 {d : Nat} {K : List Value → zS → Prop} {mm : zM} {n z t : Nat} {m : Int32} (hn : 4 ≤ n ∧ n ≤ 16) (hz : z < n) (ht : t < 3) (hzn : mm 17 7 = nI n) {k : Nat} (hk : k < 60) (hks : mm 17 8 = nI k) (hK : K [] (zG (zDo mm n z t m k))) : wx (d + 2) mX0_doStroke 93 [some (.ref 17), some (.int (nI t)), some (.int (nI z)), some (.int m), none, none] [] (zG (zSt mm (27 + 1 + k) 18 n z m (mm (20 + 1 + t)) 5)) K := by
  have e17 : ∀ j, zSt mm (27 + 1 + k) 18 n z m (mm (20 + 1 + t)) 5 17 j = mm 17 j := fun j => congrFun (zSt_off (by omega) (by omega)) j
  have f1 : zSt mm (27 + 1 + k) 18 n z m (mm (20 + 1 + t)) 5 17 8 = nI k := (e17 8).trans hks
  refine wx_aload_n (i := 0) dX0_doStroke_93 rfl rfl ?_
  refine wx_getRG (k := 17) (t := 24) dX0_doStroke_94 zF_X0_23 zKo_17 rfl (Nat.le_of_ble_eq_true rfl) zRf_17_3 ?_
  refine wx_aload_n (i := 0) dX0_doStroke_97 rfl rfl ?_
  refine wx_getIG (k := 17) dX0_doStroke_98 zF_X0_39 zKo_17 rfl (Nat.le_of_ble_eq_true rfl) ?_
  refine wx_iload_n (i := 1) dX0_doStroke_101 rfl rfl ?_
  refine wx_iastG (k := 24) (j := k) dX0_doStroke_102 zK_24 (Nat.le_of_ble_eq_true rfl) ?_ ?_ ?_
  · exact f1
  · exact ⟨hk, by decide⟩
  refine wx_aload_n (i := 0) dX0_doStroke_103 rfl rfl ?_
  refine wx_getRG (k := 17) (t := 25) dX0_doStroke_104 zF_X0_26 zKo_17 rfl (Nat.le_of_ble_eq_true rfl) zRf_17_4 ?_
  refine wx_aload_n (i := 0) dX0_doStroke_107 rfl rfl ?_
  refine wx_getIG (k := 17) dX0_doStroke_108 zF_X0_39 zKo_17 rfl (Nat.le_of_ble_eq_true rfl) ?_
  refine wx_iload_n (i := 2) dX0_doStroke_111 rfl rfl ?_
  refine wx_iastG (k := 25) (j := k) dX0_doStroke_112 zK_25 (Nat.le_of_ble_eq_true rfl) ?_ ?_ ?_
  · (simp only [zU, va_up, Nat.reduceEqDiff, if_false]; exact f1)
  · exact ⟨hk, by decide⟩
  refine wx_aload_n (i := 0) dX0_doStroke_113 rfl rfl ?_
  refine wx_getRG (k := 17) (t := 26) dX0_doStroke_114 zF_X0_29 zKo_17 rfl (Nat.le_of_ble_eq_true rfl) zRf_17_5 ?_
  refine wx_aload_n (i := 0) dX0_doStroke_117 rfl rfl ?_
  refine wx_getIG (k := 17) dX0_doStroke_118 zF_X0_39 zKo_17 rfl (Nat.le_of_ble_eq_true rfl) ?_
  refine wx_iload_n (i := 3) dX0_doStroke_121 rfl rfl ?_
  refine wx_iastG (k := 26) (j := k) dX0_doStroke_122 zK_26 (Nat.le_of_ble_eq_true rfl) ?_ ?_ ?_
  · (simp only [zU, va_up, Nat.reduceEqDiff, if_false]; exact f1)
  · exact ⟨hk, by decide⟩
  refine wx_aload_n (i := 0) dX0_doStroke_123 rfl rfl ?_
  refine wx_dup dX0_doStroke_124 rfl ?_
  refine wx_getIG (k := 17) dX0_doStroke_125 zF_X0_39 zKo_17 rfl (Nat.le_of_ble_eq_true rfl) ?_
  refine wx_iconst (v := 1) dX0_doStroke_128 (by decide) ?_
  refine wx_iadd dX0_doStroke_129 ?_
  refine wx_putIG (k := 17) dX0_doStroke_130 zF_X0_39 zKo_17 rfl (Nat.le_of_ble_eq_true rfl) rfl rfl ?_
  refine wx_aload_n (i := 0) dX0_doStroke_133 rfl rfl ?_
  refine wx_dup dX0_doStroke_134 rfl ?_
  refine wx_getIG (k := 17) dX0_doStroke_135 zF_X0_45 zKo_17 rfl (Nat.le_of_ble_eq_true rfl) ?_
  refine wx_iconst (v := 1) dX0_doStroke_138 (by decide) ?_
  refine wx_iadd dX0_doStroke_139 ?_
  refine wx_putIG (k := 17) dX0_doStroke_140 zF_X0_45 zKo_17 rfl (Nat.le_of_ble_eq_true rfl) rfl rfl ?_
  refine wx_vret dX0_doStroke_143 rfl (Or.inl rfl) ?_
  refine zkm hK ?_
  unfold zDo
  have g1 : ∀ (a b : zM), a 17 8 = nI k → a 17 10 = mm 17 10 → zU (zU a 17 8 (nI (k + 1))) 17 10 (mm 17 10 + 1) = zU (zU a 17 8 (a 17 8 + 1)) 17 10 (zU a 17 8 (a 17 8 + 1) 17 10 + 1) := fun a b q1 q2 => by
    rw [show zU a 17 8 (a 17 8 + 1) 17 10 = a 17 10 from zU_off (by omega), q1, q2, nI_1]
  exact g1 _ mm (by simp only [zU, va_up, Nat.reduceEqDiff, if_false]; exact f1) (by simp only [zU, va_up, Nat.reduceEqDiff, if_false]; exact e17 10)
theorem s_X0_doStroke {d : Nat} {K : List Value → zS → Prop} {mm : zM} {n z t : Nat} {m : Int32} (hn : 4 ≤ n ∧ n ≤ 16) (hz : z < n) (ht : t < 3) (hzn : mm 17 7 = nI n) {k : Nat} (hk : k < 60) (hks : mm 17 8 = nI k) (hK : K [] (zG (zDo mm n z t m k))) : wm (d + 2) mX0_doStroke [.ref 17, .int (nI t), .int (nI z), .int m] (zG mm) K := by
  refine wm_of2 (L0 := [some (.ref 17), some (.int (nI t)), some (.int (nI z)), some (.int m), none, none]) zCm_X0_doStroke (Or.inl rfl) (Nat.le_of_ble_eq_true rfl) rfl ?_
  refine wx_aload_n (i := 0) dX0_doStroke_0 rfl rfl ?_
  refine wx_getIG (k := 17) dX0_doStroke_1 zF_X0_39 zKo_17 rfl (Nat.le_of_ble_eq_true rfl) ?_
  refine wx_bipush (v := 60) dX0_doStroke_4 (by decide) ?_
  refine wx_icmp_lt (tgt := 10) dX0_doStroke_6 (by decide) (fun h6 => ?_) (fun h6 => ?_)
  · skip
    refine wx_bipush (v := (-2)) dX0_doStroke_10 (by decide) ?_
    refine wx_istore dX0_doStroke_12 (Nat.le_of_ble_eq_true rfl) rfl ?_
    have h := lp_do (d := d) hn hz ht hzn hk hks (lp_do2 hn hz ht hzn hk hks hK) 5 0 (by omega)
    rw [zSt_0 _ _ _ _ _ _ _ (by omega)] at h
    exact h
  · exact absurd h6 (by show ¬ ¬ mm 17 8 < 60; rw [hks]; exact fun q => q (nI_lt hk (by decide))) --end
/-- heights when the first e places of a stroke are put back -/
def zHu (n z : Nat) (tk h : Nat → Int32) (e : Nat) : Nat → Int32 := fun i => if i < n ∧ z ≤ i + 2 ∧ i + 2 < z + e then h i + tk (i + 2 - z) else h i
def zUn (mm : zM) (ch n z : Nat) (tk : Nat → Int32) (e : Nat) : zM := va_up mm ch (zHu n z tk (mm ch) e)
theorem zUn_0 (mm : zM) (ch n z : Nat) (tk : Nat → Int32) : zUn mm ch n z tk 0 = mm := by
  funext a
  by_cases h : a = ch
  · subst h
    simp only [zUn, va_up, if_true]
    funext i
    unfold zHu
    rw [if_neg (by omega)]
  · simp [zUn, va_up, h]
theorem zUn_off {mm : zM} {ch n z e a : Nat} {tk : Nat → Int32} (h : a ≠ ch) : zUn mm ch n z tk e a = mm a := by simp [zUn, va_up, h]
theorem zUn_T {mm : zM} {ch n z e : Nat} {tk : Nat → Int32} (hth : zTh n z e) : zU (zUn mm ch n z tk e) ch (z + e - 2) (zUn mm ch n z tk e ch (z + e - 2) + tk e) = zUn mm ch n z tk (e + 1) := by
  have hth2 : 2 ≤ z + e ∧ z + e < n + 2 := hth
  funext a
  by_cases h : a = ch
  · subst h
    rw [zU_at]
    have e1 : ∀ q, zUn mm a n z tk q a = zHu n z tk (mm a) q := fun q => by simp [zUn, va_up]
    rw [e1, e1]
    funext i
    unfold upd zHu
    by_cases q : i = z + e - 2
    · rw [if_pos q, if_neg (by omega), if_pos (by omega), q]
      rw [show z + e - 2 + 2 - z = e by omega]
    · rw [if_neg q]
      by_cases g : i < n ∧ z ≤ i + 2 ∧ i + 2 < z + e
      · rw [if_pos g, if_pos (by omega)]
      · rw [if_neg g, if_neg (by omega)]
  · rw [zU_ne h, zUn_off h, zUn_off h]
theorem zUn_F {mm : zM} {ch n z e : Nat} {tk : Nat → Int32} (hth : ¬ zTh n z e) : zUn mm ch n z tk e = zUn mm ch n z tk (e + 1) := by
  unfold zTh at hth
  funext a
  by_cases h : a = ch
  · subst h
    simp only [zUn, va_up, if_true]
    funext i
    unfold zHu
    by_cases g : i < n ∧ z ≤ i + 2 ∧ i + 2 < z + e
    · rw [if_pos g, if_pos (by omega)]
    · rw [if_neg g, if_neg (by omega)]
  · rw [zUn_off h, zUn_off h]
/-- the cells behind an undoing of the k-th stroke -/
def zUd (mm : zM) (n z k : Nat) : zM := zU (zUn (zU mm 17 8 (nI k)) 18 n z (mm (27 + 1 + k)) 5) 17 10 (mm 17 10 + 1)
theorem lp_undo {d : Nat} {K : List Value → zS → Prop} {mm : zM} {n z k : Nat} (hn : 4 ≤ n ∧ n ≤ 16) (hz : z < n) (hzn : mm 17 7 = nI n) (hk : k < 60) (hks : mm 17 8 = nI (k + 1)) (hkz : mm 25 k = nI z) (hK : K [] (zG (zUd mm n z k))) : ∀ c i : Nat, i + c = 5 → wx (d + 2) mX0_undoLatest 32 [some (.ref 17), some (.int (nI z)), some (.int (zi ((i : Int) - 2)))] [] (zG (zUn (zU mm 17 8 (nI k)) 18 n z (mm (27 + 1 + k)) i)) K := by
  intro c
  induction c with
  | zero =>
    intro i hi
    have hin : i = 5 := by omega
    subst hin
    refine wx_iload_n (i := 2) dX0_undoLatest_32 rfl rfl ?_
    refine wx_iconst (v := 2) dX0_undoLatest_33 (by decide) ?_
    refine wx_icmp_gt (tgt := 77) dX0_undoLatest_34 (by decide) (fun h34 => ?_) (fun h34 => ?_)
    · skip
      refine wx_aload_n (i := 0) dX0_undoLatest_77 rfl rfl ?_
      refine wx_dup dX0_undoLatest_78 rfl ?_
      refine wx_getIG (k := 17) dX0_undoLatest_79 zF_X0_45 zKo_17 rfl (Nat.le_of_ble_eq_true rfl) ?_
      refine wx_iconst (v := 1) dX0_undoLatest_82 (by decide) ?_
      refine wx_iadd dX0_undoLatest_83 ?_
      refine wx_putIG (k := 17) dX0_undoLatest_84 zF_X0_45 zKo_17 rfl (Nat.le_of_ble_eq_true rfl) rfl rfl ?_
      refine wx_vret dX0_undoLatest_87 rfl (Or.inl rfl) ?_
      refine zkm hK ?_
      unfold zUd
      congr 1
    · exact absurd (by rw [zl_2]; exact (zi_lt (by omega) (by omega)).mpr (by omega)) h34 --end
  | succ c ih =>
    intro i hi
    have he : i < 5 := by omega
    have e17 : zUn (zU mm 17 8 (nI k)) 18 n z (mm (27 + 1 + k)) i 17 = zU mm 17 8 (nI k) 17 := zUn_off (by omega)
    have hzn2 : zUn (zU mm 17 8 (nI k)) 18 n z (mm (27 + 1 + k)) i 17 7 = nI n := by rw [e17]; exact (zU_off (by omega)).trans hzn
    have hks2 : zUn (zU mm 17 8 (nI k)) 18 n z (mm (27 + 1 + k)) i 17 8 = nI k := by rw [e17]; exact zU_same _ _ _ _
    have etk : zUn (zU mm 17 8 (nI k)) 18 n z (mm (27 + 1 + k)) i (27 + 1 + k) = mm (27 + 1 + k) := (zUn_off (by omega)).trans (zU_ne (by omega))
    refine wx_iload_n (i := 2) dX0_undoLatest_32 rfl rfl ?_
    refine wx_iconst (v := 2) dX0_undoLatest_33 (by decide) ?_
    refine wx_icmp_gt (tgt := 77) dX0_undoLatest_34 (by decide) (fun h34 => ?_) (fun h34 => ?_)
    · exact absurd h34 (by rw [zl_2, zi_lt (by omega) (by omega)]; omega) --end
    · skip
      refine wx_aload_n (i := 0) dX0_undoLatest_37 rfl rfl ?_
      refine wx_iload_n (i := 1) dX0_undoLatest_38 rfl rfl ?_
      refine wx_iload_n (i := 2) dX0_undoLatest_39 rfl rfl ?_
      refine wx_iadd dX0_undoLatest_40 ?_
      refine wx_V1 dX0_undoLatest_41 zPV_X0_isThere zLk_X0_67 rfl (Nat.le_of_ble_eq_true rfl) (Nat.le_of_ble_eq_true rfl) (Or.inr rfl) ?_
      refine s_X0_isThere _ ?_
      refine wx_r1 ?_
      refine wx_eqb (tgt := 71) dX0_undoLatest_44 (by decide) (fun h44 => ?_) (fun h44 => ?_)
      · rw [zTh_i hn.2 hz he _ hzn2] at h44
        refine wx_inc (c := 1) dX0_undoLatest_71 rfl (by decide) (Nat.le_of_ble_eq_true rfl) rfl ?_
        refine wx_goto (tgt := 32) dX0_undoLatest_74 (by decide) ?_
        rw [zd_succ]
        first
          | (rw [etk, zUn_T (by assumption)]
             exact ih (i + 1) (by omega))
          | (rw [zUn_F (by assumption)]
             exact ih (i + 1) (by omega))
      · rw [zTh_i hn.2 hz he _ hzn2] at h44
        have hz44 : 2 ≤ z + i ∧ z + i < n + 2 := h44
        refine wx_aload_n (i := 0) dX0_undoLatest_47 rfl rfl ?_
        refine wx_getRG (k := 17) (t := 18) dX0_undoLatest_48 zF_X0_9 zKo_17 rfl (Nat.le_of_ble_eq_true rfl) zRf_17_0 ?_
        refine wx_iload_n (i := 1) dX0_undoLatest_51 rfl rfl ?_
        refine wx_iload_n (i := 2) dX0_undoLatest_52 rfl rfl ?_
        refine wx_iadd dX0_undoLatest_53 ?_
        refine wx_dup2 dX0_undoLatest_54 rfl rfl ?_
        refine wx_ialdG (k := 18) (j := z + i - 2) dX0_undoLatest_55 zK_18 (Nat.le_of_ble_eq_true rfl) ?_ ?_ ?_
        · (simp only [zi_nI, zi_add] <;> first | done | exact congrArg zi (by omega))
        · exact ⟨by omega, by decide⟩
        refine wx_aload_n (i := 0) dX0_undoLatest_56 rfl rfl ?_
        refine wx_getRG (k := 17) (t := 27) dX0_undoLatest_57 zF_X0_32 zKo_17 rfl (Nat.le_of_ble_eq_true rfl) zRf_17_6 ?_
        refine wx_aload_n (i := 0) dX0_undoLatest_60 rfl rfl ?_
        refine wx_getIG (k := 17) dX0_undoLatest_61 zF_X0_39 zKo_17 rfl (Nat.le_of_ble_eq_true rfl) ?_
        refine wx_aaldG (k := 27) (j := k) dX0_undoLatest_64 zK_27 (Nat.le_of_ble_eq_true rfl) ?_ ?_ ?_
        · exact hks2
        · exact ⟨hk, by decide⟩
        refine wx_iload_n (i := 2) dX0_undoLatest_65 rfl rfl ?_
        refine wx_iconst (v := 2) dX0_undoLatest_66 (by decide) ?_
        refine wx_iadd dX0_undoLatest_67 ?_
        refine wx_ialdG (j := i) dX0_undoLatest_68 (zKin_27 _ (by omega)) (zKlt_27 _ (by omega)) ?_ ?_ ?_
        · (simp only [zl_2, zi_nI, zi_add, zi_sub] <;> first | done | exact congrArg zi (by omega))
        · exact ⟨by omega, by decide⟩
        refine wx_iadd dX0_undoLatest_69 ?_
        refine wx_iastG (k := 18) (j := z + i - 2) dX0_undoLatest_70 zK_18 (Nat.le_of_ble_eq_true rfl) ?_ ?_ ?_
        · (simp only [zi_nI, zi_add] <;> first | done | exact congrArg zi (by omega))
        · exact ⟨by omega, by decide⟩
        refine wx_inc (c := 1) dX0_undoLatest_71 rfl (by decide) (Nat.le_of_ble_eq_true rfl) rfl ?_
        refine wx_goto (tgt := 32) dX0_undoLatest_74 (by decide) ?_
        rw [zd_succ]
        first
          | (rw [etk, zUn_T (by assumption)]
             exact ih (i + 1) (by omega))
          | (rw [zUn_F (by assumption)]
             exact ih (i + 1) (by omega))
theorem s_X0_undoLatest {d : Nat} {K : List Value → zS → Prop} {mm : zM} {n z k : Nat} (hn : 4 ≤ n ∧ n ≤ 16) (hz : z < n) (hzn : mm 17 7 = nI n) (hk : k < 60) (hks : mm 17 8 = nI (k + 1)) (hkz : mm 25 k = nI z) (hK : K [] (zG (zUd mm n z k))) : wm (d + 2) mX0_undoLatest [.ref 17] (zG mm) K := by
  refine wm_of2 (L0 := [some (.ref 17), none, none]) zCm_X0_undoLatest (Or.inl rfl) (Nat.le_of_ble_eq_true rfl) rfl ?_
  have e8 : mm 17 8 - 1 = nI k := by rw [hks, nI_pred]
  have e25 : zU mm 17 8 (nI k) 25 k = nI z := (zU_off (by omega)).trans hkz
  refine wx_aload_n (i := 0) dX0_undoLatest_0 rfl rfl ?_
  refine wx_getIG (k := 17) dX0_undoLatest_1 zF_X0_39 zKo_17 rfl (Nat.le_of_ble_eq_true rfl) ?_
  refine wx_iconst (v := 1) dX0_undoLatest_4 (by decide) ?_
  refine wx_icmp_ge (tgt := 9) dX0_undoLatest_5 (by decide) (fun h5 => ?_) (fun h5 => ?_)
  · skip
    refine wx_aload_n (i := 0) dX0_undoLatest_9 rfl rfl ?_
    refine wx_dup dX0_undoLatest_10 rfl ?_
    refine wx_getIG (k := 17) dX0_undoLatest_11 zF_X0_39 zKo_17 rfl (Nat.le_of_ble_eq_true rfl) ?_
    refine wx_iconst (v := 1) dX0_undoLatest_14 (by decide) ?_
    refine wx_isub dX0_undoLatest_15 ?_
    refine wx_putIG (k := 17) dX0_undoLatest_16 zF_X0_39 zKo_17 rfl (Nat.le_of_ble_eq_true rfl) rfl rfl ?_
    refine wx_aload_n (i := 0) dX0_undoLatest_19 rfl rfl ?_
    refine wx_getRG (k := 17) (t := 25) dX0_undoLatest_20 zF_X0_26 zKo_17 rfl (Nat.le_of_ble_eq_true rfl) zRf_17_4 ?_
    refine wx_aload_n (i := 0) dX0_undoLatest_23 rfl rfl ?_
    refine wx_getIG (k := 17) dX0_undoLatest_24 zF_X0_39 zKo_17 rfl (Nat.le_of_ble_eq_true rfl) ?_
    refine wx_ialdG (k := 25) (j := k) dX0_undoLatest_27 zK_25 (Nat.le_of_ble_eq_true rfl) ?_ ?_ ?_
    · show zU mm 17 8 (mm 17 8 - 1) 17 8 = nI k
      rw [zU_same]; exact e8
    · exact ⟨hk, by decide⟩
    refine wx_istore_n (i := 1) dX0_undoLatest_28 rfl (Nat.le_of_ble_eq_true rfl) rfl ?_
    refine wx_bipush (v := (-2)) dX0_undoLatest_29 (by decide) ?_
    refine wx_istore_n (i := 2) dX0_undoLatest_31 rfl (Nat.le_of_ble_eq_true rfl) rfl ?_
    rw [e8, e25]
    have h := lp_undo (d := d) hn hz hzn hk hks hkz hK 5 0 (by omega)
    rw [zUn_0] at h
    exact h
  · exact absurd (by show (1 : Int32) ≤ mm 17 8; rw [hks]; exact nI_le (a := 1) (by omega) (by omega)) h5 --end
/-- a zone's height when the first i of the strokes have been done on h -/
def zRe (mm : zM) (z : Nat) (h : Int32) : Nat → Int32
  | 0 => h
  | i + 1 => zRe mm z h i - mm 26 i * zPu mm (mm 24 i).toNatClampNeg ((z : Int) - (mm 25 i).toInt)
theorem lp_replay {d : Nat} {K : List Value → zS → Prop} {mm : zM} {z k q : Nat} (hz : z < 16) (hk : k ≤ q) (hq : q ≤ 60) (hks : mm 17 8 = nI q) (ht : ∀ j, j < q → ∃ t, t < 3 ∧ mm 24 j = nI t) (hzz : ∀ j, j < q → ∃ w, w < 16 ∧ mm 25 j = nI w) (hK : K [.int (zRe mm z (mm 19 z) k)] (zG mm)) : ∀ c i : Nat, i + c = k → wx (d + 2) mX0_replayed 10 [some (.ref 17), some (.int (nI z)), some (.int (nI k)), some (.int (zRe mm z (mm 19 z) i)), some (.int (nI i)), none] [] (zG mm) K := by
  intro c
  induction c with
  | zero =>
    intro i hi
    have hin : i = k := by omega
    subst hin
    refine wx_iload dX0_replayed_10 rfl ?_
    refine wx_iload_n (i := 2) dX0_replayed_12 rfl rfl ?_
    refine wx_icmp_ge (tgt := 66) dX0_replayed_13 (by decide) (fun h13 => ?_) (fun h13 => ?_)
    · skip
      refine wx_iload_n (i := 3) dX0_replayed_66 rfl rfl ?_
      refine wx_iret dX0_replayed_67 rfl rfl (Or.inl rfl) ?_
      exact hK
    · exact absurd (nI_le (Nat.le_refl _) (by omega)) h13 --end
  | succ c ih =>
    intro i hi
    obtain ⟨t, htt, et⟩ := ht i (by omega)
    obtain ⟨w, hww, ew⟩ := hzz i (by omega)
    refine wx_iload dX0_replayed_10 rfl ?_
    refine wx_iload_n (i := 2) dX0_replayed_12 rfl rfl ?_
    refine wx_icmp_ge (tgt := 66) dX0_replayed_13 (by decide) (fun h13 => ?_) (fun h13 => ?_)
    · exact absurd h13 (nI_ge (by omega) (by omega)) --end
    · skip
      refine wx_iload dX0_replayed_16 rfl ?_
      refine wx_aload_n (i := 0) dX0_replayed_18 rfl rfl ?_
      refine wx_getIG (k := 17) dX0_replayed_19 zF_X0_39 zKo_17 rfl (Nat.le_of_ble_eq_true rfl) ?_
      refine wx_icmp_ge (tgt := 66) dX0_replayed_22 (by decide) (fun h22 => ?_) (fun h22 => ?_)
      · exact absurd h22 (by show ¬ mm 17 8 ≤ nI i; rw [hks]; exact nI_ge (by omega) (by omega)) --end
      · skip
        refine wx_iload_n (i := 1) dX0_replayed_25 rfl rfl ?_
        refine wx_aload_n (i := 0) dX0_replayed_26 rfl rfl ?_
        refine wx_getRG (k := 17) (t := 25) dX0_replayed_27 zF_X0_26 zKo_17 rfl (Nat.le_of_ble_eq_true rfl) zRf_17_4 ?_
        refine wx_iload dX0_replayed_30 rfl ?_
        refine wx_ialdG (k := 25) dX0_replayed_32 zK_25 (Nat.le_of_ble_eq_true rfl) rfl ?_ ?_
        · exact ⟨by omega, by decide⟩
        refine wx_isub dX0_replayed_33 ?_
        refine wx_istore dX0_replayed_34 (Nat.le_of_ble_eq_true rfl) rfl ?_
        refine wx_iload_n (i := 3) dX0_replayed_36 rfl rfl ?_
        refine wx_aload_n (i := 0) dX0_replayed_37 rfl rfl ?_
        refine wx_getRG (k := 17) (t := 26) dX0_replayed_38 zF_X0_29 zKo_17 rfl (Nat.le_of_ble_eq_true rfl) zRf_17_5 ?_
        refine wx_iload dX0_replayed_41 rfl ?_
        refine wx_ialdG (k := 26) dX0_replayed_43 zK_26 (Nat.le_of_ble_eq_true rfl) rfl ?_ ?_
        · exact ⟨by omega, by decide⟩
        refine wx_aload_n (i := 0) dX0_replayed_44 rfl rfl ?_
        refine wx_aload_n (i := 0) dX0_replayed_45 rfl rfl ?_
        refine wx_getRG (k := 17) (t := 24) dX0_replayed_46 zF_X0_23 zKo_17 rfl (Nat.le_of_ble_eq_true rfl) zRf_17_3 ?_
        refine wx_iload dX0_replayed_49 rfl ?_
        refine wx_ialdG (k := 24) dX0_replayed_51 zK_24 (Nat.le_of_ble_eq_true rfl) rfl ?_ ?_
        · exact ⟨by omega, by decide⟩
        refine wx_iload dX0_replayed_52 rfl ?_
        refine wx_V2 dX0_replayed_54 zPV_X0_pullOf zLk_X0_71 rfl (Nat.le_of_ble_eq_true rfl) (Nat.le_of_ble_eq_true rfl) (Or.inr rfl) ?_
        rw [et, ew, zi_nI z, zi_nI w, zi_sub]
        refine s_X0_pullOf htt (by omega) ?_
        refine wx_r1 ?_
        refine wx_imul dX0_replayed_57 ?_
        refine wx_isub dX0_replayed_58 ?_
        refine wx_istore_n (i := 3) dX0_replayed_59 rfl (Nat.le_of_ble_eq_true rfl) rfl ?_
        refine wx_inc (c := 1) dX0_replayed_60 rfl (by decide) (Nat.le_of_ble_eq_true rfl) rfl ?_
        refine wx_goto (tgt := 10) dX0_replayed_63 (by decide) ?_
        refine wx_weak 5 ?_
        rw [nI_1]
        have h := ih (i + 1) (by omega)
        rw [show zRe mm z (mm 19 z) (i + 1) = zRe mm z (mm 19 z) i - mm 26 i * zPu mm t ((z : Int) - (w : Int)) from by
          show _ - _ * zPu mm (mm 24 i).toNatClampNeg ((z : Int) - (mm 25 i).toInt) = _
          rw [et, ew, nI_clamp (by omega), nI_toInt (by omega)]] at h
        exact h
theorem s_X0_replayed {d : Nat} {K : List Value → zS → Prop} {mm : zM} {z k q : Nat} (hz : z < 16) (hk : k ≤ q) (hq : q ≤ 60) (hks : mm 17 8 = nI q) (ht : ∀ j, j < q → ∃ t, t < 3 ∧ mm 24 j = nI t) (hzz : ∀ j, j < q → ∃ w, w < 16 ∧ mm 25 j = nI w) (hK : K [.int (zRe mm z (mm 19 z) k)] (zG mm)) : wm (d + 2) mX0_replayed [.ref 17, .int (nI z), .int (nI k)] (zG mm) K := by
  refine wm_of2 (L0 := [some (.ref 17), some (.int (nI z)), some (.int (nI k)), none, none, none]) zCm_X0_replayed (Or.inl rfl) (Nat.le_of_ble_eq_true rfl) rfl ?_
  refine wx_aload_n (i := 0) dX0_replayed_0 rfl rfl ?_
  refine wx_getRG (k := 17) (t := 19) dX0_replayed_1 zF_X0_15 zKo_17 rfl (Nat.le_of_ble_eq_true rfl) zRf_17_1 ?_
  refine wx_iload_n (i := 1) dX0_replayed_4 rfl rfl ?_
  refine wx_ialdG (k := 19) dX0_replayed_5 zK_19 (Nat.le_of_ble_eq_true rfl) rfl ?_ ?_
  · exact ⟨hz, by decide⟩
  refine wx_istore_n (i := 3) dX0_replayed_6 rfl (Nat.le_of_ble_eq_true rfl) rfl ?_
  refine wx_iconst (v := 0) dX0_replayed_7 (by decide) ?_
  refine wx_istore dX0_replayed_8 (Nat.le_of_ble_eq_true rfl) rfl ?_
  exact lp_replay hz hk hq hks ht hzz hK k 0 (by omega)
theorem s_X0_begin {d : Nat} {K : List Value → zS → Prop} {mm : zM} (v : Int32) (hK : K [] (zG (zU (zU (va_up (zFl (zU mm 17 7 v) 18 16 0) 19 (va_cpy (zFl (zU mm 17 7 v) 18 16 0 18) (mm 19) 0 0 16)) 17 8 0) 17 10 (mm 17 10 + 1)))) : wm (d + 2) mX0_begin [.ref 17, .int v] (zG mm) K := by
  refine wm_of2 (L0 := [some (.ref 17), some (.int v)]) zCm_X0_begin (Or.inl rfl) (Nat.le_of_ble_eq_true rfl) rfl ?_
  refine wx_aload_n (i := 0) dX0_begin_0 rfl rfl ?_
  refine wx_iload_n (i := 1) dX0_begin_1 rfl rfl ?_
  refine wx_putIG (k := 17) dX0_begin_2 zF_X0_35 zKo_17 rfl (Nat.le_of_ble_eq_true rfl) rfl rfl ?_
  refine wx_aload_n (i := 0) dX0_begin_5 rfl rfl ?_
  refine wx_getRG (k := 17) (t := 18) dX0_begin_6 zF_X0_9 zKo_17 rfl (Nat.le_of_ble_eq_true rfl) zRf_17_0 ?_
  refine wx_iconst (v := 0) dX0_begin_9 (by decide) ?_
  refine wx_S2 dX0_begin_10 zPS_J7_fill_53178 zLk_X0_48 (Nat.le_of_ble_eq_true rfl) (Or.inr rfl) ?_
  refine s_J7_fillG zK_18 (by decide) (by decide) ?_
  refine wx_r0 ?_
  refine wx_aload_n (i := 0) dX0_begin_13 rfl rfl ?_
  refine wx_V0 dX0_begin_14 zPV_X0_keepAsTold zLk_X0_54 rfl (Nat.le_of_ble_eq_true rfl) (Nat.le_of_ble_eq_true rfl) (Or.inr rfl) ?_
  refine s_X0_keepAsTold ?_
  refine wx_r0 ?_
  refine wx_vret dX0_begin_17 rfl (Or.inl rfl) ?_
  exact hK
end
